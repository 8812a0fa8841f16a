section
-- ===== PART A: goes FIRST, ahead of the names: the tables' words, and 'selects' of the private methods out of them =====
/-- a private method of a class that the tables say can be made, by its rows of tables_1 -/
def lw_okq (q : MethodName × Nat) : Prop := (q.1.cls ≠ "java/lang/invoke/MethodHandle" ∧ q.1.cls ≠ "java/lang/invoke/VarHandle") ∧ Cond.instantiable q.1.cls q.2 ∈ tables_1 ∧ Cond.privateMethod q.1 ∈ tables_1 ∧ Cond.instanceMethod q.1 ∈ tables_1
theorem lw_p0 : lw_okq (⟨"HeedClock", "found", "(I)I"⟩, 9) := ⟨⟨by decide +kernel, by decide +kernel⟩, List.mem_of_getElem? (i := 17) (by decide +kernel), List.mem_of_getElem? (i := 253) (by decide +kernel), List.mem_of_getElem? (i := 254) (by decide +kernel)⟩
theorem lw_p1 : lw_okq (⟨"HeedClock", "foundNothing", "(I)I"⟩, 9) := ⟨⟨by decide +kernel, by decide +kernel⟩, List.mem_of_getElem? (i := 17) (by decide +kernel), List.mem_of_getElem? (i := 268) (by decide +kernel), List.mem_of_getElem? (i := 269) (by decide +kernel)⟩
theorem lw_p2 : lw_okq (⟨"HeedClock$Rows", "hasPlaces", "(III)Z"⟩, 3) := ⟨⟨by decide +kernel, by decide +kernel⟩, List.mem_of_getElem? (i := 25) (by decide +kernel), List.mem_of_getElem? (i := 284) (by decide +kernel), List.mem_of_getElem? (i := 285) (by decide +kernel)⟩
theorem lw_p3 : lw_okq (⟨"HeedClock$Tape", "readHouse", "()V"⟩, 9) := ⟨⟨by decide +kernel, by decide +kernel⟩, List.mem_of_getElem? (i := 45) (by decide +kernel), List.mem_of_getElem? (i := 339) (by decide +kernel), List.mem_of_getElem? (i := 340) (by decide +kernel)⟩
theorem lw_p4 : lw_okq (⟨"HeedClock$Tape", "byteHere", "()I"⟩, 9) := ⟨⟨by decide +kernel, by decide +kernel⟩, List.mem_of_getElem? (i := 45) (by decide +kernel), List.mem_of_getElem? (i := 343) (by decide +kernel), List.mem_of_getElem? (i := 344) (by decide +kernel)⟩
theorem lw_p5 : lw_okq (⟨"HeedClock$Tape", "readNumbers", "([I[I)V"⟩, 9) := ⟨⟨by decide +kernel, by decide +kernel⟩, List.mem_of_getElem? (i := 45) (by decide +kernel), List.mem_of_getElem? (i := 352) (by decide +kernel), List.mem_of_getElem? (i := 353) (by decide +kernel)⟩
theorem lw_p6 : lw_okq (⟨"HeedClock$Tape", "readNumber", "(II)V"⟩, 9) := ⟨⟨by decide +kernel, by decide +kernel⟩, List.mem_of_getElem? (i := 45) (by decide +kernel), List.mem_of_getElem? (i := 356) (by decide +kernel), List.mem_of_getElem? (i := 357) (by decide +kernel)⟩
theorem lw_p7 : lw_okq (⟨"HeedClock$Tape", "figuresHere", "()I"⟩, 9) := ⟨⟨by decide +kernel, by decide +kernel⟩, List.mem_of_getElem? (i := 45) (by decide +kernel), List.mem_of_getElem? (i := 360) (by decide +kernel), List.mem_of_getElem? (i := 361) (by decide +kernel)⟩
theorem lw_p8 : lw_okq (⟨"HeedClock$Tape", "readSign", "(C)V"⟩, 9) := ⟨⟨by decide +kernel, by decide +kernel⟩, List.mem_of_getElem? (i := 45) (by decide +kernel), List.mem_of_getElem? (i := 364) (by decide +kernel), List.mem_of_getElem? (i := 365) (by decide +kernel)⟩
theorem lw_p9 : lw_okq (⟨"HeedClock$Tape", "readEar", "(I)V"⟩, 9) := ⟨⟨by decide +kernel, by decide +kernel⟩, List.mem_of_getElem? (i := 45) (by decide +kernel), List.mem_of_getElem? (i := 371) (by decide +kernel), List.mem_of_getElem? (i := 372) (by decide +kernel)⟩
theorem lw_p10 : lw_okq (⟨"HeedClock$Tape", "readDoing", "()V"⟩, 9) := ⟨⟨by decide +kernel, by decide +kernel⟩, List.mem_of_getElem? (i := 45) (by decide +kernel), List.mem_of_getElem? (i := 379) (by decide +kernel), List.mem_of_getElem? (i := 380) (by decide +kernel)⟩
theorem lw_p11 : lw_okq (⟨"HeedClock$House", "settleEars", "(LHeedClock$Tape;)V"⟩, 17) := ⟨⟨by decide +kernel, by decide +kernel⟩, List.mem_of_getElem? (i := 84) (by decide +kernel), List.mem_of_getElem? (i := 397) (by decide +kernel), List.mem_of_getElem? (i := 398) (by decide +kernel)⟩
theorem lw_p12 : lw_okq (⟨"HeedClock$House", "settleDoings", "(LHeedClock$Tape;)V"⟩, 17) := ⟨⟨by decide +kernel, by decide +kernel⟩, List.mem_of_getElem? (i := 84) (by decide +kernel), List.mem_of_getElem? (i := 405) (by decide +kernel), List.mem_of_getElem? (i := 406) (by decide +kernel)⟩
theorem lw_p13 : lw_okq (⟨"HeedClock$House", "hasItsTime", "(II)Z"⟩, 17) := ⟨⟨by decide +kernel, by decide +kernel⟩, List.mem_of_getElem? (i := 84) (by decide +kernel), List.mem_of_getElem? (i := 450) (by decide +kernel), List.mem_of_getElem? (i := 451) (by decide +kernel)⟩
theorem lw_p14 : lw_okq (⟨"HeedClock$House", "giftOf", "(I)I"⟩, 17) := ⟨⟨by decide +kernel, by decide +kernel⟩, List.mem_of_getElem? (i := 84) (by decide +kernel), List.mem_of_getElem? (i := 454) (by decide +kernel), List.mem_of_getElem? (i := 455) (by decide +kernel)⟩
theorem lw_p15 : lw_okq (⟨"HeedClock$House", "growOlder", "(II)V"⟩, 17) := ⟨⟨by decide +kernel, by decide +kernel⟩, List.mem_of_getElem? (i := 84) (by decide +kernel), List.mem_of_getElem? (i := 458) (by decide +kernel), List.mem_of_getElem? (i := 459) (by decide +kernel)⟩
def lw_privs_1 : List (MethodName × Nat) := [(⟨"HeedClock", "found", "(I)I"⟩, 9), (⟨"HeedClock", "foundNothing", "(I)I"⟩, 9), (⟨"HeedClock$Rows", "hasPlaces", "(III)Z"⟩, 3), (⟨"HeedClock$Tape", "readHouse", "()V"⟩, 9), (⟨"HeedClock$Tape", "byteHere", "()I"⟩, 9), (⟨"HeedClock$Tape", "readNumbers", "([I[I)V"⟩, 9), (⟨"HeedClock$Tape", "readNumber", "(II)V"⟩, 9), (⟨"HeedClock$Tape", "figuresHere", "()I"⟩, 9), (⟨"HeedClock$Tape", "readSign", "(C)V"⟩, 9), (⟨"HeedClock$Tape", "readEar", "(I)V"⟩, 9), (⟨"HeedClock$Tape", "readDoing", "()V"⟩, 9), (⟨"HeedClock$House", "settleEars", "(LHeedClock$Tape;)V"⟩, 17), (⟨"HeedClock$House", "settleDoings", "(LHeedClock$Tape;)V"⟩, 17), (⟨"HeedClock$House", "hasItsTime", "(II)Z"⟩, 17), (⟨"HeedClock$House", "giftOf", "(I)I"⟩, 17), (⟨"HeedClock$House", "growOlder", "(II)V"⟩, 17)]
theorem lw_r1 : ∀ q ∈ lw_privs_1, lw_okq q := List.forall_mem_cons.mpr ⟨lw_p0, List.forall_mem_cons.mpr ⟨lw_p1, List.forall_mem_cons.mpr ⟨lw_p2, List.forall_mem_cons.mpr ⟨lw_p3, List.forall_mem_cons.mpr ⟨lw_p4, List.forall_mem_cons.mpr ⟨lw_p5, List.forall_mem_cons.mpr ⟨lw_p6, List.forall_mem_cons.mpr ⟨lw_p7, List.forall_mem_cons.mpr ⟨lw_p8, List.forall_mem_cons.mpr ⟨lw_p9, List.forall_mem_cons.mpr ⟨lw_p10, List.forall_mem_cons.mpr ⟨lw_p11, List.forall_mem_cons.mpr ⟨lw_p12, List.forall_mem_cons.mpr ⟨lw_p13, List.forall_mem_cons.mpr ⟨lw_p14, List.forall_mem_cons.mpr ⟨lw_p15, fun _ h => absurd h List.not_mem_nil⟩⟩⟩⟩⟩⟩⟩⟩⟩⟩⟩⟩⟩⟩⟩⟩
theorem lw_p16 : lw_okq (⟨"HeedClock$Acts", "forgetOldest", "()V"⟩, 4) := ⟨⟨by decide +kernel, by decide +kernel⟩, List.mem_of_getElem? (i := 167) (by decide +kernel), List.mem_of_getElem? (i := 466) (by decide +kernel), List.mem_of_getElem? (i := 467) (by decide +kernel)⟩
theorem lw_p17 : lw_okq (⟨"HeedClock$House", "areWidowersSilenced", "()Z"⟩, 17) := ⟨⟨by decide +kernel, by decide +kernel⟩, List.mem_of_getElem? (i := 84) (by decide +kernel), List.mem_of_getElem? (i := 527) (by decide +kernel), List.mem_of_getElem? (i := 528) (by decide +kernel)⟩
theorem lw_p18 : lw_okq (⟨"HeedClock$House", "widowers", "()I"⟩, 17) := ⟨⟨by decide +kernel, by decide +kernel⟩, List.mem_of_getElem? (i := 84) (by decide +kernel), List.mem_of_getElem? (i := 531) (by decide +kernel), List.mem_of_getElem? (i := 532) (by decide +kernel)⟩
theorem lw_p19 : lw_okq (⟨"HeedClock", "imageAt", "(I)LHeedClock$House;"⟩, 9) := ⟨⟨by decide +kernel, by decide +kernel⟩, List.mem_of_getElem? (i := 17) (by decide +kernel), List.mem_of_getElem? (i := 698) (by decide +kernel), List.mem_of_getElem? (i := 699) (by decide +kernel)⟩
theorem lw_p20 : lw_okq (⟨"HeedClock$Asks", "begin", "(II)I"⟩, 6) := ⟨⟨by decide +kernel, by decide +kernel⟩, List.mem_of_getElem? (i := 187) (by decide +kernel), List.mem_of_getElem? (i := 739) (by decide +kernel), List.mem_of_getElem? (i := 740) (by decide +kernel)⟩
theorem lw_p21 : lw_okq (⟨"HeedClock$Asks", "run", "(II)I"⟩, 6) := ⟨⟨by decide +kernel, by decide +kernel⟩, List.mem_of_getElem? (i := 187) (by decide +kernel), List.mem_of_getElem? (i := 752) (by decide +kernel), List.mem_of_getElem? (i := 753) (by decide +kernel)⟩
theorem lw_p22 : lw_okq (⟨"HeedClock$Asks", "leaveTrace", "(I)V"⟩, 6) := ⟨⟨by decide +kernel, by decide +kernel⟩, List.mem_of_getElem? (i := 187) (by decide +kernel), List.mem_of_getElem? (i := 756) (by decide +kernel), List.mem_of_getElem? (i := 757) (by decide +kernel)⟩
theorem lw_p23 : lw_okq (⟨"HeedClockModel", "found", "(I)I"⟩, 23) := ⟨⟨by decide +kernel, by decide +kernel⟩, List.mem_of_getElem? (i := 777) (by decide +kernel), List.mem_of_getElem? (i := 866) (by decide +kernel), List.mem_of_getElem? (i := 867) (by decide +kernel)⟩
theorem lw_p24 : lw_okq (⟨"HeedClockModel", "well", "(I)I"⟩, 23) := ⟨⟨by decide +kernel, by decide +kernel⟩, List.mem_of_getElem? (i := 777) (by decide +kernel), List.mem_of_getElem? (i := 871) (by decide +kernel), List.mem_of_getElem? (i := 872) (by decide +kernel)⟩
theorem lw_p25 : lw_okq (⟨"HeedClockModel", "isMissing", "(I)Z"⟩, 23) := ⟨⟨by decide +kernel, by decide +kernel⟩, List.mem_of_getElem? (i := 777) (by decide +kernel), List.mem_of_getElem? (i := 879) (by decide +kernel), List.mem_of_getElem? (i := 880) (by decide +kernel)⟩
theorem lw_p26 : lw_okq (⟨"HeedClockModel", "isPart", "(III)Z"⟩, 23) := ⟨⟨by decide +kernel, by decide +kernel⟩, List.mem_of_getElem? (i := 777) (by decide +kernel), List.mem_of_getElem? (i := 890) (by decide +kernel), List.mem_of_getElem? (i := 891) (by decide +kernel)⟩
theorem lw_p27 : lw_okq (⟨"HeedClockModel", "advances", "()V"⟩, 23) := ⟨⟨by decide +kernel, by decide +kernel⟩, List.mem_of_getElem? (i := 777) (by decide +kernel), List.mem_of_getElem? (i := 907) (by decide +kernel), List.mem_of_getElem? (i := 908) (by decide +kernel)⟩
theorem lw_p28 : lw_okq (⟨"HeedClockModel", "byteAt", "(I)I"⟩, 23) := ⟨⟨by decide +kernel, by decide +kernel⟩, List.mem_of_getElem? (i := 777) (by decide +kernel), List.mem_of_getElem? (i := 911) (by decide +kernel), List.mem_of_getElem? (i := 912) (by decide +kernel)⟩
theorem lw_p29 : lw_okq (⟨"HeedClockModel", "takes", "(ZI)I"⟩, 23) := ⟨⟨by decide +kernel, by decide +kernel⟩, List.mem_of_getElem? (i := 777) (by decide +kernel), List.mem_of_getElem? (i := 915) (by decide +kernel), List.mem_of_getElem? (i := 916) (by decide +kernel)⟩
theorem lw_p30 : lw_okq (⟨"HeedClockModel", "isWell", "()Z"⟩, 23) := ⟨⟨by decide +kernel, by decide +kernel⟩, List.mem_of_getElem? (i := 777) (by decide +kernel), List.mem_of_getElem? (i := 919) (by decide +kernel), List.mem_of_getElem? (i := 920) (by decide +kernel)⟩
theorem lw_p31 : lw_okq (⟨"HeedClockModel", "figure", "(II)I"⟩, 23) := ⟨⟨by decide +kernel, by decide +kernel⟩, List.mem_of_getElem? (i := 777) (by decide +kernel), List.mem_of_getElem? (i := 923) (by decide +kernel), List.mem_of_getElem? (i := 924) (by decide +kernel)⟩
def lw_privs_2 : List (MethodName × Nat) := [(⟨"HeedClock$Acts", "forgetOldest", "()V"⟩, 4), (⟨"HeedClock$House", "areWidowersSilenced", "()Z"⟩, 17), (⟨"HeedClock$House", "widowers", "()I"⟩, 17), (⟨"HeedClock", "imageAt", "(I)LHeedClock$House;"⟩, 9), (⟨"HeedClock$Asks", "begin", "(II)I"⟩, 6), (⟨"HeedClock$Asks", "run", "(II)I"⟩, 6), (⟨"HeedClock$Asks", "leaveTrace", "(I)V"⟩, 6), (⟨"HeedClockModel", "found", "(I)I"⟩, 23), (⟨"HeedClockModel", "well", "(I)I"⟩, 23), (⟨"HeedClockModel", "isMissing", "(I)Z"⟩, 23), (⟨"HeedClockModel", "isPart", "(III)Z"⟩, 23), (⟨"HeedClockModel", "advances", "()V"⟩, 23), (⟨"HeedClockModel", "byteAt", "(I)I"⟩, 23), (⟨"HeedClockModel", "takes", "(ZI)I"⟩, 23), (⟨"HeedClockModel", "isWell", "()Z"⟩, 23), (⟨"HeedClockModel", "figure", "(II)I"⟩, 23)]
theorem lw_r2 : ∀ q ∈ lw_privs_2, lw_okq q := List.forall_mem_cons.mpr ⟨lw_p16, List.forall_mem_cons.mpr ⟨lw_p17, List.forall_mem_cons.mpr ⟨lw_p18, List.forall_mem_cons.mpr ⟨lw_p19, List.forall_mem_cons.mpr ⟨lw_p20, List.forall_mem_cons.mpr ⟨lw_p21, List.forall_mem_cons.mpr ⟨lw_p22, List.forall_mem_cons.mpr ⟨lw_p23, List.forall_mem_cons.mpr ⟨lw_p24, List.forall_mem_cons.mpr ⟨lw_p25, List.forall_mem_cons.mpr ⟨lw_p26, List.forall_mem_cons.mpr ⟨lw_p27, List.forall_mem_cons.mpr ⟨lw_p28, List.forall_mem_cons.mpr ⟨lw_p29, List.forall_mem_cons.mpr ⟨lw_p30, List.forall_mem_cons.mpr ⟨lw_p31, fun _ h => absurd h List.not_mem_nil⟩⟩⟩⟩⟩⟩⟩⟩⟩⟩⟩⟩⟩⟩⟩⟩
theorem lw_p32 : lw_okq (⟨"HeedClockModel", "readsEar", "()V"⟩, 23) := ⟨⟨by decide +kernel, by decide +kernel⟩, List.mem_of_getElem? (i := 777) (by decide +kernel), List.mem_of_getElem? (i := 930) (by decide +kernel), List.mem_of_getElem? (i := 931) (by decide +kernel)⟩
theorem lw_p33 : lw_okq (⟨"HeedClockModel", "next", "(II)I"⟩, 23) := ⟨⟨by decide +kernel, by decide +kernel⟩, List.mem_of_getElem? (i := 777) (by decide +kernel), List.mem_of_getElem? (i := 934) (by decide +kernel), List.mem_of_getElem? (i := 935) (by decide +kernel)⟩
theorem lw_p34 : lw_okq (⟨"HeedClockModel", "readsDoing", "()V"⟩, 23) := ⟨⟨by decide +kernel, by decide +kernel⟩, List.mem_of_getElem? (i := 777) (by decide +kernel), List.mem_of_getElem? (i := 938) (by decide +kernel), List.mem_of_getElem? (i := 939) (by decide +kernel)⟩
theorem lw_p35 : lw_okq (⟨"HeedClockModel", "isHouse", "()Z"⟩, 23) := ⟨⟨by decide +kernel, by decide +kernel⟩, List.mem_of_getElem? (i := 777) (by decide +kernel), List.mem_of_getElem? (i := 954) (by decide +kernel), List.mem_of_getElem? (i := 955) (by decide +kernel)⟩
theorem lw_p36 : lw_okq (⟨"HeedClockModel", "notes", "()V"⟩, 23) := ⟨⟨by decide +kernel, by decide +kernel⟩, List.mem_of_getElem? (i := 777) (by decide +kernel), List.mem_of_getElem? (i := 959) (by decide +kernel), List.mem_of_getElem? (i := 960) (by decide +kernel)⟩
theorem lw_p37 : lw_okq (⟨"HeedClockModel", "isEar", "(I)Z"⟩, 23) := ⟨⟨by decide +kernel, by decide +kernel⟩, List.mem_of_getElem? (i := 777) (by decide +kernel), List.mem_of_getElem? (i := 991) (by decide +kernel), List.mem_of_getElem? (i := 992) (by decide +kernel)⟩
theorem lw_p38 : lw_okq (⟨"HeedClockModel", "hushed", "()I"⟩, 23) := ⟨⟨by decide +kernel, by decide +kernel⟩, List.mem_of_getElem? (i := 777) (by decide +kernel), List.mem_of_getElem? (i := 999) (by decide +kernel), List.mem_of_getElem? (i := 1000) (by decide +kernel)⟩
theorem lw_p39 : lw_okq (⟨"HeedClockModel", "givesNow", "(I)I"⟩, 23) := ⟨⟨by decide +kernel, by decide +kernel⟩, List.mem_of_getElem? (i := 777) (by decide +kernel), List.mem_of_getElem? (i := 1015) (by decide +kernel), List.mem_of_getElem? (i := 1016) (by decide +kernel)⟩
theorem lw_p40 : lw_okq (⟨"HeedClockModel", "partsIn", "(I)I"⟩, 23) := ⟨⟨by decide +kernel, by decide +kernel⟩, List.mem_of_getElem? (i := 777) (by decide +kernel), List.mem_of_getElem? (i := 1027) (by decide +kernel), List.mem_of_getElem? (i := 1028) (by decide +kernel)⟩
theorem lw_p41 : lw_okq (⟨"HeedClockModel", "lays", "()V"⟩, 23) := ⟨⟨by decide +kernel, by decide +kernel⟩, List.mem_of_getElem? (i := 777) (by decide +kernel), List.mem_of_getElem? (i := 1035) (by decide +kernel), List.mem_of_getElem? (i := 1036) (by decide +kernel)⟩
theorem lw_p42 : lw_okq (⟨"HeedClockModel", "isDoing", "(I)Z"⟩, 23) := ⟨⟨by decide +kernel, by decide +kernel⟩, List.mem_of_getElem? (i := 777) (by decide +kernel), List.mem_of_getElem? (i := 1043) (by decide +kernel), List.mem_of_getElem? (i := 1044) (by decide +kernel)⟩
theorem lw_p43 : lw_okq (⟨"HeedClockModel", "told", "(II)I"⟩, 23) := ⟨⟨by decide +kernel, by decide +kernel⟩, List.mem_of_getElem? (i := 777) (by decide +kernel), List.mem_of_getElem? (i := 1062) (by decide +kernel), List.mem_of_getElem? (i := 1063) (by decide +kernel)⟩
theorem lw_p44 : lw_okq (⟨"HeedClockModel", "goesSo", "(II)Z"⟩, 23) := ⟨⟨by decide +kernel, by decide +kernel⟩, List.mem_of_getElem? (i := 777) (by decide +kernel), List.mem_of_getElem? (i := 1074) (by decide +kernel), List.mem_of_getElem? (i := 1075) (by decide +kernel)⟩
theorem lw_p45 : lw_okq (⟨"HeedClockModel", "kindIn", "(I)I"⟩, 23) := ⟨⟨by decide +kernel, by decide +kernel⟩, List.mem_of_getElem? (i := 777) (by decide +kernel), List.mem_of_getElem? (i := 1102) (by decide +kernel), List.mem_of_getElem? (i := 1103) (by decide +kernel)⟩
theorem lw_p46 : lw_okq (⟨"HeedClockModel", "catSize", "(I)I"⟩, 23) := ⟨⟨by decide +kernel, by decide +kernel⟩, List.mem_of_getElem? (i := 777) (by decide +kernel), List.mem_of_getElem? (i := 1114) (by decide +kernel), List.mem_of_getElem? (i := 1115) (by decide +kernel)⟩
theorem lw_p47 : lw_okq (⟨"HeedClockModel", "begins", "(I)V"⟩, 23) := ⟨⟨by decide +kernel, by decide +kernel⟩, List.mem_of_getElem? (i := 777) (by decide +kernel), List.mem_of_getElem? (i := 1118) (by decide +kernel), List.mem_of_getElem? (i := 1119) (by decide +kernel)⟩
def lw_privs_3 : List (MethodName × Nat) := [(⟨"HeedClockModel", "readsEar", "()V"⟩, 23), (⟨"HeedClockModel", "next", "(II)I"⟩, 23), (⟨"HeedClockModel", "readsDoing", "()V"⟩, 23), (⟨"HeedClockModel", "isHouse", "()Z"⟩, 23), (⟨"HeedClockModel", "notes", "()V"⟩, 23), (⟨"HeedClockModel", "isEar", "(I)Z"⟩, 23), (⟨"HeedClockModel", "hushed", "()I"⟩, 23), (⟨"HeedClockModel", "givesNow", "(I)I"⟩, 23), (⟨"HeedClockModel", "partsIn", "(I)I"⟩, 23), (⟨"HeedClockModel", "lays", "()V"⟩, 23), (⟨"HeedClockModel", "isDoing", "(I)Z"⟩, 23), (⟨"HeedClockModel", "told", "(II)I"⟩, 23), (⟨"HeedClockModel", "goesSo", "(II)Z"⟩, 23), (⟨"HeedClockModel", "kindIn", "(I)I"⟩, 23), (⟨"HeedClockModel", "catSize", "(I)I"⟩, 23), (⟨"HeedClockModel", "begins", "(I)V"⟩, 23)]
theorem lw_r3 : ∀ q ∈ lw_privs_3, lw_okq q := List.forall_mem_cons.mpr ⟨lw_p32, List.forall_mem_cons.mpr ⟨lw_p33, List.forall_mem_cons.mpr ⟨lw_p34, List.forall_mem_cons.mpr ⟨lw_p35, List.forall_mem_cons.mpr ⟨lw_p36, List.forall_mem_cons.mpr ⟨lw_p37, List.forall_mem_cons.mpr ⟨lw_p38, List.forall_mem_cons.mpr ⟨lw_p39, List.forall_mem_cons.mpr ⟨lw_p40, List.forall_mem_cons.mpr ⟨lw_p41, List.forall_mem_cons.mpr ⟨lw_p42, List.forall_mem_cons.mpr ⟨lw_p43, List.forall_mem_cons.mpr ⟨lw_p44, List.forall_mem_cons.mpr ⟨lw_p45, List.forall_mem_cons.mpr ⟨lw_p46, List.forall_mem_cons.mpr ⟨lw_p47, fun _ h => absurd h List.not_mem_nil⟩⟩⟩⟩⟩⟩⟩⟩⟩⟩⟩⟩⟩⟩⟩⟩
theorem lw_p48 : lw_okq (⟨"HeedClockModel", "personSize", "(I)I"⟩, 23) := ⟨⟨by decide +kernel, by decide +kernel⟩, List.mem_of_getElem? (i := 777) (by decide +kernel), List.mem_of_getElem? (i := 1122) (by decide +kernel), List.mem_of_getElem? (i := 1123) (by decide +kernel)⟩
theorem lw_p49 : lw_okq (⟨"HeedClockModel", "personMark", "(I)I"⟩, 23) := ⟨⟨by decide +kernel, by decide +kernel⟩, List.mem_of_getElem? (i := 777) (by decide +kernel), List.mem_of_getElem? (i := 1126) (by decide +kernel), List.mem_of_getElem? (i := 1127) (by decide +kernel)⟩
theorem lw_p50 : lw_okq (⟨"HeedClockModel", "catMark", "(I)I"⟩, 23) := ⟨⟨by decide +kernel, by decide +kernel⟩, List.mem_of_getElem? (i := 777) (by decide +kernel), List.mem_of_getElem? (i := 1130) (by decide +kernel), List.mem_of_getElem? (i := 1131) (by decide +kernel)⟩
def lw_privs_4 : List (MethodName × Nat) := [(⟨"HeedClockModel", "personSize", "(I)I"⟩, 23), (⟨"HeedClockModel", "personMark", "(I)I"⟩, 23), (⟨"HeedClockModel", "catMark", "(I)I"⟩, 23)]
theorem lw_r4 : ∀ q ∈ lw_privs_4, lw_okq q := List.forall_mem_cons.mpr ⟨lw_p48, List.forall_mem_cons.mpr ⟨lw_p49, List.forall_mem_cons.mpr ⟨lw_p50, fun _ h => absurd h List.not_mem_nil⟩⟩⟩
def lw_privs : List (MethodName × Nat) := lw_privs_1 ++ (lw_privs_2 ++ (lw_privs_3 ++ (lw_privs_4)))
def lw_tbl : List Cond := k2_sels lw_privs ++ tables_1
theorem lw_privs_ok : ∀ q ∈ lw_privs, lw_okq q := by
  show ∀ q ∈ lw_privs_1 ++ (lw_privs_2 ++ (lw_privs_3 ++ (lw_privs_4))), lw_okq q
  exact List.forall_mem_append.mpr ⟨lw_r1, List.forall_mem_append.mpr ⟨lw_r2, List.forall_mem_append.mpr ⟨lw_r3, lw_r4⟩⟩⟩

def RX0 : String := "HeedClock$Acts"
def TX0 : u_T := fun k => match k with
  | 0 => ("HeedClock$Acts", "deeds", "[I", true)
  | 1 => ("HeedClock$Acts", "whose", "[I", true)
  | 2 => ("HeedClock$Acts", "befores", "[I", true)
  | _ => ("HeedClock$Acts", "kept", "I", false)
def tyX0 : Nat → FieldType := fun k => match k with
  | 0 => .array .int
  | 1 => .array .int
  | 2 => .array .int
  | _ => .int
abbrev wsX00 : List Cond := u_ws RX0 TX0 4
theorem nmX0 : ∀ a, a < 4 → ∀ b, b < 4 → a ≠ b → (TX0 a).2.1 ≠ (TX0 b).2.1 := by decide +kernel
theorem tyX0_ok : ∀ k, k < 4 → parseFieldDescriptor (TX0 k).2.2.1 = some (tyX0 k) := by decide +kernel
abbrev cX0_init : ByteArray := prog_2_method_1_code
def yX0_init : MethodName := ⟨RX0, "<init>", "()V"⟩
abbrev cX0_forgetAll : ByteArray := prog_2_method_2_code
def yX0_forgetAll : MethodName := ⟨RX0, "forgetAll", "()V"⟩
abbrev cX0_keep : ByteArray := prog_2_method_3_code
def yX0_keep : MethodName := ⟨RX0, "keep", "(III)V"⟩
abbrev cX0_forgetOldest : ByteArray := prog_2_method_4_code
def yX0_forgetOldest : MethodName := ⟨RX0, "forgetOldest", "()V"⟩
abbrev cX0_takeBackLatest : ByteArray := prog_2_method_5_code
def yX0_takeBackLatest : MethodName := ⟨RX0, "takeBackLatest", "(LHeedClock$House;)V"⟩
def RX1 : String := "HeedClock$Asks"
def TX1 : u_T := fun k => match k with
  | 0 => ("HeedClock$Asks", "bodies", "[I", true)
  | 1 => ("HeedClock$Asks", "begun", "I", false)
  | 2 => ("HeedClock$Asks", "number", "I", false)
  | 3 => ("HeedClock$Asks", "kindAsked", "I", false)
  | 4 => ("HeedClock$Asks", "heedAsked", "I", false)
  | _ => ("HeedClock$Asks", "livedAsked", "I", false)
def tyX1 : Nat → FieldType := fun k => match k with
  | 0 => .array .int
  | 1 => .int
  | 2 => .int
  | 3 => .int
  | 4 => .int
  | _ => .int
abbrev wsX10 : List Cond := u_ws RX1 TX1 6
theorem nmX1 : ∀ a, a < 6 → ∀ b, b < 6 → a ≠ b → (TX1 a).2.1 ≠ (TX1 b).2.1 := by decide +kernel
theorem tyX1_ok : ∀ k, k < 6 → parseFieldDescriptor (TX1 k).2.2.1 = some (tyX1 k) := by decide +kernel
abbrev cX1_init : ByteArray := prog_3_method_1_code
def yX1_init : MethodName := ⟨RX1, "<init>", "()V"⟩
abbrev cX1_answer : ByteArray := prog_3_method_2_code
def yX1_answer : MethodName := ⟨RX1, "answer", "(LHeedClock$House;II)I"⟩
abbrev cX1_begin : ByteArray := prog_3_method_3_code
def yX1_begin : MethodName := ⟨RX1, "begin", "(II)I"⟩
abbrev cX1_bodyFor : ByteArray := prog_3_method_4_code
def yX1_bodyFor : MethodName := ⟨RX1, "bodyFor", "(II)I"⟩
abbrev cX1_run : ByteArray := prog_3_method_5_code
def yX1_run : MethodName := ⟨RX1, "run", "(II)I"⟩
abbrev cX1_leaveTrace : ByteArray := prog_3_method_6_code
def yX1_leaveTrace : MethodName := ⟨RX1, "leaveTrace", "(I)V"⟩
def RX2 : String := "HeedClock$Foresight"
def TX2 : u_T := fun k => match k with
  | _ => ("", "", "", false)
def tyX2 : Nat → FieldType := fun k => match k with
  | _ => .int
abbrev wsX20 : List Cond := u_ws RX2 TX2 0
theorem nmX2 : ∀ a, a < 0 → ∀ b, b < 0 → a ≠ b → (TX2 a).2.1 ≠ (TX2 b).2.1 := by decide +kernel
theorem tyX2_ok : ∀ k, k < 0 → parseFieldDescriptor (TX2 k).2.2.1 = some (tyX2 k) := by decide +kernel
abbrev cX2_partsAfter : ByteArray := prog_4_method_2_code
def yX2_partsAfter : MethodName := ⟨RX2, "partsAfter", "(LHeedClock$House;II)I"⟩
abbrev cX2_shownAfter : ByteArray := prog_4_method_3_code
def yX2_shownAfter : MethodName := ⟨RX2, "shownAfter", "(LHeedClock$House;II)I"⟩
abbrev cX2_quartersTillShown : ByteArray := prog_4_method_4_code
def yX2_quartersTillShown : MethodName := ⟨RX2, "quartersTillShown", "(LHeedClock$House;I)I"⟩
abbrev cX2_partsNeeded : ByteArray := prog_4_method_5_code
def yX2_partsNeeded : MethodName := ⟨RX2, "partsNeeded", "(LHeedClock$House;I)I"⟩
abbrev cX2_doneOn : ByteArray := prog_4_method_6_code
def yX2_doneOn : MethodName := ⟨RX2, "doneOn", "(LHeedClock$House;I)I"⟩
abbrev cX2_lateDoings : ByteArray := prog_4_method_7_code
def yX2_lateDoings : MethodName := ⟨RX2, "lateDoings", "(LHeedClock$House;)I"⟩
abbrev cX2_latestBegin : ByteArray := prog_4_method_8_code
def yX2_latestBegin : MethodName := ⟨RX2, "latestBegin", "(LHeedClock$House;I)I"⟩
abbrev cX2_fewestToBeHushed : ByteArray := prog_4_method_9_code
def yX2_fewestToBeHushed : MethodName := ⟨RX2, "fewestToBeHushed", "(LHeedClock$House;II)I"⟩
abbrev cX2_fewestToBeCalled : ByteArray := prog_4_method_10_code
def yX2_fewestToBeCalled : MethodName := ⟨RX2, "fewestToBeCalled", "(LHeedClock$House;II)I"⟩
abbrev cX2_isFewer : ByteArray := prog_4_method_11_code
def yX2_isFewer : MethodName := ⟨RX2, "isFewer", "(II)Z"⟩
abbrev cX2_goesSo : ByteArray := prog_4_method_12_code
def yX2_goesSo : MethodName := ⟨RX2, "goesSo", "(LHeedClock$House;ILHeedClock$Rows;III)Z"⟩
abbrev cX2_setsThatGoSo : ByteArray := prog_4_method_13_code
def yX2_setsThatGoSo : MethodName := ⟨RX2, "setsThatGoSo", "(LHeedClock$House;LHeedClock$Rows;III)J"⟩
abbrev cX2_heedsThatGoSo : ByteArray := prog_4_method_14_code
def yX2_heedsThatGoSo : MethodName := ⟨RX2, "heedsThatGoSo", "(LHeedClock$House;ILHeedClock$Rows;III)I"⟩
abbrev cX2_livedAfter : ByteArray := prog_4_method_15_code
def yX2_livedAfter : MethodName := ⟨RX2, "livedAfter", "(LHeedClock$House;II)I"⟩
abbrev cX2_chancesToGo : ByteArray := prog_4_method_16_code
def yX2_chancesToGo : MethodName := ⟨RX2, "chancesToGo", "(LHeedClock$House;II)I"⟩
abbrev cX2_chancesInAll : ByteArray := prog_4_method_17_code
def yX2_chancesInAll : MethodName := ⟨RX2, "chancesInAll", "(LHeedClock$House;)I"⟩
abbrev cX2_power : ByteArray := prog_4_method_18_code
def yX2_power : MethodName := ⟨RX2, "power", "(II)I"⟩
def RX3 : String := "HeedClock$House"
def TX3 : u_T := fun k => match k with
  | 0 => ("HeedClock$House", "stands", "Z", false)
  | 1 => ("HeedClock$House", "wool", "I", false)
  | 2 => ("HeedClock$House", "quarter", "I", false)
  | 3 => ("HeedClock$House", "parts", "I", false)
  | 4 => ("HeedClock$House", "hushed", "I", false)
  | 5 => ("HeedClock$House", "ears", "I", false)
  | 6 => ("HeedClock$House", "doings", "I", false)
  | 7 => ("HeedClock$House", "kinds", "[I", true)
  | 8 => ("HeedClock$House", "heeds", "[I", true)
  | 9 => ("HeedClock$House", "rooms", "[I", true)
  | 10 => ("HeedClock$House", "froms", "[I", true)
  | 11 => ("HeedClock$House", "longs", "[I", true)
  | 12 => ("HeedClock$House", "lived", "[I", true)
  | 13 => ("HeedClock$House", "begins", "[I", true)
  | 14 => ("HeedClock$House", "needs", "[I", true)
  | 15 => ("HeedClock$House", "dues", "[I", true)
  | _ => ("HeedClock$House", "goneBy", "[I", true)
def tyX3 : Nat → FieldType := fun k => match k with
  | 0 => .boolean
  | 1 => .int
  | 2 => .int
  | 3 => .int
  | 4 => .int
  | 5 => .int
  | 6 => .int
  | 7 => .array .int
  | 8 => .array .int
  | 9 => .array .int
  | 10 => .array .int
  | 11 => .array .int
  | 12 => .array .int
  | 13 => .array .int
  | 14 => .array .int
  | 15 => .array .int
  | _ => .array .int
abbrev wsX30 : List Cond := u_ws RX3 TX3 17
theorem nmX3 : ∀ a, a < 17 → ∀ b, b < 17 → a ≠ b → (TX3 a).2.1 ≠ (TX3 b).2.1 := by decide +kernel
theorem tyX3_ok : ∀ k, k < 17 → parseFieldDescriptor (TX3 k).2.2.1 = some (tyX3 k) := by decide +kernel
abbrev cX3_init : ByteArray := prog_5_method_1_code
def yX3_init : MethodName := ⟨RX3, "<init>", "()V"⟩
abbrev cX3_hasEar : ByteArray := prog_5_method_2_code
def yX3_hasEar : MethodName := ⟨RX3, "hasEar", "(I)Z"⟩
abbrev cX3_hasDoing : ByteArray := prog_5_method_3_code
def yX3_hasDoing : MethodName := ⟨RX3, "hasDoing", "(I)Z"⟩
abbrev cX3_settle : ByteArray := prog_5_method_4_code
def yX3_settle : MethodName := ⟨RX3, "settle", "(LHeedClock$Tape;)V"⟩
abbrev cX3_settleEars : ByteArray := prog_5_method_5_code
def yX3_settleEars : MethodName := ⟨RX3, "settleEars", "(LHeedClock$Tape;)V"⟩
abbrev cX3_settleDoings : ByteArray := prog_5_method_6_code
def yX3_settleDoings : MethodName := ⟨RX3, "settleDoings", "(LHeedClock$Tape;)V"⟩
abbrev cX3_becomeLike : ByteArray := prog_5_method_7_code
def yX3_becomeLike : MethodName := ⟨RX3, "becomeLike", "(LHeedClock$House;)V"⟩
abbrev cX3_isHushed : ByteArray := prog_5_method_8_code
def yX3_isHushed : MethodName := ⟨RX3, "isHushed", "(I)Z"⟩
abbrev cX3_setHushed : ByteArray := prog_5_method_9_code
def yX3_setHushed : MethodName := ⟨RX3, "setHushed", "(IZ)V"⟩
abbrev cX3_isInClockRoom : ByteArray := prog_5_method_10_code
def yX3_isInClockRoom : MethodName := ⟨RX3, "isInClockRoom", "(I)Z"⟩
abbrev cX3_inClockRoom : ByteArray := prog_5_method_11_code
def yX3_inClockRoom : MethodName := ⟨RX3, "inClockRoom", "()I"⟩
abbrev cX3_attending : ByteArray := prog_5_method_12_code
def yX3_attending : MethodName := ⟨RX3, "attending", "()I"⟩
abbrev cX3_allSets : ByteArray := prog_5_method_13_code
def yX3_allSets : MethodName := ⟨RX3, "allSets", "()I"⟩
abbrev cX3_isIn : ByteArray := prog_5_method_14_code
def yX3_isIn : MethodName := ⟨RX3, "isIn", "(II)Z"⟩
abbrev cX3_hasItsTime : ByteArray := prog_5_method_15_code
def yX3_hasItsTime : MethodName := ⟨RX3, "hasItsTime", "(II)Z"⟩
abbrev cX3_listensNow : ByteArray := prog_5_method_16_code
def yX3_listensNow : MethodName := ⟨RX3, "listensNow", "(I)Z"⟩
abbrev cX3_listeningNow : ByteArray := prog_5_method_17_code
def yX3_listeningNow : MethodName := ⟨RX3, "listeningNow", "()I"⟩
abbrev cX3_giftOf : ByteArray := prog_5_method_18_code
def yX3_giftOf : MethodName := ⟨RX3, "giftOf", "(I)I"⟩
abbrev cX3_partsOf : ByteArray := prog_5_method_19_code
def yX3_partsOf : MethodName := ⟨RX3, "partsOf", "(II)I"⟩
abbrev cX3_widowers : ByteArray := prog_5_method_20_code
def yX3_widowers : MethodName := ⟨RX3, "widowers", "()I"⟩
abbrev cX3_areWidowersSilenced : ByteArray := prog_5_method_21_code
def yX3_areWidowersSilenced : MethodName := ⟨RX3, "areWidowersSilenced", "()Z"⟩
abbrev cX3_givesNow : ByteArray := prog_5_method_22_code
def yX3_givesNow : MethodName := ⟨RX3, "givesNow", "(I)I"⟩
abbrev cX3_passQuarter : ByteArray := prog_5_method_23_code
def yX3_passQuarter : MethodName := ⟨RX3, "passQuarter", "()V"⟩
abbrev cX3_takeQuarterBack : ByteArray := prog_5_method_24_code
def yX3_takeQuarterBack : MethodName := ⟨RX3, "takeQuarterBack", "()V"⟩
abbrev cX3_growOlder : ByteArray := prog_5_method_25_code
def yX3_growOlder : MethodName := ⟨RX3, "growOlder", "(II)V"⟩
abbrev cX3_isOver : ByteArray := prog_5_method_26_code
def yX3_isOver : MethodName := ⟨RX3, "isOver", "(I)Z"⟩
abbrev cX3_partsGoneIn : ByteArray := prog_5_method_27_code
def yX3_partsGoneIn : MethodName := ⟨RX3, "partsGoneIn", "(I)I"⟩
def RX4 : String := "HeedClock$Kinds"
def TX4 : u_T := fun k => match k with
  | _ => ("", "", "", false)
def tyX4 : Nat → FieldType := fun k => match k with
  | _ => .int
abbrev wsX40 : List Cond := u_ws RX4 TX4 0
theorem nmX4 : ∀ a, a < 0 → ∀ b, b < 0 → a ≠ b → (TX4 a).2.1 ≠ (TX4 b).2.1 := by decide +kernel
theorem tyX4_ok : ∀ k, k < 0 → parseFieldDescriptor (TX4 k).2.2.1 = some (tyX4 k) := by decide +kernel
abbrev cX4_isKind : ByteArray := prog_6_method_2_code
def yX4_isKind : MethodName := ⟨RX4, "isKind", "(I)Z"⟩
abbrev cX4_ofLetter : ByteArray := prog_6_method_3_code
def yX4_ofLetter : MethodName := ⟨RX4, "ofLetter", "(I)I"⟩
abbrev cX4_nearest : ByteArray := prog_6_method_4_code
def yX4_nearest : MethodName := ⟨RX4, "nearest", "(I)I"⟩
abbrev cX4_isOneOf : ByteArray := prog_6_method_5_code
def yX4_isOneOf : MethodName := ⟨RX4, "isOneOf", "(II)Z"⟩
def RX5 : String := "HeedClock$Rows"
def TX5 : u_T := fun k => match k with
  | 0 => ("HeedClock$Rows", "lanes", "[I", true)
  | 1 => ("HeedClock$Rows", "sizes", "[I", true)
  | _ => ("HeedClock$Rows", "items", "[I", true)
def tyX5 : Nat → FieldType := fun k => match k with
  | 0 => .array .int
  | 1 => .array .int
  | _ => .array .int
abbrev wsX50 : List Cond := u_ws RX5 TX5 3
theorem nmX5 : ∀ a, a < 3 → ∀ b, b < 3 → a ≠ b → (TX5 a).2.1 ≠ (TX5 b).2.1 := by decide +kernel
theorem tyX5_ok : ∀ k, k < 3 → parseFieldDescriptor (TX5 k).2.2.1 = some (tyX5 k) := by decide +kernel
abbrev cX5_init : ByteArray := prog_7_method_1_code
def yX5_init : MethodName := ⟨RX5, "<init>", "()V"⟩
abbrev cX5_isRow : ByteArray := prog_7_method_2_code
def yX5_isRow : MethodName := ⟨RX5, "isRow", "(I)Z"⟩
abbrev cX5_isLane : ByteArray := prog_7_method_3_code
def yX5_isLane : MethodName := ⟨RX5, "isLane", "(I)Z"⟩
abbrev cX5_isMissing : ByteArray := prog_7_method_4_code
def yX5_isMissing : MethodName := ⟨RX5, "isMissing", "(I)Z"⟩
abbrev cX5_findingOf : ByteArray := prog_7_method_5_code
def yX5_findingOf : MethodName := ⟨RX5, "findingOf", "(III)I"⟩
abbrev cX5_findingOfCopy : ByteArray := prog_7_method_6_code
def yX5_findingOfCopy : MethodName := ⟨RX5, "findingOfCopy", "(IIIII)I"⟩
abbrev cX5_hasPlaces : ByteArray := prog_7_method_7_code
def yX5_hasPlaces : MethodName := ⟨RX5, "hasPlaces", "(III)Z"⟩
abbrev cX5_make : ByteArray := prog_7_method_8_code
def yX5_make : MethodName := ⟨RX5, "make", "(III)V"⟩
abbrev cX5_remove : ByteArray := prog_7_method_9_code
def yX5_remove : MethodName := ⟨RX5, "remove", "(I)I"⟩
abbrev cX5_put : ByteArray := prog_7_method_10_code
def yX5_put : MethodName := ⟨RX5, "put", "(III)I"⟩
abbrev cX5_cutToLane : ByteArray := prog_7_method_11_code
def yX5_cutToLane : MethodName := ⟨RX5, "cutToLane", "(II)I"⟩
abbrev cX5_item : ByteArray := prog_7_method_12_code
def yX5_item : MethodName := ⟨RX5, "item", "(II)I"⟩
abbrev cX5_move : ByteArray := prog_7_method_13_code
def yX5_move : MethodName := ⟨RX5, "move", "(IIIII)V"⟩
abbrev cX5_present : ByteArray := prog_7_method_14_code
def yX5_present : MethodName := ⟨RX5, "present", "()I"⟩
def RX6 : String := "HeedClock$Tape"
def TX6 : u_T := fun k => match k with
  | 0 => ("HeedClock$Tape", "bytes", "[I", true)
  | 1 => ("HeedClock$Tape", "length", "I", false)
  | 2 => ("HeedClock$Tape", "fault", "I", false)
  | 3 => ("HeedClock$Tape", "at", "I", false)
  | 4 => ("HeedClock$Tape", "kinds", "[I", true)
  | 5 => ("HeedClock$Tape", "ears", "I", false)
  | 6 => ("HeedClock$Tape", "doings", "I", false)
  | 7 => ("HeedClock$Tape", "numbers", "[I", true)
  | _ => ("HeedClock$Tape", "told", "I", false)
def tyX6 : Nat → FieldType := fun k => match k with
  | 0 => .array .int
  | 1 => .int
  | 2 => .int
  | 3 => .int
  | 4 => .array .int
  | 5 => .int
  | 6 => .int
  | 7 => .array .int
  | _ => .int
abbrev wsX60 : List Cond := u_ws RX6 TX6 9
theorem nmX6 : ∀ a, a < 9 → ∀ b, b < 9 → a ≠ b → (TX6 a).2.1 ≠ (TX6 b).2.1 := by decide +kernel
theorem tyX6_ok : ∀ k, k < 9 → parseFieldDescriptor (TX6 k).2.2.1 = some (tyX6 k) := by decide +kernel
abbrev cX6_init : ByteArray := prog_8_method_1_code
def yX6_init : MethodName := ⟨RX6, "<init>", "()V"⟩
abbrev cX6_append : ByteArray := prog_8_method_2_code
def yX6_append : MethodName := ⟨RX6, "append", "(I)I"⟩
abbrev cX6_read : ByteArray := prog_8_method_3_code
def yX6_read : MethodName := ⟨RX6, "read", "()I"⟩
abbrev cX6_readHouse : ByteArray := prog_8_method_4_code
def yX6_readHouse : MethodName := ⟨RX6, "readHouse", "()V"⟩
abbrev cX6_byteHere : ByteArray := prog_8_method_5_code
def yX6_byteHere : MethodName := ⟨RX6, "byteHere", "()I"⟩
abbrev cX6_readEar : ByteArray := prog_8_method_6_code
def yX6_readEar : MethodName := ⟨RX6, "readEar", "(I)V"⟩
abbrev cX6_readDoing : ByteArray := prog_8_method_7_code
def yX6_readDoing : MethodName := ⟨RX6, "readDoing", "()V"⟩
abbrev cX6_readNumbers : ByteArray := prog_8_method_8_code
def yX6_readNumbers : MethodName := ⟨RX6, "readNumbers", "([I[I)V"⟩
abbrev cX6_readNumber : ByteArray := prog_8_method_9_code
def yX6_readNumber : MethodName := ⟨RX6, "readNumber", "(II)V"⟩
abbrev cX6_figuresHere : ByteArray := prog_8_method_10_code
def yX6_figuresHere : MethodName := ⟨RX6, "figuresHere", "()I"⟩
abbrev cX6_readSign : ByteArray := prog_8_method_11_code
def yX6_readSign : MethodName := ⟨RX6, "readSign", "(C)V"⟩
abbrev cX6_toldWool : ByteArray := prog_8_method_12_code
def yX6_toldWool : MethodName := ⟨RX6, "toldWool", "()I"⟩
abbrev cX6_toldOfEar : ByteArray := prog_8_method_13_code
def yX6_toldOfEar : MethodName := ⟨RX6, "toldOfEar", "(II)I"⟩
abbrev cX6_toldOfDoing : ByteArray := prog_8_method_14_code
def yX6_toldOfDoing : MethodName := ⟨RX6, "toldOfDoing", "(II)I"⟩
def RX7 : String := "HeedClock"
def TX7 : u_T := fun k => match k with
  | 0 => ("HeedClock", "rows", "LHeedClock$Rows;", true)
  | 1 => ("HeedClock", "tape", "LHeedClock$Tape;", true)
  | 2 => ("HeedClock", "now", "LHeedClock$House;", true)
  | 3 => ("HeedClock", "firstImage", "LHeedClock$House;", true)
  | 4 => ("HeedClock", "secondImage", "LHeedClock$House;", true)
  | 5 => ("HeedClock", "acts", "LHeedClock$Acts;", true)
  | 6 => ("HeedClock", "asks", "LHeedClock$Asks;", true)
  | 7 => ("HeedClock", "latestFault", "I", false)
  | _ => ("HeedClock", "latestFinding", "I", false)
def tyX7 : Nat → FieldType := fun k => match k with
  | 0 => .object "HeedClock$Rows"
  | 1 => .object "HeedClock$Tape"
  | 2 => .object "HeedClock$House"
  | 3 => .object "HeedClock$House"
  | 4 => .object "HeedClock$House"
  | 5 => .object "HeedClock$Acts"
  | 6 => .object "HeedClock$Asks"
  | 7 => .int
  | _ => .int
abbrev wsX70 : List Cond := u_ws RX7 TX7 9
theorem nmX7 : ∀ a, a < 9 → ∀ b, b < 9 → a ≠ b → (TX7 a).2.1 ≠ (TX7 b).2.1 := by decide +kernel
theorem tyX7_ok : ∀ k, k < 9 → parseFieldDescriptor (TX7 k).2.2.1 = some (tyX7 k) := by decide +kernel
abbrev cX7_init : ByteArray := prog_1_method_1_code
def yX7_init : MethodName := ⟨RX7, "<init>", "()V"⟩
abbrev cX7_row : ByteArray := prog_1_method_2_code
def yX7_row : MethodName := ⟨RX7, "row", "(III)I"⟩
abbrev cX7_set : ByteArray := prog_1_method_3_code
def yX7_set : MethodName := ⟨RX7, "set", "(III)I"⟩
abbrev cX7_copy : ByteArray := prog_1_method_4_code
def yX7_copy : MethodName := ⟨RX7, "copy", "(IIIII)I"⟩
abbrev cX7_drop : ByteArray := prog_1_method_5_code
def yX7_drop : MethodName := ⟨RX7, "drop", "(I)I"⟩
abbrev cX7_feed : ByteArray := prog_1_method_6_code
def yX7_feed : MethodName := ⟨RX7, "feed", "(I)I"⟩
abbrev cX7_house : ByteArray := prog_1_method_7_code
def yX7_house : MethodName := ⟨RX7, "house", "()I"⟩
abbrev cX7_fault : ByteArray := prog_1_method_8_code
def yX7_fault : MethodName := ⟨RX7, "fault", "()I"⟩
abbrev cX7_quarters : ByteArray := prog_1_method_9_code
def yX7_quarters : MethodName := ⟨RX7, "quarters", "(I)I"⟩
abbrev cX7_go : ByteArray := prog_1_method_10_code
def yX7_go : MethodName := ⟨RX7, "go", "(II)I"⟩
abbrev cX7_hush : ByteArray := prog_1_method_11_code
def yX7_hush : MethodName := ⟨RX7, "hush", "(II)I"⟩
abbrev cX7_wool : ByteArray := prog_1_method_12_code
def yX7_wool : MethodName := ⟨RX7, "wool", "(I)I"⟩
abbrev cX7_undo : ByteArray := prog_1_method_13_code
def yX7_undo : MethodName := ⟨RX7, "undo", "()I"⟩
abbrev cX7_ear : ByteArray := prog_1_method_14_code
def yX7_ear : MethodName := ⟨RX7, "ear", "(II)I"⟩
abbrev cX7_clock : ByteArray := prog_1_method_15_code
def yX7_clock : MethodName := ⟨RX7, "clock", "(I)I"⟩
abbrev cX7_ahead : ByteArray := prog_1_method_16_code
def yX7_ahead : MethodName := ⟨RX7, "ahead", "(I)I"⟩
abbrev cX7_whenShows : ByteArray := prog_1_method_17_code
def yX7_whenShows : MethodName := ⟨RX7, "whenShows", "(I)I"⟩
abbrev cX7_done : ByteArray := prog_1_method_18_code
def yX7_done : MethodName := ⟨RX7, "done", "(I)I"⟩
abbrev cX7_late : ByteArray := prog_1_method_19_code
def yX7_late : MethodName := ⟨RX7, "late", "()I"⟩
abbrev cX7_latest : ByteArray := prog_1_method_20_code
def yX7_latest : MethodName := ⟨RX7, "latest", "(I)I"⟩
abbrev cX7_toHush : ByteArray := prog_1_method_21_code
def yX7_toHush : MethodName := ⟨RX7, "toHush", "(III)I"⟩
abbrev cX7_toCall : ByteArray := prog_1_method_22_code
def yX7_toCall : MethodName := ⟨RX7, "toCall", "(III)I"⟩
abbrev cX7_who : ByteArray := prog_1_method_23_code
def yX7_who : MethodName := ⟨RX7, "who", "(IIII)I"⟩
abbrev cX7_heed : ByteArray := prog_1_method_24_code
def yX7_heed : MethodName := ⟨RX7, "heed", "(IIII)I"⟩
abbrev cX7_older : ByteArray := prog_1_method_25_code
def yX7_older : MethodName := ⟨RX7, "older", "(III)I"⟩
abbrev cX7_odds : ByteArray := prog_1_method_26_code
def yX7_odds : MethodName := ⟨RX7, "odds", "(III)I"⟩
abbrev cX7_image : ByteArray := prog_1_method_27_code
def yX7_image : MethodName := ⟨RX7, "image", "(I)I"⟩
abbrev cX7_restore : ByteArray := prog_1_method_28_code
def yX7_restore : MethodName := ⟨RX7, "restore", "(I)I"⟩
abbrev cX7_kind : ByteArray := prog_1_method_29_code
def yX7_kind : MethodName := ⟨RX7, "kind", "(I)I"⟩
abbrev cX7_as : ByteArray := prog_1_method_30_code
def yX7_as : MethodName := ⟨RX7, "as", "(II)I"⟩
abbrev cX7_ask : ByteArray := prog_1_method_31_code
def yX7_ask : MethodName := ⟨RX7, "ask", "(II)I"⟩
abbrev cX7_trace : ByteArray := prog_1_method_32_code
def yX7_trace : MethodName := ⟨RX7, "trace", "(I)I"⟩
abbrev cX7_count : ByteArray := prog_1_method_33_code
def yX7_count : MethodName := ⟨RX7, "count", "(I)I"⟩
abbrev cX7_status : ByteArray := prog_1_method_34_code
def yX7_status : MethodName := ⟨RX7, "status", "()I"⟩
abbrev cX7_found : ByteArray := prog_1_method_35_code
def yX7_found : MethodName := ⟨RX7, "found", "(I)I"⟩
abbrev cX7_foundNothing : ByteArray := prog_1_method_36_code
def yX7_foundNothing : MethodName := ⟨RX7, "foundNothing", "(I)I"⟩
abbrev cX7_imageAt : ByteArray := prog_1_method_37_code
def yX7_imageAt : MethodName := ⟨RX7, "imageAt", "(I)LHeedClock$House;"⟩
abbrev cX7_isWithin : ByteArray := prog_1_method_38_code
def yX7_isWithin : MethodName := ⟨RX7, "isWithin", "(III)Z"⟩
abbrev cX7_isGoal : ByteArray := prog_1_method_39_code
def yX7_isGoal : MethodName := ⟨RX7, "isGoal", "(III)Z"⟩
abbrev cX7_manyOrWhich : ByteArray := prog_1_method_40_code
def yX7_manyOrWhich : MethodName := ⟨RX7, "manyOrWhich", "(II)I"⟩
abbrev cX7_greatestDivisor : ByteArray := prog_1_method_41_code
def yX7_greatestDivisor : MethodName := ⟨RX7, "greatestDivisor", "(II)I"⟩
def RX8 : String := "HeedClockModel"
def TX8 : u_T := fun k => match k with
  | 0 => ("HeedClockModel", "lane", "[I", true)
  | 1 => ("HeedClockModel", "many", "[I", true)
  | 2 => ("HeedClockModel", "items", "[I", true)
  | 3 => ("HeedClockModel", "spare", "[I", true)
  | 4 => ("HeedClockModel", "status", "I", false)
  | 5 => ("HeedClockModel", "tape", "[I", true)
  | 6 => ("HeedClockModel", "taped", "I", false)
  | 7 => ("HeedClockModel", "faultKind", "I", false)
  | 8 => ("HeedClockModel", "faultPlace", "I", false)
  | 9 => ("HeedClockModel", "at", "I", false)
  | 10 => ("HeedClockModel", "start", "I", false)
  | 11 => ("HeedClockModel", "token", "I", false)
  | 12 => ("HeedClockModel", "value", "I", false)
  | 13 => ("HeedClockModel", "now", "[I", true)
  | 14 => ("HeedClockModel", "draft", "[I", true)
  | 15 => ("HeedClockModel", "past", "[I", true)
  | 16 => ("HeedClockModel", "acts", "I", false)
  | 17 => ("HeedClockModel", "images", "[I", true)
  | 18 => ("HeedClockModel", "kept", "[Z", true)
  | 19 => ("HeedClockModel", "tried", "[I", true)
  | 20 => ("HeedClockModel", "course", "[I", true)
  | 21 => ("HeedClockModel", "trace", "[I", true)
  | _ => ("HeedClockModel", "traced", "I", false)
def tyX8 : Nat → FieldType := fun k => match k with
  | 0 => .array .int
  | 1 => .array .int
  | 2 => .array .int
  | 3 => .array .int
  | 4 => .int
  | 5 => .array .int
  | 6 => .int
  | 7 => .int
  | 8 => .int
  | 9 => .int
  | 10 => .int
  | 11 => .int
  | 12 => .int
  | 13 => .array .int
  | 14 => .array .int
  | 15 => .array .int
  | 16 => .int
  | 17 => .array .int
  | 18 => .array .boolean
  | 19 => .array .int
  | 20 => .array .int
  | 21 => .array .int
  | _ => .int
abbrev wsX80 : List Cond := u_ws RX8 TX8 23
theorem nmX8 : ∀ a, a < 23 → ∀ b, b < 23 → a ≠ b → (TX8 a).2.1 ≠ (TX8 b).2.1 := by decide +kernel
theorem tyX8_ok : ∀ k, k < 23 → parseFieldDescriptor (TX8 k).2.2.1 = some (tyX8 k) := by decide +kernel
abbrev cX8_init : ByteArray := prog_10_method_1_code
def yX8_init : MethodName := ⟨RX8, "<init>", "()V"⟩
abbrev cX8_in : ByteArray := prog_10_method_3_code
def yX8_in : MethodName := ⟨RX8, "in", "(III)Z"⟩
abbrev cX8_has : ByteArray := prog_10_method_4_code
def yX8_has : MethodName := ⟨RX8, "has", "(II)Z"⟩
abbrev cX8_ones : ByteArray := prog_10_method_5_code
def yX8_ones : MethodName := ⟨RX8, "ones", "(I)I"⟩
abbrev cX8_found : ByteArray := prog_10_method_6_code
def yX8_found : MethodName := ⟨RX8, "found", "(I)I"⟩
abbrev cX8_well : ByteArray := prog_10_method_7_code
def yX8_well : MethodName := ⟨RX8, "well", "(I)I"⟩
abbrev cX8_copies : ByteArray := prog_10_method_8_code
def yX8_copies : MethodName := ⟨RX8, "copies", "([II[II)V"⟩
abbrev cX8_isRow : ByteArray := prog_10_method_9_code
def yX8_isRow : MethodName := ⟨RX8, "isRow", "(I)Z"⟩
abbrev cX8_isMissing : ByteArray := prog_10_method_10_code
def yX8_isMissing : MethodName := ⟨RX8, "isMissing", "(I)Z"⟩
abbrev cX8_cut : ByteArray := prog_10_method_11_code
def yX8_cut : MethodName := ⟨RX8, "cut", "(II)I"⟩
abbrev cX8_row : ByteArray := prog_10_method_12_code
def yX8_row : MethodName := ⟨RX8, "row", "(III)I"⟩
abbrev cX8_set : ByteArray := prog_10_method_13_code
def yX8_set : MethodName := ⟨RX8, "set", "(III)I"⟩
abbrev cX8_isPart : ByteArray := prog_10_method_14_code
def yX8_isPart : MethodName := ⟨RX8, "isPart", "(III)Z"⟩
abbrev cX8_copy : ByteArray := prog_10_method_15_code
def yX8_copy : MethodName := ⟨RX8, "copy", "(IIIII)I"⟩
abbrev cX8_drop : ByteArray := prog_10_method_16_code
def yX8_drop : MethodName := ⟨RX8, "drop", "(I)I"⟩
abbrev cX8_feed : ByteArray := prog_10_method_17_code
def yX8_feed : MethodName := ⟨RX8, "feed", "(I)I"⟩
abbrev cX8_byteAt : ByteArray := prog_10_method_18_code
def yX8_byteAt : MethodName := ⟨RX8, "byteAt", "(I)I"⟩
abbrev cX8_advances : ByteArray := prog_10_method_19_code
def yX8_advances : MethodName := ⟨RX8, "advances", "()V"⟩
abbrev cX8_isWell : ByteArray := prog_10_method_20_code
def yX8_isWell : MethodName := ⟨RX8, "isWell", "()Z"⟩
abbrev cX8_takes : ByteArray := prog_10_method_21_code
def yX8_takes : MethodName := ⟨RX8, "takes", "(ZI)I"⟩
abbrev cX8_figure : ByteArray := prog_10_method_22_code
def yX8_figure : MethodName := ⟨RX8, "figure", "(II)I"⟩
abbrev cX8_kindOf : ByteArray := prog_10_method_23_code
def yX8_kindOf : MethodName := ⟨RX8, "kindOf", "(I)I"⟩
abbrev cX8_next : ByteArray := prog_10_method_24_code
def yX8_next : MethodName := ⟨RX8, "next", "(II)I"⟩
abbrev cX8_readsEar : ByteArray := prog_10_method_25_code
def yX8_readsEar : MethodName := ⟨RX8, "readsEar", "()V"⟩
abbrev cX8_readsDoing : ByteArray := prog_10_method_26_code
def yX8_readsDoing : MethodName := ⟨RX8, "readsDoing", "()V"⟩
abbrev cX8_house : ByteArray := prog_10_method_27_code
def yX8_house : MethodName := ⟨RX8, "house", "()I"⟩
abbrev cX8_fault : ByteArray := prog_10_method_28_code
def yX8_fault : MethodName := ⟨RX8, "fault", "()I"⟩
abbrev cX8_isHouse : ByteArray := prog_10_method_29_code
def yX8_isHouse : MethodName := ⟨RX8, "isHouse", "()Z"⟩
abbrev cX8_isEar : ByteArray := prog_10_method_30_code
def yX8_isEar : MethodName := ⟨RX8, "isEar", "(I)Z"⟩
abbrev cX8_isDoing : ByteArray := prog_10_method_31_code
def yX8_isDoing : MethodName := ⟨RX8, "isDoing", "(I)Z"⟩
abbrev cX8_listens : ByteArray := prog_10_method_32_code
def yX8_listens : MethodName := ⟨RX8, "listens", "([II)Z"⟩
abbrev cX8_listening : ByteArray := prog_10_method_33_code
def yX8_listening : MethodName := ⟨RX8, "listening", "([I)I"⟩
abbrev cX8_heedOf : ByteArray := prog_10_method_34_code
def yX8_heedOf : MethodName := ⟨RX8, "heedOf", "([II)I"⟩
abbrev cX8_given : ByteArray := prog_10_method_35_code
def yX8_given : MethodName := ⟨RX8, "given", "([IIZ)I"⟩
abbrev cX8_goesBy : ByteArray := prog_10_method_36_code
def yX8_goesBy : MethodName := ⟨RX8, "goesBy", "([II)I"⟩
abbrev cX8_goes : ByteArray := prog_10_method_37_code
def yX8_goes : MethodName := ⟨RX8, "goes", "([I)I"⟩
abbrev cX8_passes : ByteArray := prog_10_method_38_code
def yX8_passes : MethodName := ⟨RX8, "passes", "([I)V"⟩
abbrev cX8_partsIn : ByteArray := prog_10_method_39_code
def yX8_partsIn : MethodName := ⟨RX8, "partsIn", "(I)I"⟩
abbrev cX8_notes : ByteArray := prog_10_method_40_code
def yX8_notes : MethodName := ⟨RX8, "notes", "()V"⟩
abbrev cX8_quarters : ByteArray := prog_10_method_41_code
def yX8_quarters : MethodName := ⟨RX8, "quarters", "(I)I"⟩
abbrev cX8_go : ByteArray := prog_10_method_42_code
def yX8_go : MethodName := ⟨RX8, "go", "(II)I"⟩
abbrev cX8_hushed : ByteArray := prog_10_method_43_code
def yX8_hushed : MethodName := ⟨RX8, "hushed", "()I"⟩
abbrev cX8_hush : ByteArray := prog_10_method_44_code
def yX8_hush : MethodName := ⟨RX8, "hush", "(II)I"⟩
abbrev cX8_wool : ByteArray := prog_10_method_45_code
def yX8_wool : MethodName := ⟨RX8, "wool", "(I)I"⟩
abbrev cX8_undo : ByteArray := prog_10_method_46_code
def yX8_undo : MethodName := ⟨RX8, "undo", "()I"⟩
abbrev cX8_givesNow : ByteArray := prog_10_method_47_code
def yX8_givesNow : MethodName := ⟨RX8, "givesNow", "(I)I"⟩
abbrev cX8_ear : ByteArray := prog_10_method_48_code
def yX8_ear : MethodName := ⟨RX8, "ear", "(II)I"⟩
abbrev cX8_clock : ByteArray := prog_10_method_49_code
def yX8_clock : MethodName := ⟨RX8, "clock", "(I)I"⟩
abbrev cX8_ahead : ByteArray := prog_10_method_50_code
def yX8_ahead : MethodName := ⟨RX8, "ahead", "(I)I"⟩
abbrev cX8_lays : ByteArray := prog_10_method_51_code
def yX8_lays : MethodName := ⟨RX8, "lays", "()V"⟩
abbrev cX8_whenShows : ByteArray := prog_10_method_52_code
def yX8_whenShows : MethodName := ⟨RX8, "whenShows", "(I)I"⟩
abbrev cX8_done : ByteArray := prog_10_method_53_code
def yX8_done : MethodName := ⟨RX8, "done", "(I)I"⟩
abbrev cX8_late : ByteArray := prog_10_method_54_code
def yX8_late : MethodName := ⟨RX8, "late", "()I"⟩
abbrev cX8_latest : ByteArray := prog_10_method_55_code
def yX8_latest : MethodName := ⟨RX8, "latest", "(I)I"⟩
abbrev cX8_told : ByteArray := prog_10_method_56_code
def yX8_told : MethodName := ⟨RX8, "told", "(II)I"⟩
abbrev cX8_toHush : ByteArray := prog_10_method_57_code
def yX8_toHush : MethodName := ⟨RX8, "toHush", "(III)I"⟩
abbrev cX8_toCall : ByteArray := prog_10_method_58_code
def yX8_toCall : MethodName := ⟨RX8, "toCall", "(III)I"⟩
abbrev cX8_goesSo : ByteArray := prog_10_method_59_code
def yX8_goesSo : MethodName := ⟨RX8, "goesSo", "(II)Z"⟩
abbrev cX8_who : ByteArray := prog_10_method_60_code
def yX8_who : MethodName := ⟨RX8, "who", "(IIII)I"⟩
abbrev cX8_heed : ByteArray := prog_10_method_61_code
def yX8_heed : MethodName := ⟨RX8, "heed", "(IIII)I"⟩
abbrev cX8_older : ByteArray := prog_10_method_62_code
def yX8_older : MethodName := ⟨RX8, "older", "(III)I"⟩
abbrev cX8_odds : ByteArray := prog_10_method_63_code
def yX8_odds : MethodName := ⟨RX8, "odds", "(III)I"⟩
abbrev cX8_image : ByteArray := prog_10_method_64_code
def yX8_image : MethodName := ⟨RX8, "image", "(I)I"⟩
abbrev cX8_restore : ByteArray := prog_10_method_65_code
def yX8_restore : MethodName := ⟨RX8, "restore", "(I)I"⟩
abbrev cX8_kindIn : ByteArray := prog_10_method_66_code
def yX8_kindIn : MethodName := ⟨RX8, "kindIn", "(I)I"⟩
abbrev cX8_kind : ByteArray := prog_10_method_67_code
def yX8_kind : MethodName := ⟨RX8, "kind", "(I)I"⟩
abbrev cX8_as : ByteArray := prog_10_method_68_code
def yX8_as : MethodName := ⟨RX8, "as", "(II)I"⟩
abbrev cX8_begins : ByteArray := prog_10_method_69_code
def yX8_begins : MethodName := ⟨RX8, "begins", "(I)V"⟩
abbrev cX8_personMark : ByteArray := prog_10_method_70_code
def yX8_personMark : MethodName := ⟨RX8, "personMark", "(I)I"⟩
abbrev cX8_catSize : ByteArray := prog_10_method_71_code
def yX8_catSize : MethodName := ⟨RX8, "catSize", "(I)I"⟩
abbrev cX8_personSize : ByteArray := prog_10_method_72_code
def yX8_personSize : MethodName := ⟨RX8, "personSize", "(I)I"⟩
abbrev cX8_catMark : ByteArray := prog_10_method_73_code
def yX8_catMark : MethodName := ⟨RX8, "catMark", "(I)I"⟩
abbrev cX8_ask : ByteArray := prog_10_method_74_code
def yX8_ask : MethodName := ⟨RX8, "ask", "(II)I"⟩
abbrev cX8_trace : ByteArray := prog_10_method_75_code
def yX8_trace : MethodName := ⟨RX8, "trace", "(I)I"⟩
abbrev cX8_count : ByteArray := prog_10_method_76_code
def yX8_count : MethodName := ⟨RX8, "count", "(I)I"⟩
abbrev cX8_status : ByteArray := prog_10_method_77_code
def yX8_status : MethodName := ⟨RX8, "status", "()I"⟩
def RJx145de : String := "java/io/Serializable"
def RJxb160c : String := "java/lang/Comparable"
def RJ6 : String := "java/lang/Integer"
abbrev cJ6_numberOfTrailingZeros_0f7a4 : ByteArray := prog_11_method_48_code
def yJ6_numberOfTrailingZeros_0f7a4 : MethodName := ⟨RJ6, "numberOfTrailingZeros", "(I)I"⟩
abbrev cJ6_bitCount_0f7a4 : ByteArray := prog_11_method_49_code
def yJ6_bitCount_0f7a4 : MethodName := ⟨RJ6, "bitCount", "(I)I"⟩
def RJ13 : String := "java/lang/Long"
abbrev cJ13_numberOfTrailingZeros_95d88 : ByteArray := prog_12_method_49_code
def yJ13_numberOfTrailingZeros_95d88 : MethodName := ⟨RJ13, "numberOfTrailingZeros", "(J)I"⟩
abbrev cJ13_bitCount_95d88 : ByteArray := prog_12_method_50_code
def yJ13_bitCount_95d88 : MethodName := ⟨RJ13, "bitCount", "(J)I"⟩
def RJ9 : String := "java/lang/Math"
abbrev cJ9_max_7cf53 : ByteArray := prog_13_method_65_code
def yJ9_max_7cf53 : MethodName := ⟨RJ9, "max", "(II)I"⟩
def RJxd2413 : String := "java/lang/Number"
def RJ10 : String := "java/lang/System"
def RJxfd54e : String := "java/lang/constant/Constable"
def RJx3cf43 : String := "java/lang/constant/ConstantDesc"
def RJ7 : String := "java/util/Arrays"
abbrev cJ7_rangeCheck_23922 : ByteArray := prog_16_method_30_code
def yJ7_rangeCheck_23922 : MethodName := ⟨RJ7, "rangeCheck", "(III)V"⟩
abbrev cJ7_fill_53178 : ByteArray := prog_16_method_103_code
def yJ7_fill_53178 : MethodName := ⟨RJ7, "fill", "([II)V"⟩
abbrev cJ7_fill_fda19 : ByteArray := prog_16_method_104_code
def yJ7_fill_fda19 : MethodName := ⟨RJ7, "fill", "([IIII)V"⟩
def RL : String := "HeedClockLaw"
abbrev cL_law : ByteArray := code
set_option maxRecDepth 20000 in
theorem inX0 : ∀ w ∈ wsX00, w ∈ lw_tbl := by decide +kernel
set_option maxRecDepth 20000 in
theorem inX1 : ∀ w ∈ wsX10, w ∈ lw_tbl := by decide +kernel
set_option maxRecDepth 20000 in
theorem inX2 : ∀ w ∈ wsX20, w ∈ lw_tbl := by decide +kernel
set_option maxRecDepth 20000 in
theorem inX3 : ∀ w ∈ wsX30, w ∈ lw_tbl := by decide +kernel
set_option maxRecDepth 20000 in
theorem inX4 : ∀ w ∈ wsX40, w ∈ lw_tbl := by decide +kernel
set_option maxRecDepth 20000 in
theorem inX5 : ∀ w ∈ wsX50, w ∈ lw_tbl := by decide +kernel
set_option maxRecDepth 20000 in
theorem inX6 : ∀ w ∈ wsX60, w ∈ lw_tbl := by decide +kernel
set_option maxRecDepth 20000 in
theorem inX7 : ∀ w ∈ wsX70, w ∈ lw_tbl := by decide +kernel
set_option maxRecDepth 20000 in
theorem inX8 : ∀ w ∈ wsX80, w ∈ lw_tbl := by decide +kernel
abbrev vwCl : List vw_C := [(RX0, TX0, 4), (RX1, TX1, 6), (RX3, TX3, 17), (RX5, TX5, 3), (RX6, TX6, 9), (RX7, TX7, 9), (RX8, TX8, 23)]
end
section
theorem dX0_init_0 : decode cX0_init 0 = .ok (.aload_n 0, 1) := by decide +kernel
theorem dX0_init_1 : decode cX0_init 1 = .ok (.invokespecial 1, 3) := by decide +kernel
theorem dX0_init_4 : decode cX0_init 4 = .ok (.aload_n 0, 1) := by decide +kernel
theorem dX0_init_5 : decode cX0_init 5 = .ok (.bipush 24, 2) := by decide +kernel
theorem dX0_init_7 : decode cX0_init 7 = .ok (.newarray .int, 2) := by decide +kernel
theorem dX0_init_9 : decode cX0_init 9 = .ok (.putfield 9, 3) := by decide +kernel
theorem dX0_init_12 : decode cX0_init 12 = .ok (.aload_n 0, 1) := by decide +kernel
theorem dX0_init_13 : decode cX0_init 13 = .ok (.bipush 24, 2) := by decide +kernel
theorem dX0_init_15 : decode cX0_init 15 = .ok (.newarray .int, 2) := by decide +kernel
theorem dX0_init_17 : decode cX0_init 17 = .ok (.putfield 13, 3) := by decide +kernel
theorem dX0_init_20 : decode cX0_init 20 = .ok (.aload_n 0, 1) := by decide +kernel
theorem dX0_init_21 : decode cX0_init 21 = .ok (.bipush 24, 2) := by decide +kernel
theorem dX0_init_23 : decode cX0_init 23 = .ok (.newarray .int, 2) := by decide +kernel
theorem dX0_init_25 : decode cX0_init 25 = .ok (.putfield 16, 3) := by decide +kernel
theorem dX0_init_28 : decode cX0_init 28 = .ok (.aload_n 0, 1) := by decide +kernel
theorem dX0_init_29 : decode cX0_init 29 = .ok (.iconst 0, 1) := by decide +kernel
theorem dX0_init_30 : decode cX0_init 30 = .ok (.putfield 19, 3) := by decide +kernel
theorem dX0_init_33 : decode cX0_init 33 = .ok (.return_, 1) := by decide +kernel
theorem dX0_forgetAll_0 : decode cX0_forgetAll 0 = .ok (.aload_n 0, 1) := by decide +kernel
theorem dX0_forgetAll_1 : decode cX0_forgetAll 1 = .ok (.iconst 0, 1) := by decide +kernel
theorem dX0_forgetAll_2 : decode cX0_forgetAll 2 = .ok (.putfield 19, 3) := by decide +kernel
theorem dX0_forgetAll_5 : decode cX0_forgetAll 5 = .ok (.return_, 1) := by decide +kernel
theorem dX0_keep_0 : decode cX0_keep 0 = .ok (.aload_n 0, 1) := by decide +kernel
theorem dX0_keep_1 : decode cX0_keep 1 = .ok (.getfield 19, 3) := by decide +kernel
theorem dX0_keep_4 : decode cX0_keep 4 = .ok (.bipush 24, 2) := by decide +kernel
theorem dX0_keep_6 : decode cX0_keep 6 = .ok (.if_icmp .lt 7, 3) := by decide +kernel
theorem dX0_keep_9 : decode cX0_keep 9 = .ok (.aload_n 0, 1) := by decide +kernel
theorem dX0_keep_10 : decode cX0_keep 10 = .ok (.invokevirtual 23, 3) := by decide +kernel
theorem dX0_keep_13 : decode cX0_keep 13 = .ok (.aload_n 0, 1) := by decide +kernel
theorem dX0_keep_14 : decode cX0_keep 14 = .ok (.getfield 9, 3) := by decide +kernel
theorem dX0_keep_17 : decode cX0_keep 17 = .ok (.aload_n 0, 1) := by decide +kernel
theorem dX0_keep_18 : decode cX0_keep 18 = .ok (.getfield 19, 3) := by decide +kernel
theorem dX0_keep_21 : decode cX0_keep 21 = .ok (.iload_n 1, 1) := by decide +kernel
theorem dX0_keep_22 : decode cX0_keep 22 = .ok (.iastore, 1) := by decide +kernel
theorem dX0_keep_23 : decode cX0_keep 23 = .ok (.aload_n 0, 1) := by decide +kernel
theorem dX0_keep_24 : decode cX0_keep 24 = .ok (.getfield 13, 3) := by decide +kernel
theorem dX0_keep_27 : decode cX0_keep 27 = .ok (.aload_n 0, 1) := by decide +kernel
theorem dX0_keep_28 : decode cX0_keep 28 = .ok (.getfield 19, 3) := by decide +kernel
theorem dX0_keep_31 : decode cX0_keep 31 = .ok (.iload_n 2, 1) := by decide +kernel
theorem dX0_keep_32 : decode cX0_keep 32 = .ok (.iastore, 1) := by decide +kernel
theorem dX0_keep_33 : decode cX0_keep 33 = .ok (.aload_n 0, 1) := by decide +kernel
theorem dX0_keep_34 : decode cX0_keep 34 = .ok (.getfield 16, 3) := by decide +kernel
theorem dX0_keep_37 : decode cX0_keep 37 = .ok (.aload_n 0, 1) := by decide +kernel
theorem dX0_keep_38 : decode cX0_keep 38 = .ok (.getfield 19, 3) := by decide +kernel
theorem dX0_keep_41 : decode cX0_keep 41 = .ok (.iload_n 3, 1) := by decide +kernel
theorem dX0_keep_42 : decode cX0_keep 42 = .ok (.iastore, 1) := by decide +kernel
theorem dX0_keep_43 : decode cX0_keep 43 = .ok (.aload_n 0, 1) := by decide +kernel
theorem dX0_keep_44 : decode cX0_keep 44 = .ok (.dup, 1) := by decide +kernel
theorem dX0_keep_45 : decode cX0_keep 45 = .ok (.getfield 19, 3) := by decide +kernel
theorem dX0_keep_48 : decode cX0_keep 48 = .ok (.iconst 1, 1) := by decide +kernel
theorem dX0_keep_49 : decode cX0_keep 49 = .ok (.iadd, 1) := by decide +kernel
theorem dX0_keep_50 : decode cX0_keep 50 = .ok (.putfield 19, 3) := by decide +kernel
theorem dX0_keep_53 : decode cX0_keep 53 = .ok (.return_, 1) := by decide +kernel
theorem dX0_forgetOldest_0 : decode cX0_forgetOldest 0 = .ok (.aload_n 0, 1) := by decide +kernel
theorem dX0_forgetOldest_1 : decode cX0_forgetOldest 1 = .ok (.bipush 23, 2) := by decide +kernel
theorem dX0_forgetOldest_3 : decode cX0_forgetOldest 3 = .ok (.putfield 19, 3) := by decide +kernel
theorem dX0_forgetOldest_6 : decode cX0_forgetOldest 6 = .ok (.aload_n 0, 1) := by decide +kernel
theorem dX0_forgetOldest_7 : decode cX0_forgetOldest 7 = .ok (.getfield 9, 3) := by decide +kernel
theorem dX0_forgetOldest_10 : decode cX0_forgetOldest 10 = .ok (.iconst 1, 1) := by decide +kernel
theorem dX0_forgetOldest_11 : decode cX0_forgetOldest 11 = .ok (.aload_n 0, 1) := by decide +kernel
theorem dX0_forgetOldest_12 : decode cX0_forgetOldest 12 = .ok (.getfield 9, 3) := by decide +kernel
theorem dX0_forgetOldest_15 : decode cX0_forgetOldest 15 = .ok (.iconst 0, 1) := by decide +kernel
theorem dX0_forgetOldest_16 : decode cX0_forgetOldest 16 = .ok (.aload_n 0, 1) := by decide +kernel
theorem dX0_forgetOldest_17 : decode cX0_forgetOldest 17 = .ok (.getfield 19, 3) := by decide +kernel
theorem dX0_forgetOldest_20 : decode cX0_forgetOldest 20 = .ok (.invokestatic 26, 3) := by decide +kernel
theorem dX0_forgetOldest_23 : decode cX0_forgetOldest 23 = .ok (.aload_n 0, 1) := by decide +kernel
theorem dX0_forgetOldest_24 : decode cX0_forgetOldest 24 = .ok (.getfield 13, 3) := by decide +kernel
theorem dX0_forgetOldest_27 : decode cX0_forgetOldest 27 = .ok (.iconst 1, 1) := by decide +kernel
theorem dX0_forgetOldest_28 : decode cX0_forgetOldest 28 = .ok (.aload_n 0, 1) := by decide +kernel
theorem dX0_forgetOldest_29 : decode cX0_forgetOldest 29 = .ok (.getfield 13, 3) := by decide +kernel
theorem dX0_forgetOldest_32 : decode cX0_forgetOldest 32 = .ok (.iconst 0, 1) := by decide +kernel
theorem dX0_forgetOldest_33 : decode cX0_forgetOldest 33 = .ok (.aload_n 0, 1) := by decide +kernel
theorem dX0_forgetOldest_34 : decode cX0_forgetOldest 34 = .ok (.getfield 19, 3) := by decide +kernel
theorem dX0_forgetOldest_37 : decode cX0_forgetOldest 37 = .ok (.invokestatic 26, 3) := by decide +kernel
theorem dX0_forgetOldest_40 : decode cX0_forgetOldest 40 = .ok (.aload_n 0, 1) := by decide +kernel
theorem dX0_forgetOldest_41 : decode cX0_forgetOldest 41 = .ok (.getfield 16, 3) := by decide +kernel
theorem dX0_forgetOldest_44 : decode cX0_forgetOldest 44 = .ok (.iconst 1, 1) := by decide +kernel
theorem dX0_forgetOldest_45 : decode cX0_forgetOldest 45 = .ok (.aload_n 0, 1) := by decide +kernel
theorem dX0_forgetOldest_46 : decode cX0_forgetOldest 46 = .ok (.getfield 16, 3) := by decide +kernel
theorem dX0_forgetOldest_49 : decode cX0_forgetOldest 49 = .ok (.iconst 0, 1) := by decide +kernel
theorem dX0_forgetOldest_50 : decode cX0_forgetOldest 50 = .ok (.aload_n 0, 1) := by decide +kernel
theorem dX0_forgetOldest_51 : decode cX0_forgetOldest 51 = .ok (.getfield 19, 3) := by decide +kernel
theorem dX0_forgetOldest_54 : decode cX0_forgetOldest 54 = .ok (.invokestatic 26, 3) := by decide +kernel
theorem dX0_forgetOldest_57 : decode cX0_forgetOldest 57 = .ok (.return_, 1) := by decide +kernel
theorem dX0_takeBackLatest_0 : decode cX0_takeBackLatest 0 = .ok (.aload_n 0, 1) := by decide +kernel
theorem dX0_takeBackLatest_1 : decode cX0_takeBackLatest 1 = .ok (.getfield 19, 3) := by decide +kernel
theorem dX0_takeBackLatest_4 : decode cX0_takeBackLatest 4 = .ok (.ifCond .gt 4, 3) := by decide +kernel
theorem dX0_takeBackLatest_7 : decode cX0_takeBackLatest 7 = .ok (.return_, 1) := by decide +kernel
theorem dX0_takeBackLatest_8 : decode cX0_takeBackLatest 8 = .ok (.aload_n 0, 1) := by decide +kernel
theorem dX0_takeBackLatest_9 : decode cX0_takeBackLatest 9 = .ok (.dup, 1) := by decide +kernel
theorem dX0_takeBackLatest_10 : decode cX0_takeBackLatest 10 = .ok (.getfield 19, 3) := by decide +kernel
theorem dX0_takeBackLatest_13 : decode cX0_takeBackLatest 13 = .ok (.iconst 1, 1) := by decide +kernel
theorem dX0_takeBackLatest_14 : decode cX0_takeBackLatest 14 = .ok (.isub, 1) := by decide +kernel
theorem dX0_takeBackLatest_15 : decode cX0_takeBackLatest 15 = .ok (.putfield 19, 3) := by decide +kernel
theorem dX0_takeBackLatest_18 : decode cX0_takeBackLatest 18 = .ok (.aload_n 0, 1) := by decide +kernel
theorem dX0_takeBackLatest_19 : decode cX0_takeBackLatest 19 = .ok (.getfield 16, 3) := by decide +kernel
theorem dX0_takeBackLatest_22 : decode cX0_takeBackLatest 22 = .ok (.aload_n 0, 1) := by decide +kernel
theorem dX0_takeBackLatest_23 : decode cX0_takeBackLatest 23 = .ok (.getfield 19, 3) := by decide +kernel
theorem dX0_takeBackLatest_26 : decode cX0_takeBackLatest 26 = .ok (.iaload, 1) := by decide +kernel
theorem dX0_takeBackLatest_27 : decode cX0_takeBackLatest 27 = .ok (.istore_n 2, 1) := by decide +kernel
theorem dX0_takeBackLatest_28 : decode cX0_takeBackLatest 28 = .ok (.aload_n 0, 1) := by decide +kernel
theorem dX0_takeBackLatest_29 : decode cX0_takeBackLatest 29 = .ok (.getfield 9, 3) := by decide +kernel
theorem dX0_takeBackLatest_32 : decode cX0_takeBackLatest 32 = .ok (.aload_n 0, 1) := by decide +kernel
theorem dX0_takeBackLatest_33 : decode cX0_takeBackLatest 33 = .ok (.getfield 19, 3) := by decide +kernel
theorem dX0_takeBackLatest_36 : decode cX0_takeBackLatest 36 = .ok (.iaload, 1) := by decide +kernel
theorem dX0_takeBackLatest_37 : decode cX0_takeBackLatest 37 = .ok (.tableswitch 79 1 3 #[27, 45, 71], 27) := by decide +kernel
theorem dX0_takeBackLatest_64 : decode cX0_takeBackLatest 64 = .ok (.aload_n 1, 1) := by decide +kernel
theorem dX0_takeBackLatest_65 : decode cX0_takeBackLatest 65 = .ok (.getfield 32, 3) := by decide +kernel
theorem dX0_takeBackLatest_68 : decode cX0_takeBackLatest 68 = .ok (.aload_n 0, 1) := by decide +kernel
theorem dX0_takeBackLatest_69 : decode cX0_takeBackLatest 69 = .ok (.getfield 13, 3) := by decide +kernel
theorem dX0_takeBackLatest_72 : decode cX0_takeBackLatest 72 = .ok (.aload_n 0, 1) := by decide +kernel
theorem dX0_takeBackLatest_73 : decode cX0_takeBackLatest 73 = .ok (.getfield 19, 3) := by decide +kernel
theorem dX0_takeBackLatest_76 : decode cX0_takeBackLatest 76 = .ok (.iaload, 1) := by decide +kernel
theorem dX0_takeBackLatest_77 : decode cX0_takeBackLatest 77 = .ok (.iload_n 2, 1) := by decide +kernel
theorem dX0_takeBackLatest_78 : decode cX0_takeBackLatest 78 = .ok (.iastore, 1) := by decide +kernel
theorem dX0_takeBackLatest_79 : decode cX0_takeBackLatest 79 = .ok (.goto 41, 3) := by decide +kernel
theorem dX0_takeBackLatest_82 : decode cX0_takeBackLatest 82 = .ok (.aload_n 1, 1) := by decide +kernel
theorem dX0_takeBackLatest_83 : decode cX0_takeBackLatest 83 = .ok (.aload_n 0, 1) := by decide +kernel
theorem dX0_takeBackLatest_84 : decode cX0_takeBackLatest 84 = .ok (.getfield 13, 3) := by decide +kernel
theorem dX0_takeBackLatest_87 : decode cX0_takeBackLatest 87 = .ok (.aload_n 0, 1) := by decide +kernel
theorem dX0_takeBackLatest_88 : decode cX0_takeBackLatest 88 = .ok (.getfield 19, 3) := by decide +kernel
theorem dX0_takeBackLatest_91 : decode cX0_takeBackLatest 91 = .ok (.iaload, 1) := by decide +kernel
theorem dX0_takeBackLatest_92 : decode cX0_takeBackLatest 92 = .ok (.iload_n 2, 1) := by decide +kernel
theorem dX0_takeBackLatest_93 : decode cX0_takeBackLatest 93 = .ok (.iconst 1, 1) := by decide +kernel
theorem dX0_takeBackLatest_94 : decode cX0_takeBackLatest 94 = .ok (.if_icmp .ne 7, 3) := by decide +kernel
theorem dX0_takeBackLatest_97 : decode cX0_takeBackLatest 97 = .ok (.iconst 1, 1) := by decide +kernel
theorem dX0_takeBackLatest_98 : decode cX0_takeBackLatest 98 = .ok (.goto 4, 3) := by decide +kernel
theorem dX0_takeBackLatest_101 : decode cX0_takeBackLatest 101 = .ok (.iconst 0, 1) := by decide +kernel
theorem dX0_takeBackLatest_102 : decode cX0_takeBackLatest 102 = .ok (.invokevirtual 37, 3) := by decide +kernel
theorem dX0_takeBackLatest_105 : decode cX0_takeBackLatest 105 = .ok (.goto 15, 3) := by decide +kernel
theorem dX0_takeBackLatest_108 : decode cX0_takeBackLatest 108 = .ok (.aload_n 1, 1) := by decide +kernel
theorem dX0_takeBackLatest_109 : decode cX0_takeBackLatest 109 = .ok (.iload_n 2, 1) := by decide +kernel
theorem dX0_takeBackLatest_110 : decode cX0_takeBackLatest 110 = .ok (.putfield 41, 3) := by decide +kernel
theorem dX0_takeBackLatest_113 : decode cX0_takeBackLatest 113 = .ok (.goto 7, 3) := by decide +kernel
theorem dX0_takeBackLatest_116 : decode cX0_takeBackLatest 116 = .ok (.aload_n 1, 1) := by decide +kernel
theorem dX0_takeBackLatest_117 : decode cX0_takeBackLatest 117 = .ok (.invokevirtual 44, 3) := by decide +kernel
theorem dX0_takeBackLatest_120 : decode cX0_takeBackLatest 120 = .ok (.return_, 1) := by decide +kernel
theorem dX1_init_0 : decode cX1_init 0 = .ok (.aload_n 0, 1) := by decide +kernel
theorem dX1_init_1 : decode cX1_init 1 = .ok (.invokespecial 1, 3) := by decide +kernel
theorem dX1_init_4 : decode cX1_init 4 = .ok (.aload_n 0, 1) := by decide +kernel
theorem dX1_init_5 : decode cX1_init 5 = .ok (.bipush 16, 2) := by decide +kernel
theorem dX1_init_7 : decode cX1_init 7 = .ok (.newarray .int, 2) := by decide +kernel
theorem dX1_init_9 : decode cX1_init 9 = .ok (.putfield 9, 3) := by decide +kernel
theorem dX1_init_12 : decode cX1_init 12 = .ok (.aload_n 0, 1) := by decide +kernel
theorem dX1_init_13 : decode cX1_init 13 = .ok (.iconst 0, 1) := by decide +kernel
theorem dX1_init_14 : decode cX1_init 14 = .ok (.putfield 13, 3) := by decide +kernel
theorem dX1_init_17 : decode cX1_init 17 = .ok (.aload_n 0, 1) := by decide +kernel
theorem dX1_init_18 : decode cX1_init 18 = .ok (.iconst 0, 1) := by decide +kernel
theorem dX1_init_19 : decode cX1_init 19 = .ok (.putfield 17, 3) := by decide +kernel
theorem dX1_init_22 : decode cX1_init 22 = .ok (.aload_n 0, 1) := by decide +kernel
theorem dX1_init_23 : decode cX1_init 23 = .ok (.iconst 0, 1) := by decide +kernel
theorem dX1_init_24 : decode cX1_init 24 = .ok (.putfield 20, 3) := by decide +kernel
theorem dX1_init_27 : decode cX1_init 27 = .ok (.aload_n 0, 1) := by decide +kernel
theorem dX1_init_28 : decode cX1_init 28 = .ok (.iconst 0, 1) := by decide +kernel
theorem dX1_init_29 : decode cX1_init 29 = .ok (.putfield 23, 3) := by decide +kernel
theorem dX1_init_32 : decode cX1_init 32 = .ok (.aload_n 0, 1) := by decide +kernel
theorem dX1_init_33 : decode cX1_init 33 = .ok (.iconst 0, 1) := by decide +kernel
theorem dX1_init_34 : decode cX1_init 34 = .ok (.putfield 26, 3) := by decide +kernel
theorem dX1_init_37 : decode cX1_init 37 = .ok (.return_, 1) := by decide +kernel
theorem dX1_answer_0 : decode cX1_answer 0 = .ok (.aload_n 0, 1) := by decide +kernel
theorem dX1_answer_1 : decode cX1_answer 1 = .ok (.iconst 0, 1) := by decide +kernel
theorem dX1_answer_2 : decode cX1_answer 2 = .ok (.putfield 13, 3) := by decide +kernel
theorem dX1_answer_5 : decode cX1_answer 5 = .ok (.aload_n 0, 1) := by decide +kernel
theorem dX1_answer_6 : decode cX1_answer 6 = .ok (.iload_n 2, 1) := by decide +kernel
theorem dX1_answer_7 : decode cX1_answer 7 = .ok (.putfield 17, 3) := by decide +kernel
theorem dX1_answer_10 : decode cX1_answer 10 = .ok (.aload_n 0, 1) := by decide +kernel
theorem dX1_answer_11 : decode cX1_answer 11 = .ok (.aload_n 1, 1) := by decide +kernel
theorem dX1_answer_12 : decode cX1_answer 12 = .ok (.getfield 29, 3) := by decide +kernel
theorem dX1_answer_15 : decode cX1_answer 15 = .ok (.iload_n 2, 1) := by decide +kernel
theorem dX1_answer_16 : decode cX1_answer 16 = .ok (.iaload, 1) := by decide +kernel
theorem dX1_answer_17 : decode cX1_answer 17 = .ok (.putfield 20, 3) := by decide +kernel
theorem dX1_answer_20 : decode cX1_answer 20 = .ok (.aload_n 0, 1) := by decide +kernel
theorem dX1_answer_21 : decode cX1_answer 21 = .ok (.aload_n 1, 1) := by decide +kernel
theorem dX1_answer_22 : decode cX1_answer 22 = .ok (.getfield 34, 3) := by decide +kernel
theorem dX1_answer_25 : decode cX1_answer 25 = .ok (.iload_n 2, 1) := by decide +kernel
theorem dX1_answer_26 : decode cX1_answer 26 = .ok (.iaload, 1) := by decide +kernel
theorem dX1_answer_27 : decode cX1_answer 27 = .ok (.putfield 23, 3) := by decide +kernel
theorem dX1_answer_30 : decode cX1_answer 30 = .ok (.aload_n 0, 1) := by decide +kernel
theorem dX1_answer_31 : decode cX1_answer 31 = .ok (.aload_n 1, 1) := by decide +kernel
theorem dX1_answer_32 : decode cX1_answer 32 = .ok (.getfield 37, 3) := by decide +kernel
theorem dX1_answer_35 : decode cX1_answer 35 = .ok (.iload_n 2, 1) := by decide +kernel
theorem dX1_answer_36 : decode cX1_answer 36 = .ok (.iaload, 1) := by decide +kernel
theorem dX1_answer_37 : decode cX1_answer 37 = .ok (.putfield 26, 3) := by decide +kernel
theorem dX1_answer_40 : decode cX1_answer 40 = .ok (.aload_n 0, 1) := by decide +kernel
theorem dX1_answer_41 : decode cX1_answer 41 = .ok (.iload_n 3, 1) := by decide +kernel
theorem dX1_answer_42 : decode cX1_answer 42 = .ok (.iconst 0, 1) := by decide +kernel
theorem dX1_answer_43 : decode cX1_answer 43 = .ok (.invokevirtual 40, 3) := by decide +kernel
theorem dX1_answer_46 : decode cX1_answer 46 = .ok (.ireturn, 1) := by decide +kernel
theorem dX1_begin_0 : decode cX1_begin 0 = .ok (.aload_n 0, 1) := by decide +kernel
theorem dX1_begin_1 : decode cX1_begin 1 = .ok (.getfield 20, 3) := by decide +kernel
theorem dX1_begin_4 : decode cX1_begin 4 = .ok (.iload_n 1, 1) := by decide +kernel
theorem dX1_begin_5 : decode cX1_begin 5 = .ok (.invokestatic 44, 3) := by decide +kernel
theorem dX1_begin_8 : decode cX1_begin 8 = .ok (.istore_n 3, 1) := by decide +kernel
theorem dX1_begin_9 : decode cX1_begin 9 = .ok (.iload_n 3, 1) := by decide +kernel
theorem dX1_begin_10 : decode cX1_begin 10 = .ok (.ifCond .ne 15, 3) := by decide +kernel
theorem dX1_begin_13 : decode cX1_begin 13 = .ok (.aload_n 0, 1) := by decide +kernel
theorem dX1_begin_14 : decode cX1_begin 14 = .ok (.getfield 20, 3) := by decide +kernel
theorem dX1_begin_17 : decode cX1_begin 17 = .ok (.invokestatic 47, 3) := by decide +kernel
theorem dX1_begin_20 : decode cX1_begin 20 = .ok (.iload_n 1, 1) := by decide +kernel
theorem dX1_begin_21 : decode cX1_begin 21 = .ok (.invokestatic 44, 3) := by decide +kernel
theorem dX1_begin_24 : decode cX1_begin 24 = .ok (.istore_n 3, 1) := by decide +kernel
theorem dX1_begin_25 : decode cX1_begin 25 = .ok (.aload_n 0, 1) := by decide +kernel
theorem dX1_begin_26 : decode cX1_begin 26 = .ok (.iload_n 3, 1) := by decide +kernel
theorem dX1_begin_27 : decode cX1_begin 27 = .ok (.iload_n 2, 1) := by decide +kernel
theorem dX1_begin_28 : decode cX1_begin 28 = .ok (.invokevirtual 53, 3) := by decide +kernel
theorem dX1_begin_31 : decode cX1_begin 31 = .ok (.ireturn, 1) := by decide +kernel
theorem dX1_bodyFor_0 : decode cX1_bodyFor 0 = .ok (.iload_n 0, 1) := by decide +kernel
theorem dX1_bodyFor_1 : decode cX1_bodyFor 1 = .ok (.invokestatic 56, 3) := by decide +kernel
theorem dX1_bodyFor_4 : decode cX1_bodyFor 4 = .ok (.ifCond .ne 5, 3) := by decide +kernel
theorem dX1_bodyFor_7 : decode cX1_bodyFor 7 = .ok (.iconst 0, 1) := by decide +kernel
theorem dX1_bodyFor_8 : decode cX1_bodyFor 8 = .ok (.ireturn, 1) := by decide +kernel
theorem dX1_bodyFor_9 : decode cX1_bodyFor 9 = .ok (.iload_n 1, 1) := by decide +kernel
theorem dX1_bodyFor_10 : decode cX1_bodyFor 10 = .ok (.ifCond .ne 11, 3) := by decide +kernel
theorem dX1_bodyFor_13 : decode cX1_bodyFor 13 = .ok (.getstatic 60, 3) := by decide +kernel
theorem dX1_bodyFor_16 : decode cX1_bodyFor 16 = .ok (.iload_n 0, 1) := by decide +kernel
theorem dX1_bodyFor_17 : decode cX1_bodyFor 17 = .ok (.iaload, 1) := by decide +kernel
theorem dX1_bodyFor_18 : decode cX1_bodyFor 18 = .ok (.goto 8, 3) := by decide +kernel
theorem dX1_bodyFor_21 : decode cX1_bodyFor 21 = .ok (.getstatic 63, 3) := by decide +kernel
theorem dX1_bodyFor_24 : decode cX1_bodyFor 24 = .ok (.iload_n 0, 1) := by decide +kernel
theorem dX1_bodyFor_25 : decode cX1_bodyFor 25 = .ok (.iaload, 1) := by decide +kernel
theorem dX1_bodyFor_26 : decode cX1_bodyFor 26 = .ok (.ireturn, 1) := by decide +kernel
theorem dX1_run_0 : decode cX1_run 0 = .ok (.iload_n 2, 1) := by decide +kernel
theorem dX1_run_1 : decode cX1_run 1 = .ok (.bipush 16, 2) := by decide +kernel
theorem dX1_run_3 : decode cX1_run 3 = .ok (.if_icmp .lt 5, 3) := by decide +kernel
theorem dX1_run_6 : decode cX1_run 6 = .ok (.iconst 0, 1) := by decide +kernel
theorem dX1_run_7 : decode cX1_run 7 = .ok (.ireturn, 1) := by decide +kernel
theorem dX1_run_8 : decode cX1_run 8 = .ok (.aload_n 0, 1) := by decide +kernel
theorem dX1_run_9 : decode cX1_run 9 = .ok (.iload_n 1, 1) := by decide +kernel
theorem dX1_run_10 : decode cX1_run 10 = .ok (.invokevirtual 66, 3) := by decide +kernel
theorem dX1_run_13 : decode cX1_run 13 = .ok (.iload_n 2, 1) := by decide +kernel
theorem dX1_run_14 : decode cX1_run 14 = .ok (.iconst 1, 1) := by decide +kernel
theorem dX1_run_15 : decode cX1_run 15 = .ok (.iadd, 1) := by decide +kernel
theorem dX1_run_16 : decode cX1_run 16 = .ok (.istore_n 3, 1) := by decide +kernel
theorem dX1_run_17 : decode cX1_run 17 = .ok (.iload_n 1, 1) := by decide +kernel
theorem dX1_run_18 : decode cX1_run 18 = .ok (.tableswitch 179 10 24 #[74, 79, 94, 103, 114, 179, 179, 179, 179, 179, 124, 129, 142, 154, 169], 74) := by decide +kernel
theorem dX1_run_92 : decode cX1_run 92 = .ok (.aload_n 0, 1) := by decide +kernel
theorem dX1_run_93 : decode cX1_run 93 = .ok (.getfield 23, 3) := by decide +kernel
theorem dX1_run_96 : decode cX1_run 96 = .ok (.ireturn, 1) := by decide +kernel
theorem dX1_run_97 : decode cX1_run 97 = .ok (.aload_n 0, 1) := by decide +kernel
theorem dX1_run_98 : decode cX1_run 98 = .ok (.bipush 10, 2) := by decide +kernel
theorem dX1_run_100 : decode cX1_run 100 = .ok (.iload_n 3, 1) := by decide +kernel
theorem dX1_run_101 : decode cX1_run 101 = .ok (.invokevirtual 53, 3) := by decide +kernel
theorem dX1_run_104 : decode cX1_run 104 = .ok (.aload_n 0, 1) := by decide +kernel
theorem dX1_run_105 : decode cX1_run 105 = .ok (.iconst 1, 1) := by decide +kernel
theorem dX1_run_106 : decode cX1_run 106 = .ok (.iload_n 3, 1) := by decide +kernel
theorem dX1_run_107 : decode cX1_run 107 = .ok (.invokevirtual 40, 3) := by decide +kernel
theorem dX1_run_110 : decode cX1_run 110 = .ok (.iadd, 1) := by decide +kernel
theorem dX1_run_111 : decode cX1_run 111 = .ok (.ireturn, 1) := by decide +kernel
theorem dX1_run_112 : decode cX1_run 112 = .ok (.aload_n 0, 1) := by decide +kernel
theorem dX1_run_113 : decode cX1_run 113 = .ok (.bipush 11, 2) := by decide +kernel
theorem dX1_run_115 : decode cX1_run 115 = .ok (.iload_n 3, 1) := by decide +kernel
theorem dX1_run_116 : decode cX1_run 116 = .ok (.invokevirtual 53, 3) := by decide +kernel
theorem dX1_run_119 : decode cX1_run 119 = .ok (.ineg, 1) := by decide +kernel
theorem dX1_run_120 : decode cX1_run 120 = .ok (.ireturn, 1) := by decide +kernel
theorem dX1_run_121 : decode cX1_run 121 = .ok (.aload_n 0, 1) := by decide +kernel
theorem dX1_run_122 : decode cX1_run 122 = .ok (.bipush 10, 2) := by decide +kernel
theorem dX1_run_124 : decode cX1_run 124 = .ok (.iload_n 3, 1) := by decide +kernel
theorem dX1_run_125 : decode cX1_run 125 = .ok (.invokevirtual 53, 3) := by decide +kernel
theorem dX1_run_128 : decode cX1_run 128 = .ok (.bipush 100, 2) := by decide +kernel
theorem dX1_run_130 : decode cX1_run 130 = .ok (.isub, 1) := by decide +kernel
theorem dX1_run_131 : decode cX1_run 131 = .ok (.ireturn, 1) := by decide +kernel
theorem dX1_run_132 : decode cX1_run 132 = .ok (.iconst 2, 1) := by decide +kernel
theorem dX1_run_133 : decode cX1_run 133 = .ok (.aload_n 0, 1) := by decide +kernel
theorem dX1_run_134 : decode cX1_run 134 = .ok (.bipush 13, 2) := by decide +kernel
theorem dX1_run_136 : decode cX1_run 136 = .ok (.iload_n 3, 1) := by decide +kernel
theorem dX1_run_137 : decode cX1_run 137 = .ok (.invokevirtual 53, 3) := by decide +kernel
theorem dX1_run_140 : decode cX1_run 140 = .ok (.imul, 1) := by decide +kernel
theorem dX1_run_141 : decode cX1_run 141 = .ok (.ireturn, 1) := by decide +kernel
theorem dX1_run_142 : decode cX1_run 142 = .ok (.aload_n 0, 1) := by decide +kernel
theorem dX1_run_143 : decode cX1_run 143 = .ok (.getfield 17, 3) := by decide +kernel
theorem dX1_run_146 : decode cX1_run 146 = .ok (.ireturn, 1) := by decide +kernel
theorem dX1_run_147 : decode cX1_run 147 = .ok (.aload_n 0, 1) := by decide +kernel
theorem dX1_run_148 : decode cX1_run 148 = .ok (.bipush 20, 2) := by decide +kernel
theorem dX1_run_150 : decode cX1_run 150 = .ok (.iload_n 3, 1) := by decide +kernel
theorem dX1_run_151 : decode cX1_run 151 = .ok (.invokevirtual 53, 3) := by decide +kernel
theorem dX1_run_154 : decode cX1_run 154 = .ok (.aload_n 0, 1) := by decide +kernel
theorem dX1_run_155 : decode cX1_run 155 = .ok (.getfield 26, 3) := by decide +kernel
theorem dX1_run_158 : decode cX1_run 158 = .ok (.iadd, 1) := by decide +kernel
theorem dX1_run_159 : decode cX1_run 159 = .ok (.ireturn, 1) := by decide +kernel
theorem dX1_run_160 : decode cX1_run 160 = .ok (.aload_n 0, 1) := by decide +kernel
theorem dX1_run_161 : decode cX1_run 161 = .ok (.bipush 21, 2) := by decide +kernel
theorem dX1_run_163 : decode cX1_run 163 = .ok (.iload_n 3, 1) := by decide +kernel
theorem dX1_run_164 : decode cX1_run 164 = .ok (.invokevirtual 53, 3) := by decide +kernel
theorem dX1_run_167 : decode cX1_run 167 = .ok (.sipush 1000, 3) := by decide +kernel
theorem dX1_run_170 : decode cX1_run 170 = .ok (.isub, 1) := by decide +kernel
theorem dX1_run_171 : decode cX1_run 171 = .ok (.ireturn, 1) := by decide +kernel
theorem dX1_run_172 : decode cX1_run 172 = .ok (.aload_n 0, 1) := by decide +kernel
theorem dX1_run_173 : decode cX1_run 173 = .ok (.bipush 20, 2) := by decide +kernel
theorem dX1_run_175 : decode cX1_run 175 = .ok (.iload_n 3, 1) := by decide +kernel
theorem dX1_run_176 : decode cX1_run 176 = .ok (.invokevirtual 53, 3) := by decide +kernel
theorem dX1_run_179 : decode cX1_run 179 = .ok (.aload_n 0, 1) := by decide +kernel
theorem dX1_run_180 : decode cX1_run 180 = .ok (.iconst 0, 1) := by decide +kernel
theorem dX1_run_181 : decode cX1_run 181 = .ok (.iload_n 3, 1) := by decide +kernel
theorem dX1_run_182 : decode cX1_run 182 = .ok (.invokevirtual 40, 3) := by decide +kernel
theorem dX1_run_185 : decode cX1_run 185 = .ok (.isub, 1) := by decide +kernel
theorem dX1_run_186 : decode cX1_run 186 = .ok (.ireturn, 1) := by decide +kernel
theorem dX1_run_187 : decode cX1_run 187 = .ok (.iconst 2, 1) := by decide +kernel
theorem dX1_run_188 : decode cX1_run 188 = .ok (.aload_n 0, 1) := by decide +kernel
theorem dX1_run_189 : decode cX1_run 189 = .ok (.bipush 21, 2) := by decide +kernel
theorem dX1_run_191 : decode cX1_run 191 = .ok (.iload_n 3, 1) := by decide +kernel
theorem dX1_run_192 : decode cX1_run 192 = .ok (.invokevirtual 53, 3) := by decide +kernel
theorem dX1_run_195 : decode cX1_run 195 = .ok (.imul, 1) := by decide +kernel
theorem dX1_run_196 : decode cX1_run 196 = .ok (.ireturn, 1) := by decide +kernel
theorem dX1_run_197 : decode cX1_run 197 = .ok (.iconst 0, 1) := by decide +kernel
theorem dX1_run_198 : decode cX1_run 198 = .ok (.ireturn, 1) := by decide +kernel
theorem dX1_leaveTrace_0 : decode cX1_leaveTrace 0 = .ok (.aload_n 0, 1) := by decide +kernel
theorem dX1_leaveTrace_1 : decode cX1_leaveTrace 1 = .ok (.getfield 13, 3) := by decide +kernel
theorem dX1_leaveTrace_4 : decode cX1_leaveTrace 4 = .ok (.bipush 16, 2) := by decide +kernel
theorem dX1_leaveTrace_6 : decode cX1_leaveTrace 6 = .ok (.if_icmp .ge 23, 3) := by decide +kernel
theorem dX1_leaveTrace_9 : decode cX1_leaveTrace 9 = .ok (.aload_n 0, 1) := by decide +kernel
theorem dX1_leaveTrace_10 : decode cX1_leaveTrace 10 = .ok (.getfield 9, 3) := by decide +kernel
theorem dX1_leaveTrace_13 : decode cX1_leaveTrace 13 = .ok (.aload_n 0, 1) := by decide +kernel
theorem dX1_leaveTrace_14 : decode cX1_leaveTrace 14 = .ok (.getfield 13, 3) := by decide +kernel
theorem dX1_leaveTrace_17 : decode cX1_leaveTrace 17 = .ok (.iload_n 1, 1) := by decide +kernel
theorem dX1_leaveTrace_18 : decode cX1_leaveTrace 18 = .ok (.iastore, 1) := by decide +kernel
theorem dX1_leaveTrace_19 : decode cX1_leaveTrace 19 = .ok (.aload_n 0, 1) := by decide +kernel
theorem dX1_leaveTrace_20 : decode cX1_leaveTrace 20 = .ok (.dup, 1) := by decide +kernel
theorem dX1_leaveTrace_21 : decode cX1_leaveTrace 21 = .ok (.getfield 13, 3) := by decide +kernel
theorem dX1_leaveTrace_24 : decode cX1_leaveTrace 24 = .ok (.iconst 1, 1) := by decide +kernel
theorem dX1_leaveTrace_25 : decode cX1_leaveTrace 25 = .ok (.iadd, 1) := by decide +kernel
theorem dX1_leaveTrace_26 : decode cX1_leaveTrace 26 = .ok (.putfield 13, 3) := by decide +kernel
theorem dX1_leaveTrace_29 : decode cX1_leaveTrace 29 = .ok (.return_, 1) := by decide +kernel
theorem dX2_partsAfter_0 : decode cX2_partsAfter 0 = .ok (.aload_n 0, 1) := by decide +kernel
theorem dX2_partsAfter_1 : decode cX2_partsAfter 1 = .ok (.getfield 9, 3) := by decide +kernel
theorem dX2_partsAfter_4 : decode cX2_partsAfter 4 = .ok (.istore_n 3, 1) := by decide +kernel
theorem dX2_partsAfter_5 : decode cX2_partsAfter 5 = .ok (.iconst 0, 1) := by decide +kernel
theorem dX2_partsAfter_6 : decode cX2_partsAfter 6 = .ok (.istore 4, 2) := by decide +kernel
theorem dX2_partsAfter_8 : decode cX2_partsAfter 8 = .ok (.iload 4, 2) := by decide +kernel
theorem dX2_partsAfter_10 : decode cX2_partsAfter 10 = .ok (.bipush 8, 2) := by decide +kernel
theorem dX2_partsAfter_12 : decode cX2_partsAfter 12 = .ok (.if_icmp .ge 46, 3) := by decide +kernel
theorem dX2_partsAfter_15 : decode cX2_partsAfter 15 = .ok (.iload 4, 2) := by decide +kernel
theorem dX2_partsAfter_17 : decode cX2_partsAfter 17 = .ok (.iload_n 2, 1) := by decide +kernel
theorem dX2_partsAfter_18 : decode cX2_partsAfter 18 = .ok (.if_icmp .ge 40, 3) := by decide +kernel
theorem dX2_partsAfter_21 : decode cX2_partsAfter 21 = .ok (.iload_n 2, 1) := by decide +kernel
theorem dX2_partsAfter_22 : decode cX2_partsAfter 22 = .ok (.iconst 1, 1) := by decide +kernel
theorem dX2_partsAfter_23 : decode cX2_partsAfter 23 = .ok (.isub, 1) := by decide +kernel
theorem dX2_partsAfter_24 : decode cX2_partsAfter 24 = .ok (.iload 4, 2) := by decide +kernel
theorem dX2_partsAfter_26 : decode cX2_partsAfter 26 = .ok (.isub, 1) := by decide +kernel
theorem dX2_partsAfter_27 : decode cX2_partsAfter 27 = .ok (.bipush 8, 2) := by decide +kernel
theorem dX2_partsAfter_29 : decode cX2_partsAfter 29 = .ok (.idiv, 1) := by decide +kernel
theorem dX2_partsAfter_30 : decode cX2_partsAfter 30 = .ok (.iconst 1, 1) := by decide +kernel
theorem dX2_partsAfter_31 : decode cX2_partsAfter 31 = .ok (.iadd, 1) := by decide +kernel
theorem dX2_partsAfter_32 : decode cX2_partsAfter 32 = .ok (.istore 5, 2) := by decide +kernel
theorem dX2_partsAfter_34 : decode cX2_partsAfter 34 = .ok (.iload_n 3, 1) := by decide +kernel
theorem dX2_partsAfter_35 : decode cX2_partsAfter 35 = .ok (.iload 5, 2) := by decide +kernel
theorem dX2_partsAfter_37 : decode cX2_partsAfter 37 = .ok (.aload_n 0, 1) := by decide +kernel
theorem dX2_partsAfter_38 : decode cX2_partsAfter 38 = .ok (.iload_n 1, 1) := by decide +kernel
theorem dX2_partsAfter_39 : decode cX2_partsAfter 39 = .ok (.aload_n 0, 1) := by decide +kernel
theorem dX2_partsAfter_40 : decode cX2_partsAfter 40 = .ok (.getfield 15, 3) := by decide +kernel
theorem dX2_partsAfter_43 : decode cX2_partsAfter 43 = .ok (.iload 4, 2) := by decide +kernel
theorem dX2_partsAfter_45 : decode cX2_partsAfter 45 = .ok (.iadd, 1) := by decide +kernel
theorem dX2_partsAfter_46 : decode cX2_partsAfter 46 = .ok (.invokevirtual 18, 3) := by decide +kernel
theorem dX2_partsAfter_49 : decode cX2_partsAfter 49 = .ok (.imul, 1) := by decide +kernel
theorem dX2_partsAfter_50 : decode cX2_partsAfter 50 = .ok (.iadd, 1) := by decide +kernel
theorem dX2_partsAfter_51 : decode cX2_partsAfter 51 = .ok (.istore_n 3, 1) := by decide +kernel
theorem dX2_partsAfter_52 : decode cX2_partsAfter 52 = .ok (.iinc 4 1, 3) := by decide +kernel
theorem dX2_partsAfter_55 : decode cX2_partsAfter 55 = .ok (.goto (-47), 3) := by decide +kernel
theorem dX2_partsAfter_58 : decode cX2_partsAfter 58 = .ok (.iload_n 3, 1) := by decide +kernel
theorem dX2_partsAfter_59 : decode cX2_partsAfter 59 = .ok (.ireturn, 1) := by decide +kernel
theorem dX2_shownAfter_0 : decode cX2_shownAfter 0 = .ok (.aload_n 0, 1) := by decide +kernel
theorem dX2_shownAfter_1 : decode cX2_shownAfter 1 = .ok (.iload_n 1, 1) := by decide +kernel
theorem dX2_shownAfter_2 : decode cX2_shownAfter 2 = .ok (.iload_n 2, 1) := by decide +kernel
theorem dX2_shownAfter_3 : decode cX2_shownAfter 3 = .ok (.invokestatic 22, 3) := by decide +kernel
theorem dX2_shownAfter_6 : decode cX2_shownAfter 6 = .ok (.bipush 12, 2) := by decide +kernel
theorem dX2_shownAfter_8 : decode cX2_shownAfter 8 = .ok (.idiv, 1) := by decide +kernel
theorem dX2_shownAfter_9 : decode cX2_shownAfter 9 = .ok (.ireturn, 1) := by decide +kernel
theorem dX2_quartersTillShown_0 : decode cX2_quartersTillShown 0 = .ok (.aload_n 0, 1) := by decide +kernel
theorem dX2_quartersTillShown_1 : decode cX2_quartersTillShown 1 = .ok (.invokevirtual 28, 3) := by decide +kernel
theorem dX2_quartersTillShown_4 : decode cX2_quartersTillShown 4 = .ok (.istore_n 2, 1) := by decide +kernel
theorem dX2_quartersTillShown_5 : decode cX2_quartersTillShown 5 = .ok (.aload_n 0, 1) := by decide +kernel
theorem dX2_quartersTillShown_6 : decode cX2_quartersTillShown 6 = .ok (.getfield 9, 3) := by decide +kernel
theorem dX2_quartersTillShown_9 : decode cX2_quartersTillShown 9 = .ok (.istore_n 3, 1) := by decide +kernel
theorem dX2_quartersTillShown_10 : decode cX2_quartersTillShown 10 = .ok (.iconst 0, 1) := by decide +kernel
theorem dX2_quartersTillShown_11 : decode cX2_quartersTillShown 11 = .ok (.istore 4, 2) := by decide +kernel
theorem dX2_quartersTillShown_13 : decode cX2_quartersTillShown 13 = .ok (.iload 4, 2) := by decide +kernel
theorem dX2_quartersTillShown_15 : decode cX2_quartersTillShown 15 = .ok (.bipush 99, 2) := by decide +kernel
theorem dX2_quartersTillShown_17 : decode cX2_quartersTillShown 17 = .ok (.if_icmp .gt 35, 3) := by decide +kernel
theorem dX2_quartersTillShown_20 : decode cX2_quartersTillShown 20 = .ok (.iload_n 3, 1) := by decide +kernel
theorem dX2_quartersTillShown_21 : decode cX2_quartersTillShown 21 = .ok (.bipush 12, 2) := by decide +kernel
theorem dX2_quartersTillShown_23 : decode cX2_quartersTillShown 23 = .ok (.idiv, 1) := by decide +kernel
theorem dX2_quartersTillShown_24 : decode cX2_quartersTillShown 24 = .ok (.iload_n 1, 1) := by decide +kernel
theorem dX2_quartersTillShown_25 : decode cX2_quartersTillShown 25 = .ok (.if_icmp .lt 6, 3) := by decide +kernel
theorem dX2_quartersTillShown_28 : decode cX2_quartersTillShown 28 = .ok (.iload 4, 2) := by decide +kernel
theorem dX2_quartersTillShown_30 : decode cX2_quartersTillShown 30 = .ok (.ireturn, 1) := by decide +kernel
theorem dX2_quartersTillShown_31 : decode cX2_quartersTillShown 31 = .ok (.iload_n 3, 1) := by decide +kernel
theorem dX2_quartersTillShown_32 : decode cX2_quartersTillShown 32 = .ok (.aload_n 0, 1) := by decide +kernel
theorem dX2_quartersTillShown_33 : decode cX2_quartersTillShown 33 = .ok (.iload_n 2, 1) := by decide +kernel
theorem dX2_quartersTillShown_34 : decode cX2_quartersTillShown 34 = .ok (.aload_n 0, 1) := by decide +kernel
theorem dX2_quartersTillShown_35 : decode cX2_quartersTillShown 35 = .ok (.getfield 15, 3) := by decide +kernel
theorem dX2_quartersTillShown_38 : decode cX2_quartersTillShown 38 = .ok (.iload 4, 2) := by decide +kernel
theorem dX2_quartersTillShown_40 : decode cX2_quartersTillShown 40 = .ok (.iadd, 1) := by decide +kernel
theorem dX2_quartersTillShown_41 : decode cX2_quartersTillShown 41 = .ok (.invokevirtual 18, 3) := by decide +kernel
theorem dX2_quartersTillShown_44 : decode cX2_quartersTillShown 44 = .ok (.iadd, 1) := by decide +kernel
theorem dX2_quartersTillShown_45 : decode cX2_quartersTillShown 45 = .ok (.istore_n 3, 1) := by decide +kernel
theorem dX2_quartersTillShown_46 : decode cX2_quartersTillShown 46 = .ok (.iinc 4 1, 3) := by decide +kernel
theorem dX2_quartersTillShown_49 : decode cX2_quartersTillShown 49 = .ok (.goto (-36), 3) := by decide +kernel
theorem dX2_quartersTillShown_52 : decode cX2_quartersTillShown 52 = .ok (.ldc 32, 2) := by decide +kernel
theorem dX2_quartersTillShown_54 : decode cX2_quartersTillShown 54 = .ok (.ireturn, 1) := by decide +kernel
theorem dX2_partsNeeded_0 : decode cX2_partsNeeded 0 = .ok (.bipush 12, 2) := by decide +kernel
theorem dX2_partsNeeded_2 : decode cX2_partsNeeded 2 = .ok (.aload_n 0, 1) := by decide +kernel
theorem dX2_partsNeeded_3 : decode cX2_partsNeeded 3 = .ok (.getfield 33, 3) := by decide +kernel
theorem dX2_partsNeeded_6 : decode cX2_partsNeeded 6 = .ok (.iload_n 1, 1) := by decide +kernel
theorem dX2_partsNeeded_7 : decode cX2_partsNeeded 7 = .ok (.iaload, 1) := by decide +kernel
theorem dX2_partsNeeded_8 : decode cX2_partsNeeded 8 = .ok (.imul, 1) := by decide +kernel
theorem dX2_partsNeeded_9 : decode cX2_partsNeeded 9 = .ok (.ireturn, 1) := by decide +kernel
theorem dX2_doneOn_0 : decode cX2_doneOn 0 = .ok (.aload_n 0, 1) := by decide +kernel
theorem dX2_doneOn_1 : decode cX2_doneOn 1 = .ok (.invokevirtual 28, 3) := by decide +kernel
theorem dX2_doneOn_4 : decode cX2_doneOn 4 = .ok (.istore_n 2, 1) := by decide +kernel
theorem dX2_doneOn_5 : decode cX2_doneOn 5 = .ok (.aload_n 0, 1) := by decide +kernel
theorem dX2_doneOn_6 : decode cX2_doneOn 6 = .ok (.iload_n 1, 1) := by decide +kernel
theorem dX2_doneOn_7 : decode cX2_doneOn 7 = .ok (.invokestatic 37, 3) := by decide +kernel
theorem dX2_doneOn_10 : decode cX2_doneOn 10 = .ok (.istore_n 3, 1) := by decide +kernel
theorem dX2_doneOn_11 : decode cX2_doneOn 11 = .ok (.iconst 0, 1) := by decide +kernel
theorem dX2_doneOn_12 : decode cX2_doneOn 12 = .ok (.istore 4, 2) := by decide +kernel
theorem dX2_doneOn_14 : decode cX2_doneOn 14 = .ok (.aload_n 0, 1) := by decide +kernel
theorem dX2_doneOn_15 : decode cX2_doneOn 15 = .ok (.getfield 41, 3) := by decide +kernel
theorem dX2_doneOn_18 : decode cX2_doneOn 18 = .ok (.iload_n 1, 1) := by decide +kernel
theorem dX2_doneOn_19 : decode cX2_doneOn 19 = .ok (.iaload, 1) := by decide +kernel
theorem dX2_doneOn_20 : decode cX2_doneOn 20 = .ok (.istore 5, 2) := by decide +kernel
theorem dX2_doneOn_22 : decode cX2_doneOn 22 = .ok (.iload 5, 2) := by decide +kernel
theorem dX2_doneOn_24 : decode cX2_doneOn 24 = .ok (.aload_n 0, 1) := by decide +kernel
theorem dX2_doneOn_25 : decode cX2_doneOn 25 = .ok (.getfield 15, 3) := by decide +kernel
theorem dX2_doneOn_28 : decode cX2_doneOn 28 = .ok (.bipush 99, 2) := by decide +kernel
theorem dX2_doneOn_30 : decode cX2_doneOn 30 = .ok (.iadd, 1) := by decide +kernel
theorem dX2_doneOn_31 : decode cX2_doneOn 31 = .ok (.if_icmp .gt 48, 3) := by decide +kernel
theorem dX2_doneOn_34 : decode cX2_doneOn 34 = .ok (.iload 4, 2) := by decide +kernel
theorem dX2_doneOn_36 : decode cX2_doneOn 36 = .ok (.iload_n 3, 1) := by decide +kernel
theorem dX2_doneOn_37 : decode cX2_doneOn 37 = .ok (.if_icmp .lt 6, 3) := by decide +kernel
theorem dX2_doneOn_40 : decode cX2_doneOn 40 = .ok (.iload 5, 2) := by decide +kernel
theorem dX2_doneOn_42 : decode cX2_doneOn 42 = .ok (.ireturn, 1) := by decide +kernel
theorem dX2_doneOn_43 : decode cX2_doneOn 43 = .ok (.iload 4, 2) := by decide +kernel
theorem dX2_doneOn_45 : decode cX2_doneOn 45 = .ok (.aload_n 0, 1) := by decide +kernel
theorem dX2_doneOn_46 : decode cX2_doneOn 46 = .ok (.iload 5, 2) := by decide +kernel
theorem dX2_doneOn_48 : decode cX2_doneOn 48 = .ok (.invokevirtual 44, 3) := by decide +kernel
theorem dX2_doneOn_51 : decode cX2_doneOn 51 = .ok (.ifCond .eq 12, 3) := by decide +kernel
theorem dX2_doneOn_54 : decode cX2_doneOn 54 = .ok (.aload_n 0, 1) := by decide +kernel
theorem dX2_doneOn_55 : decode cX2_doneOn 55 = .ok (.iload 5, 2) := by decide +kernel
theorem dX2_doneOn_57 : decode cX2_doneOn 57 = .ok (.invokevirtual 48, 3) := by decide +kernel
theorem dX2_doneOn_60 : decode cX2_doneOn 60 = .ok (.goto 10, 3) := by decide +kernel
theorem dX2_doneOn_63 : decode cX2_doneOn 63 = .ok (.aload_n 0, 1) := by decide +kernel
theorem dX2_doneOn_64 : decode cX2_doneOn 64 = .ok (.iload_n 2, 1) := by decide +kernel
theorem dX2_doneOn_65 : decode cX2_doneOn 65 = .ok (.iload 5, 2) := by decide +kernel
theorem dX2_doneOn_67 : decode cX2_doneOn 67 = .ok (.invokevirtual 18, 3) := by decide +kernel
theorem dX2_doneOn_70 : decode cX2_doneOn 70 = .ok (.iadd, 1) := by decide +kernel
theorem dX2_doneOn_71 : decode cX2_doneOn 71 = .ok (.istore 4, 2) := by decide +kernel
theorem dX2_doneOn_73 : decode cX2_doneOn 73 = .ok (.iinc 5 1, 3) := by decide +kernel
theorem dX2_doneOn_76 : decode cX2_doneOn 76 = .ok (.goto (-54), 3) := by decide +kernel
theorem dX2_doneOn_79 : decode cX2_doneOn 79 = .ok (.ldc 32, 2) := by decide +kernel
theorem dX2_doneOn_81 : decode cX2_doneOn 81 = .ok (.ireturn, 1) := by decide +kernel
theorem dX2_lateDoings_0 : decode cX2_lateDoings 0 = .ok (.iconst 0, 1) := by decide +kernel
theorem dX2_lateDoings_1 : decode cX2_lateDoings 1 = .ok (.istore_n 1, 1) := by decide +kernel
theorem dX2_lateDoings_2 : decode cX2_lateDoings 2 = .ok (.iconst 0, 1) := by decide +kernel
theorem dX2_lateDoings_3 : decode cX2_lateDoings 3 = .ok (.istore_n 2, 1) := by decide +kernel
theorem dX2_lateDoings_4 : decode cX2_lateDoings 4 = .ok (.iload_n 2, 1) := by decide +kernel
theorem dX2_lateDoings_5 : decode cX2_lateDoings 5 = .ok (.aload_n 0, 1) := by decide +kernel
theorem dX2_lateDoings_6 : decode cX2_lateDoings 6 = .ok (.getfield 52, 3) := by decide +kernel
theorem dX2_lateDoings_9 : decode cX2_lateDoings 9 = .ok (.if_icmp .ge 37, 3) := by decide +kernel
theorem dX2_lateDoings_12 : decode cX2_lateDoings 12 = .ok (.aload_n 0, 1) := by decide +kernel
theorem dX2_lateDoings_13 : decode cX2_lateDoings 13 = .ok (.iload_n 2, 1) := by decide +kernel
theorem dX2_lateDoings_14 : decode cX2_lateDoings 14 = .ok (.invokestatic 55, 3) := by decide +kernel
theorem dX2_lateDoings_17 : decode cX2_lateDoings 17 = .ok (.istore_n 3, 1) := by decide +kernel
theorem dX2_lateDoings_18 : decode cX2_lateDoings 18 = .ok (.iload_n 3, 1) := by decide +kernel
theorem dX2_lateDoings_19 : decode cX2_lateDoings 19 = .ok (.ldc 32, 2) := by decide +kernel
theorem dX2_lateDoings_21 : decode cX2_lateDoings 21 = .ok (.if_icmp .eq 13, 3) := by decide +kernel
theorem dX2_lateDoings_24 : decode cX2_lateDoings 24 = .ok (.iload_n 3, 1) := by decide +kernel
theorem dX2_lateDoings_25 : decode cX2_lateDoings 25 = .ok (.aload_n 0, 1) := by decide +kernel
theorem dX2_lateDoings_26 : decode cX2_lateDoings 26 = .ok (.getfield 58, 3) := by decide +kernel
theorem dX2_lateDoings_29 : decode cX2_lateDoings 29 = .ok (.iload_n 2, 1) := by decide +kernel
theorem dX2_lateDoings_30 : decode cX2_lateDoings 30 = .ok (.iaload, 1) := by decide +kernel
theorem dX2_lateDoings_31 : decode cX2_lateDoings 31 = .ok (.if_icmp .le 9, 3) := by decide +kernel
theorem dX2_lateDoings_34 : decode cX2_lateDoings 34 = .ok (.iload_n 1, 1) := by decide +kernel
theorem dX2_lateDoings_35 : decode cX2_lateDoings 35 = .ok (.iconst 1, 1) := by decide +kernel
theorem dX2_lateDoings_36 : decode cX2_lateDoings 36 = .ok (.iload_n 2, 1) := by decide +kernel
theorem dX2_lateDoings_37 : decode cX2_lateDoings 37 = .ok (.ishl, 1) := by decide +kernel
theorem dX2_lateDoings_38 : decode cX2_lateDoings 38 = .ok (.ior, 1) := by decide +kernel
theorem dX2_lateDoings_39 : decode cX2_lateDoings 39 = .ok (.istore_n 1, 1) := by decide +kernel
theorem dX2_lateDoings_40 : decode cX2_lateDoings 40 = .ok (.iinc 2 1, 3) := by decide +kernel
theorem dX2_lateDoings_43 : decode cX2_lateDoings 43 = .ok (.goto (-39), 3) := by decide +kernel
theorem dX2_lateDoings_46 : decode cX2_lateDoings 46 = .ok (.iload_n 1, 1) := by decide +kernel
theorem dX2_lateDoings_47 : decode cX2_lateDoings 47 = .ok (.ireturn, 1) := by decide +kernel
theorem dX2_latestBegin_0 : decode cX2_latestBegin 0 = .ok (.aload_n 0, 1) := by decide +kernel
theorem dX2_latestBegin_1 : decode cX2_latestBegin 1 = .ok (.invokevirtual 28, 3) := by decide +kernel
theorem dX2_latestBegin_4 : decode cX2_latestBegin 4 = .ok (.istore_n 2, 1) := by decide +kernel
theorem dX2_latestBegin_5 : decode cX2_latestBegin 5 = .ok (.aload_n 0, 1) := by decide +kernel
theorem dX2_latestBegin_6 : decode cX2_latestBegin 6 = .ok (.iload_n 1, 1) := by decide +kernel
theorem dX2_latestBegin_7 : decode cX2_latestBegin 7 = .ok (.invokestatic 37, 3) := by decide +kernel
theorem dX2_latestBegin_10 : decode cX2_latestBegin 10 = .ok (.istore_n 3, 1) := by decide +kernel
theorem dX2_latestBegin_11 : decode cX2_latestBegin 11 = .ok (.iconst 0, 1) := by decide +kernel
theorem dX2_latestBegin_12 : decode cX2_latestBegin 12 = .ok (.istore 4, 2) := by decide +kernel
theorem dX2_latestBegin_14 : decode cX2_latestBegin 14 = .ok (.aload_n 0, 1) := by decide +kernel
theorem dX2_latestBegin_15 : decode cX2_latestBegin 15 = .ok (.getfield 58, 3) := by decide +kernel
theorem dX2_latestBegin_18 : decode cX2_latestBegin 18 = .ok (.iload_n 1, 1) := by decide +kernel
theorem dX2_latestBegin_19 : decode cX2_latestBegin 19 = .ok (.iaload, 1) := by decide +kernel
theorem dX2_latestBegin_20 : decode cX2_latestBegin 20 = .ok (.iconst 1, 1) := by decide +kernel
theorem dX2_latestBegin_21 : decode cX2_latestBegin 21 = .ok (.isub, 1) := by decide +kernel
theorem dX2_latestBegin_22 : decode cX2_latestBegin 22 = .ok (.istore 5, 2) := by decide +kernel
theorem dX2_latestBegin_24 : decode cX2_latestBegin 24 = .ok (.iload 5, 2) := by decide +kernel
theorem dX2_latestBegin_26 : decode cX2_latestBegin 26 = .ok (.aload_n 0, 1) := by decide +kernel
theorem dX2_latestBegin_27 : decode cX2_latestBegin 27 = .ok (.getfield 15, 3) := by decide +kernel
theorem dX2_latestBegin_30 : decode cX2_latestBegin 30 = .ok (.if_icmp .lt 35, 3) := by decide +kernel
theorem dX2_latestBegin_33 : decode cX2_latestBegin 33 = .ok (.iload 4, 2) := by decide +kernel
theorem dX2_latestBegin_35 : decode cX2_latestBegin 35 = .ok (.aload_n 0, 1) := by decide +kernel
theorem dX2_latestBegin_36 : decode cX2_latestBegin 36 = .ok (.iload_n 2, 1) := by decide +kernel
theorem dX2_latestBegin_37 : decode cX2_latestBegin 37 = .ok (.iload 5, 2) := by decide +kernel
theorem dX2_latestBegin_39 : decode cX2_latestBegin 39 = .ok (.invokevirtual 18, 3) := by decide +kernel
theorem dX2_latestBegin_42 : decode cX2_latestBegin 42 = .ok (.iadd, 1) := by decide +kernel
theorem dX2_latestBegin_43 : decode cX2_latestBegin 43 = .ok (.istore 4, 2) := by decide +kernel
theorem dX2_latestBegin_45 : decode cX2_latestBegin 45 = .ok (.iload 4, 2) := by decide +kernel
theorem dX2_latestBegin_47 : decode cX2_latestBegin 47 = .ok (.iload_n 3, 1) := by decide +kernel
theorem dX2_latestBegin_48 : decode cX2_latestBegin 48 = .ok (.if_icmp .lt 11, 3) := by decide +kernel
theorem dX2_latestBegin_51 : decode cX2_latestBegin 51 = .ok (.iload 5, 2) := by decide +kernel
theorem dX2_latestBegin_53 : decode cX2_latestBegin 53 = .ok (.aload_n 0, 1) := by decide +kernel
theorem dX2_latestBegin_54 : decode cX2_latestBegin 54 = .ok (.getfield 15, 3) := by decide +kernel
theorem dX2_latestBegin_57 : decode cX2_latestBegin 57 = .ok (.isub, 1) := by decide +kernel
theorem dX2_latestBegin_58 : decode cX2_latestBegin 58 = .ok (.ireturn, 1) := by decide +kernel
theorem dX2_latestBegin_59 : decode cX2_latestBegin 59 = .ok (.iinc 5 (-1), 3) := by decide +kernel
theorem dX2_latestBegin_62 : decode cX2_latestBegin 62 = .ok (.goto (-38), 3) := by decide +kernel
theorem dX2_latestBegin_65 : decode cX2_latestBegin 65 = .ok (.ldc 32, 2) := by decide +kernel
theorem dX2_latestBegin_67 : decode cX2_latestBegin 67 = .ok (.ireturn, 1) := by decide +kernel
theorem dX2_fewestToBeHushed_0 : decode cX2_fewestToBeHushed 0 = .ok (.aload_n 0, 1) := by decide +kernel
theorem dX2_fewestToBeHushed_1 : decode cX2_fewestToBeHushed 1 = .ok (.invokevirtual 28, 3) := by decide +kernel
theorem dX2_fewestToBeHushed_4 : decode cX2_fewestToBeHushed 4 = .ok (.istore_n 3, 1) := by decide +kernel
theorem dX2_fewestToBeHushed_5 : decode cX2_fewestToBeHushed 5 = .ok (.ldc 32, 2) := by decide +kernel
theorem dX2_fewestToBeHushed_7 : decode cX2_fewestToBeHushed 7 = .ok (.istore 4, 2) := by decide +kernel
theorem dX2_fewestToBeHushed_9 : decode cX2_fewestToBeHushed 9 = .ok (.iconst 0, 1) := by decide +kernel
theorem dX2_fewestToBeHushed_10 : decode cX2_fewestToBeHushed 10 = .ok (.istore 5, 2) := by decide +kernel
theorem dX2_fewestToBeHushed_12 : decode cX2_fewestToBeHushed 12 = .ok (.iload 5, 2) := by decide +kernel
theorem dX2_fewestToBeHushed_14 : decode cX2_fewestToBeHushed 14 = .ok (.aload_n 0, 1) := by decide +kernel
theorem dX2_fewestToBeHushed_15 : decode cX2_fewestToBeHushed 15 = .ok (.invokevirtual 61, 3) := by decide +kernel
theorem dX2_fewestToBeHushed_18 : decode cX2_fewestToBeHushed 18 = .ok (.if_icmp .ge 48, 3) := by decide +kernel
theorem dX2_fewestToBeHushed_21 : decode cX2_fewestToBeHushed 21 = .ok (.iload 5, 2) := by decide +kernel
theorem dX2_fewestToBeHushed_23 : decode cX2_fewestToBeHushed 23 = .ok (.aload_n 0, 1) := by decide +kernel
theorem dX2_fewestToBeHushed_24 : decode cX2_fewestToBeHushed 24 = .ok (.getfield 64, 3) := by decide +kernel
theorem dX2_fewestToBeHushed_27 : decode cX2_fewestToBeHushed 27 = .ok (.iand, 1) := by decide +kernel
theorem dX2_fewestToBeHushed_28 : decode cX2_fewestToBeHushed 28 = .ok (.ifCond .ne 32, 3) := by decide +kernel
theorem dX2_fewestToBeHushed_31 : decode cX2_fewestToBeHushed 31 = .ok (.iload 5, 2) := by decide +kernel
theorem dX2_fewestToBeHushed_33 : decode cX2_fewestToBeHushed 33 = .ok (.iload 4, 2) := by decide +kernel
theorem dX2_fewestToBeHushed_35 : decode cX2_fewestToBeHushed 35 = .ok (.invokestatic 67, 3) := by decide +kernel
theorem dX2_fewestToBeHushed_38 : decode cX2_fewestToBeHushed 38 = .ok (.ifCond .eq 22, 3) := by decide +kernel
theorem dX2_fewestToBeHushed_41 : decode cX2_fewestToBeHushed 41 = .ok (.aload_n 0, 1) := by decide +kernel
theorem dX2_fewestToBeHushed_42 : decode cX2_fewestToBeHushed 42 = .ok (.iload_n 3, 1) := by decide +kernel
theorem dX2_fewestToBeHushed_43 : decode cX2_fewestToBeHushed 43 = .ok (.iload 5, 2) := by decide +kernel
theorem dX2_fewestToBeHushed_45 : decode cX2_fewestToBeHushed 45 = .ok (.iconst (-1), 1) := by decide +kernel
theorem dX2_fewestToBeHushed_46 : decode cX2_fewestToBeHushed 46 = .ok (.ixor, 1) := by decide +kernel
theorem dX2_fewestToBeHushed_47 : decode cX2_fewestToBeHushed 47 = .ok (.iand, 1) := by decide +kernel
theorem dX2_fewestToBeHushed_48 : decode cX2_fewestToBeHushed 48 = .ok (.iload_n 2, 1) := by decide +kernel
theorem dX2_fewestToBeHushed_49 : decode cX2_fewestToBeHushed 49 = .ok (.invokestatic 71, 3) := by decide +kernel
theorem dX2_fewestToBeHushed_52 : decode cX2_fewestToBeHushed 52 = .ok (.iload_n 1, 1) := by decide +kernel
theorem dX2_fewestToBeHushed_53 : decode cX2_fewestToBeHushed 53 = .ok (.if_icmp .gt 7, 3) := by decide +kernel
theorem dX2_fewestToBeHushed_56 : decode cX2_fewestToBeHushed 56 = .ok (.iload 5, 2) := by decide +kernel
theorem dX2_fewestToBeHushed_58 : decode cX2_fewestToBeHushed 58 = .ok (.istore 4, 2) := by decide +kernel
theorem dX2_fewestToBeHushed_60 : decode cX2_fewestToBeHushed 60 = .ok (.iinc 5 1, 3) := by decide +kernel
theorem dX2_fewestToBeHushed_63 : decode cX2_fewestToBeHushed 63 = .ok (.goto (-51), 3) := by decide +kernel
theorem dX2_fewestToBeHushed_66 : decode cX2_fewestToBeHushed 66 = .ok (.iload 4, 2) := by decide +kernel
theorem dX2_fewestToBeHushed_68 : decode cX2_fewestToBeHushed 68 = .ok (.ireturn, 1) := by decide +kernel
theorem dX2_fewestToBeCalled_0 : decode cX2_fewestToBeCalled 0 = .ok (.aload_n 0, 1) := by decide +kernel
theorem dX2_fewestToBeCalled_1 : decode cX2_fewestToBeCalled 1 = .ok (.invokevirtual 28, 3) := by decide +kernel
theorem dX2_fewestToBeCalled_4 : decode cX2_fewestToBeCalled 4 = .ok (.istore_n 3, 1) := by decide +kernel
theorem dX2_fewestToBeCalled_5 : decode cX2_fewestToBeCalled 5 = .ok (.aload_n 0, 1) := by decide +kernel
theorem dX2_fewestToBeCalled_6 : decode cX2_fewestToBeCalled 6 = .ok (.invokevirtual 74, 3) := by decide +kernel
theorem dX2_fewestToBeCalled_9 : decode cX2_fewestToBeCalled 9 = .ok (.istore 4, 2) := by decide +kernel
theorem dX2_fewestToBeCalled_11 : decode cX2_fewestToBeCalled 11 = .ok (.ldc 32, 2) := by decide +kernel
theorem dX2_fewestToBeCalled_13 : decode cX2_fewestToBeCalled 13 = .ok (.istore 5, 2) := by decide +kernel
theorem dX2_fewestToBeCalled_15 : decode cX2_fewestToBeCalled 15 = .ok (.iconst 0, 1) := by decide +kernel
theorem dX2_fewestToBeCalled_16 : decode cX2_fewestToBeCalled 16 = .ok (.istore 6, 2) := by decide +kernel
theorem dX2_fewestToBeCalled_18 : decode cX2_fewestToBeCalled 18 = .ok (.iload 6, 2) := by decide +kernel
theorem dX2_fewestToBeCalled_20 : decode cX2_fewestToBeCalled 20 = .ok (.aload_n 0, 1) := by decide +kernel
theorem dX2_fewestToBeCalled_21 : decode cX2_fewestToBeCalled 21 = .ok (.invokevirtual 61, 3) := by decide +kernel
theorem dX2_fewestToBeCalled_24 : decode cX2_fewestToBeCalled 24 = .ok (.if_icmp .ge 44, 3) := by decide +kernel
theorem dX2_fewestToBeCalled_27 : decode cX2_fewestToBeCalled 27 = .ok (.iload 6, 2) := by decide +kernel
theorem dX2_fewestToBeCalled_29 : decode cX2_fewestToBeCalled 29 = .ok (.iload 4, 2) := by decide +kernel
theorem dX2_fewestToBeCalled_31 : decode cX2_fewestToBeCalled 31 = .ok (.iand, 1) := by decide +kernel
theorem dX2_fewestToBeCalled_32 : decode cX2_fewestToBeCalled 32 = .ok (.ifCond .ne 30, 3) := by decide +kernel
theorem dX2_fewestToBeCalled_35 : decode cX2_fewestToBeCalled 35 = .ok (.iload 6, 2) := by decide +kernel
theorem dX2_fewestToBeCalled_37 : decode cX2_fewestToBeCalled 37 = .ok (.iload 5, 2) := by decide +kernel
theorem dX2_fewestToBeCalled_39 : decode cX2_fewestToBeCalled 39 = .ok (.invokestatic 67, 3) := by decide +kernel
theorem dX2_fewestToBeCalled_42 : decode cX2_fewestToBeCalled 42 = .ok (.ifCond .eq 20, 3) := by decide +kernel
theorem dX2_fewestToBeCalled_45 : decode cX2_fewestToBeCalled 45 = .ok (.aload_n 0, 1) := by decide +kernel
theorem dX2_fewestToBeCalled_46 : decode cX2_fewestToBeCalled 46 = .ok (.iload_n 3, 1) := by decide +kernel
theorem dX2_fewestToBeCalled_47 : decode cX2_fewestToBeCalled 47 = .ok (.iload 6, 2) := by decide +kernel
theorem dX2_fewestToBeCalled_49 : decode cX2_fewestToBeCalled 49 = .ok (.ior, 1) := by decide +kernel
theorem dX2_fewestToBeCalled_50 : decode cX2_fewestToBeCalled 50 = .ok (.iload_n 2, 1) := by decide +kernel
theorem dX2_fewestToBeCalled_51 : decode cX2_fewestToBeCalled 51 = .ok (.invokestatic 71, 3) := by decide +kernel
theorem dX2_fewestToBeCalled_54 : decode cX2_fewestToBeCalled 54 = .ok (.iload_n 1, 1) := by decide +kernel
theorem dX2_fewestToBeCalled_55 : decode cX2_fewestToBeCalled 55 = .ok (.if_icmp .lt 7, 3) := by decide +kernel
theorem dX2_fewestToBeCalled_58 : decode cX2_fewestToBeCalled 58 = .ok (.iload 6, 2) := by decide +kernel
theorem dX2_fewestToBeCalled_60 : decode cX2_fewestToBeCalled 60 = .ok (.istore 5, 2) := by decide +kernel
theorem dX2_fewestToBeCalled_62 : decode cX2_fewestToBeCalled 62 = .ok (.iinc 6 1, 3) := by decide +kernel
theorem dX2_fewestToBeCalled_65 : decode cX2_fewestToBeCalled 65 = .ok (.goto (-47), 3) := by decide +kernel
theorem dX2_fewestToBeCalled_68 : decode cX2_fewestToBeCalled 68 = .ok (.iload 5, 2) := by decide +kernel
theorem dX2_fewestToBeCalled_70 : decode cX2_fewestToBeCalled 70 = .ok (.ireturn, 1) := by decide +kernel
theorem dX2_isFewer_0 : decode cX2_isFewer 0 = .ok (.iload_n 1, 1) := by decide +kernel
theorem dX2_isFewer_1 : decode cX2_isFewer 1 = .ok (.ldc 32, 2) := by decide +kernel
theorem dX2_isFewer_3 : decode cX2_isFewer 3 = .ok (.if_icmp .eq 14, 3) := by decide +kernel
theorem dX2_isFewer_6 : decode cX2_isFewer 6 = .ok (.iload_n 0, 1) := by decide +kernel
theorem dX2_isFewer_7 : decode cX2_isFewer 7 = .ok (.invokestatic 77, 3) := by decide +kernel
theorem dX2_isFewer_10 : decode cX2_isFewer 10 = .ok (.iload_n 1, 1) := by decide +kernel
theorem dX2_isFewer_11 : decode cX2_isFewer 11 = .ok (.invokestatic 77, 3) := by decide +kernel
theorem dX2_isFewer_14 : decode cX2_isFewer 14 = .ok (.if_icmp .ge 7, 3) := by decide +kernel
theorem dX2_isFewer_17 : decode cX2_isFewer 17 = .ok (.iconst 1, 1) := by decide +kernel
theorem dX2_isFewer_18 : decode cX2_isFewer 18 = .ok (.goto 4, 3) := by decide +kernel
theorem dX2_isFewer_21 : decode cX2_isFewer 21 = .ok (.iconst 0, 1) := by decide +kernel
theorem dX2_isFewer_22 : decode cX2_isFewer 22 = .ok (.ireturn, 1) := by decide +kernel
theorem dX2_goesSo_0 : decode cX2_goesSo 0 = .ok (.iconst 0, 1) := by decide +kernel
theorem dX2_goesSo_1 : decode cX2_goesSo 1 = .ok (.istore 6, 2) := by decide +kernel
theorem dX2_goesSo_3 : decode cX2_goesSo 3 = .ok (.iload 6, 2) := by decide +kernel
theorem dX2_goesSo_5 : decode cX2_goesSo 5 = .ok (.iload 5, 2) := by decide +kernel
theorem dX2_goesSo_7 : decode cX2_goesSo 7 = .ok (.if_icmp .ge 36, 3) := by decide +kernel
theorem dX2_goesSo_10 : decode cX2_goesSo 10 = .ok (.aload_n 0, 1) := by decide +kernel
theorem dX2_goesSo_11 : decode cX2_goesSo 11 = .ok (.iload_n 1, 1) := by decide +kernel
theorem dX2_goesSo_12 : decode cX2_goesSo 12 = .ok (.aload_n 0, 1) := by decide +kernel
theorem dX2_goesSo_13 : decode cX2_goesSo 13 = .ok (.getfield 15, 3) := by decide +kernel
theorem dX2_goesSo_16 : decode cX2_goesSo 16 = .ok (.iload 6, 2) := by decide +kernel
theorem dX2_goesSo_18 : decode cX2_goesSo 18 = .ok (.iadd, 1) := by decide +kernel
theorem dX2_goesSo_19 : decode cX2_goesSo 19 = .ok (.invokevirtual 18, 3) := by decide +kernel
theorem dX2_goesSo_22 : decode cX2_goesSo 22 = .ok (.aload_n 2, 1) := by decide +kernel
theorem dX2_goesSo_23 : decode cX2_goesSo 23 = .ok (.iload_n 3, 1) := by decide +kernel
theorem dX2_goesSo_24 : decode cX2_goesSo 24 = .ok (.iload 4, 2) := by decide +kernel
theorem dX2_goesSo_26 : decode cX2_goesSo 26 = .ok (.iload 6, 2) := by decide +kernel
theorem dX2_goesSo_28 : decode cX2_goesSo 28 = .ok (.iadd, 1) := by decide +kernel
theorem dX2_goesSo_29 : decode cX2_goesSo 29 = .ok (.invokevirtual 82, 3) := by decide +kernel
theorem dX2_goesSo_32 : decode cX2_goesSo 32 = .ok (.if_icmp .eq 5, 3) := by decide +kernel
theorem dX2_goesSo_35 : decode cX2_goesSo 35 = .ok (.iconst 0, 1) := by decide +kernel
theorem dX2_goesSo_36 : decode cX2_goesSo 36 = .ok (.ireturn, 1) := by decide +kernel
theorem dX2_goesSo_37 : decode cX2_goesSo 37 = .ok (.iinc 6 1, 3) := by decide +kernel
theorem dX2_goesSo_40 : decode cX2_goesSo 40 = .ok (.goto (-37), 3) := by decide +kernel
theorem dX2_goesSo_43 : decode cX2_goesSo 43 = .ok (.iconst 1, 1) := by decide +kernel
theorem dX2_goesSo_44 : decode cX2_goesSo 44 = .ok (.ireturn, 1) := by decide +kernel
theorem dX2_setsThatGoSo_0 : decode cX2_setsThatGoSo 0 = .ok (.lconst 0, 1) := by decide +kernel
theorem dX2_setsThatGoSo_1 : decode cX2_setsThatGoSo 1 = .ok (.lstore 5, 2) := by decide +kernel
theorem dX2_setsThatGoSo_3 : decode cX2_setsThatGoSo 3 = .ok (.iconst 0, 1) := by decide +kernel
theorem dX2_setsThatGoSo_4 : decode cX2_setsThatGoSo 4 = .ok (.istore 7, 2) := by decide +kernel
theorem dX2_setsThatGoSo_6 : decode cX2_setsThatGoSo 6 = .ok (.iload 7, 2) := by decide +kernel
theorem dX2_setsThatGoSo_8 : decode cX2_setsThatGoSo 8 = .ok (.aload_n 0, 1) := by decide +kernel
theorem dX2_setsThatGoSo_9 : decode cX2_setsThatGoSo 9 = .ok (.invokevirtual 61, 3) := by decide +kernel
theorem dX2_setsThatGoSo_12 : decode cX2_setsThatGoSo 12 = .ok (.if_icmp .ge 32, 3) := by decide +kernel
theorem dX2_setsThatGoSo_15 : decode cX2_setsThatGoSo 15 = .ok (.aload_n 0, 1) := by decide +kernel
theorem dX2_setsThatGoSo_16 : decode cX2_setsThatGoSo 16 = .ok (.iload 7, 2) := by decide +kernel
theorem dX2_setsThatGoSo_18 : decode cX2_setsThatGoSo 18 = .ok (.aload_n 1, 1) := by decide +kernel
theorem dX2_setsThatGoSo_19 : decode cX2_setsThatGoSo 19 = .ok (.iload_n 2, 1) := by decide +kernel
theorem dX2_setsThatGoSo_20 : decode cX2_setsThatGoSo 20 = .ok (.iload_n 3, 1) := by decide +kernel
theorem dX2_setsThatGoSo_21 : decode cX2_setsThatGoSo 21 = .ok (.iload 4, 2) := by decide +kernel
theorem dX2_setsThatGoSo_23 : decode cX2_setsThatGoSo 23 = .ok (.invokestatic 87, 3) := by decide +kernel
theorem dX2_setsThatGoSo_26 : decode cX2_setsThatGoSo 26 = .ok (.ifCond .eq 12, 3) := by decide +kernel
theorem dX2_setsThatGoSo_29 : decode cX2_setsThatGoSo 29 = .ok (.lload 5, 2) := by decide +kernel
theorem dX2_setsThatGoSo_31 : decode cX2_setsThatGoSo 31 = .ok (.lconst 1, 1) := by decide +kernel
theorem dX2_setsThatGoSo_32 : decode cX2_setsThatGoSo 32 = .ok (.iload 7, 2) := by decide +kernel
theorem dX2_setsThatGoSo_34 : decode cX2_setsThatGoSo 34 = .ok (.lshl, 1) := by decide +kernel
theorem dX2_setsThatGoSo_35 : decode cX2_setsThatGoSo 35 = .ok (.lor, 1) := by decide +kernel
theorem dX2_setsThatGoSo_36 : decode cX2_setsThatGoSo 36 = .ok (.lstore 5, 2) := by decide +kernel
theorem dX2_setsThatGoSo_38 : decode cX2_setsThatGoSo 38 = .ok (.iinc 7 1, 3) := by decide +kernel
theorem dX2_setsThatGoSo_41 : decode cX2_setsThatGoSo 41 = .ok (.goto (-35), 3) := by decide +kernel
theorem dX2_setsThatGoSo_44 : decode cX2_setsThatGoSo 44 = .ok (.lload 5, 2) := by decide +kernel
theorem dX2_setsThatGoSo_46 : decode cX2_setsThatGoSo 46 = .ok (.lreturn, 1) := by decide +kernel
theorem dX2_heedsThatGoSo_0 : decode cX2_heedsThatGoSo 0 = .ok (.aload_n 0, 1) := by decide +kernel
theorem dX2_heedsThatGoSo_1 : decode cX2_heedsThatGoSo 1 = .ok (.invokevirtual 28, 3) := by decide +kernel
theorem dX2_heedsThatGoSo_4 : decode cX2_heedsThatGoSo 4 = .ok (.istore 6, 2) := by decide +kernel
theorem dX2_heedsThatGoSo_6 : decode cX2_heedsThatGoSo 6 = .ok (.aload_n 0, 1) := by decide +kernel
theorem dX2_heedsThatGoSo_7 : decode cX2_heedsThatGoSo 7 = .ok (.getfield 91, 3) := by decide +kernel
theorem dX2_heedsThatGoSo_10 : decode cX2_heedsThatGoSo 10 = .ok (.iload_n 1, 1) := by decide +kernel
theorem dX2_heedsThatGoSo_11 : decode cX2_heedsThatGoSo 11 = .ok (.iaload, 1) := by decide +kernel
theorem dX2_heedsThatGoSo_12 : decode cX2_heedsThatGoSo 12 = .ok (.istore 7, 2) := by decide +kernel
theorem dX2_heedsThatGoSo_14 : decode cX2_heedsThatGoSo 14 = .ok (.iconst 0, 1) := by decide +kernel
theorem dX2_heedsThatGoSo_15 : decode cX2_heedsThatGoSo 15 = .ok (.istore 8, 2) := by decide +kernel
theorem dX2_heedsThatGoSo_17 : decode cX2_heedsThatGoSo 17 = .ok (.iconst 1, 1) := by decide +kernel
theorem dX2_heedsThatGoSo_18 : decode cX2_heedsThatGoSo 18 = .ok (.istore 9, 2) := by decide +kernel
theorem dX2_heedsThatGoSo_20 : decode cX2_heedsThatGoSo 20 = .ok (.iload 9, 2) := by decide +kernel
theorem dX2_heedsThatGoSo_22 : decode cX2_heedsThatGoSo 22 = .ok (.bipush 12, 2) := by decide +kernel
theorem dX2_heedsThatGoSo_24 : decode cX2_heedsThatGoSo 24 = .ok (.if_icmp .gt 43, 3) := by decide +kernel
theorem dX2_heedsThatGoSo_27 : decode cX2_heedsThatGoSo 27 = .ok (.aload_n 0, 1) := by decide +kernel
theorem dX2_heedsThatGoSo_28 : decode cX2_heedsThatGoSo 28 = .ok (.getfield 91, 3) := by decide +kernel
theorem dX2_heedsThatGoSo_31 : decode cX2_heedsThatGoSo 31 = .ok (.iload_n 1, 1) := by decide +kernel
theorem dX2_heedsThatGoSo_32 : decode cX2_heedsThatGoSo 32 = .ok (.iload 9, 2) := by decide +kernel
theorem dX2_heedsThatGoSo_34 : decode cX2_heedsThatGoSo 34 = .ok (.iastore, 1) := by decide +kernel
theorem dX2_heedsThatGoSo_35 : decode cX2_heedsThatGoSo 35 = .ok (.aload_n 0, 1) := by decide +kernel
theorem dX2_heedsThatGoSo_36 : decode cX2_heedsThatGoSo 36 = .ok (.iload 6, 2) := by decide +kernel
theorem dX2_heedsThatGoSo_38 : decode cX2_heedsThatGoSo 38 = .ok (.aload_n 2, 1) := by decide +kernel
theorem dX2_heedsThatGoSo_39 : decode cX2_heedsThatGoSo 39 = .ok (.iload_n 3, 1) := by decide +kernel
theorem dX2_heedsThatGoSo_40 : decode cX2_heedsThatGoSo 40 = .ok (.iload 4, 2) := by decide +kernel
theorem dX2_heedsThatGoSo_42 : decode cX2_heedsThatGoSo 42 = .ok (.iload 5, 2) := by decide +kernel
theorem dX2_heedsThatGoSo_44 : decode cX2_heedsThatGoSo 44 = .ok (.invokestatic 87, 3) := by decide +kernel
theorem dX2_heedsThatGoSo_47 : decode cX2_heedsThatGoSo 47 = .ok (.ifCond .eq 14, 3) := by decide +kernel
theorem dX2_heedsThatGoSo_50 : decode cX2_heedsThatGoSo 50 = .ok (.iload 8, 2) := by decide +kernel
theorem dX2_heedsThatGoSo_52 : decode cX2_heedsThatGoSo 52 = .ok (.iconst 1, 1) := by decide +kernel
theorem dX2_heedsThatGoSo_53 : decode cX2_heedsThatGoSo 53 = .ok (.iload 9, 2) := by decide +kernel
theorem dX2_heedsThatGoSo_55 : decode cX2_heedsThatGoSo 55 = .ok (.iconst 1, 1) := by decide +kernel
theorem dX2_heedsThatGoSo_56 : decode cX2_heedsThatGoSo 56 = .ok (.isub, 1) := by decide +kernel
theorem dX2_heedsThatGoSo_57 : decode cX2_heedsThatGoSo 57 = .ok (.ishl, 1) := by decide +kernel
theorem dX2_heedsThatGoSo_58 : decode cX2_heedsThatGoSo 58 = .ok (.ior, 1) := by decide +kernel
theorem dX2_heedsThatGoSo_59 : decode cX2_heedsThatGoSo 59 = .ok (.istore 8, 2) := by decide +kernel
theorem dX2_heedsThatGoSo_61 : decode cX2_heedsThatGoSo 61 = .ok (.iinc 9 1, 3) := by decide +kernel
theorem dX2_heedsThatGoSo_64 : decode cX2_heedsThatGoSo 64 = .ok (.goto (-44), 3) := by decide +kernel
theorem dX2_heedsThatGoSo_67 : decode cX2_heedsThatGoSo 67 = .ok (.aload_n 0, 1) := by decide +kernel
theorem dX2_heedsThatGoSo_68 : decode cX2_heedsThatGoSo 68 = .ok (.getfield 91, 3) := by decide +kernel
theorem dX2_heedsThatGoSo_71 : decode cX2_heedsThatGoSo 71 = .ok (.iload_n 1, 1) := by decide +kernel
theorem dX2_heedsThatGoSo_72 : decode cX2_heedsThatGoSo 72 = .ok (.iload 7, 2) := by decide +kernel
theorem dX2_heedsThatGoSo_74 : decode cX2_heedsThatGoSo 74 = .ok (.iastore, 1) := by decide +kernel
theorem dX2_heedsThatGoSo_75 : decode cX2_heedsThatGoSo 75 = .ok (.iload 8, 2) := by decide +kernel
theorem dX2_heedsThatGoSo_77 : decode cX2_heedsThatGoSo 77 = .ok (.ireturn, 1) := by decide +kernel
theorem dX2_livedAfter_0 : decode cX2_livedAfter 0 = .ok (.aload_n 0, 1) := by decide +kernel
theorem dX2_livedAfter_1 : decode cX2_livedAfter 1 = .ok (.aload_n 0, 1) := by decide +kernel
theorem dX2_livedAfter_2 : decode cX2_livedAfter 2 = .ok (.invokevirtual 28, 3) := by decide +kernel
theorem dX2_livedAfter_5 : decode cX2_livedAfter 5 = .ok (.iload_n 2, 1) := by decide +kernel
theorem dX2_livedAfter_6 : decode cX2_livedAfter 6 = .ok (.invokestatic 22, 3) := by decide +kernel
theorem dX2_livedAfter_9 : decode cX2_livedAfter 9 = .ok (.aload_n 0, 1) := by decide +kernel
theorem dX2_livedAfter_10 : decode cX2_livedAfter 10 = .ok (.getfield 9, 3) := by decide +kernel
theorem dX2_livedAfter_13 : decode cX2_livedAfter 13 = .ok (.isub, 1) := by decide +kernel
theorem dX2_livedAfter_14 : decode cX2_livedAfter 14 = .ok (.istore_n 3, 1) := by decide +kernel
theorem dX2_livedAfter_15 : decode cX2_livedAfter 15 = .ok (.aload_n 0, 1) := by decide +kernel
theorem dX2_livedAfter_16 : decode cX2_livedAfter 16 = .ok (.getfield 94, 3) := by decide +kernel
theorem dX2_livedAfter_19 : decode cX2_livedAfter 19 = .ok (.iload_n 1, 1) := by decide +kernel
theorem dX2_livedAfter_20 : decode cX2_livedAfter 20 = .ok (.iaload, 1) := by decide +kernel
theorem dX2_livedAfter_21 : decode cX2_livedAfter 21 = .ok (.aload_n 0, 1) := by decide +kernel
theorem dX2_livedAfter_22 : decode cX2_livedAfter 22 = .ok (.iload_n 1, 1) := by decide +kernel
theorem dX2_livedAfter_23 : decode cX2_livedAfter 23 = .ok (.invokevirtual 97, 3) := by decide +kernel
theorem dX2_livedAfter_26 : decode cX2_livedAfter 26 = .ok (.ifCond .eq 7, 3) := by decide +kernel
theorem dX2_livedAfter_29 : decode cX2_livedAfter 29 = .ok (.iload_n 3, 1) := by decide +kernel
theorem dX2_livedAfter_30 : decode cX2_livedAfter 30 = .ok (.goto 7, 3) := by decide +kernel
theorem dX2_livedAfter_33 : decode cX2_livedAfter 33 = .ok (.bipush 12, 2) := by decide +kernel
theorem dX2_livedAfter_35 : decode cX2_livedAfter 35 = .ok (.iload_n 2, 1) := by decide +kernel
theorem dX2_livedAfter_36 : decode cX2_livedAfter 36 = .ok (.imul, 1) := by decide +kernel
theorem dX2_livedAfter_37 : decode cX2_livedAfter 37 = .ok (.iadd, 1) := by decide +kernel
theorem dX2_livedAfter_38 : decode cX2_livedAfter 38 = .ok (.ireturn, 1) := by decide +kernel
theorem dX2_chancesToGo_0 : decode cX2_chancesToGo 0 = .ok (.aload_n 0, 1) := by decide +kernel
theorem dX2_chancesToGo_1 : decode cX2_chancesToGo 1 = .ok (.invokevirtual 100, 3) := by decide +kernel
theorem dX2_chancesToGo_4 : decode cX2_chancesToGo 4 = .ok (.istore_n 3, 1) := by decide +kernel
theorem dX2_chancesToGo_5 : decode cX2_chancesToGo 5 = .ok (.iconst 0, 1) := by decide +kernel
theorem dX2_chancesToGo_6 : decode cX2_chancesToGo 6 = .ok (.istore 4, 2) := by decide +kernel
theorem dX2_chancesToGo_8 : decode cX2_chancesToGo 8 = .ok (.iconst 0, 1) := by decide +kernel
theorem dX2_chancesToGo_9 : decode cX2_chancesToGo 9 = .ok (.istore 5, 2) := by decide +kernel
theorem dX2_chancesToGo_11 : decode cX2_chancesToGo 11 = .ok (.iload 5, 2) := by decide +kernel
theorem dX2_chancesToGo_13 : decode cX2_chancesToGo 13 = .ok (.aload_n 0, 1) := by decide +kernel
theorem dX2_chancesToGo_14 : decode cX2_chancesToGo 14 = .ok (.invokevirtual 61, 3) := by decide +kernel
theorem dX2_chancesToGo_17 : decode cX2_chancesToGo 17 = .ok (.if_icmp .ge 67, 3) := by decide +kernel
theorem dX2_chancesToGo_20 : decode cX2_chancesToGo 20 = .ok (.iload 5, 2) := by decide +kernel
theorem dX2_chancesToGo_22 : decode cX2_chancesToGo 22 = .ok (.iload_n 3, 1) := by decide +kernel
theorem dX2_chancesToGo_23 : decode cX2_chancesToGo 23 = .ok (.iconst (-1), 1) := by decide +kernel
theorem dX2_chancesToGo_24 : decode cX2_chancesToGo 24 = .ok (.ixor, 1) := by decide +kernel
theorem dX2_chancesToGo_25 : decode cX2_chancesToGo 25 = .ok (.iand, 1) := by decide +kernel
theorem dX2_chancesToGo_26 : decode cX2_chancesToGo 26 = .ok (.ifCond .ne 52, 3) := by decide +kernel
theorem dX2_chancesToGo_29 : decode cX2_chancesToGo 29 = .ok (.aload_n 0, 1) := by decide +kernel
theorem dX2_chancesToGo_30 : decode cX2_chancesToGo 30 = .ok (.iload 5, 2) := by decide +kernel
theorem dX2_chancesToGo_32 : decode cX2_chancesToGo 32 = .ok (.aload_n 0, 1) := by decide +kernel
theorem dX2_chancesToGo_33 : decode cX2_chancesToGo 33 = .ok (.getfield 15, 3) := by decide +kernel
theorem dX2_chancesToGo_36 : decode cX2_chancesToGo 36 = .ok (.invokevirtual 18, 3) := by decide +kernel
theorem dX2_chancesToGo_39 : decode cX2_chancesToGo 39 = .ok (.iload_n 1, 1) := by decide +kernel
theorem dX2_chancesToGo_40 : decode cX2_chancesToGo 40 = .ok (.if_icmp .lt 38, 3) := by decide +kernel
theorem dX2_chancesToGo_43 : decode cX2_chancesToGo 43 = .ok (.bipush 10, 2) := by decide +kernel
theorem dX2_chancesToGo_45 : decode cX2_chancesToGo 45 = .ok (.iload_n 2, 1) := by decide +kernel
theorem dX2_chancesToGo_46 : decode cX2_chancesToGo 46 = .ok (.isub, 1) := by decide +kernel
theorem dX2_chancesToGo_47 : decode cX2_chancesToGo 47 = .ok (.iload 5, 2) := by decide +kernel
theorem dX2_chancesToGo_49 : decode cX2_chancesToGo 49 = .ok (.invokestatic 77, 3) := by decide +kernel
theorem dX2_chancesToGo_52 : decode cX2_chancesToGo 52 = .ok (.invokestatic 103, 3) := by decide +kernel
theorem dX2_chancesToGo_55 : decode cX2_chancesToGo 55 = .ok (.istore 6, 2) := by decide +kernel
theorem dX2_chancesToGo_57 : decode cX2_chancesToGo 57 = .ok (.iload 4, 2) := by decide +kernel
theorem dX2_chancesToGo_59 : decode cX2_chancesToGo 59 = .ok (.iload 6, 2) := by decide +kernel
theorem dX2_chancesToGo_61 : decode cX2_chancesToGo 61 = .ok (.iload_n 2, 1) := by decide +kernel
theorem dX2_chancesToGo_62 : decode cX2_chancesToGo 62 = .ok (.iload_n 3, 1) := by decide +kernel
theorem dX2_chancesToGo_63 : decode cX2_chancesToGo 63 = .ok (.iload 5, 2) := by decide +kernel
theorem dX2_chancesToGo_65 : decode cX2_chancesToGo 65 = .ok (.iconst (-1), 1) := by decide +kernel
theorem dX2_chancesToGo_66 : decode cX2_chancesToGo 66 = .ok (.ixor, 1) := by decide +kernel
theorem dX2_chancesToGo_67 : decode cX2_chancesToGo 67 = .ok (.iand, 1) := by decide +kernel
theorem dX2_chancesToGo_68 : decode cX2_chancesToGo 68 = .ok (.invokestatic 77, 3) := by decide +kernel
theorem dX2_chancesToGo_71 : decode cX2_chancesToGo 71 = .ok (.invokestatic 103, 3) := by decide +kernel
theorem dX2_chancesToGo_74 : decode cX2_chancesToGo 74 = .ok (.imul, 1) := by decide +kernel
theorem dX2_chancesToGo_75 : decode cX2_chancesToGo 75 = .ok (.iadd, 1) := by decide +kernel
theorem dX2_chancesToGo_76 : decode cX2_chancesToGo 76 = .ok (.istore 4, 2) := by decide +kernel
theorem dX2_chancesToGo_78 : decode cX2_chancesToGo 78 = .ok (.iinc 5 1, 3) := by decide +kernel
theorem dX2_chancesToGo_81 : decode cX2_chancesToGo 81 = .ok (.goto (-70), 3) := by decide +kernel
theorem dX2_chancesToGo_84 : decode cX2_chancesToGo 84 = .ok (.iload 4, 2) := by decide +kernel
theorem dX2_chancesToGo_86 : decode cX2_chancesToGo 86 = .ok (.ireturn, 1) := by decide +kernel
theorem dX2_chancesInAll_0 : decode cX2_chancesInAll 0 = .ok (.bipush 10, 2) := by decide +kernel
theorem dX2_chancesInAll_2 : decode cX2_chancesInAll 2 = .ok (.aload_n 0, 1) := by decide +kernel
theorem dX2_chancesInAll_3 : decode cX2_chancesInAll 3 = .ok (.invokevirtual 100, 3) := by decide +kernel
theorem dX2_chancesInAll_6 : decode cX2_chancesInAll 6 = .ok (.invokestatic 77, 3) := by decide +kernel
theorem dX2_chancesInAll_9 : decode cX2_chancesInAll 9 = .ok (.invokestatic 103, 3) := by decide +kernel
theorem dX2_chancesInAll_12 : decode cX2_chancesInAll 12 = .ok (.ireturn, 1) := by decide +kernel
theorem dX2_power_0 : decode cX2_power 0 = .ok (.iconst 1, 1) := by decide +kernel
theorem dX2_power_1 : decode cX2_power 1 = .ok (.istore_n 2, 1) := by decide +kernel
theorem dX2_power_2 : decode cX2_power 2 = .ok (.iconst 0, 1) := by decide +kernel
theorem dX2_power_3 : decode cX2_power 3 = .ok (.istore_n 3, 1) := by decide +kernel
theorem dX2_power_4 : decode cX2_power 4 = .ok (.iload_n 3, 1) := by decide +kernel
theorem dX2_power_5 : decode cX2_power 5 = .ok (.iload_n 1, 1) := by decide +kernel
theorem dX2_power_6 : decode cX2_power 6 = .ok (.if_icmp .ge 13, 3) := by decide +kernel
theorem dX2_power_9 : decode cX2_power 9 = .ok (.iload_n 2, 1) := by decide +kernel
theorem dX2_power_10 : decode cX2_power 10 = .ok (.iload_n 0, 1) := by decide +kernel
theorem dX2_power_11 : decode cX2_power 11 = .ok (.imul, 1) := by decide +kernel
theorem dX2_power_12 : decode cX2_power 12 = .ok (.istore_n 2, 1) := by decide +kernel
theorem dX2_power_13 : decode cX2_power 13 = .ok (.iinc 3 1, 3) := by decide +kernel
theorem dX2_power_16 : decode cX2_power 16 = .ok (.goto (-12), 3) := by decide +kernel
theorem dX2_power_19 : decode cX2_power 19 = .ok (.iload_n 2, 1) := by decide +kernel
theorem dX2_power_20 : decode cX2_power 20 = .ok (.ireturn, 1) := by decide +kernel
theorem dX4_isKind_0 : decode cX4_isKind 0 = .ok (.iload_n 0, 1) := by decide +kernel
theorem dX4_isKind_1 : decode cX4_isKind 1 = .ok (.ifCond .lt 12, 3) := by decide +kernel
theorem dX4_isKind_4 : decode cX4_isKind 4 = .ok (.iload_n 0, 1) := by decide +kernel
theorem dX4_isKind_5 : decode cX4_isKind 5 = .ok (.iconst 5, 1) := by decide +kernel
theorem dX4_isKind_6 : decode cX4_isKind 6 = .ok (.if_icmp .gt 7, 3) := by decide +kernel
theorem dX4_isKind_9 : decode cX4_isKind 9 = .ok (.iconst 1, 1) := by decide +kernel
theorem dX4_isKind_10 : decode cX4_isKind 10 = .ok (.goto 4, 3) := by decide +kernel
theorem dX4_isKind_13 : decode cX4_isKind 13 = .ok (.iconst 0, 1) := by decide +kernel
theorem dX4_isKind_14 : decode cX4_isKind 14 = .ok (.ireturn, 1) := by decide +kernel
theorem dX4_ofLetter_0 : decode cX4_ofLetter 0 = .ok (.iload_n 0, 1) := by decide +kernel
theorem dX4_ofLetter_1 : decode cX4_ofLetter 1 = .ok (.lookupswitch 61 #[(100, 59), (107, 57), (112, 51), (116, 55), (119, 53)], 51) := by decide +kernel
theorem dX4_ofLetter_52 : decode cX4_ofLetter 52 = .ok (.iconst 1, 1) := by decide +kernel
theorem dX4_ofLetter_53 : decode cX4_ofLetter 53 = .ok (.ireturn, 1) := by decide +kernel
theorem dX4_ofLetter_54 : decode cX4_ofLetter 54 = .ok (.iconst 2, 1) := by decide +kernel
theorem dX4_ofLetter_55 : decode cX4_ofLetter 55 = .ok (.ireturn, 1) := by decide +kernel
theorem dX4_ofLetter_56 : decode cX4_ofLetter 56 = .ok (.iconst 3, 1) := by decide +kernel
theorem dX4_ofLetter_57 : decode cX4_ofLetter 57 = .ok (.ireturn, 1) := by decide +kernel
theorem dX4_ofLetter_58 : decode cX4_ofLetter 58 = .ok (.iconst 4, 1) := by decide +kernel
theorem dX4_ofLetter_59 : decode cX4_ofLetter 59 = .ok (.ireturn, 1) := by decide +kernel
theorem dX4_ofLetter_60 : decode cX4_ofLetter 60 = .ok (.iconst 5, 1) := by decide +kernel
theorem dX4_ofLetter_61 : decode cX4_ofLetter 61 = .ok (.ireturn, 1) := by decide +kernel
theorem dX4_ofLetter_62 : decode cX4_ofLetter 62 = .ok (.iconst 0, 1) := by decide +kernel
theorem dX4_ofLetter_63 : decode cX4_ofLetter 63 = .ok (.ireturn, 1) := by decide +kernel
theorem dX4_nearest_0 : decode cX4_nearest 0 = .ok (.iload_n 0, 1) := by decide +kernel
theorem dX4_nearest_1 : decode cX4_nearest 1 = .ok (.invokestatic 9, 3) := by decide +kernel
theorem dX4_nearest_4 : decode cX4_nearest 4 = .ok (.ifCond .eq 11, 3) := by decide +kernel
theorem dX4_nearest_7 : decode cX4_nearest 7 = .ok (.getstatic 13, 3) := by decide +kernel
theorem dX4_nearest_10 : decode cX4_nearest 10 = .ok (.iload_n 0, 1) := by decide +kernel
theorem dX4_nearest_11 : decode cX4_nearest 11 = .ok (.iaload, 1) := by decide +kernel
theorem dX4_nearest_12 : decode cX4_nearest 12 = .ok (.goto 4, 3) := by decide +kernel
theorem dX4_nearest_15 : decode cX4_nearest 15 = .ok (.iconst (-1), 1) := by decide +kernel
theorem dX4_nearest_16 : decode cX4_nearest 16 = .ok (.ireturn, 1) := by decide +kernel
theorem dX4_isOneOf_0 : decode cX4_isOneOf 0 = .ok (.iload_n 0, 1) := by decide +kernel
theorem dX4_isOneOf_1 : decode cX4_isOneOf 1 = .ok (.istore_n 2, 1) := by decide +kernel
theorem dX4_isOneOf_2 : decode cX4_isOneOf 2 = .ok (.iconst 0, 1) := by decide +kernel
theorem dX4_isOneOf_3 : decode cX4_isOneOf 3 = .ok (.istore_n 3, 1) := by decide +kernel
theorem dX4_isOneOf_4 : decode cX4_isOneOf 4 = .ok (.iload_n 3, 1) := by decide +kernel
theorem dX4_isOneOf_5 : decode cX4_isOneOf 5 = .ok (.iconst 3, 1) := by decide +kernel
theorem dX4_isOneOf_6 : decode cX4_isOneOf 6 = .ok (.if_icmp .ge 19, 3) := by decide +kernel
theorem dX4_isOneOf_9 : decode cX4_isOneOf 9 = .ok (.iload_n 2, 1) := by decide +kernel
theorem dX4_isOneOf_10 : decode cX4_isOneOf 10 = .ok (.iload_n 1, 1) := by decide +kernel
theorem dX4_isOneOf_11 : decode cX4_isOneOf 11 = .ok (.if_icmp .eq 14, 3) := by decide +kernel
theorem dX4_isOneOf_14 : decode cX4_isOneOf 14 = .ok (.iload_n 2, 1) := by decide +kernel
theorem dX4_isOneOf_15 : decode cX4_isOneOf 15 = .ok (.invokestatic 17, 3) := by decide +kernel
theorem dX4_isOneOf_18 : decode cX4_isOneOf 18 = .ok (.istore_n 2, 1) := by decide +kernel
theorem dX4_isOneOf_19 : decode cX4_isOneOf 19 = .ok (.iinc 3 1, 3) := by decide +kernel
theorem dX4_isOneOf_22 : decode cX4_isOneOf 22 = .ok (.goto (-18), 3) := by decide +kernel
theorem dX4_isOneOf_25 : decode cX4_isOneOf 25 = .ok (.iload_n 2, 1) := by decide +kernel
theorem dX4_isOneOf_26 : decode cX4_isOneOf 26 = .ok (.iload_n 1, 1) := by decide +kernel
theorem dX4_isOneOf_27 : decode cX4_isOneOf 27 = .ok (.if_icmp .ne 7, 3) := by decide +kernel
theorem dX4_isOneOf_30 : decode cX4_isOneOf 30 = .ok (.iconst 1, 1) := by decide +kernel
theorem dX4_isOneOf_31 : decode cX4_isOneOf 31 = .ok (.goto 4, 3) := by decide +kernel
theorem dX4_isOneOf_34 : decode cX4_isOneOf 34 = .ok (.iconst 0, 1) := by decide +kernel
theorem dX4_isOneOf_35 : decode cX4_isOneOf 35 = .ok (.ireturn, 1) := by decide +kernel
theorem dX5_init_0 : decode cX5_init 0 = .ok (.aload_n 0, 1) := by decide +kernel
theorem dX5_init_1 : decode cX5_init 1 = .ok (.invokespecial 3, 3) := by decide +kernel
theorem dX5_init_4 : decode cX5_init 4 = .ok (.aload_n 0, 1) := by decide +kernel
theorem dX5_init_5 : decode cX5_init 5 = .ok (.bipush 8, 2) := by decide +kernel
theorem dX5_init_7 : decode cX5_init 7 = .ok (.newarray .int, 2) := by decide +kernel
theorem dX5_init_9 : decode cX5_init 9 = .ok (.putfield 11, 3) := by decide +kernel
theorem dX5_init_12 : decode cX5_init 12 = .ok (.aload_n 0, 1) := by decide +kernel
theorem dX5_init_13 : decode cX5_init 13 = .ok (.bipush 8, 2) := by decide +kernel
theorem dX5_init_15 : decode cX5_init 15 = .ok (.newarray .int, 2) := by decide +kernel
theorem dX5_init_17 : decode cX5_init 17 = .ok (.putfield 15, 3) := by decide +kernel
theorem dX5_init_20 : decode cX5_init 20 = .ok (.aload_n 0, 1) := by decide +kernel
theorem dX5_init_21 : decode cX5_init 21 = .ok (.sipush 320, 3) := by decide +kernel
theorem dX5_init_24 : decode cX5_init 24 = .ok (.newarray .int, 2) := by decide +kernel
theorem dX5_init_26 : decode cX5_init 26 = .ok (.putfield 18, 3) := by decide +kernel
theorem dX5_init_29 : decode cX5_init 29 = .ok (.aload_n 0, 1) := by decide +kernel
theorem dX5_init_30 : decode cX5_init 30 = .ok (.getfield 11, 3) := by decide +kernel
theorem dX5_init_33 : decode cX5_init 33 = .ok (.iconst (-1), 1) := by decide +kernel
theorem dX5_init_34 : decode cX5_init 34 = .ok (.invokestatic 21, 3) := by decide +kernel
theorem dX5_init_37 : decode cX5_init 37 = .ok (.return_, 1) := by decide +kernel
theorem dX5_isRow_0 : decode cX5_isRow 0 = .ok (.iload_n 0, 1) := by decide +kernel
theorem dX5_isRow_1 : decode cX5_isRow 1 = .ok (.ifCond .lt 13, 3) := by decide +kernel
theorem dX5_isRow_4 : decode cX5_isRow 4 = .ok (.iload_n 0, 1) := by decide +kernel
theorem dX5_isRow_5 : decode cX5_isRow 5 = .ok (.bipush 8, 2) := by decide +kernel
theorem dX5_isRow_7 : decode cX5_isRow 7 = .ok (.if_icmp .ge 7, 3) := by decide +kernel
theorem dX5_isRow_10 : decode cX5_isRow 10 = .ok (.iconst 1, 1) := by decide +kernel
theorem dX5_isRow_11 : decode cX5_isRow 11 = .ok (.goto 4, 3) := by decide +kernel
theorem dX5_isRow_14 : decode cX5_isRow 14 = .ok (.iconst 0, 1) := by decide +kernel
theorem dX5_isRow_15 : decode cX5_isRow 15 = .ok (.ireturn, 1) := by decide +kernel
theorem dX5_isLane_0 : decode cX5_isLane 0 = .ok (.iload_n 0, 1) := by decide +kernel
theorem dX5_isLane_1 : decode cX5_isLane 1 = .ok (.ifCond .lt 12, 3) := by decide +kernel
theorem dX5_isLane_4 : decode cX5_isLane 4 = .ok (.iload_n 0, 1) := by decide +kernel
theorem dX5_isLane_5 : decode cX5_isLane 5 = .ok (.iconst 2, 1) := by decide +kernel
theorem dX5_isLane_6 : decode cX5_isLane 6 = .ok (.if_icmp .gt 7, 3) := by decide +kernel
theorem dX5_isLane_9 : decode cX5_isLane 9 = .ok (.iconst 1, 1) := by decide +kernel
theorem dX5_isLane_10 : decode cX5_isLane 10 = .ok (.goto 4, 3) := by decide +kernel
theorem dX5_isLane_13 : decode cX5_isLane 13 = .ok (.iconst 0, 1) := by decide +kernel
theorem dX5_isLane_14 : decode cX5_isLane 14 = .ok (.ireturn, 1) := by decide +kernel
theorem dX5_isMissing_0 : decode cX5_isMissing 0 = .ok (.aload_n 0, 1) := by decide +kernel
theorem dX5_isMissing_1 : decode cX5_isMissing 1 = .ok (.getfield 11, 3) := by decide +kernel
theorem dX5_isMissing_4 : decode cX5_isMissing 4 = .ok (.iload_n 1, 1) := by decide +kernel
theorem dX5_isMissing_5 : decode cX5_isMissing 5 = .ok (.iaload, 1) := by decide +kernel
theorem dX5_isMissing_6 : decode cX5_isMissing 6 = .ok (.iconst (-1), 1) := by decide +kernel
theorem dX5_isMissing_7 : decode cX5_isMissing 7 = .ok (.if_icmp .ne 7, 3) := by decide +kernel
theorem dX5_isMissing_10 : decode cX5_isMissing 10 = .ok (.iconst 1, 1) := by decide +kernel
theorem dX5_isMissing_11 : decode cX5_isMissing 11 = .ok (.goto 4, 3) := by decide +kernel
theorem dX5_isMissing_14 : decode cX5_isMissing 14 = .ok (.iconst 0, 1) := by decide +kernel
theorem dX5_isMissing_15 : decode cX5_isMissing 15 = .ok (.ireturn, 1) := by decide +kernel
theorem dX5_findingOf_0 : decode cX5_findingOf 0 = .ok (.aload_n 0, 1) := by decide +kernel
theorem dX5_findingOf_1 : decode cX5_findingOf 1 = .ok (.iload_n 1, 1) := by decide +kernel
theorem dX5_findingOf_2 : decode cX5_findingOf 2 = .ok (.invokevirtual 27, 3) := by decide +kernel
theorem dX5_findingOf_5 : decode cX5_findingOf 5 = .ok (.ifCond .eq 5, 3) := by decide +kernel
theorem dX5_findingOf_8 : decode cX5_findingOf 8 = .ok (.iconst 1, 1) := by decide +kernel
theorem dX5_findingOf_9 : decode cX5_findingOf 9 = .ok (.ireturn, 1) := by decide +kernel
theorem dX5_findingOf_10 : decode cX5_findingOf 10 = .ok (.aload_n 0, 1) := by decide +kernel
theorem dX5_findingOf_11 : decode cX5_findingOf 11 = .ok (.iload_n 1, 1) := by decide +kernel
theorem dX5_findingOf_12 : decode cX5_findingOf 12 = .ok (.iload_n 2, 1) := by decide +kernel
theorem dX5_findingOf_13 : decode cX5_findingOf 13 = .ok (.iload_n 3, 1) := by decide +kernel
theorem dX5_findingOf_14 : decode cX5_findingOf 14 = .ok (.invokevirtual 31, 3) := by decide +kernel
theorem dX5_findingOf_17 : decode cX5_findingOf 17 = .ok (.ifCond .eq 7, 3) := by decide +kernel
theorem dX5_findingOf_20 : decode cX5_findingOf 20 = .ok (.iconst 0, 1) := by decide +kernel
theorem dX5_findingOf_21 : decode cX5_findingOf 21 = .ok (.goto 4, 3) := by decide +kernel
theorem dX5_findingOf_24 : decode cX5_findingOf 24 = .ok (.iconst 2, 1) := by decide +kernel
theorem dX5_findingOf_25 : decode cX5_findingOf 25 = .ok (.ireturn, 1) := by decide +kernel
theorem dX5_findingOfCopy_0 : decode cX5_findingOfCopy 0 = .ok (.aload_n 0, 1) := by decide +kernel
theorem dX5_findingOfCopy_1 : decode cX5_findingOfCopy 1 = .ok (.iload_n 1, 1) := by decide +kernel
theorem dX5_findingOfCopy_2 : decode cX5_findingOfCopy 2 = .ok (.invokevirtual 27, 3) := by decide +kernel
theorem dX5_findingOfCopy_5 : decode cX5_findingOfCopy 5 = .ok (.ifCond .ne 11, 3) := by decide +kernel
theorem dX5_findingOfCopy_8 : decode cX5_findingOfCopy 8 = .ok (.aload_n 0, 1) := by decide +kernel
theorem dX5_findingOfCopy_9 : decode cX5_findingOfCopy 9 = .ok (.iload_n 3, 1) := by decide +kernel
theorem dX5_findingOfCopy_10 : decode cX5_findingOfCopy 10 = .ok (.invokevirtual 27, 3) := by decide +kernel
theorem dX5_findingOfCopy_13 : decode cX5_findingOfCopy 13 = .ok (.ifCond .eq 5, 3) := by decide +kernel
theorem dX5_findingOfCopy_16 : decode cX5_findingOfCopy 16 = .ok (.iconst 1, 1) := by decide +kernel
theorem dX5_findingOfCopy_17 : decode cX5_findingOfCopy 17 = .ok (.ireturn, 1) := by decide +kernel
theorem dX5_findingOfCopy_18 : decode cX5_findingOfCopy 18 = .ok (.aload_n 0, 1) := by decide +kernel
theorem dX5_findingOfCopy_19 : decode cX5_findingOfCopy 19 = .ok (.getfield 11, 3) := by decide +kernel
theorem dX5_findingOfCopy_22 : decode cX5_findingOfCopy 22 = .ok (.iload_n 1, 1) := by decide +kernel
theorem dX5_findingOfCopy_23 : decode cX5_findingOfCopy 23 = .ok (.iaload, 1) := by decide +kernel
theorem dX5_findingOfCopy_24 : decode cX5_findingOfCopy 24 = .ok (.aload_n 0, 1) := by decide +kernel
theorem dX5_findingOfCopy_25 : decode cX5_findingOfCopy 25 = .ok (.getfield 11, 3) := by decide +kernel
theorem dX5_findingOfCopy_28 : decode cX5_findingOfCopy 28 = .ok (.iload_n 3, 1) := by decide +kernel
theorem dX5_findingOfCopy_29 : decode cX5_findingOfCopy 29 = .ok (.iaload, 1) := by decide +kernel
theorem dX5_findingOfCopy_30 : decode cX5_findingOfCopy 30 = .ok (.if_icmp .eq 5, 3) := by decide +kernel
theorem dX5_findingOfCopy_33 : decode cX5_findingOfCopy 33 = .ok (.iconst 5, 1) := by decide +kernel
theorem dX5_findingOfCopy_34 : decode cX5_findingOfCopy 34 = .ok (.ireturn, 1) := by decide +kernel
theorem dX5_findingOfCopy_35 : decode cX5_findingOfCopy 35 = .ok (.aload_n 0, 1) := by decide +kernel
theorem dX5_findingOfCopy_36 : decode cX5_findingOfCopy 36 = .ok (.iload_n 1, 1) := by decide +kernel
theorem dX5_findingOfCopy_37 : decode cX5_findingOfCopy 37 = .ok (.iload_n 2, 1) := by decide +kernel
theorem dX5_findingOfCopy_38 : decode cX5_findingOfCopy 38 = .ok (.iload 5, 2) := by decide +kernel
theorem dX5_findingOfCopy_40 : decode cX5_findingOfCopy 40 = .ok (.invokevirtual 31, 3) := by decide +kernel
theorem dX5_findingOfCopy_43 : decode cX5_findingOfCopy 43 = .ok (.ifCond .eq 19, 3) := by decide +kernel
theorem dX5_findingOfCopy_46 : decode cX5_findingOfCopy 46 = .ok (.aload_n 0, 1) := by decide +kernel
theorem dX5_findingOfCopy_47 : decode cX5_findingOfCopy 47 = .ok (.iload_n 3, 1) := by decide +kernel
theorem dX5_findingOfCopy_48 : decode cX5_findingOfCopy 48 = .ok (.iload 4, 2) := by decide +kernel
theorem dX5_findingOfCopy_50 : decode cX5_findingOfCopy 50 = .ok (.iload 5, 2) := by decide +kernel
theorem dX5_findingOfCopy_52 : decode cX5_findingOfCopy 52 = .ok (.invokevirtual 31, 3) := by decide +kernel
theorem dX5_findingOfCopy_55 : decode cX5_findingOfCopy 55 = .ok (.ifCond .eq 7, 3) := by decide +kernel
theorem dX5_findingOfCopy_58 : decode cX5_findingOfCopy 58 = .ok (.iconst 0, 1) := by decide +kernel
theorem dX5_findingOfCopy_59 : decode cX5_findingOfCopy 59 = .ok (.goto 4, 3) := by decide +kernel
theorem dX5_findingOfCopy_62 : decode cX5_findingOfCopy 62 = .ok (.iconst 2, 1) := by decide +kernel
theorem dX5_findingOfCopy_63 : decode cX5_findingOfCopy 63 = .ok (.ireturn, 1) := by decide +kernel
theorem dX5_hasPlaces_0 : decode cX5_hasPlaces 0 = .ok (.iload_n 2, 1) := by decide +kernel
theorem dX5_hasPlaces_1 : decode cX5_hasPlaces 1 = .ok (.ifCond .lt 33, 3) := by decide +kernel
theorem dX5_hasPlaces_4 : decode cX5_hasPlaces 4 = .ok (.iload_n 3, 1) := by decide +kernel
theorem dX5_hasPlaces_5 : decode cX5_hasPlaces 5 = .ok (.ifCond .lt 29, 3) := by decide +kernel
theorem dX5_hasPlaces_8 : decode cX5_hasPlaces 8 = .ok (.iload_n 2, 1) := by decide +kernel
theorem dX5_hasPlaces_9 : decode cX5_hasPlaces 9 = .ok (.aload_n 0, 1) := by decide +kernel
theorem dX5_hasPlaces_10 : decode cX5_hasPlaces 10 = .ok (.getfield 15, 3) := by decide +kernel
theorem dX5_hasPlaces_13 : decode cX5_hasPlaces 13 = .ok (.iload_n 1, 1) := by decide +kernel
theorem dX5_hasPlaces_14 : decode cX5_hasPlaces 14 = .ok (.iaload, 1) := by decide +kernel
theorem dX5_hasPlaces_15 : decode cX5_hasPlaces 15 = .ok (.if_icmp .gt 19, 3) := by decide +kernel
theorem dX5_hasPlaces_18 : decode cX5_hasPlaces 18 = .ok (.iload_n 3, 1) := by decide +kernel
theorem dX5_hasPlaces_19 : decode cX5_hasPlaces 19 = .ok (.aload_n 0, 1) := by decide +kernel
theorem dX5_hasPlaces_20 : decode cX5_hasPlaces 20 = .ok (.getfield 15, 3) := by decide +kernel
theorem dX5_hasPlaces_23 : decode cX5_hasPlaces 23 = .ok (.iload_n 1, 1) := by decide +kernel
theorem dX5_hasPlaces_24 : decode cX5_hasPlaces 24 = .ok (.iaload, 1) := by decide +kernel
theorem dX5_hasPlaces_25 : decode cX5_hasPlaces 25 = .ok (.iload_n 2, 1) := by decide +kernel
theorem dX5_hasPlaces_26 : decode cX5_hasPlaces 26 = .ok (.isub, 1) := by decide +kernel
theorem dX5_hasPlaces_27 : decode cX5_hasPlaces 27 = .ok (.if_icmp .gt 7, 3) := by decide +kernel
theorem dX5_hasPlaces_30 : decode cX5_hasPlaces 30 = .ok (.iconst 1, 1) := by decide +kernel
theorem dX5_hasPlaces_31 : decode cX5_hasPlaces 31 = .ok (.goto 4, 3) := by decide +kernel
theorem dX5_hasPlaces_34 : decode cX5_hasPlaces 34 = .ok (.iconst 0, 1) := by decide +kernel
theorem dX5_hasPlaces_35 : decode cX5_hasPlaces 35 = .ok (.ireturn, 1) := by decide +kernel
theorem dX5_make_0 : decode cX5_make 0 = .ok (.iload_n 1, 1) := by decide +kernel
theorem dX5_make_1 : decode cX5_make 1 = .ok (.bipush 40, 2) := by decide +kernel
theorem dX5_make_3 : decode cX5_make 3 = .ok (.imul, 1) := by decide +kernel
theorem dX5_make_4 : decode cX5_make 4 = .ok (.istore 4, 2) := by decide +kernel
theorem dX5_make_6 : decode cX5_make 6 = .ok (.aload_n 0, 1) := by decide +kernel
theorem dX5_make_7 : decode cX5_make 7 = .ok (.getfield 11, 3) := by decide +kernel
theorem dX5_make_10 : decode cX5_make 10 = .ok (.iload_n 1, 1) := by decide +kernel
theorem dX5_make_11 : decode cX5_make 11 = .ok (.iload_n 2, 1) := by decide +kernel
theorem dX5_make_12 : decode cX5_make 12 = .ok (.iastore, 1) := by decide +kernel
theorem dX5_make_13 : decode cX5_make 13 = .ok (.aload_n 0, 1) := by decide +kernel
theorem dX5_make_14 : decode cX5_make 14 = .ok (.getfield 15, 3) := by decide +kernel
theorem dX5_make_17 : decode cX5_make 17 = .ok (.iload_n 1, 1) := by decide +kernel
theorem dX5_make_18 : decode cX5_make 18 = .ok (.iload_n 3, 1) := by decide +kernel
theorem dX5_make_19 : decode cX5_make 19 = .ok (.iastore, 1) := by decide +kernel
theorem dX5_make_20 : decode cX5_make 20 = .ok (.aload_n 0, 1) := by decide +kernel
theorem dX5_make_21 : decode cX5_make 21 = .ok (.getfield 18, 3) := by decide +kernel
theorem dX5_make_24 : decode cX5_make 24 = .ok (.iload 4, 2) := by decide +kernel
theorem dX5_make_26 : decode cX5_make 26 = .ok (.iload 4, 2) := by decide +kernel
theorem dX5_make_28 : decode cX5_make 28 = .ok (.bipush 40, 2) := by decide +kernel
theorem dX5_make_30 : decode cX5_make 30 = .ok (.iadd, 1) := by decide +kernel
theorem dX5_make_31 : decode cX5_make 31 = .ok (.iconst 0, 1) := by decide +kernel
theorem dX5_make_32 : decode cX5_make 32 = .ok (.invokestatic 35, 3) := by decide +kernel
theorem dX5_make_35 : decode cX5_make 35 = .ok (.return_, 1) := by decide +kernel
theorem dX5_remove_0 : decode cX5_remove 0 = .ok (.aload_n 0, 1) := by decide +kernel
theorem dX5_remove_1 : decode cX5_remove 1 = .ok (.getfield 15, 3) := by decide +kernel
theorem dX5_remove_4 : decode cX5_remove 4 = .ok (.iload_n 1, 1) := by decide +kernel
theorem dX5_remove_5 : decode cX5_remove 5 = .ok (.iaload, 1) := by decide +kernel
theorem dX5_remove_6 : decode cX5_remove 6 = .ok (.istore_n 2, 1) := by decide +kernel
theorem dX5_remove_7 : decode cX5_remove 7 = .ok (.aload_n 0, 1) := by decide +kernel
theorem dX5_remove_8 : decode cX5_remove 8 = .ok (.getfield 11, 3) := by decide +kernel
theorem dX5_remove_11 : decode cX5_remove 11 = .ok (.iload_n 1, 1) := by decide +kernel
theorem dX5_remove_12 : decode cX5_remove 12 = .ok (.iconst (-1), 1) := by decide +kernel
theorem dX5_remove_13 : decode cX5_remove 13 = .ok (.iastore, 1) := by decide +kernel
theorem dX5_remove_14 : decode cX5_remove 14 = .ok (.aload_n 0, 1) := by decide +kernel
theorem dX5_remove_15 : decode cX5_remove 15 = .ok (.getfield 15, 3) := by decide +kernel
theorem dX5_remove_18 : decode cX5_remove 18 = .ok (.iload_n 1, 1) := by decide +kernel
theorem dX5_remove_19 : decode cX5_remove 19 = .ok (.iconst 0, 1) := by decide +kernel
theorem dX5_remove_20 : decode cX5_remove 20 = .ok (.iastore, 1) := by decide +kernel
theorem dX5_remove_21 : decode cX5_remove 21 = .ok (.iload_n 2, 1) := by decide +kernel
theorem dX5_remove_22 : decode cX5_remove 22 = .ok (.ireturn, 1) := by decide +kernel
theorem dX5_put_0 : decode cX5_put 0 = .ok (.iload_n 3, 1) := by decide +kernel
theorem dX5_put_1 : decode cX5_put 1 = .ok (.aload_n 0, 1) := by decide +kernel
theorem dX5_put_2 : decode cX5_put 2 = .ok (.getfield 11, 3) := by decide +kernel
theorem dX5_put_5 : decode cX5_put 5 = .ok (.iload_n 1, 1) := by decide +kernel
theorem dX5_put_6 : decode cX5_put 6 = .ok (.iaload, 1) := by decide +kernel
theorem dX5_put_7 : decode cX5_put 7 = .ok (.invokestatic 38, 3) := by decide +kernel
theorem dX5_put_10 : decode cX5_put 10 = .ok (.istore 4, 2) := by decide +kernel
theorem dX5_put_12 : decode cX5_put 12 = .ok (.aload_n 0, 1) := by decide +kernel
theorem dX5_put_13 : decode cX5_put 13 = .ok (.getfield 18, 3) := by decide +kernel
theorem dX5_put_16 : decode cX5_put 16 = .ok (.iload_n 1, 1) := by decide +kernel
theorem dX5_put_17 : decode cX5_put 17 = .ok (.bipush 40, 2) := by decide +kernel
theorem dX5_put_19 : decode cX5_put 19 = .ok (.imul, 1) := by decide +kernel
theorem dX5_put_20 : decode cX5_put 20 = .ok (.iload_n 2, 1) := by decide +kernel
theorem dX5_put_21 : decode cX5_put 21 = .ok (.iadd, 1) := by decide +kernel
theorem dX5_put_22 : decode cX5_put 22 = .ok (.iload 4, 2) := by decide +kernel
theorem dX5_put_24 : decode cX5_put 24 = .ok (.iastore, 1) := by decide +kernel
theorem dX5_put_25 : decode cX5_put 25 = .ok (.iload 4, 2) := by decide +kernel
theorem dX5_put_27 : decode cX5_put 27 = .ok (.ireturn, 1) := by decide +kernel
theorem dX5_cutToLane_0 : decode cX5_cutToLane 0 = .ok (.iload_n 1, 1) := by decide +kernel
theorem dX5_cutToLane_1 : decode cX5_cutToLane 1 = .ok (.ifCond .ne 6, 3) := by decide +kernel
theorem dX5_cutToLane_4 : decode cX5_cutToLane 4 = .ok (.iload_n 0, 1) := by decide +kernel
theorem dX5_cutToLane_5 : decode cX5_cutToLane 5 = .ok (.i2b, 1) := by decide +kernel
theorem dX5_cutToLane_6 : decode cX5_cutToLane 6 = .ok (.ireturn, 1) := by decide +kernel
theorem dX5_cutToLane_7 : decode cX5_cutToLane 7 = .ok (.iload_n 1, 1) := by decide +kernel
theorem dX5_cutToLane_8 : decode cX5_cutToLane 8 = .ok (.iconst 1, 1) := by decide +kernel
theorem dX5_cutToLane_9 : decode cX5_cutToLane 9 = .ok (.if_icmp .ne 8, 3) := by decide +kernel
theorem dX5_cutToLane_12 : decode cX5_cutToLane 12 = .ok (.iload_n 0, 1) := by decide +kernel
theorem dX5_cutToLane_13 : decode cX5_cutToLane 13 = .ok (.i2s, 1) := by decide +kernel
theorem dX5_cutToLane_14 : decode cX5_cutToLane 14 = .ok (.goto 4, 3) := by decide +kernel
theorem dX5_cutToLane_17 : decode cX5_cutToLane 17 = .ok (.iload_n 0, 1) := by decide +kernel
theorem dX5_cutToLane_18 : decode cX5_cutToLane 18 = .ok (.ireturn, 1) := by decide +kernel
theorem dX5_item_0 : decode cX5_item 0 = .ok (.aload_n 0, 1) := by decide +kernel
theorem dX5_item_1 : decode cX5_item 1 = .ok (.getfield 18, 3) := by decide +kernel
theorem dX5_item_4 : decode cX5_item 4 = .ok (.iload_n 1, 1) := by decide +kernel
theorem dX5_item_5 : decode cX5_item 5 = .ok (.bipush 40, 2) := by decide +kernel
theorem dX5_item_7 : decode cX5_item 7 = .ok (.imul, 1) := by decide +kernel
theorem dX5_item_8 : decode cX5_item 8 = .ok (.iload_n 2, 1) := by decide +kernel
theorem dX5_item_9 : decode cX5_item 9 = .ok (.iadd, 1) := by decide +kernel
theorem dX5_item_10 : decode cX5_item 10 = .ok (.iaload, 1) := by decide +kernel
theorem dX5_item_11 : decode cX5_item 11 = .ok (.ireturn, 1) := by decide +kernel
theorem dX5_move_0 : decode cX5_move 0 = .ok (.aload_n 0, 1) := by decide +kernel
theorem dX5_move_1 : decode cX5_move 1 = .ok (.getfield 18, 3) := by decide +kernel
theorem dX5_move_4 : decode cX5_move 4 = .ok (.iload_n 1, 1) := by decide +kernel
theorem dX5_move_5 : decode cX5_move 5 = .ok (.bipush 40, 2) := by decide +kernel
theorem dX5_move_7 : decode cX5_move 7 = .ok (.imul, 1) := by decide +kernel
theorem dX5_move_8 : decode cX5_move 8 = .ok (.iload_n 2, 1) := by decide +kernel
theorem dX5_move_9 : decode cX5_move 9 = .ok (.iadd, 1) := by decide +kernel
theorem dX5_move_10 : decode cX5_move 10 = .ok (.aload_n 0, 1) := by decide +kernel
theorem dX5_move_11 : decode cX5_move 11 = .ok (.getfield 18, 3) := by decide +kernel
theorem dX5_move_14 : decode cX5_move 14 = .ok (.iload_n 3, 1) := by decide +kernel
theorem dX5_move_15 : decode cX5_move 15 = .ok (.bipush 40, 2) := by decide +kernel
theorem dX5_move_17 : decode cX5_move 17 = .ok (.imul, 1) := by decide +kernel
theorem dX5_move_18 : decode cX5_move 18 = .ok (.iload 4, 2) := by decide +kernel
theorem dX5_move_20 : decode cX5_move 20 = .ok (.iadd, 1) := by decide +kernel
theorem dX5_move_21 : decode cX5_move 21 = .ok (.iload 5, 2) := by decide +kernel
theorem dX5_move_23 : decode cX5_move 23 = .ok (.invokestatic 42, 3) := by decide +kernel
theorem dX5_move_26 : decode cX5_move 26 = .ok (.return_, 1) := by decide +kernel
theorem dX5_present_0 : decode cX5_present 0 = .ok (.iconst 0, 1) := by decide +kernel
theorem dX5_present_1 : decode cX5_present 1 = .ok (.istore_n 1, 1) := by decide +kernel
theorem dX5_present_2 : decode cX5_present 2 = .ok (.iconst 0, 1) := by decide +kernel
theorem dX5_present_3 : decode cX5_present 3 = .ok (.istore_n 2, 1) := by decide +kernel
theorem dX5_present_4 : decode cX5_present 4 = .ok (.iload_n 2, 1) := by decide +kernel
theorem dX5_present_5 : decode cX5_present 5 = .ok (.bipush 8, 2) := by decide +kernel
theorem dX5_present_7 : decode cX5_present 7 = .ok (.if_icmp .ge 20, 3) := by decide +kernel
theorem dX5_present_10 : decode cX5_present 10 = .ok (.aload_n 0, 1) := by decide +kernel
theorem dX5_present_11 : decode cX5_present 11 = .ok (.iload_n 2, 1) := by decide +kernel
theorem dX5_present_12 : decode cX5_present 12 = .ok (.invokevirtual 27, 3) := by decide +kernel
theorem dX5_present_15 : decode cX5_present 15 = .ok (.ifCond .ne 6, 3) := by decide +kernel
theorem dX5_present_18 : decode cX5_present 18 = .ok (.iinc 1 1, 3) := by decide +kernel
theorem dX5_present_21 : decode cX5_present 21 = .ok (.iinc 2 1, 3) := by decide +kernel
theorem dX5_present_24 : decode cX5_present 24 = .ok (.goto (-20), 3) := by decide +kernel
theorem dX5_present_27 : decode cX5_present 27 = .ok (.iload_n 1, 1) := by decide +kernel
theorem dX5_present_28 : decode cX5_present 28 = .ok (.ireturn, 1) := by decide +kernel
theorem dJ6_numberOfTrailingZeros_0f7a4_0 : decode cJ6_numberOfTrailingZeros_0f7a4 0 = .ok (.iload_n 0, 1) := by decide +kernel
theorem dJ6_numberOfTrailingZeros_0f7a4_1 : decode cJ6_numberOfTrailingZeros_0f7a4 1 = .ok (.iconst (-1), 1) := by decide +kernel
theorem dJ6_numberOfTrailingZeros_0f7a4_2 : decode cJ6_numberOfTrailingZeros_0f7a4 2 = .ok (.ixor, 1) := by decide +kernel
theorem dJ6_numberOfTrailingZeros_0f7a4_3 : decode cJ6_numberOfTrailingZeros_0f7a4 3 = .ok (.iload_n 0, 1) := by decide +kernel
theorem dJ6_numberOfTrailingZeros_0f7a4_4 : decode cJ6_numberOfTrailingZeros_0f7a4 4 = .ok (.iconst 1, 1) := by decide +kernel
theorem dJ6_numberOfTrailingZeros_0f7a4_5 : decode cJ6_numberOfTrailingZeros_0f7a4 5 = .ok (.isub, 1) := by decide +kernel
theorem dJ6_numberOfTrailingZeros_0f7a4_6 : decode cJ6_numberOfTrailingZeros_0f7a4 6 = .ok (.iand, 1) := by decide +kernel
theorem dJ6_numberOfTrailingZeros_0f7a4_7 : decode cJ6_numberOfTrailingZeros_0f7a4 7 = .ok (.istore_n 0, 1) := by decide +kernel
theorem dJ6_numberOfTrailingZeros_0f7a4_8 : decode cJ6_numberOfTrailingZeros_0f7a4 8 = .ok (.iload_n 0, 1) := by decide +kernel
theorem dJ6_numberOfTrailingZeros_0f7a4_9 : decode cJ6_numberOfTrailingZeros_0f7a4 9 = .ok (.ifCond .gt 8, 3) := by decide +kernel
theorem dJ6_numberOfTrailingZeros_0f7a4_12 : decode cJ6_numberOfTrailingZeros_0f7a4 12 = .ok (.iload_n 0, 1) := by decide +kernel
theorem dJ6_numberOfTrailingZeros_0f7a4_13 : decode cJ6_numberOfTrailingZeros_0f7a4 13 = .ok (.bipush 32, 2) := by decide +kernel
theorem dJ6_numberOfTrailingZeros_0f7a4_15 : decode cJ6_numberOfTrailingZeros_0f7a4 15 = .ok (.iand, 1) := by decide +kernel
theorem dJ6_numberOfTrailingZeros_0f7a4_16 : decode cJ6_numberOfTrailingZeros_0f7a4 16 = .ok (.ireturn, 1) := by decide +kernel
theorem dJ6_numberOfTrailingZeros_0f7a4_17 : decode cJ6_numberOfTrailingZeros_0f7a4 17 = .ok (.iconst 1, 1) := by decide +kernel
theorem dJ6_numberOfTrailingZeros_0f7a4_18 : decode cJ6_numberOfTrailingZeros_0f7a4 18 = .ok (.istore_n 1, 1) := by decide +kernel
theorem dJ6_numberOfTrailingZeros_0f7a4_19 : decode cJ6_numberOfTrailingZeros_0f7a4 19 = .ok (.iload_n 0, 1) := by decide +kernel
theorem dJ6_numberOfTrailingZeros_0f7a4_20 : decode cJ6_numberOfTrailingZeros_0f7a4 20 = .ok (.ldc_w 264, 3) := by decide +kernel
theorem dJ6_numberOfTrailingZeros_0f7a4_23 : decode cJ6_numberOfTrailingZeros_0f7a4 23 = .ok (.if_icmp .le 11, 3) := by decide +kernel
theorem dJ6_numberOfTrailingZeros_0f7a4_26 : decode cJ6_numberOfTrailingZeros_0f7a4 26 = .ok (.iinc 1 16, 3) := by decide +kernel
theorem dJ6_numberOfTrailingZeros_0f7a4_29 : decode cJ6_numberOfTrailingZeros_0f7a4 29 = .ok (.iload_n 0, 1) := by decide +kernel
theorem dJ6_numberOfTrailingZeros_0f7a4_30 : decode cJ6_numberOfTrailingZeros_0f7a4 30 = .ok (.bipush 16, 2) := by decide +kernel
theorem dJ6_numberOfTrailingZeros_0f7a4_32 : decode cJ6_numberOfTrailingZeros_0f7a4 32 = .ok (.iushr, 1) := by decide +kernel
theorem dJ6_numberOfTrailingZeros_0f7a4_33 : decode cJ6_numberOfTrailingZeros_0f7a4 33 = .ok (.istore_n 0, 1) := by decide +kernel
theorem dJ6_numberOfTrailingZeros_0f7a4_34 : decode cJ6_numberOfTrailingZeros_0f7a4 34 = .ok (.iload_n 0, 1) := by decide +kernel
theorem dJ6_numberOfTrailingZeros_0f7a4_35 : decode cJ6_numberOfTrailingZeros_0f7a4 35 = .ok (.sipush 256, 3) := by decide +kernel
theorem dJ6_numberOfTrailingZeros_0f7a4_38 : decode cJ6_numberOfTrailingZeros_0f7a4 38 = .ok (.if_icmp .le 11, 3) := by decide +kernel
theorem dJ6_numberOfTrailingZeros_0f7a4_41 : decode cJ6_numberOfTrailingZeros_0f7a4 41 = .ok (.iinc 1 8, 3) := by decide +kernel
theorem dJ6_numberOfTrailingZeros_0f7a4_44 : decode cJ6_numberOfTrailingZeros_0f7a4 44 = .ok (.iload_n 0, 1) := by decide +kernel
theorem dJ6_numberOfTrailingZeros_0f7a4_45 : decode cJ6_numberOfTrailingZeros_0f7a4 45 = .ok (.bipush 8, 2) := by decide +kernel
theorem dJ6_numberOfTrailingZeros_0f7a4_47 : decode cJ6_numberOfTrailingZeros_0f7a4 47 = .ok (.iushr, 1) := by decide +kernel
theorem dJ6_numberOfTrailingZeros_0f7a4_48 : decode cJ6_numberOfTrailingZeros_0f7a4 48 = .ok (.istore_n 0, 1) := by decide +kernel
theorem dJ6_numberOfTrailingZeros_0f7a4_49 : decode cJ6_numberOfTrailingZeros_0f7a4 49 = .ok (.iload_n 0, 1) := by decide +kernel
theorem dJ6_numberOfTrailingZeros_0f7a4_50 : decode cJ6_numberOfTrailingZeros_0f7a4 50 = .ok (.bipush 16, 2) := by decide +kernel
theorem dJ6_numberOfTrailingZeros_0f7a4_52 : decode cJ6_numberOfTrailingZeros_0f7a4 52 = .ok (.if_icmp .le 10, 3) := by decide +kernel
theorem dJ6_numberOfTrailingZeros_0f7a4_55 : decode cJ6_numberOfTrailingZeros_0f7a4 55 = .ok (.iinc 1 4, 3) := by decide +kernel
theorem dJ6_numberOfTrailingZeros_0f7a4_58 : decode cJ6_numberOfTrailingZeros_0f7a4 58 = .ok (.iload_n 0, 1) := by decide +kernel
theorem dJ6_numberOfTrailingZeros_0f7a4_59 : decode cJ6_numberOfTrailingZeros_0f7a4 59 = .ok (.iconst 4, 1) := by decide +kernel
theorem dJ6_numberOfTrailingZeros_0f7a4_60 : decode cJ6_numberOfTrailingZeros_0f7a4 60 = .ok (.iushr, 1) := by decide +kernel
theorem dJ6_numberOfTrailingZeros_0f7a4_61 : decode cJ6_numberOfTrailingZeros_0f7a4 61 = .ok (.istore_n 0, 1) := by decide +kernel
theorem dJ6_numberOfTrailingZeros_0f7a4_62 : decode cJ6_numberOfTrailingZeros_0f7a4 62 = .ok (.iload_n 0, 1) := by decide +kernel
theorem dJ6_numberOfTrailingZeros_0f7a4_63 : decode cJ6_numberOfTrailingZeros_0f7a4 63 = .ok (.iconst 4, 1) := by decide +kernel
theorem dJ6_numberOfTrailingZeros_0f7a4_64 : decode cJ6_numberOfTrailingZeros_0f7a4 64 = .ok (.if_icmp .le 10, 3) := by decide +kernel
theorem dJ6_numberOfTrailingZeros_0f7a4_67 : decode cJ6_numberOfTrailingZeros_0f7a4 67 = .ok (.iinc 1 2, 3) := by decide +kernel
theorem dJ6_numberOfTrailingZeros_0f7a4_70 : decode cJ6_numberOfTrailingZeros_0f7a4 70 = .ok (.iload_n 0, 1) := by decide +kernel
theorem dJ6_numberOfTrailingZeros_0f7a4_71 : decode cJ6_numberOfTrailingZeros_0f7a4 71 = .ok (.iconst 2, 1) := by decide +kernel
theorem dJ6_numberOfTrailingZeros_0f7a4_72 : decode cJ6_numberOfTrailingZeros_0f7a4 72 = .ok (.iushr, 1) := by decide +kernel
theorem dJ6_numberOfTrailingZeros_0f7a4_73 : decode cJ6_numberOfTrailingZeros_0f7a4 73 = .ok (.istore_n 0, 1) := by decide +kernel
theorem dJ6_numberOfTrailingZeros_0f7a4_74 : decode cJ6_numberOfTrailingZeros_0f7a4 74 = .ok (.iload_n 1, 1) := by decide +kernel
theorem dJ6_numberOfTrailingZeros_0f7a4_75 : decode cJ6_numberOfTrailingZeros_0f7a4 75 = .ok (.iload_n 0, 1) := by decide +kernel
theorem dJ6_numberOfTrailingZeros_0f7a4_76 : decode cJ6_numberOfTrailingZeros_0f7a4 76 = .ok (.iconst 1, 1) := by decide +kernel
theorem dJ6_numberOfTrailingZeros_0f7a4_77 : decode cJ6_numberOfTrailingZeros_0f7a4 77 = .ok (.iushr, 1) := by decide +kernel
theorem dJ6_numberOfTrailingZeros_0f7a4_78 : decode cJ6_numberOfTrailingZeros_0f7a4 78 = .ok (.iadd, 1) := by decide +kernel
theorem dJ6_numberOfTrailingZeros_0f7a4_79 : decode cJ6_numberOfTrailingZeros_0f7a4 79 = .ok (.ireturn, 1) := by decide +kernel
theorem dJ6_bitCount_0f7a4_0 : decode cJ6_bitCount_0f7a4 0 = .ok (.iload_n 0, 1) := by decide +kernel
theorem dJ6_bitCount_0f7a4_1 : decode cJ6_bitCount_0f7a4 1 = .ok (.iload_n 0, 1) := by decide +kernel
theorem dJ6_bitCount_0f7a4_2 : decode cJ6_bitCount_0f7a4 2 = .ok (.iconst 1, 1) := by decide +kernel
theorem dJ6_bitCount_0f7a4_3 : decode cJ6_bitCount_0f7a4 3 = .ok (.iushr, 1) := by decide +kernel
theorem dJ6_bitCount_0f7a4_4 : decode cJ6_bitCount_0f7a4 4 = .ok (.ldc_w 265, 3) := by decide +kernel
theorem dJ6_bitCount_0f7a4_7 : decode cJ6_bitCount_0f7a4 7 = .ok (.iand, 1) := by decide +kernel
theorem dJ6_bitCount_0f7a4_8 : decode cJ6_bitCount_0f7a4 8 = .ok (.isub, 1) := by decide +kernel
theorem dJ6_bitCount_0f7a4_9 : decode cJ6_bitCount_0f7a4 9 = .ok (.istore_n 0, 1) := by decide +kernel
theorem dJ6_bitCount_0f7a4_10 : decode cJ6_bitCount_0f7a4 10 = .ok (.iload_n 0, 1) := by decide +kernel
theorem dJ6_bitCount_0f7a4_11 : decode cJ6_bitCount_0f7a4 11 = .ok (.ldc_w 266, 3) := by decide +kernel
theorem dJ6_bitCount_0f7a4_14 : decode cJ6_bitCount_0f7a4 14 = .ok (.iand, 1) := by decide +kernel
theorem dJ6_bitCount_0f7a4_15 : decode cJ6_bitCount_0f7a4 15 = .ok (.iload_n 0, 1) := by decide +kernel
theorem dJ6_bitCount_0f7a4_16 : decode cJ6_bitCount_0f7a4 16 = .ok (.iconst 2, 1) := by decide +kernel
theorem dJ6_bitCount_0f7a4_17 : decode cJ6_bitCount_0f7a4 17 = .ok (.iushr, 1) := by decide +kernel
theorem dJ6_bitCount_0f7a4_18 : decode cJ6_bitCount_0f7a4 18 = .ok (.ldc_w 266, 3) := by decide +kernel
theorem dJ6_bitCount_0f7a4_21 : decode cJ6_bitCount_0f7a4 21 = .ok (.iand, 1) := by decide +kernel
theorem dJ6_bitCount_0f7a4_22 : decode cJ6_bitCount_0f7a4 22 = .ok (.iadd, 1) := by decide +kernel
theorem dJ6_bitCount_0f7a4_23 : decode cJ6_bitCount_0f7a4 23 = .ok (.istore_n 0, 1) := by decide +kernel
theorem dJ6_bitCount_0f7a4_24 : decode cJ6_bitCount_0f7a4 24 = .ok (.iload_n 0, 1) := by decide +kernel
theorem dJ6_bitCount_0f7a4_25 : decode cJ6_bitCount_0f7a4 25 = .ok (.iload_n 0, 1) := by decide +kernel
theorem dJ6_bitCount_0f7a4_26 : decode cJ6_bitCount_0f7a4 26 = .ok (.iconst 4, 1) := by decide +kernel
theorem dJ6_bitCount_0f7a4_27 : decode cJ6_bitCount_0f7a4 27 = .ok (.iushr, 1) := by decide +kernel
theorem dJ6_bitCount_0f7a4_28 : decode cJ6_bitCount_0f7a4 28 = .ok (.iadd, 1) := by decide +kernel
theorem dJ6_bitCount_0f7a4_29 : decode cJ6_bitCount_0f7a4 29 = .ok (.ldc_w 267, 3) := by decide +kernel
theorem dJ6_bitCount_0f7a4_32 : decode cJ6_bitCount_0f7a4 32 = .ok (.iand, 1) := by decide +kernel
theorem dJ6_bitCount_0f7a4_33 : decode cJ6_bitCount_0f7a4 33 = .ok (.istore_n 0, 1) := by decide +kernel
theorem dJ6_bitCount_0f7a4_34 : decode cJ6_bitCount_0f7a4 34 = .ok (.iload_n 0, 1) := by decide +kernel
theorem dJ6_bitCount_0f7a4_35 : decode cJ6_bitCount_0f7a4 35 = .ok (.iload_n 0, 1) := by decide +kernel
theorem dJ6_bitCount_0f7a4_36 : decode cJ6_bitCount_0f7a4 36 = .ok (.bipush 8, 2) := by decide +kernel
theorem dJ6_bitCount_0f7a4_38 : decode cJ6_bitCount_0f7a4 38 = .ok (.iushr, 1) := by decide +kernel
theorem dJ6_bitCount_0f7a4_39 : decode cJ6_bitCount_0f7a4 39 = .ok (.iadd, 1) := by decide +kernel
theorem dJ6_bitCount_0f7a4_40 : decode cJ6_bitCount_0f7a4 40 = .ok (.istore_n 0, 1) := by decide +kernel
theorem dJ6_bitCount_0f7a4_41 : decode cJ6_bitCount_0f7a4 41 = .ok (.iload_n 0, 1) := by decide +kernel
theorem dJ6_bitCount_0f7a4_42 : decode cJ6_bitCount_0f7a4 42 = .ok (.iload_n 0, 1) := by decide +kernel
theorem dJ6_bitCount_0f7a4_43 : decode cJ6_bitCount_0f7a4 43 = .ok (.bipush 16, 2) := by decide +kernel
theorem dJ6_bitCount_0f7a4_45 : decode cJ6_bitCount_0f7a4 45 = .ok (.iushr, 1) := by decide +kernel
theorem dJ6_bitCount_0f7a4_46 : decode cJ6_bitCount_0f7a4 46 = .ok (.iadd, 1) := by decide +kernel
theorem dJ6_bitCount_0f7a4_47 : decode cJ6_bitCount_0f7a4 47 = .ok (.istore_n 0, 1) := by decide +kernel
theorem dJ6_bitCount_0f7a4_48 : decode cJ6_bitCount_0f7a4 48 = .ok (.iload_n 0, 1) := by decide +kernel
theorem dJ6_bitCount_0f7a4_49 : decode cJ6_bitCount_0f7a4 49 = .ok (.bipush 63, 2) := by decide +kernel
theorem dJ6_bitCount_0f7a4_51 : decode cJ6_bitCount_0f7a4 51 = .ok (.iand, 1) := by decide +kernel
theorem dJ6_bitCount_0f7a4_52 : decode cJ6_bitCount_0f7a4 52 = .ok (.ireturn, 1) := by decide +kernel
theorem dJ13_numberOfTrailingZeros_95d88_0 : decode cJ13_numberOfTrailingZeros_95d88 0 = .ok (.lload_n 0, 1) := by decide +kernel
theorem dJ13_numberOfTrailingZeros_95d88_1 : decode cJ13_numberOfTrailingZeros_95d88 1 = .ok (.l2i, 1) := by decide +kernel
theorem dJ13_numberOfTrailingZeros_95d88_2 : decode cJ13_numberOfTrailingZeros_95d88 2 = .ok (.istore_n 2, 1) := by decide +kernel
theorem dJ13_numberOfTrailingZeros_95d88_3 : decode cJ13_numberOfTrailingZeros_95d88 3 = .ok (.iload_n 2, 1) := by decide +kernel
theorem dJ13_numberOfTrailingZeros_95d88_4 : decode cJ13_numberOfTrailingZeros_95d88 4 = .ok (.ifCond .ne 17, 3) := by decide +kernel
theorem dJ13_numberOfTrailingZeros_95d88_7 : decode cJ13_numberOfTrailingZeros_95d88 7 = .ok (.bipush 32, 2) := by decide +kernel
theorem dJ13_numberOfTrailingZeros_95d88_9 : decode cJ13_numberOfTrailingZeros_95d88 9 = .ok (.lload_n 0, 1) := by decide +kernel
theorem dJ13_numberOfTrailingZeros_95d88_10 : decode cJ13_numberOfTrailingZeros_95d88 10 = .ok (.bipush 32, 2) := by decide +kernel
theorem dJ13_numberOfTrailingZeros_95d88_12 : decode cJ13_numberOfTrailingZeros_95d88 12 = .ok (.lushr, 1) := by decide +kernel
theorem dJ13_numberOfTrailingZeros_95d88_13 : decode cJ13_numberOfTrailingZeros_95d88 13 = .ok (.l2i, 1) := by decide +kernel
theorem dJ13_numberOfTrailingZeros_95d88_14 : decode cJ13_numberOfTrailingZeros_95d88 14 = .ok (.invokestatic 311, 3) := by decide +kernel
theorem dJ13_numberOfTrailingZeros_95d88_17 : decode cJ13_numberOfTrailingZeros_95d88 17 = .ok (.iadd, 1) := by decide +kernel
theorem dJ13_numberOfTrailingZeros_95d88_18 : decode cJ13_numberOfTrailingZeros_95d88 18 = .ok (.goto 7, 3) := by decide +kernel
theorem dJ13_numberOfTrailingZeros_95d88_21 : decode cJ13_numberOfTrailingZeros_95d88 21 = .ok (.iload_n 2, 1) := by decide +kernel
theorem dJ13_numberOfTrailingZeros_95d88_22 : decode cJ13_numberOfTrailingZeros_95d88 22 = .ok (.invokestatic 311, 3) := by decide +kernel
theorem dJ13_numberOfTrailingZeros_95d88_25 : decode cJ13_numberOfTrailingZeros_95d88 25 = .ok (.ireturn, 1) := by decide +kernel
theorem dJ13_bitCount_95d88_0 : decode cJ13_bitCount_95d88 0 = .ok (.lload_n 0, 1) := by decide +kernel
theorem dJ13_bitCount_95d88_1 : decode cJ13_bitCount_95d88 1 = .ok (.lload_n 0, 1) := by decide +kernel
theorem dJ13_bitCount_95d88_2 : decode cJ13_bitCount_95d88 2 = .ok (.iconst 1, 1) := by decide +kernel
theorem dJ13_bitCount_95d88_3 : decode cJ13_bitCount_95d88 3 = .ok (.lushr, 1) := by decide +kernel
theorem dJ13_bitCount_95d88_4 : decode cJ13_bitCount_95d88 4 = .ok (.ldc2_w 314, 3) := by decide +kernel
theorem dJ13_bitCount_95d88_7 : decode cJ13_bitCount_95d88 7 = .ok (.land, 1) := by decide +kernel
theorem dJ13_bitCount_95d88_8 : decode cJ13_bitCount_95d88 8 = .ok (.lsub, 1) := by decide +kernel
theorem dJ13_bitCount_95d88_9 : decode cJ13_bitCount_95d88 9 = .ok (.lstore_n 0, 1) := by decide +kernel
theorem dJ13_bitCount_95d88_10 : decode cJ13_bitCount_95d88 10 = .ok (.lload_n 0, 1) := by decide +kernel
theorem dJ13_bitCount_95d88_11 : decode cJ13_bitCount_95d88 11 = .ok (.ldc2_w 316, 3) := by decide +kernel
theorem dJ13_bitCount_95d88_14 : decode cJ13_bitCount_95d88 14 = .ok (.land, 1) := by decide +kernel
theorem dJ13_bitCount_95d88_15 : decode cJ13_bitCount_95d88 15 = .ok (.lload_n 0, 1) := by decide +kernel
theorem dJ13_bitCount_95d88_16 : decode cJ13_bitCount_95d88 16 = .ok (.iconst 2, 1) := by decide +kernel
theorem dJ13_bitCount_95d88_17 : decode cJ13_bitCount_95d88 17 = .ok (.lushr, 1) := by decide +kernel
theorem dJ13_bitCount_95d88_18 : decode cJ13_bitCount_95d88 18 = .ok (.ldc2_w 316, 3) := by decide +kernel
theorem dJ13_bitCount_95d88_21 : decode cJ13_bitCount_95d88 21 = .ok (.land, 1) := by decide +kernel
theorem dJ13_bitCount_95d88_22 : decode cJ13_bitCount_95d88 22 = .ok (.ladd, 1) := by decide +kernel
theorem dJ13_bitCount_95d88_23 : decode cJ13_bitCount_95d88 23 = .ok (.lstore_n 0, 1) := by decide +kernel
theorem dJ13_bitCount_95d88_24 : decode cJ13_bitCount_95d88 24 = .ok (.lload_n 0, 1) := by decide +kernel
theorem dJ13_bitCount_95d88_25 : decode cJ13_bitCount_95d88 25 = .ok (.lload_n 0, 1) := by decide +kernel
theorem dJ13_bitCount_95d88_26 : decode cJ13_bitCount_95d88 26 = .ok (.iconst 4, 1) := by decide +kernel
theorem dJ13_bitCount_95d88_27 : decode cJ13_bitCount_95d88 27 = .ok (.lushr, 1) := by decide +kernel
theorem dJ13_bitCount_95d88_28 : decode cJ13_bitCount_95d88 28 = .ok (.ladd, 1) := by decide +kernel
theorem dJ13_bitCount_95d88_29 : decode cJ13_bitCount_95d88 29 = .ok (.ldc2_w 318, 3) := by decide +kernel
theorem dJ13_bitCount_95d88_32 : decode cJ13_bitCount_95d88 32 = .ok (.land, 1) := by decide +kernel
theorem dJ13_bitCount_95d88_33 : decode cJ13_bitCount_95d88 33 = .ok (.lstore_n 0, 1) := by decide +kernel
theorem dJ13_bitCount_95d88_34 : decode cJ13_bitCount_95d88 34 = .ok (.lload_n 0, 1) := by decide +kernel
theorem dJ13_bitCount_95d88_35 : decode cJ13_bitCount_95d88 35 = .ok (.lload_n 0, 1) := by decide +kernel
theorem dJ13_bitCount_95d88_36 : decode cJ13_bitCount_95d88 36 = .ok (.bipush 8, 2) := by decide +kernel
theorem dJ13_bitCount_95d88_38 : decode cJ13_bitCount_95d88 38 = .ok (.lushr, 1) := by decide +kernel
theorem dJ13_bitCount_95d88_39 : decode cJ13_bitCount_95d88 39 = .ok (.ladd, 1) := by decide +kernel
theorem dJ13_bitCount_95d88_40 : decode cJ13_bitCount_95d88 40 = .ok (.lstore_n 0, 1) := by decide +kernel
theorem dJ13_bitCount_95d88_41 : decode cJ13_bitCount_95d88 41 = .ok (.lload_n 0, 1) := by decide +kernel
theorem dJ13_bitCount_95d88_42 : decode cJ13_bitCount_95d88 42 = .ok (.lload_n 0, 1) := by decide +kernel
theorem dJ13_bitCount_95d88_43 : decode cJ13_bitCount_95d88 43 = .ok (.bipush 16, 2) := by decide +kernel
theorem dJ13_bitCount_95d88_45 : decode cJ13_bitCount_95d88 45 = .ok (.lushr, 1) := by decide +kernel
theorem dJ13_bitCount_95d88_46 : decode cJ13_bitCount_95d88 46 = .ok (.ladd, 1) := by decide +kernel
theorem dJ13_bitCount_95d88_47 : decode cJ13_bitCount_95d88 47 = .ok (.lstore_n 0, 1) := by decide +kernel
theorem dJ13_bitCount_95d88_48 : decode cJ13_bitCount_95d88 48 = .ok (.lload_n 0, 1) := by decide +kernel
theorem dJ13_bitCount_95d88_49 : decode cJ13_bitCount_95d88 49 = .ok (.lload_n 0, 1) := by decide +kernel
theorem dJ13_bitCount_95d88_50 : decode cJ13_bitCount_95d88 50 = .ok (.bipush 32, 2) := by decide +kernel
theorem dJ13_bitCount_95d88_52 : decode cJ13_bitCount_95d88 52 = .ok (.lushr, 1) := by decide +kernel
theorem dJ13_bitCount_95d88_53 : decode cJ13_bitCount_95d88 53 = .ok (.ladd, 1) := by decide +kernel
theorem dJ13_bitCount_95d88_54 : decode cJ13_bitCount_95d88 54 = .ok (.lstore_n 0, 1) := by decide +kernel
theorem dJ13_bitCount_95d88_55 : decode cJ13_bitCount_95d88 55 = .ok (.lload_n 0, 1) := by decide +kernel
theorem dJ13_bitCount_95d88_56 : decode cJ13_bitCount_95d88 56 = .ok (.l2i, 1) := by decide +kernel
theorem dJ13_bitCount_95d88_57 : decode cJ13_bitCount_95d88 57 = .ok (.bipush 127, 2) := by decide +kernel
theorem dJ13_bitCount_95d88_59 : decode cJ13_bitCount_95d88 59 = .ok (.iand, 1) := by decide +kernel
theorem dJ13_bitCount_95d88_60 : decode cJ13_bitCount_95d88 60 = .ok (.ireturn, 1) := by decide +kernel
theorem dJ9_max_7cf53_0 : decode cJ9_max_7cf53 0 = .ok (.iload_n 0, 1) := by decide +kernel
theorem dJ9_max_7cf53_1 : decode cJ9_max_7cf53 1 = .ok (.iload_n 1, 1) := by decide +kernel
theorem dJ9_max_7cf53_2 : decode cJ9_max_7cf53 2 = .ok (.if_icmp .lt 7, 3) := by decide +kernel
theorem dJ9_max_7cf53_5 : decode cJ9_max_7cf53 5 = .ok (.iload_n 0, 1) := by decide +kernel
theorem dJ9_max_7cf53_6 : decode cJ9_max_7cf53 6 = .ok (.goto 4, 3) := by decide +kernel
theorem dJ9_max_7cf53_9 : decode cJ9_max_7cf53 9 = .ok (.iload_n 1, 1) := by decide +kernel
theorem dJ9_max_7cf53_10 : decode cJ9_max_7cf53 10 = .ok (.ireturn, 1) := by decide +kernel
theorem dJ7_rangeCheck_23922_0 : decode cJ7_rangeCheck_23922 0 = .ok (.iload_n 1, 1) := by decide +kernel
theorem dJ7_rangeCheck_23922_1 : decode cJ7_rangeCheck_23922 1 = .ok (.iload_n 2, 1) := by decide +kernel
theorem dJ7_rangeCheck_23922_2 : decode cJ7_rangeCheck_23922 2 = .ok (.if_icmp .le 44, 3) := by decide +kernel
theorem dJ7_rangeCheck_23922_5 : decode cJ7_rangeCheck_23922 5 = .ok (.new 43, 3) := by decide +kernel
theorem dJ7_rangeCheck_23922_8 : decode cJ7_rangeCheck_23922 8 = .ok (.dup, 1) := by decide +kernel
theorem dJ7_rangeCheck_23922_9 : decode cJ7_rangeCheck_23922 9 = .ok (.new 45, 3) := by decide +kernel
theorem dJ7_rangeCheck_23922_12 : decode cJ7_rangeCheck_23922 12 = .ok (.dup, 1) := by decide +kernel
theorem dJ7_rangeCheck_23922_13 : decode cJ7_rangeCheck_23922 13 = .ok (.invokespecial 47, 3) := by decide +kernel
theorem dJ7_rangeCheck_23922_16 : decode cJ7_rangeCheck_23922 16 = .ok (.ldc 48, 2) := by decide +kernel
theorem dJ7_rangeCheck_23922_18 : decode cJ7_rangeCheck_23922 18 = .ok (.invokevirtual 50, 3) := by decide +kernel
theorem dJ7_rangeCheck_23922_21 : decode cJ7_rangeCheck_23922 21 = .ok (.iload_n 1, 1) := by decide +kernel
theorem dJ7_rangeCheck_23922_22 : decode cJ7_rangeCheck_23922 22 = .ok (.invokevirtual 54, 3) := by decide +kernel
theorem dJ7_rangeCheck_23922_25 : decode cJ7_rangeCheck_23922 25 = .ok (.ldc 57, 2) := by decide +kernel
theorem dJ7_rangeCheck_23922_27 : decode cJ7_rangeCheck_23922 27 = .ok (.invokevirtual 50, 3) := by decide +kernel
theorem dJ7_rangeCheck_23922_30 : decode cJ7_rangeCheck_23922 30 = .ok (.iload_n 2, 1) := by decide +kernel
theorem dJ7_rangeCheck_23922_31 : decode cJ7_rangeCheck_23922 31 = .ok (.invokevirtual 54, 3) := by decide +kernel
theorem dJ7_rangeCheck_23922_34 : decode cJ7_rangeCheck_23922 34 = .ok (.ldc 59, 2) := by decide +kernel
theorem dJ7_rangeCheck_23922_36 : decode cJ7_rangeCheck_23922 36 = .ok (.invokevirtual 50, 3) := by decide +kernel
theorem dJ7_rangeCheck_23922_39 : decode cJ7_rangeCheck_23922 39 = .ok (.invokevirtual 61, 3) := by decide +kernel
theorem dJ7_rangeCheck_23922_42 : decode cJ7_rangeCheck_23922 42 = .ok (.invokespecial 65, 3) := by decide +kernel
theorem dJ7_rangeCheck_23922_45 : decode cJ7_rangeCheck_23922 45 = .ok (.athrow, 1) := by decide +kernel
theorem dJ7_rangeCheck_23922_46 : decode cJ7_rangeCheck_23922 46 = .ok (.iload_n 1, 1) := by decide +kernel
theorem dJ7_rangeCheck_23922_47 : decode cJ7_rangeCheck_23922 47 = .ok (.ifCond .ge 12, 3) := by decide +kernel
theorem dJ7_rangeCheck_23922_50 : decode cJ7_rangeCheck_23922 50 = .ok (.new 68, 3) := by decide +kernel
theorem dJ7_rangeCheck_23922_53 : decode cJ7_rangeCheck_23922 53 = .ok (.dup, 1) := by decide +kernel
theorem dJ7_rangeCheck_23922_54 : decode cJ7_rangeCheck_23922 54 = .ok (.iload_n 1, 1) := by decide +kernel
theorem dJ7_rangeCheck_23922_55 : decode cJ7_rangeCheck_23922 55 = .ok (.invokespecial 70, 3) := by decide +kernel
theorem dJ7_rangeCheck_23922_58 : decode cJ7_rangeCheck_23922 58 = .ok (.athrow, 1) := by decide +kernel
theorem dJ7_rangeCheck_23922_59 : decode cJ7_rangeCheck_23922 59 = .ok (.iload_n 2, 1) := by decide +kernel
theorem dJ7_rangeCheck_23922_60 : decode cJ7_rangeCheck_23922 60 = .ok (.iload_n 0, 1) := by decide +kernel
theorem dJ7_rangeCheck_23922_61 : decode cJ7_rangeCheck_23922 61 = .ok (.if_icmp .le 12, 3) := by decide +kernel
theorem dJ7_rangeCheck_23922_64 : decode cJ7_rangeCheck_23922 64 = .ok (.new 68, 3) := by decide +kernel
theorem dJ7_rangeCheck_23922_67 : decode cJ7_rangeCheck_23922 67 = .ok (.dup, 1) := by decide +kernel
theorem dJ7_rangeCheck_23922_68 : decode cJ7_rangeCheck_23922 68 = .ok (.iload_n 2, 1) := by decide +kernel
theorem dJ7_rangeCheck_23922_69 : decode cJ7_rangeCheck_23922 69 = .ok (.invokespecial 70, 3) := by decide +kernel
theorem dJ7_rangeCheck_23922_72 : decode cJ7_rangeCheck_23922 72 = .ok (.athrow, 1) := by decide +kernel
theorem dJ7_rangeCheck_23922_73 : decode cJ7_rangeCheck_23922 73 = .ok (.return_, 1) := by decide +kernel
theorem dJ7_fill_53178_0 : decode cJ7_fill_53178 0 = .ok (.iconst 0, 1) := by decide +kernel
theorem dJ7_fill_53178_1 : decode cJ7_fill_53178 1 = .ok (.istore_n 2, 1) := by decide +kernel
theorem dJ7_fill_53178_2 : decode cJ7_fill_53178 2 = .ok (.aload_n 0, 1) := by decide +kernel
theorem dJ7_fill_53178_3 : decode cJ7_fill_53178 3 = .ok (.arraylength, 1) := by decide +kernel
theorem dJ7_fill_53178_4 : decode cJ7_fill_53178 4 = .ok (.istore_n 3, 1) := by decide +kernel
theorem dJ7_fill_53178_5 : decode cJ7_fill_53178 5 = .ok (.iload_n 2, 1) := by decide +kernel
theorem dJ7_fill_53178_6 : decode cJ7_fill_53178 6 = .ok (.iload_n 3, 1) := by decide +kernel
theorem dJ7_fill_53178_7 : decode cJ7_fill_53178 7 = .ok (.if_icmp .ge 13, 3) := by decide +kernel
theorem dJ7_fill_53178_10 : decode cJ7_fill_53178 10 = .ok (.aload_n 0, 1) := by decide +kernel
theorem dJ7_fill_53178_11 : decode cJ7_fill_53178 11 = .ok (.iload_n 2, 1) := by decide +kernel
theorem dJ7_fill_53178_12 : decode cJ7_fill_53178 12 = .ok (.iload_n 1, 1) := by decide +kernel
theorem dJ7_fill_53178_13 : decode cJ7_fill_53178 13 = .ok (.iastore, 1) := by decide +kernel
theorem dJ7_fill_53178_14 : decode cJ7_fill_53178 14 = .ok (.iinc 2 1, 3) := by decide +kernel
theorem dJ7_fill_53178_17 : decode cJ7_fill_53178 17 = .ok (.goto (-12), 3) := by decide +kernel
theorem dJ7_fill_53178_20 : decode cJ7_fill_53178 20 = .ok (.return_, 1) := by decide +kernel
theorem dJ7_fill_fda19_0 : decode cJ7_fill_fda19 0 = .ok (.aload_n 0, 1) := by decide +kernel
theorem dJ7_fill_fda19_1 : decode cJ7_fill_fda19 1 = .ok (.arraylength, 1) := by decide +kernel
theorem dJ7_fill_fda19_2 : decode cJ7_fill_fda19 2 = .ok (.iload_n 1, 1) := by decide +kernel
theorem dJ7_fill_fda19_3 : decode cJ7_fill_fda19 3 = .ok (.iload_n 2, 1) := by decide +kernel
theorem dJ7_fill_fda19_4 : decode cJ7_fill_fda19 4 = .ok (.invokestatic 13, 3) := by decide +kernel
theorem dJ7_fill_fda19_7 : decode cJ7_fill_fda19 7 = .ok (.iload_n 1, 1) := by decide +kernel
theorem dJ7_fill_fda19_8 : decode cJ7_fill_fda19 8 = .ok (.istore 4, 2) := by decide +kernel
theorem dJ7_fill_fda19_10 : decode cJ7_fill_fda19 10 = .ok (.iload 4, 2) := by decide +kernel
theorem dJ7_fill_fda19_12 : decode cJ7_fill_fda19 12 = .ok (.iload_n 2, 1) := by decide +kernel
theorem dJ7_fill_fda19_13 : decode cJ7_fill_fda19 13 = .ok (.if_icmp .ge 14, 3) := by decide +kernel
theorem dJ7_fill_fda19_16 : decode cJ7_fill_fda19 16 = .ok (.aload_n 0, 1) := by decide +kernel
theorem dJ7_fill_fda19_17 : decode cJ7_fill_fda19 17 = .ok (.iload 4, 2) := by decide +kernel
theorem dJ7_fill_fda19_19 : decode cJ7_fill_fda19 19 = .ok (.iload_n 3, 1) := by decide +kernel
theorem dJ7_fill_fda19_20 : decode cJ7_fill_fda19 20 = .ok (.iastore, 1) := by decide +kernel
theorem dJ7_fill_fda19_21 : decode cJ7_fill_fda19 21 = .ok (.iinc 4 1, 3) := by decide +kernel
theorem dJ7_fill_fda19_24 : decode cJ7_fill_fda19 24 = .ok (.goto (-14), 3) := by decide +kernel
theorem dJ7_fill_fda19_27 : decode cJ7_fill_fda19 27 = .ok (.return_, 1) := by decide +kernel
end
section
theorem dX3_init_0 : decode cX3_init 0 = .ok (.aload_n 0, 1) := by decide +kernel
theorem dX3_init_1 : decode cX3_init 1 = .ok (.invokespecial 1, 3) := by decide +kernel
theorem dX3_init_4 : decode cX3_init 4 = .ok (.aload_n 0, 1) := by decide +kernel
theorem dX3_init_5 : decode cX3_init 5 = .ok (.iconst 0, 1) := by decide +kernel
theorem dX3_init_6 : decode cX3_init 6 = .ok (.putfield 7, 3) := by decide +kernel
theorem dX3_init_9 : decode cX3_init 9 = .ok (.aload_n 0, 1) := by decide +kernel
theorem dX3_init_10 : decode cX3_init 10 = .ok (.iconst 0, 1) := by decide +kernel
theorem dX3_init_11 : decode cX3_init 11 = .ok (.putfield 13, 3) := by decide +kernel
theorem dX3_init_14 : decode cX3_init 14 = .ok (.aload_n 0, 1) := by decide +kernel
theorem dX3_init_15 : decode cX3_init 15 = .ok (.iconst 0, 1) := by decide +kernel
theorem dX3_init_16 : decode cX3_init 16 = .ok (.putfield 17, 3) := by decide +kernel
theorem dX3_init_19 : decode cX3_init 19 = .ok (.aload_n 0, 1) := by decide +kernel
theorem dX3_init_20 : decode cX3_init 20 = .ok (.iconst 0, 1) := by decide +kernel
theorem dX3_init_21 : decode cX3_init 21 = .ok (.putfield 20, 3) := by decide +kernel
theorem dX3_init_24 : decode cX3_init 24 = .ok (.aload_n 0, 1) := by decide +kernel
theorem dX3_init_25 : decode cX3_init 25 = .ok (.iconst 0, 1) := by decide +kernel
theorem dX3_init_26 : decode cX3_init 26 = .ok (.putfield 23, 3) := by decide +kernel
theorem dX3_init_29 : decode cX3_init 29 = .ok (.aload_n 0, 1) := by decide +kernel
theorem dX3_init_30 : decode cX3_init 30 = .ok (.iconst 0, 1) := by decide +kernel
theorem dX3_init_31 : decode cX3_init 31 = .ok (.putfield 26, 3) := by decide +kernel
theorem dX3_init_34 : decode cX3_init 34 = .ok (.aload_n 0, 1) := by decide +kernel
theorem dX3_init_35 : decode cX3_init 35 = .ok (.iconst 0, 1) := by decide +kernel
theorem dX3_init_36 : decode cX3_init 36 = .ok (.putfield 29, 3) := by decide +kernel
theorem dX3_init_39 : decode cX3_init 39 = .ok (.aload_n 0, 1) := by decide +kernel
theorem dX3_init_40 : decode cX3_init 40 = .ok (.bipush 6, 2) := by decide +kernel
theorem dX3_init_42 : decode cX3_init 42 = .ok (.newarray .int, 2) := by decide +kernel
theorem dX3_init_44 : decode cX3_init 44 = .ok (.putfield 32, 3) := by decide +kernel
theorem dX3_init_47 : decode cX3_init 47 = .ok (.aload_n 0, 1) := by decide +kernel
theorem dX3_init_48 : decode cX3_init 48 = .ok (.bipush 6, 2) := by decide +kernel
theorem dX3_init_50 : decode cX3_init 50 = .ok (.newarray .int, 2) := by decide +kernel
theorem dX3_init_52 : decode cX3_init 52 = .ok (.putfield 36, 3) := by decide +kernel
theorem dX3_init_55 : decode cX3_init 55 = .ok (.aload_n 0, 1) := by decide +kernel
theorem dX3_init_56 : decode cX3_init 56 = .ok (.bipush 6, 2) := by decide +kernel
theorem dX3_init_58 : decode cX3_init 58 = .ok (.newarray .int, 2) := by decide +kernel
theorem dX3_init_60 : decode cX3_init 60 = .ok (.putfield 39, 3) := by decide +kernel
theorem dX3_init_63 : decode cX3_init 63 = .ok (.aload_n 0, 1) := by decide +kernel
theorem dX3_init_64 : decode cX3_init 64 = .ok (.bipush 6, 2) := by decide +kernel
theorem dX3_init_66 : decode cX3_init 66 = .ok (.newarray .int, 2) := by decide +kernel
theorem dX3_init_68 : decode cX3_init 68 = .ok (.putfield 42, 3) := by decide +kernel
theorem dX3_init_71 : decode cX3_init 71 = .ok (.aload_n 0, 1) := by decide +kernel
theorem dX3_init_72 : decode cX3_init 72 = .ok (.bipush 6, 2) := by decide +kernel
theorem dX3_init_74 : decode cX3_init 74 = .ok (.newarray .int, 2) := by decide +kernel
theorem dX3_init_76 : decode cX3_init 76 = .ok (.putfield 45, 3) := by decide +kernel
theorem dX3_init_79 : decode cX3_init 79 = .ok (.aload_n 0, 1) := by decide +kernel
theorem dX3_init_80 : decode cX3_init 80 = .ok (.bipush 6, 2) := by decide +kernel
theorem dX3_init_82 : decode cX3_init 82 = .ok (.newarray .int, 2) := by decide +kernel
theorem dX3_init_84 : decode cX3_init 84 = .ok (.putfield 48, 3) := by decide +kernel
theorem dX3_init_87 : decode cX3_init 87 = .ok (.aload_n 0, 1) := by decide +kernel
theorem dX3_init_88 : decode cX3_init 88 = .ok (.iconst 4, 1) := by decide +kernel
theorem dX3_init_89 : decode cX3_init 89 = .ok (.newarray .int, 2) := by decide +kernel
theorem dX3_init_91 : decode cX3_init 91 = .ok (.putfield 51, 3) := by decide +kernel
theorem dX3_init_94 : decode cX3_init 94 = .ok (.aload_n 0, 1) := by decide +kernel
theorem dX3_init_95 : decode cX3_init 95 = .ok (.iconst 4, 1) := by decide +kernel
theorem dX3_init_96 : decode cX3_init 96 = .ok (.newarray .int, 2) := by decide +kernel
theorem dX3_init_98 : decode cX3_init 98 = .ok (.putfield 54, 3) := by decide +kernel
theorem dX3_init_101 : decode cX3_init 101 = .ok (.aload_n 0, 1) := by decide +kernel
theorem dX3_init_102 : decode cX3_init 102 = .ok (.iconst 4, 1) := by decide +kernel
theorem dX3_init_103 : decode cX3_init 103 = .ok (.newarray .int, 2) := by decide +kernel
theorem dX3_init_105 : decode cX3_init 105 = .ok (.putfield 57, 3) := by decide +kernel
theorem dX3_init_108 : decode cX3_init 108 = .ok (.aload_n 0, 1) := by decide +kernel
theorem dX3_init_109 : decode cX3_init 109 = .ok (.sipush 1000, 3) := by decide +kernel
theorem dX3_init_112 : decode cX3_init 112 = .ok (.newarray .int, 2) := by decide +kernel
theorem dX3_init_114 : decode cX3_init 114 = .ok (.putfield 60, 3) := by decide +kernel
theorem dX3_init_117 : decode cX3_init 117 = .ok (.return_, 1) := by decide +kernel
theorem dX3_hasEar_0 : decode cX3_hasEar 0 = .ok (.iload_n 1, 1) := by decide +kernel
theorem dX3_hasEar_1 : decode cX3_hasEar 1 = .ok (.ifCond .lt 15, 3) := by decide +kernel
theorem dX3_hasEar_4 : decode cX3_hasEar 4 = .ok (.iload_n 1, 1) := by decide +kernel
theorem dX3_hasEar_5 : decode cX3_hasEar 5 = .ok (.aload_n 0, 1) := by decide +kernel
theorem dX3_hasEar_6 : decode cX3_hasEar 6 = .ok (.getfield 26, 3) := by decide +kernel
theorem dX3_hasEar_9 : decode cX3_hasEar 9 = .ok (.if_icmp .ge 7, 3) := by decide +kernel
theorem dX3_hasEar_12 : decode cX3_hasEar 12 = .ok (.iconst 1, 1) := by decide +kernel
theorem dX3_hasEar_13 : decode cX3_hasEar 13 = .ok (.goto 4, 3) := by decide +kernel
theorem dX3_hasEar_16 : decode cX3_hasEar 16 = .ok (.iconst 0, 1) := by decide +kernel
theorem dX3_hasEar_17 : decode cX3_hasEar 17 = .ok (.ireturn, 1) := by decide +kernel
theorem dX3_hasDoing_0 : decode cX3_hasDoing 0 = .ok (.iload_n 1, 1) := by decide +kernel
theorem dX3_hasDoing_1 : decode cX3_hasDoing 1 = .ok (.ifCond .lt 15, 3) := by decide +kernel
theorem dX3_hasDoing_4 : decode cX3_hasDoing 4 = .ok (.iload_n 1, 1) := by decide +kernel
theorem dX3_hasDoing_5 : decode cX3_hasDoing 5 = .ok (.aload_n 0, 1) := by decide +kernel
theorem dX3_hasDoing_6 : decode cX3_hasDoing 6 = .ok (.getfield 29, 3) := by decide +kernel
theorem dX3_hasDoing_9 : decode cX3_hasDoing 9 = .ok (.if_icmp .ge 7, 3) := by decide +kernel
theorem dX3_hasDoing_12 : decode cX3_hasDoing 12 = .ok (.iconst 1, 1) := by decide +kernel
theorem dX3_hasDoing_13 : decode cX3_hasDoing 13 = .ok (.goto 4, 3) := by decide +kernel
theorem dX3_hasDoing_16 : decode cX3_hasDoing 16 = .ok (.iconst 0, 1) := by decide +kernel
theorem dX3_hasDoing_17 : decode cX3_hasDoing 17 = .ok (.ireturn, 1) := by decide +kernel
theorem dX3_settle_0 : decode cX3_settle 0 = .ok (.aload_n 0, 1) := by decide +kernel
theorem dX3_settle_1 : decode cX3_settle 1 = .ok (.iconst 1, 1) := by decide +kernel
theorem dX3_settle_2 : decode cX3_settle 2 = .ok (.putfield 7, 3) := by decide +kernel
theorem dX3_settle_5 : decode cX3_settle 5 = .ok (.aload_n 0, 1) := by decide +kernel
theorem dX3_settle_6 : decode cX3_settle 6 = .ok (.aload_n 1, 1) := by decide +kernel
theorem dX3_settle_7 : decode cX3_settle 7 = .ok (.invokevirtual 63, 3) := by decide +kernel
theorem dX3_settle_10 : decode cX3_settle 10 = .ok (.putfield 13, 3) := by decide +kernel
theorem dX3_settle_13 : decode cX3_settle 13 = .ok (.aload_n 0, 1) := by decide +kernel
theorem dX3_settle_14 : decode cX3_settle 14 = .ok (.iconst 0, 1) := by decide +kernel
theorem dX3_settle_15 : decode cX3_settle 15 = .ok (.putfield 17, 3) := by decide +kernel
theorem dX3_settle_18 : decode cX3_settle 18 = .ok (.aload_n 0, 1) := by decide +kernel
theorem dX3_settle_19 : decode cX3_settle 19 = .ok (.iconst 0, 1) := by decide +kernel
theorem dX3_settle_20 : decode cX3_settle 20 = .ok (.putfield 20, 3) := by decide +kernel
theorem dX3_settle_23 : decode cX3_settle 23 = .ok (.aload_n 0, 1) := by decide +kernel
theorem dX3_settle_24 : decode cX3_settle 24 = .ok (.iconst 0, 1) := by decide +kernel
theorem dX3_settle_25 : decode cX3_settle 25 = .ok (.putfield 23, 3) := by decide +kernel
theorem dX3_settle_28 : decode cX3_settle 28 = .ok (.aload_n 0, 1) := by decide +kernel
theorem dX3_settle_29 : decode cX3_settle 29 = .ok (.getfield 60, 3) := by decide +kernel
theorem dX3_settle_32 : decode cX3_settle 32 = .ok (.iconst 0, 1) := by decide +kernel
theorem dX3_settle_33 : decode cX3_settle 33 = .ok (.iconst 0, 1) := by decide +kernel
theorem dX3_settle_34 : decode cX3_settle 34 = .ok (.iastore, 1) := by decide +kernel
theorem dX3_settle_35 : decode cX3_settle 35 = .ok (.aload_n 0, 1) := by decide +kernel
theorem dX3_settle_36 : decode cX3_settle 36 = .ok (.aload_n 1, 1) := by decide +kernel
theorem dX3_settle_37 : decode cX3_settle 37 = .ok (.invokevirtual 69, 3) := by decide +kernel
theorem dX3_settle_40 : decode cX3_settle 40 = .ok (.aload_n 0, 1) := by decide +kernel
theorem dX3_settle_41 : decode cX3_settle 41 = .ok (.aload_n 1, 1) := by decide +kernel
theorem dX3_settle_42 : decode cX3_settle 42 = .ok (.invokevirtual 73, 3) := by decide +kernel
theorem dX3_settle_45 : decode cX3_settle 45 = .ok (.return_, 1) := by decide +kernel
theorem dX3_settleEars_0 : decode cX3_settleEars 0 = .ok (.aload_n 0, 1) := by decide +kernel
theorem dX3_settleEars_1 : decode cX3_settleEars 1 = .ok (.aload_n 1, 1) := by decide +kernel
theorem dX3_settleEars_2 : decode cX3_settleEars 2 = .ok (.getfield 76, 3) := by decide +kernel
theorem dX3_settleEars_5 : decode cX3_settleEars 5 = .ok (.putfield 26, 3) := by decide +kernel
theorem dX3_settleEars_8 : decode cX3_settleEars 8 = .ok (.iconst 0, 1) := by decide +kernel
theorem dX3_settleEars_9 : decode cX3_settleEars 9 = .ok (.istore_n 2, 1) := by decide +kernel
theorem dX3_settleEars_10 : decode cX3_settleEars 10 = .ok (.iload_n 2, 1) := by decide +kernel
theorem dX3_settleEars_11 : decode cX3_settleEars 11 = .ok (.aload_n 0, 1) := by decide +kernel
theorem dX3_settleEars_12 : decode cX3_settleEars 12 = .ok (.getfield 26, 3) := by decide +kernel
theorem dX3_settleEars_15 : decode cX3_settleEars 15 = .ok (.if_icmp .ge 76, 3) := by decide +kernel
theorem dX3_settleEars_18 : decode cX3_settleEars 18 = .ok (.aload_n 0, 1) := by decide +kernel
theorem dX3_settleEars_19 : decode cX3_settleEars 19 = .ok (.getfield 32, 3) := by decide +kernel
theorem dX3_settleEars_22 : decode cX3_settleEars 22 = .ok (.iload_n 2, 1) := by decide +kernel
theorem dX3_settleEars_23 : decode cX3_settleEars 23 = .ok (.aload_n 1, 1) := by decide +kernel
theorem dX3_settleEars_24 : decode cX3_settleEars 24 = .ok (.getfield 77, 3) := by decide +kernel
theorem dX3_settleEars_27 : decode cX3_settleEars 27 = .ok (.iload_n 2, 1) := by decide +kernel
theorem dX3_settleEars_28 : decode cX3_settleEars 28 = .ok (.iaload, 1) := by decide +kernel
theorem dX3_settleEars_29 : decode cX3_settleEars 29 = .ok (.iastore, 1) := by decide +kernel
theorem dX3_settleEars_30 : decode cX3_settleEars 30 = .ok (.aload_n 0, 1) := by decide +kernel
theorem dX3_settleEars_31 : decode cX3_settleEars 31 = .ok (.getfield 36, 3) := by decide +kernel
theorem dX3_settleEars_34 : decode cX3_settleEars 34 = .ok (.iload_n 2, 1) := by decide +kernel
theorem dX3_settleEars_35 : decode cX3_settleEars 35 = .ok (.aload_n 1, 1) := by decide +kernel
theorem dX3_settleEars_36 : decode cX3_settleEars 36 = .ok (.iload_n 2, 1) := by decide +kernel
theorem dX3_settleEars_37 : decode cX3_settleEars 37 = .ok (.iconst 0, 1) := by decide +kernel
theorem dX3_settleEars_38 : decode cX3_settleEars 38 = .ok (.invokevirtual 78, 3) := by decide +kernel
theorem dX3_settleEars_41 : decode cX3_settleEars 41 = .ok (.iastore, 1) := by decide +kernel
theorem dX3_settleEars_42 : decode cX3_settleEars 42 = .ok (.aload_n 0, 1) := by decide +kernel
theorem dX3_settleEars_43 : decode cX3_settleEars 43 = .ok (.getfield 39, 3) := by decide +kernel
theorem dX3_settleEars_46 : decode cX3_settleEars 46 = .ok (.iload_n 2, 1) := by decide +kernel
theorem dX3_settleEars_47 : decode cX3_settleEars 47 = .ok (.aload_n 1, 1) := by decide +kernel
theorem dX3_settleEars_48 : decode cX3_settleEars 48 = .ok (.iload_n 2, 1) := by decide +kernel
theorem dX3_settleEars_49 : decode cX3_settleEars 49 = .ok (.iconst 1, 1) := by decide +kernel
theorem dX3_settleEars_50 : decode cX3_settleEars 50 = .ok (.invokevirtual 78, 3) := by decide +kernel
theorem dX3_settleEars_53 : decode cX3_settleEars 53 = .ok (.iastore, 1) := by decide +kernel
theorem dX3_settleEars_54 : decode cX3_settleEars 54 = .ok (.aload_n 0, 1) := by decide +kernel
theorem dX3_settleEars_55 : decode cX3_settleEars 55 = .ok (.getfield 42, 3) := by decide +kernel
theorem dX3_settleEars_58 : decode cX3_settleEars 58 = .ok (.iload_n 2, 1) := by decide +kernel
theorem dX3_settleEars_59 : decode cX3_settleEars 59 = .ok (.aload_n 1, 1) := by decide +kernel
theorem dX3_settleEars_60 : decode cX3_settleEars 60 = .ok (.iload_n 2, 1) := by decide +kernel
theorem dX3_settleEars_61 : decode cX3_settleEars 61 = .ok (.iconst 2, 1) := by decide +kernel
theorem dX3_settleEars_62 : decode cX3_settleEars 62 = .ok (.invokevirtual 78, 3) := by decide +kernel
theorem dX3_settleEars_65 : decode cX3_settleEars 65 = .ok (.iastore, 1) := by decide +kernel
theorem dX3_settleEars_66 : decode cX3_settleEars 66 = .ok (.aload_n 0, 1) := by decide +kernel
theorem dX3_settleEars_67 : decode cX3_settleEars 67 = .ok (.getfield 45, 3) := by decide +kernel
theorem dX3_settleEars_70 : decode cX3_settleEars 70 = .ok (.iload_n 2, 1) := by decide +kernel
theorem dX3_settleEars_71 : decode cX3_settleEars 71 = .ok (.aload_n 1, 1) := by decide +kernel
theorem dX3_settleEars_72 : decode cX3_settleEars 72 = .ok (.iload_n 2, 1) := by decide +kernel
theorem dX3_settleEars_73 : decode cX3_settleEars 73 = .ok (.iconst 3, 1) := by decide +kernel
theorem dX3_settleEars_74 : decode cX3_settleEars 74 = .ok (.invokevirtual 78, 3) := by decide +kernel
theorem dX3_settleEars_77 : decode cX3_settleEars 77 = .ok (.iastore, 1) := by decide +kernel
theorem dX3_settleEars_78 : decode cX3_settleEars 78 = .ok (.aload_n 0, 1) := by decide +kernel
theorem dX3_settleEars_79 : decode cX3_settleEars 79 = .ok (.getfield 48, 3) := by decide +kernel
theorem dX3_settleEars_82 : decode cX3_settleEars 82 = .ok (.iload_n 2, 1) := by decide +kernel
theorem dX3_settleEars_83 : decode cX3_settleEars 83 = .ok (.iconst 0, 1) := by decide +kernel
theorem dX3_settleEars_84 : decode cX3_settleEars 84 = .ok (.iastore, 1) := by decide +kernel
theorem dX3_settleEars_85 : decode cX3_settleEars 85 = .ok (.iinc 2 1, 3) := by decide +kernel
theorem dX3_settleEars_88 : decode cX3_settleEars 88 = .ok (.goto (-78), 3) := by decide +kernel
theorem dX3_settleEars_91 : decode cX3_settleEars 91 = .ok (.return_, 1) := by decide +kernel
theorem dX3_settleDoings_0 : decode cX3_settleDoings 0 = .ok (.aload_n 0, 1) := by decide +kernel
theorem dX3_settleDoings_1 : decode cX3_settleDoings 1 = .ok (.aload_n 1, 1) := by decide +kernel
theorem dX3_settleDoings_2 : decode cX3_settleDoings 2 = .ok (.getfield 82, 3) := by decide +kernel
theorem dX3_settleDoings_5 : decode cX3_settleDoings 5 = .ok (.putfield 29, 3) := by decide +kernel
theorem dX3_settleDoings_8 : decode cX3_settleDoings 8 = .ok (.iconst 0, 1) := by decide +kernel
theorem dX3_settleDoings_9 : decode cX3_settleDoings 9 = .ok (.istore_n 2, 1) := by decide +kernel
theorem dX3_settleDoings_10 : decode cX3_settleDoings 10 = .ok (.iload_n 2, 1) := by decide +kernel
theorem dX3_settleDoings_11 : decode cX3_settleDoings 11 = .ok (.aload_n 0, 1) := by decide +kernel
theorem dX3_settleDoings_12 : decode cX3_settleDoings 12 = .ok (.getfield 29, 3) := by decide +kernel
theorem dX3_settleDoings_15 : decode cX3_settleDoings 15 = .ok (.if_icmp .ge 45, 3) := by decide +kernel
theorem dX3_settleDoings_18 : decode cX3_settleDoings 18 = .ok (.aload_n 0, 1) := by decide +kernel
theorem dX3_settleDoings_19 : decode cX3_settleDoings 19 = .ok (.getfield 51, 3) := by decide +kernel
theorem dX3_settleDoings_22 : decode cX3_settleDoings 22 = .ok (.iload_n 2, 1) := by decide +kernel
theorem dX3_settleDoings_23 : decode cX3_settleDoings 23 = .ok (.aload_n 1, 1) := by decide +kernel
theorem dX3_settleDoings_24 : decode cX3_settleDoings 24 = .ok (.iload_n 2, 1) := by decide +kernel
theorem dX3_settleDoings_25 : decode cX3_settleDoings 25 = .ok (.iconst 0, 1) := by decide +kernel
theorem dX3_settleDoings_26 : decode cX3_settleDoings 26 = .ok (.invokevirtual 83, 3) := by decide +kernel
theorem dX3_settleDoings_29 : decode cX3_settleDoings 29 = .ok (.iastore, 1) := by decide +kernel
theorem dX3_settleDoings_30 : decode cX3_settleDoings 30 = .ok (.aload_n 0, 1) := by decide +kernel
theorem dX3_settleDoings_31 : decode cX3_settleDoings 31 = .ok (.getfield 54, 3) := by decide +kernel
theorem dX3_settleDoings_34 : decode cX3_settleDoings 34 = .ok (.iload_n 2, 1) := by decide +kernel
theorem dX3_settleDoings_35 : decode cX3_settleDoings 35 = .ok (.aload_n 1, 1) := by decide +kernel
theorem dX3_settleDoings_36 : decode cX3_settleDoings 36 = .ok (.iload_n 2, 1) := by decide +kernel
theorem dX3_settleDoings_37 : decode cX3_settleDoings 37 = .ok (.iconst 1, 1) := by decide +kernel
theorem dX3_settleDoings_38 : decode cX3_settleDoings 38 = .ok (.invokevirtual 83, 3) := by decide +kernel
theorem dX3_settleDoings_41 : decode cX3_settleDoings 41 = .ok (.iastore, 1) := by decide +kernel
theorem dX3_settleDoings_42 : decode cX3_settleDoings 42 = .ok (.aload_n 0, 1) := by decide +kernel
theorem dX3_settleDoings_43 : decode cX3_settleDoings 43 = .ok (.getfield 57, 3) := by decide +kernel
theorem dX3_settleDoings_46 : decode cX3_settleDoings 46 = .ok (.iload_n 2, 1) := by decide +kernel
theorem dX3_settleDoings_47 : decode cX3_settleDoings 47 = .ok (.aload_n 1, 1) := by decide +kernel
theorem dX3_settleDoings_48 : decode cX3_settleDoings 48 = .ok (.iload_n 2, 1) := by decide +kernel
theorem dX3_settleDoings_49 : decode cX3_settleDoings 49 = .ok (.iconst 2, 1) := by decide +kernel
theorem dX3_settleDoings_50 : decode cX3_settleDoings 50 = .ok (.invokevirtual 83, 3) := by decide +kernel
theorem dX3_settleDoings_53 : decode cX3_settleDoings 53 = .ok (.iastore, 1) := by decide +kernel
theorem dX3_settleDoings_54 : decode cX3_settleDoings 54 = .ok (.iinc 2 1, 3) := by decide +kernel
theorem dX3_settleDoings_57 : decode cX3_settleDoings 57 = .ok (.goto (-47), 3) := by decide +kernel
theorem dX3_settleDoings_60 : decode cX3_settleDoings 60 = .ok (.return_, 1) := by decide +kernel
theorem dX3_becomeLike_0 : decode cX3_becomeLike 0 = .ok (.aload_n 0, 1) := by decide +kernel
theorem dX3_becomeLike_1 : decode cX3_becomeLike 1 = .ok (.aload_n 1, 1) := by decide +kernel
theorem dX3_becomeLike_2 : decode cX3_becomeLike 2 = .ok (.getfield 7, 3) := by decide +kernel
theorem dX3_becomeLike_5 : decode cX3_becomeLike 5 = .ok (.putfield 7, 3) := by decide +kernel
theorem dX3_becomeLike_8 : decode cX3_becomeLike 8 = .ok (.aload_n 0, 1) := by decide +kernel
theorem dX3_becomeLike_9 : decode cX3_becomeLike 9 = .ok (.aload_n 1, 1) := by decide +kernel
theorem dX3_becomeLike_10 : decode cX3_becomeLike 10 = .ok (.getfield 13, 3) := by decide +kernel
theorem dX3_becomeLike_13 : decode cX3_becomeLike 13 = .ok (.putfield 13, 3) := by decide +kernel
theorem dX3_becomeLike_16 : decode cX3_becomeLike 16 = .ok (.aload_n 0, 1) := by decide +kernel
theorem dX3_becomeLike_17 : decode cX3_becomeLike 17 = .ok (.aload_n 1, 1) := by decide +kernel
theorem dX3_becomeLike_18 : decode cX3_becomeLike 18 = .ok (.getfield 17, 3) := by decide +kernel
theorem dX3_becomeLike_21 : decode cX3_becomeLike 21 = .ok (.putfield 17, 3) := by decide +kernel
theorem dX3_becomeLike_24 : decode cX3_becomeLike 24 = .ok (.aload_n 0, 1) := by decide +kernel
theorem dX3_becomeLike_25 : decode cX3_becomeLike 25 = .ok (.aload_n 1, 1) := by decide +kernel
theorem dX3_becomeLike_26 : decode cX3_becomeLike 26 = .ok (.getfield 20, 3) := by decide +kernel
theorem dX3_becomeLike_29 : decode cX3_becomeLike 29 = .ok (.putfield 20, 3) := by decide +kernel
theorem dX3_becomeLike_32 : decode cX3_becomeLike 32 = .ok (.aload_n 0, 1) := by decide +kernel
theorem dX3_becomeLike_33 : decode cX3_becomeLike 33 = .ok (.aload_n 1, 1) := by decide +kernel
theorem dX3_becomeLike_34 : decode cX3_becomeLike 34 = .ok (.getfield 23, 3) := by decide +kernel
theorem dX3_becomeLike_37 : decode cX3_becomeLike 37 = .ok (.putfield 23, 3) := by decide +kernel
theorem dX3_becomeLike_40 : decode cX3_becomeLike 40 = .ok (.aload_n 0, 1) := by decide +kernel
theorem dX3_becomeLike_41 : decode cX3_becomeLike 41 = .ok (.aload_n 1, 1) := by decide +kernel
theorem dX3_becomeLike_42 : decode cX3_becomeLike 42 = .ok (.getfield 26, 3) := by decide +kernel
theorem dX3_becomeLike_45 : decode cX3_becomeLike 45 = .ok (.putfield 26, 3) := by decide +kernel
theorem dX3_becomeLike_48 : decode cX3_becomeLike 48 = .ok (.aload_n 0, 1) := by decide +kernel
theorem dX3_becomeLike_49 : decode cX3_becomeLike 49 = .ok (.aload_n 1, 1) := by decide +kernel
theorem dX3_becomeLike_50 : decode cX3_becomeLike 50 = .ok (.getfield 29, 3) := by decide +kernel
theorem dX3_becomeLike_53 : decode cX3_becomeLike 53 = .ok (.putfield 29, 3) := by decide +kernel
theorem dX3_becomeLike_56 : decode cX3_becomeLike 56 = .ok (.aload_n 1, 1) := by decide +kernel
theorem dX3_becomeLike_57 : decode cX3_becomeLike 57 = .ok (.getfield 32, 3) := by decide +kernel
theorem dX3_becomeLike_60 : decode cX3_becomeLike 60 = .ok (.iconst 0, 1) := by decide +kernel
theorem dX3_becomeLike_61 : decode cX3_becomeLike 61 = .ok (.aload_n 0, 1) := by decide +kernel
theorem dX3_becomeLike_62 : decode cX3_becomeLike 62 = .ok (.getfield 32, 3) := by decide +kernel
theorem dX3_becomeLike_65 : decode cX3_becomeLike 65 = .ok (.iconst 0, 1) := by decide +kernel
theorem dX3_becomeLike_66 : decode cX3_becomeLike 66 = .ok (.bipush 6, 2) := by decide +kernel
theorem dX3_becomeLike_68 : decode cX3_becomeLike 68 = .ok (.invokestatic 86, 3) := by decide +kernel
theorem dX3_becomeLike_71 : decode cX3_becomeLike 71 = .ok (.aload_n 1, 1) := by decide +kernel
theorem dX3_becomeLike_72 : decode cX3_becomeLike 72 = .ok (.getfield 36, 3) := by decide +kernel
theorem dX3_becomeLike_75 : decode cX3_becomeLike 75 = .ok (.iconst 0, 1) := by decide +kernel
theorem dX3_becomeLike_76 : decode cX3_becomeLike 76 = .ok (.aload_n 0, 1) := by decide +kernel
theorem dX3_becomeLike_77 : decode cX3_becomeLike 77 = .ok (.getfield 36, 3) := by decide +kernel
theorem dX3_becomeLike_80 : decode cX3_becomeLike 80 = .ok (.iconst 0, 1) := by decide +kernel
theorem dX3_becomeLike_81 : decode cX3_becomeLike 81 = .ok (.bipush 6, 2) := by decide +kernel
theorem dX3_becomeLike_83 : decode cX3_becomeLike 83 = .ok (.invokestatic 86, 3) := by decide +kernel
theorem dX3_becomeLike_86 : decode cX3_becomeLike 86 = .ok (.aload_n 1, 1) := by decide +kernel
theorem dX3_becomeLike_87 : decode cX3_becomeLike 87 = .ok (.getfield 39, 3) := by decide +kernel
theorem dX3_becomeLike_90 : decode cX3_becomeLike 90 = .ok (.iconst 0, 1) := by decide +kernel
theorem dX3_becomeLike_91 : decode cX3_becomeLike 91 = .ok (.aload_n 0, 1) := by decide +kernel
theorem dX3_becomeLike_92 : decode cX3_becomeLike 92 = .ok (.getfield 39, 3) := by decide +kernel
theorem dX3_becomeLike_95 : decode cX3_becomeLike 95 = .ok (.iconst 0, 1) := by decide +kernel
theorem dX3_becomeLike_96 : decode cX3_becomeLike 96 = .ok (.bipush 6, 2) := by decide +kernel
theorem dX3_becomeLike_98 : decode cX3_becomeLike 98 = .ok (.invokestatic 86, 3) := by decide +kernel
theorem dX3_becomeLike_101 : decode cX3_becomeLike 101 = .ok (.aload_n 1, 1) := by decide +kernel
theorem dX3_becomeLike_102 : decode cX3_becomeLike 102 = .ok (.getfield 42, 3) := by decide +kernel
theorem dX3_becomeLike_105 : decode cX3_becomeLike 105 = .ok (.iconst 0, 1) := by decide +kernel
theorem dX3_becomeLike_106 : decode cX3_becomeLike 106 = .ok (.aload_n 0, 1) := by decide +kernel
theorem dX3_becomeLike_107 : decode cX3_becomeLike 107 = .ok (.getfield 42, 3) := by decide +kernel
theorem dX3_becomeLike_110 : decode cX3_becomeLike 110 = .ok (.iconst 0, 1) := by decide +kernel
theorem dX3_becomeLike_111 : decode cX3_becomeLike 111 = .ok (.bipush 6, 2) := by decide +kernel
theorem dX3_becomeLike_113 : decode cX3_becomeLike 113 = .ok (.invokestatic 86, 3) := by decide +kernel
theorem dX3_becomeLike_116 : decode cX3_becomeLike 116 = .ok (.aload_n 1, 1) := by decide +kernel
theorem dX3_becomeLike_117 : decode cX3_becomeLike 117 = .ok (.getfield 45, 3) := by decide +kernel
theorem dX3_becomeLike_120 : decode cX3_becomeLike 120 = .ok (.iconst 0, 1) := by decide +kernel
theorem dX3_becomeLike_121 : decode cX3_becomeLike 121 = .ok (.aload_n 0, 1) := by decide +kernel
theorem dX3_becomeLike_122 : decode cX3_becomeLike 122 = .ok (.getfield 45, 3) := by decide +kernel
theorem dX3_becomeLike_125 : decode cX3_becomeLike 125 = .ok (.iconst 0, 1) := by decide +kernel
theorem dX3_becomeLike_126 : decode cX3_becomeLike 126 = .ok (.bipush 6, 2) := by decide +kernel
theorem dX3_becomeLike_128 : decode cX3_becomeLike 128 = .ok (.invokestatic 86, 3) := by decide +kernel
theorem dX3_becomeLike_131 : decode cX3_becomeLike 131 = .ok (.aload_n 1, 1) := by decide +kernel
theorem dX3_becomeLike_132 : decode cX3_becomeLike 132 = .ok (.getfield 48, 3) := by decide +kernel
theorem dX3_becomeLike_135 : decode cX3_becomeLike 135 = .ok (.iconst 0, 1) := by decide +kernel
theorem dX3_becomeLike_136 : decode cX3_becomeLike 136 = .ok (.aload_n 0, 1) := by decide +kernel
theorem dX3_becomeLike_137 : decode cX3_becomeLike 137 = .ok (.getfield 48, 3) := by decide +kernel
theorem dX3_becomeLike_140 : decode cX3_becomeLike 140 = .ok (.iconst 0, 1) := by decide +kernel
theorem dX3_becomeLike_141 : decode cX3_becomeLike 141 = .ok (.bipush 6, 2) := by decide +kernel
theorem dX3_becomeLike_143 : decode cX3_becomeLike 143 = .ok (.invokestatic 86, 3) := by decide +kernel
theorem dX3_becomeLike_146 : decode cX3_becomeLike 146 = .ok (.aload_n 1, 1) := by decide +kernel
theorem dX3_becomeLike_147 : decode cX3_becomeLike 147 = .ok (.getfield 51, 3) := by decide +kernel
theorem dX3_becomeLike_150 : decode cX3_becomeLike 150 = .ok (.iconst 0, 1) := by decide +kernel
theorem dX3_becomeLike_151 : decode cX3_becomeLike 151 = .ok (.aload_n 0, 1) := by decide +kernel
theorem dX3_becomeLike_152 : decode cX3_becomeLike 152 = .ok (.getfield 51, 3) := by decide +kernel
theorem dX3_becomeLike_155 : decode cX3_becomeLike 155 = .ok (.iconst 0, 1) := by decide +kernel
theorem dX3_becomeLike_156 : decode cX3_becomeLike 156 = .ok (.iconst 4, 1) := by decide +kernel
theorem dX3_becomeLike_157 : decode cX3_becomeLike 157 = .ok (.invokestatic 86, 3) := by decide +kernel
theorem dX3_becomeLike_160 : decode cX3_becomeLike 160 = .ok (.aload_n 1, 1) := by decide +kernel
theorem dX3_becomeLike_161 : decode cX3_becomeLike 161 = .ok (.getfield 54, 3) := by decide +kernel
theorem dX3_becomeLike_164 : decode cX3_becomeLike 164 = .ok (.iconst 0, 1) := by decide +kernel
theorem dX3_becomeLike_165 : decode cX3_becomeLike 165 = .ok (.aload_n 0, 1) := by decide +kernel
theorem dX3_becomeLike_166 : decode cX3_becomeLike 166 = .ok (.getfield 54, 3) := by decide +kernel
theorem dX3_becomeLike_169 : decode cX3_becomeLike 169 = .ok (.iconst 0, 1) := by decide +kernel
theorem dX3_becomeLike_170 : decode cX3_becomeLike 170 = .ok (.iconst 4, 1) := by decide +kernel
theorem dX3_becomeLike_171 : decode cX3_becomeLike 171 = .ok (.invokestatic 86, 3) := by decide +kernel
theorem dX3_becomeLike_174 : decode cX3_becomeLike 174 = .ok (.aload_n 1, 1) := by decide +kernel
theorem dX3_becomeLike_175 : decode cX3_becomeLike 175 = .ok (.getfield 57, 3) := by decide +kernel
theorem dX3_becomeLike_178 : decode cX3_becomeLike 178 = .ok (.iconst 0, 1) := by decide +kernel
theorem dX3_becomeLike_179 : decode cX3_becomeLike 179 = .ok (.aload_n 0, 1) := by decide +kernel
theorem dX3_becomeLike_180 : decode cX3_becomeLike 180 = .ok (.getfield 57, 3) := by decide +kernel
theorem dX3_becomeLike_183 : decode cX3_becomeLike 183 = .ok (.iconst 0, 1) := by decide +kernel
theorem dX3_becomeLike_184 : decode cX3_becomeLike 184 = .ok (.iconst 4, 1) := by decide +kernel
theorem dX3_becomeLike_185 : decode cX3_becomeLike 185 = .ok (.invokestatic 86, 3) := by decide +kernel
theorem dX3_becomeLike_188 : decode cX3_becomeLike 188 = .ok (.aload_n 1, 1) := by decide +kernel
theorem dX3_becomeLike_189 : decode cX3_becomeLike 189 = .ok (.getfield 60, 3) := by decide +kernel
theorem dX3_becomeLike_192 : decode cX3_becomeLike 192 = .ok (.iconst 0, 1) := by decide +kernel
theorem dX3_becomeLike_193 : decode cX3_becomeLike 193 = .ok (.aload_n 0, 1) := by decide +kernel
theorem dX3_becomeLike_194 : decode cX3_becomeLike 194 = .ok (.getfield 60, 3) := by decide +kernel
theorem dX3_becomeLike_197 : decode cX3_becomeLike 197 = .ok (.iconst 0, 1) := by decide +kernel
theorem dX3_becomeLike_198 : decode cX3_becomeLike 198 = .ok (.aload_n 1, 1) := by decide +kernel
theorem dX3_becomeLike_199 : decode cX3_becomeLike 199 = .ok (.getfield 17, 3) := by decide +kernel
theorem dX3_becomeLike_202 : decode cX3_becomeLike 202 = .ok (.iconst 1, 1) := by decide +kernel
theorem dX3_becomeLike_203 : decode cX3_becomeLike 203 = .ok (.iadd, 1) := by decide +kernel
theorem dX3_becomeLike_204 : decode cX3_becomeLike 204 = .ok (.invokestatic 86, 3) := by decide +kernel
theorem dX3_becomeLike_207 : decode cX3_becomeLike 207 = .ok (.return_, 1) := by decide +kernel
theorem dX3_isHushed_0 : decode cX3_isHushed 0 = .ok (.aload_n 0, 1) := by decide +kernel
theorem dX3_isHushed_1 : decode cX3_isHushed 1 = .ok (.getfield 23, 3) := by decide +kernel
theorem dX3_isHushed_4 : decode cX3_isHushed 4 = .ok (.iload_n 1, 1) := by decide +kernel
theorem dX3_isHushed_5 : decode cX3_isHushed 5 = .ok (.invokestatic 92, 3) := by decide +kernel
theorem dX3_isHushed_8 : decode cX3_isHushed 8 = .ok (.ireturn, 1) := by decide +kernel
theorem dX3_setHushed_0 : decode cX3_setHushed 0 = .ok (.iconst 1, 1) := by decide +kernel
theorem dX3_setHushed_1 : decode cX3_setHushed 1 = .ok (.iload_n 1, 1) := by decide +kernel
theorem dX3_setHushed_2 : decode cX3_setHushed 2 = .ok (.ishl, 1) := by decide +kernel
theorem dX3_setHushed_3 : decode cX3_setHushed 3 = .ok (.istore_n 3, 1) := by decide +kernel
theorem dX3_setHushed_4 : decode cX3_setHushed 4 = .ok (.aload_n 0, 1) := by decide +kernel
theorem dX3_setHushed_5 : decode cX3_setHushed 5 = .ok (.iload_n 2, 1) := by decide +kernel
theorem dX3_setHushed_6 : decode cX3_setHushed 6 = .ok (.ifCond .eq 12, 3) := by decide +kernel
theorem dX3_setHushed_9 : decode cX3_setHushed 9 = .ok (.aload_n 0, 1) := by decide +kernel
theorem dX3_setHushed_10 : decode cX3_setHushed 10 = .ok (.getfield 23, 3) := by decide +kernel
theorem dX3_setHushed_13 : decode cX3_setHushed 13 = .ok (.iload_n 3, 1) := by decide +kernel
theorem dX3_setHushed_14 : decode cX3_setHushed 14 = .ok (.ior, 1) := by decide +kernel
theorem dX3_setHushed_15 : decode cX3_setHushed 15 = .ok (.goto 11, 3) := by decide +kernel
theorem dX3_setHushed_18 : decode cX3_setHushed 18 = .ok (.aload_n 0, 1) := by decide +kernel
theorem dX3_setHushed_19 : decode cX3_setHushed 19 = .ok (.getfield 23, 3) := by decide +kernel
theorem dX3_setHushed_22 : decode cX3_setHushed 22 = .ok (.iload_n 3, 1) := by decide +kernel
theorem dX3_setHushed_23 : decode cX3_setHushed 23 = .ok (.iconst (-1), 1) := by decide +kernel
theorem dX3_setHushed_24 : decode cX3_setHushed 24 = .ok (.ixor, 1) := by decide +kernel
theorem dX3_setHushed_25 : decode cX3_setHushed 25 = .ok (.iand, 1) := by decide +kernel
theorem dX3_setHushed_26 : decode cX3_setHushed 26 = .ok (.putfield 23, 3) := by decide +kernel
theorem dX3_setHushed_29 : decode cX3_setHushed 29 = .ok (.return_, 1) := by decide +kernel
theorem dX3_isInClockRoom_0 : decode cX3_isInClockRoom 0 = .ok (.aload_n 0, 1) := by decide +kernel
theorem dX3_isInClockRoom_1 : decode cX3_isInClockRoom 1 = .ok (.getfield 39, 3) := by decide +kernel
theorem dX3_isInClockRoom_4 : decode cX3_isInClockRoom 4 = .ok (.iload_n 1, 1) := by decide +kernel
theorem dX3_isInClockRoom_5 : decode cX3_isInClockRoom 5 = .ok (.iaload, 1) := by decide +kernel
theorem dX3_isInClockRoom_6 : decode cX3_isInClockRoom 6 = .ok (.ifCond .ne 7, 3) := by decide +kernel
theorem dX3_isInClockRoom_9 : decode cX3_isInClockRoom 9 = .ok (.iconst 1, 1) := by decide +kernel
theorem dX3_isInClockRoom_10 : decode cX3_isInClockRoom 10 = .ok (.goto 4, 3) := by decide +kernel
theorem dX3_isInClockRoom_13 : decode cX3_isInClockRoom 13 = .ok (.iconst 0, 1) := by decide +kernel
theorem dX3_isInClockRoom_14 : decode cX3_isInClockRoom 14 = .ok (.ireturn, 1) := by decide +kernel
theorem dX3_inClockRoom_0 : decode cX3_inClockRoom 0 = .ok (.iconst 0, 1) := by decide +kernel
theorem dX3_inClockRoom_1 : decode cX3_inClockRoom 1 = .ok (.istore_n 1, 1) := by decide +kernel
theorem dX3_inClockRoom_2 : decode cX3_inClockRoom 2 = .ok (.iconst 0, 1) := by decide +kernel
theorem dX3_inClockRoom_3 : decode cX3_inClockRoom 3 = .ok (.istore_n 2, 1) := by decide +kernel
theorem dX3_inClockRoom_4 : decode cX3_inClockRoom 4 = .ok (.iload_n 2, 1) := by decide +kernel
theorem dX3_inClockRoom_5 : decode cX3_inClockRoom 5 = .ok (.aload_n 0, 1) := by decide +kernel
theorem dX3_inClockRoom_6 : decode cX3_inClockRoom 6 = .ok (.getfield 26, 3) := by decide +kernel
theorem dX3_inClockRoom_9 : decode cX3_inClockRoom 9 = .ok (.if_icmp .ge 23, 3) := by decide +kernel
theorem dX3_inClockRoom_12 : decode cX3_inClockRoom 12 = .ok (.aload_n 0, 1) := by decide +kernel
theorem dX3_inClockRoom_13 : decode cX3_inClockRoom 13 = .ok (.iload_n 2, 1) := by decide +kernel
theorem dX3_inClockRoom_14 : decode cX3_inClockRoom 14 = .ok (.invokevirtual 96, 3) := by decide +kernel
theorem dX3_inClockRoom_17 : decode cX3_inClockRoom 17 = .ok (.ifCond .eq 9, 3) := by decide +kernel
theorem dX3_inClockRoom_20 : decode cX3_inClockRoom 20 = .ok (.iload_n 1, 1) := by decide +kernel
theorem dX3_inClockRoom_21 : decode cX3_inClockRoom 21 = .ok (.iconst 1, 1) := by decide +kernel
theorem dX3_inClockRoom_22 : decode cX3_inClockRoom 22 = .ok (.iload_n 2, 1) := by decide +kernel
theorem dX3_inClockRoom_23 : decode cX3_inClockRoom 23 = .ok (.ishl, 1) := by decide +kernel
theorem dX3_inClockRoom_24 : decode cX3_inClockRoom 24 = .ok (.ior, 1) := by decide +kernel
theorem dX3_inClockRoom_25 : decode cX3_inClockRoom 25 = .ok (.istore_n 1, 1) := by decide +kernel
theorem dX3_inClockRoom_26 : decode cX3_inClockRoom 26 = .ok (.iinc 2 1, 3) := by decide +kernel
theorem dX3_inClockRoom_29 : decode cX3_inClockRoom 29 = .ok (.goto (-25), 3) := by decide +kernel
theorem dX3_inClockRoom_32 : decode cX3_inClockRoom 32 = .ok (.iload_n 1, 1) := by decide +kernel
theorem dX3_inClockRoom_33 : decode cX3_inClockRoom 33 = .ok (.ireturn, 1) := by decide +kernel
theorem dX3_attending_0 : decode cX3_attending 0 = .ok (.aload_n 0, 1) := by decide +kernel
theorem dX3_attending_1 : decode cX3_attending 1 = .ok (.invokevirtual 100, 3) := by decide +kernel
theorem dX3_attending_4 : decode cX3_attending 4 = .ok (.aload_n 0, 1) := by decide +kernel
theorem dX3_attending_5 : decode cX3_attending 5 = .ok (.getfield 23, 3) := by decide +kernel
theorem dX3_attending_8 : decode cX3_attending 8 = .ok (.iconst (-1), 1) := by decide +kernel
theorem dX3_attending_9 : decode cX3_attending 9 = .ok (.ixor, 1) := by decide +kernel
theorem dX3_attending_10 : decode cX3_attending 10 = .ok (.iand, 1) := by decide +kernel
theorem dX3_attending_11 : decode cX3_attending 11 = .ok (.ireturn, 1) := by decide +kernel
theorem dX3_allSets_0 : decode cX3_allSets 0 = .ok (.iconst 1, 1) := by decide +kernel
theorem dX3_allSets_1 : decode cX3_allSets 1 = .ok (.aload_n 0, 1) := by decide +kernel
theorem dX3_allSets_2 : decode cX3_allSets 2 = .ok (.getfield 26, 3) := by decide +kernel
theorem dX3_allSets_5 : decode cX3_allSets 5 = .ok (.ishl, 1) := by decide +kernel
theorem dX3_allSets_6 : decode cX3_allSets 6 = .ok (.ireturn, 1) := by decide +kernel
theorem dX3_isIn_0 : decode cX3_isIn 0 = .ok (.iload_n 0, 1) := by decide +kernel
theorem dX3_isIn_1 : decode cX3_isIn 1 = .ok (.iload_n 1, 1) := by decide +kernel
theorem dX3_isIn_2 : decode cX3_isIn 2 = .ok (.ishr, 1) := by decide +kernel
theorem dX3_isIn_3 : decode cX3_isIn 3 = .ok (.iconst 1, 1) := by decide +kernel
theorem dX3_isIn_4 : decode cX3_isIn 4 = .ok (.iand, 1) := by decide +kernel
theorem dX3_isIn_5 : decode cX3_isIn 5 = .ok (.iconst 1, 1) := by decide +kernel
theorem dX3_isIn_6 : decode cX3_isIn 6 = .ok (.if_icmp .ne 7, 3) := by decide +kernel
theorem dX3_isIn_9 : decode cX3_isIn 9 = .ok (.iconst 1, 1) := by decide +kernel
theorem dX3_isIn_10 : decode cX3_isIn 10 = .ok (.goto 4, 3) := by decide +kernel
theorem dX3_isIn_13 : decode cX3_isIn 13 = .ok (.iconst 0, 1) := by decide +kernel
theorem dX3_isIn_14 : decode cX3_isIn 14 = .ok (.ireturn, 1) := by decide +kernel
theorem dX3_hasItsTime_0 : decode cX3_hasItsTime 0 = .ok (.iload_n 2, 1) := by decide +kernel
theorem dX3_hasItsTime_1 : decode cX3_hasItsTime 1 = .ok (.bipush 8, 2) := by decide +kernel
theorem dX3_hasItsTime_3 : decode cX3_hasItsTime 3 = .ok (.iadd, 1) := by decide +kernel
theorem dX3_hasItsTime_4 : decode cX3_hasItsTime 4 = .ok (.aload_n 0, 1) := by decide +kernel
theorem dX3_hasItsTime_5 : decode cX3_hasItsTime 5 = .ok (.getfield 42, 3) := by decide +kernel
theorem dX3_hasItsTime_8 : decode cX3_hasItsTime 8 = .ok (.iload_n 1, 1) := by decide +kernel
theorem dX3_hasItsTime_9 : decode cX3_hasItsTime 9 = .ok (.iaload, 1) := by decide +kernel
theorem dX3_hasItsTime_10 : decode cX3_hasItsTime 10 = .ok (.isub, 1) := by decide +kernel
theorem dX3_hasItsTime_11 : decode cX3_hasItsTime 11 = .ok (.bipush 8, 2) := by decide +kernel
theorem dX3_hasItsTime_13 : decode cX3_hasItsTime 13 = .ok (.irem, 1) := by decide +kernel
theorem dX3_hasItsTime_14 : decode cX3_hasItsTime 14 = .ok (.aload_n 0, 1) := by decide +kernel
theorem dX3_hasItsTime_15 : decode cX3_hasItsTime 15 = .ok (.getfield 45, 3) := by decide +kernel
theorem dX3_hasItsTime_18 : decode cX3_hasItsTime 18 = .ok (.iload_n 1, 1) := by decide +kernel
theorem dX3_hasItsTime_19 : decode cX3_hasItsTime 19 = .ok (.iaload, 1) := by decide +kernel
theorem dX3_hasItsTime_20 : decode cX3_hasItsTime 20 = .ok (.if_icmp .ge 7, 3) := by decide +kernel
theorem dX3_hasItsTime_23 : decode cX3_hasItsTime 23 = .ok (.iconst 1, 1) := by decide +kernel
theorem dX3_hasItsTime_24 : decode cX3_hasItsTime 24 = .ok (.goto 4, 3) := by decide +kernel
theorem dX3_hasItsTime_27 : decode cX3_hasItsTime 27 = .ok (.iconst 0, 1) := by decide +kernel
theorem dX3_hasItsTime_28 : decode cX3_hasItsTime 28 = .ok (.ireturn, 1) := by decide +kernel
theorem dX3_listensNow_0 : decode cX3_listensNow 0 = .ok (.aload_n 0, 1) := by decide +kernel
theorem dX3_listensNow_1 : decode cX3_listensNow 1 = .ok (.invokevirtual 103, 3) := by decide +kernel
theorem dX3_listensNow_4 : decode cX3_listensNow 4 = .ok (.iload_n 1, 1) := by decide +kernel
theorem dX3_listensNow_5 : decode cX3_listensNow 5 = .ok (.invokestatic 92, 3) := by decide +kernel
theorem dX3_listensNow_8 : decode cX3_listensNow 8 = .ok (.ifCond .eq 19, 3) := by decide +kernel
theorem dX3_listensNow_11 : decode cX3_listensNow 11 = .ok (.aload_n 0, 1) := by decide +kernel
theorem dX3_listensNow_12 : decode cX3_listensNow 12 = .ok (.iload_n 1, 1) := by decide +kernel
theorem dX3_listensNow_13 : decode cX3_listensNow 13 = .ok (.aload_n 0, 1) := by decide +kernel
theorem dX3_listensNow_14 : decode cX3_listensNow 14 = .ok (.getfield 17, 3) := by decide +kernel
theorem dX3_listensNow_17 : decode cX3_listensNow 17 = .ok (.invokevirtual 106, 3) := by decide +kernel
theorem dX3_listensNow_20 : decode cX3_listensNow 20 = .ok (.ifCond .eq 7, 3) := by decide +kernel
theorem dX3_listensNow_23 : decode cX3_listensNow 23 = .ok (.iconst 1, 1) := by decide +kernel
theorem dX3_listensNow_24 : decode cX3_listensNow 24 = .ok (.goto 4, 3) := by decide +kernel
theorem dX3_listensNow_27 : decode cX3_listensNow 27 = .ok (.iconst 0, 1) := by decide +kernel
theorem dX3_listensNow_28 : decode cX3_listensNow 28 = .ok (.ireturn, 1) := by decide +kernel
theorem dX3_listeningNow_0 : decode cX3_listeningNow 0 = .ok (.iconst 0, 1) := by decide +kernel
theorem dX3_listeningNow_1 : decode cX3_listeningNow 1 = .ok (.istore_n 1, 1) := by decide +kernel
theorem dX3_listeningNow_2 : decode cX3_listeningNow 2 = .ok (.iconst 0, 1) := by decide +kernel
theorem dX3_listeningNow_3 : decode cX3_listeningNow 3 = .ok (.istore_n 2, 1) := by decide +kernel
theorem dX3_listeningNow_4 : decode cX3_listeningNow 4 = .ok (.iload_n 2, 1) := by decide +kernel
theorem dX3_listeningNow_5 : decode cX3_listeningNow 5 = .ok (.aload_n 0, 1) := by decide +kernel
theorem dX3_listeningNow_6 : decode cX3_listeningNow 6 = .ok (.getfield 26, 3) := by decide +kernel
theorem dX3_listeningNow_9 : decode cX3_listeningNow 9 = .ok (.if_icmp .ge 23, 3) := by decide +kernel
theorem dX3_listeningNow_12 : decode cX3_listeningNow 12 = .ok (.aload_n 0, 1) := by decide +kernel
theorem dX3_listeningNow_13 : decode cX3_listeningNow 13 = .ok (.iload_n 2, 1) := by decide +kernel
theorem dX3_listeningNow_14 : decode cX3_listeningNow 14 = .ok (.invokevirtual 109, 3) := by decide +kernel
theorem dX3_listeningNow_17 : decode cX3_listeningNow 17 = .ok (.ifCond .eq 9, 3) := by decide +kernel
theorem dX3_listeningNow_20 : decode cX3_listeningNow 20 = .ok (.iload_n 1, 1) := by decide +kernel
theorem dX3_listeningNow_21 : decode cX3_listeningNow 21 = .ok (.iconst 1, 1) := by decide +kernel
theorem dX3_listeningNow_22 : decode cX3_listeningNow 22 = .ok (.iload_n 2, 1) := by decide +kernel
theorem dX3_listeningNow_23 : decode cX3_listeningNow 23 = .ok (.ishl, 1) := by decide +kernel
theorem dX3_listeningNow_24 : decode cX3_listeningNow 24 = .ok (.ior, 1) := by decide +kernel
theorem dX3_listeningNow_25 : decode cX3_listeningNow 25 = .ok (.istore_n 1, 1) := by decide +kernel
theorem dX3_listeningNow_26 : decode cX3_listeningNow 26 = .ok (.iinc 2 1, 3) := by decide +kernel
theorem dX3_listeningNow_29 : decode cX3_listeningNow 29 = .ok (.goto (-25), 3) := by decide +kernel
theorem dX3_listeningNow_32 : decode cX3_listeningNow 32 = .ok (.iload_n 1, 1) := by decide +kernel
theorem dX3_listeningNow_33 : decode cX3_listeningNow 33 = .ok (.ireturn, 1) := by decide +kernel
theorem dX3_giftOf_0 : decode cX3_giftOf 0 = .ok (.aload_n 0, 1) := by decide +kernel
theorem dX3_giftOf_1 : decode cX3_giftOf 1 = .ok (.getfield 36, 3) := by decide +kernel
theorem dX3_giftOf_4 : decode cX3_giftOf 4 = .ok (.iload_n 1, 1) := by decide +kernel
theorem dX3_giftOf_5 : decode cX3_giftOf 5 = .ok (.iaload, 1) := by decide +kernel
theorem dX3_giftOf_6 : decode cX3_giftOf 6 = .ok (.aload_n 0, 1) := by decide +kernel
theorem dX3_giftOf_7 : decode cX3_giftOf 7 = .ok (.getfield 13, 3) := by decide +kernel
theorem dX3_giftOf_10 : decode cX3_giftOf 10 = .ok (.if_icmp .le 17, 3) := by decide +kernel
theorem dX3_giftOf_13 : decode cX3_giftOf 13 = .ok (.aload_n 0, 1) := by decide +kernel
theorem dX3_giftOf_14 : decode cX3_giftOf 14 = .ok (.getfield 36, 3) := by decide +kernel
theorem dX3_giftOf_17 : decode cX3_giftOf 17 = .ok (.iload_n 1, 1) := by decide +kernel
theorem dX3_giftOf_18 : decode cX3_giftOf 18 = .ok (.iaload, 1) := by decide +kernel
theorem dX3_giftOf_19 : decode cX3_giftOf 19 = .ok (.aload_n 0, 1) := by decide +kernel
theorem dX3_giftOf_20 : decode cX3_giftOf 20 = .ok (.getfield 13, 3) := by decide +kernel
theorem dX3_giftOf_23 : decode cX3_giftOf 23 = .ok (.isub, 1) := by decide +kernel
theorem dX3_giftOf_24 : decode cX3_giftOf 24 = .ok (.goto 4, 3) := by decide +kernel
theorem dX3_giftOf_27 : decode cX3_giftOf 27 = .ok (.iconst 0, 1) := by decide +kernel
theorem dX3_giftOf_28 : decode cX3_giftOf 28 = .ok (.istore_n 2, 1) := by decide +kernel
theorem dX3_giftOf_29 : decode cX3_giftOf 29 = .ok (.iload_n 2, 1) := by decide +kernel
theorem dX3_giftOf_30 : decode cX3_giftOf 30 = .ok (.iconst 2, 1) := by decide +kernel
theorem dX3_giftOf_31 : decode cX3_giftOf 31 = .ok (.idiv, 1) := by decide +kernel
theorem dX3_giftOf_32 : decode cX3_giftOf 32 = .ok (.istore_n 3, 1) := by decide +kernel
theorem dX3_giftOf_33 : decode cX3_giftOf 33 = .ok (.aload_n 0, 1) := by decide +kernel
theorem dX3_giftOf_34 : decode cX3_giftOf 34 = .ok (.getfield 32, 3) := by decide +kernel
theorem dX3_giftOf_37 : decode cX3_giftOf 37 = .ok (.iload_n 1, 1) := by decide +kernel
theorem dX3_giftOf_38 : decode cX3_giftOf 38 = .ok (.iaload, 1) := by decide +kernel
theorem dX3_giftOf_39 : decode cX3_giftOf 39 = .ok (.tableswitch 44 1 4 #[29, 29, 31, 33], 29) := by decide +kernel
theorem dX3_giftOf_68 : decode cX3_giftOf 68 = .ok (.iload_n 2, 1) := by decide +kernel
theorem dX3_giftOf_69 : decode cX3_giftOf 69 = .ok (.ireturn, 1) := by decide +kernel
theorem dX3_giftOf_70 : decode cX3_giftOf 70 = .ok (.iload_n 3, 1) := by decide +kernel
theorem dX3_giftOf_71 : decode cX3_giftOf 71 = .ok (.ireturn, 1) := by decide +kernel
theorem dX3_giftOf_72 : decode cX3_giftOf 72 = .ok (.iload_n 3, 1) := by decide +kernel
theorem dX3_giftOf_73 : decode cX3_giftOf 73 = .ok (.iconst 3, 1) := by decide +kernel
theorem dX3_giftOf_74 : decode cX3_giftOf 74 = .ok (.if_icmp .le 7, 3) := by decide +kernel
theorem dX3_giftOf_77 : decode cX3_giftOf 77 = .ok (.iconst 3, 1) := by decide +kernel
theorem dX3_giftOf_78 : decode cX3_giftOf 78 = .ok (.goto 4, 3) := by decide +kernel
theorem dX3_giftOf_81 : decode cX3_giftOf 81 = .ok (.iload_n 3, 1) := by decide +kernel
theorem dX3_giftOf_82 : decode cX3_giftOf 82 = .ok (.ireturn, 1) := by decide +kernel
theorem dX3_giftOf_83 : decode cX3_giftOf 83 = .ok (.iconst 0, 1) := by decide +kernel
theorem dX3_giftOf_84 : decode cX3_giftOf 84 = .ok (.ireturn, 1) := by decide +kernel
theorem dX3_partsOf_0 : decode cX3_partsOf 0 = .ok (.iconst 0, 1) := by decide +kernel
theorem dX3_partsOf_1 : decode cX3_partsOf 1 = .ok (.istore_n 3, 1) := by decide +kernel
theorem dX3_partsOf_2 : decode cX3_partsOf 2 = .ok (.iconst 0, 1) := by decide +kernel
theorem dX3_partsOf_3 : decode cX3_partsOf 3 = .ok (.istore 4, 2) := by decide +kernel
theorem dX3_partsOf_5 : decode cX3_partsOf 5 = .ok (.iconst 0, 1) := by decide +kernel
theorem dX3_partsOf_6 : decode cX3_partsOf 6 = .ok (.istore 5, 2) := by decide +kernel
theorem dX3_partsOf_8 : decode cX3_partsOf 8 = .ok (.iload 5, 2) := by decide +kernel
theorem dX3_partsOf_10 : decode cX3_partsOf 10 = .ok (.aload_n 0, 1) := by decide +kernel
theorem dX3_partsOf_11 : decode cX3_partsOf 11 = .ok (.getfield 26, 3) := by decide +kernel
theorem dX3_partsOf_14 : decode cX3_partsOf 14 = .ok (.if_icmp .ge 62, 3) := by decide +kernel
theorem dX3_partsOf_17 : decode cX3_partsOf 17 = .ok (.iload_n 1, 1) := by decide +kernel
theorem dX3_partsOf_18 : decode cX3_partsOf 18 = .ok (.iload 5, 2) := by decide +kernel
theorem dX3_partsOf_20 : decode cX3_partsOf 20 = .ok (.invokestatic 92, 3) := by decide +kernel
theorem dX3_partsOf_23 : decode cX3_partsOf 23 = .ok (.ifCond .eq 47, 3) := by decide +kernel
theorem dX3_partsOf_26 : decode cX3_partsOf 26 = .ok (.aload_n 0, 1) := by decide +kernel
theorem dX3_partsOf_27 : decode cX3_partsOf 27 = .ok (.iload 5, 2) := by decide +kernel
theorem dX3_partsOf_29 : decode cX3_partsOf 29 = .ok (.iload_n 2, 1) := by decide +kernel
theorem dX3_partsOf_30 : decode cX3_partsOf 30 = .ok (.invokevirtual 106, 3) := by decide +kernel
theorem dX3_partsOf_33 : decode cX3_partsOf 33 = .ok (.ifCond .eq 37, 3) := by decide +kernel
theorem dX3_partsOf_36 : decode cX3_partsOf 36 = .ok (.aload_n 0, 1) := by decide +kernel
theorem dX3_partsOf_37 : decode cX3_partsOf 37 = .ok (.getfield 32, 3) := by decide +kernel
theorem dX3_partsOf_40 : decode cX3_partsOf 40 = .ok (.iload 5, 2) := by decide +kernel
theorem dX3_partsOf_42 : decode cX3_partsOf 42 = .ok (.iaload, 1) := by decide +kernel
theorem dX3_partsOf_43 : decode cX3_partsOf 43 = .ok (.iconst 2, 1) := by decide +kernel
theorem dX3_partsOf_44 : decode cX3_partsOf 44 = .ok (.if_icmp .ne 15, 3) := by decide +kernel
theorem dX3_partsOf_47 : decode cX3_partsOf 47 = .ok (.iload_n 3, 1) := by decide +kernel
theorem dX3_partsOf_48 : decode cX3_partsOf 48 = .ok (.aload_n 0, 1) := by decide +kernel
theorem dX3_partsOf_49 : decode cX3_partsOf 49 = .ok (.iload 5, 2) := by decide +kernel
theorem dX3_partsOf_51 : decode cX3_partsOf 51 = .ok (.invokevirtual 114, 3) := by decide +kernel
theorem dX3_partsOf_54 : decode cX3_partsOf 54 = .ok (.iadd, 1) := by decide +kernel
theorem dX3_partsOf_55 : decode cX3_partsOf 55 = .ok (.istore_n 3, 1) := by decide +kernel
theorem dX3_partsOf_56 : decode cX3_partsOf 56 = .ok (.goto 14, 3) := by decide +kernel
theorem dX3_partsOf_59 : decode cX3_partsOf 59 = .ok (.iload 4, 2) := by decide +kernel
theorem dX3_partsOf_61 : decode cX3_partsOf 61 = .ok (.aload_n 0, 1) := by decide +kernel
theorem dX3_partsOf_62 : decode cX3_partsOf 62 = .ok (.iload 5, 2) := by decide +kernel
theorem dX3_partsOf_64 : decode cX3_partsOf 64 = .ok (.invokevirtual 114, 3) := by decide +kernel
theorem dX3_partsOf_67 : decode cX3_partsOf 67 = .ok (.iadd, 1) := by decide +kernel
theorem dX3_partsOf_68 : decode cX3_partsOf 68 = .ok (.istore 4, 2) := by decide +kernel
theorem dX3_partsOf_70 : decode cX3_partsOf 70 = .ok (.iinc 5 1, 3) := by decide +kernel
theorem dX3_partsOf_73 : decode cX3_partsOf 73 = .ok (.goto (-65), 3) := by decide +kernel
theorem dX3_partsOf_76 : decode cX3_partsOf 76 = .ok (.iload 4, 2) := by decide +kernel
theorem dX3_partsOf_78 : decode cX3_partsOf 78 = .ok (.bipush 12, 2) := by decide +kernel
theorem dX3_partsOf_80 : decode cX3_partsOf 80 = .ok (.if_icmp .lt 8, 3) := by decide +kernel
theorem dX3_partsOf_83 : decode cX3_partsOf 83 = .ok (.iload 4, 2) := by decide +kernel
theorem dX3_partsOf_85 : decode cX3_partsOf 85 = .ok (.goto 7, 3) := by decide +kernel
theorem dX3_partsOf_88 : decode cX3_partsOf 88 = .ok (.iload 4, 2) := by decide +kernel
theorem dX3_partsOf_90 : decode cX3_partsOf 90 = .ok (.iload_n 3, 1) := by decide +kernel
theorem dX3_partsOf_91 : decode cX3_partsOf 91 = .ok (.iadd, 1) := by decide +kernel
theorem dX3_partsOf_92 : decode cX3_partsOf 92 = .ok (.ireturn, 1) := by decide +kernel
theorem dX3_widowers_0 : decode cX3_widowers 0 = .ok (.iconst 0, 1) := by decide +kernel
theorem dX3_widowers_1 : decode cX3_widowers 1 = .ok (.istore_n 1, 1) := by decide +kernel
theorem dX3_widowers_2 : decode cX3_widowers 2 = .ok (.iconst 0, 1) := by decide +kernel
theorem dX3_widowers_3 : decode cX3_widowers 3 = .ok (.istore_n 2, 1) := by decide +kernel
theorem dX3_widowers_4 : decode cX3_widowers 4 = .ok (.iload_n 2, 1) := by decide +kernel
theorem dX3_widowers_5 : decode cX3_widowers 5 = .ok (.aload_n 0, 1) := by decide +kernel
theorem dX3_widowers_6 : decode cX3_widowers 6 = .ok (.getfield 26, 3) := by decide +kernel
theorem dX3_widowers_9 : decode cX3_widowers 9 = .ok (.if_icmp .ge 25, 3) := by decide +kernel
theorem dX3_widowers_12 : decode cX3_widowers 12 = .ok (.aload_n 0, 1) := by decide +kernel
theorem dX3_widowers_13 : decode cX3_widowers 13 = .ok (.getfield 32, 3) := by decide +kernel
theorem dX3_widowers_16 : decode cX3_widowers 16 = .ok (.iload_n 2, 1) := by decide +kernel
theorem dX3_widowers_17 : decode cX3_widowers 17 = .ok (.iaload, 1) := by decide +kernel
theorem dX3_widowers_18 : decode cX3_widowers 18 = .ok (.iconst 2, 1) := by decide +kernel
theorem dX3_widowers_19 : decode cX3_widowers 19 = .ok (.if_icmp .ne 9, 3) := by decide +kernel
theorem dX3_widowers_22 : decode cX3_widowers 22 = .ok (.iload_n 1, 1) := by decide +kernel
theorem dX3_widowers_23 : decode cX3_widowers 23 = .ok (.iconst 1, 1) := by decide +kernel
theorem dX3_widowers_24 : decode cX3_widowers 24 = .ok (.iload_n 2, 1) := by decide +kernel
theorem dX3_widowers_25 : decode cX3_widowers 25 = .ok (.ishl, 1) := by decide +kernel
theorem dX3_widowers_26 : decode cX3_widowers 26 = .ok (.ior, 1) := by decide +kernel
theorem dX3_widowers_27 : decode cX3_widowers 27 = .ok (.istore_n 1, 1) := by decide +kernel
theorem dX3_widowers_28 : decode cX3_widowers 28 = .ok (.iinc 2 1, 3) := by decide +kernel
theorem dX3_widowers_31 : decode cX3_widowers 31 = .ok (.goto (-27), 3) := by decide +kernel
theorem dX3_widowers_34 : decode cX3_widowers 34 = .ok (.iload_n 1, 1) := by decide +kernel
theorem dX3_widowers_35 : decode cX3_widowers 35 = .ok (.ireturn, 1) := by decide +kernel
theorem dX3_areWidowersSilenced_0 : decode cX3_areWidowersSilenced 0 = .ok (.aload_n 0, 1) := by decide +kernel
theorem dX3_areWidowersSilenced_1 : decode cX3_areWidowersSilenced 1 = .ok (.aload_n 0, 1) := by decide +kernel
theorem dX3_areWidowersSilenced_2 : decode cX3_areWidowersSilenced 2 = .ok (.invokevirtual 103, 3) := by decide +kernel
theorem dX3_areWidowersSilenced_5 : decode cX3_areWidowersSilenced 5 = .ok (.aload_n 0, 1) := by decide +kernel
theorem dX3_areWidowersSilenced_6 : decode cX3_areWidowersSilenced 6 = .ok (.invokevirtual 118, 3) := by decide +kernel
theorem dX3_areWidowersSilenced_9 : decode cX3_areWidowersSilenced 9 = .ok (.iconst (-1), 1) := by decide +kernel
theorem dX3_areWidowersSilenced_10 : decode cX3_areWidowersSilenced 10 = .ok (.ixor, 1) := by decide +kernel
theorem dX3_areWidowersSilenced_11 : decode cX3_areWidowersSilenced 11 = .ok (.iand, 1) := by decide +kernel
theorem dX3_areWidowersSilenced_12 : decode cX3_areWidowersSilenced 12 = .ok (.aload_n 0, 1) := by decide +kernel
theorem dX3_areWidowersSilenced_13 : decode cX3_areWidowersSilenced 13 = .ok (.getfield 17, 3) := by decide +kernel
theorem dX3_areWidowersSilenced_16 : decode cX3_areWidowersSilenced 16 = .ok (.invokevirtual 121, 3) := by decide +kernel
theorem dX3_areWidowersSilenced_19 : decode cX3_areWidowersSilenced 19 = .ok (.bipush 12, 2) := by decide +kernel
theorem dX3_areWidowersSilenced_21 : decode cX3_areWidowersSilenced 21 = .ok (.if_icmp .lt 7, 3) := by decide +kernel
theorem dX3_areWidowersSilenced_24 : decode cX3_areWidowersSilenced 24 = .ok (.iconst 1, 1) := by decide +kernel
theorem dX3_areWidowersSilenced_25 : decode cX3_areWidowersSilenced 25 = .ok (.goto 4, 3) := by decide +kernel
theorem dX3_areWidowersSilenced_28 : decode cX3_areWidowersSilenced 28 = .ok (.iconst 0, 1) := by decide +kernel
theorem dX3_areWidowersSilenced_29 : decode cX3_areWidowersSilenced 29 = .ok (.ireturn, 1) := by decide +kernel
theorem dX3_givesNow_0 : decode cX3_givesNow 0 = .ok (.aload_n 0, 1) := by decide +kernel
theorem dX3_givesNow_1 : decode cX3_givesNow 1 = .ok (.iload_n 1, 1) := by decide +kernel
theorem dX3_givesNow_2 : decode cX3_givesNow 2 = .ok (.invokevirtual 109, 3) := by decide +kernel
theorem dX3_givesNow_5 : decode cX3_givesNow 5 = .ok (.ifCond .ne 5, 3) := by decide +kernel
theorem dX3_givesNow_8 : decode cX3_givesNow 8 = .ok (.iconst 0, 1) := by decide +kernel
theorem dX3_givesNow_9 : decode cX3_givesNow 9 = .ok (.ireturn, 1) := by decide +kernel
theorem dX3_givesNow_10 : decode cX3_givesNow 10 = .ok (.aload_n 0, 1) := by decide +kernel
theorem dX3_givesNow_11 : decode cX3_givesNow 11 = .ok (.getfield 32, 3) := by decide +kernel
theorem dX3_givesNow_14 : decode cX3_givesNow 14 = .ok (.iload_n 1, 1) := by decide +kernel
theorem dX3_givesNow_15 : decode cX3_givesNow 15 = .ok (.iaload, 1) := by decide +kernel
theorem dX3_givesNow_16 : decode cX3_givesNow 16 = .ok (.iconst 2, 1) := by decide +kernel
theorem dX3_givesNow_17 : decode cX3_givesNow 17 = .ok (.if_icmp .ne 12, 3) := by decide +kernel
theorem dX3_givesNow_20 : decode cX3_givesNow 20 = .ok (.aload_n 0, 1) := by decide +kernel
theorem dX3_givesNow_21 : decode cX3_givesNow 21 = .ok (.invokevirtual 124, 3) := by decide +kernel
theorem dX3_givesNow_24 : decode cX3_givesNow 24 = .ok (.ifCond .eq 5, 3) := by decide +kernel
theorem dX3_givesNow_27 : decode cX3_givesNow 27 = .ok (.iconst 0, 1) := by decide +kernel
theorem dX3_givesNow_28 : decode cX3_givesNow 28 = .ok (.ireturn, 1) := by decide +kernel
theorem dX3_givesNow_29 : decode cX3_givesNow 29 = .ok (.aload_n 0, 1) := by decide +kernel
theorem dX3_givesNow_30 : decode cX3_givesNow 30 = .ok (.iload_n 1, 1) := by decide +kernel
theorem dX3_givesNow_31 : decode cX3_givesNow 31 = .ok (.invokevirtual 114, 3) := by decide +kernel
theorem dX3_givesNow_34 : decode cX3_givesNow 34 = .ok (.ireturn, 1) := by decide +kernel
theorem dX3_passQuarter_0 : decode cX3_passQuarter 0 = .ok (.aload_n 0, 1) := by decide +kernel
theorem dX3_passQuarter_1 : decode cX3_passQuarter 1 = .ok (.getfield 17, 3) := by decide +kernel
theorem dX3_passQuarter_4 : decode cX3_passQuarter 4 = .ok (.sipush 999, 3) := by decide +kernel
theorem dX3_passQuarter_7 : decode cX3_passQuarter 7 = .ok (.if_icmp .lt 4, 3) := by decide +kernel
theorem dX3_passQuarter_10 : decode cX3_passQuarter 10 = .ok (.return_, 1) := by decide +kernel
theorem dX3_passQuarter_11 : decode cX3_passQuarter 11 = .ok (.aload_n 0, 1) := by decide +kernel
theorem dX3_passQuarter_12 : decode cX3_passQuarter 12 = .ok (.aload_n 0, 1) := by decide +kernel
theorem dX3_passQuarter_13 : decode cX3_passQuarter 13 = .ok (.invokevirtual 103, 3) := by decide +kernel
theorem dX3_passQuarter_16 : decode cX3_passQuarter 16 = .ok (.aload_n 0, 1) := by decide +kernel
theorem dX3_passQuarter_17 : decode cX3_passQuarter 17 = .ok (.getfield 17, 3) := by decide +kernel
theorem dX3_passQuarter_20 : decode cX3_passQuarter 20 = .ok (.invokevirtual 121, 3) := by decide +kernel
theorem dX3_passQuarter_23 : decode cX3_passQuarter 23 = .ok (.istore_n 1, 1) := by decide +kernel
theorem dX3_passQuarter_24 : decode cX3_passQuarter 24 = .ok (.aload_n 0, 1) := by decide +kernel
theorem dX3_passQuarter_25 : decode cX3_passQuarter 25 = .ok (.iload_n 1, 1) := by decide +kernel
theorem dX3_passQuarter_26 : decode cX3_passQuarter 26 = .ok (.bipush 12, 2) := by decide +kernel
theorem dX3_passQuarter_28 : decode cX3_passQuarter 28 = .ok (.invokevirtual 128, 3) := by decide +kernel
theorem dX3_passQuarter_31 : decode cX3_passQuarter 31 = .ok (.aload_n 0, 1) := by decide +kernel
theorem dX3_passQuarter_32 : decode cX3_passQuarter 32 = .ok (.dup, 1) := by decide +kernel
theorem dX3_passQuarter_33 : decode cX3_passQuarter 33 = .ok (.getfield 20, 3) := by decide +kernel
theorem dX3_passQuarter_36 : decode cX3_passQuarter 36 = .ok (.iload_n 1, 1) := by decide +kernel
theorem dX3_passQuarter_37 : decode cX3_passQuarter 37 = .ok (.iadd, 1) := by decide +kernel
theorem dX3_passQuarter_38 : decode cX3_passQuarter 38 = .ok (.putfield 20, 3) := by decide +kernel
theorem dX3_passQuarter_41 : decode cX3_passQuarter 41 = .ok (.aload_n 0, 1) := by decide +kernel
theorem dX3_passQuarter_42 : decode cX3_passQuarter 42 = .ok (.dup, 1) := by decide +kernel
theorem dX3_passQuarter_43 : decode cX3_passQuarter 43 = .ok (.getfield 17, 3) := by decide +kernel
theorem dX3_passQuarter_46 : decode cX3_passQuarter 46 = .ok (.iconst 1, 1) := by decide +kernel
theorem dX3_passQuarter_47 : decode cX3_passQuarter 47 = .ok (.iadd, 1) := by decide +kernel
theorem dX3_passQuarter_48 : decode cX3_passQuarter 48 = .ok (.putfield 17, 3) := by decide +kernel
theorem dX3_passQuarter_51 : decode cX3_passQuarter 51 = .ok (.aload_n 0, 1) := by decide +kernel
theorem dX3_passQuarter_52 : decode cX3_passQuarter 52 = .ok (.getfield 60, 3) := by decide +kernel
theorem dX3_passQuarter_55 : decode cX3_passQuarter 55 = .ok (.aload_n 0, 1) := by decide +kernel
theorem dX3_passQuarter_56 : decode cX3_passQuarter 56 = .ok (.getfield 17, 3) := by decide +kernel
theorem dX3_passQuarter_59 : decode cX3_passQuarter 59 = .ok (.aload_n 0, 1) := by decide +kernel
theorem dX3_passQuarter_60 : decode cX3_passQuarter 60 = .ok (.getfield 20, 3) := by decide +kernel
theorem dX3_passQuarter_63 : decode cX3_passQuarter 63 = .ok (.iastore, 1) := by decide +kernel
theorem dX3_passQuarter_64 : decode cX3_passQuarter 64 = .ok (.return_, 1) := by decide +kernel
theorem dX3_takeQuarterBack_0 : decode cX3_takeQuarterBack 0 = .ok (.aload_n 0, 1) := by decide +kernel
theorem dX3_takeQuarterBack_1 : decode cX3_takeQuarterBack 1 = .ok (.getfield 17, 3) := by decide +kernel
theorem dX3_takeQuarterBack_4 : decode cX3_takeQuarterBack 4 = .ok (.ifCond .gt 4, 3) := by decide +kernel
theorem dX3_takeQuarterBack_7 : decode cX3_takeQuarterBack 7 = .ok (.return_, 1) := by decide +kernel
theorem dX3_takeQuarterBack_8 : decode cX3_takeQuarterBack 8 = .ok (.aload_n 0, 1) := by decide +kernel
theorem dX3_takeQuarterBack_9 : decode cX3_takeQuarterBack 9 = .ok (.dup, 1) := by decide +kernel
theorem dX3_takeQuarterBack_10 : decode cX3_takeQuarterBack 10 = .ok (.getfield 17, 3) := by decide +kernel
theorem dX3_takeQuarterBack_13 : decode cX3_takeQuarterBack 13 = .ok (.iconst 1, 1) := by decide +kernel
theorem dX3_takeQuarterBack_14 : decode cX3_takeQuarterBack 14 = .ok (.isub, 1) := by decide +kernel
theorem dX3_takeQuarterBack_15 : decode cX3_takeQuarterBack 15 = .ok (.putfield 17, 3) := by decide +kernel
theorem dX3_takeQuarterBack_18 : decode cX3_takeQuarterBack 18 = .ok (.aload_n 0, 1) := by decide +kernel
theorem dX3_takeQuarterBack_19 : decode cX3_takeQuarterBack 19 = .ok (.aload_n 0, 1) := by decide +kernel
theorem dX3_takeQuarterBack_20 : decode cX3_takeQuarterBack 20 = .ok (.getfield 60, 3) := by decide +kernel
theorem dX3_takeQuarterBack_23 : decode cX3_takeQuarterBack 23 = .ok (.aload_n 0, 1) := by decide +kernel
theorem dX3_takeQuarterBack_24 : decode cX3_takeQuarterBack 24 = .ok (.getfield 17, 3) := by decide +kernel
theorem dX3_takeQuarterBack_27 : decode cX3_takeQuarterBack 27 = .ok (.iaload, 1) := by decide +kernel
theorem dX3_takeQuarterBack_28 : decode cX3_takeQuarterBack 28 = .ok (.aload_n 0, 1) := by decide +kernel
theorem dX3_takeQuarterBack_29 : decode cX3_takeQuarterBack 29 = .ok (.getfield 20, 3) := by decide +kernel
theorem dX3_takeQuarterBack_32 : decode cX3_takeQuarterBack 32 = .ok (.isub, 1) := by decide +kernel
theorem dX3_takeQuarterBack_33 : decode cX3_takeQuarterBack 33 = .ok (.bipush (-12), 2) := by decide +kernel
theorem dX3_takeQuarterBack_35 : decode cX3_takeQuarterBack 35 = .ok (.invokevirtual 128, 3) := by decide +kernel
theorem dX3_takeQuarterBack_38 : decode cX3_takeQuarterBack 38 = .ok (.aload_n 0, 1) := by decide +kernel
theorem dX3_takeQuarterBack_39 : decode cX3_takeQuarterBack 39 = .ok (.aload_n 0, 1) := by decide +kernel
theorem dX3_takeQuarterBack_40 : decode cX3_takeQuarterBack 40 = .ok (.getfield 60, 3) := by decide +kernel
theorem dX3_takeQuarterBack_43 : decode cX3_takeQuarterBack 43 = .ok (.aload_n 0, 1) := by decide +kernel
theorem dX3_takeQuarterBack_44 : decode cX3_takeQuarterBack 44 = .ok (.getfield 17, 3) := by decide +kernel
theorem dX3_takeQuarterBack_47 : decode cX3_takeQuarterBack 47 = .ok (.iaload, 1) := by decide +kernel
theorem dX3_takeQuarterBack_48 : decode cX3_takeQuarterBack 48 = .ok (.putfield 20, 3) := by decide +kernel
theorem dX3_takeQuarterBack_51 : decode cX3_takeQuarterBack 51 = .ok (.return_, 1) := by decide +kernel
theorem dX3_growOlder_0 : decode cX3_growOlder 0 = .ok (.iconst 0, 1) := by decide +kernel
theorem dX3_growOlder_1 : decode cX3_growOlder 1 = .ok (.istore_n 3, 1) := by decide +kernel
theorem dX3_growOlder_2 : decode cX3_growOlder 2 = .ok (.iload_n 3, 1) := by decide +kernel
theorem dX3_growOlder_3 : decode cX3_growOlder 3 = .ok (.aload_n 0, 1) := by decide +kernel
theorem dX3_growOlder_4 : decode cX3_growOlder 4 = .ok (.getfield 26, 3) := by decide +kernel
theorem dX3_growOlder_7 : decode cX3_growOlder 7 = .ok (.if_icmp .ge 31, 3) := by decide +kernel
theorem dX3_growOlder_10 : decode cX3_growOlder 10 = .ok (.aload_n 0, 1) := by decide +kernel
theorem dX3_growOlder_11 : decode cX3_growOlder 11 = .ok (.getfield 48, 3) := by decide +kernel
theorem dX3_growOlder_14 : decode cX3_growOlder 14 = .ok (.iload_n 3, 1) := by decide +kernel
theorem dX3_growOlder_15 : decode cX3_growOlder 15 = .ok (.dup2, 1) := by decide +kernel
theorem dX3_growOlder_16 : decode cX3_growOlder 16 = .ok (.iaload, 1) := by decide +kernel
theorem dX3_growOlder_17 : decode cX3_growOlder 17 = .ok (.aload_n 0, 1) := by decide +kernel
theorem dX3_growOlder_18 : decode cX3_growOlder 18 = .ok (.iload_n 3, 1) := by decide +kernel
theorem dX3_growOlder_19 : decode cX3_growOlder 19 = .ok (.invokevirtual 96, 3) := by decide +kernel
theorem dX3_growOlder_22 : decode cX3_growOlder 22 = .ok (.ifCond .eq 7, 3) := by decide +kernel
theorem dX3_growOlder_25 : decode cX3_growOlder 25 = .ok (.iload_n 1, 1) := by decide +kernel
theorem dX3_growOlder_26 : decode cX3_growOlder 26 = .ok (.goto 4, 3) := by decide +kernel
theorem dX3_growOlder_29 : decode cX3_growOlder 29 = .ok (.iload_n 2, 1) := by decide +kernel
theorem dX3_growOlder_30 : decode cX3_growOlder 30 = .ok (.iadd, 1) := by decide +kernel
theorem dX3_growOlder_31 : decode cX3_growOlder 31 = .ok (.iastore, 1) := by decide +kernel
theorem dX3_growOlder_32 : decode cX3_growOlder 32 = .ok (.iinc 3 1, 3) := by decide +kernel
theorem dX3_growOlder_35 : decode cX3_growOlder 35 = .ok (.goto (-33), 3) := by decide +kernel
theorem dX3_growOlder_38 : decode cX3_growOlder 38 = .ok (.return_, 1) := by decide +kernel
theorem dX3_isOver_0 : decode cX3_isOver 0 = .ok (.iload_n 1, 1) := by decide +kernel
theorem dX3_isOver_1 : decode cX3_isOver 1 = .ok (.ifCond .lt 15, 3) := by decide +kernel
theorem dX3_isOver_4 : decode cX3_isOver 4 = .ok (.iload_n 1, 1) := by decide +kernel
theorem dX3_isOver_5 : decode cX3_isOver 5 = .ok (.aload_n 0, 1) := by decide +kernel
theorem dX3_isOver_6 : decode cX3_isOver 6 = .ok (.getfield 17, 3) := by decide +kernel
theorem dX3_isOver_9 : decode cX3_isOver 9 = .ok (.if_icmp .ge 7, 3) := by decide +kernel
theorem dX3_isOver_12 : decode cX3_isOver 12 = .ok (.iconst 1, 1) := by decide +kernel
theorem dX3_isOver_13 : decode cX3_isOver 13 = .ok (.goto 4, 3) := by decide +kernel
theorem dX3_isOver_16 : decode cX3_isOver 16 = .ok (.iconst 0, 1) := by decide +kernel
theorem dX3_isOver_17 : decode cX3_isOver 17 = .ok (.ireturn, 1) := by decide +kernel
theorem dX3_partsGoneIn_0 : decode cX3_partsGoneIn 0 = .ok (.aload_n 0, 1) := by decide +kernel
theorem dX3_partsGoneIn_1 : decode cX3_partsGoneIn 1 = .ok (.iload_n 1, 1) := by decide +kernel
theorem dX3_partsGoneIn_2 : decode cX3_partsGoneIn 2 = .ok (.invokevirtual 132, 3) := by decide +kernel
theorem dX3_partsGoneIn_5 : decode cX3_partsGoneIn 5 = .ok (.ifCond .eq 21, 3) := by decide +kernel
theorem dX3_partsGoneIn_8 : decode cX3_partsGoneIn 8 = .ok (.aload_n 0, 1) := by decide +kernel
theorem dX3_partsGoneIn_9 : decode cX3_partsGoneIn 9 = .ok (.getfield 60, 3) := by decide +kernel
theorem dX3_partsGoneIn_12 : decode cX3_partsGoneIn 12 = .ok (.iload_n 1, 1) := by decide +kernel
theorem dX3_partsGoneIn_13 : decode cX3_partsGoneIn 13 = .ok (.iconst 1, 1) := by decide +kernel
theorem dX3_partsGoneIn_14 : decode cX3_partsGoneIn 14 = .ok (.iadd, 1) := by decide +kernel
theorem dX3_partsGoneIn_15 : decode cX3_partsGoneIn 15 = .ok (.iaload, 1) := by decide +kernel
theorem dX3_partsGoneIn_16 : decode cX3_partsGoneIn 16 = .ok (.aload_n 0, 1) := by decide +kernel
theorem dX3_partsGoneIn_17 : decode cX3_partsGoneIn 17 = .ok (.getfield 60, 3) := by decide +kernel
theorem dX3_partsGoneIn_20 : decode cX3_partsGoneIn 20 = .ok (.iload_n 1, 1) := by decide +kernel
theorem dX3_partsGoneIn_21 : decode cX3_partsGoneIn 21 = .ok (.iaload, 1) := by decide +kernel
theorem dX3_partsGoneIn_22 : decode cX3_partsGoneIn 22 = .ok (.isub, 1) := by decide +kernel
theorem dX3_partsGoneIn_23 : decode cX3_partsGoneIn 23 = .ok (.goto 4, 3) := by decide +kernel
theorem dX3_partsGoneIn_26 : decode cX3_partsGoneIn 26 = .ok (.iconst 0, 1) := by decide +kernel
theorem dX3_partsGoneIn_27 : decode cX3_partsGoneIn 27 = .ok (.ireturn, 1) := by decide +kernel
theorem dX6_init_0 : decode cX6_init 0 = .ok (.aload_n 0, 1) := by decide +kernel
theorem dX6_init_1 : decode cX6_init 1 = .ok (.invokespecial 5, 3) := by decide +kernel
theorem dX6_init_4 : decode cX6_init 4 = .ok (.aload_n 0, 1) := by decide +kernel
theorem dX6_init_5 : decode cX6_init 5 = .ok (.bipush 120, 2) := by decide +kernel
theorem dX6_init_7 : decode cX6_init 7 = .ok (.newarray .int, 2) := by decide +kernel
theorem dX6_init_9 : decode cX6_init 9 = .ok (.putfield 13, 3) := by decide +kernel
theorem dX6_init_12 : decode cX6_init 12 = .ok (.aload_n 0, 1) := by decide +kernel
theorem dX6_init_13 : decode cX6_init 13 = .ok (.iconst 0, 1) := by decide +kernel
theorem dX6_init_14 : decode cX6_init 14 = .ok (.putfield 17, 3) := by decide +kernel
theorem dX6_init_17 : decode cX6_init 17 = .ok (.aload_n 0, 1) := by decide +kernel
theorem dX6_init_18 : decode cX6_init 18 = .ok (.iconst 0, 1) := by decide +kernel
theorem dX6_init_19 : decode cX6_init 19 = .ok (.putfield 21, 3) := by decide +kernel
theorem dX6_init_22 : decode cX6_init 22 = .ok (.aload_n 0, 1) := by decide +kernel
theorem dX6_init_23 : decode cX6_init 23 = .ok (.iconst 0, 1) := by decide +kernel
theorem dX6_init_24 : decode cX6_init 24 = .ok (.putfield 24, 3) := by decide +kernel
theorem dX6_init_27 : decode cX6_init 27 = .ok (.aload_n 0, 1) := by decide +kernel
theorem dX6_init_28 : decode cX6_init 28 = .ok (.bipush 6, 2) := by decide +kernel
theorem dX6_init_30 : decode cX6_init 30 = .ok (.newarray .int, 2) := by decide +kernel
theorem dX6_init_32 : decode cX6_init 32 = .ok (.putfield 27, 3) := by decide +kernel
theorem dX6_init_35 : decode cX6_init 35 = .ok (.aload_n 0, 1) := by decide +kernel
theorem dX6_init_36 : decode cX6_init 36 = .ok (.iconst 0, 1) := by decide +kernel
theorem dX6_init_37 : decode cX6_init 37 = .ok (.putfield 30, 3) := by decide +kernel
theorem dX6_init_40 : decode cX6_init 40 = .ok (.aload_n 0, 1) := by decide +kernel
theorem dX6_init_41 : decode cX6_init 41 = .ok (.iconst 0, 1) := by decide +kernel
theorem dX6_init_42 : decode cX6_init 42 = .ok (.putfield 33, 3) := by decide +kernel
theorem dX6_init_45 : decode cX6_init 45 = .ok (.aload_n 0, 1) := by decide +kernel
theorem dX6_init_46 : decode cX6_init 46 = .ok (.bipush 37, 2) := by decide +kernel
theorem dX6_init_48 : decode cX6_init 48 = .ok (.newarray .int, 2) := by decide +kernel
theorem dX6_init_50 : decode cX6_init 50 = .ok (.putfield 36, 3) := by decide +kernel
theorem dX6_init_53 : decode cX6_init 53 = .ok (.aload_n 0, 1) := by decide +kernel
theorem dX6_init_54 : decode cX6_init 54 = .ok (.iconst 0, 1) := by decide +kernel
theorem dX6_init_55 : decode cX6_init 55 = .ok (.putfield 39, 3) := by decide +kernel
theorem dX6_init_58 : decode cX6_init 58 = .ok (.return_, 1) := by decide +kernel
theorem dX6_append_0 : decode cX6_append 0 = .ok (.aload_n 0, 1) := by decide +kernel
theorem dX6_append_1 : decode cX6_append 1 = .ok (.getfield 17, 3) := by decide +kernel
theorem dX6_append_4 : decode cX6_append 4 = .ok (.bipush 120, 2) := by decide +kernel
theorem dX6_append_6 : decode cX6_append 6 = .ok (.if_icmp .lt 6, 3) := by decide +kernel
theorem dX6_append_9 : decode cX6_append 9 = .ok (.ldc 42, 2) := by decide +kernel
theorem dX6_append_11 : decode cX6_append 11 = .ok (.ireturn, 1) := by decide +kernel
theorem dX6_append_12 : decode cX6_append 12 = .ok (.aload_n 0, 1) := by decide +kernel
theorem dX6_append_13 : decode cX6_append 13 = .ok (.getfield 13, 3) := by decide +kernel
theorem dX6_append_16 : decode cX6_append 16 = .ok (.aload_n 0, 1) := by decide +kernel
theorem dX6_append_17 : decode cX6_append 17 = .ok (.getfield 17, 3) := by decide +kernel
theorem dX6_append_20 : decode cX6_append 20 = .ok (.iload_n 1, 1) := by decide +kernel
theorem dX6_append_21 : decode cX6_append 21 = .ok (.iastore, 1) := by decide +kernel
theorem dX6_append_22 : decode cX6_append 22 = .ok (.aload_n 0, 1) := by decide +kernel
theorem dX6_append_23 : decode cX6_append 23 = .ok (.dup, 1) := by decide +kernel
theorem dX6_append_24 : decode cX6_append 24 = .ok (.getfield 17, 3) := by decide +kernel
theorem dX6_append_27 : decode cX6_append 27 = .ok (.iconst 1, 1) := by decide +kernel
theorem dX6_append_28 : decode cX6_append 28 = .ok (.iadd, 1) := by decide +kernel
theorem dX6_append_29 : decode cX6_append 29 = .ok (.putfield 17, 3) := by decide +kernel
theorem dX6_append_32 : decode cX6_append 32 = .ok (.aload_n 0, 1) := by decide +kernel
theorem dX6_append_33 : decode cX6_append 33 = .ok (.getfield 17, 3) := by decide +kernel
theorem dX6_append_36 : decode cX6_append 36 = .ok (.ireturn, 1) := by decide +kernel
theorem dX6_read_0 : decode cX6_read 0 = .ok (.aload_n 0, 1) := by decide +kernel
theorem dX6_read_1 : decode cX6_read 1 = .ok (.iconst 0, 1) := by decide +kernel
theorem dX6_read_2 : decode cX6_read 2 = .ok (.putfield 24, 3) := by decide +kernel
theorem dX6_read_5 : decode cX6_read 5 = .ok (.aload_n 0, 1) := by decide +kernel
theorem dX6_read_6 : decode cX6_read 6 = .ok (.iconst 0, 1) := by decide +kernel
theorem dX6_read_7 : decode cX6_read 7 = .ok (.putfield 21, 3) := by decide +kernel
theorem dX6_read_10 : decode cX6_read 10 = .ok (.aload_n 0, 1) := by decide +kernel
theorem dX6_read_11 : decode cX6_read 11 = .ok (.iconst 0, 1) := by decide +kernel
theorem dX6_read_12 : decode cX6_read 12 = .ok (.putfield 30, 3) := by decide +kernel
theorem dX6_read_15 : decode cX6_read 15 = .ok (.aload_n 0, 1) := by decide +kernel
theorem dX6_read_16 : decode cX6_read 16 = .ok (.iconst 0, 1) := by decide +kernel
theorem dX6_read_17 : decode cX6_read 17 = .ok (.putfield 33, 3) := by decide +kernel
theorem dX6_read_20 : decode cX6_read 20 = .ok (.aload_n 0, 1) := by decide +kernel
theorem dX6_read_21 : decode cX6_read 21 = .ok (.iconst 0, 1) := by decide +kernel
theorem dX6_read_22 : decode cX6_read 22 = .ok (.putfield 39, 3) := by decide +kernel
theorem dX6_read_25 : decode cX6_read 25 = .ok (.aload_n 0, 1) := by decide +kernel
theorem dX6_read_26 : decode cX6_read 26 = .ok (.invokevirtual 43, 3) := by decide +kernel
theorem dX6_read_29 : decode cX6_read 29 = .ok (.aload_n 0, 1) := by decide +kernel
theorem dX6_read_30 : decode cX6_read 30 = .ok (.iconst 0, 1) := by decide +kernel
theorem dX6_read_31 : decode cX6_read 31 = .ok (.putfield 17, 3) := by decide +kernel
theorem dX6_read_34 : decode cX6_read 34 = .ok (.aload_n 0, 1) := by decide +kernel
theorem dX6_read_35 : decode cX6_read 35 = .ok (.getfield 21, 3) := by decide +kernel
theorem dX6_read_38 : decode cX6_read 38 = .ok (.ifCond .ne 8, 3) := by decide +kernel
theorem dX6_read_41 : decode cX6_read 41 = .ok (.ldc 46, 2) := by decide +kernel
theorem dX6_read_43 : decode cX6_read 43 = .ok (.goto 7, 3) := by decide +kernel
theorem dX6_read_46 : decode cX6_read 46 = .ok (.aload_n 0, 1) := by decide +kernel
theorem dX6_read_47 : decode cX6_read 47 = .ok (.getfield 24, 3) := by decide +kernel
theorem dX6_read_50 : decode cX6_read 50 = .ok (.ireturn, 1) := by decide +kernel
theorem dX6_readHouse_0 : decode cX6_readHouse 0 = .ok (.aload_n 0, 1) := by decide +kernel
theorem dX6_readHouse_1 : decode cX6_readHouse 1 = .ok (.invokevirtual 47, 3) := by decide +kernel
theorem dX6_readHouse_4 : decode cX6_readHouse 4 = .ok (.bipush 99, 2) := by decide +kernel
theorem dX6_readHouse_6 : decode cX6_readHouse 6 = .ok (.if_icmp .eq 9, 3) := by decide +kernel
theorem dX6_readHouse_9 : decode cX6_readHouse 9 = .ok (.aload_n 0, 1) := by decide +kernel
theorem dX6_readHouse_10 : decode cX6_readHouse 10 = .ok (.iconst 1, 1) := by decide +kernel
theorem dX6_readHouse_11 : decode cX6_readHouse 11 = .ok (.putfield 21, 3) := by decide +kernel
theorem dX6_readHouse_14 : decode cX6_readHouse 14 = .ok (.return_, 1) := by decide +kernel
theorem dX6_readHouse_15 : decode cX6_readHouse 15 = .ok (.aload_n 0, 1) := by decide +kernel
theorem dX6_readHouse_16 : decode cX6_readHouse 16 = .ok (.dup, 1) := by decide +kernel
theorem dX6_readHouse_17 : decode cX6_readHouse 17 = .ok (.getfield 24, 3) := by decide +kernel
theorem dX6_readHouse_20 : decode cX6_readHouse 20 = .ok (.iconst 1, 1) := by decide +kernel
theorem dX6_readHouse_21 : decode cX6_readHouse 21 = .ok (.iadd, 1) := by decide +kernel
theorem dX6_readHouse_22 : decode cX6_readHouse 22 = .ok (.putfield 24, 3) := by decide +kernel
theorem dX6_readHouse_25 : decode cX6_readHouse 25 = .ok (.aload_n 0, 1) := by decide +kernel
theorem dX6_readHouse_26 : decode cX6_readHouse 26 = .ok (.getstatic 51, 3) := by decide +kernel
theorem dX6_readHouse_29 : decode cX6_readHouse 29 = .ok (.getstatic 54, 3) := by decide +kernel
theorem dX6_readHouse_32 : decode cX6_readHouse 32 = .ok (.invokevirtual 57, 3) := by decide +kernel
theorem dX6_readHouse_35 : decode cX6_readHouse 35 = .ok (.iconst 0, 1) := by decide +kernel
theorem dX6_readHouse_36 : decode cX6_readHouse 36 = .ok (.istore_n 1, 1) := by decide +kernel
theorem dX6_readHouse_37 : decode cX6_readHouse 37 = .ok (.iload_n 1, 1) := by decide +kernel
theorem dX6_readHouse_38 : decode cX6_readHouse 38 = .ok (.bipush 6, 2) := by decide +kernel
theorem dX6_readHouse_40 : decode cX6_readHouse 40 = .ok (.if_icmp .gt 30, 3) := by decide +kernel
theorem dX6_readHouse_43 : decode cX6_readHouse 43 = .ok (.aload_n 0, 1) := by decide +kernel
theorem dX6_readHouse_44 : decode cX6_readHouse 44 = .ok (.invokevirtual 47, 3) := by decide +kernel
theorem dX6_readHouse_47 : decode cX6_readHouse 47 = .ok (.invokestatic 61, 3) := by decide +kernel
theorem dX6_readHouse_50 : decode cX6_readHouse 50 = .ok (.ifCond .eq 20, 3) := by decide +kernel
theorem dX6_readHouse_53 : decode cX6_readHouse 53 = .ok (.aload_n 0, 1) := by decide +kernel
theorem dX6_readHouse_54 : decode cX6_readHouse 54 = .ok (.aload_n 0, 1) := by decide +kernel
theorem dX6_readHouse_55 : decode cX6_readHouse 55 = .ok (.invokevirtual 47, 3) := by decide +kernel
theorem dX6_readHouse_58 : decode cX6_readHouse 58 = .ok (.invokestatic 61, 3) := by decide +kernel
theorem dX6_readHouse_61 : decode cX6_readHouse 61 = .ok (.invokevirtual 67, 3) := by decide +kernel
theorem dX6_readHouse_64 : decode cX6_readHouse 64 = .ok (.iinc 1 1, 3) := by decide +kernel
theorem dX6_readHouse_67 : decode cX6_readHouse 67 = .ok (.goto (-30), 3) := by decide +kernel
theorem dX6_readHouse_70 : decode cX6_readHouse 70 = .ok (.iconst 0, 1) := by decide +kernel
theorem dX6_readHouse_71 : decode cX6_readHouse 71 = .ok (.istore_n 1, 1) := by decide +kernel
theorem dX6_readHouse_72 : decode cX6_readHouse 72 = .ok (.iload_n 1, 1) := by decide +kernel
theorem dX6_readHouse_73 : decode cX6_readHouse 73 = .ok (.iconst 4, 1) := by decide +kernel
theorem dX6_readHouse_74 : decode cX6_readHouse 74 = .ok (.if_icmp .gt 22, 3) := by decide +kernel
theorem dX6_readHouse_77 : decode cX6_readHouse 77 = .ok (.aload_n 0, 1) := by decide +kernel
theorem dX6_readHouse_78 : decode cX6_readHouse 78 = .ok (.invokevirtual 47, 3) := by decide +kernel
theorem dX6_readHouse_81 : decode cX6_readHouse 81 = .ok (.bipush 120, 2) := by decide +kernel
theorem dX6_readHouse_83 : decode cX6_readHouse 83 = .ok (.if_icmp .ne 13, 3) := by decide +kernel
theorem dX6_readHouse_86 : decode cX6_readHouse 86 = .ok (.aload_n 0, 1) := by decide +kernel
theorem dX6_readHouse_87 : decode cX6_readHouse 87 = .ok (.invokevirtual 71, 3) := by decide +kernel
theorem dX6_readHouse_90 : decode cX6_readHouse 90 = .ok (.iinc 1 1, 3) := by decide +kernel
theorem dX6_readHouse_93 : decode cX6_readHouse 93 = .ok (.goto (-21), 3) := by decide +kernel
theorem dX6_readHouse_96 : decode cX6_readHouse 96 = .ok (.aload_n 0, 1) := by decide +kernel
theorem dX6_readHouse_97 : decode cX6_readHouse 97 = .ok (.getfield 21, 3) := by decide +kernel
theorem dX6_readHouse_100 : decode cX6_readHouse 100 = .ok (.ifCond .ne 19, 3) := by decide +kernel
theorem dX6_readHouse_103 : decode cX6_readHouse 103 = .ok (.aload_n 0, 1) := by decide +kernel
theorem dX6_readHouse_104 : decode cX6_readHouse 104 = .ok (.getfield 24, 3) := by decide +kernel
theorem dX6_readHouse_107 : decode cX6_readHouse 107 = .ok (.aload_n 0, 1) := by decide +kernel
theorem dX6_readHouse_108 : decode cX6_readHouse 108 = .ok (.getfield 17, 3) := by decide +kernel
theorem dX6_readHouse_111 : decode cX6_readHouse 111 = .ok (.if_icmp .ge 8, 3) := by decide +kernel
theorem dX6_readHouse_114 : decode cX6_readHouse 114 = .ok (.aload_n 0, 1) := by decide +kernel
theorem dX6_readHouse_115 : decode cX6_readHouse 115 = .ok (.iconst 1, 1) := by decide +kernel
theorem dX6_readHouse_116 : decode cX6_readHouse 116 = .ok (.putfield 21, 3) := by decide +kernel
theorem dX6_readHouse_119 : decode cX6_readHouse 119 = .ok (.return_, 1) := by decide +kernel
theorem dX6_byteHere_0 : decode cX6_byteHere 0 = .ok (.aload_n 0, 1) := by decide +kernel
theorem dX6_byteHere_1 : decode cX6_byteHere 1 = .ok (.getfield 21, 3) := by decide +kernel
theorem dX6_byteHere_4 : decode cX6_byteHere 4 = .ok (.ifCond .ne 26, 3) := by decide +kernel
theorem dX6_byteHere_7 : decode cX6_byteHere 7 = .ok (.aload_n 0, 1) := by decide +kernel
theorem dX6_byteHere_8 : decode cX6_byteHere 8 = .ok (.getfield 24, 3) := by decide +kernel
theorem dX6_byteHere_11 : decode cX6_byteHere 11 = .ok (.aload_n 0, 1) := by decide +kernel
theorem dX6_byteHere_12 : decode cX6_byteHere 12 = .ok (.getfield 17, 3) := by decide +kernel
theorem dX6_byteHere_15 : decode cX6_byteHere 15 = .ok (.if_icmp .ge 15, 3) := by decide +kernel
theorem dX6_byteHere_18 : decode cX6_byteHere 18 = .ok (.aload_n 0, 1) := by decide +kernel
theorem dX6_byteHere_19 : decode cX6_byteHere 19 = .ok (.getfield 13, 3) := by decide +kernel
theorem dX6_byteHere_22 : decode cX6_byteHere 22 = .ok (.aload_n 0, 1) := by decide +kernel
theorem dX6_byteHere_23 : decode cX6_byteHere 23 = .ok (.getfield 24, 3) := by decide +kernel
theorem dX6_byteHere_26 : decode cX6_byteHere 26 = .ok (.iaload, 1) := by decide +kernel
theorem dX6_byteHere_27 : decode cX6_byteHere 27 = .ok (.goto 5, 3) := by decide +kernel
theorem dX6_byteHere_30 : decode cX6_byteHere 30 = .ok (.ldc 46, 2) := by decide +kernel
theorem dX6_byteHere_32 : decode cX6_byteHere 32 = .ok (.ireturn, 1) := by decide +kernel
theorem dX6_readEar_0 : decode cX6_readEar 0 = .ok (.aload_n 0, 1) := by decide +kernel
theorem dX6_readEar_1 : decode cX6_readEar 1 = .ok (.getfield 30, 3) := by decide +kernel
theorem dX6_readEar_4 : decode cX6_readEar 4 = .ok (.bipush 6, 2) := by decide +kernel
theorem dX6_readEar_6 : decode cX6_readEar 6 = .ok (.if_icmp .lt 9, 3) := by decide +kernel
theorem dX6_readEar_9 : decode cX6_readEar 9 = .ok (.aload_n 0, 1) := by decide +kernel
theorem dX6_readEar_10 : decode cX6_readEar 10 = .ok (.iconst 3, 1) := by decide +kernel
theorem dX6_readEar_11 : decode cX6_readEar 11 = .ok (.putfield 21, 3) := by decide +kernel
theorem dX6_readEar_14 : decode cX6_readEar 14 = .ok (.return_, 1) := by decide +kernel
theorem dX6_readEar_15 : decode cX6_readEar 15 = .ok (.aload_n 0, 1) := by decide +kernel
theorem dX6_readEar_16 : decode cX6_readEar 16 = .ok (.getfield 27, 3) := by decide +kernel
theorem dX6_readEar_19 : decode cX6_readEar 19 = .ok (.aload_n 0, 1) := by decide +kernel
theorem dX6_readEar_20 : decode cX6_readEar 20 = .ok (.getfield 30, 3) := by decide +kernel
theorem dX6_readEar_23 : decode cX6_readEar 23 = .ok (.iload_n 1, 1) := by decide +kernel
theorem dX6_readEar_24 : decode cX6_readEar 24 = .ok (.iastore, 1) := by decide +kernel
theorem dX6_readEar_25 : decode cX6_readEar 25 = .ok (.aload_n 0, 1) := by decide +kernel
theorem dX6_readEar_26 : decode cX6_readEar 26 = .ok (.dup, 1) := by decide +kernel
theorem dX6_readEar_27 : decode cX6_readEar 27 = .ok (.getfield 30, 3) := by decide +kernel
theorem dX6_readEar_30 : decode cX6_readEar 30 = .ok (.iconst 1, 1) := by decide +kernel
theorem dX6_readEar_31 : decode cX6_readEar 31 = .ok (.iadd, 1) := by decide +kernel
theorem dX6_readEar_32 : decode cX6_readEar 32 = .ok (.putfield 30, 3) := by decide +kernel
theorem dX6_readEar_35 : decode cX6_readEar 35 = .ok (.aload_n 0, 1) := by decide +kernel
theorem dX6_readEar_36 : decode cX6_readEar 36 = .ok (.dup, 1) := by decide +kernel
theorem dX6_readEar_37 : decode cX6_readEar 37 = .ok (.getfield 24, 3) := by decide +kernel
theorem dX6_readEar_40 : decode cX6_readEar 40 = .ok (.iconst 1, 1) := by decide +kernel
theorem dX6_readEar_41 : decode cX6_readEar 41 = .ok (.iadd, 1) := by decide +kernel
theorem dX6_readEar_42 : decode cX6_readEar 42 = .ok (.putfield 24, 3) := by decide +kernel
theorem dX6_readEar_45 : decode cX6_readEar 45 = .ok (.aload_n 0, 1) := by decide +kernel
theorem dX6_readEar_46 : decode cX6_readEar 46 = .ok (.getstatic 74, 3) := by decide +kernel
theorem dX6_readEar_49 : decode cX6_readEar 49 = .ok (.getstatic 77, 3) := by decide +kernel
theorem dX6_readEar_52 : decode cX6_readEar 52 = .ok (.invokevirtual 57, 3) := by decide +kernel
theorem dX6_readEar_55 : decode cX6_readEar 55 = .ok (.return_, 1) := by decide +kernel
theorem dX6_readDoing_0 : decode cX6_readDoing 0 = .ok (.aload_n 0, 1) := by decide +kernel
theorem dX6_readDoing_1 : decode cX6_readDoing 1 = .ok (.getfield 33, 3) := by decide +kernel
theorem dX6_readDoing_4 : decode cX6_readDoing 4 = .ok (.iconst 4, 1) := by decide +kernel
theorem dX6_readDoing_5 : decode cX6_readDoing 5 = .ok (.if_icmp .lt 9, 3) := by decide +kernel
theorem dX6_readDoing_8 : decode cX6_readDoing 8 = .ok (.aload_n 0, 1) := by decide +kernel
theorem dX6_readDoing_9 : decode cX6_readDoing 9 = .ok (.iconst 3, 1) := by decide +kernel
theorem dX6_readDoing_10 : decode cX6_readDoing 10 = .ok (.putfield 21, 3) := by decide +kernel
theorem dX6_readDoing_13 : decode cX6_readDoing 13 = .ok (.return_, 1) := by decide +kernel
theorem dX6_readDoing_14 : decode cX6_readDoing 14 = .ok (.aload_n 0, 1) := by decide +kernel
theorem dX6_readDoing_15 : decode cX6_readDoing 15 = .ok (.dup, 1) := by decide +kernel
theorem dX6_readDoing_16 : decode cX6_readDoing 16 = .ok (.getfield 33, 3) := by decide +kernel
theorem dX6_readDoing_19 : decode cX6_readDoing 19 = .ok (.iconst 1, 1) := by decide +kernel
theorem dX6_readDoing_20 : decode cX6_readDoing 20 = .ok (.iadd, 1) := by decide +kernel
theorem dX6_readDoing_21 : decode cX6_readDoing 21 = .ok (.putfield 33, 3) := by decide +kernel
theorem dX6_readDoing_24 : decode cX6_readDoing 24 = .ok (.aload_n 0, 1) := by decide +kernel
theorem dX6_readDoing_25 : decode cX6_readDoing 25 = .ok (.dup, 1) := by decide +kernel
theorem dX6_readDoing_26 : decode cX6_readDoing 26 = .ok (.getfield 24, 3) := by decide +kernel
theorem dX6_readDoing_29 : decode cX6_readDoing 29 = .ok (.iconst 1, 1) := by decide +kernel
theorem dX6_readDoing_30 : decode cX6_readDoing 30 = .ok (.iadd, 1) := by decide +kernel
theorem dX6_readDoing_31 : decode cX6_readDoing 31 = .ok (.putfield 24, 3) := by decide +kernel
theorem dX6_readDoing_34 : decode cX6_readDoing 34 = .ok (.aload_n 0, 1) := by decide +kernel
theorem dX6_readDoing_35 : decode cX6_readDoing 35 = .ok (.getstatic 80, 3) := by decide +kernel
theorem dX6_readDoing_38 : decode cX6_readDoing 38 = .ok (.getstatic 83, 3) := by decide +kernel
theorem dX6_readDoing_41 : decode cX6_readDoing 41 = .ok (.invokevirtual 57, 3) := by decide +kernel
theorem dX6_readDoing_44 : decode cX6_readDoing 44 = .ok (.return_, 1) := by decide +kernel
theorem dX6_readNumbers_0 : decode cX6_readNumbers 0 = .ok (.iconst 0, 1) := by decide +kernel
theorem dX6_readNumbers_1 : decode cX6_readNumbers 1 = .ok (.istore_n 3, 1) := by decide +kernel
theorem dX6_readNumbers_2 : decode cX6_readNumbers 2 = .ok (.iload_n 3, 1) := by decide +kernel
theorem dX6_readNumbers_3 : decode cX6_readNumbers 3 = .ok (.aload_n 1, 1) := by decide +kernel
theorem dX6_readNumbers_4 : decode cX6_readNumbers 4 = .ok (.arraylength, 1) := by decide +kernel
theorem dX6_readNumbers_5 : decode cX6_readNumbers 5 = .ok (.if_icmp .ge 51, 3) := by decide +kernel
theorem dX6_readNumbers_8 : decode cX6_readNumbers 8 = .ok (.iload_n 3, 1) := by decide +kernel
theorem dX6_readNumbers_9 : decode cX6_readNumbers 9 = .ok (.aload_n 2, 1) := by decide +kernel
theorem dX6_readNumbers_10 : decode cX6_readNumbers 10 = .ok (.arraylength, 1) := by decide +kernel
theorem dX6_readNumbers_11 : decode cX6_readNumbers 11 = .ok (.if_icmp .ge 45, 3) := by decide +kernel
theorem dX6_readNumbers_14 : decode cX6_readNumbers 14 = .ok (.aload_n 0, 1) := by decide +kernel
theorem dX6_readNumbers_15 : decode cX6_readNumbers 15 = .ok (.getfield 21, 3) := by decide +kernel
theorem dX6_readNumbers_18 : decode cX6_readNumbers 18 = .ok (.ifCond .ne 38, 3) := by decide +kernel
theorem dX6_readNumbers_21 : decode cX6_readNumbers 21 = .ok (.aload_n 0, 1) := by decide +kernel
theorem dX6_readNumbers_22 : decode cX6_readNumbers 22 = .ok (.aload_n 1, 1) := by decide +kernel
theorem dX6_readNumbers_23 : decode cX6_readNumbers 23 = .ok (.iload_n 3, 1) := by decide +kernel
theorem dX6_readNumbers_24 : decode cX6_readNumbers 24 = .ok (.iaload, 1) := by decide +kernel
theorem dX6_readNumbers_25 : decode cX6_readNumbers 25 = .ok (.aload_n 2, 1) := by decide +kernel
theorem dX6_readNumbers_26 : decode cX6_readNumbers 26 = .ok (.iload_n 3, 1) := by decide +kernel
theorem dX6_readNumbers_27 : decode cX6_readNumbers 27 = .ok (.iaload, 1) := by decide +kernel
theorem dX6_readNumbers_28 : decode cX6_readNumbers 28 = .ok (.invokevirtual 86, 3) := by decide +kernel
theorem dX6_readNumbers_31 : decode cX6_readNumbers 31 = .ok (.aload_n 0, 1) := by decide +kernel
theorem dX6_readNumbers_32 : decode cX6_readNumbers 32 = .ok (.iload_n 3, 1) := by decide +kernel
theorem dX6_readNumbers_33 : decode cX6_readNumbers 33 = .ok (.aload_n 1, 1) := by decide +kernel
theorem dX6_readNumbers_34 : decode cX6_readNumbers 34 = .ok (.arraylength, 1) := by decide +kernel
theorem dX6_readNumbers_35 : decode cX6_readNumbers 35 = .ok (.iconst 1, 1) := by decide +kernel
theorem dX6_readNumbers_36 : decode cX6_readNumbers 36 = .ok (.isub, 1) := by decide +kernel
theorem dX6_readNumbers_37 : decode cX6_readNumbers 37 = .ok (.if_icmp .ne 8, 3) := by decide +kernel
theorem dX6_readNumbers_40 : decode cX6_readNumbers 40 = .ok (.bipush 59, 2) := by decide +kernel
theorem dX6_readNumbers_42 : decode cX6_readNumbers 42 = .ok (.goto 5, 3) := by decide +kernel
theorem dX6_readNumbers_45 : decode cX6_readNumbers 45 = .ok (.bipush 44, 2) := by decide +kernel
theorem dX6_readNumbers_47 : decode cX6_readNumbers 47 = .ok (.invokevirtual 90, 3) := by decide +kernel
theorem dX6_readNumbers_50 : decode cX6_readNumbers 50 = .ok (.iinc 3 1, 3) := by decide +kernel
theorem dX6_readNumbers_53 : decode cX6_readNumbers 53 = .ok (.goto (-51), 3) := by decide +kernel
theorem dX6_readNumbers_56 : decode cX6_readNumbers 56 = .ok (.return_, 1) := by decide +kernel
theorem dX6_readNumber_0 : decode cX6_readNumber 0 = .ok (.aload_n 0, 1) := by decide +kernel
theorem dX6_readNumber_1 : decode cX6_readNumber 1 = .ok (.invokevirtual 94, 3) := by decide +kernel
theorem dX6_readNumber_4 : decode cX6_readNumber 4 = .ok (.istore_n 3, 1) := by decide +kernel
theorem dX6_readNumber_5 : decode cX6_readNumber 5 = .ok (.iload_n 3, 1) := by decide +kernel
theorem dX6_readNumber_6 : decode cX6_readNumber 6 = .ok (.ifCond .eq 8, 3) := by decide +kernel
theorem dX6_readNumber_9 : decode cX6_readNumber 9 = .ok (.iload_n 3, 1) := by decide +kernel
theorem dX6_readNumber_10 : decode cX6_readNumber 10 = .ok (.iconst 2, 1) := by decide +kernel
theorem dX6_readNumber_11 : decode cX6_readNumber 11 = .ok (.if_icmp .le 9, 3) := by decide +kernel
theorem dX6_readNumber_14 : decode cX6_readNumber 14 = .ok (.aload_n 0, 1) := by decide +kernel
theorem dX6_readNumber_15 : decode cX6_readNumber 15 = .ok (.iconst 1, 1) := by decide +kernel
theorem dX6_readNumber_16 : decode cX6_readNumber 16 = .ok (.putfield 21, 3) := by decide +kernel
theorem dX6_readNumber_19 : decode cX6_readNumber 19 = .ok (.return_, 1) := by decide +kernel
theorem dX6_readNumber_20 : decode cX6_readNumber 20 = .ok (.iconst 0, 1) := by decide +kernel
theorem dX6_readNumber_21 : decode cX6_readNumber 21 = .ok (.istore 4, 2) := by decide +kernel
theorem dX6_readNumber_23 : decode cX6_readNumber 23 = .ok (.aload_n 0, 1) := by decide +kernel
theorem dX6_readNumber_24 : decode cX6_readNumber 24 = .ok (.getfield 24, 3) := by decide +kernel
theorem dX6_readNumber_27 : decode cX6_readNumber 27 = .ok (.istore 5, 2) := by decide +kernel
theorem dX6_readNumber_29 : decode cX6_readNumber 29 = .ok (.iload 5, 2) := by decide +kernel
theorem dX6_readNumber_31 : decode cX6_readNumber 31 = .ok (.aload_n 0, 1) := by decide +kernel
theorem dX6_readNumber_32 : decode cX6_readNumber 32 = .ok (.getfield 24, 3) := by decide +kernel
theorem dX6_readNumber_35 : decode cX6_readNumber 35 = .ok (.iload_n 3, 1) := by decide +kernel
theorem dX6_readNumber_36 : decode cX6_readNumber 36 = .ok (.iadd, 1) := by decide +kernel
theorem dX6_readNumber_37 : decode cX6_readNumber 37 = .ok (.if_icmp .ge 27, 3) := by decide +kernel
theorem dX6_readNumber_40 : decode cX6_readNumber 40 = .ok (.bipush 10, 2) := by decide +kernel
theorem dX6_readNumber_42 : decode cX6_readNumber 42 = .ok (.iload 4, 2) := by decide +kernel
theorem dX6_readNumber_44 : decode cX6_readNumber 44 = .ok (.imul, 1) := by decide +kernel
theorem dX6_readNumber_45 : decode cX6_readNumber 45 = .ok (.aload_n 0, 1) := by decide +kernel
theorem dX6_readNumber_46 : decode cX6_readNumber 46 = .ok (.getfield 13, 3) := by decide +kernel
theorem dX6_readNumber_49 : decode cX6_readNumber 49 = .ok (.iload 5, 2) := by decide +kernel
theorem dX6_readNumber_51 : decode cX6_readNumber 51 = .ok (.iaload, 1) := by decide +kernel
theorem dX6_readNumber_52 : decode cX6_readNumber 52 = .ok (.iadd, 1) := by decide +kernel
theorem dX6_readNumber_53 : decode cX6_readNumber 53 = .ok (.bipush 48, 2) := by decide +kernel
theorem dX6_readNumber_55 : decode cX6_readNumber 55 = .ok (.isub, 1) := by decide +kernel
theorem dX6_readNumber_56 : decode cX6_readNumber 56 = .ok (.istore 4, 2) := by decide +kernel
theorem dX6_readNumber_58 : decode cX6_readNumber 58 = .ok (.iinc 5 1, 3) := by decide +kernel
theorem dX6_readNumber_61 : decode cX6_readNumber 61 = .ok (.goto (-32), 3) := by decide +kernel
theorem dX6_readNumber_64 : decode cX6_readNumber 64 = .ok (.iload 4, 2) := by decide +kernel
theorem dX6_readNumber_66 : decode cX6_readNumber 66 = .ok (.iload_n 1, 1) := by decide +kernel
theorem dX6_readNumber_67 : decode cX6_readNumber 67 = .ok (.if_icmp .lt 18, 3) := by decide +kernel
theorem dX6_readNumber_70 : decode cX6_readNumber 70 = .ok (.iload 4, 2) := by decide +kernel
theorem dX6_readNumber_72 : decode cX6_readNumber 72 = .ok (.iload_n 2, 1) := by decide +kernel
theorem dX6_readNumber_73 : decode cX6_readNumber 73 = .ok (.if_icmp .gt 12, 3) := by decide +kernel
theorem dX6_readNumber_76 : decode cX6_readNumber 76 = .ok (.aload_n 0, 1) := by decide +kernel
theorem dX6_readNumber_77 : decode cX6_readNumber 77 = .ok (.getfield 39, 3) := by decide +kernel
theorem dX6_readNumber_80 : decode cX6_readNumber 80 = .ok (.bipush 37, 2) := by decide +kernel
theorem dX6_readNumber_82 : decode cX6_readNumber 82 = .ok (.if_icmp .lt 9, 3) := by decide +kernel
theorem dX6_readNumber_85 : decode cX6_readNumber 85 = .ok (.aload_n 0, 1) := by decide +kernel
theorem dX6_readNumber_86 : decode cX6_readNumber 86 = .ok (.iconst 2, 1) := by decide +kernel
theorem dX6_readNumber_87 : decode cX6_readNumber 87 = .ok (.putfield 21, 3) := by decide +kernel
theorem dX6_readNumber_90 : decode cX6_readNumber 90 = .ok (.return_, 1) := by decide +kernel
theorem dX6_readNumber_91 : decode cX6_readNumber 91 = .ok (.aload_n 0, 1) := by decide +kernel
theorem dX6_readNumber_92 : decode cX6_readNumber 92 = .ok (.getfield 36, 3) := by decide +kernel
theorem dX6_readNumber_95 : decode cX6_readNumber 95 = .ok (.aload_n 0, 1) := by decide +kernel
theorem dX6_readNumber_96 : decode cX6_readNumber 96 = .ok (.getfield 39, 3) := by decide +kernel
theorem dX6_readNumber_99 : decode cX6_readNumber 99 = .ok (.iload 4, 2) := by decide +kernel
theorem dX6_readNumber_101 : decode cX6_readNumber 101 = .ok (.iastore, 1) := by decide +kernel
theorem dX6_readNumber_102 : decode cX6_readNumber 102 = .ok (.aload_n 0, 1) := by decide +kernel
theorem dX6_readNumber_103 : decode cX6_readNumber 103 = .ok (.dup, 1) := by decide +kernel
theorem dX6_readNumber_104 : decode cX6_readNumber 104 = .ok (.getfield 39, 3) := by decide +kernel
theorem dX6_readNumber_107 : decode cX6_readNumber 107 = .ok (.iconst 1, 1) := by decide +kernel
theorem dX6_readNumber_108 : decode cX6_readNumber 108 = .ok (.iadd, 1) := by decide +kernel
theorem dX6_readNumber_109 : decode cX6_readNumber 109 = .ok (.putfield 39, 3) := by decide +kernel
theorem dX6_readNumber_112 : decode cX6_readNumber 112 = .ok (.aload_n 0, 1) := by decide +kernel
theorem dX6_readNumber_113 : decode cX6_readNumber 113 = .ok (.dup, 1) := by decide +kernel
theorem dX6_readNumber_114 : decode cX6_readNumber 114 = .ok (.getfield 24, 3) := by decide +kernel
theorem dX6_readNumber_117 : decode cX6_readNumber 117 = .ok (.iload_n 3, 1) := by decide +kernel
theorem dX6_readNumber_118 : decode cX6_readNumber 118 = .ok (.iadd, 1) := by decide +kernel
theorem dX6_readNumber_119 : decode cX6_readNumber 119 = .ok (.putfield 24, 3) := by decide +kernel
theorem dX6_readNumber_122 : decode cX6_readNumber 122 = .ok (.return_, 1) := by decide +kernel
theorem dX6_figuresHere_0 : decode cX6_figuresHere 0 = .ok (.iconst 0, 1) := by decide +kernel
theorem dX6_figuresHere_1 : decode cX6_figuresHere 1 = .ok (.istore_n 1, 1) := by decide +kernel
theorem dX6_figuresHere_2 : decode cX6_figuresHere 2 = .ok (.aload_n 0, 1) := by decide +kernel
theorem dX6_figuresHere_3 : decode cX6_figuresHere 3 = .ok (.getfield 24, 3) := by decide +kernel
theorem dX6_figuresHere_6 : decode cX6_figuresHere 6 = .ok (.istore_n 2, 1) := by decide +kernel
theorem dX6_figuresHere_7 : decode cX6_figuresHere 7 = .ok (.iload_n 2, 1) := by decide +kernel
theorem dX6_figuresHere_8 : decode cX6_figuresHere 8 = .ok (.aload_n 0, 1) := by decide +kernel
theorem dX6_figuresHere_9 : decode cX6_figuresHere 9 = .ok (.getfield 17, 3) := by decide +kernel
theorem dX6_figuresHere_12 : decode cX6_figuresHere 12 = .ok (.if_icmp .ge 34, 3) := by decide +kernel
theorem dX6_figuresHere_15 : decode cX6_figuresHere 15 = .ok (.aload_n 0, 1) := by decide +kernel
theorem dX6_figuresHere_16 : decode cX6_figuresHere 16 = .ok (.getfield 13, 3) := by decide +kernel
theorem dX6_figuresHere_19 : decode cX6_figuresHere 19 = .ok (.iload_n 2, 1) := by decide +kernel
theorem dX6_figuresHere_20 : decode cX6_figuresHere 20 = .ok (.iaload, 1) := by decide +kernel
theorem dX6_figuresHere_21 : decode cX6_figuresHere 21 = .ok (.bipush 48, 2) := by decide +kernel
theorem dX6_figuresHere_23 : decode cX6_figuresHere 23 = .ok (.if_icmp .lt 23, 3) := by decide +kernel
theorem dX6_figuresHere_26 : decode cX6_figuresHere 26 = .ok (.aload_n 0, 1) := by decide +kernel
theorem dX6_figuresHere_27 : decode cX6_figuresHere 27 = .ok (.getfield 13, 3) := by decide +kernel
theorem dX6_figuresHere_30 : decode cX6_figuresHere 30 = .ok (.iload_n 2, 1) := by decide +kernel
theorem dX6_figuresHere_31 : decode cX6_figuresHere 31 = .ok (.iaload, 1) := by decide +kernel
theorem dX6_figuresHere_32 : decode cX6_figuresHere 32 = .ok (.bipush 57, 2) := by decide +kernel
theorem dX6_figuresHere_34 : decode cX6_figuresHere 34 = .ok (.if_icmp .gt 12, 3) := by decide +kernel
theorem dX6_figuresHere_37 : decode cX6_figuresHere 37 = .ok (.iinc 1 1, 3) := by decide +kernel
theorem dX6_figuresHere_40 : decode cX6_figuresHere 40 = .ok (.iinc 2 1, 3) := by decide +kernel
theorem dX6_figuresHere_43 : decode cX6_figuresHere 43 = .ok (.goto (-36), 3) := by decide +kernel
theorem dX6_figuresHere_46 : decode cX6_figuresHere 46 = .ok (.iload_n 1, 1) := by decide +kernel
theorem dX6_figuresHere_47 : decode cX6_figuresHere 47 = .ok (.ireturn, 1) := by decide +kernel
theorem dX6_readSign_0 : decode cX6_readSign 0 = .ok (.aload_n 0, 1) := by decide +kernel
theorem dX6_readSign_1 : decode cX6_readSign 1 = .ok (.getfield 21, 3) := by decide +kernel
theorem dX6_readSign_4 : decode cX6_readSign 4 = .ok (.ifCond .eq 4, 3) := by decide +kernel
theorem dX6_readSign_7 : decode cX6_readSign 7 = .ok (.return_, 1) := by decide +kernel
theorem dX6_readSign_8 : decode cX6_readSign 8 = .ok (.aload_n 0, 1) := by decide +kernel
theorem dX6_readSign_9 : decode cX6_readSign 9 = .ok (.invokevirtual 47, 3) := by decide +kernel
theorem dX6_readSign_12 : decode cX6_readSign 12 = .ok (.iload_n 1, 1) := by decide +kernel
theorem dX6_readSign_13 : decode cX6_readSign 13 = .ok (.if_icmp .eq 9, 3) := by decide +kernel
theorem dX6_readSign_16 : decode cX6_readSign 16 = .ok (.aload_n 0, 1) := by decide +kernel
theorem dX6_readSign_17 : decode cX6_readSign 17 = .ok (.iconst 1, 1) := by decide +kernel
theorem dX6_readSign_18 : decode cX6_readSign 18 = .ok (.putfield 21, 3) := by decide +kernel
theorem dX6_readSign_21 : decode cX6_readSign 21 = .ok (.return_, 1) := by decide +kernel
theorem dX6_readSign_22 : decode cX6_readSign 22 = .ok (.aload_n 0, 1) := by decide +kernel
theorem dX6_readSign_23 : decode cX6_readSign 23 = .ok (.dup, 1) := by decide +kernel
theorem dX6_readSign_24 : decode cX6_readSign 24 = .ok (.getfield 24, 3) := by decide +kernel
theorem dX6_readSign_27 : decode cX6_readSign 27 = .ok (.iconst 1, 1) := by decide +kernel
theorem dX6_readSign_28 : decode cX6_readSign 28 = .ok (.iadd, 1) := by decide +kernel
theorem dX6_readSign_29 : decode cX6_readSign 29 = .ok (.putfield 24, 3) := by decide +kernel
theorem dX6_readSign_32 : decode cX6_readSign 32 = .ok (.return_, 1) := by decide +kernel
theorem dX6_toldWool_0 : decode cX6_toldWool 0 = .ok (.aload_n 0, 1) := by decide +kernel
theorem dX6_toldWool_1 : decode cX6_toldWool 1 = .ok (.getfield 36, 3) := by decide +kernel
theorem dX6_toldWool_4 : decode cX6_toldWool 4 = .ok (.iconst 0, 1) := by decide +kernel
theorem dX6_toldWool_5 : decode cX6_toldWool 5 = .ok (.iaload, 1) := by decide +kernel
theorem dX6_toldWool_6 : decode cX6_toldWool 6 = .ok (.ireturn, 1) := by decide +kernel
theorem dX6_toldOfEar_0 : decode cX6_toldOfEar 0 = .ok (.aload_n 0, 1) := by decide +kernel
theorem dX6_toldOfEar_1 : decode cX6_toldOfEar 1 = .ok (.getfield 36, 3) := by decide +kernel
theorem dX6_toldOfEar_4 : decode cX6_toldOfEar 4 = .ok (.iconst 1, 1) := by decide +kernel
theorem dX6_toldOfEar_5 : decode cX6_toldOfEar 5 = .ok (.iconst 4, 1) := by decide +kernel
theorem dX6_toldOfEar_6 : decode cX6_toldOfEar 6 = .ok (.iload_n 1, 1) := by decide +kernel
theorem dX6_toldOfEar_7 : decode cX6_toldOfEar 7 = .ok (.imul, 1) := by decide +kernel
theorem dX6_toldOfEar_8 : decode cX6_toldOfEar 8 = .ok (.iadd, 1) := by decide +kernel
theorem dX6_toldOfEar_9 : decode cX6_toldOfEar 9 = .ok (.iload_n 2, 1) := by decide +kernel
theorem dX6_toldOfEar_10 : decode cX6_toldOfEar 10 = .ok (.iadd, 1) := by decide +kernel
theorem dX6_toldOfEar_11 : decode cX6_toldOfEar 11 = .ok (.iaload, 1) := by decide +kernel
theorem dX6_toldOfEar_12 : decode cX6_toldOfEar 12 = .ok (.ireturn, 1) := by decide +kernel
theorem dX6_toldOfDoing_0 : decode cX6_toldOfDoing 0 = .ok (.aload_n 0, 1) := by decide +kernel
theorem dX6_toldOfDoing_1 : decode cX6_toldOfDoing 1 = .ok (.getfield 36, 3) := by decide +kernel
theorem dX6_toldOfDoing_4 : decode cX6_toldOfDoing 4 = .ok (.iconst 1, 1) := by decide +kernel
theorem dX6_toldOfDoing_5 : decode cX6_toldOfDoing 5 = .ok (.iconst 4, 1) := by decide +kernel
theorem dX6_toldOfDoing_6 : decode cX6_toldOfDoing 6 = .ok (.aload_n 0, 1) := by decide +kernel
theorem dX6_toldOfDoing_7 : decode cX6_toldOfDoing 7 = .ok (.getfield 30, 3) := by decide +kernel
theorem dX6_toldOfDoing_10 : decode cX6_toldOfDoing 10 = .ok (.imul, 1) := by decide +kernel
theorem dX6_toldOfDoing_11 : decode cX6_toldOfDoing 11 = .ok (.iadd, 1) := by decide +kernel
theorem dX6_toldOfDoing_12 : decode cX6_toldOfDoing 12 = .ok (.iconst 3, 1) := by decide +kernel
theorem dX6_toldOfDoing_13 : decode cX6_toldOfDoing 13 = .ok (.iload_n 1, 1) := by decide +kernel
theorem dX6_toldOfDoing_14 : decode cX6_toldOfDoing 14 = .ok (.imul, 1) := by decide +kernel
theorem dX6_toldOfDoing_15 : decode cX6_toldOfDoing 15 = .ok (.iadd, 1) := by decide +kernel
theorem dX6_toldOfDoing_16 : decode cX6_toldOfDoing 16 = .ok (.iload_n 2, 1) := by decide +kernel
theorem dX6_toldOfDoing_17 : decode cX6_toldOfDoing 17 = .ok (.iadd, 1) := by decide +kernel
theorem dX6_toldOfDoing_18 : decode cX6_toldOfDoing 18 = .ok (.iaload, 1) := by decide +kernel
theorem dX6_toldOfDoing_19 : decode cX6_toldOfDoing 19 = .ok (.ireturn, 1) := by decide +kernel
end
section
theorem dX7_init_0 : decode cX7_init 0 = .ok (.aload_n 0, 1) := by decide +kernel
theorem dX7_init_1 : decode cX7_init 1 = .ok (.invokespecial 1, 3) := by decide +kernel
theorem dX7_init_4 : decode cX7_init 4 = .ok (.aload_n 0, 1) := by decide +kernel
theorem dX7_init_5 : decode cX7_init 5 = .ok (.new 7, 3) := by decide +kernel
theorem dX7_init_8 : decode cX7_init 8 = .ok (.dup, 1) := by decide +kernel
theorem dX7_init_9 : decode cX7_init 9 = .ok (.invokespecial 9, 3) := by decide +kernel
theorem dX7_init_12 : decode cX7_init 12 = .ok (.putfield 10, 3) := by decide +kernel
theorem dX7_init_15 : decode cX7_init 15 = .ok (.aload_n 0, 1) := by decide +kernel
theorem dX7_init_16 : decode cX7_init 16 = .ok (.new 16, 3) := by decide +kernel
theorem dX7_init_19 : decode cX7_init 19 = .ok (.dup, 1) := by decide +kernel
theorem dX7_init_20 : decode cX7_init 20 = .ok (.invokespecial 18, 3) := by decide +kernel
theorem dX7_init_23 : decode cX7_init 23 = .ok (.putfield 19, 3) := by decide +kernel
theorem dX7_init_26 : decode cX7_init 26 = .ok (.aload_n 0, 1) := by decide +kernel
theorem dX7_init_27 : decode cX7_init 27 = .ok (.new 23, 3) := by decide +kernel
theorem dX7_init_30 : decode cX7_init 30 = .ok (.dup, 1) := by decide +kernel
theorem dX7_init_31 : decode cX7_init 31 = .ok (.invokespecial 25, 3) := by decide +kernel
theorem dX7_init_34 : decode cX7_init 34 = .ok (.putfield 26, 3) := by decide +kernel
theorem dX7_init_37 : decode cX7_init 37 = .ok (.aload_n 0, 1) := by decide +kernel
theorem dX7_init_38 : decode cX7_init 38 = .ok (.new 23, 3) := by decide +kernel
theorem dX7_init_41 : decode cX7_init 41 = .ok (.dup, 1) := by decide +kernel
theorem dX7_init_42 : decode cX7_init 42 = .ok (.invokespecial 25, 3) := by decide +kernel
theorem dX7_init_45 : decode cX7_init 45 = .ok (.putfield 30, 3) := by decide +kernel
theorem dX7_init_48 : decode cX7_init 48 = .ok (.aload_n 0, 1) := by decide +kernel
theorem dX7_init_49 : decode cX7_init 49 = .ok (.new 23, 3) := by decide +kernel
theorem dX7_init_52 : decode cX7_init 52 = .ok (.dup, 1) := by decide +kernel
theorem dX7_init_53 : decode cX7_init 53 = .ok (.invokespecial 25, 3) := by decide +kernel
theorem dX7_init_56 : decode cX7_init 56 = .ok (.putfield 33, 3) := by decide +kernel
theorem dX7_init_59 : decode cX7_init 59 = .ok (.aload_n 0, 1) := by decide +kernel
theorem dX7_init_60 : decode cX7_init 60 = .ok (.new 36, 3) := by decide +kernel
theorem dX7_init_63 : decode cX7_init 63 = .ok (.dup, 1) := by decide +kernel
theorem dX7_init_64 : decode cX7_init 64 = .ok (.invokespecial 38, 3) := by decide +kernel
theorem dX7_init_67 : decode cX7_init 67 = .ok (.putfield 39, 3) := by decide +kernel
theorem dX7_init_70 : decode cX7_init 70 = .ok (.aload_n 0, 1) := by decide +kernel
theorem dX7_init_71 : decode cX7_init 71 = .ok (.new 43, 3) := by decide +kernel
theorem dX7_init_74 : decode cX7_init 74 = .ok (.dup, 1) := by decide +kernel
theorem dX7_init_75 : decode cX7_init 75 = .ok (.invokespecial 45, 3) := by decide +kernel
theorem dX7_init_78 : decode cX7_init 78 = .ok (.putfield 46, 3) := by decide +kernel
theorem dX7_init_81 : decode cX7_init 81 = .ok (.aload_n 0, 1) := by decide +kernel
theorem dX7_init_82 : decode cX7_init 82 = .ok (.iconst 0, 1) := by decide +kernel
theorem dX7_init_83 : decode cX7_init 83 = .ok (.putfield 50, 3) := by decide +kernel
theorem dX7_init_86 : decode cX7_init 86 = .ok (.aload_n 0, 1) := by decide +kernel
theorem dX7_init_87 : decode cX7_init 87 = .ok (.iconst 0, 1) := by decide +kernel
theorem dX7_init_88 : decode cX7_init 88 = .ok (.putfield 54, 3) := by decide +kernel
theorem dX7_init_91 : decode cX7_init 91 = .ok (.return_, 1) := by decide +kernel
theorem dX7_row_0 : decode cX7_row 0 = .ok (.iload_n 1, 1) := by decide +kernel
theorem dX7_row_1 : decode cX7_row 1 = .ok (.invokestatic 57, 3) := by decide +kernel
theorem dX7_row_4 : decode cX7_row 4 = .ok (.ifCond .eq 16, 3) := by decide +kernel
theorem dX7_row_7 : decode cX7_row 7 = .ok (.iload_n 2, 1) := by decide +kernel
theorem dX7_row_8 : decode cX7_row 8 = .ok (.invokestatic 61, 3) := by decide +kernel
theorem dX7_row_11 : decode cX7_row 11 = .ok (.ifCond .eq 9, 3) := by decide +kernel
theorem dX7_row_14 : decode cX7_row 14 = .ok (.iload_n 3, 1) := by decide +kernel
theorem dX7_row_15 : decode cX7_row 15 = .ok (.bipush 40, 2) := by decide +kernel
theorem dX7_row_17 : decode cX7_row 17 = .ok (.if_icmp .le 6, 3) := by decide +kernel
theorem dX7_row_20 : decode cX7_row 20 = .ok (.ldc 64, 2) := by decide +kernel
theorem dX7_row_22 : decode cX7_row 22 = .ok (.ireturn, 1) := by decide +kernel
theorem dX7_row_23 : decode cX7_row 23 = .ok (.iload_n 3, 1) := by decide +kernel
theorem dX7_row_24 : decode cX7_row 24 = .ok (.ifCond .ge 9, 3) := by decide +kernel
theorem dX7_row_27 : decode cX7_row 27 = .ok (.aload_n 0, 1) := by decide +kernel
theorem dX7_row_28 : decode cX7_row 28 = .ok (.iconst 4, 1) := by decide +kernel
theorem dX7_row_29 : decode cX7_row 29 = .ok (.invokevirtual 65, 3) := by decide +kernel
theorem dX7_row_32 : decode cX7_row 32 = .ok (.ireturn, 1) := by decide +kernel
theorem dX7_row_33 : decode cX7_row 33 = .ok (.aload_n 0, 1) := by decide +kernel
theorem dX7_row_34 : decode cX7_row 34 = .ok (.getfield 10, 3) := by decide +kernel
theorem dX7_row_37 : decode cX7_row 37 = .ok (.iload_n 1, 1) := by decide +kernel
theorem dX7_row_38 : decode cX7_row 38 = .ok (.iload_n 2, 1) := by decide +kernel
theorem dX7_row_39 : decode cX7_row 39 = .ok (.iload_n 3, 1) := by decide +kernel
theorem dX7_row_40 : decode cX7_row 40 = .ok (.invokevirtual 69, 3) := by decide +kernel
theorem dX7_row_43 : decode cX7_row 43 = .ok (.aload_n 0, 1) := by decide +kernel
theorem dX7_row_44 : decode cX7_row 44 = .ok (.iload_n 3, 1) := by decide +kernel
theorem dX7_row_45 : decode cX7_row 45 = .ok (.invokevirtual 73, 3) := by decide +kernel
theorem dX7_row_48 : decode cX7_row 48 = .ok (.ireturn, 1) := by decide +kernel
theorem dX7_set_0 : decode cX7_set 0 = .ok (.iload_n 1, 1) := by decide +kernel
theorem dX7_set_1 : decode cX7_set 1 = .ok (.invokestatic 57, 3) := by decide +kernel
theorem dX7_set_4 : decode cX7_set 4 = .ok (.ifCond .ne 6, 3) := by decide +kernel
theorem dX7_set_7 : decode cX7_set 7 = .ok (.ldc 64, 2) := by decide +kernel
theorem dX7_set_9 : decode cX7_set 9 = .ok (.ireturn, 1) := by decide +kernel
theorem dX7_set_10 : decode cX7_set 10 = .ok (.aload_n 0, 1) := by decide +kernel
theorem dX7_set_11 : decode cX7_set 11 = .ok (.getfield 10, 3) := by decide +kernel
theorem dX7_set_14 : decode cX7_set 14 = .ok (.iload_n 1, 1) := by decide +kernel
theorem dX7_set_15 : decode cX7_set 15 = .ok (.iload_n 2, 1) := by decide +kernel
theorem dX7_set_16 : decode cX7_set 16 = .ok (.iconst 1, 1) := by decide +kernel
theorem dX7_set_17 : decode cX7_set 17 = .ok (.invokevirtual 76, 3) := by decide +kernel
theorem dX7_set_20 : decode cX7_set 20 = .ok (.istore 4, 2) := by decide +kernel
theorem dX7_set_22 : decode cX7_set 22 = .ok (.iload 4, 2) := by decide +kernel
theorem dX7_set_24 : decode cX7_set 24 = .ok (.ifCond .eq 10, 3) := by decide +kernel
theorem dX7_set_27 : decode cX7_set 27 = .ok (.aload_n 0, 1) := by decide +kernel
theorem dX7_set_28 : decode cX7_set 28 = .ok (.iload 4, 2) := by decide +kernel
theorem dX7_set_30 : decode cX7_set 30 = .ok (.invokevirtual 65, 3) := by decide +kernel
theorem dX7_set_33 : decode cX7_set 33 = .ok (.ireturn, 1) := by decide +kernel
theorem dX7_set_34 : decode cX7_set 34 = .ok (.aload_n 0, 1) := by decide +kernel
theorem dX7_set_35 : decode cX7_set 35 = .ok (.aload_n 0, 1) := by decide +kernel
theorem dX7_set_36 : decode cX7_set 36 = .ok (.getfield 10, 3) := by decide +kernel
theorem dX7_set_39 : decode cX7_set 39 = .ok (.iload_n 1, 1) := by decide +kernel
theorem dX7_set_40 : decode cX7_set 40 = .ok (.iload_n 2, 1) := by decide +kernel
theorem dX7_set_41 : decode cX7_set 41 = .ok (.iload_n 3, 1) := by decide +kernel
theorem dX7_set_42 : decode cX7_set 42 = .ok (.invokevirtual 80, 3) := by decide +kernel
theorem dX7_set_45 : decode cX7_set 45 = .ok (.invokevirtual 73, 3) := by decide +kernel
theorem dX7_set_48 : decode cX7_set 48 = .ok (.ireturn, 1) := by decide +kernel
theorem dX7_copy_0 : decode cX7_copy 0 = .ok (.iload_n 1, 1) := by decide +kernel
theorem dX7_copy_1 : decode cX7_copy 1 = .ok (.invokestatic 57, 3) := by decide +kernel
theorem dX7_copy_4 : decode cX7_copy 4 = .ok (.ifCond .eq 10, 3) := by decide +kernel
theorem dX7_copy_7 : decode cX7_copy 7 = .ok (.iload_n 3, 1) := by decide +kernel
theorem dX7_copy_8 : decode cX7_copy 8 = .ok (.invokestatic 57, 3) := by decide +kernel
theorem dX7_copy_11 : decode cX7_copy 11 = .ok (.ifCond .ne 6, 3) := by decide +kernel
theorem dX7_copy_14 : decode cX7_copy 14 = .ok (.ldc 64, 2) := by decide +kernel
theorem dX7_copy_16 : decode cX7_copy 16 = .ok (.ireturn, 1) := by decide +kernel
theorem dX7_copy_17 : decode cX7_copy 17 = .ok (.aload_n 0, 1) := by decide +kernel
theorem dX7_copy_18 : decode cX7_copy 18 = .ok (.getfield 10, 3) := by decide +kernel
theorem dX7_copy_21 : decode cX7_copy 21 = .ok (.iload_n 1, 1) := by decide +kernel
theorem dX7_copy_22 : decode cX7_copy 22 = .ok (.iload_n 2, 1) := by decide +kernel
theorem dX7_copy_23 : decode cX7_copy 23 = .ok (.iload_n 3, 1) := by decide +kernel
theorem dX7_copy_24 : decode cX7_copy 24 = .ok (.iload 4, 2) := by decide +kernel
theorem dX7_copy_26 : decode cX7_copy 26 = .ok (.iload 5, 2) := by decide +kernel
theorem dX7_copy_28 : decode cX7_copy 28 = .ok (.invokevirtual 83, 3) := by decide +kernel
theorem dX7_copy_31 : decode cX7_copy 31 = .ok (.istore 6, 2) := by decide +kernel
theorem dX7_copy_33 : decode cX7_copy 33 = .ok (.iload 6, 2) := by decide +kernel
theorem dX7_copy_35 : decode cX7_copy 35 = .ok (.ifCond .eq 10, 3) := by decide +kernel
theorem dX7_copy_38 : decode cX7_copy 38 = .ok (.aload_n 0, 1) := by decide +kernel
theorem dX7_copy_39 : decode cX7_copy 39 = .ok (.iload 6, 2) := by decide +kernel
theorem dX7_copy_41 : decode cX7_copy 41 = .ok (.invokevirtual 65, 3) := by decide +kernel
theorem dX7_copy_44 : decode cX7_copy 44 = .ok (.ireturn, 1) := by decide +kernel
theorem dX7_copy_45 : decode cX7_copy 45 = .ok (.aload_n 0, 1) := by decide +kernel
theorem dX7_copy_46 : decode cX7_copy 46 = .ok (.getfield 10, 3) := by decide +kernel
theorem dX7_copy_49 : decode cX7_copy 49 = .ok (.iload_n 1, 1) := by decide +kernel
theorem dX7_copy_50 : decode cX7_copy 50 = .ok (.iload_n 2, 1) := by decide +kernel
theorem dX7_copy_51 : decode cX7_copy 51 = .ok (.iload_n 3, 1) := by decide +kernel
theorem dX7_copy_52 : decode cX7_copy 52 = .ok (.iload 4, 2) := by decide +kernel
theorem dX7_copy_54 : decode cX7_copy 54 = .ok (.iload 5, 2) := by decide +kernel
theorem dX7_copy_56 : decode cX7_copy 56 = .ok (.invokevirtual 87, 3) := by decide +kernel
theorem dX7_copy_59 : decode cX7_copy 59 = .ok (.aload_n 0, 1) := by decide +kernel
theorem dX7_copy_60 : decode cX7_copy 60 = .ok (.iload 5, 2) := by decide +kernel
theorem dX7_copy_62 : decode cX7_copy 62 = .ok (.invokevirtual 73, 3) := by decide +kernel
theorem dX7_copy_65 : decode cX7_copy 65 = .ok (.ireturn, 1) := by decide +kernel
theorem dX7_drop_0 : decode cX7_drop 0 = .ok (.iload_n 1, 1) := by decide +kernel
theorem dX7_drop_1 : decode cX7_drop 1 = .ok (.invokestatic 57, 3) := by decide +kernel
theorem dX7_drop_4 : decode cX7_drop 4 = .ok (.ifCond .ne 6, 3) := by decide +kernel
theorem dX7_drop_7 : decode cX7_drop 7 = .ok (.ldc 64, 2) := by decide +kernel
theorem dX7_drop_9 : decode cX7_drop 9 = .ok (.ireturn, 1) := by decide +kernel
theorem dX7_drop_10 : decode cX7_drop 10 = .ok (.aload_n 0, 1) := by decide +kernel
theorem dX7_drop_11 : decode cX7_drop 11 = .ok (.getfield 10, 3) := by decide +kernel
theorem dX7_drop_14 : decode cX7_drop 14 = .ok (.iload_n 1, 1) := by decide +kernel
theorem dX7_drop_15 : decode cX7_drop 15 = .ok (.invokevirtual 91, 3) := by decide +kernel
theorem dX7_drop_18 : decode cX7_drop 18 = .ok (.ifCond .eq 9, 3) := by decide +kernel
theorem dX7_drop_21 : decode cX7_drop 21 = .ok (.aload_n 0, 1) := by decide +kernel
theorem dX7_drop_22 : decode cX7_drop 22 = .ok (.iconst 1, 1) := by decide +kernel
theorem dX7_drop_23 : decode cX7_drop 23 = .ok (.invokevirtual 65, 3) := by decide +kernel
theorem dX7_drop_26 : decode cX7_drop 26 = .ok (.ireturn, 1) := by decide +kernel
theorem dX7_drop_27 : decode cX7_drop 27 = .ok (.aload_n 0, 1) := by decide +kernel
theorem dX7_drop_28 : decode cX7_drop 28 = .ok (.aload_n 0, 1) := by decide +kernel
theorem dX7_drop_29 : decode cX7_drop 29 = .ok (.getfield 10, 3) := by decide +kernel
theorem dX7_drop_32 : decode cX7_drop 32 = .ok (.iload_n 1, 1) := by decide +kernel
theorem dX7_drop_33 : decode cX7_drop 33 = .ok (.invokevirtual 94, 3) := by decide +kernel
theorem dX7_drop_36 : decode cX7_drop 36 = .ok (.invokevirtual 73, 3) := by decide +kernel
theorem dX7_drop_39 : decode cX7_drop 39 = .ok (.ireturn, 1) := by decide +kernel
theorem dX7_feed_0 : decode cX7_feed 0 = .ok (.iload_n 1, 1) := by decide +kernel
theorem dX7_feed_1 : decode cX7_feed 1 = .ok (.iconst 0, 1) := by decide +kernel
theorem dX7_feed_2 : decode cX7_feed 2 = .ok (.sipush 255, 3) := by decide +kernel
theorem dX7_feed_5 : decode cX7_feed 5 = .ok (.invokestatic 97, 3) := by decide +kernel
theorem dX7_feed_8 : decode cX7_feed 8 = .ok (.ifCond .ne 6, 3) := by decide +kernel
theorem dX7_feed_11 : decode cX7_feed 11 = .ok (.ldc 64, 2) := by decide +kernel
theorem dX7_feed_13 : decode cX7_feed 13 = .ok (.ireturn, 1) := by decide +kernel
theorem dX7_feed_14 : decode cX7_feed 14 = .ok (.aload_n 0, 1) := by decide +kernel
theorem dX7_feed_15 : decode cX7_feed 15 = .ok (.getfield 19, 3) := by decide +kernel
theorem dX7_feed_18 : decode cX7_feed 18 = .ok (.iload_n 1, 1) := by decide +kernel
theorem dX7_feed_19 : decode cX7_feed 19 = .ok (.invokevirtual 101, 3) := by decide +kernel
theorem dX7_feed_22 : decode cX7_feed 22 = .ok (.ireturn, 1) := by decide +kernel
theorem dX7_house_0 : decode cX7_house 0 = .ok (.aload_n 0, 1) := by decide +kernel
theorem dX7_house_1 : decode cX7_house 1 = .ok (.getfield 19, 3) := by decide +kernel
theorem dX7_house_4 : decode cX7_house 4 = .ok (.invokevirtual 104, 3) := by decide +kernel
theorem dX7_house_7 : decode cX7_house 7 = .ok (.istore_n 1, 1) := by decide +kernel
theorem dX7_house_8 : decode cX7_house 8 = .ok (.iload_n 1, 1) := by decide +kernel
theorem dX7_house_9 : decode cX7_house 9 = .ok (.ldc 108, 2) := by decide +kernel
theorem dX7_house_11 : decode cX7_house 11 = .ok (.if_icmp .eq 19, 3) := by decide +kernel
theorem dX7_house_14 : decode cX7_house 14 = .ok (.aload_n 0, 1) := by decide +kernel
theorem dX7_house_15 : decode cX7_house 15 = .ok (.aload_n 0, 1) := by decide +kernel
theorem dX7_house_16 : decode cX7_house 16 = .ok (.getfield 19, 3) := by decide +kernel
theorem dX7_house_19 : decode cX7_house 19 = .ok (.getfield 109, 3) := by decide +kernel
theorem dX7_house_22 : decode cX7_house 22 = .ok (.putfield 50, 3) := by decide +kernel
theorem dX7_house_25 : decode cX7_house 25 = .ok (.ldc 112, 2) := by decide +kernel
theorem dX7_house_27 : decode cX7_house 27 = .ok (.iload_n 1, 1) := by decide +kernel
theorem dX7_house_28 : decode cX7_house 28 = .ok (.isub, 1) := by decide +kernel
theorem dX7_house_29 : decode cX7_house 29 = .ok (.ireturn, 1) := by decide +kernel
theorem dX7_house_30 : decode cX7_house 30 = .ok (.aload_n 0, 1) := by decide +kernel
theorem dX7_house_31 : decode cX7_house 31 = .ok (.getfield 26, 3) := by decide +kernel
theorem dX7_house_34 : decode cX7_house 34 = .ok (.aload_n 0, 1) := by decide +kernel
theorem dX7_house_35 : decode cX7_house 35 = .ok (.getfield 19, 3) := by decide +kernel
theorem dX7_house_38 : decode cX7_house 38 = .ok (.invokevirtual 113, 3) := by decide +kernel
theorem dX7_house_41 : decode cX7_house 41 = .ok (.aload_n 0, 1) := by decide +kernel
theorem dX7_house_42 : decode cX7_house 42 = .ok (.getfield 39, 3) := by decide +kernel
theorem dX7_house_45 : decode cX7_house 45 = .ok (.invokevirtual 117, 3) := by decide +kernel
theorem dX7_house_48 : decode cX7_house 48 = .ok (.aload_n 0, 1) := by decide +kernel
theorem dX7_house_49 : decode cX7_house 49 = .ok (.getfield 26, 3) := by decide +kernel
theorem dX7_house_52 : decode cX7_house 52 = .ok (.getfield 120, 3) := by decide +kernel
theorem dX7_house_55 : decode cX7_house 55 = .ok (.ireturn, 1) := by decide +kernel
theorem dX7_fault_0 : decode cX7_fault 0 = .ok (.aload_n 0, 1) := by decide +kernel
theorem dX7_fault_1 : decode cX7_fault 1 = .ok (.getfield 50, 3) := by decide +kernel
theorem dX7_fault_4 : decode cX7_fault 4 = .ok (.ireturn, 1) := by decide +kernel
theorem dX7_quarters_0 : decode cX7_quarters 0 = .ok (.aload_n 0, 1) := by decide +kernel
theorem dX7_quarters_1 : decode cX7_quarters 1 = .ok (.getfield 26, 3) := by decide +kernel
theorem dX7_quarters_4 : decode cX7_quarters 4 = .ok (.getfield 123, 3) := by decide +kernel
theorem dX7_quarters_7 : decode cX7_quarters 7 = .ok (.ifCond .ne 6, 3) := by decide +kernel
theorem dX7_quarters_10 : decode cX7_quarters 10 = .ok (.ldc 127, 2) := by decide +kernel
theorem dX7_quarters_12 : decode cX7_quarters 12 = .ok (.ireturn, 1) := by decide +kernel
theorem dX7_quarters_13 : decode cX7_quarters 13 = .ok (.iload_n 1, 1) := by decide +kernel
theorem dX7_quarters_14 : decode cX7_quarters 14 = .ok (.iconst 1, 1) := by decide +kernel
theorem dX7_quarters_15 : decode cX7_quarters 15 = .ok (.bipush 20, 2) := by decide +kernel
theorem dX7_quarters_17 : decode cX7_quarters 17 = .ok (.invokestatic 97, 3) := by decide +kernel
theorem dX7_quarters_20 : decode cX7_quarters 20 = .ok (.ifCond .ne 6, 3) := by decide +kernel
theorem dX7_quarters_23 : decode cX7_quarters 23 = .ok (.ldc 64, 2) := by decide +kernel
theorem dX7_quarters_25 : decode cX7_quarters 25 = .ok (.ireturn, 1) := by decide +kernel
theorem dX7_quarters_26 : decode cX7_quarters 26 = .ok (.aload_n 0, 1) := by decide +kernel
theorem dX7_quarters_27 : decode cX7_quarters 27 = .ok (.getfield 26, 3) := by decide +kernel
theorem dX7_quarters_30 : decode cX7_quarters 30 = .ok (.getfield 128, 3) := by decide +kernel
theorem dX7_quarters_33 : decode cX7_quarters 33 = .ok (.iload_n 1, 1) := by decide +kernel
theorem dX7_quarters_34 : decode cX7_quarters 34 = .ok (.iadd, 1) := by decide +kernel
theorem dX7_quarters_35 : decode cX7_quarters 35 = .ok (.sipush 999, 3) := by decide +kernel
theorem dX7_quarters_38 : decode cX7_quarters 38 = .ok (.if_icmp .le 6, 3) := by decide +kernel
theorem dX7_quarters_41 : decode cX7_quarters 41 = .ok (.ldc 131, 2) := by decide +kernel
theorem dX7_quarters_43 : decode cX7_quarters 43 = .ok (.ireturn, 1) := by decide +kernel
theorem dX7_quarters_44 : decode cX7_quarters 44 = .ok (.iconst 0, 1) := by decide +kernel
theorem dX7_quarters_45 : decode cX7_quarters 45 = .ok (.istore_n 2, 1) := by decide +kernel
theorem dX7_quarters_46 : decode cX7_quarters 46 = .ok (.iload_n 2, 1) := by decide +kernel
theorem dX7_quarters_47 : decode cX7_quarters 47 = .ok (.iload_n 1, 1) := by decide +kernel
theorem dX7_quarters_48 : decode cX7_quarters 48 = .ok (.if_icmp .ge 26, 3) := by decide +kernel
theorem dX7_quarters_51 : decode cX7_quarters 51 = .ok (.aload_n 0, 1) := by decide +kernel
theorem dX7_quarters_52 : decode cX7_quarters 52 = .ok (.getfield 26, 3) := by decide +kernel
theorem dX7_quarters_55 : decode cX7_quarters 55 = .ok (.invokevirtual 132, 3) := by decide +kernel
theorem dX7_quarters_58 : decode cX7_quarters 58 = .ok (.aload_n 0, 1) := by decide +kernel
theorem dX7_quarters_59 : decode cX7_quarters 59 = .ok (.getfield 39, 3) := by decide +kernel
theorem dX7_quarters_62 : decode cX7_quarters 62 = .ok (.iconst 0, 1) := by decide +kernel
theorem dX7_quarters_63 : decode cX7_quarters 63 = .ok (.iconst 0, 1) := by decide +kernel
theorem dX7_quarters_64 : decode cX7_quarters 64 = .ok (.iconst 0, 1) := by decide +kernel
theorem dX7_quarters_65 : decode cX7_quarters 65 = .ok (.invokevirtual 135, 3) := by decide +kernel
theorem dX7_quarters_68 : decode cX7_quarters 68 = .ok (.iinc 2 1, 3) := by decide +kernel
theorem dX7_quarters_71 : decode cX7_quarters 71 = .ok (.goto (-25), 3) := by decide +kernel
theorem dX7_quarters_74 : decode cX7_quarters 74 = .ok (.aload_n 0, 1) := by decide +kernel
theorem dX7_quarters_75 : decode cX7_quarters 75 = .ok (.getfield 26, 3) := by decide +kernel
theorem dX7_quarters_78 : decode cX7_quarters 78 = .ok (.getfield 138, 3) := by decide +kernel
theorem dX7_quarters_81 : decode cX7_quarters 81 = .ok (.ireturn, 1) := by decide +kernel
theorem dX7_go_0 : decode cX7_go 0 = .ok (.aload_n 0, 1) := by decide +kernel
theorem dX7_go_1 : decode cX7_go 1 = .ok (.getfield 26, 3) := by decide +kernel
theorem dX7_go_4 : decode cX7_go 4 = .ok (.iload_n 1, 1) := by decide +kernel
theorem dX7_go_5 : decode cX7_go 5 = .ok (.invokevirtual 141, 3) := by decide +kernel
theorem dX7_go_8 : decode cX7_go 8 = .ok (.ifCond .eq 12, 3) := by decide +kernel
theorem dX7_go_11 : decode cX7_go 11 = .ok (.iload_n 2, 1) := by decide +kernel
theorem dX7_go_12 : decode cX7_go 12 = .ok (.iconst 0, 1) := by decide +kernel
theorem dX7_go_13 : decode cX7_go 13 = .ok (.iconst 3, 1) := by decide +kernel
theorem dX7_go_14 : decode cX7_go 14 = .ok (.invokestatic 97, 3) := by decide +kernel
theorem dX7_go_17 : decode cX7_go 17 = .ok (.ifCond .ne 6, 3) := by decide +kernel
theorem dX7_go_20 : decode cX7_go 20 = .ok (.ldc 64, 2) := by decide +kernel
theorem dX7_go_22 : decode cX7_go 22 = .ok (.ireturn, 1) := by decide +kernel
theorem dX7_go_23 : decode cX7_go 23 = .ok (.aload_n 0, 1) := by decide +kernel
theorem dX7_go_24 : decode cX7_go 24 = .ok (.getfield 26, 3) := by decide +kernel
theorem dX7_go_27 : decode cX7_go 27 = .ok (.getfield 144, 3) := by decide +kernel
theorem dX7_go_30 : decode cX7_go 30 = .ok (.iload_n 1, 1) := by decide +kernel
theorem dX7_go_31 : decode cX7_go 31 = .ok (.iaload, 1) := by decide +kernel
theorem dX7_go_32 : decode cX7_go 32 = .ok (.istore_n 3, 1) := by decide +kernel
theorem dX7_go_33 : decode cX7_go 33 = .ok (.iload_n 3, 1) := by decide +kernel
theorem dX7_go_34 : decode cX7_go 34 = .ok (.iload_n 2, 1) := by decide +kernel
theorem dX7_go_35 : decode cX7_go 35 = .ok (.if_icmp .ne 6, 3) := by decide +kernel
theorem dX7_go_38 : decode cX7_go 38 = .ok (.ldc 127, 2) := by decide +kernel
theorem dX7_go_40 : decode cX7_go 40 = .ok (.ireturn, 1) := by decide +kernel
theorem dX7_go_41 : decode cX7_go 41 = .ok (.aload_n 0, 1) := by decide +kernel
theorem dX7_go_42 : decode cX7_go 42 = .ok (.getfield 39, 3) := by decide +kernel
theorem dX7_go_45 : decode cX7_go 45 = .ok (.iconst 1, 1) := by decide +kernel
theorem dX7_go_46 : decode cX7_go 46 = .ok (.iload_n 1, 1) := by decide +kernel
theorem dX7_go_47 : decode cX7_go 47 = .ok (.iload_n 3, 1) := by decide +kernel
theorem dX7_go_48 : decode cX7_go 48 = .ok (.invokevirtual 135, 3) := by decide +kernel
theorem dX7_go_51 : decode cX7_go 51 = .ok (.aload_n 0, 1) := by decide +kernel
theorem dX7_go_52 : decode cX7_go 52 = .ok (.getfield 26, 3) := by decide +kernel
theorem dX7_go_55 : decode cX7_go 55 = .ok (.getfield 144, 3) := by decide +kernel
theorem dX7_go_58 : decode cX7_go 58 = .ok (.iload_n 1, 1) := by decide +kernel
theorem dX7_go_59 : decode cX7_go 59 = .ok (.iload_n 2, 1) := by decide +kernel
theorem dX7_go_60 : decode cX7_go 60 = .ok (.iastore, 1) := by decide +kernel
theorem dX7_go_61 : decode cX7_go 61 = .ok (.iload_n 3, 1) := by decide +kernel
theorem dX7_go_62 : decode cX7_go 62 = .ok (.ireturn, 1) := by decide +kernel
theorem dX7_hush_0 : decode cX7_hush 0 = .ok (.aload_n 0, 1) := by decide +kernel
theorem dX7_hush_1 : decode cX7_hush 1 = .ok (.getfield 26, 3) := by decide +kernel
theorem dX7_hush_4 : decode cX7_hush 4 = .ok (.iload_n 1, 1) := by decide +kernel
theorem dX7_hush_5 : decode cX7_hush 5 = .ok (.invokevirtual 141, 3) := by decide +kernel
theorem dX7_hush_8 : decode cX7_hush 8 = .ok (.ifCond .eq 12, 3) := by decide +kernel
theorem dX7_hush_11 : decode cX7_hush 11 = .ok (.iload_n 2, 1) := by decide +kernel
theorem dX7_hush_12 : decode cX7_hush 12 = .ok (.iconst 0, 1) := by decide +kernel
theorem dX7_hush_13 : decode cX7_hush 13 = .ok (.iconst 1, 1) := by decide +kernel
theorem dX7_hush_14 : decode cX7_hush 14 = .ok (.invokestatic 97, 3) := by decide +kernel
theorem dX7_hush_17 : decode cX7_hush 17 = .ok (.ifCond .ne 6, 3) := by decide +kernel
theorem dX7_hush_20 : decode cX7_hush 20 = .ok (.ldc 64, 2) := by decide +kernel
theorem dX7_hush_22 : decode cX7_hush 22 = .ok (.ireturn, 1) := by decide +kernel
theorem dX7_hush_23 : decode cX7_hush 23 = .ok (.aload_n 0, 1) := by decide +kernel
theorem dX7_hush_24 : decode cX7_hush 24 = .ok (.getfield 26, 3) := by decide +kernel
theorem dX7_hush_27 : decode cX7_hush 27 = .ok (.iload_n 1, 1) := by decide +kernel
theorem dX7_hush_28 : decode cX7_hush 28 = .ok (.invokevirtual 148, 3) := by decide +kernel
theorem dX7_hush_31 : decode cX7_hush 31 = .ok (.iload_n 2, 1) := by decide +kernel
theorem dX7_hush_32 : decode cX7_hush 32 = .ok (.iconst 1, 1) := by decide +kernel
theorem dX7_hush_33 : decode cX7_hush 33 = .ok (.if_icmp .ne 7, 3) := by decide +kernel
theorem dX7_hush_36 : decode cX7_hush 36 = .ok (.iconst 1, 1) := by decide +kernel
theorem dX7_hush_37 : decode cX7_hush 37 = .ok (.goto 4, 3) := by decide +kernel
theorem dX7_hush_40 : decode cX7_hush 40 = .ok (.iconst 0, 1) := by decide +kernel
theorem dX7_hush_41 : decode cX7_hush 41 = .ok (.if_icmp .ne 6, 3) := by decide +kernel
theorem dX7_hush_44 : decode cX7_hush 44 = .ok (.ldc 127, 2) := by decide +kernel
theorem dX7_hush_46 : decode cX7_hush 46 = .ok (.ireturn, 1) := by decide +kernel
theorem dX7_hush_47 : decode cX7_hush 47 = .ok (.aload_n 0, 1) := by decide +kernel
theorem dX7_hush_48 : decode cX7_hush 48 = .ok (.getfield 39, 3) := by decide +kernel
theorem dX7_hush_51 : decode cX7_hush 51 = .ok (.iconst 2, 1) := by decide +kernel
theorem dX7_hush_52 : decode cX7_hush 52 = .ok (.iload_n 1, 1) := by decide +kernel
theorem dX7_hush_53 : decode cX7_hush 53 = .ok (.iconst 1, 1) := by decide +kernel
theorem dX7_hush_54 : decode cX7_hush 54 = .ok (.iload_n 2, 1) := by decide +kernel
theorem dX7_hush_55 : decode cX7_hush 55 = .ok (.isub, 1) := by decide +kernel
theorem dX7_hush_56 : decode cX7_hush 56 = .ok (.invokevirtual 135, 3) := by decide +kernel
theorem dX7_hush_59 : decode cX7_hush 59 = .ok (.aload_n 0, 1) := by decide +kernel
theorem dX7_hush_60 : decode cX7_hush 60 = .ok (.getfield 26, 3) := by decide +kernel
theorem dX7_hush_63 : decode cX7_hush 63 = .ok (.iload_n 1, 1) := by decide +kernel
theorem dX7_hush_64 : decode cX7_hush 64 = .ok (.iload_n 2, 1) := by decide +kernel
theorem dX7_hush_65 : decode cX7_hush 65 = .ok (.iconst 1, 1) := by decide +kernel
theorem dX7_hush_66 : decode cX7_hush 66 = .ok (.if_icmp .ne 7, 3) := by decide +kernel
theorem dX7_hush_69 : decode cX7_hush 69 = .ok (.iconst 1, 1) := by decide +kernel
theorem dX7_hush_70 : decode cX7_hush 70 = .ok (.goto 4, 3) := by decide +kernel
theorem dX7_hush_73 : decode cX7_hush 73 = .ok (.iconst 0, 1) := by decide +kernel
theorem dX7_hush_74 : decode cX7_hush 74 = .ok (.invokevirtual 151, 3) := by decide +kernel
theorem dX7_hush_77 : decode cX7_hush 77 = .ok (.aload_n 0, 1) := by decide +kernel
theorem dX7_hush_78 : decode cX7_hush 78 = .ok (.getfield 26, 3) := by decide +kernel
theorem dX7_hush_81 : decode cX7_hush 81 = .ok (.getfield 155, 3) := by decide +kernel
theorem dX7_hush_84 : decode cX7_hush 84 = .ok (.invokestatic 158, 3) := by decide +kernel
theorem dX7_hush_87 : decode cX7_hush 87 = .ok (.ireturn, 1) := by decide +kernel
theorem dX7_wool_0 : decode cX7_wool 0 = .ok (.aload_n 0, 1) := by decide +kernel
theorem dX7_wool_1 : decode cX7_wool 1 = .ok (.getfield 26, 3) := by decide +kernel
theorem dX7_wool_4 : decode cX7_wool 4 = .ok (.getfield 123, 3) := by decide +kernel
theorem dX7_wool_7 : decode cX7_wool 7 = .ok (.ifCond .ne 6, 3) := by decide +kernel
theorem dX7_wool_10 : decode cX7_wool 10 = .ok (.ldc 127, 2) := by decide +kernel
theorem dX7_wool_12 : decode cX7_wool 12 = .ok (.ireturn, 1) := by decide +kernel
theorem dX7_wool_13 : decode cX7_wool 13 = .ok (.iload_n 1, 1) := by decide +kernel
theorem dX7_wool_14 : decode cX7_wool 14 = .ok (.iconst 0, 1) := by decide +kernel
theorem dX7_wool_15 : decode cX7_wool 15 = .ok (.bipush 12, 2) := by decide +kernel
theorem dX7_wool_17 : decode cX7_wool 17 = .ok (.invokestatic 97, 3) := by decide +kernel
theorem dX7_wool_20 : decode cX7_wool 20 = .ok (.ifCond .ne 6, 3) := by decide +kernel
theorem dX7_wool_23 : decode cX7_wool 23 = .ok (.ldc 64, 2) := by decide +kernel
theorem dX7_wool_25 : decode cX7_wool 25 = .ok (.ireturn, 1) := by decide +kernel
theorem dX7_wool_26 : decode cX7_wool 26 = .ok (.aload_n 0, 1) := by decide +kernel
theorem dX7_wool_27 : decode cX7_wool 27 = .ok (.getfield 26, 3) := by decide +kernel
theorem dX7_wool_30 : decode cX7_wool 30 = .ok (.getfield 163, 3) := by decide +kernel
theorem dX7_wool_33 : decode cX7_wool 33 = .ok (.istore_n 2, 1) := by decide +kernel
theorem dX7_wool_34 : decode cX7_wool 34 = .ok (.aload_n 0, 1) := by decide +kernel
theorem dX7_wool_35 : decode cX7_wool 35 = .ok (.getfield 39, 3) := by decide +kernel
theorem dX7_wool_38 : decode cX7_wool 38 = .ok (.iconst 3, 1) := by decide +kernel
theorem dX7_wool_39 : decode cX7_wool 39 = .ok (.iconst 0, 1) := by decide +kernel
theorem dX7_wool_40 : decode cX7_wool 40 = .ok (.iload_n 2, 1) := by decide +kernel
theorem dX7_wool_41 : decode cX7_wool 41 = .ok (.invokevirtual 135, 3) := by decide +kernel
theorem dX7_wool_44 : decode cX7_wool 44 = .ok (.aload_n 0, 1) := by decide +kernel
theorem dX7_wool_45 : decode cX7_wool 45 = .ok (.getfield 26, 3) := by decide +kernel
theorem dX7_wool_48 : decode cX7_wool 48 = .ok (.iload_n 1, 1) := by decide +kernel
theorem dX7_wool_49 : decode cX7_wool 49 = .ok (.putfield 163, 3) := by decide +kernel
theorem dX7_wool_52 : decode cX7_wool 52 = .ok (.iload_n 2, 1) := by decide +kernel
theorem dX7_wool_53 : decode cX7_wool 53 = .ok (.ireturn, 1) := by decide +kernel
theorem dX7_undo_0 : decode cX7_undo 0 = .ok (.aload_n 0, 1) := by decide +kernel
theorem dX7_undo_1 : decode cX7_undo 1 = .ok (.getfield 39, 3) := by decide +kernel
theorem dX7_undo_4 : decode cX7_undo 4 = .ok (.getfield 166, 3) := by decide +kernel
theorem dX7_undo_7 : decode cX7_undo 7 = .ok (.ifCond .ne 6, 3) := by decide +kernel
theorem dX7_undo_10 : decode cX7_undo 10 = .ok (.ldc 127, 2) := by decide +kernel
theorem dX7_undo_12 : decode cX7_undo 12 = .ok (.ireturn, 1) := by decide +kernel
theorem dX7_undo_13 : decode cX7_undo 13 = .ok (.aload_n 0, 1) := by decide +kernel
theorem dX7_undo_14 : decode cX7_undo 14 = .ok (.getfield 39, 3) := by decide +kernel
theorem dX7_undo_17 : decode cX7_undo 17 = .ok (.aload_n 0, 1) := by decide +kernel
theorem dX7_undo_18 : decode cX7_undo 18 = .ok (.getfield 26, 3) := by decide +kernel
theorem dX7_undo_21 : decode cX7_undo 21 = .ok (.invokevirtual 169, 3) := by decide +kernel
theorem dX7_undo_24 : decode cX7_undo 24 = .ok (.aload_n 0, 1) := by decide +kernel
theorem dX7_undo_25 : decode cX7_undo 25 = .ok (.getfield 39, 3) := by decide +kernel
theorem dX7_undo_28 : decode cX7_undo 28 = .ok (.getfield 166, 3) := by decide +kernel
theorem dX7_undo_31 : decode cX7_undo 31 = .ok (.ireturn, 1) := by decide +kernel
theorem dX7_ear_0 : decode cX7_ear 0 = .ok (.aload_n 0, 1) := by decide +kernel
theorem dX7_ear_1 : decode cX7_ear 1 = .ok (.getfield 26, 3) := by decide +kernel
theorem dX7_ear_4 : decode cX7_ear 4 = .ok (.iload_n 1, 1) := by decide +kernel
theorem dX7_ear_5 : decode cX7_ear 5 = .ok (.invokevirtual 141, 3) := by decide +kernel
theorem dX7_ear_8 : decode cX7_ear 8 = .ok (.ifCond .ne 6, 3) := by decide +kernel
theorem dX7_ear_11 : decode cX7_ear 11 = .ok (.ldc 64, 2) := by decide +kernel
theorem dX7_ear_13 : decode cX7_ear 13 = .ok (.ireturn, 1) := by decide +kernel
theorem dX7_ear_14 : decode cX7_ear 14 = .ok (.iload_n 2, 1) := by decide +kernel
theorem dX7_ear_15 : decode cX7_ear 15 = .ok (.tableswitch 110 0 5 #[37, 47, 57, 74, 91, 100], 37) := by decide +kernel
theorem dX7_ear_52 : decode cX7_ear 52 = .ok (.aload_n 0, 1) := by decide +kernel
theorem dX7_ear_53 : decode cX7_ear 53 = .ok (.getfield 26, 3) := by decide +kernel
theorem dX7_ear_56 : decode cX7_ear 56 = .ok (.getfield 173, 3) := by decide +kernel
theorem dX7_ear_59 : decode cX7_ear 59 = .ok (.iload_n 1, 1) := by decide +kernel
theorem dX7_ear_60 : decode cX7_ear 60 = .ok (.iaload, 1) := by decide +kernel
theorem dX7_ear_61 : decode cX7_ear 61 = .ok (.ireturn, 1) := by decide +kernel
theorem dX7_ear_62 : decode cX7_ear 62 = .ok (.aload_n 0, 1) := by decide +kernel
theorem dX7_ear_63 : decode cX7_ear 63 = .ok (.getfield 26, 3) := by decide +kernel
theorem dX7_ear_66 : decode cX7_ear 66 = .ok (.getfield 144, 3) := by decide +kernel
theorem dX7_ear_69 : decode cX7_ear 69 = .ok (.iload_n 1, 1) := by decide +kernel
theorem dX7_ear_70 : decode cX7_ear 70 = .ok (.iaload, 1) := by decide +kernel
theorem dX7_ear_71 : decode cX7_ear 71 = .ok (.ireturn, 1) := by decide +kernel
theorem dX7_ear_72 : decode cX7_ear 72 = .ok (.aload_n 0, 1) := by decide +kernel
theorem dX7_ear_73 : decode cX7_ear 73 = .ok (.getfield 26, 3) := by decide +kernel
theorem dX7_ear_76 : decode cX7_ear 76 = .ok (.iload_n 1, 1) := by decide +kernel
theorem dX7_ear_77 : decode cX7_ear 77 = .ok (.invokevirtual 148, 3) := by decide +kernel
theorem dX7_ear_80 : decode cX7_ear 80 = .ok (.ifCond .eq 7, 3) := by decide +kernel
theorem dX7_ear_83 : decode cX7_ear 83 = .ok (.iconst 1, 1) := by decide +kernel
theorem dX7_ear_84 : decode cX7_ear 84 = .ok (.goto 4, 3) := by decide +kernel
theorem dX7_ear_87 : decode cX7_ear 87 = .ok (.iconst 0, 1) := by decide +kernel
theorem dX7_ear_88 : decode cX7_ear 88 = .ok (.ireturn, 1) := by decide +kernel
theorem dX7_ear_89 : decode cX7_ear 89 = .ok (.aload_n 0, 1) := by decide +kernel
theorem dX7_ear_90 : decode cX7_ear 90 = .ok (.getfield 26, 3) := by decide +kernel
theorem dX7_ear_93 : decode cX7_ear 93 = .ok (.iload_n 1, 1) := by decide +kernel
theorem dX7_ear_94 : decode cX7_ear 94 = .ok (.invokevirtual 176, 3) := by decide +kernel
theorem dX7_ear_97 : decode cX7_ear 97 = .ok (.ifCond .eq 7, 3) := by decide +kernel
theorem dX7_ear_100 : decode cX7_ear 100 = .ok (.iconst 1, 1) := by decide +kernel
theorem dX7_ear_101 : decode cX7_ear 101 = .ok (.goto 4, 3) := by decide +kernel
theorem dX7_ear_104 : decode cX7_ear 104 = .ok (.iconst 0, 1) := by decide +kernel
theorem dX7_ear_105 : decode cX7_ear 105 = .ok (.ireturn, 1) := by decide +kernel
theorem dX7_ear_106 : decode cX7_ear 106 = .ok (.aload_n 0, 1) := by decide +kernel
theorem dX7_ear_107 : decode cX7_ear 107 = .ok (.getfield 26, 3) := by decide +kernel
theorem dX7_ear_110 : decode cX7_ear 110 = .ok (.iload_n 1, 1) := by decide +kernel
theorem dX7_ear_111 : decode cX7_ear 111 = .ok (.invokevirtual 179, 3) := by decide +kernel
theorem dX7_ear_114 : decode cX7_ear 114 = .ok (.ireturn, 1) := by decide +kernel
theorem dX7_ear_115 : decode cX7_ear 115 = .ok (.aload_n 0, 1) := by decide +kernel
theorem dX7_ear_116 : decode cX7_ear 116 = .ok (.getfield 26, 3) := by decide +kernel
theorem dX7_ear_119 : decode cX7_ear 119 = .ok (.getfield 182, 3) := by decide +kernel
theorem dX7_ear_122 : decode cX7_ear 122 = .ok (.iload_n 1, 1) := by decide +kernel
theorem dX7_ear_123 : decode cX7_ear 123 = .ok (.iaload, 1) := by decide +kernel
theorem dX7_ear_124 : decode cX7_ear 124 = .ok (.ireturn, 1) := by decide +kernel
theorem dX7_ear_125 : decode cX7_ear 125 = .ok (.ldc 64, 2) := by decide +kernel
theorem dX7_ear_127 : decode cX7_ear 127 = .ok (.ireturn, 1) := by decide +kernel
theorem dX7_clock_0 : decode cX7_clock 0 = .ok (.aload_n 0, 1) := by decide +kernel
theorem dX7_clock_1 : decode cX7_clock 1 = .ok (.getfield 26, 3) := by decide +kernel
theorem dX7_clock_4 : decode cX7_clock 4 = .ok (.getfield 123, 3) := by decide +kernel
theorem dX7_clock_7 : decode cX7_clock 7 = .ok (.ifCond .ne 6, 3) := by decide +kernel
theorem dX7_clock_10 : decode cX7_clock 10 = .ok (.ldc 127, 2) := by decide +kernel
theorem dX7_clock_12 : decode cX7_clock 12 = .ok (.ireturn, 1) := by decide +kernel
theorem dX7_clock_13 : decode cX7_clock 13 = .ok (.iload_n 1, 1) := by decide +kernel
theorem dX7_clock_14 : decode cX7_clock 14 = .ok (.tableswitch 79 0 3 #[30, 38, 49, 71], 30) := by decide +kernel
theorem dX7_clock_44 : decode cX7_clock 44 = .ok (.aload_n 0, 1) := by decide +kernel
theorem dX7_clock_45 : decode cX7_clock 45 = .ok (.getfield 26, 3) := by decide +kernel
theorem dX7_clock_48 : decode cX7_clock 48 = .ok (.getfield 138, 3) := by decide +kernel
theorem dX7_clock_51 : decode cX7_clock 51 = .ok (.ireturn, 1) := by decide +kernel
theorem dX7_clock_52 : decode cX7_clock 52 = .ok (.aload_n 0, 1) := by decide +kernel
theorem dX7_clock_53 : decode cX7_clock 53 = .ok (.getfield 26, 3) := by decide +kernel
theorem dX7_clock_56 : decode cX7_clock 56 = .ok (.getfield 138, 3) := by decide +kernel
theorem dX7_clock_59 : decode cX7_clock 59 = .ok (.bipush 12, 2) := by decide +kernel
theorem dX7_clock_61 : decode cX7_clock 61 = .ok (.idiv, 1) := by decide +kernel
theorem dX7_clock_62 : decode cX7_clock 62 = .ok (.ireturn, 1) := by decide +kernel
theorem dX7_clock_63 : decode cX7_clock 63 = .ok (.aload_n 0, 1) := by decide +kernel
theorem dX7_clock_64 : decode cX7_clock 64 = .ok (.getfield 26, 3) := by decide +kernel
theorem dX7_clock_67 : decode cX7_clock 67 = .ok (.aload_n 0, 1) := by decide +kernel
theorem dX7_clock_68 : decode cX7_clock 68 = .ok (.getfield 26, 3) := by decide +kernel
theorem dX7_clock_71 : decode cX7_clock 71 = .ok (.invokevirtual 185, 3) := by decide +kernel
theorem dX7_clock_74 : decode cX7_clock 74 = .ok (.aload_n 0, 1) := by decide +kernel
theorem dX7_clock_75 : decode cX7_clock 75 = .ok (.getfield 26, 3) := by decide +kernel
theorem dX7_clock_78 : decode cX7_clock 78 = .ok (.getfield 128, 3) := by decide +kernel
theorem dX7_clock_81 : decode cX7_clock 81 = .ok (.invokevirtual 188, 3) := by decide +kernel
theorem dX7_clock_84 : decode cX7_clock 84 = .ok (.ireturn, 1) := by decide +kernel
theorem dX7_clock_85 : decode cX7_clock 85 = .ok (.aload_n 0, 1) := by decide +kernel
theorem dX7_clock_86 : decode cX7_clock 86 = .ok (.getfield 26, 3) := by decide +kernel
theorem dX7_clock_89 : decode cX7_clock 89 = .ok (.getfield 163, 3) := by decide +kernel
theorem dX7_clock_92 : decode cX7_clock 92 = .ok (.ireturn, 1) := by decide +kernel
theorem dX7_clock_93 : decode cX7_clock 93 = .ok (.ldc 64, 2) := by decide +kernel
theorem dX7_clock_95 : decode cX7_clock 95 = .ok (.ireturn, 1) := by decide +kernel
theorem dX7_ahead_0 : decode cX7_ahead 0 = .ok (.aload_n 0, 1) := by decide +kernel
theorem dX7_ahead_1 : decode cX7_ahead 1 = .ok (.getfield 26, 3) := by decide +kernel
theorem dX7_ahead_4 : decode cX7_ahead 4 = .ok (.getfield 123, 3) := by decide +kernel
theorem dX7_ahead_7 : decode cX7_ahead 7 = .ok (.ifCond .ne 6, 3) := by decide +kernel
theorem dX7_ahead_10 : decode cX7_ahead 10 = .ok (.ldc 127, 2) := by decide +kernel
theorem dX7_ahead_12 : decode cX7_ahead 12 = .ok (.ireturn, 1) := by decide +kernel
theorem dX7_ahead_13 : decode cX7_ahead 13 = .ok (.iload_n 1, 1) := by decide +kernel
theorem dX7_ahead_14 : decode cX7_ahead 14 = .ok (.iconst 0, 1) := by decide +kernel
theorem dX7_ahead_15 : decode cX7_ahead 15 = .ok (.bipush 99, 2) := by decide +kernel
theorem dX7_ahead_17 : decode cX7_ahead 17 = .ok (.invokestatic 97, 3) := by decide +kernel
theorem dX7_ahead_20 : decode cX7_ahead 20 = .ok (.ifCond .ne 6, 3) := by decide +kernel
theorem dX7_ahead_23 : decode cX7_ahead 23 = .ok (.ldc 64, 2) := by decide +kernel
theorem dX7_ahead_25 : decode cX7_ahead 25 = .ok (.ireturn, 1) := by decide +kernel
theorem dX7_ahead_26 : decode cX7_ahead 26 = .ok (.aload_n 0, 1) := by decide +kernel
theorem dX7_ahead_27 : decode cX7_ahead 27 = .ok (.getfield 26, 3) := by decide +kernel
theorem dX7_ahead_30 : decode cX7_ahead 30 = .ok (.aload_n 0, 1) := by decide +kernel
theorem dX7_ahead_31 : decode cX7_ahead 31 = .ok (.getfield 26, 3) := by decide +kernel
theorem dX7_ahead_34 : decode cX7_ahead 34 = .ok (.invokevirtual 185, 3) := by decide +kernel
theorem dX7_ahead_37 : decode cX7_ahead 37 = .ok (.iload_n 1, 1) := by decide +kernel
theorem dX7_ahead_38 : decode cX7_ahead 38 = .ok (.invokestatic 192, 3) := by decide +kernel
theorem dX7_ahead_41 : decode cX7_ahead 41 = .ok (.ireturn, 1) := by decide +kernel
theorem dX7_whenShows_0 : decode cX7_whenShows 0 = .ok (.aload_n 0, 1) := by decide +kernel
theorem dX7_whenShows_1 : decode cX7_whenShows 1 = .ok (.getfield 26, 3) := by decide +kernel
theorem dX7_whenShows_4 : decode cX7_whenShows 4 = .ok (.getfield 123, 3) := by decide +kernel
theorem dX7_whenShows_7 : decode cX7_whenShows 7 = .ok (.ifCond .ne 6, 3) := by decide +kernel
theorem dX7_whenShows_10 : decode cX7_whenShows 10 = .ok (.ldc 127, 2) := by decide +kernel
theorem dX7_whenShows_12 : decode cX7_whenShows 12 = .ok (.ireturn, 1) := by decide +kernel
theorem dX7_whenShows_13 : decode cX7_whenShows 13 = .ok (.iload_n 1, 1) := by decide +kernel
theorem dX7_whenShows_14 : decode cX7_whenShows 14 = .ok (.iconst 0, 1) := by decide +kernel
theorem dX7_whenShows_15 : decode cX7_whenShows 15 = .ok (.sipush 999, 3) := by decide +kernel
theorem dX7_whenShows_18 : decode cX7_whenShows 18 = .ok (.invokestatic 97, 3) := by decide +kernel
theorem dX7_whenShows_21 : decode cX7_whenShows 21 = .ok (.ifCond .ne 6, 3) := by decide +kernel
theorem dX7_whenShows_24 : decode cX7_whenShows 24 = .ok (.ldc 64, 2) := by decide +kernel
theorem dX7_whenShows_26 : decode cX7_whenShows 26 = .ok (.ireturn, 1) := by decide +kernel
theorem dX7_whenShows_27 : decode cX7_whenShows 27 = .ok (.aload_n 0, 1) := by decide +kernel
theorem dX7_whenShows_28 : decode cX7_whenShows 28 = .ok (.getfield 26, 3) := by decide +kernel
theorem dX7_whenShows_31 : decode cX7_whenShows 31 = .ok (.iload_n 1, 1) := by decide +kernel
theorem dX7_whenShows_32 : decode cX7_whenShows 32 = .ok (.invokestatic 198, 3) := by decide +kernel
theorem dX7_whenShows_35 : decode cX7_whenShows 35 = .ok (.ireturn, 1) := by decide +kernel
theorem dX7_done_0 : decode cX7_done 0 = .ok (.aload_n 0, 1) := by decide +kernel
theorem dX7_done_1 : decode cX7_done 1 = .ok (.getfield 26, 3) := by decide +kernel
theorem dX7_done_4 : decode cX7_done 4 = .ok (.iload_n 1, 1) := by decide +kernel
theorem dX7_done_5 : decode cX7_done 5 = .ok (.invokevirtual 202, 3) := by decide +kernel
theorem dX7_done_8 : decode cX7_done 8 = .ok (.ifCond .ne 6, 3) := by decide +kernel
theorem dX7_done_11 : decode cX7_done 11 = .ok (.ldc 64, 2) := by decide +kernel
theorem dX7_done_13 : decode cX7_done 13 = .ok (.ireturn, 1) := by decide +kernel
theorem dX7_done_14 : decode cX7_done 14 = .ok (.aload_n 0, 1) := by decide +kernel
theorem dX7_done_15 : decode cX7_done 15 = .ok (.getfield 26, 3) := by decide +kernel
theorem dX7_done_18 : decode cX7_done 18 = .ok (.iload_n 1, 1) := by decide +kernel
theorem dX7_done_19 : decode cX7_done 19 = .ok (.invokestatic 205, 3) := by decide +kernel
theorem dX7_done_22 : decode cX7_done 22 = .ok (.ireturn, 1) := by decide +kernel
theorem dX7_late_0 : decode cX7_late 0 = .ok (.aload_n 0, 1) := by decide +kernel
theorem dX7_late_1 : decode cX7_late 1 = .ok (.getfield 26, 3) := by decide +kernel
theorem dX7_late_4 : decode cX7_late 4 = .ok (.getfield 123, 3) := by decide +kernel
theorem dX7_late_7 : decode cX7_late 7 = .ok (.ifCond .ne 6, 3) := by decide +kernel
theorem dX7_late_10 : decode cX7_late 10 = .ok (.ldc 127, 2) := by decide +kernel
theorem dX7_late_12 : decode cX7_late 12 = .ok (.ireturn, 1) := by decide +kernel
theorem dX7_late_13 : decode cX7_late 13 = .ok (.aload_n 0, 1) := by decide +kernel
theorem dX7_late_14 : decode cX7_late 14 = .ok (.getfield 26, 3) := by decide +kernel
theorem dX7_late_17 : decode cX7_late 17 = .ok (.invokestatic 208, 3) := by decide +kernel
theorem dX7_late_20 : decode cX7_late 20 = .ok (.ireturn, 1) := by decide +kernel
theorem dX7_latest_0 : decode cX7_latest 0 = .ok (.aload_n 0, 1) := by decide +kernel
theorem dX7_latest_1 : decode cX7_latest 1 = .ok (.getfield 26, 3) := by decide +kernel
theorem dX7_latest_4 : decode cX7_latest 4 = .ok (.iload_n 1, 1) := by decide +kernel
theorem dX7_latest_5 : decode cX7_latest 5 = .ok (.invokevirtual 202, 3) := by decide +kernel
theorem dX7_latest_8 : decode cX7_latest 8 = .ok (.ifCond .ne 6, 3) := by decide +kernel
theorem dX7_latest_11 : decode cX7_latest 11 = .ok (.ldc 64, 2) := by decide +kernel
theorem dX7_latest_13 : decode cX7_latest 13 = .ok (.ireturn, 1) := by decide +kernel
theorem dX7_latest_14 : decode cX7_latest 14 = .ok (.aload_n 0, 1) := by decide +kernel
theorem dX7_latest_15 : decode cX7_latest 15 = .ok (.getfield 26, 3) := by decide +kernel
theorem dX7_latest_18 : decode cX7_latest 18 = .ok (.iload_n 1, 1) := by decide +kernel
theorem dX7_latest_19 : decode cX7_latest 19 = .ok (.invokestatic 212, 3) := by decide +kernel
theorem dX7_latest_22 : decode cX7_latest 22 = .ok (.ireturn, 1) := by decide +kernel
theorem dX7_toHush_0 : decode cX7_toHush 0 = .ok (.aload_n 0, 1) := by decide +kernel
theorem dX7_toHush_1 : decode cX7_toHush 1 = .ok (.getfield 26, 3) := by decide +kernel
theorem dX7_toHush_4 : decode cX7_toHush 4 = .ok (.getfield 123, 3) := by decide +kernel
theorem dX7_toHush_7 : decode cX7_toHush 7 = .ok (.ifCond .ne 6, 3) := by decide +kernel
theorem dX7_toHush_10 : decode cX7_toHush 10 = .ok (.ldc 127, 2) := by decide +kernel
theorem dX7_toHush_12 : decode cX7_toHush 12 = .ok (.ireturn, 1) := by decide +kernel
theorem dX7_toHush_13 : decode cX7_toHush 13 = .ok (.iload_n 1, 1) := by decide +kernel
theorem dX7_toHush_14 : decode cX7_toHush 14 = .ok (.iload_n 2, 1) := by decide +kernel
theorem dX7_toHush_15 : decode cX7_toHush 15 = .ok (.iload_n 3, 1) := by decide +kernel
theorem dX7_toHush_16 : decode cX7_toHush 16 = .ok (.invokestatic 215, 3) := by decide +kernel
theorem dX7_toHush_19 : decode cX7_toHush 19 = .ok (.ifCond .ne 6, 3) := by decide +kernel
theorem dX7_toHush_22 : decode cX7_toHush 22 = .ok (.ldc 64, 2) := by decide +kernel
theorem dX7_toHush_24 : decode cX7_toHush 24 = .ok (.ireturn, 1) := by decide +kernel
theorem dX7_toHush_25 : decode cX7_toHush 25 = .ok (.aload_n 0, 1) := by decide +kernel
theorem dX7_toHush_26 : decode cX7_toHush 26 = .ok (.getfield 26, 3) := by decide +kernel
theorem dX7_toHush_29 : decode cX7_toHush 29 = .ok (.iload_n 1, 1) := by decide +kernel
theorem dX7_toHush_30 : decode cX7_toHush 30 = .ok (.iload_n 2, 1) := by decide +kernel
theorem dX7_toHush_31 : decode cX7_toHush 31 = .ok (.invokestatic 218, 3) := by decide +kernel
theorem dX7_toHush_34 : decode cX7_toHush 34 = .ok (.iload_n 3, 1) := by decide +kernel
theorem dX7_toHush_35 : decode cX7_toHush 35 = .ok (.invokestatic 221, 3) := by decide +kernel
theorem dX7_toHush_38 : decode cX7_toHush 38 = .ok (.ireturn, 1) := by decide +kernel
theorem dX7_toCall_0 : decode cX7_toCall 0 = .ok (.aload_n 0, 1) := by decide +kernel
theorem dX7_toCall_1 : decode cX7_toCall 1 = .ok (.getfield 26, 3) := by decide +kernel
theorem dX7_toCall_4 : decode cX7_toCall 4 = .ok (.getfield 123, 3) := by decide +kernel
theorem dX7_toCall_7 : decode cX7_toCall 7 = .ok (.ifCond .ne 6, 3) := by decide +kernel
theorem dX7_toCall_10 : decode cX7_toCall 10 = .ok (.ldc 127, 2) := by decide +kernel
theorem dX7_toCall_12 : decode cX7_toCall 12 = .ok (.ireturn, 1) := by decide +kernel
theorem dX7_toCall_13 : decode cX7_toCall 13 = .ok (.iload_n 1, 1) := by decide +kernel
theorem dX7_toCall_14 : decode cX7_toCall 14 = .ok (.iload_n 2, 1) := by decide +kernel
theorem dX7_toCall_15 : decode cX7_toCall 15 = .ok (.iload_n 3, 1) := by decide +kernel
theorem dX7_toCall_16 : decode cX7_toCall 16 = .ok (.invokestatic 215, 3) := by decide +kernel
theorem dX7_toCall_19 : decode cX7_toCall 19 = .ok (.ifCond .ne 6, 3) := by decide +kernel
theorem dX7_toCall_22 : decode cX7_toCall 22 = .ok (.ldc 64, 2) := by decide +kernel
theorem dX7_toCall_24 : decode cX7_toCall 24 = .ok (.ireturn, 1) := by decide +kernel
theorem dX7_toCall_25 : decode cX7_toCall 25 = .ok (.aload_n 0, 1) := by decide +kernel
theorem dX7_toCall_26 : decode cX7_toCall 26 = .ok (.getfield 26, 3) := by decide +kernel
theorem dX7_toCall_29 : decode cX7_toCall 29 = .ok (.iload_n 1, 1) := by decide +kernel
theorem dX7_toCall_30 : decode cX7_toCall 30 = .ok (.iload_n 2, 1) := by decide +kernel
theorem dX7_toCall_31 : decode cX7_toCall 31 = .ok (.invokestatic 224, 3) := by decide +kernel
theorem dX7_toCall_34 : decode cX7_toCall 34 = .ok (.iload_n 3, 1) := by decide +kernel
theorem dX7_toCall_35 : decode cX7_toCall 35 = .ok (.invokestatic 221, 3) := by decide +kernel
theorem dX7_toCall_38 : decode cX7_toCall 38 = .ok (.ireturn, 1) := by decide +kernel
theorem dX7_who_0 : decode cX7_who 0 = .ok (.aload_n 0, 1) := by decide +kernel
theorem dX7_who_1 : decode cX7_who 1 = .ok (.getfield 26, 3) := by decide +kernel
theorem dX7_who_4 : decode cX7_who 4 = .ok (.getfield 123, 3) := by decide +kernel
theorem dX7_who_7 : decode cX7_who 7 = .ok (.ifCond .ne 6, 3) := by decide +kernel
theorem dX7_who_10 : decode cX7_who 10 = .ok (.ldc 127, 2) := by decide +kernel
theorem dX7_who_12 : decode cX7_who 12 = .ok (.ireturn, 1) := by decide +kernel
theorem dX7_who_13 : decode cX7_who 13 = .ok (.iload_n 1, 1) := by decide +kernel
theorem dX7_who_14 : decode cX7_who 14 = .ok (.invokestatic 57, 3) := by decide +kernel
theorem dX7_who_17 : decode cX7_who 17 = .ok (.ifCond .eq 23, 3) := by decide +kernel
theorem dX7_who_20 : decode cX7_who 20 = .ok (.iload_n 3, 1) := by decide +kernel
theorem dX7_who_21 : decode cX7_who 21 = .ok (.iconst 1, 1) := by decide +kernel
theorem dX7_who_22 : decode cX7_who 22 = .ok (.bipush 16, 2) := by decide +kernel
theorem dX7_who_24 : decode cX7_who 24 = .ok (.invokestatic 97, 3) := by decide +kernel
theorem dX7_who_27 : decode cX7_who 27 = .ok (.ifCond .eq 13, 3) := by decide +kernel
theorem dX7_who_30 : decode cX7_who 30 = .ok (.iload 4, 2) := by decide +kernel
theorem dX7_who_32 : decode cX7_who 32 = .ok (.iconst 0, 1) := by decide +kernel
theorem dX7_who_33 : decode cX7_who 33 = .ok (.iconst 1, 1) := by decide +kernel
theorem dX7_who_34 : decode cX7_who 34 = .ok (.invokestatic 97, 3) := by decide +kernel
theorem dX7_who_37 : decode cX7_who 37 = .ok (.ifCond .ne 6, 3) := by decide +kernel
theorem dX7_who_40 : decode cX7_who 40 = .ok (.ldc 64, 2) := by decide +kernel
theorem dX7_who_42 : decode cX7_who 42 = .ok (.ireturn, 1) := by decide +kernel
theorem dX7_who_43 : decode cX7_who 43 = .ok (.aload_n 0, 1) := by decide +kernel
theorem dX7_who_44 : decode cX7_who 44 = .ok (.getfield 10, 3) := by decide +kernel
theorem dX7_who_47 : decode cX7_who 47 = .ok (.iload_n 1, 1) := by decide +kernel
theorem dX7_who_48 : decode cX7_who 48 = .ok (.iload_n 2, 1) := by decide +kernel
theorem dX7_who_49 : decode cX7_who 49 = .ok (.iload_n 3, 1) := by decide +kernel
theorem dX7_who_50 : decode cX7_who 50 = .ok (.invokevirtual 76, 3) := by decide +kernel
theorem dX7_who_53 : decode cX7_who 53 = .ok (.istore 5, 2) := by decide +kernel
theorem dX7_who_55 : decode cX7_who 55 = .ok (.iload 5, 2) := by decide +kernel
theorem dX7_who_57 : decode cX7_who 57 = .ok (.ifCond .eq 10, 3) := by decide +kernel
theorem dX7_who_60 : decode cX7_who 60 = .ok (.aload_n 0, 1) := by decide +kernel
theorem dX7_who_61 : decode cX7_who 61 = .ok (.iload 5, 2) := by decide +kernel
theorem dX7_who_63 : decode cX7_who 63 = .ok (.invokevirtual 65, 3) := by decide +kernel
theorem dX7_who_66 : decode cX7_who 66 = .ok (.ireturn, 1) := by decide +kernel
theorem dX7_who_67 : decode cX7_who 67 = .ok (.aload_n 0, 1) := by decide +kernel
theorem dX7_who_68 : decode cX7_who 68 = .ok (.getfield 26, 3) := by decide +kernel
theorem dX7_who_71 : decode cX7_who 71 = .ok (.aload_n 0, 1) := by decide +kernel
theorem dX7_who_72 : decode cX7_who 72 = .ok (.getfield 10, 3) := by decide +kernel
theorem dX7_who_75 : decode cX7_who 75 = .ok (.iload_n 1, 1) := by decide +kernel
theorem dX7_who_76 : decode cX7_who 76 = .ok (.iload_n 2, 1) := by decide +kernel
theorem dX7_who_77 : decode cX7_who 77 = .ok (.iload_n 3, 1) := by decide +kernel
theorem dX7_who_78 : decode cX7_who 78 = .ok (.invokestatic 227, 3) := by decide +kernel
theorem dX7_who_81 : decode cX7_who 81 = .ok (.lstore 6, 2) := by decide +kernel
theorem dX7_who_83 : decode cX7_who 83 = .ok (.iload 4, 2) := by decide +kernel
theorem dX7_who_85 : decode cX7_who 85 = .ok (.ifCond .ne 13, 3) := by decide +kernel
theorem dX7_who_88 : decode cX7_who 88 = .ok (.aload_n 0, 1) := by decide +kernel
theorem dX7_who_89 : decode cX7_who 89 = .ok (.lload 6, 2) := by decide +kernel
theorem dX7_who_91 : decode cX7_who 91 = .ok (.invokestatic 231, 3) := by decide +kernel
theorem dX7_who_94 : decode cX7_who 94 = .ok (.invokevirtual 73, 3) := by decide +kernel
theorem dX7_who_97 : decode cX7_who 97 = .ok (.ireturn, 1) := by decide +kernel
theorem dX7_who_98 : decode cX7_who 98 = .ok (.aload_n 0, 1) := by decide +kernel
theorem dX7_who_99 : decode cX7_who 99 = .ok (.lload 6, 2) := by decide +kernel
theorem dX7_who_101 : decode cX7_who 101 = .ok (.lconst 0, 1) := by decide +kernel
theorem dX7_who_102 : decode cX7_who 102 = .ok (.lcmp, 1) := by decide +kernel
theorem dX7_who_103 : decode cX7_who 103 = .ok (.ifCond .ne 8, 3) := by decide +kernel
theorem dX7_who_106 : decode cX7_who 106 = .ok (.ldc 108, 2) := by decide +kernel
theorem dX7_who_108 : decode cX7_who 108 = .ok (.goto 8, 3) := by decide +kernel
theorem dX7_who_111 : decode cX7_who 111 = .ok (.lload 6, 2) := by decide +kernel
theorem dX7_who_113 : decode cX7_who 113 = .ok (.invokestatic 236, 3) := by decide +kernel
theorem dX7_who_116 : decode cX7_who 116 = .ok (.invokevirtual 73, 3) := by decide +kernel
theorem dX7_who_119 : decode cX7_who 119 = .ok (.ireturn, 1) := by decide +kernel
theorem dX7_heed_0 : decode cX7_heed 0 = .ok (.aload_n 0, 1) := by decide +kernel
theorem dX7_heed_1 : decode cX7_heed 1 = .ok (.getfield 26, 3) := by decide +kernel
theorem dX7_heed_4 : decode cX7_heed 4 = .ok (.iload_n 1, 1) := by decide +kernel
theorem dX7_heed_5 : decode cX7_heed 5 = .ok (.invokevirtual 141, 3) := by decide +kernel
theorem dX7_heed_8 : decode cX7_heed 8 = .ok (.ifCond .eq 21, 3) := by decide +kernel
theorem dX7_heed_11 : decode cX7_heed 11 = .ok (.iload_n 2, 1) := by decide +kernel
theorem dX7_heed_12 : decode cX7_heed 12 = .ok (.invokestatic 57, 3) := by decide +kernel
theorem dX7_heed_15 : decode cX7_heed 15 = .ok (.ifCond .eq 14, 3) := by decide +kernel
theorem dX7_heed_18 : decode cX7_heed 18 = .ok (.iload 4, 2) := by decide +kernel
theorem dX7_heed_20 : decode cX7_heed 20 = .ok (.iconst 1, 1) := by decide +kernel
theorem dX7_heed_21 : decode cX7_heed 21 = .ok (.bipush 16, 2) := by decide +kernel
theorem dX7_heed_23 : decode cX7_heed 23 = .ok (.invokestatic 97, 3) := by decide +kernel
theorem dX7_heed_26 : decode cX7_heed 26 = .ok (.ifCond .ne 6, 3) := by decide +kernel
theorem dX7_heed_29 : decode cX7_heed 29 = .ok (.ldc 64, 2) := by decide +kernel
theorem dX7_heed_31 : decode cX7_heed 31 = .ok (.ireturn, 1) := by decide +kernel
theorem dX7_heed_32 : decode cX7_heed 32 = .ok (.aload_n 0, 1) := by decide +kernel
theorem dX7_heed_33 : decode cX7_heed 33 = .ok (.getfield 10, 3) := by decide +kernel
theorem dX7_heed_36 : decode cX7_heed 36 = .ok (.iload_n 2, 1) := by decide +kernel
theorem dX7_heed_37 : decode cX7_heed 37 = .ok (.iload_n 3, 1) := by decide +kernel
theorem dX7_heed_38 : decode cX7_heed 38 = .ok (.iload 4, 2) := by decide +kernel
theorem dX7_heed_40 : decode cX7_heed 40 = .ok (.invokevirtual 76, 3) := by decide +kernel
theorem dX7_heed_43 : decode cX7_heed 43 = .ok (.istore 5, 2) := by decide +kernel
theorem dX7_heed_45 : decode cX7_heed 45 = .ok (.iload 5, 2) := by decide +kernel
theorem dX7_heed_47 : decode cX7_heed 47 = .ok (.ifCond .eq 10, 3) := by decide +kernel
theorem dX7_heed_50 : decode cX7_heed 50 = .ok (.aload_n 0, 1) := by decide +kernel
theorem dX7_heed_51 : decode cX7_heed 51 = .ok (.iload 5, 2) := by decide +kernel
theorem dX7_heed_53 : decode cX7_heed 53 = .ok (.invokevirtual 65, 3) := by decide +kernel
theorem dX7_heed_56 : decode cX7_heed 56 = .ok (.ireturn, 1) := by decide +kernel
theorem dX7_heed_57 : decode cX7_heed 57 = .ok (.aload_n 0, 1) := by decide +kernel
theorem dX7_heed_58 : decode cX7_heed 58 = .ok (.aload_n 0, 1) := by decide +kernel
theorem dX7_heed_59 : decode cX7_heed 59 = .ok (.getfield 26, 3) := by decide +kernel
theorem dX7_heed_62 : decode cX7_heed 62 = .ok (.iload_n 1, 1) := by decide +kernel
theorem dX7_heed_63 : decode cX7_heed 63 = .ok (.aload_n 0, 1) := by decide +kernel
theorem dX7_heed_64 : decode cX7_heed 64 = .ok (.getfield 10, 3) := by decide +kernel
theorem dX7_heed_67 : decode cX7_heed 67 = .ok (.iload_n 2, 1) := by decide +kernel
theorem dX7_heed_68 : decode cX7_heed 68 = .ok (.iload_n 3, 1) := by decide +kernel
theorem dX7_heed_69 : decode cX7_heed 69 = .ok (.iload 4, 2) := by decide +kernel
theorem dX7_heed_71 : decode cX7_heed 71 = .ok (.invokestatic 239, 3) := by decide +kernel
theorem dX7_heed_74 : decode cX7_heed 74 = .ok (.invokevirtual 73, 3) := by decide +kernel
theorem dX7_heed_77 : decode cX7_heed 77 = .ok (.ireturn, 1) := by decide +kernel
theorem dX7_older_0 : decode cX7_older 0 = .ok (.aload_n 0, 1) := by decide +kernel
theorem dX7_older_1 : decode cX7_older 1 = .ok (.getfield 26, 3) := by decide +kernel
theorem dX7_older_4 : decode cX7_older 4 = .ok (.iload_n 1, 1) := by decide +kernel
theorem dX7_older_5 : decode cX7_older 5 = .ok (.invokevirtual 141, 3) := by decide +kernel
theorem dX7_older_8 : decode cX7_older 8 = .ok (.ifCond .eq 29, 3) := by decide +kernel
theorem dX7_older_11 : decode cX7_older 11 = .ok (.aload_n 0, 1) := by decide +kernel
theorem dX7_older_12 : decode cX7_older 12 = .ok (.getfield 26, 3) := by decide +kernel
theorem dX7_older_15 : decode cX7_older 15 = .ok (.iload_n 2, 1) := by decide +kernel
theorem dX7_older_16 : decode cX7_older 16 = .ok (.invokevirtual 141, 3) := by decide +kernel
theorem dX7_older_19 : decode cX7_older 19 = .ok (.ifCond .eq 18, 3) := by decide +kernel
theorem dX7_older_22 : decode cX7_older 22 = .ok (.iload_n 1, 1) := by decide +kernel
theorem dX7_older_23 : decode cX7_older 23 = .ok (.iload_n 2, 1) := by decide +kernel
theorem dX7_older_24 : decode cX7_older 24 = .ok (.if_icmp .eq 13, 3) := by decide +kernel
theorem dX7_older_27 : decode cX7_older 27 = .ok (.iload_n 3, 1) := by decide +kernel
theorem dX7_older_28 : decode cX7_older 28 = .ok (.iconst 0, 1) := by decide +kernel
theorem dX7_older_29 : decode cX7_older 29 = .ok (.bipush 99, 2) := by decide +kernel
theorem dX7_older_31 : decode cX7_older 31 = .ok (.invokestatic 97, 3) := by decide +kernel
theorem dX7_older_34 : decode cX7_older 34 = .ok (.ifCond .ne 6, 3) := by decide +kernel
theorem dX7_older_37 : decode cX7_older 37 = .ok (.ldc 64, 2) := by decide +kernel
theorem dX7_older_39 : decode cX7_older 39 = .ok (.ireturn, 1) := by decide +kernel
theorem dX7_older_40 : decode cX7_older 40 = .ok (.aload_n 0, 1) := by decide +kernel
theorem dX7_older_41 : decode cX7_older 41 = .ok (.getfield 26, 3) := by decide +kernel
theorem dX7_older_44 : decode cX7_older 44 = .ok (.iload_n 1, 1) := by decide +kernel
theorem dX7_older_45 : decode cX7_older 45 = .ok (.iload_n 3, 1) := by decide +kernel
theorem dX7_older_46 : decode cX7_older 46 = .ok (.invokestatic 243, 3) := by decide +kernel
theorem dX7_older_49 : decode cX7_older 49 = .ok (.aload_n 0, 1) := by decide +kernel
theorem dX7_older_50 : decode cX7_older 50 = .ok (.getfield 26, 3) := by decide +kernel
theorem dX7_older_53 : decode cX7_older 53 = .ok (.iload_n 2, 1) := by decide +kernel
theorem dX7_older_54 : decode cX7_older 54 = .ok (.iload_n 3, 1) := by decide +kernel
theorem dX7_older_55 : decode cX7_older 55 = .ok (.invokestatic 243, 3) := by decide +kernel
theorem dX7_older_58 : decode cX7_older 58 = .ok (.isub, 1) := by decide +kernel
theorem dX7_older_59 : decode cX7_older 59 = .ok (.ireturn, 1) := by decide +kernel
theorem dX7_odds_0 : decode cX7_odds 0 = .ok (.aload_n 0, 1) := by decide +kernel
theorem dX7_odds_1 : decode cX7_odds 1 = .ok (.getfield 26, 3) := by decide +kernel
theorem dX7_odds_4 : decode cX7_odds 4 = .ok (.getfield 123, 3) := by decide +kernel
theorem dX7_odds_7 : decode cX7_odds 7 = .ok (.ifCond .ne 6, 3) := by decide +kernel
theorem dX7_odds_10 : decode cX7_odds 10 = .ok (.ldc 127, 2) := by decide +kernel
theorem dX7_odds_12 : decode cX7_odds 12 = .ok (.ireturn, 1) := by decide +kernel
theorem dX7_odds_13 : decode cX7_odds 13 = .ok (.iload_n 1, 1) := by decide +kernel
theorem dX7_odds_14 : decode cX7_odds 14 = .ok (.iconst 0, 1) := by decide +kernel
theorem dX7_odds_15 : decode cX7_odds 15 = .ok (.bipush 99, 2) := by decide +kernel
theorem dX7_odds_17 : decode cX7_odds 17 = .ok (.invokestatic 97, 3) := by decide +kernel
theorem dX7_odds_20 : decode cX7_odds 20 = .ok (.ifCond .eq 22, 3) := by decide +kernel
theorem dX7_odds_23 : decode cX7_odds 23 = .ok (.iload_n 2, 1) := by decide +kernel
theorem dX7_odds_24 : decode cX7_odds 24 = .ok (.iconst 0, 1) := by decide +kernel
theorem dX7_odds_25 : decode cX7_odds 25 = .ok (.bipush 10, 2) := by decide +kernel
theorem dX7_odds_27 : decode cX7_odds 27 = .ok (.invokestatic 97, 3) := by decide +kernel
theorem dX7_odds_30 : decode cX7_odds 30 = .ok (.ifCond .eq 12, 3) := by decide +kernel
theorem dX7_odds_33 : decode cX7_odds 33 = .ok (.iload_n 3, 1) := by decide +kernel
theorem dX7_odds_34 : decode cX7_odds 34 = .ok (.iconst 0, 1) := by decide +kernel
theorem dX7_odds_35 : decode cX7_odds 35 = .ok (.iconst 1, 1) := by decide +kernel
theorem dX7_odds_36 : decode cX7_odds 36 = .ok (.invokestatic 97, 3) := by decide +kernel
theorem dX7_odds_39 : decode cX7_odds 39 = .ok (.ifCond .ne 6, 3) := by decide +kernel
theorem dX7_odds_42 : decode cX7_odds 42 = .ok (.ldc 64, 2) := by decide +kernel
theorem dX7_odds_44 : decode cX7_odds 44 = .ok (.ireturn, 1) := by decide +kernel
theorem dX7_odds_45 : decode cX7_odds 45 = .ok (.aload_n 0, 1) := by decide +kernel
theorem dX7_odds_46 : decode cX7_odds 46 = .ok (.getfield 26, 3) := by decide +kernel
theorem dX7_odds_49 : decode cX7_odds 49 = .ok (.iload_n 1, 1) := by decide +kernel
theorem dX7_odds_50 : decode cX7_odds 50 = .ok (.iload_n 2, 1) := by decide +kernel
theorem dX7_odds_51 : decode cX7_odds 51 = .ok (.invokestatic 246, 3) := by decide +kernel
theorem dX7_odds_54 : decode cX7_odds 54 = .ok (.istore 4, 2) := by decide +kernel
theorem dX7_odds_56 : decode cX7_odds 56 = .ok (.aload_n 0, 1) := by decide +kernel
theorem dX7_odds_57 : decode cX7_odds 57 = .ok (.getfield 26, 3) := by decide +kernel
theorem dX7_odds_60 : decode cX7_odds 60 = .ok (.invokestatic 249, 3) := by decide +kernel
theorem dX7_odds_63 : decode cX7_odds 63 = .ok (.istore 5, 2) := by decide +kernel
theorem dX7_odds_65 : decode cX7_odds 65 = .ok (.iload 4, 2) := by decide +kernel
theorem dX7_odds_67 : decode cX7_odds 67 = .ok (.iload 5, 2) := by decide +kernel
theorem dX7_odds_69 : decode cX7_odds 69 = .ok (.invokestatic 252, 3) := by decide +kernel
theorem dX7_odds_72 : decode cX7_odds 72 = .ok (.istore 6, 2) := by decide +kernel
theorem dX7_odds_74 : decode cX7_odds 74 = .ok (.iload_n 3, 1) := by decide +kernel
theorem dX7_odds_75 : decode cX7_odds 75 = .ok (.ifCond .ne 8, 3) := by decide +kernel
theorem dX7_odds_78 : decode cX7_odds 78 = .ok (.iload 4, 2) := by decide +kernel
theorem dX7_odds_80 : decode cX7_odds 80 = .ok (.goto 5, 3) := by decide +kernel
theorem dX7_odds_83 : decode cX7_odds 83 = .ok (.iload 5, 2) := by decide +kernel
theorem dX7_odds_85 : decode cX7_odds 85 = .ok (.iload 6, 2) := by decide +kernel
theorem dX7_odds_87 : decode cX7_odds 87 = .ok (.idiv, 1) := by decide +kernel
theorem dX7_odds_88 : decode cX7_odds 88 = .ok (.ireturn, 1) := by decide +kernel
theorem dX7_image_0 : decode cX7_image 0 = .ok (.iload_n 1, 1) := by decide +kernel
theorem dX7_image_1 : decode cX7_image 1 = .ok (.iconst 0, 1) := by decide +kernel
theorem dX7_image_2 : decode cX7_image 2 = .ok (.iconst 1, 1) := by decide +kernel
theorem dX7_image_3 : decode cX7_image 3 = .ok (.invokestatic 97, 3) := by decide +kernel
theorem dX7_image_6 : decode cX7_image 6 = .ok (.ifCond .ne 6, 3) := by decide +kernel
theorem dX7_image_9 : decode cX7_image 9 = .ok (.ldc 64, 2) := by decide +kernel
theorem dX7_image_11 : decode cX7_image 11 = .ok (.ireturn, 1) := by decide +kernel
theorem dX7_image_12 : decode cX7_image 12 = .ok (.aload_n 0, 1) := by decide +kernel
theorem dX7_image_13 : decode cX7_image 13 = .ok (.getfield 26, 3) := by decide +kernel
theorem dX7_image_16 : decode cX7_image 16 = .ok (.getfield 123, 3) := by decide +kernel
theorem dX7_image_19 : decode cX7_image 19 = .ok (.ifCond .ne 6, 3) := by decide +kernel
theorem dX7_image_22 : decode cX7_image 22 = .ok (.ldc 127, 2) := by decide +kernel
theorem dX7_image_24 : decode cX7_image 24 = .ok (.ireturn, 1) := by decide +kernel
theorem dX7_image_25 : decode cX7_image 25 = .ok (.aload_n 0, 1) := by decide +kernel
theorem dX7_image_26 : decode cX7_image 26 = .ok (.iload_n 1, 1) := by decide +kernel
theorem dX7_image_27 : decode cX7_image 27 = .ok (.invokevirtual 255, 3) := by decide +kernel
theorem dX7_image_30 : decode cX7_image 30 = .ok (.aload_n 0, 1) := by decide +kernel
theorem dX7_image_31 : decode cX7_image 31 = .ok (.getfield 26, 3) := by decide +kernel
theorem dX7_image_34 : decode cX7_image 34 = .ok (.invokevirtual 259, 3) := by decide +kernel
theorem dX7_image_37 : decode cX7_image 37 = .ok (.iconst 1, 1) := by decide +kernel
theorem dX7_image_38 : decode cX7_image 38 = .ok (.ireturn, 1) := by decide +kernel
theorem dX7_restore_0 : decode cX7_restore 0 = .ok (.iload_n 1, 1) := by decide +kernel
theorem dX7_restore_1 : decode cX7_restore 1 = .ok (.iconst 0, 1) := by decide +kernel
theorem dX7_restore_2 : decode cX7_restore 2 = .ok (.iconst 1, 1) := by decide +kernel
theorem dX7_restore_3 : decode cX7_restore 3 = .ok (.invokestatic 97, 3) := by decide +kernel
theorem dX7_restore_6 : decode cX7_restore 6 = .ok (.ifCond .ne 6, 3) := by decide +kernel
theorem dX7_restore_9 : decode cX7_restore 9 = .ok (.ldc 64, 2) := by decide +kernel
theorem dX7_restore_11 : decode cX7_restore 11 = .ok (.ireturn, 1) := by decide +kernel
theorem dX7_restore_12 : decode cX7_restore 12 = .ok (.aload_n 0, 1) := by decide +kernel
theorem dX7_restore_13 : decode cX7_restore 13 = .ok (.iload_n 1, 1) := by decide +kernel
theorem dX7_restore_14 : decode cX7_restore 14 = .ok (.invokevirtual 255, 3) := by decide +kernel
theorem dX7_restore_17 : decode cX7_restore 17 = .ok (.astore_n 2, 1) := by decide +kernel
theorem dX7_restore_18 : decode cX7_restore 18 = .ok (.aload_n 2, 1) := by decide +kernel
theorem dX7_restore_19 : decode cX7_restore 19 = .ok (.getfield 123, 3) := by decide +kernel
theorem dX7_restore_22 : decode cX7_restore 22 = .ok (.ifCond .ne 6, 3) := by decide +kernel
theorem dX7_restore_25 : decode cX7_restore 25 = .ok (.ldc 127, 2) := by decide +kernel
theorem dX7_restore_27 : decode cX7_restore 27 = .ok (.ireturn, 1) := by decide +kernel
theorem dX7_restore_28 : decode cX7_restore 28 = .ok (.aload_n 0, 1) := by decide +kernel
theorem dX7_restore_29 : decode cX7_restore 29 = .ok (.getfield 26, 3) := by decide +kernel
theorem dX7_restore_32 : decode cX7_restore 32 = .ok (.aload_n 2, 1) := by decide +kernel
theorem dX7_restore_33 : decode cX7_restore 33 = .ok (.invokevirtual 259, 3) := by decide +kernel
theorem dX7_restore_36 : decode cX7_restore 36 = .ok (.aload_n 0, 1) := by decide +kernel
theorem dX7_restore_37 : decode cX7_restore 37 = .ok (.getfield 39, 3) := by decide +kernel
theorem dX7_restore_40 : decode cX7_restore 40 = .ok (.invokevirtual 117, 3) := by decide +kernel
theorem dX7_restore_43 : decode cX7_restore 43 = .ok (.iconst 1, 1) := by decide +kernel
theorem dX7_restore_44 : decode cX7_restore 44 = .ok (.ireturn, 1) := by decide +kernel
theorem dX7_kind_0 : decode cX7_kind 0 = .ok (.aload_n 0, 1) := by decide +kernel
theorem dX7_kind_1 : decode cX7_kind 1 = .ok (.getfield 26, 3) := by decide +kernel
theorem dX7_kind_4 : decode cX7_kind 4 = .ok (.iload_n 1, 1) := by decide +kernel
theorem dX7_kind_5 : decode cX7_kind 5 = .ok (.invokevirtual 141, 3) := by decide +kernel
theorem dX7_kind_8 : decode cX7_kind 8 = .ok (.ifCond .eq 15, 3) := by decide +kernel
theorem dX7_kind_11 : decode cX7_kind 11 = .ok (.aload_n 0, 1) := by decide +kernel
theorem dX7_kind_12 : decode cX7_kind 12 = .ok (.getfield 26, 3) := by decide +kernel
theorem dX7_kind_15 : decode cX7_kind 15 = .ok (.getfield 262, 3) := by decide +kernel
theorem dX7_kind_18 : decode cX7_kind 18 = .ok (.iload_n 1, 1) := by decide +kernel
theorem dX7_kind_19 : decode cX7_kind 19 = .ok (.iaload, 1) := by decide +kernel
theorem dX7_kind_20 : decode cX7_kind 20 = .ok (.goto 5, 3) := by decide +kernel
theorem dX7_kind_23 : decode cX7_kind 23 = .ok (.ldc 64, 2) := by decide +kernel
theorem dX7_kind_25 : decode cX7_kind 25 = .ok (.ireturn, 1) := by decide +kernel
theorem dX7_as_0 : decode cX7_as 0 = .ok (.aload_n 0, 1) := by decide +kernel
theorem dX7_as_1 : decode cX7_as 1 = .ok (.getfield 26, 3) := by decide +kernel
theorem dX7_as_4 : decode cX7_as 4 = .ok (.iload_n 1, 1) := by decide +kernel
theorem dX7_as_5 : decode cX7_as 5 = .ok (.invokevirtual 141, 3) := by decide +kernel
theorem dX7_as_8 : decode cX7_as 8 = .ok (.ifCond .eq 10, 3) := by decide +kernel
theorem dX7_as_11 : decode cX7_as 11 = .ok (.iload_n 2, 1) := by decide +kernel
theorem dX7_as_12 : decode cX7_as 12 = .ok (.invokestatic 265, 3) := by decide +kernel
theorem dX7_as_15 : decode cX7_as 15 = .ok (.ifCond .ne 6, 3) := by decide +kernel
theorem dX7_as_18 : decode cX7_as 18 = .ok (.ldc 64, 2) := by decide +kernel
theorem dX7_as_20 : decode cX7_as 20 = .ok (.ireturn, 1) := by decide +kernel
theorem dX7_as_21 : decode cX7_as 21 = .ok (.aload_n 0, 1) := by decide +kernel
theorem dX7_as_22 : decode cX7_as 22 = .ok (.getfield 26, 3) := by decide +kernel
theorem dX7_as_25 : decode cX7_as 25 = .ok (.getfield 262, 3) := by decide +kernel
theorem dX7_as_28 : decode cX7_as 28 = .ok (.iload_n 1, 1) := by decide +kernel
theorem dX7_as_29 : decode cX7_as 29 = .ok (.iaload, 1) := by decide +kernel
theorem dX7_as_30 : decode cX7_as 30 = .ok (.iload_n 2, 1) := by decide +kernel
theorem dX7_as_31 : decode cX7_as 31 = .ok (.invokestatic 270, 3) := by decide +kernel
theorem dX7_as_34 : decode cX7_as 34 = .ok (.ifCond .ne 9, 3) := by decide +kernel
theorem dX7_as_37 : decode cX7_as 37 = .ok (.aload_n 0, 1) := by decide +kernel
theorem dX7_as_38 : decode cX7_as 38 = .ok (.iconst 3, 1) := by decide +kernel
theorem dX7_as_39 : decode cX7_as 39 = .ok (.invokevirtual 65, 3) := by decide +kernel
theorem dX7_as_42 : decode cX7_as 42 = .ok (.ireturn, 1) := by decide +kernel
theorem dX7_as_43 : decode cX7_as 43 = .ok (.aload_n 0, 1) := by decide +kernel
theorem dX7_as_44 : decode cX7_as 44 = .ok (.iload_n 1, 1) := by decide +kernel
theorem dX7_as_45 : decode cX7_as 45 = .ok (.invokevirtual 73, 3) := by decide +kernel
theorem dX7_as_48 : decode cX7_as 48 = .ok (.ireturn, 1) := by decide +kernel
theorem dX7_ask_0 : decode cX7_ask 0 = .ok (.aload_n 0, 1) := by decide +kernel
theorem dX7_ask_1 : decode cX7_ask 1 = .ok (.getfield 26, 3) := by decide +kernel
theorem dX7_ask_4 : decode cX7_ask 4 = .ok (.iload_n 1, 1) := by decide +kernel
theorem dX7_ask_5 : decode cX7_ask 5 = .ok (.invokevirtual 141, 3) := by decide +kernel
theorem dX7_ask_8 : decode cX7_ask 8 = .ok (.ifCond .eq 12, 3) := by decide +kernel
theorem dX7_ask_11 : decode cX7_ask 11 = .ok (.iload_n 2, 1) := by decide +kernel
theorem dX7_ask_12 : decode cX7_ask 12 = .ok (.iconst 0, 1) := by decide +kernel
theorem dX7_ask_13 : decode cX7_ask 13 = .ok (.iconst 1, 1) := by decide +kernel
theorem dX7_ask_14 : decode cX7_ask 14 = .ok (.invokestatic 97, 3) := by decide +kernel
theorem dX7_ask_17 : decode cX7_ask 17 = .ok (.ifCond .ne 6, 3) := by decide +kernel
theorem dX7_ask_20 : decode cX7_ask 20 = .ok (.ldc 64, 2) := by decide +kernel
theorem dX7_ask_22 : decode cX7_ask 22 = .ok (.ireturn, 1) := by decide +kernel
theorem dX7_ask_23 : decode cX7_ask 23 = .ok (.aload_n 0, 1) := by decide +kernel
theorem dX7_ask_24 : decode cX7_ask 24 = .ok (.getfield 46, 3) := by decide +kernel
theorem dX7_ask_27 : decode cX7_ask 27 = .ok (.aload_n 0, 1) := by decide +kernel
theorem dX7_ask_28 : decode cX7_ask 28 = .ok (.getfield 26, 3) := by decide +kernel
theorem dX7_ask_31 : decode cX7_ask 31 = .ok (.iload_n 1, 1) := by decide +kernel
theorem dX7_ask_32 : decode cX7_ask 32 = .ok (.iload_n 2, 1) := by decide +kernel
theorem dX7_ask_33 : decode cX7_ask 33 = .ok (.invokevirtual 274, 3) := by decide +kernel
theorem dX7_ask_36 : decode cX7_ask 36 = .ok (.ireturn, 1) := by decide +kernel
theorem dX7_trace_0 : decode cX7_trace 0 = .ok (.iload_n 1, 1) := by decide +kernel
theorem dX7_trace_1 : decode cX7_trace 1 = .ok (.ifCond .lt 26, 3) := by decide +kernel
theorem dX7_trace_4 : decode cX7_trace 4 = .ok (.iload_n 1, 1) := by decide +kernel
theorem dX7_trace_5 : decode cX7_trace 5 = .ok (.aload_n 0, 1) := by decide +kernel
theorem dX7_trace_6 : decode cX7_trace 6 = .ok (.getfield 46, 3) := by decide +kernel
theorem dX7_trace_9 : decode cX7_trace 9 = .ok (.getfield 277, 3) := by decide +kernel
theorem dX7_trace_12 : decode cX7_trace 12 = .ok (.if_icmp .ge 15, 3) := by decide +kernel
theorem dX7_trace_15 : decode cX7_trace 15 = .ok (.aload_n 0, 1) := by decide +kernel
theorem dX7_trace_16 : decode cX7_trace 16 = .ok (.getfield 46, 3) := by decide +kernel
theorem dX7_trace_19 : decode cX7_trace 19 = .ok (.getfield 280, 3) := by decide +kernel
theorem dX7_trace_22 : decode cX7_trace 22 = .ok (.iload_n 1, 1) := by decide +kernel
theorem dX7_trace_23 : decode cX7_trace 23 = .ok (.iaload, 1) := by decide +kernel
theorem dX7_trace_24 : decode cX7_trace 24 = .ok (.goto 5, 3) := by decide +kernel
theorem dX7_trace_27 : decode cX7_trace 27 = .ok (.ldc 108, 2) := by decide +kernel
theorem dX7_trace_29 : decode cX7_trace 29 = .ok (.ireturn, 1) := by decide +kernel
theorem dX7_count_0 : decode cX7_count 0 = .ok (.iload_n 1, 1) := by decide +kernel
theorem dX7_count_1 : decode cX7_count 1 = .ok (.tableswitch 117 0 7 #[47, 55, 63, 71, 79, 90, 101, 109], 47) := by decide +kernel
theorem dX7_count_48 : decode cX7_count 48 = .ok (.aload_n 0, 1) := by decide +kernel
theorem dX7_count_49 : decode cX7_count 49 = .ok (.getfield 10, 3) := by decide +kernel
theorem dX7_count_52 : decode cX7_count 52 = .ok (.invokevirtual 283, 3) := by decide +kernel
theorem dX7_count_55 : decode cX7_count 55 = .ok (.ireturn, 1) := by decide +kernel
theorem dX7_count_56 : decode cX7_count 56 = .ok (.aload_n 0, 1) := by decide +kernel
theorem dX7_count_57 : decode cX7_count 57 = .ok (.getfield 26, 3) := by decide +kernel
theorem dX7_count_60 : decode cX7_count 60 = .ok (.getfield 120, 3) := by decide +kernel
theorem dX7_count_63 : decode cX7_count 63 = .ok (.ireturn, 1) := by decide +kernel
theorem dX7_count_64 : decode cX7_count 64 = .ok (.aload_n 0, 1) := by decide +kernel
theorem dX7_count_65 : decode cX7_count 65 = .ok (.getfield 26, 3) := by decide +kernel
theorem dX7_count_68 : decode cX7_count 68 = .ok (.getfield 286, 3) := by decide +kernel
theorem dX7_count_71 : decode cX7_count 71 = .ok (.ireturn, 1) := by decide +kernel
theorem dX7_count_72 : decode cX7_count 72 = .ok (.aload_n 0, 1) := by decide +kernel
theorem dX7_count_73 : decode cX7_count 73 = .ok (.getfield 26, 3) := by decide +kernel
theorem dX7_count_76 : decode cX7_count 76 = .ok (.getfield 128, 3) := by decide +kernel
theorem dX7_count_79 : decode cX7_count 79 = .ok (.ireturn, 1) := by decide +kernel
theorem dX7_count_80 : decode cX7_count 80 = .ok (.aload_n 0, 1) := by decide +kernel
theorem dX7_count_81 : decode cX7_count 81 = .ok (.getfield 26, 3) := by decide +kernel
theorem dX7_count_84 : decode cX7_count 84 = .ok (.getfield 155, 3) := by decide +kernel
theorem dX7_count_87 : decode cX7_count 87 = .ok (.invokestatic 158, 3) := by decide +kernel
theorem dX7_count_90 : decode cX7_count 90 = .ok (.ireturn, 1) := by decide +kernel
theorem dX7_count_91 : decode cX7_count 91 = .ok (.aload_n 0, 1) := by decide +kernel
theorem dX7_count_92 : decode cX7_count 92 = .ok (.getfield 26, 3) := by decide +kernel
theorem dX7_count_95 : decode cX7_count 95 = .ok (.invokevirtual 289, 3) := by decide +kernel
theorem dX7_count_98 : decode cX7_count 98 = .ok (.invokestatic 158, 3) := by decide +kernel
theorem dX7_count_101 : decode cX7_count 101 = .ok (.ireturn, 1) := by decide +kernel
theorem dX7_count_102 : decode cX7_count 102 = .ok (.aload_n 0, 1) := by decide +kernel
theorem dX7_count_103 : decode cX7_count 103 = .ok (.getfield 39, 3) := by decide +kernel
theorem dX7_count_106 : decode cX7_count 106 = .ok (.getfield 166, 3) := by decide +kernel
theorem dX7_count_109 : decode cX7_count 109 = .ok (.ireturn, 1) := by decide +kernel
theorem dX7_count_110 : decode cX7_count 110 = .ok (.aload_n 0, 1) := by decide +kernel
theorem dX7_count_111 : decode cX7_count 111 = .ok (.getfield 19, 3) := by decide +kernel
theorem dX7_count_114 : decode cX7_count 114 = .ok (.getfield 292, 3) := by decide +kernel
theorem dX7_count_117 : decode cX7_count 117 = .ok (.ireturn, 1) := by decide +kernel
theorem dX7_count_118 : decode cX7_count 118 = .ok (.ldc 64, 2) := by decide +kernel
theorem dX7_count_120 : decode cX7_count 120 = .ok (.ireturn, 1) := by decide +kernel
theorem dX7_status_0 : decode cX7_status 0 = .ok (.aload_n 0, 1) := by decide +kernel
theorem dX7_status_1 : decode cX7_status 1 = .ok (.getfield 54, 3) := by decide +kernel
theorem dX7_status_4 : decode cX7_status 4 = .ok (.ireturn, 1) := by decide +kernel
theorem dX7_found_0 : decode cX7_found 0 = .ok (.aload_n 0, 1) := by decide +kernel
theorem dX7_found_1 : decode cX7_found 1 = .ok (.iload_n 1, 1) := by decide +kernel
theorem dX7_found_2 : decode cX7_found 2 = .ok (.putfield 54, 3) := by decide +kernel
theorem dX7_found_5 : decode cX7_found 5 = .ok (.ldc_w 295, 3) := by decide +kernel
theorem dX7_found_8 : decode cX7_found 8 = .ok (.iload_n 1, 1) := by decide +kernel
theorem dX7_found_9 : decode cX7_found 9 = .ok (.isub, 1) := by decide +kernel
theorem dX7_found_10 : decode cX7_found 10 = .ok (.ireturn, 1) := by decide +kernel
theorem dX7_foundNothing_0 : decode cX7_foundNothing 0 = .ok (.aload_n 0, 1) := by decide +kernel
theorem dX7_foundNothing_1 : decode cX7_foundNothing 1 = .ok (.iconst 0, 1) := by decide +kernel
theorem dX7_foundNothing_2 : decode cX7_foundNothing 2 = .ok (.putfield 54, 3) := by decide +kernel
theorem dX7_foundNothing_5 : decode cX7_foundNothing 5 = .ok (.iload_n 1, 1) := by decide +kernel
theorem dX7_foundNothing_6 : decode cX7_foundNothing 6 = .ok (.ireturn, 1) := by decide +kernel
theorem dX7_imageAt_0 : decode cX7_imageAt 0 = .ok (.iload_n 1, 1) := by decide +kernel
theorem dX7_imageAt_1 : decode cX7_imageAt 1 = .ok (.ifCond .ne 10, 3) := by decide +kernel
theorem dX7_imageAt_4 : decode cX7_imageAt 4 = .ok (.aload_n 0, 1) := by decide +kernel
theorem dX7_imageAt_5 : decode cX7_imageAt 5 = .ok (.getfield 30, 3) := by decide +kernel
theorem dX7_imageAt_8 : decode cX7_imageAt 8 = .ok (.goto 7, 3) := by decide +kernel
theorem dX7_imageAt_11 : decode cX7_imageAt 11 = .ok (.aload_n 0, 1) := by decide +kernel
theorem dX7_imageAt_12 : decode cX7_imageAt 12 = .ok (.getfield 33, 3) := by decide +kernel
theorem dX7_imageAt_15 : decode cX7_imageAt 15 = .ok (.areturn, 1) := by decide +kernel
theorem dX7_isWithin_0 : decode cX7_isWithin 0 = .ok (.iload_n 0, 1) := by decide +kernel
theorem dX7_isWithin_1 : decode cX7_isWithin 1 = .ok (.iload_n 1, 1) := by decide +kernel
theorem dX7_isWithin_2 : decode cX7_isWithin 2 = .ok (.if_icmp .lt 12, 3) := by decide +kernel
theorem dX7_isWithin_5 : decode cX7_isWithin 5 = .ok (.iload_n 0, 1) := by decide +kernel
theorem dX7_isWithin_6 : decode cX7_isWithin 6 = .ok (.iload_n 2, 1) := by decide +kernel
theorem dX7_isWithin_7 : decode cX7_isWithin 7 = .ok (.if_icmp .gt 7, 3) := by decide +kernel
theorem dX7_isWithin_10 : decode cX7_isWithin 10 = .ok (.iconst 1, 1) := by decide +kernel
theorem dX7_isWithin_11 : decode cX7_isWithin 11 = .ok (.goto 4, 3) := by decide +kernel
theorem dX7_isWithin_14 : decode cX7_isWithin 14 = .ok (.iconst 0, 1) := by decide +kernel
theorem dX7_isWithin_15 : decode cX7_isWithin 15 = .ok (.ireturn, 1) := by decide +kernel
theorem dX7_isGoal_0 : decode cX7_isGoal 0 = .ok (.iload_n 0, 1) := by decide +kernel
theorem dX7_isGoal_1 : decode cX7_isGoal 1 = .ok (.iconst 0, 1) := by decide +kernel
theorem dX7_isGoal_2 : decode cX7_isGoal 2 = .ok (.sipush 999, 3) := by decide +kernel
theorem dX7_isGoal_5 : decode cX7_isGoal 5 = .ok (.invokestatic 97, 3) := by decide +kernel
theorem dX7_isGoal_8 : decode cX7_isGoal 8 = .ok (.ifCond .eq 26, 3) := by decide +kernel
theorem dX7_isGoal_11 : decode cX7_isGoal 11 = .ok (.iload_n 1, 1) := by decide +kernel
theorem dX7_isGoal_12 : decode cX7_isGoal 12 = .ok (.iconst 0, 1) := by decide +kernel
theorem dX7_isGoal_13 : decode cX7_isGoal 13 = .ok (.bipush 99, 2) := by decide +kernel
theorem dX7_isGoal_15 : decode cX7_isGoal 15 = .ok (.invokestatic 97, 3) := by decide +kernel
theorem dX7_isGoal_18 : decode cX7_isGoal 18 = .ok (.ifCond .eq 16, 3) := by decide +kernel
theorem dX7_isGoal_21 : decode cX7_isGoal 21 = .ok (.iload_n 2, 1) := by decide +kernel
theorem dX7_isGoal_22 : decode cX7_isGoal 22 = .ok (.iconst 0, 1) := by decide +kernel
theorem dX7_isGoal_23 : decode cX7_isGoal 23 = .ok (.iconst 1, 1) := by decide +kernel
theorem dX7_isGoal_24 : decode cX7_isGoal 24 = .ok (.invokestatic 97, 3) := by decide +kernel
theorem dX7_isGoal_27 : decode cX7_isGoal 27 = .ok (.ifCond .eq 7, 3) := by decide +kernel
theorem dX7_isGoal_30 : decode cX7_isGoal 30 = .ok (.iconst 1, 1) := by decide +kernel
theorem dX7_isGoal_31 : decode cX7_isGoal 31 = .ok (.goto 4, 3) := by decide +kernel
theorem dX7_isGoal_34 : decode cX7_isGoal 34 = .ok (.iconst 0, 1) := by decide +kernel
theorem dX7_isGoal_35 : decode cX7_isGoal 35 = .ok (.ireturn, 1) := by decide +kernel
theorem dX7_manyOrWhich_0 : decode cX7_manyOrWhich 0 = .ok (.iload_n 0, 1) := by decide +kernel
theorem dX7_manyOrWhich_1 : decode cX7_manyOrWhich 1 = .ok (.ldc 108, 2) := by decide +kernel
theorem dX7_manyOrWhich_3 : decode cX7_manyOrWhich 3 = .ok (.if_icmp .ne 6, 3) := by decide +kernel
theorem dX7_manyOrWhich_6 : decode cX7_manyOrWhich 6 = .ok (.ldc 108, 2) := by decide +kernel
theorem dX7_manyOrWhich_8 : decode cX7_manyOrWhich 8 = .ok (.ireturn, 1) := by decide +kernel
theorem dX7_manyOrWhich_9 : decode cX7_manyOrWhich 9 = .ok (.iload_n 1, 1) := by decide +kernel
theorem dX7_manyOrWhich_10 : decode cX7_manyOrWhich 10 = .ok (.ifCond .ne 10, 3) := by decide +kernel
theorem dX7_manyOrWhich_13 : decode cX7_manyOrWhich 13 = .ok (.iload_n 0, 1) := by decide +kernel
theorem dX7_manyOrWhich_14 : decode cX7_manyOrWhich 14 = .ok (.invokestatic 158, 3) := by decide +kernel
theorem dX7_manyOrWhich_17 : decode cX7_manyOrWhich 17 = .ok (.goto 4, 3) := by decide +kernel
theorem dX7_manyOrWhich_20 : decode cX7_manyOrWhich 20 = .ok (.iload_n 0, 1) := by decide +kernel
theorem dX7_manyOrWhich_21 : decode cX7_manyOrWhich 21 = .ok (.ireturn, 1) := by decide +kernel
theorem dX7_greatestDivisor_0 : decode cX7_greatestDivisor 0 = .ok (.iload_n 0, 1) := by decide +kernel
theorem dX7_greatestDivisor_1 : decode cX7_greatestDivisor 1 = .ok (.istore_n 2, 1) := by decide +kernel
theorem dX7_greatestDivisor_2 : decode cX7_greatestDivisor 2 = .ok (.iload_n 1, 1) := by decide +kernel
theorem dX7_greatestDivisor_3 : decode cX7_greatestDivisor 3 = .ok (.istore_n 3, 1) := by decide +kernel
theorem dX7_greatestDivisor_4 : decode cX7_greatestDivisor 4 = .ok (.iconst 0, 1) := by decide +kernel
theorem dX7_greatestDivisor_5 : decode cX7_greatestDivisor 5 = .ok (.istore 4, 2) := by decide +kernel
theorem dX7_greatestDivisor_7 : decode cX7_greatestDivisor 7 = .ok (.iload 4, 2) := by decide +kernel
theorem dX7_greatestDivisor_9 : decode cX7_greatestDivisor 9 = .ok (.bipush 64, 2) := by decide +kernel
theorem dX7_greatestDivisor_11 : decode cX7_greatestDivisor 11 = .ok (.if_icmp .ge 23, 3) := by decide +kernel
theorem dX7_greatestDivisor_14 : decode cX7_greatestDivisor 14 = .ok (.iload_n 3, 1) := by decide +kernel
theorem dX7_greatestDivisor_15 : decode cX7_greatestDivisor 15 = .ok (.ifCond .eq 19, 3) := by decide +kernel
theorem dX7_greatestDivisor_18 : decode cX7_greatestDivisor 18 = .ok (.iload_n 2, 1) := by decide +kernel
theorem dX7_greatestDivisor_19 : decode cX7_greatestDivisor 19 = .ok (.iload_n 3, 1) := by decide +kernel
theorem dX7_greatestDivisor_20 : decode cX7_greatestDivisor 20 = .ok (.irem, 1) := by decide +kernel
theorem dX7_greatestDivisor_21 : decode cX7_greatestDivisor 21 = .ok (.istore 5, 2) := by decide +kernel
theorem dX7_greatestDivisor_23 : decode cX7_greatestDivisor 23 = .ok (.iload_n 3, 1) := by decide +kernel
theorem dX7_greatestDivisor_24 : decode cX7_greatestDivisor 24 = .ok (.istore_n 2, 1) := by decide +kernel
theorem dX7_greatestDivisor_25 : decode cX7_greatestDivisor 25 = .ok (.iload 5, 2) := by decide +kernel
theorem dX7_greatestDivisor_27 : decode cX7_greatestDivisor 27 = .ok (.istore_n 3, 1) := by decide +kernel
theorem dX7_greatestDivisor_28 : decode cX7_greatestDivisor 28 = .ok (.iinc 4 1, 3) := by decide +kernel
theorem dX7_greatestDivisor_31 : decode cX7_greatestDivisor 31 = .ok (.goto (-24), 3) := by decide +kernel
theorem dX7_greatestDivisor_34 : decode cX7_greatestDivisor 34 = .ok (.iload_n 2, 1) := by decide +kernel
theorem dX7_greatestDivisor_35 : decode cX7_greatestDivisor 35 = .ok (.iconst 1, 1) := by decide +kernel
theorem dX7_greatestDivisor_36 : decode cX7_greatestDivisor 36 = .ok (.invokestatic 296, 3) := by decide +kernel
theorem dX7_greatestDivisor_39 : decode cX7_greatestDivisor 39 = .ok (.ireturn, 1) := by decide +kernel
end
section
theorem dX8_init_0 : decode cX8_init 0 = .ok (.aload_n 0, 1) := by decide +kernel
theorem dX8_init_1 : decode cX8_init 1 = .ok (.invokespecial 1, 3) := by decide +kernel
theorem dX8_init_4 : decode cX8_init 4 = .ok (.aload_n 0, 1) := by decide +kernel
theorem dX8_init_5 : decode cX8_init 5 = .ok (.bipush 8, 2) := by decide +kernel
theorem dX8_init_7 : decode cX8_init 7 = .ok (.newarray .int, 2) := by decide +kernel
theorem dX8_init_9 : decode cX8_init 9 = .ok (.putfield 7, 3) := by decide +kernel
theorem dX8_init_12 : decode cX8_init 12 = .ok (.aload_n 0, 1) := by decide +kernel
theorem dX8_init_13 : decode cX8_init 13 = .ok (.bipush 8, 2) := by decide +kernel
theorem dX8_init_15 : decode cX8_init 15 = .ok (.newarray .int, 2) := by decide +kernel
theorem dX8_init_17 : decode cX8_init 17 = .ok (.putfield 13, 3) := by decide +kernel
theorem dX8_init_20 : decode cX8_init 20 = .ok (.aload_n 0, 1) := by decide +kernel
theorem dX8_init_21 : decode cX8_init 21 = .ok (.sipush 320, 3) := by decide +kernel
theorem dX8_init_24 : decode cX8_init 24 = .ok (.newarray .int, 2) := by decide +kernel
theorem dX8_init_26 : decode cX8_init 26 = .ok (.putfield 16, 3) := by decide +kernel
theorem dX8_init_29 : decode cX8_init 29 = .ok (.aload_n 0, 1) := by decide +kernel
theorem dX8_init_30 : decode cX8_init 30 = .ok (.bipush 40, 2) := by decide +kernel
theorem dX8_init_32 : decode cX8_init 32 = .ok (.newarray .int, 2) := by decide +kernel
theorem dX8_init_34 : decode cX8_init 34 = .ok (.putfield 19, 3) := by decide +kernel
theorem dX8_init_37 : decode cX8_init 37 = .ok (.aload_n 0, 1) := by decide +kernel
theorem dX8_init_38 : decode cX8_init 38 = .ok (.bipush 120, 2) := by decide +kernel
theorem dX8_init_40 : decode cX8_init 40 = .ok (.newarray .int, 2) := by decide +kernel
theorem dX8_init_42 : decode cX8_init 42 = .ok (.putfield 22, 3) := by decide +kernel
theorem dX8_init_45 : decode cX8_init 45 = .ok (.aload_n 0, 1) := by decide +kernel
theorem dX8_init_46 : decode cX8_init 46 = .ok (.bipush 68, 2) := by decide +kernel
theorem dX8_init_48 : decode cX8_init 48 = .ok (.newarray .int, 2) := by decide +kernel
theorem dX8_init_50 : decode cX8_init 50 = .ok (.putfield 25, 3) := by decide +kernel
theorem dX8_init_53 : decode cX8_init 53 = .ok (.aload_n 0, 1) := by decide +kernel
theorem dX8_init_54 : decode cX8_init 54 = .ok (.bipush 68, 2) := by decide +kernel
theorem dX8_init_56 : decode cX8_init 56 = .ok (.newarray .int, 2) := by decide +kernel
theorem dX8_init_58 : decode cX8_init 58 = .ok (.putfield 28, 3) := by decide +kernel
theorem dX8_init_61 : decode cX8_init 61 = .ok (.aload_n 0, 1) := by decide +kernel
theorem dX8_init_62 : decode cX8_init 62 = .ok (.sipush 1632, 3) := by decide +kernel
theorem dX8_init_65 : decode cX8_init 65 = .ok (.newarray .int, 2) := by decide +kernel
theorem dX8_init_67 : decode cX8_init 67 = .ok (.putfield 31, 3) := by decide +kernel
theorem dX8_init_70 : decode cX8_init 70 = .ok (.aload_n 0, 1) := by decide +kernel
theorem dX8_init_71 : decode cX8_init 71 = .ok (.sipush 136, 3) := by decide +kernel
theorem dX8_init_74 : decode cX8_init 74 = .ok (.newarray .int, 2) := by decide +kernel
theorem dX8_init_76 : decode cX8_init 76 = .ok (.putfield 34, 3) := by decide +kernel
theorem dX8_init_79 : decode cX8_init 79 = .ok (.aload_n 0, 1) := by decide +kernel
theorem dX8_init_80 : decode cX8_init 80 = .ok (.iconst 2, 1) := by decide +kernel
theorem dX8_init_81 : decode cX8_init 81 = .ok (.newarray .boolean, 2) := by decide +kernel
theorem dX8_init_83 : decode cX8_init 83 = .ok (.putfield 37, 3) := by decide +kernel
theorem dX8_init_86 : decode cX8_init 86 = .ok (.aload_n 0, 1) := by decide +kernel
theorem dX8_init_87 : decode cX8_init 87 = .ok (.bipush 68, 2) := by decide +kernel
theorem dX8_init_89 : decode cX8_init 89 = .ok (.newarray .int, 2) := by decide +kernel
theorem dX8_init_91 : decode cX8_init 91 = .ok (.putfield 41, 3) := by decide +kernel
theorem dX8_init_94 : decode cX8_init 94 = .ok (.aload_n 0, 1) := by decide +kernel
theorem dX8_init_95 : decode cX8_init 95 = .ok (.bipush 100, 2) := by decide +kernel
theorem dX8_init_97 : decode cX8_init 97 = .ok (.newarray .int, 2) := by decide +kernel
theorem dX8_init_99 : decode cX8_init 99 = .ok (.putfield 44, 3) := by decide +kernel
theorem dX8_init_102 : decode cX8_init 102 = .ok (.aload_n 0, 1) := by decide +kernel
theorem dX8_init_103 : decode cX8_init 103 = .ok (.bipush 16, 2) := by decide +kernel
theorem dX8_init_105 : decode cX8_init 105 = .ok (.newarray .int, 2) := by decide +kernel
theorem dX8_init_107 : decode cX8_init 107 = .ok (.putfield 47, 3) := by decide +kernel
theorem dX8_init_110 : decode cX8_init 110 = .ok (.iconst 0, 1) := by decide +kernel
theorem dX8_init_111 : decode cX8_init 111 = .ok (.istore_n 1, 1) := by decide +kernel
theorem dX8_init_112 : decode cX8_init 112 = .ok (.iload_n 1, 1) := by decide +kernel
theorem dX8_init_113 : decode cX8_init 113 = .ok (.bipush 8, 2) := by decide +kernel
theorem dX8_init_115 : decode cX8_init 115 = .ok (.if_icmp .ge 17, 3) := by decide +kernel
theorem dX8_init_118 : decode cX8_init 118 = .ok (.aload_n 0, 1) := by decide +kernel
theorem dX8_init_119 : decode cX8_init 119 = .ok (.getfield 7, 3) := by decide +kernel
theorem dX8_init_122 : decode cX8_init 122 = .ok (.iload_n 1, 1) := by decide +kernel
theorem dX8_init_123 : decode cX8_init 123 = .ok (.ldc 50, 2) := by decide +kernel
theorem dX8_init_125 : decode cX8_init 125 = .ok (.iastore, 1) := by decide +kernel
theorem dX8_init_126 : decode cX8_init 126 = .ok (.iinc 1 1, 3) := by decide +kernel
theorem dX8_init_129 : decode cX8_init 129 = .ok (.goto (-17), 3) := by decide +kernel
theorem dX8_init_132 : decode cX8_init 132 = .ok (.return_, 1) := by decide +kernel
theorem dX8_in_0 : decode cX8_in 0 = .ok (.iload_n 0, 1) := by decide +kernel
theorem dX8_in_1 : decode cX8_in 1 = .ok (.iload_n 1, 1) := by decide +kernel
theorem dX8_in_2 : decode cX8_in 2 = .ok (.if_icmp .lt 12, 3) := by decide +kernel
theorem dX8_in_5 : decode cX8_in 5 = .ok (.iload_n 0, 1) := by decide +kernel
theorem dX8_in_6 : decode cX8_in 6 = .ok (.iload_n 2, 1) := by decide +kernel
theorem dX8_in_7 : decode cX8_in 7 = .ok (.if_icmp .gt 7, 3) := by decide +kernel
theorem dX8_in_10 : decode cX8_in 10 = .ok (.iconst 1, 1) := by decide +kernel
theorem dX8_in_11 : decode cX8_in 11 = .ok (.goto 4, 3) := by decide +kernel
theorem dX8_in_14 : decode cX8_in 14 = .ok (.iconst 0, 1) := by decide +kernel
theorem dX8_in_15 : decode cX8_in 15 = .ok (.ireturn, 1) := by decide +kernel
theorem dX8_has_0 : decode cX8_has 0 = .ok (.iload_n 0, 1) := by decide +kernel
theorem dX8_has_1 : decode cX8_has 1 = .ok (.iload_n 1, 1) := by decide +kernel
theorem dX8_has_2 : decode cX8_has 2 = .ok (.ishr, 1) := by decide +kernel
theorem dX8_has_3 : decode cX8_has 3 = .ok (.iconst 1, 1) := by decide +kernel
theorem dX8_has_4 : decode cX8_has 4 = .ok (.iand, 1) := by decide +kernel
theorem dX8_has_5 : decode cX8_has 5 = .ok (.iconst 1, 1) := by decide +kernel
theorem dX8_has_6 : decode cX8_has 6 = .ok (.if_icmp .ne 7, 3) := by decide +kernel
theorem dX8_has_9 : decode cX8_has 9 = .ok (.iconst 1, 1) := by decide +kernel
theorem dX8_has_10 : decode cX8_has 10 = .ok (.goto 4, 3) := by decide +kernel
theorem dX8_has_13 : decode cX8_has 13 = .ok (.iconst 0, 1) := by decide +kernel
theorem dX8_has_14 : decode cX8_has 14 = .ok (.ireturn, 1) := by decide +kernel
theorem dX8_ones_0 : decode cX8_ones 0 = .ok (.iconst 0, 1) := by decide +kernel
theorem dX8_ones_1 : decode cX8_ones 1 = .ok (.istore_n 1, 1) := by decide +kernel
theorem dX8_ones_2 : decode cX8_ones 2 = .ok (.iconst 0, 1) := by decide +kernel
theorem dX8_ones_3 : decode cX8_ones 3 = .ok (.istore_n 2, 1) := by decide +kernel
theorem dX8_ones_4 : decode cX8_ones 4 = .ok (.iload_n 2, 1) := by decide +kernel
theorem dX8_ones_5 : decode cX8_ones 5 = .ok (.bipush 8, 2) := by decide +kernel
theorem dX8_ones_7 : decode cX8_ones 7 = .ok (.if_icmp .ge 17, 3) := by decide +kernel
theorem dX8_ones_10 : decode cX8_ones 10 = .ok (.iload_n 1, 1) := by decide +kernel
theorem dX8_ones_11 : decode cX8_ones 11 = .ok (.iload_n 0, 1) := by decide +kernel
theorem dX8_ones_12 : decode cX8_ones 12 = .ok (.iload_n 2, 1) := by decide +kernel
theorem dX8_ones_13 : decode cX8_ones 13 = .ok (.ishr, 1) := by decide +kernel
theorem dX8_ones_14 : decode cX8_ones 14 = .ok (.iconst 1, 1) := by decide +kernel
theorem dX8_ones_15 : decode cX8_ones 15 = .ok (.iand, 1) := by decide +kernel
theorem dX8_ones_16 : decode cX8_ones 16 = .ok (.iadd, 1) := by decide +kernel
theorem dX8_ones_17 : decode cX8_ones 17 = .ok (.istore_n 1, 1) := by decide +kernel
theorem dX8_ones_18 : decode cX8_ones 18 = .ok (.iinc 2 1, 3) := by decide +kernel
theorem dX8_ones_21 : decode cX8_ones 21 = .ok (.goto (-17), 3) := by decide +kernel
theorem dX8_ones_24 : decode cX8_ones 24 = .ok (.iload_n 1, 1) := by decide +kernel
theorem dX8_ones_25 : decode cX8_ones 25 = .ok (.ireturn, 1) := by decide +kernel
theorem dX8_found_0 : decode cX8_found 0 = .ok (.aload_n 0, 1) := by decide +kernel
theorem dX8_found_1 : decode cX8_found 1 = .ok (.iload_n 1, 1) := by decide +kernel
theorem dX8_found_2 : decode cX8_found 2 = .ok (.putfield 51, 3) := by decide +kernel
theorem dX8_found_5 : decode cX8_found 5 = .ok (.ldc 55, 2) := by decide +kernel
theorem dX8_found_7 : decode cX8_found 7 = .ok (.iload_n 1, 1) := by decide +kernel
theorem dX8_found_8 : decode cX8_found 8 = .ok (.isub, 1) := by decide +kernel
theorem dX8_found_9 : decode cX8_found 9 = .ok (.ireturn, 1) := by decide +kernel
theorem dX8_well_0 : decode cX8_well 0 = .ok (.aload_n 0, 1) := by decide +kernel
theorem dX8_well_1 : decode cX8_well 1 = .ok (.iconst 0, 1) := by decide +kernel
theorem dX8_well_2 : decode cX8_well 2 = .ok (.putfield 51, 3) := by decide +kernel
theorem dX8_well_5 : decode cX8_well 5 = .ok (.iload_n 1, 1) := by decide +kernel
theorem dX8_well_6 : decode cX8_well 6 = .ok (.ireturn, 1) := by decide +kernel
theorem dX8_copies_0 : decode cX8_copies 0 = .ok (.iconst 0, 1) := by decide +kernel
theorem dX8_copies_1 : decode cX8_copies 1 = .ok (.istore 4, 2) := by decide +kernel
theorem dX8_copies_3 : decode cX8_copies 3 = .ok (.iload 4, 2) := by decide +kernel
theorem dX8_copies_5 : decode cX8_copies 5 = .ok (.bipush 68, 2) := by decide +kernel
theorem dX8_copies_7 : decode cX8_copies 7 = .ok (.if_icmp .ge 21, 3) := by decide +kernel
theorem dX8_copies_10 : decode cX8_copies 10 = .ok (.aload_n 2, 1) := by decide +kernel
theorem dX8_copies_11 : decode cX8_copies 11 = .ok (.iload_n 3, 1) := by decide +kernel
theorem dX8_copies_12 : decode cX8_copies 12 = .ok (.iload 4, 2) := by decide +kernel
theorem dX8_copies_14 : decode cX8_copies 14 = .ok (.iadd, 1) := by decide +kernel
theorem dX8_copies_15 : decode cX8_copies 15 = .ok (.aload_n 0, 1) := by decide +kernel
theorem dX8_copies_16 : decode cX8_copies 16 = .ok (.iload_n 1, 1) := by decide +kernel
theorem dX8_copies_17 : decode cX8_copies 17 = .ok (.iload 4, 2) := by decide +kernel
theorem dX8_copies_19 : decode cX8_copies 19 = .ok (.iadd, 1) := by decide +kernel
theorem dX8_copies_20 : decode cX8_copies 20 = .ok (.iaload, 1) := by decide +kernel
theorem dX8_copies_21 : decode cX8_copies 21 = .ok (.iastore, 1) := by decide +kernel
theorem dX8_copies_22 : decode cX8_copies 22 = .ok (.iinc 4 1, 3) := by decide +kernel
theorem dX8_copies_25 : decode cX8_copies 25 = .ok (.goto (-22), 3) := by decide +kernel
theorem dX8_copies_28 : decode cX8_copies 28 = .ok (.return_, 1) := by decide +kernel
theorem dX8_isRow_0 : decode cX8_isRow 0 = .ok (.iload_n 0, 1) := by decide +kernel
theorem dX8_isRow_1 : decode cX8_isRow 1 = .ok (.iconst 0, 1) := by decide +kernel
theorem dX8_isRow_2 : decode cX8_isRow 2 = .ok (.bipush 7, 2) := by decide +kernel
theorem dX8_isRow_4 : decode cX8_isRow 4 = .ok (.invokestatic 56, 3) := by decide +kernel
theorem dX8_isRow_7 : decode cX8_isRow 7 = .ok (.ireturn, 1) := by decide +kernel
theorem dX8_isMissing_0 : decode cX8_isMissing 0 = .ok (.aload_n 0, 1) := by decide +kernel
theorem dX8_isMissing_1 : decode cX8_isMissing 1 = .ok (.getfield 7, 3) := by decide +kernel
theorem dX8_isMissing_4 : decode cX8_isMissing 4 = .ok (.iload_n 1, 1) := by decide +kernel
theorem dX8_isMissing_5 : decode cX8_isMissing 5 = .ok (.iaload, 1) := by decide +kernel
theorem dX8_isMissing_6 : decode cX8_isMissing 6 = .ok (.ldc 50, 2) := by decide +kernel
theorem dX8_isMissing_8 : decode cX8_isMissing 8 = .ok (.if_icmp .ne 7, 3) := by decide +kernel
theorem dX8_isMissing_11 : decode cX8_isMissing 11 = .ok (.iconst 1, 1) := by decide +kernel
theorem dX8_isMissing_12 : decode cX8_isMissing 12 = .ok (.goto 4, 3) := by decide +kernel
theorem dX8_isMissing_15 : decode cX8_isMissing 15 = .ok (.iconst 0, 1) := by decide +kernel
theorem dX8_isMissing_16 : decode cX8_isMissing 16 = .ok (.ireturn, 1) := by decide +kernel
theorem dX8_cut_0 : decode cX8_cut 0 = .ok (.iload_n 0, 1) := by decide +kernel
theorem dX8_cut_1 : decode cX8_cut 1 = .ok (.ifCond .ne 13, 3) := by decide +kernel
theorem dX8_cut_4 : decode cX8_cut 4 = .ok (.iload_n 1, 1) := by decide +kernel
theorem dX8_cut_5 : decode cX8_cut 5 = .ok (.bipush 24, 2) := by decide +kernel
theorem dX8_cut_7 : decode cX8_cut 7 = .ok (.ishl, 1) := by decide +kernel
theorem dX8_cut_8 : decode cX8_cut 8 = .ok (.bipush 24, 2) := by decide +kernel
theorem dX8_cut_10 : decode cX8_cut 10 = .ok (.ishr, 1) := by decide +kernel
theorem dX8_cut_11 : decode cX8_cut 11 = .ok (.goto 19, 3) := by decide +kernel
theorem dX8_cut_14 : decode cX8_cut 14 = .ok (.iload_n 0, 1) := by decide +kernel
theorem dX8_cut_15 : decode cX8_cut 15 = .ok (.iconst 1, 1) := by decide +kernel
theorem dX8_cut_16 : decode cX8_cut 16 = .ok (.if_icmp .ne 13, 3) := by decide +kernel
theorem dX8_cut_19 : decode cX8_cut 19 = .ok (.iload_n 1, 1) := by decide +kernel
theorem dX8_cut_20 : decode cX8_cut 20 = .ok (.bipush 16, 2) := by decide +kernel
theorem dX8_cut_22 : decode cX8_cut 22 = .ok (.ishl, 1) := by decide +kernel
theorem dX8_cut_23 : decode cX8_cut 23 = .ok (.bipush 16, 2) := by decide +kernel
theorem dX8_cut_25 : decode cX8_cut 25 = .ok (.ishr, 1) := by decide +kernel
theorem dX8_cut_26 : decode cX8_cut 26 = .ok (.goto 4, 3) := by decide +kernel
theorem dX8_cut_29 : decode cX8_cut 29 = .ok (.iload_n 1, 1) := by decide +kernel
theorem dX8_cut_30 : decode cX8_cut 30 = .ok (.ireturn, 1) := by decide +kernel
theorem dX8_row_0 : decode cX8_row 0 = .ok (.iload_n 1, 1) := by decide +kernel
theorem dX8_row_1 : decode cX8_row 1 = .ok (.invokestatic 60, 3) := by decide +kernel
theorem dX8_row_4 : decode cX8_row 4 = .ok (.ifCond .eq 18, 3) := by decide +kernel
theorem dX8_row_7 : decode cX8_row 7 = .ok (.iload_n 2, 1) := by decide +kernel
theorem dX8_row_8 : decode cX8_row 8 = .ok (.iconst 0, 1) := by decide +kernel
theorem dX8_row_9 : decode cX8_row 9 = .ok (.iconst 2, 1) := by decide +kernel
theorem dX8_row_10 : decode cX8_row 10 = .ok (.invokestatic 56, 3) := by decide +kernel
theorem dX8_row_13 : decode cX8_row 13 = .ok (.ifCond .eq 9, 3) := by decide +kernel
theorem dX8_row_16 : decode cX8_row 16 = .ok (.iload_n 3, 1) := by decide +kernel
theorem dX8_row_17 : decode cX8_row 17 = .ok (.bipush 40, 2) := by decide +kernel
theorem dX8_row_19 : decode cX8_row 19 = .ok (.if_icmp .le 6, 3) := by decide +kernel
theorem dX8_row_22 : decode cX8_row 22 = .ok (.ldc 64, 2) := by decide +kernel
theorem dX8_row_24 : decode cX8_row 24 = .ok (.ireturn, 1) := by decide +kernel
theorem dX8_row_25 : decode cX8_row 25 = .ok (.iload_n 3, 1) := by decide +kernel
theorem dX8_row_26 : decode cX8_row 26 = .ok (.ifCond .ge 9, 3) := by decide +kernel
theorem dX8_row_29 : decode cX8_row 29 = .ok (.aload_n 0, 1) := by decide +kernel
theorem dX8_row_30 : decode cX8_row 30 = .ok (.iconst 4, 1) := by decide +kernel
theorem dX8_row_31 : decode cX8_row 31 = .ok (.invokevirtual 65, 3) := by decide +kernel
theorem dX8_row_34 : decode cX8_row 34 = .ok (.ireturn, 1) := by decide +kernel
theorem dX8_row_35 : decode cX8_row 35 = .ok (.aload_n 0, 1) := by decide +kernel
theorem dX8_row_36 : decode cX8_row 36 = .ok (.getfield 7, 3) := by decide +kernel
theorem dX8_row_39 : decode cX8_row 39 = .ok (.iload_n 1, 1) := by decide +kernel
theorem dX8_row_40 : decode cX8_row 40 = .ok (.iload_n 2, 1) := by decide +kernel
theorem dX8_row_41 : decode cX8_row 41 = .ok (.iastore, 1) := by decide +kernel
theorem dX8_row_42 : decode cX8_row 42 = .ok (.aload_n 0, 1) := by decide +kernel
theorem dX8_row_43 : decode cX8_row 43 = .ok (.getfield 13, 3) := by decide +kernel
theorem dX8_row_46 : decode cX8_row 46 = .ok (.iload_n 1, 1) := by decide +kernel
theorem dX8_row_47 : decode cX8_row 47 = .ok (.iload_n 3, 1) := by decide +kernel
theorem dX8_row_48 : decode cX8_row 48 = .ok (.iastore, 1) := by decide +kernel
theorem dX8_row_49 : decode cX8_row 49 = .ok (.iconst 0, 1) := by decide +kernel
theorem dX8_row_50 : decode cX8_row 50 = .ok (.istore 4, 2) := by decide +kernel
theorem dX8_row_52 : decode cX8_row 52 = .ok (.iload 4, 2) := by decide +kernel
theorem dX8_row_54 : decode cX8_row 54 = .ok (.bipush 40, 2) := by decide +kernel
theorem dX8_row_56 : decode cX8_row 56 = .ok (.if_icmp .ge 22, 3) := by decide +kernel
theorem dX8_row_59 : decode cX8_row 59 = .ok (.aload_n 0, 1) := by decide +kernel
theorem dX8_row_60 : decode cX8_row 60 = .ok (.getfield 16, 3) := by decide +kernel
theorem dX8_row_63 : decode cX8_row 63 = .ok (.bipush 40, 2) := by decide +kernel
theorem dX8_row_65 : decode cX8_row 65 = .ok (.iload_n 1, 1) := by decide +kernel
theorem dX8_row_66 : decode cX8_row 66 = .ok (.imul, 1) := by decide +kernel
theorem dX8_row_67 : decode cX8_row 67 = .ok (.iload 4, 2) := by decide +kernel
theorem dX8_row_69 : decode cX8_row 69 = .ok (.iadd, 1) := by decide +kernel
theorem dX8_row_70 : decode cX8_row 70 = .ok (.iconst 0, 1) := by decide +kernel
theorem dX8_row_71 : decode cX8_row 71 = .ok (.iastore, 1) := by decide +kernel
theorem dX8_row_72 : decode cX8_row 72 = .ok (.iinc 4 1, 3) := by decide +kernel
theorem dX8_row_75 : decode cX8_row 75 = .ok (.goto (-23), 3) := by decide +kernel
theorem dX8_row_78 : decode cX8_row 78 = .ok (.aload_n 0, 1) := by decide +kernel
theorem dX8_row_79 : decode cX8_row 79 = .ok (.iload_n 3, 1) := by decide +kernel
theorem dX8_row_80 : decode cX8_row 80 = .ok (.invokevirtual 69, 3) := by decide +kernel
theorem dX8_row_83 : decode cX8_row 83 = .ok (.ireturn, 1) := by decide +kernel
theorem dX8_set_0 : decode cX8_set 0 = .ok (.iload_n 1, 1) := by decide +kernel
theorem dX8_set_1 : decode cX8_set 1 = .ok (.invokestatic 60, 3) := by decide +kernel
theorem dX8_set_4 : decode cX8_set 4 = .ok (.ifCond .ne 6, 3) := by decide +kernel
theorem dX8_set_7 : decode cX8_set 7 = .ok (.ldc 64, 2) := by decide +kernel
theorem dX8_set_9 : decode cX8_set 9 = .ok (.ireturn, 1) := by decide +kernel
theorem dX8_set_10 : decode cX8_set 10 = .ok (.aload_n 0, 1) := by decide +kernel
theorem dX8_set_11 : decode cX8_set 11 = .ok (.iload_n 1, 1) := by decide +kernel
theorem dX8_set_12 : decode cX8_set 12 = .ok (.invokevirtual 72, 3) := by decide +kernel
theorem dX8_set_15 : decode cX8_set 15 = .ok (.ifCond .eq 9, 3) := by decide +kernel
theorem dX8_set_18 : decode cX8_set 18 = .ok (.aload_n 0, 1) := by decide +kernel
theorem dX8_set_19 : decode cX8_set 19 = .ok (.iconst 1, 1) := by decide +kernel
theorem dX8_set_20 : decode cX8_set 20 = .ok (.invokevirtual 65, 3) := by decide +kernel
theorem dX8_set_23 : decode cX8_set 23 = .ok (.ireturn, 1) := by decide +kernel
theorem dX8_set_24 : decode cX8_set 24 = .ok (.iload_n 2, 1) := by decide +kernel
theorem dX8_set_25 : decode cX8_set 25 = .ok (.iconst 0, 1) := by decide +kernel
theorem dX8_set_26 : decode cX8_set 26 = .ok (.aload_n 0, 1) := by decide +kernel
theorem dX8_set_27 : decode cX8_set 27 = .ok (.getfield 13, 3) := by decide +kernel
theorem dX8_set_30 : decode cX8_set 30 = .ok (.iload_n 1, 1) := by decide +kernel
theorem dX8_set_31 : decode cX8_set 31 = .ok (.iaload, 1) := by decide +kernel
theorem dX8_set_32 : decode cX8_set 32 = .ok (.iconst 1, 1) := by decide +kernel
theorem dX8_set_33 : decode cX8_set 33 = .ok (.isub, 1) := by decide +kernel
theorem dX8_set_34 : decode cX8_set 34 = .ok (.invokestatic 56, 3) := by decide +kernel
theorem dX8_set_37 : decode cX8_set 37 = .ok (.ifCond .ne 9, 3) := by decide +kernel
theorem dX8_set_40 : decode cX8_set 40 = .ok (.aload_n 0, 1) := by decide +kernel
theorem dX8_set_41 : decode cX8_set 41 = .ok (.iconst 2, 1) := by decide +kernel
theorem dX8_set_42 : decode cX8_set 42 = .ok (.invokevirtual 65, 3) := by decide +kernel
theorem dX8_set_45 : decode cX8_set 45 = .ok (.ireturn, 1) := by decide +kernel
theorem dX8_set_46 : decode cX8_set 46 = .ok (.aload_n 0, 1) := by decide +kernel
theorem dX8_set_47 : decode cX8_set 47 = .ok (.getfield 16, 3) := by decide +kernel
theorem dX8_set_50 : decode cX8_set 50 = .ok (.bipush 40, 2) := by decide +kernel
theorem dX8_set_52 : decode cX8_set 52 = .ok (.iload_n 1, 1) := by decide +kernel
theorem dX8_set_53 : decode cX8_set 53 = .ok (.imul, 1) := by decide +kernel
theorem dX8_set_54 : decode cX8_set 54 = .ok (.iload_n 2, 1) := by decide +kernel
theorem dX8_set_55 : decode cX8_set 55 = .ok (.iadd, 1) := by decide +kernel
theorem dX8_set_56 : decode cX8_set 56 = .ok (.aload_n 0, 1) := by decide +kernel
theorem dX8_set_57 : decode cX8_set 57 = .ok (.getfield 7, 3) := by decide +kernel
theorem dX8_set_60 : decode cX8_set 60 = .ok (.iload_n 1, 1) := by decide +kernel
theorem dX8_set_61 : decode cX8_set 61 = .ok (.iaload, 1) := by decide +kernel
theorem dX8_set_62 : decode cX8_set 62 = .ok (.iload_n 3, 1) := by decide +kernel
theorem dX8_set_63 : decode cX8_set 63 = .ok (.invokestatic 75, 3) := by decide +kernel
theorem dX8_set_66 : decode cX8_set 66 = .ok (.iastore, 1) := by decide +kernel
theorem dX8_set_67 : decode cX8_set 67 = .ok (.aload_n 0, 1) := by decide +kernel
theorem dX8_set_68 : decode cX8_set 68 = .ok (.aload_n 0, 1) := by decide +kernel
theorem dX8_set_69 : decode cX8_set 69 = .ok (.getfield 16, 3) := by decide +kernel
theorem dX8_set_72 : decode cX8_set 72 = .ok (.bipush 40, 2) := by decide +kernel
theorem dX8_set_74 : decode cX8_set 74 = .ok (.iload_n 1, 1) := by decide +kernel
theorem dX8_set_75 : decode cX8_set 75 = .ok (.imul, 1) := by decide +kernel
theorem dX8_set_76 : decode cX8_set 76 = .ok (.iload_n 2, 1) := by decide +kernel
theorem dX8_set_77 : decode cX8_set 77 = .ok (.iadd, 1) := by decide +kernel
theorem dX8_set_78 : decode cX8_set 78 = .ok (.iaload, 1) := by decide +kernel
theorem dX8_set_79 : decode cX8_set 79 = .ok (.invokevirtual 69, 3) := by decide +kernel
theorem dX8_set_82 : decode cX8_set 82 = .ok (.ireturn, 1) := by decide +kernel
theorem dX8_isPart_0 : decode cX8_isPart 0 = .ok (.iload_n 2, 1) := by decide +kernel
theorem dX8_isPart_1 : decode cX8_isPart 1 = .ok (.ifCond .lt 33, 3) := by decide +kernel
theorem dX8_isPart_4 : decode cX8_isPart 4 = .ok (.iload_n 3, 1) := by decide +kernel
theorem dX8_isPart_5 : decode cX8_isPart 5 = .ok (.ifCond .lt 29, 3) := by decide +kernel
theorem dX8_isPart_8 : decode cX8_isPart 8 = .ok (.iload_n 2, 1) := by decide +kernel
theorem dX8_isPart_9 : decode cX8_isPart 9 = .ok (.aload_n 0, 1) := by decide +kernel
theorem dX8_isPart_10 : decode cX8_isPart 10 = .ok (.getfield 13, 3) := by decide +kernel
theorem dX8_isPart_13 : decode cX8_isPart 13 = .ok (.iload_n 1, 1) := by decide +kernel
theorem dX8_isPart_14 : decode cX8_isPart 14 = .ok (.iaload, 1) := by decide +kernel
theorem dX8_isPart_15 : decode cX8_isPart 15 = .ok (.if_icmp .gt 19, 3) := by decide +kernel
theorem dX8_isPart_18 : decode cX8_isPart 18 = .ok (.iload_n 3, 1) := by decide +kernel
theorem dX8_isPart_19 : decode cX8_isPart 19 = .ok (.aload_n 0, 1) := by decide +kernel
theorem dX8_isPart_20 : decode cX8_isPart 20 = .ok (.getfield 13, 3) := by decide +kernel
theorem dX8_isPart_23 : decode cX8_isPart 23 = .ok (.iload_n 1, 1) := by decide +kernel
theorem dX8_isPart_24 : decode cX8_isPart 24 = .ok (.iaload, 1) := by decide +kernel
theorem dX8_isPart_25 : decode cX8_isPart 25 = .ok (.iload_n 2, 1) := by decide +kernel
theorem dX8_isPart_26 : decode cX8_isPart 26 = .ok (.isub, 1) := by decide +kernel
theorem dX8_isPart_27 : decode cX8_isPart 27 = .ok (.if_icmp .gt 7, 3) := by decide +kernel
theorem dX8_isPart_30 : decode cX8_isPart 30 = .ok (.iconst 1, 1) := by decide +kernel
theorem dX8_isPart_31 : decode cX8_isPart 31 = .ok (.goto 4, 3) := by decide +kernel
theorem dX8_isPart_34 : decode cX8_isPart 34 = .ok (.iconst 0, 1) := by decide +kernel
theorem dX8_isPart_35 : decode cX8_isPart 35 = .ok (.ireturn, 1) := by decide +kernel
theorem dX8_copy_0 : decode cX8_copy 0 = .ok (.iload_n 1, 1) := by decide +kernel
theorem dX8_copy_1 : decode cX8_copy 1 = .ok (.invokestatic 60, 3) := by decide +kernel
theorem dX8_copy_4 : decode cX8_copy 4 = .ok (.ifCond .eq 10, 3) := by decide +kernel
theorem dX8_copy_7 : decode cX8_copy 7 = .ok (.iload_n 3, 1) := by decide +kernel
theorem dX8_copy_8 : decode cX8_copy 8 = .ok (.invokestatic 60, 3) := by decide +kernel
theorem dX8_copy_11 : decode cX8_copy 11 = .ok (.ifCond .ne 6, 3) := by decide +kernel
theorem dX8_copy_14 : decode cX8_copy 14 = .ok (.ldc 64, 2) := by decide +kernel
theorem dX8_copy_16 : decode cX8_copy 16 = .ok (.ireturn, 1) := by decide +kernel
theorem dX8_copy_17 : decode cX8_copy 17 = .ok (.aload_n 0, 1) := by decide +kernel
theorem dX8_copy_18 : decode cX8_copy 18 = .ok (.iload_n 1, 1) := by decide +kernel
theorem dX8_copy_19 : decode cX8_copy 19 = .ok (.invokevirtual 72, 3) := by decide +kernel
theorem dX8_copy_22 : decode cX8_copy 22 = .ok (.ifCond .ne 11, 3) := by decide +kernel
theorem dX8_copy_25 : decode cX8_copy 25 = .ok (.aload_n 0, 1) := by decide +kernel
theorem dX8_copy_26 : decode cX8_copy 26 = .ok (.iload_n 3, 1) := by decide +kernel
theorem dX8_copy_27 : decode cX8_copy 27 = .ok (.invokevirtual 72, 3) := by decide +kernel
theorem dX8_copy_30 : decode cX8_copy 30 = .ok (.ifCond .eq 9, 3) := by decide +kernel
theorem dX8_copy_33 : decode cX8_copy 33 = .ok (.aload_n 0, 1) := by decide +kernel
theorem dX8_copy_34 : decode cX8_copy 34 = .ok (.iconst 1, 1) := by decide +kernel
theorem dX8_copy_35 : decode cX8_copy 35 = .ok (.invokevirtual 65, 3) := by decide +kernel
theorem dX8_copy_38 : decode cX8_copy 38 = .ok (.ireturn, 1) := by decide +kernel
theorem dX8_copy_39 : decode cX8_copy 39 = .ok (.aload_n 0, 1) := by decide +kernel
theorem dX8_copy_40 : decode cX8_copy 40 = .ok (.getfield 7, 3) := by decide +kernel
theorem dX8_copy_43 : decode cX8_copy 43 = .ok (.iload_n 1, 1) := by decide +kernel
theorem dX8_copy_44 : decode cX8_copy 44 = .ok (.iaload, 1) := by decide +kernel
theorem dX8_copy_45 : decode cX8_copy 45 = .ok (.aload_n 0, 1) := by decide +kernel
theorem dX8_copy_46 : decode cX8_copy 46 = .ok (.getfield 7, 3) := by decide +kernel
theorem dX8_copy_49 : decode cX8_copy 49 = .ok (.iload_n 3, 1) := by decide +kernel
theorem dX8_copy_50 : decode cX8_copy 50 = .ok (.iaload, 1) := by decide +kernel
theorem dX8_copy_51 : decode cX8_copy 51 = .ok (.if_icmp .eq 9, 3) := by decide +kernel
theorem dX8_copy_54 : decode cX8_copy 54 = .ok (.aload_n 0, 1) := by decide +kernel
theorem dX8_copy_55 : decode cX8_copy 55 = .ok (.iconst 5, 1) := by decide +kernel
theorem dX8_copy_56 : decode cX8_copy 56 = .ok (.invokevirtual 65, 3) := by decide +kernel
theorem dX8_copy_59 : decode cX8_copy 59 = .ok (.ireturn, 1) := by decide +kernel
theorem dX8_copy_60 : decode cX8_copy 60 = .ok (.aload_n 0, 1) := by decide +kernel
theorem dX8_copy_61 : decode cX8_copy 61 = .ok (.iload_n 1, 1) := by decide +kernel
theorem dX8_copy_62 : decode cX8_copy 62 = .ok (.iload_n 2, 1) := by decide +kernel
theorem dX8_copy_63 : decode cX8_copy 63 = .ok (.iload 5, 2) := by decide +kernel
theorem dX8_copy_65 : decode cX8_copy 65 = .ok (.invokevirtual 79, 3) := by decide +kernel
theorem dX8_copy_68 : decode cX8_copy 68 = .ok (.ifCond .eq 15, 3) := by decide +kernel
theorem dX8_copy_71 : decode cX8_copy 71 = .ok (.aload_n 0, 1) := by decide +kernel
theorem dX8_copy_72 : decode cX8_copy 72 = .ok (.iload_n 3, 1) := by decide +kernel
theorem dX8_copy_73 : decode cX8_copy 73 = .ok (.iload 4, 2) := by decide +kernel
theorem dX8_copy_75 : decode cX8_copy 75 = .ok (.iload 5, 2) := by decide +kernel
theorem dX8_copy_77 : decode cX8_copy 77 = .ok (.invokevirtual 79, 3) := by decide +kernel
theorem dX8_copy_80 : decode cX8_copy 80 = .ok (.ifCond .ne 9, 3) := by decide +kernel
theorem dX8_copy_83 : decode cX8_copy 83 = .ok (.aload_n 0, 1) := by decide +kernel
theorem dX8_copy_84 : decode cX8_copy 84 = .ok (.iconst 2, 1) := by decide +kernel
theorem dX8_copy_85 : decode cX8_copy 85 = .ok (.invokevirtual 65, 3) := by decide +kernel
theorem dX8_copy_88 : decode cX8_copy 88 = .ok (.ireturn, 1) := by decide +kernel
theorem dX8_copy_89 : decode cX8_copy 89 = .ok (.iconst 0, 1) := by decide +kernel
theorem dX8_copy_90 : decode cX8_copy 90 = .ok (.istore 6, 2) := by decide +kernel
theorem dX8_copy_92 : decode cX8_copy 92 = .ok (.iload 6, 2) := by decide +kernel
theorem dX8_copy_94 : decode cX8_copy 94 = .ok (.iload 5, 2) := by decide +kernel
theorem dX8_copy_96 : decode cX8_copy 96 = .ok (.if_icmp .ge 30, 3) := by decide +kernel
theorem dX8_copy_99 : decode cX8_copy 99 = .ok (.aload_n 0, 1) := by decide +kernel
theorem dX8_copy_100 : decode cX8_copy 100 = .ok (.getfield 19, 3) := by decide +kernel
theorem dX8_copy_103 : decode cX8_copy 103 = .ok (.iload 6, 2) := by decide +kernel
theorem dX8_copy_105 : decode cX8_copy 105 = .ok (.aload_n 0, 1) := by decide +kernel
theorem dX8_copy_106 : decode cX8_copy 106 = .ok (.getfield 16, 3) := by decide +kernel
theorem dX8_copy_109 : decode cX8_copy 109 = .ok (.bipush 40, 2) := by decide +kernel
theorem dX8_copy_111 : decode cX8_copy 111 = .ok (.iload_n 1, 1) := by decide +kernel
theorem dX8_copy_112 : decode cX8_copy 112 = .ok (.imul, 1) := by decide +kernel
theorem dX8_copy_113 : decode cX8_copy 113 = .ok (.iload_n 2, 1) := by decide +kernel
theorem dX8_copy_114 : decode cX8_copy 114 = .ok (.iadd, 1) := by decide +kernel
theorem dX8_copy_115 : decode cX8_copy 115 = .ok (.iload 6, 2) := by decide +kernel
theorem dX8_copy_117 : decode cX8_copy 117 = .ok (.iadd, 1) := by decide +kernel
theorem dX8_copy_118 : decode cX8_copy 118 = .ok (.iaload, 1) := by decide +kernel
theorem dX8_copy_119 : decode cX8_copy 119 = .ok (.iastore, 1) := by decide +kernel
theorem dX8_copy_120 : decode cX8_copy 120 = .ok (.iinc 6 1, 3) := by decide +kernel
theorem dX8_copy_123 : decode cX8_copy 123 = .ok (.goto (-31), 3) := by decide +kernel
theorem dX8_copy_126 : decode cX8_copy 126 = .ok (.iconst 0, 1) := by decide +kernel
theorem dX8_copy_127 : decode cX8_copy 127 = .ok (.istore 6, 2) := by decide +kernel
theorem dX8_copy_129 : decode cX8_copy 129 = .ok (.iload 6, 2) := by decide +kernel
theorem dX8_copy_131 : decode cX8_copy 131 = .ok (.iload 5, 2) := by decide +kernel
theorem dX8_copy_133 : decode cX8_copy 133 = .ok (.if_icmp .ge 31, 3) := by decide +kernel
theorem dX8_copy_136 : decode cX8_copy 136 = .ok (.aload_n 0, 1) := by decide +kernel
theorem dX8_copy_137 : decode cX8_copy 137 = .ok (.getfield 16, 3) := by decide +kernel
theorem dX8_copy_140 : decode cX8_copy 140 = .ok (.bipush 40, 2) := by decide +kernel
theorem dX8_copy_142 : decode cX8_copy 142 = .ok (.iload_n 3, 1) := by decide +kernel
theorem dX8_copy_143 : decode cX8_copy 143 = .ok (.imul, 1) := by decide +kernel
theorem dX8_copy_144 : decode cX8_copy 144 = .ok (.iload 4, 2) := by decide +kernel
theorem dX8_copy_146 : decode cX8_copy 146 = .ok (.iadd, 1) := by decide +kernel
theorem dX8_copy_147 : decode cX8_copy 147 = .ok (.iload 6, 2) := by decide +kernel
theorem dX8_copy_149 : decode cX8_copy 149 = .ok (.iadd, 1) := by decide +kernel
theorem dX8_copy_150 : decode cX8_copy 150 = .ok (.aload_n 0, 1) := by decide +kernel
theorem dX8_copy_151 : decode cX8_copy 151 = .ok (.getfield 19, 3) := by decide +kernel
theorem dX8_copy_154 : decode cX8_copy 154 = .ok (.iload 6, 2) := by decide +kernel
theorem dX8_copy_156 : decode cX8_copy 156 = .ok (.iaload, 1) := by decide +kernel
theorem dX8_copy_157 : decode cX8_copy 157 = .ok (.iastore, 1) := by decide +kernel
theorem dX8_copy_158 : decode cX8_copy 158 = .ok (.iinc 6 1, 3) := by decide +kernel
theorem dX8_copy_161 : decode cX8_copy 161 = .ok (.goto (-32), 3) := by decide +kernel
theorem dX8_copy_164 : decode cX8_copy 164 = .ok (.aload_n 0, 1) := by decide +kernel
theorem dX8_copy_165 : decode cX8_copy 165 = .ok (.iload 5, 2) := by decide +kernel
theorem dX8_copy_167 : decode cX8_copy 167 = .ok (.invokevirtual 69, 3) := by decide +kernel
theorem dX8_copy_170 : decode cX8_copy 170 = .ok (.ireturn, 1) := by decide +kernel
theorem dX8_drop_0 : decode cX8_drop 0 = .ok (.iload_n 1, 1) := by decide +kernel
theorem dX8_drop_1 : decode cX8_drop 1 = .ok (.invokestatic 60, 3) := by decide +kernel
theorem dX8_drop_4 : decode cX8_drop 4 = .ok (.ifCond .ne 6, 3) := by decide +kernel
theorem dX8_drop_7 : decode cX8_drop 7 = .ok (.ldc 64, 2) := by decide +kernel
theorem dX8_drop_9 : decode cX8_drop 9 = .ok (.ireturn, 1) := by decide +kernel
theorem dX8_drop_10 : decode cX8_drop 10 = .ok (.aload_n 0, 1) := by decide +kernel
theorem dX8_drop_11 : decode cX8_drop 11 = .ok (.iload_n 1, 1) := by decide +kernel
theorem dX8_drop_12 : decode cX8_drop 12 = .ok (.invokevirtual 72, 3) := by decide +kernel
theorem dX8_drop_15 : decode cX8_drop 15 = .ok (.ifCond .eq 9, 3) := by decide +kernel
theorem dX8_drop_18 : decode cX8_drop 18 = .ok (.aload_n 0, 1) := by decide +kernel
theorem dX8_drop_19 : decode cX8_drop 19 = .ok (.iconst 1, 1) := by decide +kernel
theorem dX8_drop_20 : decode cX8_drop 20 = .ok (.invokevirtual 65, 3) := by decide +kernel
theorem dX8_drop_23 : decode cX8_drop 23 = .ok (.ireturn, 1) := by decide +kernel
theorem dX8_drop_24 : decode cX8_drop 24 = .ok (.aload_n 0, 1) := by decide +kernel
theorem dX8_drop_25 : decode cX8_drop 25 = .ok (.getfield 7, 3) := by decide +kernel
theorem dX8_drop_28 : decode cX8_drop 28 = .ok (.iload_n 1, 1) := by decide +kernel
theorem dX8_drop_29 : decode cX8_drop 29 = .ok (.ldc 50, 2) := by decide +kernel
theorem dX8_drop_31 : decode cX8_drop 31 = .ok (.iastore, 1) := by decide +kernel
theorem dX8_drop_32 : decode cX8_drop 32 = .ok (.aload_n 0, 1) := by decide +kernel
theorem dX8_drop_33 : decode cX8_drop 33 = .ok (.aload_n 0, 1) := by decide +kernel
theorem dX8_drop_34 : decode cX8_drop 34 = .ok (.getfield 13, 3) := by decide +kernel
theorem dX8_drop_37 : decode cX8_drop 37 = .ok (.iload_n 1, 1) := by decide +kernel
theorem dX8_drop_38 : decode cX8_drop 38 = .ok (.iaload, 1) := by decide +kernel
theorem dX8_drop_39 : decode cX8_drop 39 = .ok (.invokevirtual 69, 3) := by decide +kernel
theorem dX8_drop_42 : decode cX8_drop 42 = .ok (.ireturn, 1) := by decide +kernel
theorem dX8_feed_0 : decode cX8_feed 0 = .ok (.iload_n 1, 1) := by decide +kernel
theorem dX8_feed_1 : decode cX8_feed 1 = .ok (.iconst 0, 1) := by decide +kernel
theorem dX8_feed_2 : decode cX8_feed 2 = .ok (.sipush 255, 3) := by decide +kernel
theorem dX8_feed_5 : decode cX8_feed 5 = .ok (.invokestatic 56, 3) := by decide +kernel
theorem dX8_feed_8 : decode cX8_feed 8 = .ok (.ifCond .ne 6, 3) := by decide +kernel
theorem dX8_feed_11 : decode cX8_feed 11 = .ok (.ldc 64, 2) := by decide +kernel
theorem dX8_feed_13 : decode cX8_feed 13 = .ok (.ireturn, 1) := by decide +kernel
theorem dX8_feed_14 : decode cX8_feed 14 = .ok (.aload_n 0, 1) := by decide +kernel
theorem dX8_feed_15 : decode cX8_feed 15 = .ok (.getfield 82, 3) := by decide +kernel
theorem dX8_feed_18 : decode cX8_feed 18 = .ok (.bipush 120, 2) := by decide +kernel
theorem dX8_feed_20 : decode cX8_feed 20 = .ok (.if_icmp .ne 6, 3) := by decide +kernel
theorem dX8_feed_23 : decode cX8_feed 23 = .ok (.ldc 85, 2) := by decide +kernel
theorem dX8_feed_25 : decode cX8_feed 25 = .ok (.ireturn, 1) := by decide +kernel
theorem dX8_feed_26 : decode cX8_feed 26 = .ok (.aload_n 0, 1) := by decide +kernel
theorem dX8_feed_27 : decode cX8_feed 27 = .ok (.getfield 22, 3) := by decide +kernel
theorem dX8_feed_30 : decode cX8_feed 30 = .ok (.aload_n 0, 1) := by decide +kernel
theorem dX8_feed_31 : decode cX8_feed 31 = .ok (.getfield 82, 3) := by decide +kernel
theorem dX8_feed_34 : decode cX8_feed 34 = .ok (.iload_n 1, 1) := by decide +kernel
theorem dX8_feed_35 : decode cX8_feed 35 = .ok (.iastore, 1) := by decide +kernel
theorem dX8_feed_36 : decode cX8_feed 36 = .ok (.aload_n 0, 1) := by decide +kernel
theorem dX8_feed_37 : decode cX8_feed 37 = .ok (.dup, 1) := by decide +kernel
theorem dX8_feed_38 : decode cX8_feed 38 = .ok (.getfield 82, 3) := by decide +kernel
theorem dX8_feed_41 : decode cX8_feed 41 = .ok (.iconst 1, 1) := by decide +kernel
theorem dX8_feed_42 : decode cX8_feed 42 = .ok (.iadd, 1) := by decide +kernel
theorem dX8_feed_43 : decode cX8_feed 43 = .ok (.putfield 82, 3) := by decide +kernel
theorem dX8_feed_46 : decode cX8_feed 46 = .ok (.aload_n 0, 1) := by decide +kernel
theorem dX8_feed_47 : decode cX8_feed 47 = .ok (.getfield 82, 3) := by decide +kernel
theorem dX8_feed_50 : decode cX8_feed 50 = .ok (.ireturn, 1) := by decide +kernel
theorem dX8_byteAt_0 : decode cX8_byteAt 0 = .ok (.iload_n 1, 1) := by decide +kernel
theorem dX8_byteAt_1 : decode cX8_byteAt 1 = .ok (.aload_n 0, 1) := by decide +kernel
theorem dX8_byteAt_2 : decode cX8_byteAt 2 = .ok (.getfield 82, 3) := by decide +kernel
theorem dX8_byteAt_5 : decode cX8_byteAt 5 = .ok (.if_icmp .ge 12, 3) := by decide +kernel
theorem dX8_byteAt_8 : decode cX8_byteAt 8 = .ok (.aload_n 0, 1) := by decide +kernel
theorem dX8_byteAt_9 : decode cX8_byteAt 9 = .ok (.getfield 22, 3) := by decide +kernel
theorem dX8_byteAt_12 : decode cX8_byteAt 12 = .ok (.iload_n 1, 1) := by decide +kernel
theorem dX8_byteAt_13 : decode cX8_byteAt 13 = .ok (.iaload, 1) := by decide +kernel
theorem dX8_byteAt_14 : decode cX8_byteAt 14 = .ok (.goto 4, 3) := by decide +kernel
theorem dX8_byteAt_17 : decode cX8_byteAt 17 = .ok (.iconst (-1), 1) := by decide +kernel
theorem dX8_byteAt_18 : decode cX8_byteAt 18 = .ok (.ireturn, 1) := by decide +kernel
theorem dX8_advances_0 : decode cX8_advances 0 = .ok (.aload_n 0, 1) := by decide +kernel
theorem dX8_advances_1 : decode cX8_advances 1 = .ok (.aload_n 0, 1) := by decide +kernel
theorem dX8_advances_2 : decode cX8_advances 2 = .ok (.getfield 86, 3) := by decide +kernel
theorem dX8_advances_5 : decode cX8_advances 5 = .ok (.putfield 89, 3) := by decide +kernel
theorem dX8_advances_8 : decode cX8_advances 8 = .ok (.aload_n 0, 1) := by decide +kernel
theorem dX8_advances_9 : decode cX8_advances 9 = .ok (.aload_n 0, 1) := by decide +kernel
theorem dX8_advances_10 : decode cX8_advances 10 = .ok (.getfield 86, 3) := by decide +kernel
theorem dX8_advances_13 : decode cX8_advances 13 = .ok (.invokevirtual 92, 3) := by decide +kernel
theorem dX8_advances_16 : decode cX8_advances 16 = .ok (.istore_n 1, 1) := by decide +kernel
theorem dX8_advances_17 : decode cX8_advances 17 = .ok (.aload_n 0, 1) := by decide +kernel
theorem dX8_advances_18 : decode cX8_advances 18 = .ok (.iload_n 1, 1) := by decide +kernel
theorem dX8_advances_19 : decode cX8_advances 19 = .ok (.putfield 95, 3) := by decide +kernel
theorem dX8_advances_22 : decode cX8_advances 22 = .ok (.iload_n 1, 1) := by decide +kernel
theorem dX8_advances_23 : decode cX8_advances 23 = .ok (.bipush 48, 2) := by decide +kernel
theorem dX8_advances_25 : decode cX8_advances 25 = .ok (.bipush 57, 2) := by decide +kernel
theorem dX8_advances_27 : decode cX8_advances 27 = .ok (.invokestatic 56, 3) := by decide +kernel
theorem dX8_advances_30 : decode cX8_advances 30 = .ok (.ifCond .eq 105, 3) := by decide +kernel
theorem dX8_advances_33 : decode cX8_advances 33 = .ok (.aload_n 0, 1) := by decide +kernel
theorem dX8_advances_34 : decode cX8_advances 34 = .ok (.iconst 0, 1) := by decide +kernel
theorem dX8_advances_35 : decode cX8_advances 35 = .ok (.putfield 95, 3) := by decide +kernel
theorem dX8_advances_38 : decode cX8_advances 38 = .ok (.aload_n 0, 1) := by decide +kernel
theorem dX8_advances_39 : decode cX8_advances 39 = .ok (.aload_n 0, 1) := by decide +kernel
theorem dX8_advances_40 : decode cX8_advances 40 = .ok (.getfield 86, 3) := by decide +kernel
theorem dX8_advances_43 : decode cX8_advances 43 = .ok (.invokevirtual 92, 3) := by decide +kernel
theorem dX8_advances_46 : decode cX8_advances 46 = .ok (.bipush 48, 2) := by decide +kernel
theorem dX8_advances_48 : decode cX8_advances 48 = .ok (.bipush 57, 2) := by decide +kernel
theorem dX8_advances_50 : decode cX8_advances 50 = .ok (.invokestatic 56, 3) := by decide +kernel
theorem dX8_advances_53 : decode cX8_advances 53 = .ok (.ifCond .eq 59, 3) := by decide +kernel
theorem dX8_advances_56 : decode cX8_advances 56 = .ok (.aload_n 0, 1) := by decide +kernel
theorem dX8_advances_57 : decode cX8_advances 57 = .ok (.aload_n 0, 1) := by decide +kernel
theorem dX8_advances_58 : decode cX8_advances 58 = .ok (.getfield 86, 3) := by decide +kernel
theorem dX8_advances_61 : decode cX8_advances 61 = .ok (.aload_n 0, 1) := by decide +kernel
theorem dX8_advances_62 : decode cX8_advances 62 = .ok (.getfield 89, 3) := by decide +kernel
theorem dX8_advances_65 : decode cX8_advances 65 = .ok (.isub, 1) := by decide +kernel
theorem dX8_advances_66 : decode cX8_advances 66 = .ok (.iconst 2, 1) := by decide +kernel
theorem dX8_advances_67 : decode cX8_advances 67 = .ok (.if_icmp .ge 25, 3) := by decide +kernel
theorem dX8_advances_70 : decode cX8_advances 70 = .ok (.bipush 10, 2) := by decide +kernel
theorem dX8_advances_72 : decode cX8_advances 72 = .ok (.aload_n 0, 1) := by decide +kernel
theorem dX8_advances_73 : decode cX8_advances 73 = .ok (.getfield 95, 3) := by decide +kernel
theorem dX8_advances_76 : decode cX8_advances 76 = .ok (.imul, 1) := by decide +kernel
theorem dX8_advances_77 : decode cX8_advances 77 = .ok (.aload_n 0, 1) := by decide +kernel
theorem dX8_advances_78 : decode cX8_advances 78 = .ok (.aload_n 0, 1) := by decide +kernel
theorem dX8_advances_79 : decode cX8_advances 79 = .ok (.getfield 86, 3) := by decide +kernel
theorem dX8_advances_82 : decode cX8_advances 82 = .ok (.invokevirtual 92, 3) := by decide +kernel
theorem dX8_advances_85 : decode cX8_advances 85 = .ok (.iadd, 1) := by decide +kernel
theorem dX8_advances_86 : decode cX8_advances 86 = .ok (.bipush 48, 2) := by decide +kernel
theorem dX8_advances_88 : decode cX8_advances 88 = .ok (.isub, 1) := by decide +kernel
theorem dX8_advances_89 : decode cX8_advances 89 = .ok (.goto 7, 3) := by decide +kernel
theorem dX8_advances_92 : decode cX8_advances 92 = .ok (.aload_n 0, 1) := by decide +kernel
theorem dX8_advances_93 : decode cX8_advances 93 = .ok (.getfield 95, 3) := by decide +kernel
theorem dX8_advances_96 : decode cX8_advances 96 = .ok (.putfield 95, 3) := by decide +kernel
theorem dX8_advances_99 : decode cX8_advances 99 = .ok (.aload_n 0, 1) := by decide +kernel
theorem dX8_advances_100 : decode cX8_advances 100 = .ok (.dup, 1) := by decide +kernel
theorem dX8_advances_101 : decode cX8_advances 101 = .ok (.getfield 86, 3) := by decide +kernel
theorem dX8_advances_104 : decode cX8_advances 104 = .ok (.iconst 1, 1) := by decide +kernel
theorem dX8_advances_105 : decode cX8_advances 105 = .ok (.iadd, 1) := by decide +kernel
theorem dX8_advances_106 : decode cX8_advances 106 = .ok (.putfield 86, 3) := by decide +kernel
theorem dX8_advances_109 : decode cX8_advances 109 = .ok (.goto (-71), 3) := by decide +kernel
theorem dX8_advances_112 : decode cX8_advances 112 = .ok (.aload_n 0, 1) := by decide +kernel
theorem dX8_advances_113 : decode cX8_advances 113 = .ok (.aload_n 0, 1) := by decide +kernel
theorem dX8_advances_114 : decode cX8_advances 114 = .ok (.getfield 86, 3) := by decide +kernel
theorem dX8_advances_117 : decode cX8_advances 117 = .ok (.aload_n 0, 1) := by decide +kernel
theorem dX8_advances_118 : decode cX8_advances 118 = .ok (.getfield 89, 3) := by decide +kernel
theorem dX8_advances_121 : decode cX8_advances 121 = .ok (.isub, 1) := by decide +kernel
theorem dX8_advances_122 : decode cX8_advances 122 = .ok (.iconst 3, 1) := by decide +kernel
theorem dX8_advances_123 : decode cX8_advances 123 = .ok (.if_icmp .ge 7, 3) := by decide +kernel
theorem dX8_advances_126 : decode cX8_advances 126 = .ok (.iconst 2, 1) := by decide +kernel
theorem dX8_advances_127 : decode cX8_advances 127 = .ok (.goto 4, 3) := by decide +kernel
theorem dX8_advances_130 : decode cX8_advances 130 = .ok (.iconst 5, 1) := by decide +kernel
theorem dX8_advances_131 : decode cX8_advances 131 = .ok (.putfield 98, 3) := by decide +kernel
theorem dX8_advances_134 : decode cX8_advances 134 = .ok (.return_, 1) := by decide +kernel
theorem dX8_advances_135 : decode cX8_advances 135 = .ok (.aload_n 0, 1) := by decide +kernel
theorem dX8_advances_136 : decode cX8_advances 136 = .ok (.iload_n 1, 1) := by decide +kernel
theorem dX8_advances_137 : decode cX8_advances 137 = .ok (.ifCond .ge 7, 3) := by decide +kernel
theorem dX8_advances_140 : decode cX8_advances 140 = .ok (.iconst 0, 1) := by decide +kernel
theorem dX8_advances_141 : decode cX8_advances 141 = .ok (.goto 39, 3) := by decide +kernel
theorem dX8_advances_144 : decode cX8_advances 144 = .ok (.iload_n 1, 1) := by decide +kernel
theorem dX8_advances_145 : decode cX8_advances 145 = .ok (.bipush 97, 2) := by decide +kernel
theorem dX8_advances_147 : decode cX8_advances 147 = .ok (.bipush 122, 2) := by decide +kernel
theorem dX8_advances_149 : decode cX8_advances 149 = .ok (.invokestatic 56, 3) := by decide +kernel
theorem dX8_advances_152 : decode cX8_advances 152 = .ok (.ifCond .eq 7, 3) := by decide +kernel
theorem dX8_advances_155 : decode cX8_advances 155 = .ok (.iconst 1, 1) := by decide +kernel
theorem dX8_advances_156 : decode cX8_advances 156 = .ok (.goto 24, 3) := by decide +kernel
theorem dX8_advances_159 : decode cX8_advances 159 = .ok (.iload_n 1, 1) := by decide +kernel
theorem dX8_advances_160 : decode cX8_advances 160 = .ok (.bipush 44, 2) := by decide +kernel
theorem dX8_advances_162 : decode cX8_advances 162 = .ok (.if_icmp .ne 7, 3) := by decide +kernel
theorem dX8_advances_165 : decode cX8_advances 165 = .ok (.iconst 3, 1) := by decide +kernel
theorem dX8_advances_166 : decode cX8_advances 166 = .ok (.goto 14, 3) := by decide +kernel
theorem dX8_advances_169 : decode cX8_advances 169 = .ok (.iload_n 1, 1) := by decide +kernel
theorem dX8_advances_170 : decode cX8_advances 170 = .ok (.bipush 59, 2) := by decide +kernel
theorem dX8_advances_172 : decode cX8_advances 172 = .ok (.if_icmp .ne 7, 3) := by decide +kernel
theorem dX8_advances_175 : decode cX8_advances 175 = .ok (.iconst 4, 1) := by decide +kernel
theorem dX8_advances_176 : decode cX8_advances 176 = .ok (.goto 4, 3) := by decide +kernel
theorem dX8_advances_179 : decode cX8_advances 179 = .ok (.iconst 5, 1) := by decide +kernel
theorem dX8_advances_180 : decode cX8_advances 180 = .ok (.putfield 98, 3) := by decide +kernel
theorem dX8_advances_183 : decode cX8_advances 183 = .ok (.aload_n 0, 1) := by decide +kernel
theorem dX8_advances_184 : decode cX8_advances 184 = .ok (.dup, 1) := by decide +kernel
theorem dX8_advances_185 : decode cX8_advances 185 = .ok (.getfield 86, 3) := by decide +kernel
theorem dX8_advances_188 : decode cX8_advances 188 = .ok (.aload_n 0, 1) := by decide +kernel
theorem dX8_advances_189 : decode cX8_advances 189 = .ok (.getfield 98, 3) := by decide +kernel
theorem dX8_advances_192 : decode cX8_advances 192 = .ok (.ifCond .ne 7, 3) := by decide +kernel
theorem dX8_advances_195 : decode cX8_advances 195 = .ok (.iconst 0, 1) := by decide +kernel
theorem dX8_advances_196 : decode cX8_advances 196 = .ok (.goto 4, 3) := by decide +kernel
theorem dX8_advances_199 : decode cX8_advances 199 = .ok (.iconst 1, 1) := by decide +kernel
theorem dX8_advances_200 : decode cX8_advances 200 = .ok (.iadd, 1) := by decide +kernel
theorem dX8_advances_201 : decode cX8_advances 201 = .ok (.putfield 86, 3) := by decide +kernel
theorem dX8_advances_204 : decode cX8_advances 204 = .ok (.return_, 1) := by decide +kernel
theorem dX8_isWell_0 : decode cX8_isWell 0 = .ok (.aload_n 0, 1) := by decide +kernel
theorem dX8_isWell_1 : decode cX8_isWell 1 = .ok (.getfield 101, 3) := by decide +kernel
theorem dX8_isWell_4 : decode cX8_isWell 4 = .ok (.ifCond .ge 7, 3) := by decide +kernel
theorem dX8_isWell_7 : decode cX8_isWell 7 = .ok (.iconst 1, 1) := by decide +kernel
theorem dX8_isWell_8 : decode cX8_isWell 8 = .ok (.goto 4, 3) := by decide +kernel
theorem dX8_isWell_11 : decode cX8_isWell 11 = .ok (.iconst 0, 1) := by decide +kernel
theorem dX8_isWell_12 : decode cX8_isWell 12 = .ok (.ireturn, 1) := by decide +kernel
theorem dX8_takes_0 : decode cX8_takes 0 = .ok (.aload_n 0, 1) := by decide +kernel
theorem dX8_takes_1 : decode cX8_takes 1 = .ok (.invokevirtual 104, 3) := by decide +kernel
theorem dX8_takes_4 : decode cX8_takes 4 = .ok (.ifCond .ne 5, 3) := by decide +kernel
theorem dX8_takes_7 : decode cX8_takes 7 = .ok (.iconst 0, 1) := by decide +kernel
theorem dX8_takes_8 : decode cX8_takes 8 = .ok (.ireturn, 1) := by decide +kernel
theorem dX8_takes_9 : decode cX8_takes 9 = .ok (.iload_n 1, 1) := by decide +kernel
theorem dX8_takes_10 : decode cX8_takes 10 = .ok (.ifCond .ne 18, 3) := by decide +kernel
theorem dX8_takes_13 : decode cX8_takes 13 = .ok (.aload_n 0, 1) := by decide +kernel
theorem dX8_takes_14 : decode cX8_takes 14 = .ok (.aload_n 0, 1) := by decide +kernel
theorem dX8_takes_15 : decode cX8_takes 15 = .ok (.getfield 89, 3) := by decide +kernel
theorem dX8_takes_18 : decode cX8_takes 18 = .ok (.putfield 101, 3) := by decide +kernel
theorem dX8_takes_21 : decode cX8_takes 21 = .ok (.aload_n 0, 1) := by decide +kernel
theorem dX8_takes_22 : decode cX8_takes 22 = .ok (.iload_n 2, 1) := by decide +kernel
theorem dX8_takes_23 : decode cX8_takes 23 = .ok (.putfield 108, 3) := by decide +kernel
theorem dX8_takes_26 : decode cX8_takes 26 = .ok (.iconst 0, 1) := by decide +kernel
theorem dX8_takes_27 : decode cX8_takes 27 = .ok (.ireturn, 1) := by decide +kernel
theorem dX8_takes_28 : decode cX8_takes 28 = .ok (.aload_n 0, 1) := by decide +kernel
theorem dX8_takes_29 : decode cX8_takes 29 = .ok (.getfield 95, 3) := by decide +kernel
theorem dX8_takes_32 : decode cX8_takes 32 = .ok (.istore_n 3, 1) := by decide +kernel
theorem dX8_takes_33 : decode cX8_takes 33 = .ok (.aload_n 0, 1) := by decide +kernel
theorem dX8_takes_34 : decode cX8_takes 34 = .ok (.invokevirtual 111, 3) := by decide +kernel
theorem dX8_takes_37 : decode cX8_takes 37 = .ok (.iload_n 3, 1) := by decide +kernel
theorem dX8_takes_38 : decode cX8_takes 38 = .ok (.ireturn, 1) := by decide +kernel
theorem dX8_figure_0 : decode cX8_figure 0 = .ok (.aload_n 0, 1) := by decide +kernel
theorem dX8_figure_1 : decode cX8_figure 1 = .ok (.invokevirtual 104, 3) := by decide +kernel
theorem dX8_figure_4 : decode cX8_figure 4 = .ok (.ifCond .eq 18, 3) := by decide +kernel
theorem dX8_figure_7 : decode cX8_figure 7 = .ok (.aload_n 0, 1) := by decide +kernel
theorem dX8_figure_8 : decode cX8_figure 8 = .ok (.getfield 98, 3) := by decide +kernel
theorem dX8_figure_11 : decode cX8_figure 11 = .ok (.iconst 2, 1) := by decide +kernel
theorem dX8_figure_12 : decode cX8_figure 12 = .ok (.if_icmp .eq 10, 3) := by decide +kernel
theorem dX8_figure_15 : decode cX8_figure 15 = .ok (.aload_n 0, 1) := by decide +kernel
theorem dX8_figure_16 : decode cX8_figure 16 = .ok (.iconst 0, 1) := by decide +kernel
theorem dX8_figure_17 : decode cX8_figure 17 = .ok (.iconst 1, 1) := by decide +kernel
theorem dX8_figure_18 : decode cX8_figure 18 = .ok (.invokevirtual 114, 3) := by decide +kernel
theorem dX8_figure_21 : decode cX8_figure 21 = .ok (.ireturn, 1) := by decide +kernel
theorem dX8_figure_22 : decode cX8_figure 22 = .ok (.aload_n 0, 1) := by decide +kernel
theorem dX8_figure_23 : decode cX8_figure 23 = .ok (.aload_n 0, 1) := by decide +kernel
theorem dX8_figure_24 : decode cX8_figure 24 = .ok (.getfield 95, 3) := by decide +kernel
theorem dX8_figure_27 : decode cX8_figure 27 = .ok (.iload_n 1, 1) := by decide +kernel
theorem dX8_figure_28 : decode cX8_figure 28 = .ok (.iload_n 2, 1) := by decide +kernel
theorem dX8_figure_29 : decode cX8_figure 29 = .ok (.invokestatic 56, 3) := by decide +kernel
theorem dX8_figure_32 : decode cX8_figure 32 = .ok (.iconst 2, 1) := by decide +kernel
theorem dX8_figure_33 : decode cX8_figure 33 = .ok (.invokevirtual 114, 3) := by decide +kernel
theorem dX8_figure_36 : decode cX8_figure 36 = .ok (.ireturn, 1) := by decide +kernel
theorem dX8_kindOf_0 : decode cX8_kindOf 0 = .ok (.iload_n 0, 1) := by decide +kernel
theorem dX8_kindOf_1 : decode cX8_kindOf 1 = .ok (.bipush 112, 2) := by decide +kernel
theorem dX8_kindOf_3 : decode cX8_kindOf 3 = .ok (.if_icmp .ne 7, 3) := by decide +kernel
theorem dX8_kindOf_6 : decode cX8_kindOf 6 = .ok (.iconst 1, 1) := by decide +kernel
theorem dX8_kindOf_7 : decode cX8_kindOf 7 = .ok (.goto 44, 3) := by decide +kernel
theorem dX8_kindOf_10 : decode cX8_kindOf 10 = .ok (.iload_n 0, 1) := by decide +kernel
theorem dX8_kindOf_11 : decode cX8_kindOf 11 = .ok (.bipush 119, 2) := by decide +kernel
theorem dX8_kindOf_13 : decode cX8_kindOf 13 = .ok (.if_icmp .ne 7, 3) := by decide +kernel
theorem dX8_kindOf_16 : decode cX8_kindOf 16 = .ok (.iconst 2, 1) := by decide +kernel
theorem dX8_kindOf_17 : decode cX8_kindOf 17 = .ok (.goto 34, 3) := by decide +kernel
theorem dX8_kindOf_20 : decode cX8_kindOf 20 = .ok (.iload_n 0, 1) := by decide +kernel
theorem dX8_kindOf_21 : decode cX8_kindOf 21 = .ok (.bipush 116, 2) := by decide +kernel
theorem dX8_kindOf_23 : decode cX8_kindOf 23 = .ok (.if_icmp .ne 7, 3) := by decide +kernel
theorem dX8_kindOf_26 : decode cX8_kindOf 26 = .ok (.iconst 3, 1) := by decide +kernel
theorem dX8_kindOf_27 : decode cX8_kindOf 27 = .ok (.goto 24, 3) := by decide +kernel
theorem dX8_kindOf_30 : decode cX8_kindOf 30 = .ok (.iload_n 0, 1) := by decide +kernel
theorem dX8_kindOf_31 : decode cX8_kindOf 31 = .ok (.bipush 107, 2) := by decide +kernel
theorem dX8_kindOf_33 : decode cX8_kindOf 33 = .ok (.if_icmp .ne 7, 3) := by decide +kernel
theorem dX8_kindOf_36 : decode cX8_kindOf 36 = .ok (.iconst 4, 1) := by decide +kernel
theorem dX8_kindOf_37 : decode cX8_kindOf 37 = .ok (.goto 14, 3) := by decide +kernel
theorem dX8_kindOf_40 : decode cX8_kindOf 40 = .ok (.iload_n 0, 1) := by decide +kernel
theorem dX8_kindOf_41 : decode cX8_kindOf 41 = .ok (.bipush 100, 2) := by decide +kernel
theorem dX8_kindOf_43 : decode cX8_kindOf 43 = .ok (.if_icmp .ne 7, 3) := by decide +kernel
theorem dX8_kindOf_46 : decode cX8_kindOf 46 = .ok (.iconst 5, 1) := by decide +kernel
theorem dX8_kindOf_47 : decode cX8_kindOf 47 = .ok (.goto 4, 3) := by decide +kernel
theorem dX8_kindOf_50 : decode cX8_kindOf 50 = .ok (.iconst 0, 1) := by decide +kernel
theorem dX8_kindOf_51 : decode cX8_kindOf 51 = .ok (.ireturn, 1) := by decide +kernel
theorem dX8_next_0 : decode cX8_next 0 = .ok (.aload_n 0, 1) := by decide +kernel
theorem dX8_next_1 : decode cX8_next 1 = .ok (.aload_n 0, 1) := by decide +kernel
theorem dX8_next_2 : decode cX8_next 2 = .ok (.getfield 98, 3) := by decide +kernel
theorem dX8_next_5 : decode cX8_next 5 = .ok (.iconst 3, 1) := by decide +kernel
theorem dX8_next_6 : decode cX8_next 6 = .ok (.if_icmp .ne 7, 3) := by decide +kernel
theorem dX8_next_9 : decode cX8_next 9 = .ok (.iconst 1, 1) := by decide +kernel
theorem dX8_next_10 : decode cX8_next 10 = .ok (.goto 4, 3) := by decide +kernel
theorem dX8_next_13 : decode cX8_next 13 = .ok (.iconst 0, 1) := by decide +kernel
theorem dX8_next_14 : decode cX8_next 14 = .ok (.iconst 1, 1) := by decide +kernel
theorem dX8_next_15 : decode cX8_next 15 = .ok (.invokevirtual 114, 3) := by decide +kernel
theorem dX8_next_18 : decode cX8_next 18 = .ok (.pop, 1) := by decide +kernel
theorem dX8_next_19 : decode cX8_next 19 = .ok (.aload_n 0, 1) := by decide +kernel
theorem dX8_next_20 : decode cX8_next 20 = .ok (.iload_n 1, 1) := by decide +kernel
theorem dX8_next_21 : decode cX8_next 21 = .ok (.iload_n 2, 1) := by decide +kernel
theorem dX8_next_22 : decode cX8_next 22 = .ok (.invokevirtual 118, 3) := by decide +kernel
theorem dX8_next_25 : decode cX8_next 25 = .ok (.ireturn, 1) := by decide +kernel
theorem dX8_readsEar_0 : decode cX8_readsEar 0 = .ok (.aload_n 0, 1) := by decide +kernel
theorem dX8_readsEar_1 : decode cX8_readsEar 1 = .ok (.getfield 95, 3) := by decide +kernel
theorem dX8_readsEar_4 : decode cX8_readsEar 4 = .ok (.invokestatic 121, 3) := by decide +kernel
theorem dX8_readsEar_7 : decode cX8_readsEar 7 = .ok (.istore_n 1, 1) := by decide +kernel
theorem dX8_readsEar_8 : decode cX8_readsEar 8 = .ok (.aload_n 0, 1) := by decide +kernel
theorem dX8_readsEar_9 : decode cX8_readsEar 9 = .ok (.aload_n 0, 1) := by decide +kernel
theorem dX8_readsEar_10 : decode cX8_readsEar 10 = .ok (.getfield 28, 3) := by decide +kernel
theorem dX8_readsEar_13 : decode cX8_readsEar 13 = .ok (.iconst 4, 1) := by decide +kernel
theorem dX8_readsEar_14 : decode cX8_readsEar 14 = .ok (.iaload, 1) := by decide +kernel
theorem dX8_readsEar_15 : decode cX8_readsEar 15 = .ok (.bipush 6, 2) := by decide +kernel
theorem dX8_readsEar_17 : decode cX8_readsEar 17 = .ok (.if_icmp .ge 7, 3) := by decide +kernel
theorem dX8_readsEar_20 : decode cX8_readsEar 20 = .ok (.iconst 1, 1) := by decide +kernel
theorem dX8_readsEar_21 : decode cX8_readsEar 21 = .ok (.goto 4, 3) := by decide +kernel
theorem dX8_readsEar_24 : decode cX8_readsEar 24 = .ok (.iconst 0, 1) := by decide +kernel
theorem dX8_readsEar_25 : decode cX8_readsEar 25 = .ok (.iconst 3, 1) := by decide +kernel
theorem dX8_readsEar_26 : decode cX8_readsEar 26 = .ok (.invokevirtual 114, 3) := by decide +kernel
theorem dX8_readsEar_29 : decode cX8_readsEar 29 = .ok (.pop, 1) := by decide +kernel
theorem dX8_readsEar_30 : decode cX8_readsEar 30 = .ok (.bipush 6, 2) := by decide +kernel
theorem dX8_readsEar_32 : decode cX8_readsEar 32 = .ok (.bipush 7, 2) := by decide +kernel
theorem dX8_readsEar_34 : decode cX8_readsEar 34 = .ok (.aload_n 0, 1) := by decide +kernel
theorem dX8_readsEar_35 : decode cX8_readsEar 35 = .ok (.getfield 28, 3) := by decide +kernel
theorem dX8_readsEar_38 : decode cX8_readsEar 38 = .ok (.iconst 4, 1) := by decide +kernel
theorem dX8_readsEar_39 : decode cX8_readsEar 39 = .ok (.iaload, 1) := by decide +kernel
theorem dX8_readsEar_40 : decode cX8_readsEar 40 = .ok (.bipush 6, 2) := by decide +kernel
theorem dX8_readsEar_42 : decode cX8_readsEar 42 = .ok (.if_icmp .ge 12, 3) := by decide +kernel
theorem dX8_readsEar_45 : decode cX8_readsEar 45 = .ok (.aload_n 0, 1) := by decide +kernel
theorem dX8_readsEar_46 : decode cX8_readsEar 46 = .ok (.getfield 28, 3) := by decide +kernel
theorem dX8_readsEar_49 : decode cX8_readsEar 49 = .ok (.iconst 4, 1) := by decide +kernel
theorem dX8_readsEar_50 : decode cX8_readsEar 50 = .ok (.iaload, 1) := by decide +kernel
theorem dX8_readsEar_51 : decode cX8_readsEar 51 = .ok (.goto 4, 3) := by decide +kernel
theorem dX8_readsEar_54 : decode cX8_readsEar 54 = .ok (.iconst 0, 1) := by decide +kernel
theorem dX8_readsEar_55 : decode cX8_readsEar 55 = .ok (.imul, 1) := by decide +kernel
theorem dX8_readsEar_56 : decode cX8_readsEar 56 = .ok (.iadd, 1) := by decide +kernel
theorem dX8_readsEar_57 : decode cX8_readsEar 57 = .ok (.istore_n 2, 1) := by decide +kernel
theorem dX8_readsEar_58 : decode cX8_readsEar 58 = .ok (.aload_n 0, 1) := by decide +kernel
theorem dX8_readsEar_59 : decode cX8_readsEar 59 = .ok (.iconst 1, 1) := by decide +kernel
theorem dX8_readsEar_60 : decode cX8_readsEar 60 = .ok (.bipush 12, 2) := by decide +kernel
theorem dX8_readsEar_62 : decode cX8_readsEar 62 = .ok (.invokevirtual 118, 3) := by decide +kernel
theorem dX8_readsEar_65 : decode cX8_readsEar 65 = .ok (.istore_n 3, 1) := by decide +kernel
theorem dX8_readsEar_66 : decode cX8_readsEar 66 = .ok (.aload_n 0, 1) := by decide +kernel
theorem dX8_readsEar_67 : decode cX8_readsEar 67 = .ok (.iconst 0, 1) := by decide +kernel
theorem dX8_readsEar_68 : decode cX8_readsEar 68 = .ok (.iconst 3, 1) := by decide +kernel
theorem dX8_readsEar_69 : decode cX8_readsEar 69 = .ok (.invokevirtual 124, 3) := by decide +kernel
theorem dX8_readsEar_72 : decode cX8_readsEar 72 = .ok (.istore 4, 2) := by decide +kernel
theorem dX8_readsEar_74 : decode cX8_readsEar 74 = .ok (.aload_n 0, 1) := by decide +kernel
theorem dX8_readsEar_75 : decode cX8_readsEar 75 = .ok (.iconst 0, 1) := by decide +kernel
theorem dX8_readsEar_76 : decode cX8_readsEar 76 = .ok (.bipush 7, 2) := by decide +kernel
theorem dX8_readsEar_78 : decode cX8_readsEar 78 = .ok (.invokevirtual 124, 3) := by decide +kernel
theorem dX8_readsEar_81 : decode cX8_readsEar 81 = .ok (.istore 5, 2) := by decide +kernel
theorem dX8_readsEar_83 : decode cX8_readsEar 83 = .ok (.aload_n 0, 1) := by decide +kernel
theorem dX8_readsEar_84 : decode cX8_readsEar 84 = .ok (.iconst 1, 1) := by decide +kernel
theorem dX8_readsEar_85 : decode cX8_readsEar 85 = .ok (.bipush 8, 2) := by decide +kernel
theorem dX8_readsEar_87 : decode cX8_readsEar 87 = .ok (.invokevirtual 124, 3) := by decide +kernel
theorem dX8_readsEar_90 : decode cX8_readsEar 90 = .ok (.istore 6, 2) := by decide +kernel
theorem dX8_readsEar_92 : decode cX8_readsEar 92 = .ok (.aload_n 0, 1) := by decide +kernel
theorem dX8_readsEar_93 : decode cX8_readsEar 93 = .ok (.aload_n 0, 1) := by decide +kernel
theorem dX8_readsEar_94 : decode cX8_readsEar 94 = .ok (.getfield 98, 3) := by decide +kernel
theorem dX8_readsEar_97 : decode cX8_readsEar 97 = .ok (.iconst 4, 1) := by decide +kernel
theorem dX8_readsEar_98 : decode cX8_readsEar 98 = .ok (.if_icmp .ne 7, 3) := by decide +kernel
theorem dX8_readsEar_101 : decode cX8_readsEar 101 = .ok (.iconst 1, 1) := by decide +kernel
theorem dX8_readsEar_102 : decode cX8_readsEar 102 = .ok (.goto 4, 3) := by decide +kernel
theorem dX8_readsEar_105 : decode cX8_readsEar 105 = .ok (.iconst 0, 1) := by decide +kernel
theorem dX8_readsEar_106 : decode cX8_readsEar 106 = .ok (.iconst 1, 1) := by decide +kernel
theorem dX8_readsEar_107 : decode cX8_readsEar 107 = .ok (.invokevirtual 114, 3) := by decide +kernel
theorem dX8_readsEar_110 : decode cX8_readsEar 110 = .ok (.pop, 1) := by decide +kernel
theorem dX8_readsEar_111 : decode cX8_readsEar 111 = .ok (.aload_n 0, 1) := by decide +kernel
theorem dX8_readsEar_112 : decode cX8_readsEar 112 = .ok (.invokevirtual 104, 3) := by decide +kernel
theorem dX8_readsEar_115 : decode cX8_readsEar 115 = .ok (.ifCond .eq 59, 3) := by decide +kernel
theorem dX8_readsEar_118 : decode cX8_readsEar 118 = .ok (.aload_n 0, 1) := by decide +kernel
theorem dX8_readsEar_119 : decode cX8_readsEar 119 = .ok (.getfield 28, 3) := by decide +kernel
theorem dX8_readsEar_122 : decode cX8_readsEar 122 = .ok (.iload_n 2, 1) := by decide +kernel
theorem dX8_readsEar_123 : decode cX8_readsEar 123 = .ok (.iload_n 1, 1) := by decide +kernel
theorem dX8_readsEar_124 : decode cX8_readsEar 124 = .ok (.iastore, 1) := by decide +kernel
theorem dX8_readsEar_125 : decode cX8_readsEar 125 = .ok (.aload_n 0, 1) := by decide +kernel
theorem dX8_readsEar_126 : decode cX8_readsEar 126 = .ok (.getfield 28, 3) := by decide +kernel
theorem dX8_readsEar_129 : decode cX8_readsEar 129 = .ok (.iload_n 2, 1) := by decide +kernel
theorem dX8_readsEar_130 : decode cX8_readsEar 130 = .ok (.iconst 1, 1) := by decide +kernel
theorem dX8_readsEar_131 : decode cX8_readsEar 131 = .ok (.iadd, 1) := by decide +kernel
theorem dX8_readsEar_132 : decode cX8_readsEar 132 = .ok (.iload_n 3, 1) := by decide +kernel
theorem dX8_readsEar_133 : decode cX8_readsEar 133 = .ok (.iastore, 1) := by decide +kernel
theorem dX8_readsEar_134 : decode cX8_readsEar 134 = .ok (.aload_n 0, 1) := by decide +kernel
theorem dX8_readsEar_135 : decode cX8_readsEar 135 = .ok (.getfield 28, 3) := by decide +kernel
theorem dX8_readsEar_138 : decode cX8_readsEar 138 = .ok (.iload_n 2, 1) := by decide +kernel
theorem dX8_readsEar_139 : decode cX8_readsEar 139 = .ok (.iconst 2, 1) := by decide +kernel
theorem dX8_readsEar_140 : decode cX8_readsEar 140 = .ok (.iadd, 1) := by decide +kernel
theorem dX8_readsEar_141 : decode cX8_readsEar 141 = .ok (.iload 4, 2) := by decide +kernel
theorem dX8_readsEar_143 : decode cX8_readsEar 143 = .ok (.iastore, 1) := by decide +kernel
theorem dX8_readsEar_144 : decode cX8_readsEar 144 = .ok (.aload_n 0, 1) := by decide +kernel
theorem dX8_readsEar_145 : decode cX8_readsEar 145 = .ok (.getfield 28, 3) := by decide +kernel
theorem dX8_readsEar_148 : decode cX8_readsEar 148 = .ok (.iload_n 2, 1) := by decide +kernel
theorem dX8_readsEar_149 : decode cX8_readsEar 149 = .ok (.iconst 3, 1) := by decide +kernel
theorem dX8_readsEar_150 : decode cX8_readsEar 150 = .ok (.iadd, 1) := by decide +kernel
theorem dX8_readsEar_151 : decode cX8_readsEar 151 = .ok (.iload 5, 2) := by decide +kernel
theorem dX8_readsEar_153 : decode cX8_readsEar 153 = .ok (.iastore, 1) := by decide +kernel
theorem dX8_readsEar_154 : decode cX8_readsEar 154 = .ok (.aload_n 0, 1) := by decide +kernel
theorem dX8_readsEar_155 : decode cX8_readsEar 155 = .ok (.getfield 28, 3) := by decide +kernel
theorem dX8_readsEar_158 : decode cX8_readsEar 158 = .ok (.iload_n 2, 1) := by decide +kernel
theorem dX8_readsEar_159 : decode cX8_readsEar 159 = .ok (.iconst 4, 1) := by decide +kernel
theorem dX8_readsEar_160 : decode cX8_readsEar 160 = .ok (.iadd, 1) := by decide +kernel
theorem dX8_readsEar_161 : decode cX8_readsEar 161 = .ok (.iload 6, 2) := by decide +kernel
theorem dX8_readsEar_163 : decode cX8_readsEar 163 = .ok (.iastore, 1) := by decide +kernel
theorem dX8_readsEar_164 : decode cX8_readsEar 164 = .ok (.aload_n 0, 1) := by decide +kernel
theorem dX8_readsEar_165 : decode cX8_readsEar 165 = .ok (.getfield 28, 3) := by decide +kernel
theorem dX8_readsEar_168 : decode cX8_readsEar 168 = .ok (.iconst 4, 1) := by decide +kernel
theorem dX8_readsEar_169 : decode cX8_readsEar 169 = .ok (.dup2, 1) := by decide +kernel
theorem dX8_readsEar_170 : decode cX8_readsEar 170 = .ok (.iaload, 1) := by decide +kernel
theorem dX8_readsEar_171 : decode cX8_readsEar 171 = .ok (.iconst 1, 1) := by decide +kernel
theorem dX8_readsEar_172 : decode cX8_readsEar 172 = .ok (.iadd, 1) := by decide +kernel
theorem dX8_readsEar_173 : decode cX8_readsEar 173 = .ok (.iastore, 1) := by decide +kernel
theorem dX8_readsEar_174 : decode cX8_readsEar 174 = .ok (.return_, 1) := by decide +kernel
theorem dX8_readsDoing_0 : decode cX8_readsDoing 0 = .ok (.aload_n 0, 1) := by decide +kernel
theorem dX8_readsDoing_1 : decode cX8_readsDoing 1 = .ok (.aload_n 0, 1) := by decide +kernel
theorem dX8_readsDoing_2 : decode cX8_readsDoing 2 = .ok (.getfield 28, 3) := by decide +kernel
theorem dX8_readsDoing_5 : decode cX8_readsDoing 5 = .ok (.iconst 5, 1) := by decide +kernel
theorem dX8_readsDoing_6 : decode cX8_readsDoing 6 = .ok (.iaload, 1) := by decide +kernel
theorem dX8_readsDoing_7 : decode cX8_readsDoing 7 = .ok (.iconst 4, 1) := by decide +kernel
theorem dX8_readsDoing_8 : decode cX8_readsDoing 8 = .ok (.if_icmp .ge 7, 3) := by decide +kernel
theorem dX8_readsDoing_11 : decode cX8_readsDoing 11 = .ok (.iconst 1, 1) := by decide +kernel
theorem dX8_readsDoing_12 : decode cX8_readsDoing 12 = .ok (.goto 4, 3) := by decide +kernel
theorem dX8_readsDoing_15 : decode cX8_readsDoing 15 = .ok (.iconst 0, 1) := by decide +kernel
theorem dX8_readsDoing_16 : decode cX8_readsDoing 16 = .ok (.iconst 3, 1) := by decide +kernel
theorem dX8_readsDoing_17 : decode cX8_readsDoing 17 = .ok (.invokevirtual 114, 3) := by decide +kernel
theorem dX8_readsDoing_20 : decode cX8_readsDoing 20 = .ok (.pop, 1) := by decide +kernel
theorem dX8_readsDoing_21 : decode cX8_readsDoing 21 = .ok (.bipush 48, 2) := by decide +kernel
theorem dX8_readsDoing_23 : decode cX8_readsDoing 23 = .ok (.iconst 5, 1) := by decide +kernel
theorem dX8_readsDoing_24 : decode cX8_readsDoing 24 = .ok (.aload_n 0, 1) := by decide +kernel
theorem dX8_readsDoing_25 : decode cX8_readsDoing 25 = .ok (.getfield 28, 3) := by decide +kernel
theorem dX8_readsDoing_28 : decode cX8_readsDoing 28 = .ok (.iconst 5, 1) := by decide +kernel
theorem dX8_readsDoing_29 : decode cX8_readsDoing 29 = .ok (.iaload, 1) := by decide +kernel
theorem dX8_readsDoing_30 : decode cX8_readsDoing 30 = .ok (.iconst 4, 1) := by decide +kernel
theorem dX8_readsDoing_31 : decode cX8_readsDoing 31 = .ok (.if_icmp .ge 12, 3) := by decide +kernel
theorem dX8_readsDoing_34 : decode cX8_readsDoing 34 = .ok (.aload_n 0, 1) := by decide +kernel
theorem dX8_readsDoing_35 : decode cX8_readsDoing 35 = .ok (.getfield 28, 3) := by decide +kernel
theorem dX8_readsDoing_38 : decode cX8_readsDoing 38 = .ok (.iconst 5, 1) := by decide +kernel
theorem dX8_readsDoing_39 : decode cX8_readsDoing 39 = .ok (.iaload, 1) := by decide +kernel
theorem dX8_readsDoing_40 : decode cX8_readsDoing 40 = .ok (.goto 4, 3) := by decide +kernel
theorem dX8_readsDoing_43 : decode cX8_readsDoing 43 = .ok (.iconst 0, 1) := by decide +kernel
theorem dX8_readsDoing_44 : decode cX8_readsDoing 44 = .ok (.imul, 1) := by decide +kernel
theorem dX8_readsDoing_45 : decode cX8_readsDoing 45 = .ok (.iadd, 1) := by decide +kernel
theorem dX8_readsDoing_46 : decode cX8_readsDoing 46 = .ok (.istore_n 1, 1) := by decide +kernel
theorem dX8_readsDoing_47 : decode cX8_readsDoing 47 = .ok (.aload_n 0, 1) := by decide +kernel
theorem dX8_readsDoing_48 : decode cX8_readsDoing 48 = .ok (.iconst 0, 1) := by decide +kernel
theorem dX8_readsDoing_49 : decode cX8_readsDoing 49 = .ok (.bipush 99, 2) := by decide +kernel
theorem dX8_readsDoing_51 : decode cX8_readsDoing 51 = .ok (.invokevirtual 118, 3) := by decide +kernel
theorem dX8_readsDoing_54 : decode cX8_readsDoing 54 = .ok (.istore_n 2, 1) := by decide +kernel
theorem dX8_readsDoing_55 : decode cX8_readsDoing 55 = .ok (.aload_n 0, 1) := by decide +kernel
theorem dX8_readsDoing_56 : decode cX8_readsDoing 56 = .ok (.iconst 1, 1) := by decide +kernel
theorem dX8_readsDoing_57 : decode cX8_readsDoing 57 = .ok (.bipush 40, 2) := by decide +kernel
theorem dX8_readsDoing_59 : decode cX8_readsDoing 59 = .ok (.invokevirtual 124, 3) := by decide +kernel
theorem dX8_readsDoing_62 : decode cX8_readsDoing 62 = .ok (.istore_n 3, 1) := by decide +kernel
theorem dX8_readsDoing_63 : decode cX8_readsDoing 63 = .ok (.aload_n 0, 1) := by decide +kernel
theorem dX8_readsDoing_64 : decode cX8_readsDoing 64 = .ok (.iconst 0, 1) := by decide +kernel
theorem dX8_readsDoing_65 : decode cX8_readsDoing 65 = .ok (.bipush 99, 2) := by decide +kernel
theorem dX8_readsDoing_67 : decode cX8_readsDoing 67 = .ok (.invokevirtual 124, 3) := by decide +kernel
theorem dX8_readsDoing_70 : decode cX8_readsDoing 70 = .ok (.istore 4, 2) := by decide +kernel
theorem dX8_readsDoing_72 : decode cX8_readsDoing 72 = .ok (.aload_n 0, 1) := by decide +kernel
theorem dX8_readsDoing_73 : decode cX8_readsDoing 73 = .ok (.aload_n 0, 1) := by decide +kernel
theorem dX8_readsDoing_74 : decode cX8_readsDoing 74 = .ok (.getfield 98, 3) := by decide +kernel
theorem dX8_readsDoing_77 : decode cX8_readsDoing 77 = .ok (.iconst 4, 1) := by decide +kernel
theorem dX8_readsDoing_78 : decode cX8_readsDoing 78 = .ok (.if_icmp .ne 7, 3) := by decide +kernel
theorem dX8_readsDoing_81 : decode cX8_readsDoing 81 = .ok (.iconst 1, 1) := by decide +kernel
theorem dX8_readsDoing_82 : decode cX8_readsDoing 82 = .ok (.goto 4, 3) := by decide +kernel
theorem dX8_readsDoing_85 : decode cX8_readsDoing 85 = .ok (.iconst 0, 1) := by decide +kernel
theorem dX8_readsDoing_86 : decode cX8_readsDoing 86 = .ok (.iconst 1, 1) := by decide +kernel
theorem dX8_readsDoing_87 : decode cX8_readsDoing 87 = .ok (.invokevirtual 114, 3) := by decide +kernel
theorem dX8_readsDoing_90 : decode cX8_readsDoing 90 = .ok (.pop, 1) := by decide +kernel
theorem dX8_readsDoing_91 : decode cX8_readsDoing 91 = .ok (.aload_n 0, 1) := by decide +kernel
theorem dX8_readsDoing_92 : decode cX8_readsDoing 92 = .ok (.invokevirtual 104, 3) := by decide +kernel
theorem dX8_readsDoing_95 : decode cX8_readsDoing 95 = .ok (.ifCond .eq 69, 3) := by decide +kernel
theorem dX8_readsDoing_98 : decode cX8_readsDoing 98 = .ok (.aload_n 0, 1) := by decide +kernel
theorem dX8_readsDoing_99 : decode cX8_readsDoing 99 = .ok (.getfield 28, 3) := by decide +kernel
theorem dX8_readsDoing_102 : decode cX8_readsDoing 102 = .ok (.iload_n 1, 1) := by decide +kernel
theorem dX8_readsDoing_103 : decode cX8_readsDoing 103 = .ok (.iconst 0, 1) := by decide +kernel
theorem dX8_readsDoing_104 : decode cX8_readsDoing 104 = .ok (.iadd, 1) := by decide +kernel
theorem dX8_readsDoing_105 : decode cX8_readsDoing 105 = .ok (.iload_n 2, 1) := by decide +kernel
theorem dX8_readsDoing_106 : decode cX8_readsDoing 106 = .ok (.iastore, 1) := by decide +kernel
theorem dX8_readsDoing_107 : decode cX8_readsDoing 107 = .ok (.aload_n 0, 1) := by decide +kernel
theorem dX8_readsDoing_108 : decode cX8_readsDoing 108 = .ok (.getfield 28, 3) := by decide +kernel
theorem dX8_readsDoing_111 : decode cX8_readsDoing 111 = .ok (.iload_n 1, 1) := by decide +kernel
theorem dX8_readsDoing_112 : decode cX8_readsDoing 112 = .ok (.iconst 1, 1) := by decide +kernel
theorem dX8_readsDoing_113 : decode cX8_readsDoing 113 = .ok (.iadd, 1) := by decide +kernel
theorem dX8_readsDoing_114 : decode cX8_readsDoing 114 = .ok (.iload_n 3, 1) := by decide +kernel
theorem dX8_readsDoing_115 : decode cX8_readsDoing 115 = .ok (.iastore, 1) := by decide +kernel
theorem dX8_readsDoing_116 : decode cX8_readsDoing 116 = .ok (.aload_n 0, 1) := by decide +kernel
theorem dX8_readsDoing_117 : decode cX8_readsDoing 117 = .ok (.getfield 28, 3) := by decide +kernel
theorem dX8_readsDoing_120 : decode cX8_readsDoing 120 = .ok (.iload_n 1, 1) := by decide +kernel
theorem dX8_readsDoing_121 : decode cX8_readsDoing 121 = .ok (.iconst 2, 1) := by decide +kernel
theorem dX8_readsDoing_122 : decode cX8_readsDoing 122 = .ok (.iadd, 1) := by decide +kernel
theorem dX8_readsDoing_123 : decode cX8_readsDoing 123 = .ok (.iload 4, 2) := by decide +kernel
theorem dX8_readsDoing_125 : decode cX8_readsDoing 125 = .ok (.iastore, 1) := by decide +kernel
theorem dX8_readsDoing_126 : decode cX8_readsDoing 126 = .ok (.aload_n 0, 1) := by decide +kernel
theorem dX8_readsDoing_127 : decode cX8_readsDoing 127 = .ok (.getfield 28, 3) := by decide +kernel
theorem dX8_readsDoing_130 : decode cX8_readsDoing 130 = .ok (.iload_n 1, 1) := by decide +kernel
theorem dX8_readsDoing_131 : decode cX8_readsDoing 131 = .ok (.iconst 3, 1) := by decide +kernel
theorem dX8_readsDoing_132 : decode cX8_readsDoing 132 = .ok (.iadd, 1) := by decide +kernel
theorem dX8_readsDoing_133 : decode cX8_readsDoing 133 = .ok (.iload_n 2, 1) := by decide +kernel
theorem dX8_readsDoing_134 : decode cX8_readsDoing 134 = .ok (.ifCond .ne 7, 3) := by decide +kernel
theorem dX8_readsDoing_137 : decode cX8_readsDoing 137 = .ok (.iconst 0, 1) := by decide +kernel
theorem dX8_readsDoing_138 : decode cX8_readsDoing 138 = .ok (.goto 5, 3) := by decide +kernel
theorem dX8_readsDoing_141 : decode cX8_readsDoing 141 = .ok (.ldc 50, 2) := by decide +kernel
theorem dX8_readsDoing_143 : decode cX8_readsDoing 143 = .ok (.iastore, 1) := by decide +kernel
theorem dX8_readsDoing_144 : decode cX8_readsDoing 144 = .ok (.aload_n 0, 1) := by decide +kernel
theorem dX8_readsDoing_145 : decode cX8_readsDoing 145 = .ok (.getfield 28, 3) := by decide +kernel
theorem dX8_readsDoing_148 : decode cX8_readsDoing 148 = .ok (.iload_n 1, 1) := by decide +kernel
theorem dX8_readsDoing_149 : decode cX8_readsDoing 149 = .ok (.iconst 4, 1) := by decide +kernel
theorem dX8_readsDoing_150 : decode cX8_readsDoing 150 = .ok (.iadd, 1) := by decide +kernel
theorem dX8_readsDoing_151 : decode cX8_readsDoing 151 = .ok (.ldc 50, 2) := by decide +kernel
theorem dX8_readsDoing_153 : decode cX8_readsDoing 153 = .ok (.iastore, 1) := by decide +kernel
theorem dX8_readsDoing_154 : decode cX8_readsDoing 154 = .ok (.aload_n 0, 1) := by decide +kernel
theorem dX8_readsDoing_155 : decode cX8_readsDoing 155 = .ok (.getfield 28, 3) := by decide +kernel
theorem dX8_readsDoing_158 : decode cX8_readsDoing 158 = .ok (.iconst 5, 1) := by decide +kernel
theorem dX8_readsDoing_159 : decode cX8_readsDoing 159 = .ok (.dup2, 1) := by decide +kernel
theorem dX8_readsDoing_160 : decode cX8_readsDoing 160 = .ok (.iaload, 1) := by decide +kernel
theorem dX8_readsDoing_161 : decode cX8_readsDoing 161 = .ok (.iconst 1, 1) := by decide +kernel
theorem dX8_readsDoing_162 : decode cX8_readsDoing 162 = .ok (.iadd, 1) := by decide +kernel
theorem dX8_readsDoing_163 : decode cX8_readsDoing 163 = .ok (.iastore, 1) := by decide +kernel
theorem dX8_readsDoing_164 : decode cX8_readsDoing 164 = .ok (.return_, 1) := by decide +kernel
theorem dX8_house_0 : decode cX8_house 0 = .ok (.iconst 0, 1) := by decide +kernel
theorem dX8_house_1 : decode cX8_house 1 = .ok (.istore_n 1, 1) := by decide +kernel
theorem dX8_house_2 : decode cX8_house 2 = .ok (.iload_n 1, 1) := by decide +kernel
theorem dX8_house_3 : decode cX8_house 3 = .ok (.bipush 68, 2) := by decide +kernel
theorem dX8_house_5 : decode cX8_house 5 = .ok (.if_icmp .ge 16, 3) := by decide +kernel
theorem dX8_house_8 : decode cX8_house 8 = .ok (.aload_n 0, 1) := by decide +kernel
theorem dX8_house_9 : decode cX8_house 9 = .ok (.getfield 28, 3) := by decide +kernel
theorem dX8_house_12 : decode cX8_house 12 = .ok (.iload_n 1, 1) := by decide +kernel
theorem dX8_house_13 : decode cX8_house 13 = .ok (.iconst 0, 1) := by decide +kernel
theorem dX8_house_14 : decode cX8_house 14 = .ok (.iastore, 1) := by decide +kernel
theorem dX8_house_15 : decode cX8_house 15 = .ok (.iinc 1 1, 3) := by decide +kernel
theorem dX8_house_18 : decode cX8_house 18 = .ok (.goto (-16), 3) := by decide +kernel
theorem dX8_house_21 : decode cX8_house 21 = .ok (.aload_n 0, 1) := by decide +kernel
theorem dX8_house_22 : decode cX8_house 22 = .ok (.iconst 0, 1) := by decide +kernel
theorem dX8_house_23 : decode cX8_house 23 = .ok (.putfield 86, 3) := by decide +kernel
theorem dX8_house_26 : decode cX8_house 26 = .ok (.aload_n 0, 1) := by decide +kernel
theorem dX8_house_27 : decode cX8_house 27 = .ok (.iconst (-1), 1) := by decide +kernel
theorem dX8_house_28 : decode cX8_house 28 = .ok (.putfield 101, 3) := by decide +kernel
theorem dX8_house_31 : decode cX8_house 31 = .ok (.aload_n 0, 1) := by decide +kernel
theorem dX8_house_32 : decode cX8_house 32 = .ok (.invokevirtual 111, 3) := by decide +kernel
theorem dX8_house_35 : decode cX8_house 35 = .ok (.aload_n 0, 1) := by decide +kernel
theorem dX8_house_36 : decode cX8_house 36 = .ok (.aload_n 0, 1) := by decide +kernel
theorem dX8_house_37 : decode cX8_house 37 = .ok (.getfield 98, 3) := by decide +kernel
theorem dX8_house_40 : decode cX8_house 40 = .ok (.iconst 1, 1) := by decide +kernel
theorem dX8_house_41 : decode cX8_house 41 = .ok (.if_icmp .ne 16, 3) := by decide +kernel
theorem dX8_house_44 : decode cX8_house 44 = .ok (.aload_n 0, 1) := by decide +kernel
theorem dX8_house_45 : decode cX8_house 45 = .ok (.getfield 95, 3) := by decide +kernel
theorem dX8_house_48 : decode cX8_house 48 = .ok (.bipush 99, 2) := by decide +kernel
theorem dX8_house_50 : decode cX8_house 50 = .ok (.if_icmp .ne 7, 3) := by decide +kernel
theorem dX8_house_53 : decode cX8_house 53 = .ok (.iconst 1, 1) := by decide +kernel
theorem dX8_house_54 : decode cX8_house 54 = .ok (.goto 4, 3) := by decide +kernel
theorem dX8_house_57 : decode cX8_house 57 = .ok (.iconst 0, 1) := by decide +kernel
theorem dX8_house_58 : decode cX8_house 58 = .ok (.iconst 1, 1) := by decide +kernel
theorem dX8_house_59 : decode cX8_house 59 = .ok (.invokevirtual 114, 3) := by decide +kernel
theorem dX8_house_62 : decode cX8_house 62 = .ok (.pop, 1) := by decide +kernel
theorem dX8_house_63 : decode cX8_house 63 = .ok (.aload_n 0, 1) := by decide +kernel
theorem dX8_house_64 : decode cX8_house 64 = .ok (.getfield 28, 3) := by decide +kernel
theorem dX8_house_67 : decode cX8_house 67 = .ok (.iconst 1, 1) := by decide +kernel
theorem dX8_house_68 : decode cX8_house 68 = .ok (.aload_n 0, 1) := by decide +kernel
theorem dX8_house_69 : decode cX8_house 69 = .ok (.iconst 0, 1) := by decide +kernel
theorem dX8_house_70 : decode cX8_house 70 = .ok (.bipush 12, 2) := by decide +kernel
theorem dX8_house_72 : decode cX8_house 72 = .ok (.invokevirtual 118, 3) := by decide +kernel
theorem dX8_house_75 : decode cX8_house 75 = .ok (.iastore, 1) := by decide +kernel
theorem dX8_house_76 : decode cX8_house 76 = .ok (.aload_n 0, 1) := by decide +kernel
theorem dX8_house_77 : decode cX8_house 77 = .ok (.aload_n 0, 1) := by decide +kernel
theorem dX8_house_78 : decode cX8_house 78 = .ok (.getfield 98, 3) := by decide +kernel
theorem dX8_house_81 : decode cX8_house 81 = .ok (.iconst 4, 1) := by decide +kernel
theorem dX8_house_82 : decode cX8_house 82 = .ok (.if_icmp .ne 7, 3) := by decide +kernel
theorem dX8_house_85 : decode cX8_house 85 = .ok (.iconst 1, 1) := by decide +kernel
theorem dX8_house_86 : decode cX8_house 86 = .ok (.goto 4, 3) := by decide +kernel
theorem dX8_house_89 : decode cX8_house 89 = .ok (.iconst 0, 1) := by decide +kernel
theorem dX8_house_90 : decode cX8_house 90 = .ok (.iconst 1, 1) := by decide +kernel
theorem dX8_house_91 : decode cX8_house 91 = .ok (.invokevirtual 114, 3) := by decide +kernel
theorem dX8_house_94 : decode cX8_house 94 = .ok (.pop, 1) := by decide +kernel
theorem dX8_house_95 : decode cX8_house 95 = .ok (.aload_n 0, 1) := by decide +kernel
theorem dX8_house_96 : decode cX8_house 96 = .ok (.invokevirtual 104, 3) := by decide +kernel
theorem dX8_house_99 : decode cX8_house 99 = .ok (.ifCond .eq 28, 3) := by decide +kernel
theorem dX8_house_102 : decode cX8_house 102 = .ok (.aload_n 0, 1) := by decide +kernel
theorem dX8_house_103 : decode cX8_house 103 = .ok (.getfield 98, 3) := by decide +kernel
theorem dX8_house_106 : decode cX8_house 106 = .ok (.iconst 1, 1) := by decide +kernel
theorem dX8_house_107 : decode cX8_house 107 = .ok (.if_icmp .ne 20, 3) := by decide +kernel
theorem dX8_house_110 : decode cX8_house 110 = .ok (.aload_n 0, 1) := by decide +kernel
theorem dX8_house_111 : decode cX8_house 111 = .ok (.getfield 95, 3) := by decide +kernel
theorem dX8_house_114 : decode cX8_house 114 = .ok (.invokestatic 121, 3) := by decide +kernel
theorem dX8_house_117 : decode cX8_house 117 = .ok (.ifCond .le 10, 3) := by decide +kernel
theorem dX8_house_120 : decode cX8_house 120 = .ok (.aload_n 0, 1) := by decide +kernel
theorem dX8_house_121 : decode cX8_house 121 = .ok (.invokevirtual 127, 3) := by decide +kernel
theorem dX8_house_124 : decode cX8_house 124 = .ok (.goto (-29), 3) := by decide +kernel
theorem dX8_house_127 : decode cX8_house 127 = .ok (.aload_n 0, 1) := by decide +kernel
theorem dX8_house_128 : decode cX8_house 128 = .ok (.invokevirtual 104, 3) := by decide +kernel
theorem dX8_house_131 : decode cX8_house 131 = .ok (.ifCond .eq 27, 3) := by decide +kernel
theorem dX8_house_134 : decode cX8_house 134 = .ok (.aload_n 0, 1) := by decide +kernel
theorem dX8_house_135 : decode cX8_house 135 = .ok (.getfield 98, 3) := by decide +kernel
theorem dX8_house_138 : decode cX8_house 138 = .ok (.iconst 1, 1) := by decide +kernel
theorem dX8_house_139 : decode cX8_house 139 = .ok (.if_icmp .ne 19, 3) := by decide +kernel
theorem dX8_house_142 : decode cX8_house 142 = .ok (.aload_n 0, 1) := by decide +kernel
theorem dX8_house_143 : decode cX8_house 143 = .ok (.getfield 95, 3) := by decide +kernel
theorem dX8_house_146 : decode cX8_house 146 = .ok (.bipush 120, 2) := by decide +kernel
theorem dX8_house_148 : decode cX8_house 148 = .ok (.if_icmp .ne 10, 3) := by decide +kernel
theorem dX8_house_151 : decode cX8_house 151 = .ok (.aload_n 0, 1) := by decide +kernel
theorem dX8_house_152 : decode cX8_house 152 = .ok (.invokevirtual 130, 3) := by decide +kernel
theorem dX8_house_155 : decode cX8_house 155 = .ok (.goto (-28), 3) := by decide +kernel
theorem dX8_house_158 : decode cX8_house 158 = .ok (.aload_n 0, 1) := by decide +kernel
theorem dX8_house_159 : decode cX8_house 159 = .ok (.invokevirtual 104, 3) := by decide +kernel
theorem dX8_house_162 : decode cX8_house 162 = .ok (.ifCond .eq 17, 3) := by decide +kernel
theorem dX8_house_165 : decode cX8_house 165 = .ok (.aload_n 0, 1) := by decide +kernel
theorem dX8_house_166 : decode cX8_house 166 = .ok (.getfield 98, 3) := by decide +kernel
theorem dX8_house_169 : decode cX8_house 169 = .ok (.ifCond .eq 10, 3) := by decide +kernel
theorem dX8_house_172 : decode cX8_house 172 = .ok (.aload_n 0, 1) := by decide +kernel
theorem dX8_house_173 : decode cX8_house 173 = .ok (.iconst 0, 1) := by decide +kernel
theorem dX8_house_174 : decode cX8_house 174 = .ok (.iconst 1, 1) := by decide +kernel
theorem dX8_house_175 : decode cX8_house 175 = .ok (.invokevirtual 114, 3) := by decide +kernel
theorem dX8_house_178 : decode cX8_house 178 = .ok (.pop, 1) := by decide +kernel
theorem dX8_house_179 : decode cX8_house 179 = .ok (.aload_n 0, 1) := by decide +kernel
theorem dX8_house_180 : decode cX8_house 180 = .ok (.iconst 0, 1) := by decide +kernel
theorem dX8_house_181 : decode cX8_house 181 = .ok (.putfield 82, 3) := by decide +kernel
theorem dX8_house_184 : decode cX8_house 184 = .ok (.aload_n 0, 1) := by decide +kernel
theorem dX8_house_185 : decode cX8_house 185 = .ok (.invokevirtual 104, 3) := by decide +kernel
theorem dX8_house_188 : decode cX8_house 188 = .ok (.ifCond .ne 11, 3) := by decide +kernel
theorem dX8_house_191 : decode cX8_house 191 = .ok (.ldc 133, 2) := by decide +kernel
theorem dX8_house_193 : decode cX8_house 193 = .ok (.aload_n 0, 1) := by decide +kernel
theorem dX8_house_194 : decode cX8_house 194 = .ok (.getfield 101, 3) := by decide +kernel
theorem dX8_house_197 : decode cX8_house 197 = .ok (.isub, 1) := by decide +kernel
theorem dX8_house_198 : decode cX8_house 198 = .ok (.ireturn, 1) := by decide +kernel
theorem dX8_house_199 : decode cX8_house 199 = .ok (.aload_n 0, 1) := by decide +kernel
theorem dX8_house_200 : decode cX8_house 200 = .ok (.getfield 28, 3) := by decide +kernel
theorem dX8_house_203 : decode cX8_house 203 = .ok (.iconst 0, 1) := by decide +kernel
theorem dX8_house_204 : decode cX8_house 204 = .ok (.iconst 1, 1) := by decide +kernel
theorem dX8_house_205 : decode cX8_house 205 = .ok (.iastore, 1) := by decide +kernel
theorem dX8_house_206 : decode cX8_house 206 = .ok (.aload_n 0, 1) := by decide +kernel
theorem dX8_house_207 : decode cX8_house 207 = .ok (.getfield 28, 3) := by decide +kernel
theorem dX8_house_210 : decode cX8_house 210 = .ok (.iconst 0, 1) := by decide +kernel
theorem dX8_house_211 : decode cX8_house 211 = .ok (.aload_n 0, 1) := by decide +kernel
theorem dX8_house_212 : decode cX8_house 212 = .ok (.getfield 25, 3) := by decide +kernel
theorem dX8_house_215 : decode cX8_house 215 = .ok (.iconst 0, 1) := by decide +kernel
theorem dX8_house_216 : decode cX8_house 216 = .ok (.invokestatic 134, 3) := by decide +kernel
theorem dX8_house_219 : decode cX8_house 219 = .ok (.aload_n 0, 1) := by decide +kernel
theorem dX8_house_220 : decode cX8_house 220 = .ok (.iconst 0, 1) := by decide +kernel
theorem dX8_house_221 : decode cX8_house 221 = .ok (.putfield 138, 3) := by decide +kernel
theorem dX8_house_224 : decode cX8_house 224 = .ok (.aload_n 0, 1) := by decide +kernel
theorem dX8_house_225 : decode cX8_house 225 = .ok (.getfield 25, 3) := by decide +kernel
theorem dX8_house_228 : decode cX8_house 228 = .ok (.iconst 4, 1) := by decide +kernel
theorem dX8_house_229 : decode cX8_house 229 = .ok (.iaload, 1) := by decide +kernel
theorem dX8_house_230 : decode cX8_house 230 = .ok (.ireturn, 1) := by decide +kernel
theorem dX8_fault_0 : decode cX8_fault 0 = .ok (.aload_n 0, 1) := by decide +kernel
theorem dX8_fault_1 : decode cX8_fault 1 = .ok (.getfield 108, 3) := by decide +kernel
theorem dX8_fault_4 : decode cX8_fault 4 = .ok (.ireturn, 1) := by decide +kernel
theorem dX8_isHouse_0 : decode cX8_isHouse 0 = .ok (.aload_n 0, 1) := by decide +kernel
theorem dX8_isHouse_1 : decode cX8_isHouse 1 = .ok (.getfield 25, 3) := by decide +kernel
theorem dX8_isHouse_4 : decode cX8_isHouse 4 = .ok (.iconst 0, 1) := by decide +kernel
theorem dX8_isHouse_5 : decode cX8_isHouse 5 = .ok (.iaload, 1) := by decide +kernel
theorem dX8_isHouse_6 : decode cX8_isHouse 6 = .ok (.iconst 1, 1) := by decide +kernel
theorem dX8_isHouse_7 : decode cX8_isHouse 7 = .ok (.if_icmp .ne 7, 3) := by decide +kernel
theorem dX8_isHouse_10 : decode cX8_isHouse 10 = .ok (.iconst 1, 1) := by decide +kernel
theorem dX8_isHouse_11 : decode cX8_isHouse 11 = .ok (.goto 4, 3) := by decide +kernel
theorem dX8_isHouse_14 : decode cX8_isHouse 14 = .ok (.iconst 0, 1) := by decide +kernel
theorem dX8_isHouse_15 : decode cX8_isHouse 15 = .ok (.ireturn, 1) := by decide +kernel
theorem dX8_isEar_0 : decode cX8_isEar 0 = .ok (.iload_n 1, 1) := by decide +kernel
theorem dX8_isEar_1 : decode cX8_isEar 1 = .ok (.iconst 0, 1) := by decide +kernel
theorem dX8_isEar_2 : decode cX8_isEar 2 = .ok (.aload_n 0, 1) := by decide +kernel
theorem dX8_isEar_3 : decode cX8_isEar 3 = .ok (.getfield 25, 3) := by decide +kernel
theorem dX8_isEar_6 : decode cX8_isEar 6 = .ok (.iconst 4, 1) := by decide +kernel
theorem dX8_isEar_7 : decode cX8_isEar 7 = .ok (.iaload, 1) := by decide +kernel
theorem dX8_isEar_8 : decode cX8_isEar 8 = .ok (.iconst 1, 1) := by decide +kernel
theorem dX8_isEar_9 : decode cX8_isEar 9 = .ok (.isub, 1) := by decide +kernel
theorem dX8_isEar_10 : decode cX8_isEar 10 = .ok (.invokestatic 56, 3) := by decide +kernel
theorem dX8_isEar_13 : decode cX8_isEar 13 = .ok (.ireturn, 1) := by decide +kernel
theorem dX8_isDoing_0 : decode cX8_isDoing 0 = .ok (.iload_n 1, 1) := by decide +kernel
theorem dX8_isDoing_1 : decode cX8_isDoing 1 = .ok (.iconst 0, 1) := by decide +kernel
theorem dX8_isDoing_2 : decode cX8_isDoing 2 = .ok (.aload_n 0, 1) := by decide +kernel
theorem dX8_isDoing_3 : decode cX8_isDoing 3 = .ok (.getfield 25, 3) := by decide +kernel
theorem dX8_isDoing_6 : decode cX8_isDoing 6 = .ok (.iconst 5, 1) := by decide +kernel
theorem dX8_isDoing_7 : decode cX8_isDoing 7 = .ok (.iaload, 1) := by decide +kernel
theorem dX8_isDoing_8 : decode cX8_isDoing 8 = .ok (.iconst 1, 1) := by decide +kernel
theorem dX8_isDoing_9 : decode cX8_isDoing 9 = .ok (.isub, 1) := by decide +kernel
theorem dX8_isDoing_10 : decode cX8_isDoing 10 = .ok (.invokestatic 56, 3) := by decide +kernel
theorem dX8_isDoing_13 : decode cX8_isDoing 13 = .ok (.ireturn, 1) := by decide +kernel
theorem dX8_listens_0 : decode cX8_listens 0 = .ok (.bipush 6, 2) := by decide +kernel
theorem dX8_listens_2 : decode cX8_listens 2 = .ok (.bipush 7, 2) := by decide +kernel
theorem dX8_listens_4 : decode cX8_listens 4 = .ok (.iload_n 1, 1) := by decide +kernel
theorem dX8_listens_5 : decode cX8_listens 5 = .ok (.imul, 1) := by decide +kernel
theorem dX8_listens_6 : decode cX8_listens 6 = .ok (.iadd, 1) := by decide +kernel
theorem dX8_listens_7 : decode cX8_listens 7 = .ok (.istore_n 2, 1) := by decide +kernel
theorem dX8_listens_8 : decode cX8_listens 8 = .ok (.aload_n 0, 1) := by decide +kernel
theorem dX8_listens_9 : decode cX8_listens 9 = .ok (.iload_n 2, 1) := by decide +kernel
theorem dX8_listens_10 : decode cX8_listens 10 = .ok (.iconst 2, 1) := by decide +kernel
theorem dX8_listens_11 : decode cX8_listens 11 = .ok (.iadd, 1) := by decide +kernel
theorem dX8_listens_12 : decode cX8_listens 12 = .ok (.iaload, 1) := by decide +kernel
theorem dX8_listens_13 : decode cX8_listens 13 = .ok (.ifCond .ne 38, 3) := by decide +kernel
theorem dX8_listens_16 : decode cX8_listens 16 = .ok (.aload_n 0, 1) := by decide +kernel
theorem dX8_listens_17 : decode cX8_listens 17 = .ok (.iload_n 2, 1) := by decide +kernel
theorem dX8_listens_18 : decode cX8_listens 18 = .ok (.iconst 5, 1) := by decide +kernel
theorem dX8_listens_19 : decode cX8_listens 19 = .ok (.iadd, 1) := by decide +kernel
theorem dX8_listens_20 : decode cX8_listens 20 = .ok (.iaload, 1) := by decide +kernel
theorem dX8_listens_21 : decode cX8_listens 21 = .ok (.ifCond .ne 30, 3) := by decide +kernel
theorem dX8_listens_24 : decode cX8_listens 24 = .ok (.aload_n 0, 1) := by decide +kernel
theorem dX8_listens_25 : decode cX8_listens 25 = .ok (.iconst 2, 1) := by decide +kernel
theorem dX8_listens_26 : decode cX8_listens 26 = .ok (.iaload, 1) := by decide +kernel
theorem dX8_listens_27 : decode cX8_listens 27 = .ok (.bipush 8, 2) := by decide +kernel
theorem dX8_listens_29 : decode cX8_listens 29 = .ok (.iadd, 1) := by decide +kernel
theorem dX8_listens_30 : decode cX8_listens 30 = .ok (.aload_n 0, 1) := by decide +kernel
theorem dX8_listens_31 : decode cX8_listens 31 = .ok (.iload_n 2, 1) := by decide +kernel
theorem dX8_listens_32 : decode cX8_listens 32 = .ok (.iconst 3, 1) := by decide +kernel
theorem dX8_listens_33 : decode cX8_listens 33 = .ok (.iadd, 1) := by decide +kernel
theorem dX8_listens_34 : decode cX8_listens 34 = .ok (.iaload, 1) := by decide +kernel
theorem dX8_listens_35 : decode cX8_listens 35 = .ok (.isub, 1) := by decide +kernel
theorem dX8_listens_36 : decode cX8_listens 36 = .ok (.bipush 8, 2) := by decide +kernel
theorem dX8_listens_38 : decode cX8_listens 38 = .ok (.irem, 1) := by decide +kernel
theorem dX8_listens_39 : decode cX8_listens 39 = .ok (.aload_n 0, 1) := by decide +kernel
theorem dX8_listens_40 : decode cX8_listens 40 = .ok (.iload_n 2, 1) := by decide +kernel
theorem dX8_listens_41 : decode cX8_listens 41 = .ok (.iconst 4, 1) := by decide +kernel
theorem dX8_listens_42 : decode cX8_listens 42 = .ok (.iadd, 1) := by decide +kernel
theorem dX8_listens_43 : decode cX8_listens 43 = .ok (.iaload, 1) := by decide +kernel
theorem dX8_listens_44 : decode cX8_listens 44 = .ok (.if_icmp .ge 7, 3) := by decide +kernel
theorem dX8_listens_47 : decode cX8_listens 47 = .ok (.iconst 1, 1) := by decide +kernel
theorem dX8_listens_48 : decode cX8_listens 48 = .ok (.goto 4, 3) := by decide +kernel
theorem dX8_listens_51 : decode cX8_listens 51 = .ok (.iconst 0, 1) := by decide +kernel
theorem dX8_listens_52 : decode cX8_listens 52 = .ok (.ireturn, 1) := by decide +kernel
theorem dX8_listening_0 : decode cX8_listening 0 = .ok (.iconst 0, 1) := by decide +kernel
theorem dX8_listening_1 : decode cX8_listening 1 = .ok (.istore_n 1, 1) := by decide +kernel
theorem dX8_listening_2 : decode cX8_listening 2 = .ok (.iconst 0, 1) := by decide +kernel
theorem dX8_listening_3 : decode cX8_listening 3 = .ok (.istore_n 2, 1) := by decide +kernel
theorem dX8_listening_4 : decode cX8_listening 4 = .ok (.iload_n 2, 1) := by decide +kernel
theorem dX8_listening_5 : decode cX8_listening 5 = .ok (.aload_n 0, 1) := by decide +kernel
theorem dX8_listening_6 : decode cX8_listening 6 = .ok (.iconst 4, 1) := by decide +kernel
theorem dX8_listening_7 : decode cX8_listening 7 = .ok (.iaload, 1) := by decide +kernel
theorem dX8_listening_8 : decode cX8_listening 8 = .ok (.if_icmp .ge 27, 3) := by decide +kernel
theorem dX8_listening_11 : decode cX8_listening 11 = .ok (.iload_n 1, 1) := by decide +kernel
theorem dX8_listening_12 : decode cX8_listening 12 = .ok (.aload_n 0, 1) := by decide +kernel
theorem dX8_listening_13 : decode cX8_listening 13 = .ok (.iload_n 2, 1) := by decide +kernel
theorem dX8_listening_14 : decode cX8_listening 14 = .ok (.invokestatic 141, 3) := by decide +kernel
theorem dX8_listening_17 : decode cX8_listening 17 = .ok (.ifCond .eq 9, 3) := by decide +kernel
theorem dX8_listening_20 : decode cX8_listening 20 = .ok (.iconst 1, 1) := by decide +kernel
theorem dX8_listening_21 : decode cX8_listening 21 = .ok (.iload_n 2, 1) := by decide +kernel
theorem dX8_listening_22 : decode cX8_listening 22 = .ok (.ishl, 1) := by decide +kernel
theorem dX8_listening_23 : decode cX8_listening 23 = .ok (.goto 4, 3) := by decide +kernel
theorem dX8_listening_26 : decode cX8_listening 26 = .ok (.iconst 0, 1) := by decide +kernel
theorem dX8_listening_27 : decode cX8_listening 27 = .ok (.ior, 1) := by decide +kernel
theorem dX8_listening_28 : decode cX8_listening 28 = .ok (.istore_n 1, 1) := by decide +kernel
theorem dX8_listening_29 : decode cX8_listening 29 = .ok (.iinc 2 1, 3) := by decide +kernel
theorem dX8_listening_32 : decode cX8_listening 32 = .ok (.goto (-28), 3) := by decide +kernel
theorem dX8_listening_35 : decode cX8_listening 35 = .ok (.iload_n 1, 1) := by decide +kernel
theorem dX8_listening_36 : decode cX8_listening 36 = .ok (.ireturn, 1) := by decide +kernel
theorem dX8_heedOf_0 : decode cX8_heedOf 0 = .ok (.bipush 6, 2) := by decide +kernel
theorem dX8_heedOf_2 : decode cX8_heedOf 2 = .ok (.bipush 7, 2) := by decide +kernel
theorem dX8_heedOf_4 : decode cX8_heedOf 4 = .ok (.iload_n 1, 1) := by decide +kernel
theorem dX8_heedOf_5 : decode cX8_heedOf 5 = .ok (.imul, 1) := by decide +kernel
theorem dX8_heedOf_6 : decode cX8_heedOf 6 = .ok (.iadd, 1) := by decide +kernel
theorem dX8_heedOf_7 : decode cX8_heedOf 7 = .ok (.istore_n 2, 1) := by decide +kernel
theorem dX8_heedOf_8 : decode cX8_heedOf 8 = .ok (.aload_n 0, 1) := by decide +kernel
theorem dX8_heedOf_9 : decode cX8_heedOf 9 = .ok (.iload_n 2, 1) := by decide +kernel
theorem dX8_heedOf_10 : decode cX8_heedOf 10 = .ok (.iconst 1, 1) := by decide +kernel
theorem dX8_heedOf_11 : decode cX8_heedOf 11 = .ok (.iadd, 1) := by decide +kernel
theorem dX8_heedOf_12 : decode cX8_heedOf 12 = .ok (.iaload, 1) := by decide +kernel
theorem dX8_heedOf_13 : decode cX8_heedOf 13 = .ok (.aload_n 0, 1) := by decide +kernel
theorem dX8_heedOf_14 : decode cX8_heedOf 14 = .ok (.iconst 1, 1) := by decide +kernel
theorem dX8_heedOf_15 : decode cX8_heedOf 15 = .ok (.iaload, 1) := by decide +kernel
theorem dX8_heedOf_16 : decode cX8_heedOf 16 = .ok (.if_icmp .le 15, 3) := by decide +kernel
theorem dX8_heedOf_19 : decode cX8_heedOf 19 = .ok (.aload_n 0, 1) := by decide +kernel
theorem dX8_heedOf_20 : decode cX8_heedOf 20 = .ok (.iload_n 2, 1) := by decide +kernel
theorem dX8_heedOf_21 : decode cX8_heedOf 21 = .ok (.iconst 1, 1) := by decide +kernel
theorem dX8_heedOf_22 : decode cX8_heedOf 22 = .ok (.iadd, 1) := by decide +kernel
theorem dX8_heedOf_23 : decode cX8_heedOf 23 = .ok (.iaload, 1) := by decide +kernel
theorem dX8_heedOf_24 : decode cX8_heedOf 24 = .ok (.aload_n 0, 1) := by decide +kernel
theorem dX8_heedOf_25 : decode cX8_heedOf 25 = .ok (.iconst 1, 1) := by decide +kernel
theorem dX8_heedOf_26 : decode cX8_heedOf 26 = .ok (.iaload, 1) := by decide +kernel
theorem dX8_heedOf_27 : decode cX8_heedOf 27 = .ok (.isub, 1) := by decide +kernel
theorem dX8_heedOf_28 : decode cX8_heedOf 28 = .ok (.goto 4, 3) := by decide +kernel
theorem dX8_heedOf_31 : decode cX8_heedOf 31 = .ok (.iconst 0, 1) := by decide +kernel
theorem dX8_heedOf_32 : decode cX8_heedOf 32 = .ok (.istore_n 3, 1) := by decide +kernel
theorem dX8_heedOf_33 : decode cX8_heedOf 33 = .ok (.aload_n 0, 1) := by decide +kernel
theorem dX8_heedOf_34 : decode cX8_heedOf 34 = .ok (.iload_n 2, 1) := by decide +kernel
theorem dX8_heedOf_35 : decode cX8_heedOf 35 = .ok (.iaload, 1) := by decide +kernel
theorem dX8_heedOf_36 : decode cX8_heedOf 36 = .ok (.tableswitch 49 3 5 #[28, 32, 47], 28) := by decide +kernel
theorem dX8_heedOf_64 : decode cX8_heedOf 64 = .ok (.iload_n 3, 1) := by decide +kernel
theorem dX8_heedOf_65 : decode cX8_heedOf 65 = .ok (.iconst 2, 1) := by decide +kernel
theorem dX8_heedOf_66 : decode cX8_heedOf 66 = .ok (.idiv, 1) := by decide +kernel
theorem dX8_heedOf_67 : decode cX8_heedOf 67 = .ok (.ireturn, 1) := by decide +kernel
theorem dX8_heedOf_68 : decode cX8_heedOf 68 = .ok (.iload_n 3, 1) := by decide +kernel
theorem dX8_heedOf_69 : decode cX8_heedOf 69 = .ok (.iconst 2, 1) := by decide +kernel
theorem dX8_heedOf_70 : decode cX8_heedOf 70 = .ok (.idiv, 1) := by decide +kernel
theorem dX8_heedOf_71 : decode cX8_heedOf 71 = .ok (.iconst 3, 1) := by decide +kernel
theorem dX8_heedOf_72 : decode cX8_heedOf 72 = .ok (.if_icmp .ge 9, 3) := by decide +kernel
theorem dX8_heedOf_75 : decode cX8_heedOf 75 = .ok (.iload_n 3, 1) := by decide +kernel
theorem dX8_heedOf_76 : decode cX8_heedOf 76 = .ok (.iconst 2, 1) := by decide +kernel
theorem dX8_heedOf_77 : decode cX8_heedOf 77 = .ok (.idiv, 1) := by decide +kernel
theorem dX8_heedOf_78 : decode cX8_heedOf 78 = .ok (.goto 4, 3) := by decide +kernel
theorem dX8_heedOf_81 : decode cX8_heedOf 81 = .ok (.iconst 3, 1) := by decide +kernel
theorem dX8_heedOf_82 : decode cX8_heedOf 82 = .ok (.ireturn, 1) := by decide +kernel
theorem dX8_heedOf_83 : decode cX8_heedOf 83 = .ok (.iconst 0, 1) := by decide +kernel
theorem dX8_heedOf_84 : decode cX8_heedOf 84 = .ok (.ireturn, 1) := by decide +kernel
theorem dX8_heedOf_85 : decode cX8_heedOf 85 = .ok (.iload_n 3, 1) := by decide +kernel
theorem dX8_heedOf_86 : decode cX8_heedOf 86 = .ok (.ireturn, 1) := by decide +kernel
theorem dX8_given_0 : decode cX8_given 0 = .ok (.iconst 0, 1) := by decide +kernel
theorem dX8_given_1 : decode cX8_given 1 = .ok (.istore_n 3, 1) := by decide +kernel
theorem dX8_given_2 : decode cX8_given 2 = .ok (.iconst 0, 1) := by decide +kernel
theorem dX8_given_3 : decode cX8_given 3 = .ok (.istore 4, 2) := by decide +kernel
theorem dX8_given_5 : decode cX8_given 5 = .ok (.iload 4, 2) := by decide +kernel
theorem dX8_given_7 : decode cX8_given 7 = .ok (.aload_n 0, 1) := by decide +kernel
theorem dX8_given_8 : decode cX8_given 8 = .ok (.iconst 4, 1) := by decide +kernel
theorem dX8_given_9 : decode cX8_given 9 = .ok (.iaload, 1) := by decide +kernel
theorem dX8_given_10 : decode cX8_given 10 = .ok (.if_icmp .ge 54, 3) := by decide +kernel
theorem dX8_given_13 : decode cX8_given 13 = .ok (.iload_n 3, 1) := by decide +kernel
theorem dX8_given_14 : decode cX8_given 14 = .ok (.iload_n 1, 1) := by decide +kernel
theorem dX8_given_15 : decode cX8_given 15 = .ok (.iload 4, 2) := by decide +kernel
theorem dX8_given_17 : decode cX8_given 17 = .ok (.invokestatic 145, 3) := by decide +kernel
theorem dX8_given_20 : decode cX8_given 20 = .ok (.ifCond .eq 35, 3) := by decide +kernel
theorem dX8_given_23 : decode cX8_given 23 = .ok (.aload_n 0, 1) := by decide +kernel
theorem dX8_given_24 : decode cX8_given 24 = .ok (.bipush 6, 2) := by decide +kernel
theorem dX8_given_26 : decode cX8_given 26 = .ok (.bipush 7, 2) := by decide +kernel
theorem dX8_given_28 : decode cX8_given 28 = .ok (.iload 4, 2) := by decide +kernel
theorem dX8_given_30 : decode cX8_given 30 = .ok (.imul, 1) := by decide +kernel
theorem dX8_given_31 : decode cX8_given 31 = .ok (.iadd, 1) := by decide +kernel
theorem dX8_given_32 : decode cX8_given 32 = .ok (.iaload, 1) := by decide +kernel
theorem dX8_given_33 : decode cX8_given 33 = .ok (.iconst 2, 1) := by decide +kernel
theorem dX8_given_34 : decode cX8_given 34 = .ok (.if_icmp .ne 7, 3) := by decide +kernel
theorem dX8_given_37 : decode cX8_given 37 = .ok (.iconst 1, 1) := by decide +kernel
theorem dX8_given_38 : decode cX8_given 38 = .ok (.goto 4, 3) := by decide +kernel
theorem dX8_given_41 : decode cX8_given 41 = .ok (.iconst 0, 1) := by decide +kernel
theorem dX8_given_42 : decode cX8_given 42 = .ok (.iload_n 2, 1) := by decide +kernel
theorem dX8_given_43 : decode cX8_given 43 = .ok (.if_icmp .ne 12, 3) := by decide +kernel
theorem dX8_given_46 : decode cX8_given 46 = .ok (.aload_n 0, 1) := by decide +kernel
theorem dX8_given_47 : decode cX8_given 47 = .ok (.iload 4, 2) := by decide +kernel
theorem dX8_given_49 : decode cX8_given 49 = .ok (.invokestatic 149, 3) := by decide +kernel
theorem dX8_given_52 : decode cX8_given 52 = .ok (.goto 4, 3) := by decide +kernel
theorem dX8_given_55 : decode cX8_given 55 = .ok (.iconst 0, 1) := by decide +kernel
theorem dX8_given_56 : decode cX8_given 56 = .ok (.iadd, 1) := by decide +kernel
theorem dX8_given_57 : decode cX8_given 57 = .ok (.istore_n 3, 1) := by decide +kernel
theorem dX8_given_58 : decode cX8_given 58 = .ok (.iinc 4 1, 3) := by decide +kernel
theorem dX8_given_61 : decode cX8_given 61 = .ok (.goto (-56), 3) := by decide +kernel
theorem dX8_given_64 : decode cX8_given 64 = .ok (.iload_n 3, 1) := by decide +kernel
theorem dX8_given_65 : decode cX8_given 65 = .ok (.ireturn, 1) := by decide +kernel
theorem dX8_goesBy_0 : decode cX8_goesBy 0 = .ok (.aload_n 0, 1) := by decide +kernel
theorem dX8_goesBy_1 : decode cX8_goesBy 1 = .ok (.iload_n 1, 1) := by decide +kernel
theorem dX8_goesBy_2 : decode cX8_goesBy 2 = .ok (.iconst 0, 1) := by decide +kernel
theorem dX8_goesBy_3 : decode cX8_goesBy 3 = .ok (.invokestatic 153, 3) := by decide +kernel
theorem dX8_goesBy_6 : decode cX8_goesBy 6 = .ok (.istore_n 2, 1) := by decide +kernel
theorem dX8_goesBy_7 : decode cX8_goesBy 7 = .ok (.iload_n 2, 1) := by decide +kernel
theorem dX8_goesBy_8 : decode cX8_goesBy 8 = .ok (.bipush 12, 2) := by decide +kernel
theorem dX8_goesBy_10 : decode cX8_goesBy 10 = .ok (.if_icmp .lt 7, 3) := by decide +kernel
theorem dX8_goesBy_13 : decode cX8_goesBy 13 = .ok (.iload_n 2, 1) := by decide +kernel
theorem dX8_goesBy_14 : decode cX8_goesBy 14 = .ok (.goto 11, 3) := by decide +kernel
theorem dX8_goesBy_17 : decode cX8_goesBy 17 = .ok (.iload_n 2, 1) := by decide +kernel
theorem dX8_goesBy_18 : decode cX8_goesBy 18 = .ok (.aload_n 0, 1) := by decide +kernel
theorem dX8_goesBy_19 : decode cX8_goesBy 19 = .ok (.iload_n 1, 1) := by decide +kernel
theorem dX8_goesBy_20 : decode cX8_goesBy 20 = .ok (.iconst 1, 1) := by decide +kernel
theorem dX8_goesBy_21 : decode cX8_goesBy 21 = .ok (.invokestatic 153, 3) := by decide +kernel
theorem dX8_goesBy_24 : decode cX8_goesBy 24 = .ok (.iadd, 1) := by decide +kernel
theorem dX8_goesBy_25 : decode cX8_goesBy 25 = .ok (.ireturn, 1) := by decide +kernel
theorem dX8_goes_0 : decode cX8_goes 0 = .ok (.aload_n 0, 1) := by decide +kernel
theorem dX8_goes_1 : decode cX8_goes 1 = .ok (.aload_n 0, 1) := by decide +kernel
theorem dX8_goes_2 : decode cX8_goes 2 = .ok (.invokestatic 157, 3) := by decide +kernel
theorem dX8_goes_5 : decode cX8_goes 5 = .ok (.invokestatic 161, 3) := by decide +kernel
theorem dX8_goes_8 : decode cX8_goes 8 = .ok (.ireturn, 1) := by decide +kernel
theorem dX8_passes_0 : decode cX8_passes 0 = .ok (.aload_n 0, 1) := by decide +kernel
theorem dX8_passes_1 : decode cX8_passes 1 = .ok (.invokestatic 164, 3) := by decide +kernel
theorem dX8_passes_4 : decode cX8_passes 4 = .ok (.istore_n 1, 1) := by decide +kernel
theorem dX8_passes_5 : decode cX8_passes 5 = .ok (.iconst 0, 1) := by decide +kernel
theorem dX8_passes_6 : decode cX8_passes 6 = .ok (.istore_n 2, 1) := by decide +kernel
theorem dX8_passes_7 : decode cX8_passes 7 = .ok (.iload_n 2, 1) := by decide +kernel
theorem dX8_passes_8 : decode cX8_passes 8 = .ok (.aload_n 0, 1) := by decide +kernel
theorem dX8_passes_9 : decode cX8_passes 9 = .ok (.iconst 4, 1) := by decide +kernel
theorem dX8_passes_10 : decode cX8_passes 10 = .ok (.iaload, 1) := by decide +kernel
theorem dX8_passes_11 : decode cX8_passes 11 = .ok (.if_icmp .ge 44, 3) := by decide +kernel
theorem dX8_passes_14 : decode cX8_passes 14 = .ok (.aload_n 0, 1) := by decide +kernel
theorem dX8_passes_15 : decode cX8_passes 15 = .ok (.bipush 6, 2) := by decide +kernel
theorem dX8_passes_17 : decode cX8_passes 17 = .ok (.bipush 7, 2) := by decide +kernel
theorem dX8_passes_19 : decode cX8_passes 19 = .ok (.iload_n 2, 1) := by decide +kernel
theorem dX8_passes_20 : decode cX8_passes 20 = .ok (.imul, 1) := by decide +kernel
theorem dX8_passes_21 : decode cX8_passes 21 = .ok (.iadd, 1) := by decide +kernel
theorem dX8_passes_22 : decode cX8_passes 22 = .ok (.bipush 6, 2) := by decide +kernel
theorem dX8_passes_24 : decode cX8_passes 24 = .ok (.iadd, 1) := by decide +kernel
theorem dX8_passes_25 : decode cX8_passes 25 = .ok (.dup2, 1) := by decide +kernel
theorem dX8_passes_26 : decode cX8_passes 26 = .ok (.iaload, 1) := by decide +kernel
theorem dX8_passes_27 : decode cX8_passes 27 = .ok (.aload_n 0, 1) := by decide +kernel
theorem dX8_passes_28 : decode cX8_passes 28 = .ok (.bipush 6, 2) := by decide +kernel
theorem dX8_passes_30 : decode cX8_passes 30 = .ok (.bipush 7, 2) := by decide +kernel
theorem dX8_passes_32 : decode cX8_passes 32 = .ok (.iload_n 2, 1) := by decide +kernel
theorem dX8_passes_33 : decode cX8_passes 33 = .ok (.imul, 1) := by decide +kernel
theorem dX8_passes_34 : decode cX8_passes 34 = .ok (.iadd, 1) := by decide +kernel
theorem dX8_passes_35 : decode cX8_passes 35 = .ok (.iconst 2, 1) := by decide +kernel
theorem dX8_passes_36 : decode cX8_passes 36 = .ok (.iadd, 1) := by decide +kernel
theorem dX8_passes_37 : decode cX8_passes 37 = .ok (.iaload, 1) := by decide +kernel
theorem dX8_passes_38 : decode cX8_passes 38 = .ok (.ifCond .ne 7, 3) := by decide +kernel
theorem dX8_passes_41 : decode cX8_passes 41 = .ok (.iload_n 1, 1) := by decide +kernel
theorem dX8_passes_42 : decode cX8_passes 42 = .ok (.goto 5, 3) := by decide +kernel
theorem dX8_passes_45 : decode cX8_passes 45 = .ok (.bipush 12, 2) := by decide +kernel
theorem dX8_passes_47 : decode cX8_passes 47 = .ok (.iadd, 1) := by decide +kernel
theorem dX8_passes_48 : decode cX8_passes 48 = .ok (.iastore, 1) := by decide +kernel
theorem dX8_passes_49 : decode cX8_passes 49 = .ok (.iinc 2 1, 3) := by decide +kernel
theorem dX8_passes_52 : decode cX8_passes 52 = .ok (.goto (-45), 3) := by decide +kernel
theorem dX8_passes_55 : decode cX8_passes 55 = .ok (.aload_n 0, 1) := by decide +kernel
theorem dX8_passes_56 : decode cX8_passes 56 = .ok (.iconst 3, 1) := by decide +kernel
theorem dX8_passes_57 : decode cX8_passes 57 = .ok (.dup2, 1) := by decide +kernel
theorem dX8_passes_58 : decode cX8_passes 58 = .ok (.iaload, 1) := by decide +kernel
theorem dX8_passes_59 : decode cX8_passes 59 = .ok (.iload_n 1, 1) := by decide +kernel
theorem dX8_passes_60 : decode cX8_passes 60 = .ok (.iadd, 1) := by decide +kernel
theorem dX8_passes_61 : decode cX8_passes 61 = .ok (.iastore, 1) := by decide +kernel
theorem dX8_passes_62 : decode cX8_passes 62 = .ok (.aload_n 0, 1) := by decide +kernel
theorem dX8_passes_63 : decode cX8_passes 63 = .ok (.iconst 2, 1) := by decide +kernel
theorem dX8_passes_64 : decode cX8_passes 64 = .ok (.dup2, 1) := by decide +kernel
theorem dX8_passes_65 : decode cX8_passes 65 = .ok (.iaload, 1) := by decide +kernel
theorem dX8_passes_66 : decode cX8_passes 66 = .ok (.iconst 1, 1) := by decide +kernel
theorem dX8_passes_67 : decode cX8_passes 67 = .ok (.iadd, 1) := by decide +kernel
theorem dX8_passes_68 : decode cX8_passes 68 = .ok (.iastore, 1) := by decide +kernel
theorem dX8_passes_69 : decode cX8_passes 69 = .ok (.iconst 0, 1) := by decide +kernel
theorem dX8_passes_70 : decode cX8_passes 70 = .ok (.istore_n 2, 1) := by decide +kernel
theorem dX8_passes_71 : decode cX8_passes 71 = .ok (.iload_n 2, 1) := by decide +kernel
theorem dX8_passes_72 : decode cX8_passes 72 = .ok (.aload_n 0, 1) := by decide +kernel
theorem dX8_passes_73 : decode cX8_passes 73 = .ok (.iconst 5, 1) := by decide +kernel
theorem dX8_passes_74 : decode cX8_passes 74 = .ok (.iaload, 1) := by decide +kernel
theorem dX8_passes_75 : decode cX8_passes 75 = .ok (.if_icmp .ge 111, 3) := by decide +kernel
theorem dX8_passes_78 : decode cX8_passes 78 = .ok (.bipush 48, 2) := by decide +kernel
theorem dX8_passes_80 : decode cX8_passes 80 = .ok (.iconst 5, 1) := by decide +kernel
theorem dX8_passes_81 : decode cX8_passes 81 = .ok (.iload_n 2, 1) := by decide +kernel
theorem dX8_passes_82 : decode cX8_passes 82 = .ok (.imul, 1) := by decide +kernel
theorem dX8_passes_83 : decode cX8_passes 83 = .ok (.iadd, 1) := by decide +kernel
theorem dX8_passes_84 : decode cX8_passes 84 = .ok (.istore_n 3, 1) := by decide +kernel
theorem dX8_passes_85 : decode cX8_passes 85 = .ok (.aload_n 0, 1) := by decide +kernel
theorem dX8_passes_86 : decode cX8_passes 86 = .ok (.iload_n 3, 1) := by decide +kernel
theorem dX8_passes_87 : decode cX8_passes 87 = .ok (.iconst 3, 1) := by decide +kernel
theorem dX8_passes_88 : decode cX8_passes 88 = .ok (.iadd, 1) := by decide +kernel
theorem dX8_passes_89 : decode cX8_passes 89 = .ok (.iaload, 1) := by decide +kernel
theorem dX8_passes_90 : decode cX8_passes 90 = .ok (.ldc 50, 2) := by decide +kernel
theorem dX8_passes_92 : decode cX8_passes 92 = .ok (.if_icmp .eq 37, 3) := by decide +kernel
theorem dX8_passes_95 : decode cX8_passes 95 = .ok (.aload_n 0, 1) := by decide +kernel
theorem dX8_passes_96 : decode cX8_passes 96 = .ok (.iload_n 3, 1) := by decide +kernel
theorem dX8_passes_97 : decode cX8_passes 97 = .ok (.iconst 4, 1) := by decide +kernel
theorem dX8_passes_98 : decode cX8_passes 98 = .ok (.iadd, 1) := by decide +kernel
theorem dX8_passes_99 : decode cX8_passes 99 = .ok (.iaload, 1) := by decide +kernel
theorem dX8_passes_100 : decode cX8_passes 100 = .ok (.ldc 50, 2) := by decide +kernel
theorem dX8_passes_102 : decode cX8_passes 102 = .ok (.if_icmp .ne 27, 3) := by decide +kernel
theorem dX8_passes_105 : decode cX8_passes 105 = .ok (.aload_n 0, 1) := by decide +kernel
theorem dX8_passes_106 : decode cX8_passes 106 = .ok (.iconst 3, 1) := by decide +kernel
theorem dX8_passes_107 : decode cX8_passes 107 = .ok (.iaload, 1) := by decide +kernel
theorem dX8_passes_108 : decode cX8_passes 108 = .ok (.aload_n 0, 1) := by decide +kernel
theorem dX8_passes_109 : decode cX8_passes 109 = .ok (.iload_n 3, 1) := by decide +kernel
theorem dX8_passes_110 : decode cX8_passes 110 = .ok (.iconst 3, 1) := by decide +kernel
theorem dX8_passes_111 : decode cX8_passes 111 = .ok (.iadd, 1) := by decide +kernel
theorem dX8_passes_112 : decode cX8_passes 112 = .ok (.iaload, 1) := by decide +kernel
theorem dX8_passes_113 : decode cX8_passes 113 = .ok (.bipush 12, 2) := by decide +kernel
theorem dX8_passes_115 : decode cX8_passes 115 = .ok (.aload_n 0, 1) := by decide +kernel
theorem dX8_passes_116 : decode cX8_passes 116 = .ok (.iload_n 3, 1) := by decide +kernel
theorem dX8_passes_117 : decode cX8_passes 117 = .ok (.iconst 1, 1) := by decide +kernel
theorem dX8_passes_118 : decode cX8_passes 118 = .ok (.iadd, 1) := by decide +kernel
theorem dX8_passes_119 : decode cX8_passes 119 = .ok (.iaload, 1) := by decide +kernel
theorem dX8_passes_120 : decode cX8_passes 120 = .ok (.imul, 1) := by decide +kernel
theorem dX8_passes_121 : decode cX8_passes 121 = .ok (.iadd, 1) := by decide +kernel
theorem dX8_passes_122 : decode cX8_passes 122 = .ok (.if_icmp .lt 7, 3) := by decide +kernel
theorem dX8_passes_125 : decode cX8_passes 125 = .ok (.iconst 1, 1) := by decide +kernel
theorem dX8_passes_126 : decode cX8_passes 126 = .ok (.goto 4, 3) := by decide +kernel
theorem dX8_passes_129 : decode cX8_passes 129 = .ok (.iconst 0, 1) := by decide +kernel
theorem dX8_passes_130 : decode cX8_passes 130 = .ok (.istore 4, 2) := by decide +kernel
theorem dX8_passes_132 : decode cX8_passes 132 = .ok (.aload_n 0, 1) := by decide +kernel
theorem dX8_passes_133 : decode cX8_passes 133 = .ok (.iload_n 3, 1) := by decide +kernel
theorem dX8_passes_134 : decode cX8_passes 134 = .ok (.iconst 4, 1) := by decide +kernel
theorem dX8_passes_135 : decode cX8_passes 135 = .ok (.iadd, 1) := by decide +kernel
theorem dX8_passes_136 : decode cX8_passes 136 = .ok (.iload 4, 2) := by decide +kernel
theorem dX8_passes_138 : decode cX8_passes 138 = .ok (.ifCond .eq 9, 3) := by decide +kernel
theorem dX8_passes_141 : decode cX8_passes 141 = .ok (.aload_n 0, 1) := by decide +kernel
theorem dX8_passes_142 : decode cX8_passes 142 = .ok (.iconst 2, 1) := by decide +kernel
theorem dX8_passes_143 : decode cX8_passes 143 = .ok (.iaload, 1) := by decide +kernel
theorem dX8_passes_144 : decode cX8_passes 144 = .ok (.goto 8, 3) := by decide +kernel
theorem dX8_passes_147 : decode cX8_passes 147 = .ok (.aload_n 0, 1) := by decide +kernel
theorem dX8_passes_148 : decode cX8_passes 148 = .ok (.iload_n 3, 1) := by decide +kernel
theorem dX8_passes_149 : decode cX8_passes 149 = .ok (.iconst 4, 1) := by decide +kernel
theorem dX8_passes_150 : decode cX8_passes 150 = .ok (.iadd, 1) := by decide +kernel
theorem dX8_passes_151 : decode cX8_passes 151 = .ok (.iaload, 1) := by decide +kernel
theorem dX8_passes_152 : decode cX8_passes 152 = .ok (.iastore, 1) := by decide +kernel
theorem dX8_passes_153 : decode cX8_passes 153 = .ok (.aload_n 0, 1) := by decide +kernel
theorem dX8_passes_154 : decode cX8_passes 154 = .ok (.iload_n 3, 1) := by decide +kernel
theorem dX8_passes_155 : decode cX8_passes 155 = .ok (.iconst 3, 1) := by decide +kernel
theorem dX8_passes_156 : decode cX8_passes 156 = .ok (.iadd, 1) := by decide +kernel
theorem dX8_passes_157 : decode cX8_passes 157 = .ok (.aload_n 0, 1) := by decide +kernel
theorem dX8_passes_158 : decode cX8_passes 158 = .ok (.iload_n 3, 1) := by decide +kernel
theorem dX8_passes_159 : decode cX8_passes 159 = .ok (.iconst 0, 1) := by decide +kernel
theorem dX8_passes_160 : decode cX8_passes 160 = .ok (.iadd, 1) := by decide +kernel
theorem dX8_passes_161 : decode cX8_passes 161 = .ok (.iaload, 1) := by decide +kernel
theorem dX8_passes_162 : decode cX8_passes 162 = .ok (.aload_n 0, 1) := by decide +kernel
theorem dX8_passes_163 : decode cX8_passes 163 = .ok (.iconst 2, 1) := by decide +kernel
theorem dX8_passes_164 : decode cX8_passes 164 = .ok (.iaload, 1) := by decide +kernel
theorem dX8_passes_165 : decode cX8_passes 165 = .ok (.if_icmp .ne 9, 3) := by decide +kernel
theorem dX8_passes_168 : decode cX8_passes 168 = .ok (.aload_n 0, 1) := by decide +kernel
theorem dX8_passes_169 : decode cX8_passes 169 = .ok (.iconst 3, 1) := by decide +kernel
theorem dX8_passes_170 : decode cX8_passes 170 = .ok (.iaload, 1) := by decide +kernel
theorem dX8_passes_171 : decode cX8_passes 171 = .ok (.goto 8, 3) := by decide +kernel
theorem dX8_passes_174 : decode cX8_passes 174 = .ok (.aload_n 0, 1) := by decide +kernel
theorem dX8_passes_175 : decode cX8_passes 175 = .ok (.iload_n 3, 1) := by decide +kernel
theorem dX8_passes_176 : decode cX8_passes 176 = .ok (.iconst 3, 1) := by decide +kernel
theorem dX8_passes_177 : decode cX8_passes 177 = .ok (.iadd, 1) := by decide +kernel
theorem dX8_passes_178 : decode cX8_passes 178 = .ok (.iaload, 1) := by decide +kernel
theorem dX8_passes_179 : decode cX8_passes 179 = .ok (.iastore, 1) := by decide +kernel
theorem dX8_passes_180 : decode cX8_passes 180 = .ok (.iinc 2 1, 3) := by decide +kernel
theorem dX8_passes_183 : decode cX8_passes 183 = .ok (.goto (-112), 3) := by decide +kernel
theorem dX8_passes_186 : decode cX8_passes 186 = .ok (.return_, 1) := by decide +kernel
theorem dX8_partsIn_0 : decode cX8_partsIn 0 = .ok (.iconst 0, 1) := by decide +kernel
theorem dX8_partsIn_1 : decode cX8_partsIn 1 = .ok (.istore_n 2, 1) := by decide +kernel
theorem dX8_partsIn_2 : decode cX8_partsIn 2 = .ok (.iload_n 2, 1) := by decide +kernel
theorem dX8_partsIn_3 : decode cX8_partsIn 3 = .ok (.iload_n 1, 1) := by decide +kernel
theorem dX8_partsIn_4 : decode cX8_partsIn 4 = .ok (.if_icmp .ge 16, 3) := by decide +kernel
theorem dX8_partsIn_7 : decode cX8_partsIn 7 = .ok (.aload_n 0, 1) := by decide +kernel
theorem dX8_partsIn_8 : decode cX8_partsIn 8 = .ok (.getfield 41, 3) := by decide +kernel
theorem dX8_partsIn_11 : decode cX8_partsIn 11 = .ok (.invokestatic 167, 3) := by decide +kernel
theorem dX8_partsIn_14 : decode cX8_partsIn 14 = .ok (.iinc 2 1, 3) := by decide +kernel
theorem dX8_partsIn_17 : decode cX8_partsIn 17 = .ok (.goto (-15), 3) := by decide +kernel
theorem dX8_partsIn_20 : decode cX8_partsIn 20 = .ok (.aload_n 0, 1) := by decide +kernel
theorem dX8_partsIn_21 : decode cX8_partsIn 21 = .ok (.getfield 41, 3) := by decide +kernel
theorem dX8_partsIn_24 : decode cX8_partsIn 24 = .ok (.iconst 3, 1) := by decide +kernel
theorem dX8_partsIn_25 : decode cX8_partsIn 25 = .ok (.iaload, 1) := by decide +kernel
theorem dX8_partsIn_26 : decode cX8_partsIn 26 = .ok (.ireturn, 1) := by decide +kernel
theorem dX8_notes_0 : decode cX8_notes 0 = .ok (.aload_n 0, 1) := by decide +kernel
theorem dX8_notes_1 : decode cX8_notes 1 = .ok (.getfield 138, 3) := by decide +kernel
theorem dX8_notes_4 : decode cX8_notes 4 = .ok (.bipush 24, 2) := by decide +kernel
theorem dX8_notes_6 : decode cX8_notes 6 = .ok (.if_icmp .ne 43, 3) := by decide +kernel
theorem dX8_notes_9 : decode cX8_notes 9 = .ok (.iconst 0, 1) := by decide +kernel
theorem dX8_notes_10 : decode cX8_notes 10 = .ok (.istore_n 1, 1) := by decide +kernel
theorem dX8_notes_11 : decode cX8_notes 11 = .ok (.iload_n 1, 1) := by decide +kernel
theorem dX8_notes_12 : decode cX8_notes 12 = .ok (.sipush 1564, 3) := by decide +kernel
theorem dX8_notes_15 : decode cX8_notes 15 = .ok (.if_icmp .ge 24, 3) := by decide +kernel
theorem dX8_notes_18 : decode cX8_notes 18 = .ok (.aload_n 0, 1) := by decide +kernel
theorem dX8_notes_19 : decode cX8_notes 19 = .ok (.getfield 31, 3) := by decide +kernel
theorem dX8_notes_22 : decode cX8_notes 22 = .ok (.iload_n 1, 1) := by decide +kernel
theorem dX8_notes_23 : decode cX8_notes 23 = .ok (.aload_n 0, 1) := by decide +kernel
theorem dX8_notes_24 : decode cX8_notes 24 = .ok (.getfield 31, 3) := by decide +kernel
theorem dX8_notes_27 : decode cX8_notes 27 = .ok (.iload_n 1, 1) := by decide +kernel
theorem dX8_notes_28 : decode cX8_notes 28 = .ok (.bipush 68, 2) := by decide +kernel
theorem dX8_notes_30 : decode cX8_notes 30 = .ok (.iadd, 1) := by decide +kernel
theorem dX8_notes_31 : decode cX8_notes 31 = .ok (.iaload, 1) := by decide +kernel
theorem dX8_notes_32 : decode cX8_notes 32 = .ok (.iastore, 1) := by decide +kernel
theorem dX8_notes_33 : decode cX8_notes 33 = .ok (.iinc 1 1, 3) := by decide +kernel
theorem dX8_notes_36 : decode cX8_notes 36 = .ok (.goto (-25), 3) := by decide +kernel
theorem dX8_notes_39 : decode cX8_notes 39 = .ok (.aload_n 0, 1) := by decide +kernel
theorem dX8_notes_40 : decode cX8_notes 40 = .ok (.dup, 1) := by decide +kernel
theorem dX8_notes_41 : decode cX8_notes 41 = .ok (.getfield 138, 3) := by decide +kernel
theorem dX8_notes_44 : decode cX8_notes 44 = .ok (.iconst 1, 1) := by decide +kernel
theorem dX8_notes_45 : decode cX8_notes 45 = .ok (.isub, 1) := by decide +kernel
theorem dX8_notes_46 : decode cX8_notes 46 = .ok (.putfield 138, 3) := by decide +kernel
theorem dX8_notes_49 : decode cX8_notes 49 = .ok (.aload_n 0, 1) := by decide +kernel
theorem dX8_notes_50 : decode cX8_notes 50 = .ok (.getfield 25, 3) := by decide +kernel
theorem dX8_notes_53 : decode cX8_notes 53 = .ok (.iconst 0, 1) := by decide +kernel
theorem dX8_notes_54 : decode cX8_notes 54 = .ok (.aload_n 0, 1) := by decide +kernel
theorem dX8_notes_55 : decode cX8_notes 55 = .ok (.getfield 31, 3) := by decide +kernel
theorem dX8_notes_58 : decode cX8_notes 58 = .ok (.bipush 68, 2) := by decide +kernel
theorem dX8_notes_60 : decode cX8_notes 60 = .ok (.aload_n 0, 1) := by decide +kernel
theorem dX8_notes_61 : decode cX8_notes 61 = .ok (.getfield 138, 3) := by decide +kernel
theorem dX8_notes_64 : decode cX8_notes 64 = .ok (.imul, 1) := by decide +kernel
theorem dX8_notes_65 : decode cX8_notes 65 = .ok (.invokestatic 134, 3) := by decide +kernel
theorem dX8_notes_68 : decode cX8_notes 68 = .ok (.aload_n 0, 1) := by decide +kernel
theorem dX8_notes_69 : decode cX8_notes 69 = .ok (.dup, 1) := by decide +kernel
theorem dX8_notes_70 : decode cX8_notes 70 = .ok (.getfield 138, 3) := by decide +kernel
theorem dX8_notes_73 : decode cX8_notes 73 = .ok (.iconst 1, 1) := by decide +kernel
theorem dX8_notes_74 : decode cX8_notes 74 = .ok (.iadd, 1) := by decide +kernel
theorem dX8_notes_75 : decode cX8_notes 75 = .ok (.putfield 138, 3) := by decide +kernel
theorem dX8_notes_78 : decode cX8_notes 78 = .ok (.return_, 1) := by decide +kernel
theorem dX8_quarters_0 : decode cX8_quarters 0 = .ok (.aload_n 0, 1) := by decide +kernel
theorem dX8_quarters_1 : decode cX8_quarters 1 = .ok (.invokevirtual 171, 3) := by decide +kernel
theorem dX8_quarters_4 : decode cX8_quarters 4 = .ok (.ifCond .ne 6, 3) := by decide +kernel
theorem dX8_quarters_7 : decode cX8_quarters 7 = .ok (.ldc 174, 2) := by decide +kernel
theorem dX8_quarters_9 : decode cX8_quarters 9 = .ok (.ireturn, 1) := by decide +kernel
theorem dX8_quarters_10 : decode cX8_quarters 10 = .ok (.iload_n 1, 1) := by decide +kernel
theorem dX8_quarters_11 : decode cX8_quarters 11 = .ok (.iconst 1, 1) := by decide +kernel
theorem dX8_quarters_12 : decode cX8_quarters 12 = .ok (.bipush 20, 2) := by decide +kernel
theorem dX8_quarters_14 : decode cX8_quarters 14 = .ok (.invokestatic 56, 3) := by decide +kernel
theorem dX8_quarters_17 : decode cX8_quarters 17 = .ok (.ifCond .ne 6, 3) := by decide +kernel
theorem dX8_quarters_20 : decode cX8_quarters 20 = .ok (.ldc 64, 2) := by decide +kernel
theorem dX8_quarters_22 : decode cX8_quarters 22 = .ok (.ireturn, 1) := by decide +kernel
theorem dX8_quarters_23 : decode cX8_quarters 23 = .ok (.aload_n 0, 1) := by decide +kernel
theorem dX8_quarters_24 : decode cX8_quarters 24 = .ok (.getfield 25, 3) := by decide +kernel
theorem dX8_quarters_27 : decode cX8_quarters 27 = .ok (.iconst 2, 1) := by decide +kernel
theorem dX8_quarters_28 : decode cX8_quarters 28 = .ok (.iaload, 1) := by decide +kernel
theorem dX8_quarters_29 : decode cX8_quarters 29 = .ok (.iload_n 1, 1) := by decide +kernel
theorem dX8_quarters_30 : decode cX8_quarters 30 = .ok (.iadd, 1) := by decide +kernel
theorem dX8_quarters_31 : decode cX8_quarters 31 = .ok (.sipush 999, 3) := by decide +kernel
theorem dX8_quarters_34 : decode cX8_quarters 34 = .ok (.if_icmp .le 6, 3) := by decide +kernel
theorem dX8_quarters_37 : decode cX8_quarters 37 = .ok (.ldc 85, 2) := by decide +kernel
theorem dX8_quarters_39 : decode cX8_quarters 39 = .ok (.ireturn, 1) := by decide +kernel
theorem dX8_quarters_40 : decode cX8_quarters 40 = .ok (.iconst 0, 1) := by decide +kernel
theorem dX8_quarters_41 : decode cX8_quarters 41 = .ok (.istore_n 2, 1) := by decide +kernel
theorem dX8_quarters_42 : decode cX8_quarters 42 = .ok (.iload_n 2, 1) := by decide +kernel
theorem dX8_quarters_43 : decode cX8_quarters 43 = .ok (.iload_n 1, 1) := by decide +kernel
theorem dX8_quarters_44 : decode cX8_quarters 44 = .ok (.if_icmp .ge 20, 3) := by decide +kernel
theorem dX8_quarters_47 : decode cX8_quarters 47 = .ok (.aload_n 0, 1) := by decide +kernel
theorem dX8_quarters_48 : decode cX8_quarters 48 = .ok (.invokevirtual 175, 3) := by decide +kernel
theorem dX8_quarters_51 : decode cX8_quarters 51 = .ok (.aload_n 0, 1) := by decide +kernel
theorem dX8_quarters_52 : decode cX8_quarters 52 = .ok (.getfield 25, 3) := by decide +kernel
theorem dX8_quarters_55 : decode cX8_quarters 55 = .ok (.invokestatic 167, 3) := by decide +kernel
theorem dX8_quarters_58 : decode cX8_quarters 58 = .ok (.iinc 2 1, 3) := by decide +kernel
theorem dX8_quarters_61 : decode cX8_quarters 61 = .ok (.goto (-19), 3) := by decide +kernel
theorem dX8_quarters_64 : decode cX8_quarters 64 = .ok (.aload_n 0, 1) := by decide +kernel
theorem dX8_quarters_65 : decode cX8_quarters 65 = .ok (.getfield 25, 3) := by decide +kernel
theorem dX8_quarters_68 : decode cX8_quarters 68 = .ok (.iconst 3, 1) := by decide +kernel
theorem dX8_quarters_69 : decode cX8_quarters 69 = .ok (.iaload, 1) := by decide +kernel
theorem dX8_quarters_70 : decode cX8_quarters 70 = .ok (.ireturn, 1) := by decide +kernel
theorem dX8_go_0 : decode cX8_go 0 = .ok (.aload_n 0, 1) := by decide +kernel
theorem dX8_go_1 : decode cX8_go 1 = .ok (.iload_n 1, 1) := by decide +kernel
theorem dX8_go_2 : decode cX8_go 2 = .ok (.invokevirtual 178, 3) := by decide +kernel
theorem dX8_go_5 : decode cX8_go 5 = .ok (.ifCond .eq 12, 3) := by decide +kernel
theorem dX8_go_8 : decode cX8_go 8 = .ok (.iload_n 2, 1) := by decide +kernel
theorem dX8_go_9 : decode cX8_go 9 = .ok (.iconst 0, 1) := by decide +kernel
theorem dX8_go_10 : decode cX8_go 10 = .ok (.iconst 3, 1) := by decide +kernel
theorem dX8_go_11 : decode cX8_go 11 = .ok (.invokestatic 56, 3) := by decide +kernel
theorem dX8_go_14 : decode cX8_go 14 = .ok (.ifCond .ne 6, 3) := by decide +kernel
theorem dX8_go_17 : decode cX8_go 17 = .ok (.ldc 64, 2) := by decide +kernel
theorem dX8_go_19 : decode cX8_go 19 = .ok (.ireturn, 1) := by decide +kernel
theorem dX8_go_20 : decode cX8_go 20 = .ok (.aload_n 0, 1) := by decide +kernel
theorem dX8_go_21 : decode cX8_go 21 = .ok (.getfield 25, 3) := by decide +kernel
theorem dX8_go_24 : decode cX8_go 24 = .ok (.bipush 6, 2) := by decide +kernel
theorem dX8_go_26 : decode cX8_go 26 = .ok (.bipush 7, 2) := by decide +kernel
theorem dX8_go_28 : decode cX8_go 28 = .ok (.iload_n 1, 1) := by decide +kernel
theorem dX8_go_29 : decode cX8_go 29 = .ok (.imul, 1) := by decide +kernel
theorem dX8_go_30 : decode cX8_go 30 = .ok (.iadd, 1) := by decide +kernel
theorem dX8_go_31 : decode cX8_go 31 = .ok (.iconst 2, 1) := by decide +kernel
theorem dX8_go_32 : decode cX8_go 32 = .ok (.iadd, 1) := by decide +kernel
theorem dX8_go_33 : decode cX8_go 33 = .ok (.iaload, 1) := by decide +kernel
theorem dX8_go_34 : decode cX8_go 34 = .ok (.istore_n 3, 1) := by decide +kernel
theorem dX8_go_35 : decode cX8_go 35 = .ok (.iload_n 3, 1) := by decide +kernel
theorem dX8_go_36 : decode cX8_go 36 = .ok (.iload_n 2, 1) := by decide +kernel
theorem dX8_go_37 : decode cX8_go 37 = .ok (.if_icmp .ne 6, 3) := by decide +kernel
theorem dX8_go_40 : decode cX8_go 40 = .ok (.ldc 174, 2) := by decide +kernel
theorem dX8_go_42 : decode cX8_go 42 = .ok (.ireturn, 1) := by decide +kernel
theorem dX8_go_43 : decode cX8_go 43 = .ok (.aload_n 0, 1) := by decide +kernel
theorem dX8_go_44 : decode cX8_go 44 = .ok (.invokevirtual 175, 3) := by decide +kernel
theorem dX8_go_47 : decode cX8_go 47 = .ok (.aload_n 0, 1) := by decide +kernel
theorem dX8_go_48 : decode cX8_go 48 = .ok (.getfield 25, 3) := by decide +kernel
theorem dX8_go_51 : decode cX8_go 51 = .ok (.bipush 6, 2) := by decide +kernel
theorem dX8_go_53 : decode cX8_go 53 = .ok (.bipush 7, 2) := by decide +kernel
theorem dX8_go_55 : decode cX8_go 55 = .ok (.iload_n 1, 1) := by decide +kernel
theorem dX8_go_56 : decode cX8_go 56 = .ok (.imul, 1) := by decide +kernel
theorem dX8_go_57 : decode cX8_go 57 = .ok (.iadd, 1) := by decide +kernel
theorem dX8_go_58 : decode cX8_go 58 = .ok (.iconst 2, 1) := by decide +kernel
theorem dX8_go_59 : decode cX8_go 59 = .ok (.iadd, 1) := by decide +kernel
theorem dX8_go_60 : decode cX8_go 60 = .ok (.iload_n 2, 1) := by decide +kernel
theorem dX8_go_61 : decode cX8_go 61 = .ok (.iastore, 1) := by decide +kernel
theorem dX8_go_62 : decode cX8_go 62 = .ok (.iload_n 3, 1) := by decide +kernel
theorem dX8_go_63 : decode cX8_go 63 = .ok (.ireturn, 1) := by decide +kernel
theorem dX8_hushed_0 : decode cX8_hushed 0 = .ok (.iconst 0, 1) := by decide +kernel
theorem dX8_hushed_1 : decode cX8_hushed 1 = .ok (.istore_n 1, 1) := by decide +kernel
theorem dX8_hushed_2 : decode cX8_hushed 2 = .ok (.iconst 0, 1) := by decide +kernel
theorem dX8_hushed_3 : decode cX8_hushed 3 = .ok (.istore_n 2, 1) := by decide +kernel
theorem dX8_hushed_4 : decode cX8_hushed 4 = .ok (.iload_n 2, 1) := by decide +kernel
theorem dX8_hushed_5 : decode cX8_hushed 5 = .ok (.aload_n 0, 1) := by decide +kernel
theorem dX8_hushed_6 : decode cX8_hushed 6 = .ok (.getfield 25, 3) := by decide +kernel
theorem dX8_hushed_9 : decode cX8_hushed 9 = .ok (.iconst 4, 1) := by decide +kernel
theorem dX8_hushed_10 : decode cX8_hushed 10 = .ok (.iaload, 1) := by decide +kernel
theorem dX8_hushed_11 : decode cX8_hushed 11 = .ok (.if_icmp .ge 26, 3) := by decide +kernel
theorem dX8_hushed_14 : decode cX8_hushed 14 = .ok (.iload_n 1, 1) := by decide +kernel
theorem dX8_hushed_15 : decode cX8_hushed 15 = .ok (.aload_n 0, 1) := by decide +kernel
theorem dX8_hushed_16 : decode cX8_hushed 16 = .ok (.getfield 25, 3) := by decide +kernel
theorem dX8_hushed_19 : decode cX8_hushed 19 = .ok (.bipush 6, 2) := by decide +kernel
theorem dX8_hushed_21 : decode cX8_hushed 21 = .ok (.bipush 7, 2) := by decide +kernel
theorem dX8_hushed_23 : decode cX8_hushed 23 = .ok (.iload_n 2, 1) := by decide +kernel
theorem dX8_hushed_24 : decode cX8_hushed 24 = .ok (.imul, 1) := by decide +kernel
theorem dX8_hushed_25 : decode cX8_hushed 25 = .ok (.iadd, 1) := by decide +kernel
theorem dX8_hushed_26 : decode cX8_hushed 26 = .ok (.iconst 5, 1) := by decide +kernel
theorem dX8_hushed_27 : decode cX8_hushed 27 = .ok (.iadd, 1) := by decide +kernel
theorem dX8_hushed_28 : decode cX8_hushed 28 = .ok (.iaload, 1) := by decide +kernel
theorem dX8_hushed_29 : decode cX8_hushed 29 = .ok (.iadd, 1) := by decide +kernel
theorem dX8_hushed_30 : decode cX8_hushed 30 = .ok (.istore_n 1, 1) := by decide +kernel
theorem dX8_hushed_31 : decode cX8_hushed 31 = .ok (.iinc 2 1, 3) := by decide +kernel
theorem dX8_hushed_34 : decode cX8_hushed 34 = .ok (.goto (-30), 3) := by decide +kernel
theorem dX8_hushed_37 : decode cX8_hushed 37 = .ok (.iload_n 1, 1) := by decide +kernel
theorem dX8_hushed_38 : decode cX8_hushed 38 = .ok (.ireturn, 1) := by decide +kernel
theorem dX8_hush_0 : decode cX8_hush 0 = .ok (.aload_n 0, 1) := by decide +kernel
theorem dX8_hush_1 : decode cX8_hush 1 = .ok (.iload_n 1, 1) := by decide +kernel
theorem dX8_hush_2 : decode cX8_hush 2 = .ok (.invokevirtual 178, 3) := by decide +kernel
theorem dX8_hush_5 : decode cX8_hush 5 = .ok (.ifCond .eq 12, 3) := by decide +kernel
theorem dX8_hush_8 : decode cX8_hush 8 = .ok (.iload_n 2, 1) := by decide +kernel
theorem dX8_hush_9 : decode cX8_hush 9 = .ok (.iconst 0, 1) := by decide +kernel
theorem dX8_hush_10 : decode cX8_hush 10 = .ok (.iconst 1, 1) := by decide +kernel
theorem dX8_hush_11 : decode cX8_hush 11 = .ok (.invokestatic 56, 3) := by decide +kernel
theorem dX8_hush_14 : decode cX8_hush 14 = .ok (.ifCond .ne 6, 3) := by decide +kernel
theorem dX8_hush_17 : decode cX8_hush 17 = .ok (.ldc 64, 2) := by decide +kernel
theorem dX8_hush_19 : decode cX8_hush 19 = .ok (.ireturn, 1) := by decide +kernel
theorem dX8_hush_20 : decode cX8_hush 20 = .ok (.aload_n 0, 1) := by decide +kernel
theorem dX8_hush_21 : decode cX8_hush 21 = .ok (.getfield 25, 3) := by decide +kernel
theorem dX8_hush_24 : decode cX8_hush 24 = .ok (.bipush 6, 2) := by decide +kernel
theorem dX8_hush_26 : decode cX8_hush 26 = .ok (.bipush 7, 2) := by decide +kernel
theorem dX8_hush_28 : decode cX8_hush 28 = .ok (.iload_n 1, 1) := by decide +kernel
theorem dX8_hush_29 : decode cX8_hush 29 = .ok (.imul, 1) := by decide +kernel
theorem dX8_hush_30 : decode cX8_hush 30 = .ok (.iadd, 1) := by decide +kernel
theorem dX8_hush_31 : decode cX8_hush 31 = .ok (.iconst 5, 1) := by decide +kernel
theorem dX8_hush_32 : decode cX8_hush 32 = .ok (.iadd, 1) := by decide +kernel
theorem dX8_hush_33 : decode cX8_hush 33 = .ok (.iaload, 1) := by decide +kernel
theorem dX8_hush_34 : decode cX8_hush 34 = .ok (.iload_n 2, 1) := by decide +kernel
theorem dX8_hush_35 : decode cX8_hush 35 = .ok (.if_icmp .ne 6, 3) := by decide +kernel
theorem dX8_hush_38 : decode cX8_hush 38 = .ok (.ldc 174, 2) := by decide +kernel
theorem dX8_hush_40 : decode cX8_hush 40 = .ok (.ireturn, 1) := by decide +kernel
theorem dX8_hush_41 : decode cX8_hush 41 = .ok (.aload_n 0, 1) := by decide +kernel
theorem dX8_hush_42 : decode cX8_hush 42 = .ok (.invokevirtual 175, 3) := by decide +kernel
theorem dX8_hush_45 : decode cX8_hush 45 = .ok (.aload_n 0, 1) := by decide +kernel
end
section
theorem dX8_hush_46 : decode cX8_hush 46 = .ok (.getfield 25, 3) := by decide +kernel
theorem dX8_hush_49 : decode cX8_hush 49 = .ok (.bipush 6, 2) := by decide +kernel
theorem dX8_hush_51 : decode cX8_hush 51 = .ok (.bipush 7, 2) := by decide +kernel
theorem dX8_hush_53 : decode cX8_hush 53 = .ok (.iload_n 1, 1) := by decide +kernel
theorem dX8_hush_54 : decode cX8_hush 54 = .ok (.imul, 1) := by decide +kernel
theorem dX8_hush_55 : decode cX8_hush 55 = .ok (.iadd, 1) := by decide +kernel
theorem dX8_hush_56 : decode cX8_hush 56 = .ok (.iconst 5, 1) := by decide +kernel
theorem dX8_hush_57 : decode cX8_hush 57 = .ok (.iadd, 1) := by decide +kernel
theorem dX8_hush_58 : decode cX8_hush 58 = .ok (.iload_n 2, 1) := by decide +kernel
theorem dX8_hush_59 : decode cX8_hush 59 = .ok (.iastore, 1) := by decide +kernel
theorem dX8_hush_60 : decode cX8_hush 60 = .ok (.aload_n 0, 1) := by decide +kernel
theorem dX8_hush_61 : decode cX8_hush 61 = .ok (.invokevirtual 181, 3) := by decide +kernel
theorem dX8_hush_64 : decode cX8_hush 64 = .ok (.ireturn, 1) := by decide +kernel
theorem dX8_wool_0 : decode cX8_wool 0 = .ok (.aload_n 0, 1) := by decide +kernel
theorem dX8_wool_1 : decode cX8_wool 1 = .ok (.invokevirtual 171, 3) := by decide +kernel
theorem dX8_wool_4 : decode cX8_wool 4 = .ok (.ifCond .ne 6, 3) := by decide +kernel
theorem dX8_wool_7 : decode cX8_wool 7 = .ok (.ldc 174, 2) := by decide +kernel
theorem dX8_wool_9 : decode cX8_wool 9 = .ok (.ireturn, 1) := by decide +kernel
theorem dX8_wool_10 : decode cX8_wool 10 = .ok (.iload_n 1, 1) := by decide +kernel
theorem dX8_wool_11 : decode cX8_wool 11 = .ok (.iconst 0, 1) := by decide +kernel
theorem dX8_wool_12 : decode cX8_wool 12 = .ok (.bipush 12, 2) := by decide +kernel
theorem dX8_wool_14 : decode cX8_wool 14 = .ok (.invokestatic 56, 3) := by decide +kernel
theorem dX8_wool_17 : decode cX8_wool 17 = .ok (.ifCond .ne 6, 3) := by decide +kernel
theorem dX8_wool_20 : decode cX8_wool 20 = .ok (.ldc 64, 2) := by decide +kernel
theorem dX8_wool_22 : decode cX8_wool 22 = .ok (.ireturn, 1) := by decide +kernel
theorem dX8_wool_23 : decode cX8_wool 23 = .ok (.aload_n 0, 1) := by decide +kernel
theorem dX8_wool_24 : decode cX8_wool 24 = .ok (.invokevirtual 175, 3) := by decide +kernel
theorem dX8_wool_27 : decode cX8_wool 27 = .ok (.aload_n 0, 1) := by decide +kernel
theorem dX8_wool_28 : decode cX8_wool 28 = .ok (.getfield 25, 3) := by decide +kernel
theorem dX8_wool_31 : decode cX8_wool 31 = .ok (.iconst 1, 1) := by decide +kernel
theorem dX8_wool_32 : decode cX8_wool 32 = .ok (.iaload, 1) := by decide +kernel
theorem dX8_wool_33 : decode cX8_wool 33 = .ok (.istore_n 2, 1) := by decide +kernel
theorem dX8_wool_34 : decode cX8_wool 34 = .ok (.aload_n 0, 1) := by decide +kernel
theorem dX8_wool_35 : decode cX8_wool 35 = .ok (.getfield 25, 3) := by decide +kernel
theorem dX8_wool_38 : decode cX8_wool 38 = .ok (.iconst 1, 1) := by decide +kernel
theorem dX8_wool_39 : decode cX8_wool 39 = .ok (.iload_n 1, 1) := by decide +kernel
theorem dX8_wool_40 : decode cX8_wool 40 = .ok (.iastore, 1) := by decide +kernel
theorem dX8_wool_41 : decode cX8_wool 41 = .ok (.iload_n 2, 1) := by decide +kernel
theorem dX8_wool_42 : decode cX8_wool 42 = .ok (.ireturn, 1) := by decide +kernel
theorem dX8_undo_0 : decode cX8_undo 0 = .ok (.aload_n 0, 1) := by decide +kernel
theorem dX8_undo_1 : decode cX8_undo 1 = .ok (.getfield 138, 3) := by decide +kernel
theorem dX8_undo_4 : decode cX8_undo 4 = .ok (.ifCond .ne 6, 3) := by decide +kernel
theorem dX8_undo_7 : decode cX8_undo 7 = .ok (.ldc 174, 2) := by decide +kernel
theorem dX8_undo_9 : decode cX8_undo 9 = .ok (.ireturn, 1) := by decide +kernel
theorem dX8_undo_10 : decode cX8_undo 10 = .ok (.aload_n 0, 1) := by decide +kernel
theorem dX8_undo_11 : decode cX8_undo 11 = .ok (.dup, 1) := by decide +kernel
theorem dX8_undo_12 : decode cX8_undo 12 = .ok (.getfield 138, 3) := by decide +kernel
theorem dX8_undo_15 : decode cX8_undo 15 = .ok (.iconst 1, 1) := by decide +kernel
theorem dX8_undo_16 : decode cX8_undo 16 = .ok (.isub, 1) := by decide +kernel
theorem dX8_undo_17 : decode cX8_undo 17 = .ok (.putfield 138, 3) := by decide +kernel
theorem dX8_undo_20 : decode cX8_undo 20 = .ok (.aload_n 0, 1) := by decide +kernel
theorem dX8_undo_21 : decode cX8_undo 21 = .ok (.getfield 31, 3) := by decide +kernel
theorem dX8_undo_24 : decode cX8_undo 24 = .ok (.bipush 68, 2) := by decide +kernel
theorem dX8_undo_26 : decode cX8_undo 26 = .ok (.aload_n 0, 1) := by decide +kernel
theorem dX8_undo_27 : decode cX8_undo 27 = .ok (.getfield 138, 3) := by decide +kernel
theorem dX8_undo_30 : decode cX8_undo 30 = .ok (.imul, 1) := by decide +kernel
theorem dX8_undo_31 : decode cX8_undo 31 = .ok (.aload_n 0, 1) := by decide +kernel
theorem dX8_undo_32 : decode cX8_undo 32 = .ok (.getfield 25, 3) := by decide +kernel
theorem dX8_undo_35 : decode cX8_undo 35 = .ok (.iconst 0, 1) := by decide +kernel
theorem dX8_undo_36 : decode cX8_undo 36 = .ok (.invokestatic 134, 3) := by decide +kernel
theorem dX8_undo_39 : decode cX8_undo 39 = .ok (.aload_n 0, 1) := by decide +kernel
theorem dX8_undo_40 : decode cX8_undo 40 = .ok (.getfield 138, 3) := by decide +kernel
theorem dX8_undo_43 : decode cX8_undo 43 = .ok (.ireturn, 1) := by decide +kernel
theorem dX8_givesNow_0 : decode cX8_givesNow 0 = .ok (.aload_n 0, 1) := by decide +kernel
theorem dX8_givesNow_1 : decode cX8_givesNow 1 = .ok (.getfield 25, 3) := by decide +kernel
theorem dX8_givesNow_4 : decode cX8_givesNow 4 = .ok (.iload_n 1, 1) := by decide +kernel
theorem dX8_givesNow_5 : decode cX8_givesNow 5 = .ok (.invokestatic 141, 3) := by decide +kernel
theorem dX8_givesNow_8 : decode cX8_givesNow 8 = .ok (.ifCond .ne 5, 3) := by decide +kernel
theorem dX8_givesNow_11 : decode cX8_givesNow 11 = .ok (.iconst 0, 1) := by decide +kernel
theorem dX8_givesNow_12 : decode cX8_givesNow 12 = .ok (.ireturn, 1) := by decide +kernel
theorem dX8_givesNow_13 : decode cX8_givesNow 13 = .ok (.aload_n 0, 1) := by decide +kernel
theorem dX8_givesNow_14 : decode cX8_givesNow 14 = .ok (.getfield 25, 3) := by decide +kernel
theorem dX8_givesNow_17 : decode cX8_givesNow 17 = .ok (.bipush 6, 2) := by decide +kernel
theorem dX8_givesNow_19 : decode cX8_givesNow 19 = .ok (.bipush 7, 2) := by decide +kernel
theorem dX8_givesNow_21 : decode cX8_givesNow 21 = .ok (.iload_n 1, 1) := by decide +kernel
theorem dX8_givesNow_22 : decode cX8_givesNow 22 = .ok (.imul, 1) := by decide +kernel
theorem dX8_givesNow_23 : decode cX8_givesNow 23 = .ok (.iadd, 1) := by decide +kernel
theorem dX8_givesNow_24 : decode cX8_givesNow 24 = .ok (.iaload, 1) := by decide +kernel
theorem dX8_givesNow_25 : decode cX8_givesNow 25 = .ok (.iconst 2, 1) := by decide +kernel
theorem dX8_givesNow_26 : decode cX8_givesNow 26 = .ok (.if_icmp .ne 27, 3) := by decide +kernel
theorem dX8_givesNow_29 : decode cX8_givesNow 29 = .ok (.aload_n 0, 1) := by decide +kernel
theorem dX8_givesNow_30 : decode cX8_givesNow 30 = .ok (.getfield 25, 3) := by decide +kernel
theorem dX8_givesNow_33 : decode cX8_givesNow 33 = .ok (.aload_n 0, 1) := by decide +kernel
theorem dX8_givesNow_34 : decode cX8_givesNow 34 = .ok (.getfield 25, 3) := by decide +kernel
theorem dX8_givesNow_37 : decode cX8_givesNow 37 = .ok (.invokestatic 157, 3) := by decide +kernel
theorem dX8_givesNow_40 : decode cX8_givesNow 40 = .ok (.iconst 0, 1) := by decide +kernel
theorem dX8_givesNow_41 : decode cX8_givesNow 41 = .ok (.invokestatic 153, 3) := by decide +kernel
theorem dX8_givesNow_44 : decode cX8_givesNow 44 = .ok (.bipush 12, 2) := by decide +kernel
theorem dX8_givesNow_46 : decode cX8_givesNow 46 = .ok (.if_icmp .lt 7, 3) := by decide +kernel
theorem dX8_givesNow_49 : decode cX8_givesNow 49 = .ok (.iconst 1, 1) := by decide +kernel
theorem dX8_givesNow_50 : decode cX8_givesNow 50 = .ok (.goto 4, 3) := by decide +kernel
theorem dX8_givesNow_53 : decode cX8_givesNow 53 = .ok (.iconst 0, 1) := by decide +kernel
theorem dX8_givesNow_54 : decode cX8_givesNow 54 = .ok (.istore_n 2, 1) := by decide +kernel
theorem dX8_givesNow_55 : decode cX8_givesNow 55 = .ok (.iload_n 2, 1) := by decide +kernel
theorem dX8_givesNow_56 : decode cX8_givesNow 56 = .ok (.ifCond .eq 7, 3) := by decide +kernel
theorem dX8_givesNow_59 : decode cX8_givesNow 59 = .ok (.iconst 0, 1) := by decide +kernel
theorem dX8_givesNow_60 : decode cX8_givesNow 60 = .ok (.goto 11, 3) := by decide +kernel
theorem dX8_givesNow_63 : decode cX8_givesNow 63 = .ok (.aload_n 0, 1) := by decide +kernel
theorem dX8_givesNow_64 : decode cX8_givesNow 64 = .ok (.getfield 25, 3) := by decide +kernel
theorem dX8_givesNow_67 : decode cX8_givesNow 67 = .ok (.iload_n 1, 1) := by decide +kernel
theorem dX8_givesNow_68 : decode cX8_givesNow 68 = .ok (.invokestatic 149, 3) := by decide +kernel
theorem dX8_givesNow_71 : decode cX8_givesNow 71 = .ok (.ireturn, 1) := by decide +kernel
theorem dX8_ear_0 : decode cX8_ear 0 = .ok (.aload_n 0, 1) := by decide +kernel
theorem dX8_ear_1 : decode cX8_ear 1 = .ok (.iload_n 1, 1) := by decide +kernel
theorem dX8_ear_2 : decode cX8_ear 2 = .ok (.invokevirtual 178, 3) := by decide +kernel
theorem dX8_ear_5 : decode cX8_ear 5 = .ok (.ifCond .ne 6, 3) := by decide +kernel
theorem dX8_ear_8 : decode cX8_ear 8 = .ok (.ldc 64, 2) := by decide +kernel
theorem dX8_ear_10 : decode cX8_ear 10 = .ok (.ireturn, 1) := by decide +kernel
theorem dX8_ear_11 : decode cX8_ear 11 = .ok (.bipush 6, 2) := by decide +kernel
theorem dX8_ear_13 : decode cX8_ear 13 = .ok (.bipush 7, 2) := by decide +kernel
theorem dX8_ear_15 : decode cX8_ear 15 = .ok (.iload_n 1, 1) := by decide +kernel
theorem dX8_ear_16 : decode cX8_ear 16 = .ok (.imul, 1) := by decide +kernel
theorem dX8_ear_17 : decode cX8_ear 17 = .ok (.iadd, 1) := by decide +kernel
theorem dX8_ear_18 : decode cX8_ear 18 = .ok (.istore_n 3, 1) := by decide +kernel
theorem dX8_ear_19 : decode cX8_ear 19 = .ok (.iload_n 2, 1) := by decide +kernel
theorem dX8_ear_20 : decode cX8_ear 20 = .ok (.tableswitch 100 0 5 #[40, 49, 58, 67, 84, 90], 40) := by decide +kernel
theorem dX8_ear_60 : decode cX8_ear 60 = .ok (.aload_n 0, 1) := by decide +kernel
theorem dX8_ear_61 : decode cX8_ear 61 = .ok (.getfield 25, 3) := by decide +kernel
theorem dX8_ear_64 : decode cX8_ear 64 = .ok (.iload_n 3, 1) := by decide +kernel
theorem dX8_ear_65 : decode cX8_ear 65 = .ok (.iconst 1, 1) := by decide +kernel
theorem dX8_ear_66 : decode cX8_ear 66 = .ok (.iadd, 1) := by decide +kernel
theorem dX8_ear_67 : decode cX8_ear 67 = .ok (.iaload, 1) := by decide +kernel
theorem dX8_ear_68 : decode cX8_ear 68 = .ok (.ireturn, 1) := by decide +kernel
theorem dX8_ear_69 : decode cX8_ear 69 = .ok (.aload_n 0, 1) := by decide +kernel
theorem dX8_ear_70 : decode cX8_ear 70 = .ok (.getfield 25, 3) := by decide +kernel
theorem dX8_ear_73 : decode cX8_ear 73 = .ok (.iload_n 3, 1) := by decide +kernel
theorem dX8_ear_74 : decode cX8_ear 74 = .ok (.iconst 2, 1) := by decide +kernel
theorem dX8_ear_75 : decode cX8_ear 75 = .ok (.iadd, 1) := by decide +kernel
theorem dX8_ear_76 : decode cX8_ear 76 = .ok (.iaload, 1) := by decide +kernel
theorem dX8_ear_77 : decode cX8_ear 77 = .ok (.ireturn, 1) := by decide +kernel
theorem dX8_ear_78 : decode cX8_ear 78 = .ok (.aload_n 0, 1) := by decide +kernel
theorem dX8_ear_79 : decode cX8_ear 79 = .ok (.getfield 25, 3) := by decide +kernel
theorem dX8_ear_82 : decode cX8_ear 82 = .ok (.iload_n 3, 1) := by decide +kernel
theorem dX8_ear_83 : decode cX8_ear 83 = .ok (.iconst 5, 1) := by decide +kernel
theorem dX8_ear_84 : decode cX8_ear 84 = .ok (.iadd, 1) := by decide +kernel
theorem dX8_ear_85 : decode cX8_ear 85 = .ok (.iaload, 1) := by decide +kernel
theorem dX8_ear_86 : decode cX8_ear 86 = .ok (.ireturn, 1) := by decide +kernel
theorem dX8_ear_87 : decode cX8_ear 87 = .ok (.aload_n 0, 1) := by decide +kernel
theorem dX8_ear_88 : decode cX8_ear 88 = .ok (.getfield 25, 3) := by decide +kernel
theorem dX8_ear_91 : decode cX8_ear 91 = .ok (.iload_n 1, 1) := by decide +kernel
theorem dX8_ear_92 : decode cX8_ear 92 = .ok (.invokestatic 141, 3) := by decide +kernel
theorem dX8_ear_95 : decode cX8_ear 95 = .ok (.ifCond .eq 7, 3) := by decide +kernel
theorem dX8_ear_98 : decode cX8_ear 98 = .ok (.iconst 1, 1) := by decide +kernel
theorem dX8_ear_99 : decode cX8_ear 99 = .ok (.goto 4, 3) := by decide +kernel
theorem dX8_ear_102 : decode cX8_ear 102 = .ok (.iconst 0, 1) := by decide +kernel
theorem dX8_ear_103 : decode cX8_ear 103 = .ok (.ireturn, 1) := by decide +kernel
theorem dX8_ear_104 : decode cX8_ear 104 = .ok (.aload_n 0, 1) := by decide +kernel
theorem dX8_ear_105 : decode cX8_ear 105 = .ok (.iload_n 1, 1) := by decide +kernel
theorem dX8_ear_106 : decode cX8_ear 106 = .ok (.invokevirtual 185, 3) := by decide +kernel
theorem dX8_ear_109 : decode cX8_ear 109 = .ok (.ireturn, 1) := by decide +kernel
theorem dX8_ear_110 : decode cX8_ear 110 = .ok (.aload_n 0, 1) := by decide +kernel
theorem dX8_ear_111 : decode cX8_ear 111 = .ok (.getfield 25, 3) := by decide +kernel
theorem dX8_ear_114 : decode cX8_ear 114 = .ok (.iload_n 3, 1) := by decide +kernel
theorem dX8_ear_115 : decode cX8_ear 115 = .ok (.bipush 6, 2) := by decide +kernel
theorem dX8_ear_117 : decode cX8_ear 117 = .ok (.iadd, 1) := by decide +kernel
theorem dX8_ear_118 : decode cX8_ear 118 = .ok (.iaload, 1) := by decide +kernel
theorem dX8_ear_119 : decode cX8_ear 119 = .ok (.ireturn, 1) := by decide +kernel
theorem dX8_ear_120 : decode cX8_ear 120 = .ok (.ldc 64, 2) := by decide +kernel
theorem dX8_ear_122 : decode cX8_ear 122 = .ok (.ireturn, 1) := by decide +kernel
theorem dX8_clock_0 : decode cX8_clock 0 = .ok (.aload_n 0, 1) := by decide +kernel
theorem dX8_clock_1 : decode cX8_clock 1 = .ok (.invokevirtual 171, 3) := by decide +kernel
theorem dX8_clock_4 : decode cX8_clock 4 = .ok (.ifCond .ne 6, 3) := by decide +kernel
theorem dX8_clock_7 : decode cX8_clock 7 = .ok (.ldc 174, 2) := by decide +kernel
theorem dX8_clock_9 : decode cX8_clock 9 = .ok (.ireturn, 1) := by decide +kernel
theorem dX8_clock_10 : decode cX8_clock 10 = .ok (.iload_n 1, 1) := by decide +kernel
theorem dX8_clock_11 : decode cX8_clock 11 = .ok (.tableswitch 61 0 3 #[29, 36, 46, 54], 29) := by decide +kernel
theorem dX8_clock_40 : decode cX8_clock 40 = .ok (.aload_n 0, 1) := by decide +kernel
theorem dX8_clock_41 : decode cX8_clock 41 = .ok (.getfield 25, 3) := by decide +kernel
theorem dX8_clock_44 : decode cX8_clock 44 = .ok (.iconst 3, 1) := by decide +kernel
theorem dX8_clock_45 : decode cX8_clock 45 = .ok (.iaload, 1) := by decide +kernel
theorem dX8_clock_46 : decode cX8_clock 46 = .ok (.ireturn, 1) := by decide +kernel
theorem dX8_clock_47 : decode cX8_clock 47 = .ok (.aload_n 0, 1) := by decide +kernel
theorem dX8_clock_48 : decode cX8_clock 48 = .ok (.getfield 25, 3) := by decide +kernel
theorem dX8_clock_51 : decode cX8_clock 51 = .ok (.iconst 3, 1) := by decide +kernel
theorem dX8_clock_52 : decode cX8_clock 52 = .ok (.iaload, 1) := by decide +kernel
theorem dX8_clock_53 : decode cX8_clock 53 = .ok (.bipush 12, 2) := by decide +kernel
theorem dX8_clock_55 : decode cX8_clock 55 = .ok (.idiv, 1) := by decide +kernel
theorem dX8_clock_56 : decode cX8_clock 56 = .ok (.ireturn, 1) := by decide +kernel
theorem dX8_clock_57 : decode cX8_clock 57 = .ok (.aload_n 0, 1) := by decide +kernel
theorem dX8_clock_58 : decode cX8_clock 58 = .ok (.getfield 25, 3) := by decide +kernel
theorem dX8_clock_61 : decode cX8_clock 61 = .ok (.invokestatic 164, 3) := by decide +kernel
theorem dX8_clock_64 : decode cX8_clock 64 = .ok (.ireturn, 1) := by decide +kernel
theorem dX8_clock_65 : decode cX8_clock 65 = .ok (.aload_n 0, 1) := by decide +kernel
theorem dX8_clock_66 : decode cX8_clock 66 = .ok (.getfield 25, 3) := by decide +kernel
theorem dX8_clock_69 : decode cX8_clock 69 = .ok (.iconst 1, 1) := by decide +kernel
theorem dX8_clock_70 : decode cX8_clock 70 = .ok (.iaload, 1) := by decide +kernel
theorem dX8_clock_71 : decode cX8_clock 71 = .ok (.ireturn, 1) := by decide +kernel
theorem dX8_clock_72 : decode cX8_clock 72 = .ok (.ldc 64, 2) := by decide +kernel
theorem dX8_clock_74 : decode cX8_clock 74 = .ok (.ireturn, 1) := by decide +kernel
theorem dX8_ahead_0 : decode cX8_ahead 0 = .ok (.aload_n 0, 1) := by decide +kernel
theorem dX8_ahead_1 : decode cX8_ahead 1 = .ok (.invokevirtual 171, 3) := by decide +kernel
theorem dX8_ahead_4 : decode cX8_ahead 4 = .ok (.ifCond .ne 6, 3) := by decide +kernel
theorem dX8_ahead_7 : decode cX8_ahead 7 = .ok (.ldc 174, 2) := by decide +kernel
theorem dX8_ahead_9 : decode cX8_ahead 9 = .ok (.ireturn, 1) := by decide +kernel
theorem dX8_ahead_10 : decode cX8_ahead 10 = .ok (.iload_n 1, 1) := by decide +kernel
theorem dX8_ahead_11 : decode cX8_ahead 11 = .ok (.iconst 0, 1) := by decide +kernel
theorem dX8_ahead_12 : decode cX8_ahead 12 = .ok (.bipush 99, 2) := by decide +kernel
theorem dX8_ahead_14 : decode cX8_ahead 14 = .ok (.invokestatic 56, 3) := by decide +kernel
theorem dX8_ahead_17 : decode cX8_ahead 17 = .ok (.ifCond .ne 6, 3) := by decide +kernel
theorem dX8_ahead_20 : decode cX8_ahead 20 = .ok (.ldc 64, 2) := by decide +kernel
theorem dX8_ahead_22 : decode cX8_ahead 22 = .ok (.ireturn, 1) := by decide +kernel
theorem dX8_ahead_23 : decode cX8_ahead 23 = .ok (.aload_n 0, 1) := by decide +kernel
theorem dX8_ahead_24 : decode cX8_ahead 24 = .ok (.getfield 25, 3) := by decide +kernel
theorem dX8_ahead_27 : decode cX8_ahead 27 = .ok (.iconst 0, 1) := by decide +kernel
theorem dX8_ahead_28 : decode cX8_ahead 28 = .ok (.aload_n 0, 1) := by decide +kernel
theorem dX8_ahead_29 : decode cX8_ahead 29 = .ok (.getfield 41, 3) := by decide +kernel
theorem dX8_ahead_32 : decode cX8_ahead 32 = .ok (.iconst 0, 1) := by decide +kernel
theorem dX8_ahead_33 : decode cX8_ahead 33 = .ok (.invokestatic 134, 3) := by decide +kernel
theorem dX8_ahead_36 : decode cX8_ahead 36 = .ok (.aload_n 0, 1) := by decide +kernel
theorem dX8_ahead_37 : decode cX8_ahead 37 = .ok (.iload_n 1, 1) := by decide +kernel
theorem dX8_ahead_38 : decode cX8_ahead 38 = .ok (.invokevirtual 188, 3) := by decide +kernel
theorem dX8_ahead_41 : decode cX8_ahead 41 = .ok (.ireturn, 1) := by decide +kernel
theorem dX8_lays_0 : decode cX8_lays 0 = .ok (.aload_n 0, 1) := by decide +kernel
theorem dX8_lays_1 : decode cX8_lays 1 = .ok (.getfield 25, 3) := by decide +kernel
theorem dX8_lays_4 : decode cX8_lays 4 = .ok (.iconst 0, 1) := by decide +kernel
theorem dX8_lays_5 : decode cX8_lays 5 = .ok (.aload_n 0, 1) := by decide +kernel
theorem dX8_lays_6 : decode cX8_lays 6 = .ok (.getfield 41, 3) := by decide +kernel
theorem dX8_lays_9 : decode cX8_lays 9 = .ok (.iconst 0, 1) := by decide +kernel
theorem dX8_lays_10 : decode cX8_lays 10 = .ok (.invokestatic 134, 3) := by decide +kernel
theorem dX8_lays_13 : decode cX8_lays 13 = .ok (.aload_n 0, 1) := by decide +kernel
theorem dX8_lays_14 : decode cX8_lays 14 = .ok (.getfield 44, 3) := by decide +kernel
theorem dX8_lays_17 : decode cX8_lays 17 = .ok (.iconst 0, 1) := by decide +kernel
theorem dX8_lays_18 : decode cX8_lays 18 = .ok (.aload_n 0, 1) := by decide +kernel
theorem dX8_lays_19 : decode cX8_lays 19 = .ok (.getfield 25, 3) := by decide +kernel
theorem dX8_lays_22 : decode cX8_lays 22 = .ok (.iconst 3, 1) := by decide +kernel
theorem dX8_lays_23 : decode cX8_lays 23 = .ok (.iaload, 1) := by decide +kernel
theorem dX8_lays_24 : decode cX8_lays 24 = .ok (.iastore, 1) := by decide +kernel
theorem dX8_lays_25 : decode cX8_lays 25 = .ok (.iconst 1, 1) := by decide +kernel
theorem dX8_lays_26 : decode cX8_lays 26 = .ok (.istore_n 1, 1) := by decide +kernel
theorem dX8_lays_27 : decode cX8_lays 27 = .ok (.iload_n 1, 1) := by decide +kernel
theorem dX8_lays_28 : decode cX8_lays 28 = .ok (.bipush 100, 2) := by decide +kernel
theorem dX8_lays_30 : decode cX8_lays 30 = .ok (.if_icmp .ge 20, 3) := by decide +kernel
theorem dX8_lays_33 : decode cX8_lays 33 = .ok (.aload_n 0, 1) := by decide +kernel
theorem dX8_lays_34 : decode cX8_lays 34 = .ok (.getfield 44, 3) := by decide +kernel
theorem dX8_lays_37 : decode cX8_lays 37 = .ok (.iload_n 1, 1) := by decide +kernel
theorem dX8_lays_38 : decode cX8_lays 38 = .ok (.aload_n 0, 1) := by decide +kernel
theorem dX8_lays_39 : decode cX8_lays 39 = .ok (.iconst 1, 1) := by decide +kernel
theorem dX8_lays_40 : decode cX8_lays 40 = .ok (.invokevirtual 188, 3) := by decide +kernel
theorem dX8_lays_43 : decode cX8_lays 43 = .ok (.iastore, 1) := by decide +kernel
theorem dX8_lays_44 : decode cX8_lays 44 = .ok (.iinc 1 1, 3) := by decide +kernel
theorem dX8_lays_47 : decode cX8_lays 47 = .ok (.goto (-20), 3) := by decide +kernel
theorem dX8_lays_50 : decode cX8_lays 50 = .ok (.return_, 1) := by decide +kernel
theorem dX8_whenShows_0 : decode cX8_whenShows 0 = .ok (.aload_n 0, 1) := by decide +kernel
theorem dX8_whenShows_1 : decode cX8_whenShows 1 = .ok (.invokevirtual 171, 3) := by decide +kernel
theorem dX8_whenShows_4 : decode cX8_whenShows 4 = .ok (.ifCond .ne 6, 3) := by decide +kernel
theorem dX8_whenShows_7 : decode cX8_whenShows 7 = .ok (.ldc 174, 2) := by decide +kernel
theorem dX8_whenShows_9 : decode cX8_whenShows 9 = .ok (.ireturn, 1) := by decide +kernel
theorem dX8_whenShows_10 : decode cX8_whenShows 10 = .ok (.iload_n 1, 1) := by decide +kernel
theorem dX8_whenShows_11 : decode cX8_whenShows 11 = .ok (.iconst 0, 1) := by decide +kernel
theorem dX8_whenShows_12 : decode cX8_whenShows 12 = .ok (.sipush 999, 3) := by decide +kernel
theorem dX8_whenShows_15 : decode cX8_whenShows 15 = .ok (.invokestatic 56, 3) := by decide +kernel
theorem dX8_whenShows_18 : decode cX8_whenShows 18 = .ok (.ifCond .ne 6, 3) := by decide +kernel
theorem dX8_whenShows_21 : decode cX8_whenShows 21 = .ok (.ldc 64, 2) := by decide +kernel
theorem dX8_whenShows_23 : decode cX8_whenShows 23 = .ok (.ireturn, 1) := by decide +kernel
theorem dX8_whenShows_24 : decode cX8_whenShows 24 = .ok (.aload_n 0, 1) := by decide +kernel
theorem dX8_whenShows_25 : decode cX8_whenShows 25 = .ok (.invokevirtual 191, 3) := by decide +kernel
theorem dX8_whenShows_28 : decode cX8_whenShows 28 = .ok (.iconst 0, 1) := by decide +kernel
theorem dX8_whenShows_29 : decode cX8_whenShows 29 = .ok (.istore_n 2, 1) := by decide +kernel
theorem dX8_whenShows_30 : decode cX8_whenShows 30 = .ok (.iload_n 2, 1) := by decide +kernel
theorem dX8_whenShows_31 : decode cX8_whenShows 31 = .ok (.bipush 100, 2) := by decide +kernel
theorem dX8_whenShows_33 : decode cX8_whenShows 33 = .ok (.if_icmp .ge 24, 3) := by decide +kernel
theorem dX8_whenShows_36 : decode cX8_whenShows 36 = .ok (.aload_n 0, 1) := by decide +kernel
theorem dX8_whenShows_37 : decode cX8_whenShows 37 = .ok (.getfield 44, 3) := by decide +kernel
theorem dX8_whenShows_40 : decode cX8_whenShows 40 = .ok (.iload_n 2, 1) := by decide +kernel
theorem dX8_whenShows_41 : decode cX8_whenShows 41 = .ok (.iaload, 1) := by decide +kernel
theorem dX8_whenShows_42 : decode cX8_whenShows 42 = .ok (.bipush 12, 2) := by decide +kernel
theorem dX8_whenShows_44 : decode cX8_whenShows 44 = .ok (.idiv, 1) := by decide +kernel
theorem dX8_whenShows_45 : decode cX8_whenShows 45 = .ok (.iload_n 1, 1) := by decide +kernel
theorem dX8_whenShows_46 : decode cX8_whenShows 46 = .ok (.if_icmp .lt 5, 3) := by decide +kernel
theorem dX8_whenShows_49 : decode cX8_whenShows 49 = .ok (.iload_n 2, 1) := by decide +kernel
theorem dX8_whenShows_50 : decode cX8_whenShows 50 = .ok (.ireturn, 1) := by decide +kernel
theorem dX8_whenShows_51 : decode cX8_whenShows 51 = .ok (.iinc 2 1, 3) := by decide +kernel
theorem dX8_whenShows_54 : decode cX8_whenShows 54 = .ok (.goto (-24), 3) := by decide +kernel
theorem dX8_whenShows_57 : decode cX8_whenShows 57 = .ok (.ldc 50, 2) := by decide +kernel
theorem dX8_whenShows_59 : decode cX8_whenShows 59 = .ok (.ireturn, 1) := by decide +kernel
theorem dX8_done_0 : decode cX8_done 0 = .ok (.aload_n 0, 1) := by decide +kernel
theorem dX8_done_1 : decode cX8_done 1 = .ok (.iload_n 1, 1) := by decide +kernel
theorem dX8_done_2 : decode cX8_done 2 = .ok (.invokevirtual 194, 3) := by decide +kernel
theorem dX8_done_5 : decode cX8_done 5 = .ok (.ifCond .ne 6, 3) := by decide +kernel
theorem dX8_done_8 : decode cX8_done 8 = .ok (.ldc 64, 2) := by decide +kernel
theorem dX8_done_10 : decode cX8_done 10 = .ok (.ireturn, 1) := by decide +kernel
theorem dX8_done_11 : decode cX8_done 11 = .ok (.aload_n 0, 1) := by decide +kernel
theorem dX8_done_12 : decode cX8_done 12 = .ok (.invokevirtual 191, 3) := by decide +kernel
theorem dX8_done_15 : decode cX8_done 15 = .ok (.aload_n 0, 1) := by decide +kernel
theorem dX8_done_16 : decode cX8_done 16 = .ok (.getfield 41, 3) := by decide +kernel
theorem dX8_done_19 : decode cX8_done 19 = .ok (.bipush 48, 2) := by decide +kernel
theorem dX8_done_21 : decode cX8_done 21 = .ok (.iconst 5, 1) := by decide +kernel
theorem dX8_done_22 : decode cX8_done 22 = .ok (.iload_n 1, 1) := by decide +kernel
theorem dX8_done_23 : decode cX8_done 23 = .ok (.imul, 1) := by decide +kernel
theorem dX8_done_24 : decode cX8_done 24 = .ok (.iadd, 1) := by decide +kernel
theorem dX8_done_25 : decode cX8_done 25 = .ok (.iconst 4, 1) := by decide +kernel
theorem dX8_done_26 : decode cX8_done 26 = .ok (.iadd, 1) := by decide +kernel
theorem dX8_done_27 : decode cX8_done 27 = .ok (.iaload, 1) := by decide +kernel
theorem dX8_done_28 : decode cX8_done 28 = .ok (.ireturn, 1) := by decide +kernel
theorem dX8_late_0 : decode cX8_late 0 = .ok (.aload_n 0, 1) := by decide +kernel
theorem dX8_late_1 : decode cX8_late 1 = .ok (.invokevirtual 171, 3) := by decide +kernel
theorem dX8_late_4 : decode cX8_late 4 = .ok (.ifCond .ne 6, 3) := by decide +kernel
theorem dX8_late_7 : decode cX8_late 7 = .ok (.ldc 174, 2) := by decide +kernel
theorem dX8_late_9 : decode cX8_late 9 = .ok (.ireturn, 1) := by decide +kernel
theorem dX8_late_10 : decode cX8_late 10 = .ok (.aload_n 0, 1) := by decide +kernel
theorem dX8_late_11 : decode cX8_late 11 = .ok (.invokevirtual 191, 3) := by decide +kernel
theorem dX8_late_14 : decode cX8_late 14 = .ok (.iconst 0, 1) := by decide +kernel
theorem dX8_late_15 : decode cX8_late 15 = .ok (.istore_n 1, 1) := by decide +kernel
theorem dX8_late_16 : decode cX8_late 16 = .ok (.iconst 0, 1) := by decide +kernel
theorem dX8_late_17 : decode cX8_late 17 = .ok (.istore_n 2, 1) := by decide +kernel
theorem dX8_late_18 : decode cX8_late 18 = .ok (.iload_n 2, 1) := by decide +kernel
theorem dX8_late_19 : decode cX8_late 19 = .ok (.aload_n 0, 1) := by decide +kernel
theorem dX8_late_20 : decode cX8_late 20 = .ok (.getfield 25, 3) := by decide +kernel
theorem dX8_late_23 : decode cX8_late 23 = .ok (.iconst 5, 1) := by decide +kernel
theorem dX8_late_24 : decode cX8_late 24 = .ok (.iaload, 1) := by decide +kernel
theorem dX8_late_25 : decode cX8_late 25 = .ok (.if_icmp .ge 56, 3) := by decide +kernel
theorem dX8_late_28 : decode cX8_late 28 = .ok (.aload_n 0, 1) := by decide +kernel
theorem dX8_late_29 : decode cX8_late 29 = .ok (.getfield 41, 3) := by decide +kernel
theorem dX8_late_32 : decode cX8_late 32 = .ok (.bipush 48, 2) := by decide +kernel
theorem dX8_late_34 : decode cX8_late 34 = .ok (.iconst 5, 1) := by decide +kernel
theorem dX8_late_35 : decode cX8_late 35 = .ok (.iload_n 2, 1) := by decide +kernel
theorem dX8_late_36 : decode cX8_late 36 = .ok (.imul, 1) := by decide +kernel
theorem dX8_late_37 : decode cX8_late 37 = .ok (.iadd, 1) := by decide +kernel
theorem dX8_late_38 : decode cX8_late 38 = .ok (.iconst 4, 1) := by decide +kernel
theorem dX8_late_39 : decode cX8_late 39 = .ok (.iadd, 1) := by decide +kernel
theorem dX8_late_40 : decode cX8_late 40 = .ok (.iaload, 1) := by decide +kernel
theorem dX8_late_41 : decode cX8_late 41 = .ok (.istore_n 3, 1) := by decide +kernel
theorem dX8_late_42 : decode cX8_late 42 = .ok (.iload_n 1, 1) := by decide +kernel
theorem dX8_late_43 : decode cX8_late 43 = .ok (.iload_n 3, 1) := by decide +kernel
theorem dX8_late_44 : decode cX8_late 44 = .ok (.ldc 50, 2) := by decide +kernel
theorem dX8_late_46 : decode cX8_late 46 = .ok (.if_icmp .eq 20, 3) := by decide +kernel
theorem dX8_late_49 : decode cX8_late 49 = .ok (.iload_n 3, 1) := by decide +kernel
theorem dX8_late_50 : decode cX8_late 50 = .ok (.aload_n 0, 1) := by decide +kernel
theorem dX8_late_51 : decode cX8_late 51 = .ok (.getfield 25, 3) := by decide +kernel
theorem dX8_late_54 : decode cX8_late 54 = .ok (.bipush 48, 2) := by decide +kernel
theorem dX8_late_56 : decode cX8_late 56 = .ok (.iconst 5, 1) := by decide +kernel
theorem dX8_late_57 : decode cX8_late 57 = .ok (.iload_n 2, 1) := by decide +kernel
theorem dX8_late_58 : decode cX8_late 58 = .ok (.imul, 1) := by decide +kernel
theorem dX8_late_59 : decode cX8_late 59 = .ok (.iadd, 1) := by decide +kernel
theorem dX8_late_60 : decode cX8_late 60 = .ok (.iconst 2, 1) := by decide +kernel
theorem dX8_late_61 : decode cX8_late 61 = .ok (.iadd, 1) := by decide +kernel
theorem dX8_late_62 : decode cX8_late 62 = .ok (.iaload, 1) := by decide +kernel
theorem dX8_late_63 : decode cX8_late 63 = .ok (.if_icmp .le 9, 3) := by decide +kernel
theorem dX8_late_66 : decode cX8_late 66 = .ok (.iconst 1, 1) := by decide +kernel
theorem dX8_late_67 : decode cX8_late 67 = .ok (.iload_n 2, 1) := by decide +kernel
theorem dX8_late_68 : decode cX8_late 68 = .ok (.ishl, 1) := by decide +kernel
theorem dX8_late_69 : decode cX8_late 69 = .ok (.goto 4, 3) := by decide +kernel
theorem dX8_late_72 : decode cX8_late 72 = .ok (.iconst 0, 1) := by decide +kernel
theorem dX8_late_73 : decode cX8_late 73 = .ok (.ior, 1) := by decide +kernel
theorem dX8_late_74 : decode cX8_late 74 = .ok (.istore_n 1, 1) := by decide +kernel
theorem dX8_late_75 : decode cX8_late 75 = .ok (.iinc 2 1, 3) := by decide +kernel
theorem dX8_late_78 : decode cX8_late 78 = .ok (.goto (-60), 3) := by decide +kernel
theorem dX8_late_81 : decode cX8_late 81 = .ok (.iload_n 1, 1) := by decide +kernel
theorem dX8_late_82 : decode cX8_late 82 = .ok (.ireturn, 1) := by decide +kernel
theorem dX8_latest_0 : decode cX8_latest 0 = .ok (.aload_n 0, 1) := by decide +kernel
theorem dX8_latest_1 : decode cX8_latest 1 = .ok (.iload_n 1, 1) := by decide +kernel
theorem dX8_latest_2 : decode cX8_latest 2 = .ok (.invokevirtual 194, 3) := by decide +kernel
theorem dX8_latest_5 : decode cX8_latest 5 = .ok (.ifCond .ne 6, 3) := by decide +kernel
theorem dX8_latest_8 : decode cX8_latest 8 = .ok (.ldc 64, 2) := by decide +kernel
theorem dX8_latest_10 : decode cX8_latest 10 = .ok (.ireturn, 1) := by decide +kernel
theorem dX8_latest_11 : decode cX8_latest 11 = .ok (.aload_n 0, 1) := by decide +kernel
theorem dX8_latest_12 : decode cX8_latest 12 = .ok (.invokevirtual 191, 3) := by decide +kernel
theorem dX8_latest_15 : decode cX8_latest 15 = .ok (.bipush 48, 2) := by decide +kernel
theorem dX8_latest_17 : decode cX8_latest 17 = .ok (.iconst 5, 1) := by decide +kernel
theorem dX8_latest_18 : decode cX8_latest 18 = .ok (.iload_n 1, 1) := by decide +kernel
theorem dX8_latest_19 : decode cX8_latest 19 = .ok (.imul, 1) := by decide +kernel
theorem dX8_latest_20 : decode cX8_latest 20 = .ok (.iadd, 1) := by decide +kernel
theorem dX8_latest_21 : decode cX8_latest 21 = .ok (.istore_n 2, 1) := by decide +kernel
theorem dX8_latest_22 : decode cX8_latest 22 = .ok (.aload_n 0, 1) := by decide +kernel
theorem dX8_latest_23 : decode cX8_latest 23 = .ok (.getfield 25, 3) := by decide +kernel
theorem dX8_latest_26 : decode cX8_latest 26 = .ok (.iload_n 2, 1) := by decide +kernel
theorem dX8_latest_27 : decode cX8_latest 27 = .ok (.iconst 2, 1) := by decide +kernel
theorem dX8_latest_28 : decode cX8_latest 28 = .ok (.iadd, 1) := by decide +kernel
theorem dX8_latest_29 : decode cX8_latest 29 = .ok (.iaload, 1) := by decide +kernel
theorem dX8_latest_30 : decode cX8_latest 30 = .ok (.aload_n 0, 1) := by decide +kernel
theorem dX8_latest_31 : decode cX8_latest 31 = .ok (.getfield 25, 3) := by decide +kernel
theorem dX8_latest_34 : decode cX8_latest 34 = .ok (.iconst 2, 1) := by decide +kernel
theorem dX8_latest_35 : decode cX8_latest 35 = .ok (.iaload, 1) := by decide +kernel
theorem dX8_latest_36 : decode cX8_latest 36 = .ok (.isub, 1) := by decide +kernel
theorem dX8_latest_37 : decode cX8_latest 37 = .ok (.istore_n 3, 1) := by decide +kernel
theorem dX8_latest_38 : decode cX8_latest 38 = .ok (.ldc 50, 2) := by decide +kernel
theorem dX8_latest_40 : decode cX8_latest 40 = .ok (.istore 4, 2) := by decide +kernel
theorem dX8_latest_42 : decode cX8_latest 42 = .ok (.iconst 0, 1) := by decide +kernel
theorem dX8_latest_43 : decode cX8_latest 43 = .ok (.istore 5, 2) := by decide +kernel
theorem dX8_latest_45 : decode cX8_latest 45 = .ok (.iload 5, 2) := by decide +kernel
theorem dX8_latest_47 : decode cX8_latest 47 = .ok (.iload_n 3, 1) := by decide +kernel
theorem dX8_latest_48 : decode cX8_latest 48 = .ok (.if_icmp .ge 59, 3) := by decide +kernel
theorem dX8_latest_51 : decode cX8_latest 51 = .ok (.iload 5, 2) := by decide +kernel
theorem dX8_latest_53 : decode cX8_latest 53 = .ok (.bipush 100, 2) := by decide +kernel
theorem dX8_latest_55 : decode cX8_latest 55 = .ok (.if_icmp .ge 52, 3) := by decide +kernel
theorem dX8_latest_58 : decode cX8_latest 58 = .ok (.iload_n 3, 1) := by decide +kernel
theorem dX8_latest_59 : decode cX8_latest 59 = .ok (.bipush 100, 2) := by decide +kernel
theorem dX8_latest_61 : decode cX8_latest 61 = .ok (.if_icmp .ge 36, 3) := by decide +kernel
theorem dX8_latest_64 : decode cX8_latest 64 = .ok (.aload_n 0, 1) := by decide +kernel
theorem dX8_latest_65 : decode cX8_latest 65 = .ok (.getfield 44, 3) := by decide +kernel
theorem dX8_latest_68 : decode cX8_latest 68 = .ok (.iload_n 3, 1) := by decide +kernel
theorem dX8_latest_69 : decode cX8_latest 69 = .ok (.iaload, 1) := by decide +kernel
theorem dX8_latest_70 : decode cX8_latest 70 = .ok (.aload_n 0, 1) := by decide +kernel
theorem dX8_latest_71 : decode cX8_latest 71 = .ok (.getfield 44, 3) := by decide +kernel
theorem dX8_latest_74 : decode cX8_latest 74 = .ok (.iload 5, 2) := by decide +kernel
theorem dX8_latest_76 : decode cX8_latest 76 = .ok (.iaload, 1) := by decide +kernel
theorem dX8_latest_77 : decode cX8_latest 77 = .ok (.bipush 12, 2) := by decide +kernel
theorem dX8_latest_79 : decode cX8_latest 79 = .ok (.aload_n 0, 1) := by decide +kernel
theorem dX8_latest_80 : decode cX8_latest 80 = .ok (.getfield 25, 3) := by decide +kernel
theorem dX8_latest_83 : decode cX8_latest 83 = .ok (.iload_n 2, 1) := by decide +kernel
theorem dX8_latest_84 : decode cX8_latest 84 = .ok (.iconst 1, 1) := by decide +kernel
theorem dX8_latest_85 : decode cX8_latest 85 = .ok (.iadd, 1) := by decide +kernel
theorem dX8_latest_86 : decode cX8_latest 86 = .ok (.iaload, 1) := by decide +kernel
theorem dX8_latest_87 : decode cX8_latest 87 = .ok (.imul, 1) := by decide +kernel
theorem dX8_latest_88 : decode cX8_latest 88 = .ok (.iadd, 1) := by decide +kernel
theorem dX8_latest_89 : decode cX8_latest 89 = .ok (.if_icmp .lt 8, 3) := by decide +kernel
theorem dX8_latest_92 : decode cX8_latest 92 = .ok (.iload 5, 2) := by decide +kernel
theorem dX8_latest_94 : decode cX8_latest 94 = .ok (.goto 5, 3) := by decide +kernel
theorem dX8_latest_97 : decode cX8_latest 97 = .ok (.iload 4, 2) := by decide +kernel
theorem dX8_latest_99 : decode cX8_latest 99 = .ok (.istore 4, 2) := by decide +kernel
theorem dX8_latest_101 : decode cX8_latest 101 = .ok (.iinc 5 1, 3) := by decide +kernel
theorem dX8_latest_104 : decode cX8_latest 104 = .ok (.goto (-59), 3) := by decide +kernel
theorem dX8_latest_107 : decode cX8_latest 107 = .ok (.iload 4, 2) := by decide +kernel
theorem dX8_latest_109 : decode cX8_latest 109 = .ok (.ireturn, 1) := by decide +kernel
theorem dX8_told_0 : decode cX8_told 0 = .ok (.iload_n 1, 1) := by decide +kernel
theorem dX8_told_1 : decode cX8_told 1 = .ok (.ldc 50, 2) := by decide +kernel
theorem dX8_told_3 : decode cX8_told 3 = .ok (.if_icmp .eq 8, 3) := by decide +kernel
theorem dX8_told_6 : decode cX8_told 6 = .ok (.iload_n 2, 1) := by decide +kernel
theorem dX8_told_7 : decode cX8_told 7 = .ok (.iconst 1, 1) := by decide +kernel
theorem dX8_told_8 : decode cX8_told 8 = .ok (.if_icmp .ne 7, 3) := by decide +kernel
theorem dX8_told_11 : decode cX8_told 11 = .ok (.iload_n 1, 1) := by decide +kernel
theorem dX8_told_12 : decode cX8_told 12 = .ok (.goto 7, 3) := by decide +kernel
theorem dX8_told_15 : decode cX8_told 15 = .ok (.iload_n 1, 1) := by decide +kernel
theorem dX8_told_16 : decode cX8_told 16 = .ok (.invokestatic 197, 3) := by decide +kernel
theorem dX8_told_19 : decode cX8_told 19 = .ok (.ireturn, 1) := by decide +kernel
theorem dX8_toHush_0 : decode cX8_toHush 0 = .ok (.aload_n 0, 1) := by decide +kernel
theorem dX8_toHush_1 : decode cX8_toHush 1 = .ok (.invokevirtual 171, 3) := by decide +kernel
theorem dX8_toHush_4 : decode cX8_toHush 4 = .ok (.ifCond .ne 6, 3) := by decide +kernel
theorem dX8_toHush_7 : decode cX8_toHush 7 = .ok (.ldc 174, 2) := by decide +kernel
theorem dX8_toHush_9 : decode cX8_toHush 9 = .ok (.ireturn, 1) := by decide +kernel
theorem dX8_toHush_10 : decode cX8_toHush 10 = .ok (.iload_n 1, 1) := by decide +kernel
theorem dX8_toHush_11 : decode cX8_toHush 11 = .ok (.iconst 0, 1) := by decide +kernel
theorem dX8_toHush_12 : decode cX8_toHush 12 = .ok (.sipush 999, 3) := by decide +kernel
theorem dX8_toHush_15 : decode cX8_toHush 15 = .ok (.invokestatic 56, 3) := by decide +kernel
theorem dX8_toHush_18 : decode cX8_toHush 18 = .ok (.ifCond .eq 22, 3) := by decide +kernel
theorem dX8_toHush_21 : decode cX8_toHush 21 = .ok (.iload_n 2, 1) := by decide +kernel
theorem dX8_toHush_22 : decode cX8_toHush 22 = .ok (.iconst 0, 1) := by decide +kernel
theorem dX8_toHush_23 : decode cX8_toHush 23 = .ok (.bipush 99, 2) := by decide +kernel
theorem dX8_toHush_25 : decode cX8_toHush 25 = .ok (.invokestatic 56, 3) := by decide +kernel
theorem dX8_toHush_28 : decode cX8_toHush 28 = .ok (.ifCond .eq 12, 3) := by decide +kernel
theorem dX8_toHush_31 : decode cX8_toHush 31 = .ok (.iload_n 3, 1) := by decide +kernel
theorem dX8_toHush_32 : decode cX8_toHush 32 = .ok (.iconst 0, 1) := by decide +kernel
theorem dX8_toHush_33 : decode cX8_toHush 33 = .ok (.iconst 1, 1) := by decide +kernel
theorem dX8_toHush_34 : decode cX8_toHush 34 = .ok (.invokestatic 56, 3) := by decide +kernel
theorem dX8_toHush_37 : decode cX8_toHush 37 = .ok (.ifCond .ne 6, 3) := by decide +kernel
theorem dX8_toHush_40 : decode cX8_toHush 40 = .ok (.ldc 64, 2) := by decide +kernel
theorem dX8_toHush_42 : decode cX8_toHush 42 = .ok (.ireturn, 1) := by decide +kernel
theorem dX8_toHush_43 : decode cX8_toHush 43 = .ok (.ldc 50, 2) := by decide +kernel
theorem dX8_toHush_45 : decode cX8_toHush 45 = .ok (.istore 4, 2) := by decide +kernel
theorem dX8_toHush_47 : decode cX8_toHush 47 = .ok (.iconst 0, 1) := by decide +kernel
theorem dX8_toHush_48 : decode cX8_toHush 48 = .ok (.istore 5, 2) := by decide +kernel
theorem dX8_toHush_50 : decode cX8_toHush 50 = .ok (.iload 5, 2) := by decide +kernel
theorem dX8_toHush_52 : decode cX8_toHush 52 = .ok (.iconst 1, 1) := by decide +kernel
theorem dX8_toHush_53 : decode cX8_toHush 53 = .ok (.aload_n 0, 1) := by decide +kernel
theorem dX8_toHush_54 : decode cX8_toHush 54 = .ok (.getfield 25, 3) := by decide +kernel
theorem dX8_toHush_57 : decode cX8_toHush 57 = .ok (.iconst 4, 1) := by decide +kernel
theorem dX8_toHush_58 : decode cX8_toHush 58 = .ok (.iaload, 1) := by decide +kernel
theorem dX8_toHush_59 : decode cX8_toHush 59 = .ok (.ishl, 1) := by decide +kernel
theorem dX8_toHush_60 : decode cX8_toHush 60 = .ok (.if_icmp .ge 179, 3) := by decide +kernel
theorem dX8_toHush_63 : decode cX8_toHush 63 = .ok (.aload_n 0, 1) := by decide +kernel
theorem dX8_toHush_64 : decode cX8_toHush 64 = .ok (.getfield 25, 3) := by decide +kernel
theorem dX8_toHush_67 : decode cX8_toHush 67 = .ok (.iconst 0, 1) := by decide +kernel
theorem dX8_toHush_68 : decode cX8_toHush 68 = .ok (.aload_n 0, 1) := by decide +kernel
theorem dX8_toHush_69 : decode cX8_toHush 69 = .ok (.getfield 41, 3) := by decide +kernel
theorem dX8_toHush_72 : decode cX8_toHush 72 = .ok (.iconst 0, 1) := by decide +kernel
theorem dX8_toHush_73 : decode cX8_toHush 73 = .ok (.invokestatic 134, 3) := by decide +kernel
theorem dX8_toHush_76 : decode cX8_toHush 76 = .ok (.iload 4, 2) := by decide +kernel
theorem dX8_toHush_78 : decode cX8_toHush 78 = .ok (.ldc 50, 2) := by decide +kernel
theorem dX8_toHush_80 : decode cX8_toHush 80 = .ok (.if_icmp .eq 16, 3) := by decide +kernel
theorem dX8_toHush_83 : decode cX8_toHush 83 = .ok (.iload 5, 2) := by decide +kernel
theorem dX8_toHush_85 : decode cX8_toHush 85 = .ok (.invokestatic 197, 3) := by decide +kernel
theorem dX8_toHush_88 : decode cX8_toHush 88 = .ok (.iload 4, 2) := by decide +kernel
theorem dX8_toHush_90 : decode cX8_toHush 90 = .ok (.invokestatic 197, 3) := by decide +kernel
theorem dX8_toHush_93 : decode cX8_toHush 93 = .ok (.if_icmp .ge 7, 3) := by decide +kernel
theorem dX8_toHush_96 : decode cX8_toHush 96 = .ok (.iconst 1, 1) := by decide +kernel
theorem dX8_toHush_97 : decode cX8_toHush 97 = .ok (.goto 4, 3) := by decide +kernel
theorem dX8_toHush_100 : decode cX8_toHush 100 = .ok (.iconst 0, 1) := by decide +kernel
theorem dX8_toHush_101 : decode cX8_toHush 101 = .ok (.istore 6, 2) := by decide +kernel
theorem dX8_toHush_103 : decode cX8_toHush 103 = .ok (.iconst 0, 1) := by decide +kernel
theorem dX8_toHush_104 : decode cX8_toHush 104 = .ok (.istore 7, 2) := by decide +kernel
theorem dX8_toHush_106 : decode cX8_toHush 106 = .ok (.iload 7, 2) := by decide +kernel
theorem dX8_toHush_108 : decode cX8_toHush 108 = .ok (.aload_n 0, 1) := by decide +kernel
theorem dX8_toHush_109 : decode cX8_toHush 109 = .ok (.getfield 25, 3) := by decide +kernel
theorem dX8_toHush_112 : decode cX8_toHush 112 = .ok (.iconst 4, 1) := by decide +kernel
theorem dX8_toHush_113 : decode cX8_toHush 113 = .ok (.iaload, 1) := by decide +kernel
theorem dX8_toHush_114 : decode cX8_toHush 114 = .ok (.if_icmp .ge 93, 3) := by decide +kernel
theorem dX8_toHush_117 : decode cX8_toHush 117 = .ok (.iload 6, 2) := by decide +kernel
theorem dX8_toHush_119 : decode cX8_toHush 119 = .ok (.ifCond .eq 35, 3) := by decide +kernel
theorem dX8_toHush_122 : decode cX8_toHush 122 = .ok (.iload 5, 2) := by decide +kernel
theorem dX8_toHush_124 : decode cX8_toHush 124 = .ok (.iload 7, 2) := by decide +kernel
theorem dX8_toHush_126 : decode cX8_toHush 126 = .ok (.invokestatic 145, 3) := by decide +kernel
theorem dX8_toHush_129 : decode cX8_toHush 129 = .ok (.ifCond .eq 21, 3) := by decide +kernel
theorem dX8_toHush_132 : decode cX8_toHush 132 = .ok (.aload_n 0, 1) := by decide +kernel
theorem dX8_toHush_133 : decode cX8_toHush 133 = .ok (.getfield 25, 3) := by decide +kernel
theorem dX8_toHush_136 : decode cX8_toHush 136 = .ok (.bipush 6, 2) := by decide +kernel
theorem dX8_toHush_138 : decode cX8_toHush 138 = .ok (.bipush 7, 2) := by decide +kernel
theorem dX8_toHush_140 : decode cX8_toHush 140 = .ok (.iload 7, 2) := by decide +kernel
theorem dX8_toHush_142 : decode cX8_toHush 142 = .ok (.imul, 1) := by decide +kernel
theorem dX8_toHush_143 : decode cX8_toHush 143 = .ok (.iadd, 1) := by decide +kernel
theorem dX8_toHush_144 : decode cX8_toHush 144 = .ok (.iconst 5, 1) := by decide +kernel
theorem dX8_toHush_145 : decode cX8_toHush 145 = .ok (.iadd, 1) := by decide +kernel
theorem dX8_toHush_146 : decode cX8_toHush 146 = .ok (.iaload, 1) := by decide +kernel
theorem dX8_toHush_147 : decode cX8_toHush 147 = .ok (.ifCond .ne 7, 3) := by decide +kernel
theorem dX8_toHush_150 : decode cX8_toHush 150 = .ok (.iconst 1, 1) := by decide +kernel
theorem dX8_toHush_151 : decode cX8_toHush 151 = .ok (.goto 4, 3) := by decide +kernel
theorem dX8_toHush_154 : decode cX8_toHush 154 = .ok (.iconst 0, 1) := by decide +kernel
theorem dX8_toHush_155 : decode cX8_toHush 155 = .ok (.istore 6, 2) := by decide +kernel
theorem dX8_toHush_157 : decode cX8_toHush 157 = .ok (.aload_n 0, 1) := by decide +kernel
theorem dX8_toHush_158 : decode cX8_toHush 158 = .ok (.getfield 41, 3) := by decide +kernel
theorem dX8_toHush_161 : decode cX8_toHush 161 = .ok (.bipush 6, 2) := by decide +kernel
theorem dX8_toHush_163 : decode cX8_toHush 163 = .ok (.bipush 7, 2) := by decide +kernel
theorem dX8_toHush_165 : decode cX8_toHush 165 = .ok (.iload 7, 2) := by decide +kernel
theorem dX8_toHush_167 : decode cX8_toHush 167 = .ok (.imul, 1) := by decide +kernel
theorem dX8_toHush_168 : decode cX8_toHush 168 = .ok (.iadd, 1) := by decide +kernel
theorem dX8_toHush_169 : decode cX8_toHush 169 = .ok (.iconst 5, 1) := by decide +kernel
theorem dX8_toHush_170 : decode cX8_toHush 170 = .ok (.iadd, 1) := by decide +kernel
theorem dX8_toHush_171 : decode cX8_toHush 171 = .ok (.iload 5, 2) := by decide +kernel
theorem dX8_toHush_173 : decode cX8_toHush 173 = .ok (.iload 7, 2) := by decide +kernel
theorem dX8_toHush_175 : decode cX8_toHush 175 = .ok (.invokestatic 145, 3) := by decide +kernel
theorem dX8_toHush_178 : decode cX8_toHush 178 = .ok (.ifCond .eq 7, 3) := by decide +kernel
theorem dX8_toHush_181 : decode cX8_toHush 181 = .ok (.iconst 1, 1) := by decide +kernel
theorem dX8_toHush_182 : decode cX8_toHush 182 = .ok (.goto 18, 3) := by decide +kernel
theorem dX8_toHush_185 : decode cX8_toHush 185 = .ok (.aload_n 0, 1) := by decide +kernel
theorem dX8_toHush_186 : decode cX8_toHush 186 = .ok (.getfield 25, 3) := by decide +kernel
theorem dX8_toHush_189 : decode cX8_toHush 189 = .ok (.bipush 6, 2) := by decide +kernel
theorem dX8_toHush_191 : decode cX8_toHush 191 = .ok (.bipush 7, 2) := by decide +kernel
theorem dX8_toHush_193 : decode cX8_toHush 193 = .ok (.iload 7, 2) := by decide +kernel
theorem dX8_toHush_195 : decode cX8_toHush 195 = .ok (.imul, 1) := by decide +kernel
theorem dX8_toHush_196 : decode cX8_toHush 196 = .ok (.iadd, 1) := by decide +kernel
theorem dX8_toHush_197 : decode cX8_toHush 197 = .ok (.iconst 5, 1) := by decide +kernel
theorem dX8_toHush_198 : decode cX8_toHush 198 = .ok (.iadd, 1) := by decide +kernel
theorem dX8_toHush_199 : decode cX8_toHush 199 = .ok (.iaload, 1) := by decide +kernel
theorem dX8_toHush_200 : decode cX8_toHush 200 = .ok (.iastore, 1) := by decide +kernel
theorem dX8_toHush_201 : decode cX8_toHush 201 = .ok (.iinc 7 1, 3) := by decide +kernel
theorem dX8_toHush_204 : decode cX8_toHush 204 = .ok (.goto (-98), 3) := by decide +kernel
theorem dX8_toHush_207 : decode cX8_toHush 207 = .ok (.iload 6, 2) := by decide +kernel
theorem dX8_toHush_209 : decode cX8_toHush 209 = .ok (.ifCond .eq 20, 3) := by decide +kernel
theorem dX8_toHush_212 : decode cX8_toHush 212 = .ok (.aload_n 0, 1) := by decide +kernel
theorem dX8_toHush_213 : decode cX8_toHush 213 = .ok (.iload_n 2, 1) := by decide +kernel
theorem dX8_toHush_214 : decode cX8_toHush 214 = .ok (.invokevirtual 188, 3) := by decide +kernel
theorem dX8_toHush_217 : decode cX8_toHush 217 = .ok (.bipush 12, 2) := by decide +kernel
theorem dX8_toHush_219 : decode cX8_toHush 219 = .ok (.idiv, 1) := by decide +kernel
theorem dX8_toHush_220 : decode cX8_toHush 220 = .ok (.iload_n 1, 1) := by decide +kernel
theorem dX8_toHush_221 : decode cX8_toHush 221 = .ok (.if_icmp .gt 8, 3) := by decide +kernel
theorem dX8_toHush_224 : decode cX8_toHush 224 = .ok (.iload 5, 2) := by decide +kernel
theorem dX8_toHush_226 : decode cX8_toHush 226 = .ok (.goto 5, 3) := by decide +kernel
theorem dX8_toHush_229 : decode cX8_toHush 229 = .ok (.iload 4, 2) := by decide +kernel
theorem dX8_toHush_231 : decode cX8_toHush 231 = .ok (.istore 4, 2) := by decide +kernel
theorem dX8_toHush_233 : decode cX8_toHush 233 = .ok (.iinc 5 1, 3) := by decide +kernel
theorem dX8_toHush_236 : decode cX8_toHush 236 = .ok (.goto (-186), 3) := by decide +kernel
theorem dX8_toHush_239 : decode cX8_toHush 239 = .ok (.aload_n 0, 1) := by decide +kernel
theorem dX8_toHush_240 : decode cX8_toHush 240 = .ok (.iload 4, 2) := by decide +kernel
theorem dX8_toHush_242 : decode cX8_toHush 242 = .ok (.iload_n 3, 1) := by decide +kernel
theorem dX8_toHush_243 : decode cX8_toHush 243 = .ok (.invokevirtual 200, 3) := by decide +kernel
theorem dX8_toHush_246 : decode cX8_toHush 246 = .ok (.ireturn, 1) := by decide +kernel
theorem dX8_toCall_0 : decode cX8_toCall 0 = .ok (.aload_n 0, 1) := by decide +kernel
theorem dX8_toCall_1 : decode cX8_toCall 1 = .ok (.invokevirtual 171, 3) := by decide +kernel
theorem dX8_toCall_4 : decode cX8_toCall 4 = .ok (.ifCond .ne 6, 3) := by decide +kernel
theorem dX8_toCall_7 : decode cX8_toCall 7 = .ok (.ldc 174, 2) := by decide +kernel
theorem dX8_toCall_9 : decode cX8_toCall 9 = .ok (.ireturn, 1) := by decide +kernel
theorem dX8_toCall_10 : decode cX8_toCall 10 = .ok (.iload_n 1, 1) := by decide +kernel
theorem dX8_toCall_11 : decode cX8_toCall 11 = .ok (.iconst 0, 1) := by decide +kernel
theorem dX8_toCall_12 : decode cX8_toCall 12 = .ok (.sipush 999, 3) := by decide +kernel
theorem dX8_toCall_15 : decode cX8_toCall 15 = .ok (.invokestatic 56, 3) := by decide +kernel
theorem dX8_toCall_18 : decode cX8_toCall 18 = .ok (.ifCond .eq 22, 3) := by decide +kernel
theorem dX8_toCall_21 : decode cX8_toCall 21 = .ok (.iload_n 2, 1) := by decide +kernel
theorem dX8_toCall_22 : decode cX8_toCall 22 = .ok (.iconst 0, 1) := by decide +kernel
theorem dX8_toCall_23 : decode cX8_toCall 23 = .ok (.bipush 99, 2) := by decide +kernel
theorem dX8_toCall_25 : decode cX8_toCall 25 = .ok (.invokestatic 56, 3) := by decide +kernel
theorem dX8_toCall_28 : decode cX8_toCall 28 = .ok (.ifCond .eq 12, 3) := by decide +kernel
theorem dX8_toCall_31 : decode cX8_toCall 31 = .ok (.iload_n 3, 1) := by decide +kernel
theorem dX8_toCall_32 : decode cX8_toCall 32 = .ok (.iconst 0, 1) := by decide +kernel
theorem dX8_toCall_33 : decode cX8_toCall 33 = .ok (.iconst 1, 1) := by decide +kernel
theorem dX8_toCall_34 : decode cX8_toCall 34 = .ok (.invokestatic 56, 3) := by decide +kernel
theorem dX8_toCall_37 : decode cX8_toCall 37 = .ok (.ifCond .ne 6, 3) := by decide +kernel
theorem dX8_toCall_40 : decode cX8_toCall 40 = .ok (.ldc 64, 2) := by decide +kernel
theorem dX8_toCall_42 : decode cX8_toCall 42 = .ok (.ireturn, 1) := by decide +kernel
theorem dX8_toCall_43 : decode cX8_toCall 43 = .ok (.ldc 50, 2) := by decide +kernel
theorem dX8_toCall_45 : decode cX8_toCall 45 = .ok (.istore 4, 2) := by decide +kernel
theorem dX8_toCall_47 : decode cX8_toCall 47 = .ok (.iconst 0, 1) := by decide +kernel
theorem dX8_toCall_48 : decode cX8_toCall 48 = .ok (.istore 5, 2) := by decide +kernel
theorem dX8_toCall_50 : decode cX8_toCall 50 = .ok (.iload 5, 2) := by decide +kernel
theorem dX8_toCall_52 : decode cX8_toCall 52 = .ok (.iconst 1, 1) := by decide +kernel
theorem dX8_toCall_53 : decode cX8_toCall 53 = .ok (.aload_n 0, 1) := by decide +kernel
theorem dX8_toCall_54 : decode cX8_toCall 54 = .ok (.getfield 25, 3) := by decide +kernel
theorem dX8_toCall_57 : decode cX8_toCall 57 = .ok (.iconst 4, 1) := by decide +kernel
theorem dX8_toCall_58 : decode cX8_toCall 58 = .ok (.iaload, 1) := by decide +kernel
theorem dX8_toCall_59 : decode cX8_toCall 59 = .ok (.ishl, 1) := by decide +kernel
theorem dX8_toCall_60 : decode cX8_toCall 60 = .ok (.if_icmp .ge 183, 3) := by decide +kernel
theorem dX8_toCall_63 : decode cX8_toCall 63 = .ok (.aload_n 0, 1) := by decide +kernel
theorem dX8_toCall_64 : decode cX8_toCall 64 = .ok (.getfield 25, 3) := by decide +kernel
theorem dX8_toCall_67 : decode cX8_toCall 67 = .ok (.iconst 0, 1) := by decide +kernel
theorem dX8_toCall_68 : decode cX8_toCall 68 = .ok (.aload_n 0, 1) := by decide +kernel
theorem dX8_toCall_69 : decode cX8_toCall 69 = .ok (.getfield 41, 3) := by decide +kernel
theorem dX8_toCall_72 : decode cX8_toCall 72 = .ok (.iconst 0, 1) := by decide +kernel
theorem dX8_toCall_73 : decode cX8_toCall 73 = .ok (.invokestatic 134, 3) := by decide +kernel
theorem dX8_toCall_76 : decode cX8_toCall 76 = .ok (.iconst 0, 1) := by decide +kernel
theorem dX8_toCall_77 : decode cX8_toCall 77 = .ok (.istore 6, 2) := by decide +kernel
theorem dX8_toCall_79 : decode cX8_toCall 79 = .ok (.iload 6, 2) := by decide +kernel
theorem dX8_toCall_81 : decode cX8_toCall 81 = .ok (.aload_n 0, 1) := by decide +kernel
theorem dX8_toCall_82 : decode cX8_toCall 82 = .ok (.getfield 25, 3) := by decide +kernel
theorem dX8_toCall_85 : decode cX8_toCall 85 = .ok (.iconst 4, 1) := by decide +kernel
theorem dX8_toCall_86 : decode cX8_toCall 86 = .ok (.iaload, 1) := by decide +kernel
theorem dX8_toCall_87 : decode cX8_toCall 87 = .ok (.if_icmp .ge 97, 3) := by decide +kernel
theorem dX8_toCall_90 : decode cX8_toCall 90 = .ok (.aload_n 0, 1) := by decide +kernel
theorem dX8_toCall_91 : decode cX8_toCall 91 = .ok (.getfield 41, 3) := by decide +kernel
theorem dX8_toCall_94 : decode cX8_toCall 94 = .ok (.bipush 6, 2) := by decide +kernel
theorem dX8_toCall_96 : decode cX8_toCall 96 = .ok (.bipush 7, 2) := by decide +kernel
theorem dX8_toCall_98 : decode cX8_toCall 98 = .ok (.iload 6, 2) := by decide +kernel
theorem dX8_toCall_100 : decode cX8_toCall 100 = .ok (.imul, 1) := by decide +kernel
theorem dX8_toCall_101 : decode cX8_toCall 101 = .ok (.iadd, 1) := by decide +kernel
theorem dX8_toCall_102 : decode cX8_toCall 102 = .ok (.iconst 5, 1) := by decide +kernel
theorem dX8_toCall_103 : decode cX8_toCall 103 = .ok (.iadd, 1) := by decide +kernel
theorem dX8_toCall_104 : decode cX8_toCall 104 = .ok (.iload 5, 2) := by decide +kernel
theorem dX8_toCall_106 : decode cX8_toCall 106 = .ok (.iload 6, 2) := by decide +kernel
theorem dX8_toCall_108 : decode cX8_toCall 108 = .ok (.invokestatic 145, 3) := by decide +kernel
theorem dX8_toCall_111 : decode cX8_toCall 111 = .ok (.ifCond .eq 7, 3) := by decide +kernel
theorem dX8_toCall_114 : decode cX8_toCall 114 = .ok (.iconst 0, 1) := by decide +kernel
theorem dX8_toCall_115 : decode cX8_toCall 115 = .ok (.goto 18, 3) := by decide +kernel
theorem dX8_toCall_118 : decode cX8_toCall 118 = .ok (.aload_n 0, 1) := by decide +kernel
theorem dX8_toCall_119 : decode cX8_toCall 119 = .ok (.getfield 25, 3) := by decide +kernel
theorem dX8_toCall_122 : decode cX8_toCall 122 = .ok (.bipush 6, 2) := by decide +kernel
theorem dX8_toCall_124 : decode cX8_toCall 124 = .ok (.bipush 7, 2) := by decide +kernel
theorem dX8_toCall_126 : decode cX8_toCall 126 = .ok (.iload 6, 2) := by decide +kernel
theorem dX8_toCall_128 : decode cX8_toCall 128 = .ok (.imul, 1) := by decide +kernel
theorem dX8_toCall_129 : decode cX8_toCall 129 = .ok (.iadd, 1) := by decide +kernel
theorem dX8_toCall_130 : decode cX8_toCall 130 = .ok (.iconst 5, 1) := by decide +kernel
theorem dX8_toCall_131 : decode cX8_toCall 131 = .ok (.iadd, 1) := by decide +kernel
theorem dX8_toCall_132 : decode cX8_toCall 132 = .ok (.iaload, 1) := by decide +kernel
theorem dX8_toCall_133 : decode cX8_toCall 133 = .ok (.iastore, 1) := by decide +kernel
theorem dX8_toCall_134 : decode cX8_toCall 134 = .ok (.aload_n 0, 1) := by decide +kernel
theorem dX8_toCall_135 : decode cX8_toCall 135 = .ok (.getfield 41, 3) := by decide +kernel
theorem dX8_toCall_138 : decode cX8_toCall 138 = .ok (.bipush 6, 2) := by decide +kernel
theorem dX8_toCall_140 : decode cX8_toCall 140 = .ok (.bipush 7, 2) := by decide +kernel
theorem dX8_toCall_142 : decode cX8_toCall 142 = .ok (.iload 6, 2) := by decide +kernel
theorem dX8_toCall_144 : decode cX8_toCall 144 = .ok (.imul, 1) := by decide +kernel
theorem dX8_toCall_145 : decode cX8_toCall 145 = .ok (.iadd, 1) := by decide +kernel
theorem dX8_toCall_146 : decode cX8_toCall 146 = .ok (.iconst 2, 1) := by decide +kernel
theorem dX8_toCall_147 : decode cX8_toCall 147 = .ok (.iadd, 1) := by decide +kernel
theorem dX8_toCall_148 : decode cX8_toCall 148 = .ok (.iload 5, 2) := by decide +kernel
theorem dX8_toCall_150 : decode cX8_toCall 150 = .ok (.iload 6, 2) := by decide +kernel
theorem dX8_toCall_152 : decode cX8_toCall 152 = .ok (.invokestatic 145, 3) := by decide +kernel
theorem dX8_toCall_155 : decode cX8_toCall 155 = .ok (.ifCond .eq 7, 3) := by decide +kernel
theorem dX8_toCall_158 : decode cX8_toCall 158 = .ok (.iconst 0, 1) := by decide +kernel
theorem dX8_toCall_159 : decode cX8_toCall 159 = .ok (.goto 18, 3) := by decide +kernel
theorem dX8_toCall_162 : decode cX8_toCall 162 = .ok (.aload_n 0, 1) := by decide +kernel
theorem dX8_toCall_163 : decode cX8_toCall 163 = .ok (.getfield 25, 3) := by decide +kernel
theorem dX8_toCall_166 : decode cX8_toCall 166 = .ok (.bipush 6, 2) := by decide +kernel
theorem dX8_toCall_168 : decode cX8_toCall 168 = .ok (.bipush 7, 2) := by decide +kernel
theorem dX8_toCall_170 : decode cX8_toCall 170 = .ok (.iload 6, 2) := by decide +kernel
theorem dX8_toCall_172 : decode cX8_toCall 172 = .ok (.imul, 1) := by decide +kernel
theorem dX8_toCall_173 : decode cX8_toCall 173 = .ok (.iadd, 1) := by decide +kernel
theorem dX8_toCall_174 : decode cX8_toCall 174 = .ok (.iconst 2, 1) := by decide +kernel
theorem dX8_toCall_175 : decode cX8_toCall 175 = .ok (.iadd, 1) := by decide +kernel
theorem dX8_toCall_176 : decode cX8_toCall 176 = .ok (.iaload, 1) := by decide +kernel
theorem dX8_toCall_177 : decode cX8_toCall 177 = .ok (.iastore, 1) := by decide +kernel
theorem dX8_toCall_178 : decode cX8_toCall 178 = .ok (.iinc 6 1, 3) := by decide +kernel
theorem dX8_toCall_181 : decode cX8_toCall 181 = .ok (.goto (-102), 3) := by decide +kernel
theorem dX8_toCall_184 : decode cX8_toCall 184 = .ok (.iload 4, 2) := by decide +kernel
theorem dX8_toCall_186 : decode cX8_toCall 186 = .ok (.ldc 50, 2) := by decide +kernel
theorem dX8_toCall_188 : decode cX8_toCall 188 = .ok (.if_icmp .eq 16, 3) := by decide +kernel
theorem dX8_toCall_191 : decode cX8_toCall 191 = .ok (.iload 5, 2) := by decide +kernel
theorem dX8_toCall_193 : decode cX8_toCall 193 = .ok (.invokestatic 197, 3) := by decide +kernel
theorem dX8_toCall_196 : decode cX8_toCall 196 = .ok (.iload 4, 2) := by decide +kernel
theorem dX8_toCall_198 : decode cX8_toCall 198 = .ok (.invokestatic 197, 3) := by decide +kernel
theorem dX8_toCall_201 : decode cX8_toCall 201 = .ok (.if_icmp .ge 7, 3) := by decide +kernel
theorem dX8_toCall_204 : decode cX8_toCall 204 = .ok (.iconst 1, 1) := by decide +kernel
theorem dX8_toCall_205 : decode cX8_toCall 205 = .ok (.goto 4, 3) := by decide +kernel
theorem dX8_toCall_208 : decode cX8_toCall 208 = .ok (.iconst 0, 1) := by decide +kernel
theorem dX8_toCall_209 : decode cX8_toCall 209 = .ok (.istore 6, 2) := by decide +kernel
theorem dX8_toCall_211 : decode cX8_toCall 211 = .ok (.iload 6, 2) := by decide +kernel
theorem dX8_toCall_213 : decode cX8_toCall 213 = .ok (.ifCond .eq 20, 3) := by decide +kernel
theorem dX8_toCall_216 : decode cX8_toCall 216 = .ok (.aload_n 0, 1) := by decide +kernel
theorem dX8_toCall_217 : decode cX8_toCall 217 = .ok (.iload_n 2, 1) := by decide +kernel
theorem dX8_toCall_218 : decode cX8_toCall 218 = .ok (.invokevirtual 188, 3) := by decide +kernel
theorem dX8_toCall_221 : decode cX8_toCall 221 = .ok (.bipush 12, 2) := by decide +kernel
theorem dX8_toCall_223 : decode cX8_toCall 223 = .ok (.idiv, 1) := by decide +kernel
theorem dX8_toCall_224 : decode cX8_toCall 224 = .ok (.iload_n 1, 1) := by decide +kernel
theorem dX8_toCall_225 : decode cX8_toCall 225 = .ok (.if_icmp .lt 8, 3) := by decide +kernel
theorem dX8_toCall_228 : decode cX8_toCall 228 = .ok (.iload 5, 2) := by decide +kernel
theorem dX8_toCall_230 : decode cX8_toCall 230 = .ok (.goto 5, 3) := by decide +kernel
theorem dX8_toCall_233 : decode cX8_toCall 233 = .ok (.iload 4, 2) := by decide +kernel
theorem dX8_toCall_235 : decode cX8_toCall 235 = .ok (.istore 4, 2) := by decide +kernel
theorem dX8_toCall_237 : decode cX8_toCall 237 = .ok (.iinc 5 1, 3) := by decide +kernel
theorem dX8_toCall_240 : decode cX8_toCall 240 = .ok (.goto (-190), 3) := by decide +kernel
theorem dX8_toCall_243 : decode cX8_toCall 243 = .ok (.aload_n 0, 1) := by decide +kernel
theorem dX8_toCall_244 : decode cX8_toCall 244 = .ok (.iload 4, 2) := by decide +kernel
theorem dX8_toCall_246 : decode cX8_toCall 246 = .ok (.iload_n 3, 1) := by decide +kernel
theorem dX8_toCall_247 : decode cX8_toCall 247 = .ok (.invokevirtual 200, 3) := by decide +kernel
theorem dX8_toCall_250 : decode cX8_toCall 250 = .ok (.ireturn, 1) := by decide +kernel
theorem dX8_goesSo_0 : decode cX8_goesSo 0 = .ok (.iconst 1, 1) := by decide +kernel
theorem dX8_goesSo_1 : decode cX8_goesSo 1 = .ok (.istore_n 3, 1) := by decide +kernel
theorem dX8_goesSo_2 : decode cX8_goesSo 2 = .ok (.iconst 0, 1) := by decide +kernel
theorem dX8_goesSo_3 : decode cX8_goesSo 3 = .ok (.istore 4, 2) := by decide +kernel
theorem dX8_goesSo_5 : decode cX8_goesSo 5 = .ok (.iload 4, 2) := by decide +kernel
theorem dX8_goesSo_7 : decode cX8_goesSo 7 = .ok (.iload_n 2, 1) := by decide +kernel
theorem dX8_goesSo_8 : decode cX8_goesSo 8 = .ok (.if_icmp .ge 45, 3) := by decide +kernel
theorem dX8_goesSo_11 : decode cX8_goesSo 11 = .ok (.iload_n 3, 1) := by decide +kernel
theorem dX8_goesSo_12 : decode cX8_goesSo 12 = .ok (.ifCond .eq 41, 3) := by decide +kernel
theorem dX8_goesSo_15 : decode cX8_goesSo 15 = .ok (.aload_n 0, 1) := by decide +kernel
theorem dX8_goesSo_16 : decode cX8_goesSo 16 = .ok (.getfield 41, 3) := by decide +kernel
theorem dX8_goesSo_19 : decode cX8_goesSo 19 = .ok (.invokestatic 164, 3) := by decide +kernel
theorem dX8_goesSo_22 : decode cX8_goesSo 22 = .ok (.aload_n 0, 1) := by decide +kernel
theorem dX8_goesSo_23 : decode cX8_goesSo 23 = .ok (.getfield 16, 3) := by decide +kernel
theorem dX8_goesSo_26 : decode cX8_goesSo 26 = .ok (.iload_n 1, 1) := by decide +kernel
theorem dX8_goesSo_27 : decode cX8_goesSo 27 = .ok (.iload 4, 2) := by decide +kernel
theorem dX8_goesSo_29 : decode cX8_goesSo 29 = .ok (.iadd, 1) := by decide +kernel
theorem dX8_goesSo_30 : decode cX8_goesSo 30 = .ok (.iaload, 1) := by decide +kernel
theorem dX8_goesSo_31 : decode cX8_goesSo 31 = .ok (.if_icmp .ne 7, 3) := by decide +kernel
theorem dX8_goesSo_34 : decode cX8_goesSo 34 = .ok (.iconst 1, 1) := by decide +kernel
theorem dX8_goesSo_35 : decode cX8_goesSo 35 = .ok (.goto 4, 3) := by decide +kernel
theorem dX8_goesSo_38 : decode cX8_goesSo 38 = .ok (.iconst 0, 1) := by decide +kernel
theorem dX8_goesSo_39 : decode cX8_goesSo 39 = .ok (.istore_n 3, 1) := by decide +kernel
theorem dX8_goesSo_40 : decode cX8_goesSo 40 = .ok (.aload_n 0, 1) := by decide +kernel
theorem dX8_goesSo_41 : decode cX8_goesSo 41 = .ok (.getfield 41, 3) := by decide +kernel
theorem dX8_goesSo_44 : decode cX8_goesSo 44 = .ok (.invokestatic 167, 3) := by decide +kernel
theorem dX8_goesSo_47 : decode cX8_goesSo 47 = .ok (.iinc 4 1, 3) := by decide +kernel
theorem dX8_goesSo_50 : decode cX8_goesSo 50 = .ok (.goto (-45), 3) := by decide +kernel
theorem dX8_goesSo_53 : decode cX8_goesSo 53 = .ok (.iload_n 3, 1) := by decide +kernel
theorem dX8_goesSo_54 : decode cX8_goesSo 54 = .ok (.ireturn, 1) := by decide +kernel
theorem dX8_who_0 : decode cX8_who 0 = .ok (.aload_n 0, 1) := by decide +kernel
theorem dX8_who_1 : decode cX8_who 1 = .ok (.invokevirtual 171, 3) := by decide +kernel
theorem dX8_who_4 : decode cX8_who 4 = .ok (.ifCond .ne 6, 3) := by decide +kernel
theorem dX8_who_7 : decode cX8_who 7 = .ok (.ldc 174, 2) := by decide +kernel
theorem dX8_who_9 : decode cX8_who 9 = .ok (.ireturn, 1) := by decide +kernel
theorem dX8_who_10 : decode cX8_who 10 = .ok (.iload_n 1, 1) := by decide +kernel
theorem dX8_who_11 : decode cX8_who 11 = .ok (.invokestatic 60, 3) := by decide +kernel
theorem dX8_who_14 : decode cX8_who 14 = .ok (.ifCond .eq 23, 3) := by decide +kernel
theorem dX8_who_17 : decode cX8_who 17 = .ok (.iload_n 3, 1) := by decide +kernel
theorem dX8_who_18 : decode cX8_who 18 = .ok (.iconst 1, 1) := by decide +kernel
theorem dX8_who_19 : decode cX8_who 19 = .ok (.bipush 16, 2) := by decide +kernel
theorem dX8_who_21 : decode cX8_who 21 = .ok (.invokestatic 56, 3) := by decide +kernel
theorem dX8_who_24 : decode cX8_who 24 = .ok (.ifCond .eq 13, 3) := by decide +kernel
theorem dX8_who_27 : decode cX8_who 27 = .ok (.iload 4, 2) := by decide +kernel
theorem dX8_who_29 : decode cX8_who 29 = .ok (.iconst 0, 1) := by decide +kernel
theorem dX8_who_30 : decode cX8_who 30 = .ok (.iconst 1, 1) := by decide +kernel
theorem dX8_who_31 : decode cX8_who 31 = .ok (.invokestatic 56, 3) := by decide +kernel
theorem dX8_who_34 : decode cX8_who 34 = .ok (.ifCond .ne 6, 3) := by decide +kernel
theorem dX8_who_37 : decode cX8_who 37 = .ok (.ldc 64, 2) := by decide +kernel
theorem dX8_who_39 : decode cX8_who 39 = .ok (.ireturn, 1) := by decide +kernel
theorem dX8_who_40 : decode cX8_who 40 = .ok (.aload_n 0, 1) := by decide +kernel
theorem dX8_who_41 : decode cX8_who 41 = .ok (.iload_n 1, 1) := by decide +kernel
theorem dX8_who_42 : decode cX8_who 42 = .ok (.invokevirtual 72, 3) := by decide +kernel
theorem dX8_who_45 : decode cX8_who 45 = .ok (.ifCond .eq 9, 3) := by decide +kernel
theorem dX8_who_48 : decode cX8_who 48 = .ok (.aload_n 0, 1) := by decide +kernel
theorem dX8_who_49 : decode cX8_who 49 = .ok (.iconst 1, 1) := by decide +kernel
theorem dX8_who_50 : decode cX8_who 50 = .ok (.invokevirtual 65, 3) := by decide +kernel
theorem dX8_who_53 : decode cX8_who 53 = .ok (.ireturn, 1) := by decide +kernel
theorem dX8_who_54 : decode cX8_who 54 = .ok (.aload_n 0, 1) := by decide +kernel
theorem dX8_who_55 : decode cX8_who 55 = .ok (.iload_n 1, 1) := by decide +kernel
theorem dX8_who_56 : decode cX8_who 56 = .ok (.iload_n 2, 1) := by decide +kernel
theorem dX8_who_57 : decode cX8_who 57 = .ok (.iload_n 3, 1) := by decide +kernel
theorem dX8_who_58 : decode cX8_who 58 = .ok (.invokevirtual 79, 3) := by decide +kernel
theorem dX8_who_61 : decode cX8_who 61 = .ok (.ifCond .ne 9, 3) := by decide +kernel
theorem dX8_who_64 : decode cX8_who 64 = .ok (.aload_n 0, 1) := by decide +kernel
theorem dX8_who_65 : decode cX8_who 65 = .ok (.iconst 2, 1) := by decide +kernel
theorem dX8_who_66 : decode cX8_who 66 = .ok (.invokevirtual 65, 3) := by decide +kernel
theorem dX8_who_69 : decode cX8_who 69 = .ok (.ireturn, 1) := by decide +kernel
theorem dX8_who_70 : decode cX8_who 70 = .ok (.iconst 0, 1) := by decide +kernel
theorem dX8_who_71 : decode cX8_who 71 = .ok (.istore 5, 2) := by decide +kernel
theorem dX8_who_73 : decode cX8_who 73 = .ok (.ldc 50, 2) := by decide +kernel
theorem dX8_who_75 : decode cX8_who 75 = .ok (.istore 6, 2) := by decide +kernel
theorem dX8_who_77 : decode cX8_who 77 = .ok (.iconst 0, 1) := by decide +kernel
theorem dX8_who_78 : decode cX8_who 78 = .ok (.istore 7, 2) := by decide +kernel
theorem dX8_who_80 : decode cX8_who 80 = .ok (.iload 7, 2) := by decide +kernel
theorem dX8_who_82 : decode cX8_who 82 = .ok (.iconst 1, 1) := by decide +kernel
theorem dX8_who_83 : decode cX8_who 83 = .ok (.aload_n 0, 1) := by decide +kernel
theorem dX8_who_84 : decode cX8_who 84 = .ok (.getfield 25, 3) := by decide +kernel
theorem dX8_who_87 : decode cX8_who 87 = .ok (.iconst 4, 1) := by decide +kernel
theorem dX8_who_88 : decode cX8_who 88 = .ok (.iaload, 1) := by decide +kernel
theorem dX8_who_89 : decode cX8_who 89 = .ok (.ishl, 1) := by decide +kernel
theorem dX8_who_90 : decode cX8_who 90 = .ok (.if_icmp .ge 135, 3) := by decide +kernel
theorem dX8_who_93 : decode cX8_who 93 = .ok (.aload_n 0, 1) := by decide +kernel
theorem dX8_who_94 : decode cX8_who 94 = .ok (.getfield 25, 3) := by decide +kernel
theorem dX8_who_97 : decode cX8_who 97 = .ok (.iconst 0, 1) := by decide +kernel
theorem dX8_who_98 : decode cX8_who 98 = .ok (.aload_n 0, 1) := by decide +kernel
theorem dX8_who_99 : decode cX8_who 99 = .ok (.getfield 41, 3) := by decide +kernel
theorem dX8_who_102 : decode cX8_who 102 = .ok (.iconst 0, 1) := by decide +kernel
theorem dX8_who_103 : decode cX8_who 103 = .ok (.invokestatic 134, 3) := by decide +kernel
theorem dX8_who_106 : decode cX8_who 106 = .ok (.iconst 0, 1) := by decide +kernel
theorem dX8_who_107 : decode cX8_who 107 = .ok (.istore 8, 2) := by decide +kernel
theorem dX8_who_109 : decode cX8_who 109 = .ok (.iload 8, 2) := by decide +kernel
theorem dX8_who_111 : decode cX8_who 111 = .ok (.aload_n 0, 1) := by decide +kernel
theorem dX8_who_112 : decode cX8_who 112 = .ok (.getfield 25, 3) := by decide +kernel
theorem dX8_who_115 : decode cX8_who 115 = .ok (.iconst 4, 1) := by decide +kernel
theorem dX8_who_116 : decode cX8_who 116 = .ok (.iaload, 1) := by decide +kernel
theorem dX8_who_117 : decode cX8_who 117 = .ok (.if_icmp .ge 55, 3) := by decide +kernel
theorem dX8_who_120 : decode cX8_who 120 = .ok (.aload_n 0, 1) := by decide +kernel
theorem dX8_who_121 : decode cX8_who 121 = .ok (.getfield 41, 3) := by decide +kernel
theorem dX8_who_124 : decode cX8_who 124 = .ok (.bipush 6, 2) := by decide +kernel
theorem dX8_who_126 : decode cX8_who 126 = .ok (.bipush 7, 2) := by decide +kernel
theorem dX8_who_128 : decode cX8_who 128 = .ok (.iload 8, 2) := by decide +kernel
theorem dX8_who_130 : decode cX8_who 130 = .ok (.imul, 1) := by decide +kernel
theorem dX8_who_131 : decode cX8_who 131 = .ok (.iadd, 1) := by decide +kernel
theorem dX8_who_132 : decode cX8_who 132 = .ok (.iconst 5, 1) := by decide +kernel
theorem dX8_who_133 : decode cX8_who 133 = .ok (.iadd, 1) := by decide +kernel
theorem dX8_who_134 : decode cX8_who 134 = .ok (.iconst 0, 1) := by decide +kernel
theorem dX8_who_135 : decode cX8_who 135 = .ok (.iastore, 1) := by decide +kernel
theorem dX8_who_136 : decode cX8_who 136 = .ok (.aload_n 0, 1) := by decide +kernel
theorem dX8_who_137 : decode cX8_who 137 = .ok (.getfield 41, 3) := by decide +kernel
theorem dX8_who_140 : decode cX8_who 140 = .ok (.bipush 6, 2) := by decide +kernel
theorem dX8_who_142 : decode cX8_who 142 = .ok (.bipush 7, 2) := by decide +kernel
theorem dX8_who_144 : decode cX8_who 144 = .ok (.iload 8, 2) := by decide +kernel
theorem dX8_who_146 : decode cX8_who 146 = .ok (.imul, 1) := by decide +kernel
theorem dX8_who_147 : decode cX8_who 147 = .ok (.iadd, 1) := by decide +kernel
theorem dX8_who_148 : decode cX8_who 148 = .ok (.iconst 2, 1) := by decide +kernel
theorem dX8_who_149 : decode cX8_who 149 = .ok (.iadd, 1) := by decide +kernel
theorem dX8_who_150 : decode cX8_who 150 = .ok (.iload 7, 2) := by decide +kernel
theorem dX8_who_152 : decode cX8_who 152 = .ok (.iload 8, 2) := by decide +kernel
theorem dX8_who_154 : decode cX8_who 154 = .ok (.invokestatic 145, 3) := by decide +kernel
theorem dX8_who_157 : decode cX8_who 157 = .ok (.ifCond .eq 7, 3) := by decide +kernel
theorem dX8_who_160 : decode cX8_who 160 = .ok (.iconst 0, 1) := by decide +kernel
theorem dX8_who_161 : decode cX8_who 161 = .ok (.goto 4, 3) := by decide +kernel
theorem dX8_who_164 : decode cX8_who 164 = .ok (.iconst 1, 1) := by decide +kernel
theorem dX8_who_165 : decode cX8_who 165 = .ok (.iastore, 1) := by decide +kernel
theorem dX8_who_166 : decode cX8_who 166 = .ok (.iinc 8 1, 3) := by decide +kernel
theorem dX8_who_169 : decode cX8_who 169 = .ok (.goto (-60), 3) := by decide +kernel
theorem dX8_who_172 : decode cX8_who 172 = .ok (.aload_n 0, 1) := by decide +kernel
theorem dX8_who_173 : decode cX8_who 173 = .ok (.bipush 40, 2) := by decide +kernel
theorem dX8_who_175 : decode cX8_who 175 = .ok (.iload_n 1, 1) := by decide +kernel
theorem dX8_who_176 : decode cX8_who 176 = .ok (.imul, 1) := by decide +kernel
theorem dX8_who_177 : decode cX8_who 177 = .ok (.iload_n 2, 1) := by decide +kernel
theorem dX8_who_178 : decode cX8_who 178 = .ok (.iadd, 1) := by decide +kernel
theorem dX8_who_179 : decode cX8_who 179 = .ok (.iload_n 3, 1) := by decide +kernel
theorem dX8_who_180 : decode cX8_who 180 = .ok (.invokevirtual 203, 3) := by decide +kernel
theorem dX8_who_183 : decode cX8_who 183 = .ok (.istore 8, 2) := by decide +kernel
theorem dX8_who_185 : decode cX8_who 185 = .ok (.iload 8, 2) := by decide +kernel
theorem dX8_who_187 : decode cX8_who 187 = .ok (.ifCond .eq 13, 3) := by decide +kernel
theorem dX8_who_190 : decode cX8_who 190 = .ok (.iload 5, 2) := by decide +kernel
theorem dX8_who_192 : decode cX8_who 192 = .ok (.ifCond .ne 8, 3) := by decide +kernel
theorem dX8_who_195 : decode cX8_who 195 = .ok (.iload 7, 2) := by decide +kernel
theorem dX8_who_197 : decode cX8_who 197 = .ok (.goto 5, 3) := by decide +kernel
theorem dX8_who_200 : decode cX8_who 200 = .ok (.iload 6, 2) := by decide +kernel
theorem dX8_who_202 : decode cX8_who 202 = .ok (.istore 6, 2) := by decide +kernel
theorem dX8_who_204 : decode cX8_who 204 = .ok (.iload 5, 2) := by decide +kernel
theorem dX8_who_206 : decode cX8_who 206 = .ok (.iload 8, 2) := by decide +kernel
theorem dX8_who_208 : decode cX8_who 208 = .ok (.ifCond .eq 7, 3) := by decide +kernel
theorem dX8_who_211 : decode cX8_who 211 = .ok (.iconst 1, 1) := by decide +kernel
theorem dX8_who_212 : decode cX8_who 212 = .ok (.goto 4, 3) := by decide +kernel
theorem dX8_who_215 : decode cX8_who 215 = .ok (.iconst 0, 1) := by decide +kernel
theorem dX8_who_216 : decode cX8_who 216 = .ok (.iadd, 1) := by decide +kernel
theorem dX8_who_217 : decode cX8_who 217 = .ok (.istore 5, 2) := by decide +kernel
theorem dX8_who_219 : decode cX8_who 219 = .ok (.iinc 7 1, 3) := by decide +kernel
theorem dX8_who_222 : decode cX8_who 222 = .ok (.goto (-142), 3) := by decide +kernel
theorem dX8_who_225 : decode cX8_who 225 = .ok (.aload_n 0, 1) := by decide +kernel
theorem dX8_who_226 : decode cX8_who 226 = .ok (.iload 4, 2) := by decide +kernel
theorem dX8_who_228 : decode cX8_who 228 = .ok (.ifCond .ne 8, 3) := by decide +kernel
theorem dX8_who_231 : decode cX8_who 231 = .ok (.iload 5, 2) := by decide +kernel
theorem dX8_who_233 : decode cX8_who 233 = .ok (.goto 5, 3) := by decide +kernel
theorem dX8_who_236 : decode cX8_who 236 = .ok (.iload 6, 2) := by decide +kernel
theorem dX8_who_238 : decode cX8_who 238 = .ok (.invokevirtual 69, 3) := by decide +kernel
theorem dX8_who_241 : decode cX8_who 241 = .ok (.ireturn, 1) := by decide +kernel
theorem dX8_heed_0 : decode cX8_heed 0 = .ok (.aload_n 0, 1) := by decide +kernel
theorem dX8_heed_1 : decode cX8_heed 1 = .ok (.iload_n 1, 1) := by decide +kernel
theorem dX8_heed_2 : decode cX8_heed 2 = .ok (.invokevirtual 178, 3) := by decide +kernel
theorem dX8_heed_5 : decode cX8_heed 5 = .ok (.ifCond .eq 21, 3) := by decide +kernel
theorem dX8_heed_8 : decode cX8_heed 8 = .ok (.iload_n 2, 1) := by decide +kernel
theorem dX8_heed_9 : decode cX8_heed 9 = .ok (.invokestatic 60, 3) := by decide +kernel
theorem dX8_heed_12 : decode cX8_heed 12 = .ok (.ifCond .eq 14, 3) := by decide +kernel
theorem dX8_heed_15 : decode cX8_heed 15 = .ok (.iload 4, 2) := by decide +kernel
theorem dX8_heed_17 : decode cX8_heed 17 = .ok (.iconst 1, 1) := by decide +kernel
theorem dX8_heed_18 : decode cX8_heed 18 = .ok (.bipush 16, 2) := by decide +kernel
theorem dX8_heed_20 : decode cX8_heed 20 = .ok (.invokestatic 56, 3) := by decide +kernel
theorem dX8_heed_23 : decode cX8_heed 23 = .ok (.ifCond .ne 6, 3) := by decide +kernel
theorem dX8_heed_26 : decode cX8_heed 26 = .ok (.ldc 64, 2) := by decide +kernel
theorem dX8_heed_28 : decode cX8_heed 28 = .ok (.ireturn, 1) := by decide +kernel
theorem dX8_heed_29 : decode cX8_heed 29 = .ok (.aload_n 0, 1) := by decide +kernel
theorem dX8_heed_30 : decode cX8_heed 30 = .ok (.iload_n 2, 1) := by decide +kernel
theorem dX8_heed_31 : decode cX8_heed 31 = .ok (.invokevirtual 72, 3) := by decide +kernel
theorem dX8_heed_34 : decode cX8_heed 34 = .ok (.ifCond .eq 9, 3) := by decide +kernel
theorem dX8_heed_37 : decode cX8_heed 37 = .ok (.aload_n 0, 1) := by decide +kernel
theorem dX8_heed_38 : decode cX8_heed 38 = .ok (.iconst 1, 1) := by decide +kernel
theorem dX8_heed_39 : decode cX8_heed 39 = .ok (.invokevirtual 65, 3) := by decide +kernel
theorem dX8_heed_42 : decode cX8_heed 42 = .ok (.ireturn, 1) := by decide +kernel
theorem dX8_heed_43 : decode cX8_heed 43 = .ok (.aload_n 0, 1) := by decide +kernel
theorem dX8_heed_44 : decode cX8_heed 44 = .ok (.iload_n 2, 1) := by decide +kernel
theorem dX8_heed_45 : decode cX8_heed 45 = .ok (.iload_n 3, 1) := by decide +kernel
theorem dX8_heed_46 : decode cX8_heed 46 = .ok (.iload 4, 2) := by decide +kernel
theorem dX8_heed_48 : decode cX8_heed 48 = .ok (.invokevirtual 79, 3) := by decide +kernel
theorem dX8_heed_51 : decode cX8_heed 51 = .ok (.ifCond .ne 9, 3) := by decide +kernel
theorem dX8_heed_54 : decode cX8_heed 54 = .ok (.aload_n 0, 1) := by decide +kernel
theorem dX8_heed_55 : decode cX8_heed 55 = .ok (.iconst 2, 1) := by decide +kernel
theorem dX8_heed_56 : decode cX8_heed 56 = .ok (.invokevirtual 65, 3) := by decide +kernel
theorem dX8_heed_59 : decode cX8_heed 59 = .ok (.ireturn, 1) := by decide +kernel
theorem dX8_heed_60 : decode cX8_heed 60 = .ok (.iconst 0, 1) := by decide +kernel
theorem dX8_heed_61 : decode cX8_heed 61 = .ok (.istore 5, 2) := by decide +kernel
theorem dX8_heed_63 : decode cX8_heed 63 = .ok (.iconst 1, 1) := by decide +kernel
theorem dX8_heed_64 : decode cX8_heed 64 = .ok (.istore 6, 2) := by decide +kernel
theorem dX8_heed_66 : decode cX8_heed 66 = .ok (.iload 6, 2) := by decide +kernel
theorem dX8_heed_68 : decode cX8_heed 68 = .ok (.bipush 13, 2) := by decide +kernel
theorem dX8_heed_70 : decode cX8_heed 70 = .ok (.if_icmp .ge 68, 3) := by decide +kernel
theorem dX8_heed_73 : decode cX8_heed 73 = .ok (.aload_n 0, 1) := by decide +kernel
theorem dX8_heed_74 : decode cX8_heed 74 = .ok (.getfield 25, 3) := by decide +kernel
theorem dX8_heed_77 : decode cX8_heed 77 = .ok (.iconst 0, 1) := by decide +kernel
theorem dX8_heed_78 : decode cX8_heed 78 = .ok (.aload_n 0, 1) := by decide +kernel
theorem dX8_heed_79 : decode cX8_heed 79 = .ok (.getfield 41, 3) := by decide +kernel
theorem dX8_heed_82 : decode cX8_heed 82 = .ok (.iconst 0, 1) := by decide +kernel
theorem dX8_heed_83 : decode cX8_heed 83 = .ok (.invokestatic 134, 3) := by decide +kernel
theorem dX8_heed_86 : decode cX8_heed 86 = .ok (.aload_n 0, 1) := by decide +kernel
theorem dX8_heed_87 : decode cX8_heed 87 = .ok (.getfield 41, 3) := by decide +kernel
theorem dX8_heed_90 : decode cX8_heed 90 = .ok (.bipush 6, 2) := by decide +kernel
theorem dX8_heed_92 : decode cX8_heed 92 = .ok (.bipush 7, 2) := by decide +kernel
theorem dX8_heed_94 : decode cX8_heed 94 = .ok (.iload_n 1, 1) := by decide +kernel
theorem dX8_heed_95 : decode cX8_heed 95 = .ok (.imul, 1) := by decide +kernel
theorem dX8_heed_96 : decode cX8_heed 96 = .ok (.iadd, 1) := by decide +kernel
theorem dX8_heed_97 : decode cX8_heed 97 = .ok (.iconst 1, 1) := by decide +kernel
theorem dX8_heed_98 : decode cX8_heed 98 = .ok (.iadd, 1) := by decide +kernel
theorem dX8_heed_99 : decode cX8_heed 99 = .ok (.iload 6, 2) := by decide +kernel
theorem dX8_heed_101 : decode cX8_heed 101 = .ok (.iastore, 1) := by decide +kernel
theorem dX8_heed_102 : decode cX8_heed 102 = .ok (.iload 5, 2) := by decide +kernel
theorem dX8_heed_104 : decode cX8_heed 104 = .ok (.aload_n 0, 1) := by decide +kernel
theorem dX8_heed_105 : decode cX8_heed 105 = .ok (.bipush 40, 2) := by decide +kernel
theorem dX8_heed_107 : decode cX8_heed 107 = .ok (.iload_n 2, 1) := by decide +kernel
theorem dX8_heed_108 : decode cX8_heed 108 = .ok (.imul, 1) := by decide +kernel
theorem dX8_heed_109 : decode cX8_heed 109 = .ok (.iload_n 3, 1) := by decide +kernel
theorem dX8_heed_110 : decode cX8_heed 110 = .ok (.iadd, 1) := by decide +kernel
theorem dX8_heed_111 : decode cX8_heed 111 = .ok (.iload 4, 2) := by decide +kernel
theorem dX8_heed_113 : decode cX8_heed 113 = .ok (.invokevirtual 203, 3) := by decide +kernel
theorem dX8_heed_116 : decode cX8_heed 116 = .ok (.ifCond .eq 12, 3) := by decide +kernel
theorem dX8_heed_119 : decode cX8_heed 119 = .ok (.iconst 1, 1) := by decide +kernel
theorem dX8_heed_120 : decode cX8_heed 120 = .ok (.iload 6, 2) := by decide +kernel
theorem dX8_heed_122 : decode cX8_heed 122 = .ok (.iconst 1, 1) := by decide +kernel
theorem dX8_heed_123 : decode cX8_heed 123 = .ok (.isub, 1) := by decide +kernel
theorem dX8_heed_124 : decode cX8_heed 124 = .ok (.ishl, 1) := by decide +kernel
theorem dX8_heed_125 : decode cX8_heed 125 = .ok (.goto 4, 3) := by decide +kernel
theorem dX8_heed_128 : decode cX8_heed 128 = .ok (.iconst 0, 1) := by decide +kernel
theorem dX8_heed_129 : decode cX8_heed 129 = .ok (.ior, 1) := by decide +kernel
theorem dX8_heed_130 : decode cX8_heed 130 = .ok (.istore 5, 2) := by decide +kernel
theorem dX8_heed_132 : decode cX8_heed 132 = .ok (.iinc 6 1, 3) := by decide +kernel
theorem dX8_heed_135 : decode cX8_heed 135 = .ok (.goto (-69), 3) := by decide +kernel
theorem dX8_heed_138 : decode cX8_heed 138 = .ok (.aload_n 0, 1) := by decide +kernel
theorem dX8_heed_139 : decode cX8_heed 139 = .ok (.iload 5, 2) := by decide +kernel
theorem dX8_heed_141 : decode cX8_heed 141 = .ok (.invokevirtual 69, 3) := by decide +kernel
theorem dX8_heed_144 : decode cX8_heed 144 = .ok (.ireturn, 1) := by decide +kernel
theorem dX8_older_0 : decode cX8_older 0 = .ok (.aload_n 0, 1) := by decide +kernel
theorem dX8_older_1 : decode cX8_older 1 = .ok (.iload_n 1, 1) := by decide +kernel
theorem dX8_older_2 : decode cX8_older 2 = .ok (.invokevirtual 178, 3) := by decide +kernel
theorem dX8_older_5 : decode cX8_older 5 = .ok (.ifCond .eq 26, 3) := by decide +kernel
theorem dX8_older_8 : decode cX8_older 8 = .ok (.aload_n 0, 1) := by decide +kernel
theorem dX8_older_9 : decode cX8_older 9 = .ok (.iload_n 2, 1) := by decide +kernel
theorem dX8_older_10 : decode cX8_older 10 = .ok (.invokevirtual 178, 3) := by decide +kernel
theorem dX8_older_13 : decode cX8_older 13 = .ok (.ifCond .eq 18, 3) := by decide +kernel
theorem dX8_older_16 : decode cX8_older 16 = .ok (.iload_n 1, 1) := by decide +kernel
theorem dX8_older_17 : decode cX8_older 17 = .ok (.iload_n 2, 1) := by decide +kernel
theorem dX8_older_18 : decode cX8_older 18 = .ok (.if_icmp .eq 13, 3) := by decide +kernel
theorem dX8_older_21 : decode cX8_older 21 = .ok (.iload_n 3, 1) := by decide +kernel
theorem dX8_older_22 : decode cX8_older 22 = .ok (.iconst 0, 1) := by decide +kernel
theorem dX8_older_23 : decode cX8_older 23 = .ok (.bipush 99, 2) := by decide +kernel
theorem dX8_older_25 : decode cX8_older 25 = .ok (.invokestatic 56, 3) := by decide +kernel
theorem dX8_older_28 : decode cX8_older 28 = .ok (.ifCond .ne 6, 3) := by decide +kernel
theorem dX8_older_31 : decode cX8_older 31 = .ok (.ldc 64, 2) := by decide +kernel
theorem dX8_older_33 : decode cX8_older 33 = .ok (.ireturn, 1) := by decide +kernel
theorem dX8_older_34 : decode cX8_older 34 = .ok (.aload_n 0, 1) := by decide +kernel
theorem dX8_older_35 : decode cX8_older 35 = .ok (.getfield 25, 3) := by decide +kernel
theorem dX8_older_38 : decode cX8_older 38 = .ok (.iconst 0, 1) := by decide +kernel
theorem dX8_older_39 : decode cX8_older 39 = .ok (.aload_n 0, 1) := by decide +kernel
theorem dX8_older_40 : decode cX8_older 40 = .ok (.getfield 41, 3) := by decide +kernel
theorem dX8_older_43 : decode cX8_older 43 = .ok (.iconst 0, 1) := by decide +kernel
theorem dX8_older_44 : decode cX8_older 44 = .ok (.invokestatic 134, 3) := by decide +kernel
theorem dX8_older_47 : decode cX8_older 47 = .ok (.aload_n 0, 1) := by decide +kernel
theorem dX8_older_48 : decode cX8_older 48 = .ok (.iload_n 3, 1) := by decide +kernel
theorem dX8_older_49 : decode cX8_older 49 = .ok (.invokevirtual 188, 3) := by decide +kernel
theorem dX8_older_52 : decode cX8_older 52 = .ok (.pop, 1) := by decide +kernel
theorem dX8_older_53 : decode cX8_older 53 = .ok (.aload_n 0, 1) := by decide +kernel
theorem dX8_older_54 : decode cX8_older 54 = .ok (.getfield 41, 3) := by decide +kernel
theorem dX8_older_57 : decode cX8_older 57 = .ok (.bipush 6, 2) := by decide +kernel
theorem dX8_older_59 : decode cX8_older 59 = .ok (.bipush 7, 2) := by decide +kernel
theorem dX8_older_61 : decode cX8_older 61 = .ok (.iload_n 1, 1) := by decide +kernel
theorem dX8_older_62 : decode cX8_older 62 = .ok (.imul, 1) := by decide +kernel
theorem dX8_older_63 : decode cX8_older 63 = .ok (.iadd, 1) := by decide +kernel
theorem dX8_older_64 : decode cX8_older 64 = .ok (.bipush 6, 2) := by decide +kernel
theorem dX8_older_66 : decode cX8_older 66 = .ok (.iadd, 1) := by decide +kernel
theorem dX8_older_67 : decode cX8_older 67 = .ok (.iaload, 1) := by decide +kernel
theorem dX8_older_68 : decode cX8_older 68 = .ok (.aload_n 0, 1) := by decide +kernel
theorem dX8_older_69 : decode cX8_older 69 = .ok (.getfield 41, 3) := by decide +kernel
theorem dX8_older_72 : decode cX8_older 72 = .ok (.bipush 6, 2) := by decide +kernel
theorem dX8_older_74 : decode cX8_older 74 = .ok (.bipush 7, 2) := by decide +kernel
theorem dX8_older_76 : decode cX8_older 76 = .ok (.iload_n 2, 1) := by decide +kernel
theorem dX8_older_77 : decode cX8_older 77 = .ok (.imul, 1) := by decide +kernel
theorem dX8_older_78 : decode cX8_older 78 = .ok (.iadd, 1) := by decide +kernel
theorem dX8_older_79 : decode cX8_older 79 = .ok (.bipush 6, 2) := by decide +kernel
theorem dX8_older_81 : decode cX8_older 81 = .ok (.iadd, 1) := by decide +kernel
theorem dX8_older_82 : decode cX8_older 82 = .ok (.iaload, 1) := by decide +kernel
theorem dX8_older_83 : decode cX8_older 83 = .ok (.isub, 1) := by decide +kernel
theorem dX8_older_84 : decode cX8_older 84 = .ok (.ireturn, 1) := by decide +kernel
theorem dX8_odds_0 : decode cX8_odds 0 = .ok (.aload_n 0, 1) := by decide +kernel
theorem dX8_odds_1 : decode cX8_odds 1 = .ok (.invokevirtual 171, 3) := by decide +kernel
theorem dX8_odds_4 : decode cX8_odds 4 = .ok (.ifCond .ne 6, 3) := by decide +kernel
theorem dX8_odds_7 : decode cX8_odds 7 = .ok (.ldc 174, 2) := by decide +kernel
theorem dX8_odds_9 : decode cX8_odds 9 = .ok (.ireturn, 1) := by decide +kernel
theorem dX8_odds_10 : decode cX8_odds 10 = .ok (.iload_n 1, 1) := by decide +kernel
theorem dX8_odds_11 : decode cX8_odds 11 = .ok (.iconst 0, 1) := by decide +kernel
theorem dX8_odds_12 : decode cX8_odds 12 = .ok (.bipush 99, 2) := by decide +kernel
theorem dX8_odds_14 : decode cX8_odds 14 = .ok (.invokestatic 56, 3) := by decide +kernel
theorem dX8_odds_17 : decode cX8_odds 17 = .ok (.ifCond .eq 22, 3) := by decide +kernel
theorem dX8_odds_20 : decode cX8_odds 20 = .ok (.iload_n 2, 1) := by decide +kernel
theorem dX8_odds_21 : decode cX8_odds 21 = .ok (.iconst 0, 1) := by decide +kernel
theorem dX8_odds_22 : decode cX8_odds 22 = .ok (.bipush 10, 2) := by decide +kernel
theorem dX8_odds_24 : decode cX8_odds 24 = .ok (.invokestatic 56, 3) := by decide +kernel
theorem dX8_odds_27 : decode cX8_odds 27 = .ok (.ifCond .eq 12, 3) := by decide +kernel
theorem dX8_odds_30 : decode cX8_odds 30 = .ok (.iload_n 3, 1) := by decide +kernel
theorem dX8_odds_31 : decode cX8_odds 31 = .ok (.iconst 0, 1) := by decide +kernel
theorem dX8_odds_32 : decode cX8_odds 32 = .ok (.iconst 1, 1) := by decide +kernel
theorem dX8_odds_33 : decode cX8_odds 33 = .ok (.invokestatic 56, 3) := by decide +kernel
theorem dX8_odds_36 : decode cX8_odds 36 = .ok (.ifCond .ne 6, 3) := by decide +kernel
theorem dX8_odds_39 : decode cX8_odds 39 = .ok (.ldc 64, 2) := by decide +kernel
theorem dX8_odds_41 : decode cX8_odds 41 = .ok (.ireturn, 1) := by decide +kernel
theorem dX8_odds_42 : decode cX8_odds 42 = .ok (.aload_n 0, 1) := by decide +kernel
theorem dX8_odds_43 : decode cX8_odds 43 = .ok (.getfield 25, 3) := by decide +kernel
theorem dX8_odds_46 : decode cX8_odds 46 = .ok (.invokestatic 157, 3) := by decide +kernel
theorem dX8_odds_49 : decode cX8_odds 49 = .ok (.istore 4, 2) := by decide +kernel
theorem dX8_odds_51 : decode cX8_odds 51 = .ok (.iconst 0, 1) := by decide +kernel
theorem dX8_odds_52 : decode cX8_odds 52 = .ok (.istore 5, 2) := by decide +kernel
theorem dX8_odds_54 : decode cX8_odds 54 = .ok (.iconst 1, 1) := by decide +kernel
theorem dX8_odds_55 : decode cX8_odds 55 = .ok (.istore 6, 2) := by decide +kernel
theorem dX8_odds_57 : decode cX8_odds 57 = .ok (.iconst 0, 1) := by decide +kernel
theorem dX8_odds_58 : decode cX8_odds 58 = .ok (.istore 7, 2) := by decide +kernel
theorem dX8_odds_60 : decode cX8_odds 60 = .ok (.iload 7, 2) := by decide +kernel
theorem dX8_odds_62 : decode cX8_odds 62 = .ok (.aload_n 0, 1) := by decide +kernel
theorem dX8_odds_63 : decode cX8_odds 63 = .ok (.getfield 25, 3) := by decide +kernel
theorem dX8_odds_66 : decode cX8_odds 66 = .ok (.iconst 4, 1) := by decide +kernel
theorem dX8_odds_67 : decode cX8_odds 67 = .ok (.iaload, 1) := by decide +kernel
theorem dX8_odds_68 : decode cX8_odds 68 = .ok (.if_icmp .ge 30, 3) := by decide +kernel
theorem dX8_odds_71 : decode cX8_odds 71 = .ok (.iload 6, 2) := by decide +kernel
theorem dX8_odds_73 : decode cX8_odds 73 = .ok (.iload 4, 2) := by decide +kernel
theorem dX8_odds_75 : decode cX8_odds 75 = .ok (.iload 7, 2) := by decide +kernel
theorem dX8_odds_77 : decode cX8_odds 77 = .ok (.invokestatic 145, 3) := by decide +kernel
theorem dX8_odds_80 : decode cX8_odds 80 = .ok (.ifCond .eq 8, 3) := by decide +kernel
theorem dX8_odds_83 : decode cX8_odds 83 = .ok (.bipush 10, 2) := by decide +kernel
theorem dX8_odds_85 : decode cX8_odds 85 = .ok (.goto 4, 3) := by decide +kernel
theorem dX8_odds_88 : decode cX8_odds 88 = .ok (.iconst 1, 1) := by decide +kernel
theorem dX8_odds_89 : decode cX8_odds 89 = .ok (.imul, 1) := by decide +kernel
theorem dX8_odds_90 : decode cX8_odds 90 = .ok (.istore 6, 2) := by decide +kernel
theorem dX8_odds_92 : decode cX8_odds 92 = .ok (.iinc 7 1, 3) := by decide +kernel
theorem dX8_odds_95 : decode cX8_odds 95 = .ok (.goto (-35), 3) := by decide +kernel
theorem dX8_odds_98 : decode cX8_odds 98 = .ok (.iconst 0, 1) := by decide +kernel
theorem dX8_odds_99 : decode cX8_odds 99 = .ok (.istore 7, 2) := by decide +kernel
theorem dX8_odds_101 : decode cX8_odds 101 = .ok (.iload 7, 2) := by decide +kernel
theorem dX8_odds_103 : decode cX8_odds 103 = .ok (.iload 4, 2) := by decide +kernel
theorem dX8_odds_105 : decode cX8_odds 105 = .ok (.if_icmp .gt 110, 3) := by decide +kernel
theorem dX8_odds_108 : decode cX8_odds 108 = .ok (.iload 7, 2) := by decide +kernel
theorem dX8_odds_110 : decode cX8_odds 110 = .ok (.iload 4, 2) := by decide +kernel
theorem dX8_odds_112 : decode cX8_odds 112 = .ok (.iconst (-1), 1) := by decide +kernel
theorem dX8_odds_113 : decode cX8_odds 113 = .ok (.ixor, 1) := by decide +kernel
theorem dX8_odds_114 : decode cX8_odds 114 = .ok (.iand, 1) := by decide +kernel
theorem dX8_odds_115 : decode cX8_odds 115 = .ok (.ifCond .ne 7, 3) := by decide +kernel
theorem dX8_odds_118 : decode cX8_odds 118 = .ok (.iconst 1, 1) := by decide +kernel
theorem dX8_odds_119 : decode cX8_odds 119 = .ok (.goto 4, 3) := by decide +kernel
theorem dX8_odds_122 : decode cX8_odds 122 = .ok (.iconst 0, 1) := by decide +kernel
theorem dX8_odds_123 : decode cX8_odds 123 = .ok (.istore 8, 2) := by decide +kernel
theorem dX8_odds_125 : decode cX8_odds 125 = .ok (.iconst 0, 1) := by decide +kernel
theorem dX8_odds_126 : decode cX8_odds 126 = .ok (.istore 9, 2) := by decide +kernel
theorem dX8_odds_128 : decode cX8_odds 128 = .ok (.iload 9, 2) := by decide +kernel
theorem dX8_odds_130 : decode cX8_odds 130 = .ok (.aload_n 0, 1) := by decide +kernel
theorem dX8_odds_131 : decode cX8_odds 131 = .ok (.getfield 25, 3) := by decide +kernel
theorem dX8_odds_134 : decode cX8_odds 134 = .ok (.iconst 4, 1) := by decide +kernel
theorem dX8_odds_135 : decode cX8_odds 135 = .ok (.iaload, 1) := by decide +kernel
theorem dX8_odds_136 : decode cX8_odds 136 = .ok (.if_icmp .ge 46, 3) := by decide +kernel
theorem dX8_odds_139 : decode cX8_odds 139 = .ok (.iload 8, 2) := by decide +kernel
theorem dX8_odds_141 : decode cX8_odds 141 = .ok (.iload 4, 2) := by decide +kernel
theorem dX8_odds_143 : decode cX8_odds 143 = .ok (.iload 9, 2) := by decide +kernel
theorem dX8_odds_145 : decode cX8_odds 145 = .ok (.invokestatic 145, 3) := by decide +kernel
theorem dX8_odds_148 : decode cX8_odds 148 = .ok (.ifCond .ne 7, 3) := by decide +kernel
theorem dX8_odds_151 : decode cX8_odds 151 = .ok (.iconst 1, 1) := by decide +kernel
theorem dX8_odds_152 : decode cX8_odds 152 = .ok (.goto 21, 3) := by decide +kernel
theorem dX8_odds_155 : decode cX8_odds 155 = .ok (.iload 7, 2) := by decide +kernel
theorem dX8_odds_157 : decode cX8_odds 157 = .ok (.iload 9, 2) := by decide +kernel
theorem dX8_odds_159 : decode cX8_odds 159 = .ok (.invokestatic 145, 3) := by decide +kernel
theorem dX8_odds_162 : decode cX8_odds 162 = .ok (.ifCond .eq 10, 3) := by decide +kernel
theorem dX8_odds_165 : decode cX8_odds 165 = .ok (.bipush 10, 2) := by decide +kernel
theorem dX8_odds_167 : decode cX8_odds 167 = .ok (.iload_n 2, 1) := by decide +kernel
theorem dX8_odds_168 : decode cX8_odds 168 = .ok (.isub, 1) := by decide +kernel
theorem dX8_odds_169 : decode cX8_odds 169 = .ok (.goto 4, 3) := by decide +kernel
theorem dX8_odds_172 : decode cX8_odds 172 = .ok (.iload_n 2, 1) := by decide +kernel
theorem dX8_odds_173 : decode cX8_odds 173 = .ok (.imul, 1) := by decide +kernel
theorem dX8_odds_174 : decode cX8_odds 174 = .ok (.istore 8, 2) := by decide +kernel
theorem dX8_odds_176 : decode cX8_odds 176 = .ok (.iinc 9 1, 3) := by decide +kernel
theorem dX8_odds_179 : decode cX8_odds 179 = .ok (.goto (-51), 3) := by decide +kernel
theorem dX8_odds_182 : decode cX8_odds 182 = .ok (.iload 5, 2) := by decide +kernel
theorem dX8_odds_184 : decode cX8_odds 184 = .ok (.aload_n 0, 1) := by decide +kernel
theorem dX8_odds_185 : decode cX8_odds 185 = .ok (.getfield 25, 3) := by decide +kernel
theorem dX8_odds_188 : decode cX8_odds 188 = .ok (.iload 7, 2) := by decide +kernel
theorem dX8_odds_190 : decode cX8_odds 190 = .ok (.iload 4, 2) := by decide +kernel
theorem dX8_odds_192 : decode cX8_odds 192 = .ok (.iand, 1) := by decide +kernel
theorem dX8_odds_193 : decode cX8_odds 193 = .ok (.invokestatic 161, 3) := by decide +kernel
theorem dX8_odds_196 : decode cX8_odds 196 = .ok (.iload_n 1, 1) := by decide +kernel
theorem dX8_odds_197 : decode cX8_odds 197 = .ok (.if_icmp .lt 8, 3) := by decide +kernel
theorem dX8_odds_200 : decode cX8_odds 200 = .ok (.iload 8, 2) := by decide +kernel
theorem dX8_odds_202 : decode cX8_odds 202 = .ok (.goto 4, 3) := by decide +kernel
theorem dX8_odds_205 : decode cX8_odds 205 = .ok (.iconst 0, 1) := by decide +kernel
theorem dX8_odds_206 : decode cX8_odds 206 = .ok (.iadd, 1) := by decide +kernel
theorem dX8_odds_207 : decode cX8_odds 207 = .ok (.istore 5, 2) := by decide +kernel
theorem dX8_odds_209 : decode cX8_odds 209 = .ok (.iinc 7 1, 3) := by decide +kernel
theorem dX8_odds_212 : decode cX8_odds 212 = .ok (.goto (-111), 3) := by decide +kernel
theorem dX8_odds_215 : decode cX8_odds 215 = .ok (.iload 5, 2) := by decide +kernel
theorem dX8_odds_217 : decode cX8_odds 217 = .ok (.istore 7, 2) := by decide +kernel
theorem dX8_odds_219 : decode cX8_odds 219 = .ok (.iload 6, 2) := by decide +kernel
theorem dX8_odds_221 : decode cX8_odds 221 = .ok (.istore 8, 2) := by decide +kernel
theorem dX8_odds_223 : decode cX8_odds 223 = .ok (.iload 8, 2) := by decide +kernel
theorem dX8_odds_225 : decode cX8_odds 225 = .ok (.ifCond .eq 21, 3) := by decide +kernel
theorem dX8_odds_228 : decode cX8_odds 228 = .ok (.iload 7, 2) := by decide +kernel
theorem dX8_odds_230 : decode cX8_odds 230 = .ok (.iload 8, 2) := by decide +kernel
theorem dX8_odds_232 : decode cX8_odds 232 = .ok (.irem, 1) := by decide +kernel
theorem dX8_odds_233 : decode cX8_odds 233 = .ok (.istore 9, 2) := by decide +kernel
theorem dX8_odds_235 : decode cX8_odds 235 = .ok (.iload 8, 2) := by decide +kernel
theorem dX8_odds_237 : decode cX8_odds 237 = .ok (.istore 7, 2) := by decide +kernel
theorem dX8_odds_239 : decode cX8_odds 239 = .ok (.iload 9, 2) := by decide +kernel
theorem dX8_odds_241 : decode cX8_odds 241 = .ok (.istore 8, 2) := by decide +kernel
theorem dX8_odds_243 : decode cX8_odds 243 = .ok (.goto (-20), 3) := by decide +kernel
theorem dX8_odds_246 : decode cX8_odds 246 = .ok (.iload_n 3, 1) := by decide +kernel
theorem dX8_odds_247 : decode cX8_odds 247 = .ok (.ifCond .ne 8, 3) := by decide +kernel
theorem dX8_odds_250 : decode cX8_odds 250 = .ok (.iload 5, 2) := by decide +kernel
theorem dX8_odds_252 : decode cX8_odds 252 = .ok (.goto 5, 3) := by decide +kernel
theorem dX8_odds_255 : decode cX8_odds 255 = .ok (.iload 6, 2) := by decide +kernel
theorem dX8_odds_257 : decode cX8_odds 257 = .ok (.iload 7, 2) := by decide +kernel
theorem dX8_odds_259 : decode cX8_odds 259 = .ok (.idiv, 1) := by decide +kernel
theorem dX8_odds_260 : decode cX8_odds 260 = .ok (.ireturn, 1) := by decide +kernel
theorem dX8_image_0 : decode cX8_image 0 = .ok (.iload_n 1, 1) := by decide +kernel
theorem dX8_image_1 : decode cX8_image 1 = .ok (.iconst 0, 1) := by decide +kernel
theorem dX8_image_2 : decode cX8_image 2 = .ok (.iconst 1, 1) := by decide +kernel
theorem dX8_image_3 : decode cX8_image 3 = .ok (.invokestatic 56, 3) := by decide +kernel
theorem dX8_image_6 : decode cX8_image 6 = .ok (.ifCond .ne 6, 3) := by decide +kernel
theorem dX8_image_9 : decode cX8_image 9 = .ok (.ldc 64, 2) := by decide +kernel
theorem dX8_image_11 : decode cX8_image 11 = .ok (.ireturn, 1) := by decide +kernel
theorem dX8_image_12 : decode cX8_image 12 = .ok (.aload_n 0, 1) := by decide +kernel
theorem dX8_image_13 : decode cX8_image 13 = .ok (.invokevirtual 171, 3) := by decide +kernel
theorem dX8_image_16 : decode cX8_image 16 = .ok (.ifCond .ne 6, 3) := by decide +kernel
theorem dX8_image_19 : decode cX8_image 19 = .ok (.ldc 174, 2) := by decide +kernel
theorem dX8_image_21 : decode cX8_image 21 = .ok (.ireturn, 1) := by decide +kernel
theorem dX8_image_22 : decode cX8_image 22 = .ok (.aload_n 0, 1) := by decide +kernel
theorem dX8_image_23 : decode cX8_image 23 = .ok (.getfield 25, 3) := by decide +kernel
theorem dX8_image_26 : decode cX8_image 26 = .ok (.iconst 0, 1) := by decide +kernel
theorem dX8_image_27 : decode cX8_image 27 = .ok (.aload_n 0, 1) := by decide +kernel
theorem dX8_image_28 : decode cX8_image 28 = .ok (.getfield 34, 3) := by decide +kernel
theorem dX8_image_31 : decode cX8_image 31 = .ok (.bipush 68, 2) := by decide +kernel
theorem dX8_image_33 : decode cX8_image 33 = .ok (.iload_n 1, 1) := by decide +kernel
theorem dX8_image_34 : decode cX8_image 34 = .ok (.imul, 1) := by decide +kernel
theorem dX8_image_35 : decode cX8_image 35 = .ok (.invokestatic 134, 3) := by decide +kernel
theorem dX8_image_38 : decode cX8_image 38 = .ok (.aload_n 0, 1) := by decide +kernel
theorem dX8_image_39 : decode cX8_image 39 = .ok (.getfield 37, 3) := by decide +kernel
theorem dX8_image_42 : decode cX8_image 42 = .ok (.iload_n 1, 1) := by decide +kernel
theorem dX8_image_43 : decode cX8_image 43 = .ok (.iconst 1, 1) := by decide +kernel
theorem dX8_image_44 : decode cX8_image 44 = .ok (.bastore, 1) := by decide +kernel
theorem dX8_image_45 : decode cX8_image 45 = .ok (.iconst 1, 1) := by decide +kernel
theorem dX8_image_46 : decode cX8_image 46 = .ok (.ireturn, 1) := by decide +kernel
theorem dX8_restore_0 : decode cX8_restore 0 = .ok (.iload_n 1, 1) := by decide +kernel
theorem dX8_restore_1 : decode cX8_restore 1 = .ok (.iconst 0, 1) := by decide +kernel
theorem dX8_restore_2 : decode cX8_restore 2 = .ok (.iconst 1, 1) := by decide +kernel
theorem dX8_restore_3 : decode cX8_restore 3 = .ok (.invokestatic 56, 3) := by decide +kernel
theorem dX8_restore_6 : decode cX8_restore 6 = .ok (.ifCond .ne 6, 3) := by decide +kernel
theorem dX8_restore_9 : decode cX8_restore 9 = .ok (.ldc 64, 2) := by decide +kernel
theorem dX8_restore_11 : decode cX8_restore 11 = .ok (.ireturn, 1) := by decide +kernel
theorem dX8_restore_12 : decode cX8_restore 12 = .ok (.aload_n 0, 1) := by decide +kernel
theorem dX8_restore_13 : decode cX8_restore 13 = .ok (.getfield 37, 3) := by decide +kernel
theorem dX8_restore_16 : decode cX8_restore 16 = .ok (.iload_n 1, 1) := by decide +kernel
theorem dX8_restore_17 : decode cX8_restore 17 = .ok (.baload, 1) := by decide +kernel
theorem dX8_restore_18 : decode cX8_restore 18 = .ok (.ifCond .ne 6, 3) := by decide +kernel
theorem dX8_restore_21 : decode cX8_restore 21 = .ok (.ldc 174, 2) := by decide +kernel
theorem dX8_restore_23 : decode cX8_restore 23 = .ok (.ireturn, 1) := by decide +kernel
theorem dX8_restore_24 : decode cX8_restore 24 = .ok (.aload_n 0, 1) := by decide +kernel
theorem dX8_restore_25 : decode cX8_restore 25 = .ok (.getfield 34, 3) := by decide +kernel
theorem dX8_restore_28 : decode cX8_restore 28 = .ok (.bipush 68, 2) := by decide +kernel
theorem dX8_restore_30 : decode cX8_restore 30 = .ok (.iload_n 1, 1) := by decide +kernel
theorem dX8_restore_31 : decode cX8_restore 31 = .ok (.imul, 1) := by decide +kernel
theorem dX8_restore_32 : decode cX8_restore 32 = .ok (.aload_n 0, 1) := by decide +kernel
theorem dX8_restore_33 : decode cX8_restore 33 = .ok (.getfield 25, 3) := by decide +kernel
theorem dX8_restore_36 : decode cX8_restore 36 = .ok (.iconst 0, 1) := by decide +kernel
theorem dX8_restore_37 : decode cX8_restore 37 = .ok (.invokestatic 134, 3) := by decide +kernel
theorem dX8_restore_40 : decode cX8_restore 40 = .ok (.aload_n 0, 1) := by decide +kernel
theorem dX8_restore_41 : decode cX8_restore 41 = .ok (.iconst 0, 1) := by decide +kernel
theorem dX8_restore_42 : decode cX8_restore 42 = .ok (.putfield 138, 3) := by decide +kernel
theorem dX8_restore_45 : decode cX8_restore 45 = .ok (.iconst 1, 1) := by decide +kernel
theorem dX8_restore_46 : decode cX8_restore 46 = .ok (.ireturn, 1) := by decide +kernel
theorem dX8_kindIn_0 : decode cX8_kindIn 0 = .ok (.aload_n 0, 1) := by decide +kernel
theorem dX8_kindIn_1 : decode cX8_kindIn 1 = .ok (.getfield 25, 3) := by decide +kernel
theorem dX8_kindIn_4 : decode cX8_kindIn 4 = .ok (.bipush 6, 2) := by decide +kernel
theorem dX8_kindIn_6 : decode cX8_kindIn 6 = .ok (.bipush 7, 2) := by decide +kernel
theorem dX8_kindIn_8 : decode cX8_kindIn 8 = .ok (.iload_n 1, 1) := by decide +kernel
theorem dX8_kindIn_9 : decode cX8_kindIn 9 = .ok (.imul, 1) := by decide +kernel
theorem dX8_kindIn_10 : decode cX8_kindIn 10 = .ok (.iadd, 1) := by decide +kernel
theorem dX8_kindIn_11 : decode cX8_kindIn 11 = .ok (.iaload, 1) := by decide +kernel
theorem dX8_kindIn_12 : decode cX8_kindIn 12 = .ok (.ireturn, 1) := by decide +kernel
theorem dX8_kind_0 : decode cX8_kind 0 = .ok (.aload_n 0, 1) := by decide +kernel
theorem dX8_kind_1 : decode cX8_kind 1 = .ok (.iload_n 1, 1) := by decide +kernel
theorem dX8_kind_2 : decode cX8_kind 2 = .ok (.invokevirtual 178, 3) := by decide +kernel
theorem dX8_kind_5 : decode cX8_kind 5 = .ok (.ifCond .eq 11, 3) := by decide +kernel
theorem dX8_kind_8 : decode cX8_kind 8 = .ok (.aload_n 0, 1) := by decide +kernel
theorem dX8_kind_9 : decode cX8_kind 9 = .ok (.iload_n 1, 1) := by decide +kernel
theorem dX8_kind_10 : decode cX8_kind 10 = .ok (.invokevirtual 206, 3) := by decide +kernel
theorem dX8_kind_13 : decode cX8_kind 13 = .ok (.goto 5, 3) := by decide +kernel
theorem dX8_kind_16 : decode cX8_kind 16 = .ok (.ldc 64, 2) := by decide +kernel
theorem dX8_kind_18 : decode cX8_kind 18 = .ok (.ireturn, 1) := by decide +kernel
theorem dX8_as_0 : decode cX8_as 0 = .ok (.aload_n 0, 1) := by decide +kernel
theorem dX8_as_1 : decode cX8_as 1 = .ok (.iload_n 1, 1) := by decide +kernel
theorem dX8_as_2 : decode cX8_as 2 = .ok (.invokevirtual 178, 3) := by decide +kernel
theorem dX8_as_5 : decode cX8_as 5 = .ok (.ifCond .eq 12, 3) := by decide +kernel
theorem dX8_as_8 : decode cX8_as 8 = .ok (.iload_n 2, 1) := by decide +kernel
theorem dX8_as_9 : decode cX8_as 9 = .ok (.iconst 0, 1) := by decide +kernel
theorem dX8_as_10 : decode cX8_as 10 = .ok (.iconst 5, 1) := by decide +kernel
theorem dX8_as_11 : decode cX8_as 11 = .ok (.invokestatic 56, 3) := by decide +kernel
theorem dX8_as_14 : decode cX8_as 14 = .ok (.ifCond .ne 6, 3) := by decide +kernel
theorem dX8_as_17 : decode cX8_as 17 = .ok (.ldc 64, 2) := by decide +kernel
theorem dX8_as_19 : decode cX8_as 19 = .ok (.ireturn, 1) := by decide +kernel
theorem dX8_as_20 : decode cX8_as 20 = .ok (.aload_n 0, 1) := by decide +kernel
theorem dX8_as_21 : decode cX8_as 21 = .ok (.iload_n 1, 1) := by decide +kernel
theorem dX8_as_22 : decode cX8_as 22 = .ok (.invokevirtual 206, 3) := by decide +kernel
theorem dX8_as_25 : decode cX8_as 25 = .ok (.istore_n 3, 1) := by decide +kernel
theorem dX8_as_26 : decode cX8_as 26 = .ok (.iload_n 2, 1) := by decide +kernel
theorem dX8_as_27 : decode cX8_as 27 = .ok (.ifCond .eq 28, 3) := by decide +kernel
theorem dX8_as_30 : decode cX8_as 30 = .ok (.iload_n 2, 1) := by decide +kernel
theorem dX8_as_31 : decode cX8_as 31 = .ok (.iload_n 3, 1) := by decide +kernel
theorem dX8_as_32 : decode cX8_as 32 = .ok (.if_icmp .eq 23, 3) := by decide +kernel
theorem dX8_as_35 : decode cX8_as 35 = .ok (.iload_n 2, 1) := by decide +kernel
theorem dX8_as_36 : decode cX8_as 36 = .ok (.iconst 1, 1) := by decide +kernel
theorem dX8_as_37 : decode cX8_as 37 = .ok (.if_icmp .ne 8, 3) := by decide +kernel
theorem dX8_as_40 : decode cX8_as 40 = .ok (.iload_n 3, 1) := by decide +kernel
theorem dX8_as_41 : decode cX8_as 41 = .ok (.iconst 4, 1) := by decide +kernel
theorem dX8_as_42 : decode cX8_as 42 = .ok (.if_icmp .lt 13, 3) := by decide +kernel
theorem dX8_as_45 : decode cX8_as 45 = .ok (.iload_n 2, 1) := by decide +kernel
theorem dX8_as_46 : decode cX8_as 46 = .ok (.iconst 4, 1) := by decide +kernel
theorem dX8_as_47 : decode cX8_as 47 = .ok (.if_icmp .ne 12, 3) := by decide +kernel
theorem dX8_as_50 : decode cX8_as 50 = .ok (.iload_n 3, 1) := by decide +kernel
theorem dX8_as_51 : decode cX8_as 51 = .ok (.iconst 5, 1) := by decide +kernel
theorem dX8_as_52 : decode cX8_as 52 = .ok (.if_icmp .ne 7, 3) := by decide +kernel
theorem dX8_as_55 : decode cX8_as 55 = .ok (.iconst 1, 1) := by decide +kernel
theorem dX8_as_56 : decode cX8_as 56 = .ok (.goto 4, 3) := by decide +kernel
theorem dX8_as_59 : decode cX8_as 59 = .ok (.iconst 0, 1) := by decide +kernel
theorem dX8_as_60 : decode cX8_as 60 = .ok (.istore 4, 2) := by decide +kernel
theorem dX8_as_62 : decode cX8_as 62 = .ok (.iload 4, 2) := by decide +kernel
theorem dX8_as_64 : decode cX8_as 64 = .ok (.ifCond .eq 11, 3) := by decide +kernel
theorem dX8_as_67 : decode cX8_as 67 = .ok (.aload_n 0, 1) := by decide +kernel
theorem dX8_as_68 : decode cX8_as 68 = .ok (.iload_n 1, 1) := by decide +kernel
theorem dX8_as_69 : decode cX8_as 69 = .ok (.invokevirtual 69, 3) := by decide +kernel
theorem dX8_as_72 : decode cX8_as 72 = .ok (.goto 8, 3) := by decide +kernel
theorem dX8_as_75 : decode cX8_as 75 = .ok (.aload_n 0, 1) := by decide +kernel
theorem dX8_as_76 : decode cX8_as 76 = .ok (.iconst 3, 1) := by decide +kernel
theorem dX8_as_77 : decode cX8_as 77 = .ok (.invokevirtual 65, 3) := by decide +kernel
theorem dX8_as_80 : decode cX8_as 80 = .ok (.ireturn, 1) := by decide +kernel
theorem dX8_begins_0 : decode cX8_begins 0 = .ok (.aload_n 0, 1) := by decide +kernel
theorem dX8_begins_1 : decode cX8_begins 1 = .ok (.getfield 209, 3) := by decide +kernel
theorem dX8_begins_4 : decode cX8_begins 4 = .ok (.bipush 16, 2) := by decide +kernel
theorem dX8_begins_6 : decode cX8_begins 6 = .ok (.if_icmp .ge 23, 3) := by decide +kernel
theorem dX8_begins_9 : decode cX8_begins 9 = .ok (.aload_n 0, 1) := by decide +kernel
theorem dX8_begins_10 : decode cX8_begins 10 = .ok (.getfield 47, 3) := by decide +kernel
theorem dX8_begins_13 : decode cX8_begins 13 = .ok (.aload_n 0, 1) := by decide +kernel
theorem dX8_begins_14 : decode cX8_begins 14 = .ok (.getfield 209, 3) := by decide +kernel
theorem dX8_begins_17 : decode cX8_begins 17 = .ok (.iload_n 1, 1) := by decide +kernel
theorem dX8_begins_18 : decode cX8_begins 18 = .ok (.iastore, 1) := by decide +kernel
theorem dX8_begins_19 : decode cX8_begins 19 = .ok (.aload_n 0, 1) := by decide +kernel
theorem dX8_begins_20 : decode cX8_begins 20 = .ok (.dup, 1) := by decide +kernel
theorem dX8_begins_21 : decode cX8_begins 21 = .ok (.getfield 209, 3) := by decide +kernel
theorem dX8_begins_24 : decode cX8_begins 24 = .ok (.iconst 1, 1) := by decide +kernel
theorem dX8_begins_25 : decode cX8_begins 25 = .ok (.iadd, 1) := by decide +kernel
theorem dX8_begins_26 : decode cX8_begins 26 = .ok (.putfield 209, 3) := by decide +kernel
theorem dX8_begins_29 : decode cX8_begins 29 = .ok (.return_, 1) := by decide +kernel
theorem dX8_personMark_0 : decode cX8_personMark 0 = .ok (.aload_n 0, 1) := by decide +kernel
theorem dX8_personMark_1 : decode cX8_personMark 1 = .ok (.iload_n 1, 1) := by decide +kernel
theorem dX8_personMark_2 : decode cX8_personMark 2 = .ok (.invokevirtual 206, 3) := by decide +kernel
theorem dX8_personMark_5 : decode cX8_personMark 5 = .ok (.istore_n 2, 1) := by decide +kernel
theorem dX8_personMark_6 : decode cX8_personMark 6 = .ok (.iload_n 2, 1) := by decide +kernel
theorem dX8_personMark_7 : decode cX8_personMark 7 = .ok (.iconst 1, 1) := by decide +kernel
theorem dX8_personMark_8 : decode cX8_personMark 8 = .ok (.if_icmp .eq 19, 3) := by decide +kernel
theorem dX8_personMark_11 : decode cX8_personMark 11 = .ok (.aload_n 0, 1) := by decide +kernel
theorem dX8_personMark_12 : decode cX8_personMark 12 = .ok (.iload_n 2, 1) := by decide +kernel
theorem dX8_personMark_13 : decode cX8_personMark 13 = .ok (.iconst 2, 1) := by decide +kernel
theorem dX8_personMark_14 : decode cX8_personMark 14 = .ok (.if_icmp .ne 8, 3) := by decide +kernel
theorem dX8_personMark_17 : decode cX8_personMark 17 = .ok (.bipush 24, 2) := by decide +kernel
theorem dX8_personMark_19 : decode cX8_personMark 19 = .ok (.goto 5, 3) := by decide +kernel
theorem dX8_personMark_22 : decode cX8_personMark 22 = .ok (.bipush 22, 2) := by decide +kernel
theorem dX8_personMark_24 : decode cX8_personMark 24 = .ok (.invokevirtual 212, 3) := by decide +kernel
theorem dX8_personMark_27 : decode cX8_personMark 27 = .ok (.aload_n 0, 1) := by decide +kernel
theorem dX8_personMark_28 : decode cX8_personMark 28 = .ok (.bipush 21, 2) := by decide +kernel
theorem dX8_personMark_30 : decode cX8_personMark 30 = .ok (.invokevirtual 212, 3) := by decide +kernel
theorem dX8_personMark_33 : decode cX8_personMark 33 = .ok (.aload_n 0, 1) := by decide +kernel
theorem dX8_personMark_34 : decode cX8_personMark 34 = .ok (.bipush 20, 2) := by decide +kernel
theorem dX8_personMark_36 : decode cX8_personMark 36 = .ok (.invokevirtual 212, 3) := by decide +kernel
theorem dX8_personMark_39 : decode cX8_personMark 39 = .ok (.iload_n 1, 1) := by decide +kernel
theorem dX8_personMark_40 : decode cX8_personMark 40 = .ok (.aload_n 0, 1) := by decide +kernel
theorem dX8_personMark_41 : decode cX8_personMark 41 = .ok (.getfield 25, 3) := by decide +kernel
theorem dX8_personMark_44 : decode cX8_personMark 44 = .ok (.bipush 6, 2) := by decide +kernel
theorem dX8_personMark_46 : decode cX8_personMark 46 = .ok (.bipush 7, 2) := by decide +kernel
theorem dX8_personMark_48 : decode cX8_personMark 48 = .ok (.iload_n 1, 1) := by decide +kernel
theorem dX8_personMark_49 : decode cX8_personMark 49 = .ok (.imul, 1) := by decide +kernel
theorem dX8_personMark_50 : decode cX8_personMark 50 = .ok (.iadd, 1) := by decide +kernel
theorem dX8_personMark_51 : decode cX8_personMark 51 = .ok (.bipush 6, 2) := by decide +kernel
theorem dX8_personMark_53 : decode cX8_personMark 53 = .ok (.iadd, 1) := by decide +kernel
theorem dX8_personMark_54 : decode cX8_personMark 54 = .ok (.iaload, 1) := by decide +kernel
theorem dX8_personMark_55 : decode cX8_personMark 55 = .ok (.iadd, 1) := by decide +kernel
theorem dX8_personMark_56 : decode cX8_personMark 56 = .ok (.istore_n 3, 1) := by decide +kernel
theorem dX8_personMark_57 : decode cX8_personMark 57 = .ok (.iload_n 2, 1) := by decide +kernel
theorem dX8_personMark_58 : decode cX8_personMark 58 = .ok (.iconst 2, 1) := by decide +kernel
theorem dX8_personMark_59 : decode cX8_personMark 59 = .ok (.if_icmp .ne 9, 3) := by decide +kernel
theorem dX8_personMark_62 : decode cX8_personMark 62 = .ok (.iconst 2, 1) := by decide +kernel
theorem dX8_personMark_63 : decode cX8_personMark 63 = .ok (.iload_n 3, 1) := by decide +kernel
theorem dX8_personMark_64 : decode cX8_personMark 64 = .ok (.imul, 1) := by decide +kernel
theorem dX8_personMark_65 : decode cX8_personMark 65 = .ok (.goto 17, 3) := by decide +kernel
theorem dX8_personMark_68 : decode cX8_personMark 68 = .ok (.iload_n 2, 1) := by decide +kernel
theorem dX8_personMark_69 : decode cX8_personMark 69 = .ok (.iconst 3, 1) := by decide +kernel
theorem dX8_personMark_70 : decode cX8_personMark 70 = .ok (.if_icmp .ne 11, 3) := by decide +kernel
theorem dX8_personMark_73 : decode cX8_personMark 73 = .ok (.iload_n 3, 1) := by decide +kernel
theorem dX8_personMark_74 : decode cX8_personMark 74 = .ok (.sipush 1000, 3) := by decide +kernel
theorem dX8_personMark_77 : decode cX8_personMark 77 = .ok (.isub, 1) := by decide +kernel
theorem dX8_personMark_78 : decode cX8_personMark 78 = .ok (.goto 4, 3) := by decide +kernel
theorem dX8_personMark_81 : decode cX8_personMark 81 = .ok (.iload_n 3, 1) := by decide +kernel
theorem dX8_personMark_82 : decode cX8_personMark 82 = .ok (.ireturn, 1) := by decide +kernel
theorem dX8_catSize_0 : decode cX8_catSize 0 = .ok (.aload_n 0, 1) := by decide +kernel
theorem dX8_catSize_1 : decode cX8_catSize 1 = .ok (.iload_n 1, 1) := by decide +kernel
theorem dX8_catSize_2 : decode cX8_catSize 2 = .ok (.invokevirtual 206, 3) := by decide +kernel
theorem dX8_catSize_5 : decode cX8_catSize 5 = .ok (.iconst 5, 1) := by decide +kernel
theorem dX8_catSize_6 : decode cX8_catSize 6 = .ok (.if_icmp .ne 7, 3) := by decide +kernel
theorem dX8_catSize_9 : decode cX8_catSize 9 = .ok (.iconst 1, 1) := by decide +kernel
theorem dX8_catSize_10 : decode cX8_catSize 10 = .ok (.goto 4, 3) := by decide +kernel
theorem dX8_catSize_13 : decode cX8_catSize 13 = .ok (.iconst 0, 1) := by decide +kernel
theorem dX8_catSize_14 : decode cX8_catSize 14 = .ok (.istore_n 2, 1) := by decide +kernel
theorem dX8_catSize_15 : decode cX8_catSize 15 = .ok (.iload_n 2, 1) := by decide +kernel
theorem dX8_catSize_16 : decode cX8_catSize 16 = .ok (.ifCond .eq 9, 3) := by decide +kernel
theorem dX8_catSize_19 : decode cX8_catSize 19 = .ok (.aload_n 0, 1) := by decide +kernel
theorem dX8_catSize_20 : decode cX8_catSize 20 = .ok (.bipush 14, 2) := by decide +kernel
theorem dX8_catSize_22 : decode cX8_catSize 22 = .ok (.invokevirtual 212, 3) := by decide +kernel
theorem dX8_catSize_25 : decode cX8_catSize 25 = .ok (.aload_n 0, 1) := by decide +kernel
theorem dX8_catSize_26 : decode cX8_catSize 26 = .ok (.bipush 13, 2) := by decide +kernel
theorem dX8_catSize_28 : decode cX8_catSize 28 = .ok (.invokevirtual 212, 3) := by decide +kernel
theorem dX8_catSize_31 : decode cX8_catSize 31 = .ok (.aload_n 0, 1) := by decide +kernel
theorem dX8_catSize_32 : decode cX8_catSize 32 = .ok (.bipush 10, 2) := by decide +kernel
theorem dX8_catSize_34 : decode cX8_catSize 34 = .ok (.invokevirtual 212, 3) := by decide +kernel
theorem dX8_catSize_37 : decode cX8_catSize 37 = .ok (.aload_n 0, 1) := by decide +kernel
theorem dX8_catSize_38 : decode cX8_catSize 38 = .ok (.getfield 25, 3) := by decide +kernel
theorem dX8_catSize_41 : decode cX8_catSize 41 = .ok (.bipush 6, 2) := by decide +kernel
theorem dX8_catSize_43 : decode cX8_catSize 43 = .ok (.bipush 7, 2) := by decide +kernel
theorem dX8_catSize_45 : decode cX8_catSize 45 = .ok (.iload_n 1, 1) := by decide +kernel
theorem dX8_catSize_46 : decode cX8_catSize 46 = .ok (.imul, 1) := by decide +kernel
theorem dX8_catSize_47 : decode cX8_catSize 47 = .ok (.iadd, 1) := by decide +kernel
theorem dX8_catSize_48 : decode cX8_catSize 48 = .ok (.iconst 1, 1) := by decide +kernel
theorem dX8_catSize_49 : decode cX8_catSize 49 = .ok (.iadd, 1) := by decide +kernel
theorem dX8_catSize_50 : decode cX8_catSize 50 = .ok (.iaload, 1) := by decide +kernel
theorem dX8_catSize_51 : decode cX8_catSize 51 = .ok (.bipush 100, 2) := by decide +kernel
theorem dX8_catSize_53 : decode cX8_catSize 53 = .ok (.isub, 1) := by decide +kernel
theorem dX8_catSize_54 : decode cX8_catSize 54 = .ok (.istore_n 3, 1) := by decide +kernel
theorem dX8_catSize_55 : decode cX8_catSize 55 = .ok (.iload_n 2, 1) := by decide +kernel
theorem dX8_catSize_56 : decode cX8_catSize 56 = .ok (.ifCond .eq 9, 3) := by decide +kernel
theorem dX8_catSize_59 : decode cX8_catSize 59 = .ok (.iconst 2, 1) := by decide +kernel
theorem dX8_catSize_60 : decode cX8_catSize 60 = .ok (.iload_n 3, 1) := by decide +kernel
theorem dX8_catSize_61 : decode cX8_catSize 61 = .ok (.imul, 1) := by decide +kernel
theorem dX8_catSize_62 : decode cX8_catSize 62 = .ok (.goto 4, 3) := by decide +kernel
theorem dX8_catSize_65 : decode cX8_catSize 65 = .ok (.iload_n 3, 1) := by decide +kernel
theorem dX8_catSize_66 : decode cX8_catSize 66 = .ok (.ireturn, 1) := by decide +kernel
theorem dX8_personSize_0 : decode cX8_personSize 0 = .ok (.aload_n 0, 1) := by decide +kernel
theorem dX8_personSize_1 : decode cX8_personSize 1 = .ok (.iload_n 1, 1) := by decide +kernel
theorem dX8_personSize_2 : decode cX8_personSize 2 = .ok (.invokevirtual 206, 3) := by decide +kernel
theorem dX8_personSize_5 : decode cX8_personSize 5 = .ok (.iconst 2, 1) := by decide +kernel
theorem dX8_personSize_6 : decode cX8_personSize 6 = .ok (.if_icmp .ne 7, 3) := by decide +kernel
theorem dX8_personSize_9 : decode cX8_personSize 9 = .ok (.iconst 1, 1) := by decide +kernel
theorem dX8_personSize_10 : decode cX8_personSize 10 = .ok (.goto 4, 3) := by decide +kernel
theorem dX8_personSize_13 : decode cX8_personSize 13 = .ok (.iconst 0, 1) := by decide +kernel
theorem dX8_personSize_14 : decode cX8_personSize 14 = .ok (.istore_n 2, 1) := by decide +kernel
theorem dX8_personSize_15 : decode cX8_personSize 15 = .ok (.iload_n 2, 1) := by decide +kernel
theorem dX8_personSize_16 : decode cX8_personSize 16 = .ok (.ifCond .eq 9, 3) := by decide +kernel
theorem dX8_personSize_19 : decode cX8_personSize 19 = .ok (.aload_n 0, 1) := by decide +kernel
theorem dX8_personSize_20 : decode cX8_personSize 20 = .ok (.bipush 12, 2) := by decide +kernel
theorem dX8_personSize_22 : decode cX8_personSize 22 = .ok (.invokevirtual 212, 3) := by decide +kernel
theorem dX8_personSize_25 : decode cX8_personSize 25 = .ok (.aload_n 0, 1) := by decide +kernel
theorem dX8_personSize_26 : decode cX8_personSize 26 = .ok (.bipush 11, 2) := by decide +kernel
theorem dX8_personSize_28 : decode cX8_personSize 28 = .ok (.invokevirtual 212, 3) := by decide +kernel
theorem dX8_personSize_31 : decode cX8_personSize 31 = .ok (.aload_n 0, 1) := by decide +kernel
theorem dX8_personSize_32 : decode cX8_personSize 32 = .ok (.bipush 10, 2) := by decide +kernel
theorem dX8_personSize_34 : decode cX8_personSize 34 = .ok (.invokevirtual 212, 3) := by decide +kernel
theorem dX8_personSize_37 : decode cX8_personSize 37 = .ok (.aload_n 0, 1) := by decide +kernel
theorem dX8_personSize_38 : decode cX8_personSize 38 = .ok (.getfield 25, 3) := by decide +kernel
theorem dX8_personSize_41 : decode cX8_personSize 41 = .ok (.bipush 6, 2) := by decide +kernel
theorem dX8_personSize_43 : decode cX8_personSize 43 = .ok (.bipush 7, 2) := by decide +kernel
theorem dX8_personSize_45 : decode cX8_personSize 45 = .ok (.iload_n 1, 1) := by decide +kernel
theorem dX8_personSize_46 : decode cX8_personSize 46 = .ok (.imul, 1) := by decide +kernel
theorem dX8_personSize_47 : decode cX8_personSize 47 = .ok (.iadd, 1) := by decide +kernel
theorem dX8_personSize_48 : decode cX8_personSize 48 = .ok (.iconst 1, 1) := by decide +kernel
theorem dX8_personSize_49 : decode cX8_personSize 49 = .ok (.iadd, 1) := by decide +kernel
theorem dX8_personSize_50 : decode cX8_personSize 50 = .ok (.iaload, 1) := by decide +kernel
theorem dX8_personSize_51 : decode cX8_personSize 51 = .ok (.aload_n 0, 1) := by decide +kernel
theorem dX8_personSize_52 : decode cX8_personSize 52 = .ok (.iload_n 1, 1) := by decide +kernel
theorem dX8_personSize_53 : decode cX8_personSize 53 = .ok (.invokevirtual 216, 3) := by decide +kernel
theorem dX8_personSize_56 : decode cX8_personSize 56 = .ok (.iadd, 1) := by decide +kernel
theorem dX8_personSize_57 : decode cX8_personSize 57 = .ok (.istore_n 3, 1) := by decide +kernel
theorem dX8_personSize_58 : decode cX8_personSize 58 = .ok (.iload_n 2, 1) := by decide +kernel
theorem dX8_personSize_59 : decode cX8_personSize 59 = .ok (.ifCond .eq 8, 3) := by decide +kernel
theorem dX8_personSize_62 : decode cX8_personSize 62 = .ok (.iload_n 3, 1) := by decide +kernel
theorem dX8_personSize_63 : decode cX8_personSize 63 = .ok (.ineg, 1) := by decide +kernel
theorem dX8_personSize_64 : decode cX8_personSize 64 = .ok (.goto 4, 3) := by decide +kernel
theorem dX8_personSize_67 : decode cX8_personSize 67 = .ok (.iload_n 3, 1) := by decide +kernel
theorem dX8_personSize_68 : decode cX8_personSize 68 = .ok (.ireturn, 1) := by decide +kernel
theorem dX8_catMark_0 : decode cX8_catMark 0 = .ok (.aload_n 0, 1) := by decide +kernel
theorem dX8_catMark_1 : decode cX8_catMark 1 = .ok (.bipush 23, 2) := by decide +kernel
theorem dX8_catMark_3 : decode cX8_catMark 3 = .ok (.invokevirtual 212, 3) := by decide +kernel
theorem dX8_catMark_6 : decode cX8_catMark 6 = .ok (.aload_n 0, 1) := by decide +kernel
theorem dX8_catMark_7 : decode cX8_catMark 7 = .ok (.bipush 20, 2) := by decide +kernel
theorem dX8_catMark_9 : decode cX8_catMark 9 = .ok (.invokevirtual 212, 3) := by decide +kernel
theorem dX8_catMark_12 : decode cX8_catMark 12 = .ok (.iload_n 1, 1) := by decide +kernel
theorem dX8_catMark_13 : decode cX8_catMark 13 = .ok (.aload_n 0, 1) := by decide +kernel
theorem dX8_catMark_14 : decode cX8_catMark 14 = .ok (.iload_n 1, 1) := by decide +kernel
theorem dX8_catMark_15 : decode cX8_catMark 15 = .ok (.invokevirtual 219, 3) := by decide +kernel
theorem dX8_catMark_18 : decode cX8_catMark 18 = .ok (.isub, 1) := by decide +kernel
theorem dX8_catMark_19 : decode cX8_catMark 19 = .ok (.ireturn, 1) := by decide +kernel
theorem dX8_ask_0 : decode cX8_ask 0 = .ok (.aload_n 0, 1) := by decide +kernel
theorem dX8_ask_1 : decode cX8_ask 1 = .ok (.iload_n 1, 1) := by decide +kernel
theorem dX8_ask_2 : decode cX8_ask 2 = .ok (.invokevirtual 178, 3) := by decide +kernel
theorem dX8_ask_5 : decode cX8_ask 5 = .ok (.ifCond .eq 12, 3) := by decide +kernel
theorem dX8_ask_8 : decode cX8_ask 8 = .ok (.iload_n 2, 1) := by decide +kernel
theorem dX8_ask_9 : decode cX8_ask 9 = .ok (.iconst 0, 1) := by decide +kernel
theorem dX8_ask_10 : decode cX8_ask 10 = .ok (.iconst 1, 1) := by decide +kernel
theorem dX8_ask_11 : decode cX8_ask 11 = .ok (.invokestatic 56, 3) := by decide +kernel
theorem dX8_ask_14 : decode cX8_ask 14 = .ok (.ifCond .ne 6, 3) := by decide +kernel
theorem dX8_ask_17 : decode cX8_ask 17 = .ok (.ldc 64, 2) := by decide +kernel
theorem dX8_ask_19 : decode cX8_ask 19 = .ok (.ireturn, 1) := by decide +kernel
theorem dX8_ask_20 : decode cX8_ask 20 = .ok (.aload_n 0, 1) := by decide +kernel
theorem dX8_ask_21 : decode cX8_ask 21 = .ok (.iconst 0, 1) := by decide +kernel
theorem dX8_ask_22 : decode cX8_ask 22 = .ok (.putfield 209, 3) := by decide +kernel
theorem dX8_ask_25 : decode cX8_ask 25 = .ok (.aload_n 0, 1) := by decide +kernel
theorem dX8_ask_26 : decode cX8_ask 26 = .ok (.iload_n 1, 1) := by decide +kernel
theorem dX8_ask_27 : decode cX8_ask 27 = .ok (.invokevirtual 206, 3) := by decide +kernel
theorem dX8_ask_30 : decode cX8_ask 30 = .ok (.iconst 4, 1) := by decide +kernel
theorem dX8_ask_31 : decode cX8_ask 31 = .ok (.if_icmp .lt 7, 3) := by decide +kernel
theorem dX8_ask_34 : decode cX8_ask 34 = .ok (.iconst 1, 1) := by decide +kernel
theorem dX8_ask_35 : decode cX8_ask 35 = .ok (.goto 4, 3) := by decide +kernel
theorem dX8_ask_38 : decode cX8_ask 38 = .ok (.iconst 0, 1) := by decide +kernel
theorem dX8_ask_39 : decode cX8_ask 39 = .ok (.istore_n 3, 1) := by decide +kernel
theorem dX8_ask_40 : decode cX8_ask 40 = .ok (.iload_n 2, 1) := by decide +kernel
theorem dX8_ask_41 : decode cX8_ask 41 = .ok (.ifCond .ne 21, 3) := by decide +kernel
theorem dX8_ask_44 : decode cX8_ask 44 = .ok (.iload_n 3, 1) := by decide +kernel
theorem dX8_ask_45 : decode cX8_ask 45 = .ok (.ifCond .eq 11, 3) := by decide +kernel
theorem dX8_ask_48 : decode cX8_ask 48 = .ok (.aload_n 0, 1) := by decide +kernel
theorem dX8_ask_49 : decode cX8_ask 49 = .ok (.iload_n 1, 1) := by decide +kernel
theorem dX8_ask_50 : decode cX8_ask 50 = .ok (.invokevirtual 219, 3) := by decide +kernel
theorem dX8_ask_53 : decode cX8_ask 53 = .ok (.goto 8, 3) := by decide +kernel
theorem dX8_ask_56 : decode cX8_ask 56 = .ok (.aload_n 0, 1) := by decide +kernel
theorem dX8_ask_57 : decode cX8_ask 57 = .ok (.iload_n 1, 1) := by decide +kernel
theorem dX8_ask_58 : decode cX8_ask 58 = .ok (.invokevirtual 222, 3) := by decide +kernel
theorem dX8_ask_61 : decode cX8_ask 61 = .ok (.ireturn, 1) := by decide +kernel
theorem dX8_ask_62 : decode cX8_ask 62 = .ok (.iload_n 3, 1) := by decide +kernel
theorem dX8_ask_63 : decode cX8_ask 63 = .ok (.ifCond .eq 11, 3) := by decide +kernel
theorem dX8_ask_66 : decode cX8_ask 66 = .ok (.aload_n 0, 1) := by decide +kernel
theorem dX8_ask_67 : decode cX8_ask 67 = .ok (.iload_n 1, 1) := by decide +kernel
theorem dX8_ask_68 : decode cX8_ask 68 = .ok (.invokevirtual 225, 3) := by decide +kernel
theorem dX8_ask_71 : decode cX8_ask 71 = .ok (.goto 8, 3) := by decide +kernel
theorem dX8_ask_74 : decode cX8_ask 74 = .ok (.aload_n 0, 1) := by decide +kernel
theorem dX8_ask_75 : decode cX8_ask 75 = .ok (.iload_n 1, 1) := by decide +kernel
theorem dX8_ask_76 : decode cX8_ask 76 = .ok (.invokevirtual 216, 3) := by decide +kernel
theorem dX8_ask_79 : decode cX8_ask 79 = .ok (.ireturn, 1) := by decide +kernel
theorem dX8_trace_0 : decode cX8_trace 0 = .ok (.iload_n 1, 1) := by decide +kernel
theorem dX8_trace_1 : decode cX8_trace 1 = .ok (.iconst 0, 1) := by decide +kernel
theorem dX8_trace_2 : decode cX8_trace 2 = .ok (.aload_n 0, 1) := by decide +kernel
theorem dX8_trace_3 : decode cX8_trace 3 = .ok (.getfield 209, 3) := by decide +kernel
theorem dX8_trace_6 : decode cX8_trace 6 = .ok (.iconst 1, 1) := by decide +kernel
theorem dX8_trace_7 : decode cX8_trace 7 = .ok (.isub, 1) := by decide +kernel
theorem dX8_trace_8 : decode cX8_trace 8 = .ok (.invokestatic 56, 3) := by decide +kernel
theorem dX8_trace_11 : decode cX8_trace 11 = .ok (.ifCond .eq 12, 3) := by decide +kernel
theorem dX8_trace_14 : decode cX8_trace 14 = .ok (.aload_n 0, 1) := by decide +kernel
theorem dX8_trace_15 : decode cX8_trace 15 = .ok (.getfield 47, 3) := by decide +kernel
theorem dX8_trace_18 : decode cX8_trace 18 = .ok (.iload_n 1, 1) := by decide +kernel
theorem dX8_trace_19 : decode cX8_trace 19 = .ok (.iaload, 1) := by decide +kernel
theorem dX8_trace_20 : decode cX8_trace 20 = .ok (.goto 5, 3) := by decide +kernel
theorem dX8_trace_23 : decode cX8_trace 23 = .ok (.ldc 50, 2) := by decide +kernel
theorem dX8_trace_25 : decode cX8_trace 25 = .ok (.ireturn, 1) := by decide +kernel
theorem dX8_count_0 : decode cX8_count 0 = .ok (.iconst 0, 1) := by decide +kernel
theorem dX8_count_1 : decode cX8_count 1 = .ok (.istore_n 2, 1) := by decide +kernel
theorem dX8_count_2 : decode cX8_count 2 = .ok (.iload_n 1, 1) := by decide +kernel
theorem dX8_count_3 : decode cX8_count 3 = .ok (.tableswitch 158 0 7 #[45, 77, 84, 91, 98, 103, 148, 153], 45) := by decide +kernel
theorem dX8_count_48 : decode cX8_count 48 = .ok (.iconst 0, 1) := by decide +kernel
theorem dX8_count_49 : decode cX8_count 49 = .ok (.istore_n 3, 1) := by decide +kernel
theorem dX8_count_50 : decode cX8_count 50 = .ok (.iload_n 3, 1) := by decide +kernel
theorem dX8_count_51 : decode cX8_count 51 = .ok (.bipush 8, 2) := by decide +kernel
theorem dX8_count_53 : decode cX8_count 53 = .ok (.if_icmp .ge 25, 3) := by decide +kernel
theorem dX8_count_56 : decode cX8_count 56 = .ok (.iload_n 2, 1) := by decide +kernel
theorem dX8_count_57 : decode cX8_count 57 = .ok (.aload_n 0, 1) := by decide +kernel
theorem dX8_count_58 : decode cX8_count 58 = .ok (.iload_n 3, 1) := by decide +kernel
theorem dX8_count_59 : decode cX8_count 59 = .ok (.invokevirtual 72, 3) := by decide +kernel
theorem dX8_count_62 : decode cX8_count 62 = .ok (.ifCond .eq 7, 3) := by decide +kernel
theorem dX8_count_65 : decode cX8_count 65 = .ok (.iconst 0, 1) := by decide +kernel
theorem dX8_count_66 : decode cX8_count 66 = .ok (.goto 4, 3) := by decide +kernel
theorem dX8_count_69 : decode cX8_count 69 = .ok (.iconst 1, 1) := by decide +kernel
theorem dX8_count_70 : decode cX8_count 70 = .ok (.iadd, 1) := by decide +kernel
theorem dX8_count_71 : decode cX8_count 71 = .ok (.istore_n 2, 1) := by decide +kernel
theorem dX8_count_72 : decode cX8_count 72 = .ok (.iinc 3 1, 3) := by decide +kernel
theorem dX8_count_75 : decode cX8_count 75 = .ok (.goto (-25), 3) := by decide +kernel
theorem dX8_count_78 : decode cX8_count 78 = .ok (.iload_n 2, 1) := by decide +kernel
theorem dX8_count_79 : decode cX8_count 79 = .ok (.ireturn, 1) := by decide +kernel
theorem dX8_count_80 : decode cX8_count 80 = .ok (.aload_n 0, 1) := by decide +kernel
theorem dX8_count_81 : decode cX8_count 81 = .ok (.getfield 25, 3) := by decide +kernel
theorem dX8_count_84 : decode cX8_count 84 = .ok (.iconst 4, 1) := by decide +kernel
theorem dX8_count_85 : decode cX8_count 85 = .ok (.iaload, 1) := by decide +kernel
theorem dX8_count_86 : decode cX8_count 86 = .ok (.ireturn, 1) := by decide +kernel
theorem dX8_count_87 : decode cX8_count 87 = .ok (.aload_n 0, 1) := by decide +kernel
theorem dX8_count_88 : decode cX8_count 88 = .ok (.getfield 25, 3) := by decide +kernel
theorem dX8_count_91 : decode cX8_count 91 = .ok (.iconst 5, 1) := by decide +kernel
theorem dX8_count_92 : decode cX8_count 92 = .ok (.iaload, 1) := by decide +kernel
theorem dX8_count_93 : decode cX8_count 93 = .ok (.ireturn, 1) := by decide +kernel
theorem dX8_count_94 : decode cX8_count 94 = .ok (.aload_n 0, 1) := by decide +kernel
theorem dX8_count_95 : decode cX8_count 95 = .ok (.getfield 25, 3) := by decide +kernel
theorem dX8_count_98 : decode cX8_count 98 = .ok (.iconst 2, 1) := by decide +kernel
theorem dX8_count_99 : decode cX8_count 99 = .ok (.iaload, 1) := by decide +kernel
theorem dX8_count_100 : decode cX8_count 100 = .ok (.ireturn, 1) := by decide +kernel
theorem dX8_count_101 : decode cX8_count 101 = .ok (.aload_n 0, 1) := by decide +kernel
theorem dX8_count_102 : decode cX8_count 102 = .ok (.invokevirtual 181, 3) := by decide +kernel
theorem dX8_count_105 : decode cX8_count 105 = .ok (.ireturn, 1) := by decide +kernel
theorem dX8_count_106 : decode cX8_count 106 = .ok (.iconst 0, 1) := by decide +kernel
theorem dX8_count_107 : decode cX8_count 107 = .ok (.istore_n 3, 1) := by decide +kernel
theorem dX8_count_108 : decode cX8_count 108 = .ok (.iload_n 3, 1) := by decide +kernel
theorem dX8_count_109 : decode cX8_count 109 = .ok (.aload_n 0, 1) := by decide +kernel
theorem dX8_count_110 : decode cX8_count 110 = .ok (.getfield 25, 3) := by decide +kernel
theorem dX8_count_113 : decode cX8_count 113 = .ok (.iconst 4, 1) := by decide +kernel
theorem dX8_count_114 : decode cX8_count 114 = .ok (.iaload, 1) := by decide +kernel
theorem dX8_count_115 : decode cX8_count 115 = .ok (.if_icmp .ge 34, 3) := by decide +kernel
theorem dX8_count_118 : decode cX8_count 118 = .ok (.iload_n 2, 1) := by decide +kernel
theorem dX8_count_119 : decode cX8_count 119 = .ok (.aload_n 0, 1) := by decide +kernel
theorem dX8_count_120 : decode cX8_count 120 = .ok (.getfield 25, 3) := by decide +kernel
theorem dX8_count_123 : decode cX8_count 123 = .ok (.bipush 6, 2) := by decide +kernel
theorem dX8_count_125 : decode cX8_count 125 = .ok (.bipush 7, 2) := by decide +kernel
theorem dX8_count_127 : decode cX8_count 127 = .ok (.iload_n 3, 1) := by decide +kernel
theorem dX8_count_128 : decode cX8_count 128 = .ok (.imul, 1) := by decide +kernel
theorem dX8_count_129 : decode cX8_count 129 = .ok (.iadd, 1) := by decide +kernel
theorem dX8_count_130 : decode cX8_count 130 = .ok (.iconst 2, 1) := by decide +kernel
theorem dX8_count_131 : decode cX8_count 131 = .ok (.iadd, 1) := by decide +kernel
theorem dX8_count_132 : decode cX8_count 132 = .ok (.iaload, 1) := by decide +kernel
theorem dX8_count_133 : decode cX8_count 133 = .ok (.ifCond .ne 7, 3) := by decide +kernel
theorem dX8_count_136 : decode cX8_count 136 = .ok (.iconst 1, 1) := by decide +kernel
theorem dX8_count_137 : decode cX8_count 137 = .ok (.goto 4, 3) := by decide +kernel
theorem dX8_count_140 : decode cX8_count 140 = .ok (.iconst 0, 1) := by decide +kernel
theorem dX8_count_141 : decode cX8_count 141 = .ok (.iadd, 1) := by decide +kernel
theorem dX8_count_142 : decode cX8_count 142 = .ok (.istore_n 2, 1) := by decide +kernel
theorem dX8_count_143 : decode cX8_count 143 = .ok (.iinc 3 1, 3) := by decide +kernel
theorem dX8_count_146 : decode cX8_count 146 = .ok (.goto (-38), 3) := by decide +kernel
theorem dX8_count_149 : decode cX8_count 149 = .ok (.iload_n 2, 1) := by decide +kernel
theorem dX8_count_150 : decode cX8_count 150 = .ok (.ireturn, 1) := by decide +kernel
theorem dX8_count_151 : decode cX8_count 151 = .ok (.aload_n 0, 1) := by decide +kernel
theorem dX8_count_152 : decode cX8_count 152 = .ok (.getfield 138, 3) := by decide +kernel
theorem dX8_count_155 : decode cX8_count 155 = .ok (.ireturn, 1) := by decide +kernel
theorem dX8_count_156 : decode cX8_count 156 = .ok (.aload_n 0, 1) := by decide +kernel
theorem dX8_count_157 : decode cX8_count 157 = .ok (.getfield 82, 3) := by decide +kernel
theorem dX8_count_160 : decode cX8_count 160 = .ok (.ireturn, 1) := by decide +kernel
theorem dX8_count_161 : decode cX8_count 161 = .ok (.ldc 64, 2) := by decide +kernel
theorem dX8_count_163 : decode cX8_count 163 = .ok (.ireturn, 1) := by decide +kernel
theorem dX8_status_0 : decode cX8_status 0 = .ok (.aload_n 0, 1) := by decide +kernel
theorem dX8_status_1 : decode cX8_status 1 = .ok (.getfield 51, 3) := by decide +kernel
theorem dX8_status_4 : decode cX8_status 4 = .ok (.ireturn, 1) := by decide +kernel
end
section
theorem dL_law_0 : decode cL_law 0 = .ok (.new 7, 3) := by decide +kernel
theorem dL_law_3 : decode cL_law 3 = .ok (.dup, 1) := by decide +kernel
theorem dL_law_4 : decode cL_law 4 = .ok (.invokespecial 9, 3) := by decide +kernel
theorem dL_law_7 : decode cL_law 7 = .ok (.astore_n 1, 1) := by decide +kernel
theorem dL_law_8 : decode cL_law 8 = .ok (.new 10, 3) := by decide +kernel
theorem dL_law_11 : decode cL_law 11 = .ok (.dup, 1) := by decide +kernel
theorem dL_law_12 : decode cL_law 12 = .ok (.invokespecial 12, 3) := by decide +kernel
theorem dL_law_15 : decode cL_law 15 = .ok (.astore_n 2, 1) := by decide +kernel
theorem dL_law_16 : decode cL_law 16 = .ok (.iconst 0, 1) := by decide +kernel
theorem dL_law_17 : decode cL_law 17 = .ok (.istore_n 3, 1) := by decide +kernel
theorem dL_law_18 : decode cL_law 18 = .ok (.iload_n 3, 1) := by decide +kernel
theorem dL_law_19 : decode cL_law 19 = .ok (.aload_n 0, 1) := by decide +kernel
theorem dL_law_20 : decode cL_law 20 = .ok (.arraylength, 1) := by decide +kernel
theorem dL_law_21 : decode cL_law 21 = .ok (.bipush 6, 2) := by decide +kernel
theorem dL_law_23 : decode cL_law 23 = .ok (.isub, 1) := by decide +kernel
theorem dL_law_24 : decode cL_law 24 = .ok (.if_icmp .gt 1141, 3) := by decide +kernel
theorem dL_law_27 : decode cL_law 27 = .ok (.aload_n 0, 1) := by decide +kernel
theorem dL_law_28 : decode cL_law 28 = .ok (.iload_n 3, 1) := by decide +kernel
theorem dL_law_29 : decode cL_law 29 = .ok (.iaload, 1) := by decide +kernel
theorem dL_law_30 : decode cL_law 30 = .ok (.bipush 63, 2) := by decide +kernel
theorem dL_law_32 : decode cL_law 32 = .ok (.iand, 1) := by decide +kernel
theorem dL_law_33 : decode cL_law 33 = .ok (.tableswitch 1126 0 32 #[147, 190, 233, 296, 319, 342, 355, 368, 391, 424, 457, 480, 493, 526, 549, 572, 595, 618, 631, 654, 697, 740, 793, 846, 889, 932, 955, 978, 1001, 1034, 1067, 1090, 1113], 147) := by decide +kernel
theorem dL_law_180 : decode cL_law 180 = .ok (.aload_n 1, 1) := by decide +kernel
theorem dL_law_181 : decode cL_law 181 = .ok (.aload_n 0, 1) := by decide +kernel
theorem dL_law_182 : decode cL_law 182 = .ok (.iload_n 3, 1) := by decide +kernel
theorem dL_law_183 : decode cL_law 183 = .ok (.iconst 1, 1) := by decide +kernel
theorem dL_law_184 : decode cL_law 184 = .ok (.iadd, 1) := by decide +kernel
theorem dL_law_185 : decode cL_law 185 = .ok (.iaload, 1) := by decide +kernel
theorem dL_law_186 : decode cL_law 186 = .ok (.aload_n 0, 1) := by decide +kernel
theorem dL_law_187 : decode cL_law 187 = .ok (.iload_n 3, 1) := by decide +kernel
theorem dL_law_188 : decode cL_law 188 = .ok (.iconst 2, 1) := by decide +kernel
theorem dL_law_189 : decode cL_law 189 = .ok (.iadd, 1) := by decide +kernel
theorem dL_law_190 : decode cL_law 190 = .ok (.iaload, 1) := by decide +kernel
theorem dL_law_191 : decode cL_law 191 = .ok (.aload_n 0, 1) := by decide +kernel
theorem dL_law_192 : decode cL_law 192 = .ok (.iload_n 3, 1) := by decide +kernel
theorem dL_law_193 : decode cL_law 193 = .ok (.iconst 3, 1) := by decide +kernel
theorem dL_law_194 : decode cL_law 194 = .ok (.iadd, 1) := by decide +kernel
theorem dL_law_195 : decode cL_law 195 = .ok (.iaload, 1) := by decide +kernel
theorem dL_law_196 : decode cL_law 196 = .ok (.invokevirtual 13, 3) := by decide +kernel
theorem dL_law_199 : decode cL_law 199 = .ok (.aload_n 2, 1) := by decide +kernel
theorem dL_law_200 : decode cL_law 200 = .ok (.aload_n 0, 1) := by decide +kernel
theorem dL_law_201 : decode cL_law 201 = .ok (.iload_n 3, 1) := by decide +kernel
theorem dL_law_202 : decode cL_law 202 = .ok (.iconst 1, 1) := by decide +kernel
theorem dL_law_203 : decode cL_law 203 = .ok (.iadd, 1) := by decide +kernel
theorem dL_law_204 : decode cL_law 204 = .ok (.iaload, 1) := by decide +kernel
theorem dL_law_205 : decode cL_law 205 = .ok (.aload_n 0, 1) := by decide +kernel
theorem dL_law_206 : decode cL_law 206 = .ok (.iload_n 3, 1) := by decide +kernel
theorem dL_law_207 : decode cL_law 207 = .ok (.iconst 2, 1) := by decide +kernel
theorem dL_law_208 : decode cL_law 208 = .ok (.iadd, 1) := by decide +kernel
theorem dL_law_209 : decode cL_law 209 = .ok (.iaload, 1) := by decide +kernel
theorem dL_law_210 : decode cL_law 210 = .ok (.aload_n 0, 1) := by decide +kernel
theorem dL_law_211 : decode cL_law 211 = .ok (.iload_n 3, 1) := by decide +kernel
theorem dL_law_212 : decode cL_law 212 = .ok (.iconst 3, 1) := by decide +kernel
theorem dL_law_213 : decode cL_law 213 = .ok (.iadd, 1) := by decide +kernel
theorem dL_law_214 : decode cL_law 214 = .ok (.iaload, 1) := by decide +kernel
theorem dL_law_215 : decode cL_law 215 = .ok (.invokevirtual 17, 3) := by decide +kernel
theorem dL_law_218 : decode cL_law 218 = .ok (.if_icmp .eq 941, 3) := by decide +kernel
theorem dL_law_221 : decode cL_law 221 = .ok (.iconst 0, 1) := by decide +kernel
theorem dL_law_222 : decode cL_law 222 = .ok (.ireturn, 1) := by decide +kernel
theorem dL_law_223 : decode cL_law 223 = .ok (.aload_n 1, 1) := by decide +kernel
theorem dL_law_224 : decode cL_law 224 = .ok (.aload_n 0, 1) := by decide +kernel
theorem dL_law_225 : decode cL_law 225 = .ok (.iload_n 3, 1) := by decide +kernel
theorem dL_law_226 : decode cL_law 226 = .ok (.iconst 1, 1) := by decide +kernel
theorem dL_law_227 : decode cL_law 227 = .ok (.iadd, 1) := by decide +kernel
theorem dL_law_228 : decode cL_law 228 = .ok (.iaload, 1) := by decide +kernel
theorem dL_law_229 : decode cL_law 229 = .ok (.aload_n 0, 1) := by decide +kernel
theorem dL_law_230 : decode cL_law 230 = .ok (.iload_n 3, 1) := by decide +kernel
theorem dL_law_231 : decode cL_law 231 = .ok (.iconst 2, 1) := by decide +kernel
theorem dL_law_232 : decode cL_law 232 = .ok (.iadd, 1) := by decide +kernel
theorem dL_law_233 : decode cL_law 233 = .ok (.iaload, 1) := by decide +kernel
theorem dL_law_234 : decode cL_law 234 = .ok (.aload_n 0, 1) := by decide +kernel
theorem dL_law_235 : decode cL_law 235 = .ok (.iload_n 3, 1) := by decide +kernel
theorem dL_law_236 : decode cL_law 236 = .ok (.iconst 3, 1) := by decide +kernel
theorem dL_law_237 : decode cL_law 237 = .ok (.iadd, 1) := by decide +kernel
theorem dL_law_238 : decode cL_law 238 = .ok (.iaload, 1) := by decide +kernel
theorem dL_law_239 : decode cL_law 239 = .ok (.invokevirtual 18, 3) := by decide +kernel
theorem dL_law_242 : decode cL_law 242 = .ok (.aload_n 2, 1) := by decide +kernel
theorem dL_law_243 : decode cL_law 243 = .ok (.aload_n 0, 1) := by decide +kernel
theorem dL_law_244 : decode cL_law 244 = .ok (.iload_n 3, 1) := by decide +kernel
theorem dL_law_245 : decode cL_law 245 = .ok (.iconst 1, 1) := by decide +kernel
theorem dL_law_246 : decode cL_law 246 = .ok (.iadd, 1) := by decide +kernel
theorem dL_law_247 : decode cL_law 247 = .ok (.iaload, 1) := by decide +kernel
theorem dL_law_248 : decode cL_law 248 = .ok (.aload_n 0, 1) := by decide +kernel
theorem dL_law_249 : decode cL_law 249 = .ok (.iload_n 3, 1) := by decide +kernel
theorem dL_law_250 : decode cL_law 250 = .ok (.iconst 2, 1) := by decide +kernel
theorem dL_law_251 : decode cL_law 251 = .ok (.iadd, 1) := by decide +kernel
theorem dL_law_252 : decode cL_law 252 = .ok (.iaload, 1) := by decide +kernel
theorem dL_law_253 : decode cL_law 253 = .ok (.aload_n 0, 1) := by decide +kernel
theorem dL_law_254 : decode cL_law 254 = .ok (.iload_n 3, 1) := by decide +kernel
theorem dL_law_255 : decode cL_law 255 = .ok (.iconst 3, 1) := by decide +kernel
theorem dL_law_256 : decode cL_law 256 = .ok (.iadd, 1) := by decide +kernel
theorem dL_law_257 : decode cL_law 257 = .ok (.iaload, 1) := by decide +kernel
theorem dL_law_258 : decode cL_law 258 = .ok (.invokevirtual 21, 3) := by decide +kernel
theorem dL_law_261 : decode cL_law 261 = .ok (.if_icmp .eq 898, 3) := by decide +kernel
theorem dL_law_264 : decode cL_law 264 = .ok (.iconst 0, 1) := by decide +kernel
theorem dL_law_265 : decode cL_law 265 = .ok (.ireturn, 1) := by decide +kernel
theorem dL_law_266 : decode cL_law 266 = .ok (.aload_n 1, 1) := by decide +kernel
theorem dL_law_267 : decode cL_law 267 = .ok (.aload_n 0, 1) := by decide +kernel
theorem dL_law_268 : decode cL_law 268 = .ok (.iload_n 3, 1) := by decide +kernel
theorem dL_law_269 : decode cL_law 269 = .ok (.iconst 1, 1) := by decide +kernel
theorem dL_law_270 : decode cL_law 270 = .ok (.iadd, 1) := by decide +kernel
theorem dL_law_271 : decode cL_law 271 = .ok (.iaload, 1) := by decide +kernel
theorem dL_law_272 : decode cL_law 272 = .ok (.aload_n 0, 1) := by decide +kernel
theorem dL_law_273 : decode cL_law 273 = .ok (.iload_n 3, 1) := by decide +kernel
theorem dL_law_274 : decode cL_law 274 = .ok (.iconst 2, 1) := by decide +kernel
theorem dL_law_275 : decode cL_law 275 = .ok (.iadd, 1) := by decide +kernel
theorem dL_law_276 : decode cL_law 276 = .ok (.iaload, 1) := by decide +kernel
theorem dL_law_277 : decode cL_law 277 = .ok (.aload_n 0, 1) := by decide +kernel
theorem dL_law_278 : decode cL_law 278 = .ok (.iload_n 3, 1) := by decide +kernel
theorem dL_law_279 : decode cL_law 279 = .ok (.iconst 3, 1) := by decide +kernel
theorem dL_law_280 : decode cL_law 280 = .ok (.iadd, 1) := by decide +kernel
theorem dL_law_281 : decode cL_law 281 = .ok (.iaload, 1) := by decide +kernel
theorem dL_law_282 : decode cL_law 282 = .ok (.aload_n 0, 1) := by decide +kernel
theorem dL_law_283 : decode cL_law 283 = .ok (.iload_n 3, 1) := by decide +kernel
theorem dL_law_284 : decode cL_law 284 = .ok (.iconst 4, 1) := by decide +kernel
theorem dL_law_285 : decode cL_law 285 = .ok (.iadd, 1) := by decide +kernel
theorem dL_law_286 : decode cL_law 286 = .ok (.iaload, 1) := by decide +kernel
theorem dL_law_287 : decode cL_law 287 = .ok (.aload_n 0, 1) := by decide +kernel
theorem dL_law_288 : decode cL_law 288 = .ok (.iload_n 3, 1) := by decide +kernel
theorem dL_law_289 : decode cL_law 289 = .ok (.iconst 5, 1) := by decide +kernel
theorem dL_law_290 : decode cL_law 290 = .ok (.iadd, 1) := by decide +kernel
theorem dL_law_291 : decode cL_law 291 = .ok (.iaload, 1) := by decide +kernel
theorem dL_law_292 : decode cL_law 292 = .ok (.invokevirtual 22, 3) := by decide +kernel
theorem dL_law_295 : decode cL_law 295 = .ok (.aload_n 2, 1) := by decide +kernel
theorem dL_law_296 : decode cL_law 296 = .ok (.aload_n 0, 1) := by decide +kernel
theorem dL_law_297 : decode cL_law 297 = .ok (.iload_n 3, 1) := by decide +kernel
theorem dL_law_298 : decode cL_law 298 = .ok (.iconst 1, 1) := by decide +kernel
theorem dL_law_299 : decode cL_law 299 = .ok (.iadd, 1) := by decide +kernel
theorem dL_law_300 : decode cL_law 300 = .ok (.iaload, 1) := by decide +kernel
theorem dL_law_301 : decode cL_law 301 = .ok (.aload_n 0, 1) := by decide +kernel
theorem dL_law_302 : decode cL_law 302 = .ok (.iload_n 3, 1) := by decide +kernel
theorem dL_law_303 : decode cL_law 303 = .ok (.iconst 2, 1) := by decide +kernel
theorem dL_law_304 : decode cL_law 304 = .ok (.iadd, 1) := by decide +kernel
theorem dL_law_305 : decode cL_law 305 = .ok (.iaload, 1) := by decide +kernel
theorem dL_law_306 : decode cL_law 306 = .ok (.aload_n 0, 1) := by decide +kernel
theorem dL_law_307 : decode cL_law 307 = .ok (.iload_n 3, 1) := by decide +kernel
theorem dL_law_308 : decode cL_law 308 = .ok (.iconst 3, 1) := by decide +kernel
theorem dL_law_309 : decode cL_law 309 = .ok (.iadd, 1) := by decide +kernel
theorem dL_law_310 : decode cL_law 310 = .ok (.iaload, 1) := by decide +kernel
theorem dL_law_311 : decode cL_law 311 = .ok (.aload_n 0, 1) := by decide +kernel
theorem dL_law_312 : decode cL_law 312 = .ok (.iload_n 3, 1) := by decide +kernel
theorem dL_law_313 : decode cL_law 313 = .ok (.iconst 4, 1) := by decide +kernel
theorem dL_law_314 : decode cL_law 314 = .ok (.iadd, 1) := by decide +kernel
theorem dL_law_315 : decode cL_law 315 = .ok (.iaload, 1) := by decide +kernel
theorem dL_law_316 : decode cL_law 316 = .ok (.aload_n 0, 1) := by decide +kernel
theorem dL_law_317 : decode cL_law 317 = .ok (.iload_n 3, 1) := by decide +kernel
theorem dL_law_318 : decode cL_law 318 = .ok (.iconst 5, 1) := by decide +kernel
theorem dL_law_319 : decode cL_law 319 = .ok (.iadd, 1) := by decide +kernel
theorem dL_law_320 : decode cL_law 320 = .ok (.iaload, 1) := by decide +kernel
theorem dL_law_321 : decode cL_law 321 = .ok (.invokevirtual 26, 3) := by decide +kernel
theorem dL_law_324 : decode cL_law 324 = .ok (.if_icmp .eq 835, 3) := by decide +kernel
theorem dL_law_327 : decode cL_law 327 = .ok (.iconst 0, 1) := by decide +kernel
theorem dL_law_328 : decode cL_law 328 = .ok (.ireturn, 1) := by decide +kernel
theorem dL_law_329 : decode cL_law 329 = .ok (.aload_n 1, 1) := by decide +kernel
theorem dL_law_330 : decode cL_law 330 = .ok (.aload_n 0, 1) := by decide +kernel
theorem dL_law_331 : decode cL_law 331 = .ok (.iload_n 3, 1) := by decide +kernel
theorem dL_law_332 : decode cL_law 332 = .ok (.iconst 1, 1) := by decide +kernel
theorem dL_law_333 : decode cL_law 333 = .ok (.iadd, 1) := by decide +kernel
theorem dL_law_334 : decode cL_law 334 = .ok (.iaload, 1) := by decide +kernel
theorem dL_law_335 : decode cL_law 335 = .ok (.invokevirtual 27, 3) := by decide +kernel
theorem dL_law_338 : decode cL_law 338 = .ok (.aload_n 2, 1) := by decide +kernel
theorem dL_law_339 : decode cL_law 339 = .ok (.aload_n 0, 1) := by decide +kernel
theorem dL_law_340 : decode cL_law 340 = .ok (.iload_n 3, 1) := by decide +kernel
theorem dL_law_341 : decode cL_law 341 = .ok (.iconst 1, 1) := by decide +kernel
theorem dL_law_342 : decode cL_law 342 = .ok (.iadd, 1) := by decide +kernel
theorem dL_law_343 : decode cL_law 343 = .ok (.iaload, 1) := by decide +kernel
theorem dL_law_344 : decode cL_law 344 = .ok (.invokevirtual 31, 3) := by decide +kernel
theorem dL_law_347 : decode cL_law 347 = .ok (.if_icmp .eq 812, 3) := by decide +kernel
theorem dL_law_350 : decode cL_law 350 = .ok (.iconst 0, 1) := by decide +kernel
theorem dL_law_351 : decode cL_law 351 = .ok (.ireturn, 1) := by decide +kernel
theorem dL_law_352 : decode cL_law 352 = .ok (.aload_n 1, 1) := by decide +kernel
theorem dL_law_353 : decode cL_law 353 = .ok (.aload_n 0, 1) := by decide +kernel
theorem dL_law_354 : decode cL_law 354 = .ok (.iload_n 3, 1) := by decide +kernel
theorem dL_law_355 : decode cL_law 355 = .ok (.iconst 1, 1) := by decide +kernel
theorem dL_law_356 : decode cL_law 356 = .ok (.iadd, 1) := by decide +kernel
theorem dL_law_357 : decode cL_law 357 = .ok (.iaload, 1) := by decide +kernel
theorem dL_law_358 : decode cL_law 358 = .ok (.invokevirtual 32, 3) := by decide +kernel
theorem dL_law_361 : decode cL_law 361 = .ok (.aload_n 2, 1) := by decide +kernel
theorem dL_law_362 : decode cL_law 362 = .ok (.aload_n 0, 1) := by decide +kernel
theorem dL_law_363 : decode cL_law 363 = .ok (.iload_n 3, 1) := by decide +kernel
theorem dL_law_364 : decode cL_law 364 = .ok (.iconst 1, 1) := by decide +kernel
theorem dL_law_365 : decode cL_law 365 = .ok (.iadd, 1) := by decide +kernel
theorem dL_law_366 : decode cL_law 366 = .ok (.iaload, 1) := by decide +kernel
theorem dL_law_367 : decode cL_law 367 = .ok (.invokevirtual 35, 3) := by decide +kernel
theorem dL_law_370 : decode cL_law 370 = .ok (.if_icmp .eq 789, 3) := by decide +kernel
theorem dL_law_373 : decode cL_law 373 = .ok (.iconst 0, 1) := by decide +kernel
theorem dL_law_374 : decode cL_law 374 = .ok (.ireturn, 1) := by decide +kernel
theorem dL_law_375 : decode cL_law 375 = .ok (.aload_n 1, 1) := by decide +kernel
theorem dL_law_376 : decode cL_law 376 = .ok (.invokevirtual 36, 3) := by decide +kernel
theorem dL_law_379 : decode cL_law 379 = .ok (.aload_n 2, 1) := by decide +kernel
theorem dL_law_380 : decode cL_law 380 = .ok (.invokevirtual 40, 3) := by decide +kernel
theorem dL_law_383 : decode cL_law 383 = .ok (.if_icmp .eq 776, 3) := by decide +kernel
theorem dL_law_386 : decode cL_law 386 = .ok (.iconst 0, 1) := by decide +kernel
theorem dL_law_387 : decode cL_law 387 = .ok (.ireturn, 1) := by decide +kernel
theorem dL_law_388 : decode cL_law 388 = .ok (.aload_n 1, 1) := by decide +kernel
theorem dL_law_389 : decode cL_law 389 = .ok (.invokevirtual 41, 3) := by decide +kernel
theorem dL_law_392 : decode cL_law 392 = .ok (.aload_n 2, 1) := by decide +kernel
theorem dL_law_393 : decode cL_law 393 = .ok (.invokevirtual 44, 3) := by decide +kernel
theorem dL_law_396 : decode cL_law 396 = .ok (.if_icmp .eq 763, 3) := by decide +kernel
theorem dL_law_399 : decode cL_law 399 = .ok (.iconst 0, 1) := by decide +kernel
theorem dL_law_400 : decode cL_law 400 = .ok (.ireturn, 1) := by decide +kernel
theorem dL_law_401 : decode cL_law 401 = .ok (.aload_n 1, 1) := by decide +kernel
theorem dL_law_402 : decode cL_law 402 = .ok (.aload_n 0, 1) := by decide +kernel
theorem dL_law_403 : decode cL_law 403 = .ok (.iload_n 3, 1) := by decide +kernel
theorem dL_law_404 : decode cL_law 404 = .ok (.iconst 1, 1) := by decide +kernel
theorem dL_law_405 : decode cL_law 405 = .ok (.iadd, 1) := by decide +kernel
theorem dL_law_406 : decode cL_law 406 = .ok (.iaload, 1) := by decide +kernel
theorem dL_law_407 : decode cL_law 407 = .ok (.invokevirtual 45, 3) := by decide +kernel
theorem dL_law_410 : decode cL_law 410 = .ok (.aload_n 2, 1) := by decide +kernel
theorem dL_law_411 : decode cL_law 411 = .ok (.aload_n 0, 1) := by decide +kernel
theorem dL_law_412 : decode cL_law 412 = .ok (.iload_n 3, 1) := by decide +kernel
theorem dL_law_413 : decode cL_law 413 = .ok (.iconst 1, 1) := by decide +kernel
theorem dL_law_414 : decode cL_law 414 = .ok (.iadd, 1) := by decide +kernel
theorem dL_law_415 : decode cL_law 415 = .ok (.iaload, 1) := by decide +kernel
theorem dL_law_416 : decode cL_law 416 = .ok (.invokevirtual 48, 3) := by decide +kernel
theorem dL_law_419 : decode cL_law 419 = .ok (.if_icmp .eq 740, 3) := by decide +kernel
theorem dL_law_422 : decode cL_law 422 = .ok (.iconst 0, 1) := by decide +kernel
theorem dL_law_423 : decode cL_law 423 = .ok (.ireturn, 1) := by decide +kernel
theorem dL_law_424 : decode cL_law 424 = .ok (.aload_n 1, 1) := by decide +kernel
theorem dL_law_425 : decode cL_law 425 = .ok (.aload_n 0, 1) := by decide +kernel
theorem dL_law_426 : decode cL_law 426 = .ok (.iload_n 3, 1) := by decide +kernel
theorem dL_law_427 : decode cL_law 427 = .ok (.iconst 1, 1) := by decide +kernel
theorem dL_law_428 : decode cL_law 428 = .ok (.iadd, 1) := by decide +kernel
theorem dL_law_429 : decode cL_law 429 = .ok (.iaload, 1) := by decide +kernel
theorem dL_law_430 : decode cL_law 430 = .ok (.aload_n 0, 1) := by decide +kernel
theorem dL_law_431 : decode cL_law 431 = .ok (.iload_n 3, 1) := by decide +kernel
theorem dL_law_432 : decode cL_law 432 = .ok (.iconst 2, 1) := by decide +kernel
theorem dL_law_433 : decode cL_law 433 = .ok (.iadd, 1) := by decide +kernel
theorem dL_law_434 : decode cL_law 434 = .ok (.iaload, 1) := by decide +kernel
theorem dL_law_435 : decode cL_law 435 = .ok (.invokevirtual 49, 3) := by decide +kernel
theorem dL_law_438 : decode cL_law 438 = .ok (.aload_n 2, 1) := by decide +kernel
theorem dL_law_439 : decode cL_law 439 = .ok (.aload_n 0, 1) := by decide +kernel
theorem dL_law_440 : decode cL_law 440 = .ok (.iload_n 3, 1) := by decide +kernel
theorem dL_law_441 : decode cL_law 441 = .ok (.iconst 1, 1) := by decide +kernel
theorem dL_law_442 : decode cL_law 442 = .ok (.iadd, 1) := by decide +kernel
theorem dL_law_443 : decode cL_law 443 = .ok (.iaload, 1) := by decide +kernel
theorem dL_law_444 : decode cL_law 444 = .ok (.aload_n 0, 1) := by decide +kernel
theorem dL_law_445 : decode cL_law 445 = .ok (.iload_n 3, 1) := by decide +kernel
theorem dL_law_446 : decode cL_law 446 = .ok (.iconst 2, 1) := by decide +kernel
theorem dL_law_447 : decode cL_law 447 = .ok (.iadd, 1) := by decide +kernel
theorem dL_law_448 : decode cL_law 448 = .ok (.iaload, 1) := by decide +kernel
theorem dL_law_449 : decode cL_law 449 = .ok (.invokevirtual 53, 3) := by decide +kernel
theorem dL_law_452 : decode cL_law 452 = .ok (.if_icmp .eq 707, 3) := by decide +kernel
theorem dL_law_455 : decode cL_law 455 = .ok (.iconst 0, 1) := by decide +kernel
theorem dL_law_456 : decode cL_law 456 = .ok (.ireturn, 1) := by decide +kernel
theorem dL_law_457 : decode cL_law 457 = .ok (.aload_n 1, 1) := by decide +kernel
theorem dL_law_458 : decode cL_law 458 = .ok (.aload_n 0, 1) := by decide +kernel
theorem dL_law_459 : decode cL_law 459 = .ok (.iload_n 3, 1) := by decide +kernel
theorem dL_law_460 : decode cL_law 460 = .ok (.iconst 1, 1) := by decide +kernel
theorem dL_law_461 : decode cL_law 461 = .ok (.iadd, 1) := by decide +kernel
theorem dL_law_462 : decode cL_law 462 = .ok (.iaload, 1) := by decide +kernel
theorem dL_law_463 : decode cL_law 463 = .ok (.aload_n 0, 1) := by decide +kernel
theorem dL_law_464 : decode cL_law 464 = .ok (.iload_n 3, 1) := by decide +kernel
theorem dL_law_465 : decode cL_law 465 = .ok (.iconst 2, 1) := by decide +kernel
theorem dL_law_466 : decode cL_law 466 = .ok (.iadd, 1) := by decide +kernel
theorem dL_law_467 : decode cL_law 467 = .ok (.iaload, 1) := by decide +kernel
theorem dL_law_468 : decode cL_law 468 = .ok (.invokevirtual 54, 3) := by decide +kernel
theorem dL_law_471 : decode cL_law 471 = .ok (.aload_n 2, 1) := by decide +kernel
theorem dL_law_472 : decode cL_law 472 = .ok (.aload_n 0, 1) := by decide +kernel
theorem dL_law_473 : decode cL_law 473 = .ok (.iload_n 3, 1) := by decide +kernel
theorem dL_law_474 : decode cL_law 474 = .ok (.iconst 1, 1) := by decide +kernel
theorem dL_law_475 : decode cL_law 475 = .ok (.iadd, 1) := by decide +kernel
theorem dL_law_476 : decode cL_law 476 = .ok (.iaload, 1) := by decide +kernel
theorem dL_law_477 : decode cL_law 477 = .ok (.aload_n 0, 1) := by decide +kernel
theorem dL_law_478 : decode cL_law 478 = .ok (.iload_n 3, 1) := by decide +kernel
theorem dL_law_479 : decode cL_law 479 = .ok (.iconst 2, 1) := by decide +kernel
theorem dL_law_480 : decode cL_law 480 = .ok (.iadd, 1) := by decide +kernel
theorem dL_law_481 : decode cL_law 481 = .ok (.iaload, 1) := by decide +kernel
theorem dL_law_482 : decode cL_law 482 = .ok (.invokevirtual 57, 3) := by decide +kernel
theorem dL_law_485 : decode cL_law 485 = .ok (.if_icmp .eq 674, 3) := by decide +kernel
theorem dL_law_488 : decode cL_law 488 = .ok (.iconst 0, 1) := by decide +kernel
theorem dL_law_489 : decode cL_law 489 = .ok (.ireturn, 1) := by decide +kernel
theorem dL_law_490 : decode cL_law 490 = .ok (.aload_n 1, 1) := by decide +kernel
theorem dL_law_491 : decode cL_law 491 = .ok (.aload_n 0, 1) := by decide +kernel
theorem dL_law_492 : decode cL_law 492 = .ok (.iload_n 3, 1) := by decide +kernel
theorem dL_law_493 : decode cL_law 493 = .ok (.iconst 1, 1) := by decide +kernel
theorem dL_law_494 : decode cL_law 494 = .ok (.iadd, 1) := by decide +kernel
theorem dL_law_495 : decode cL_law 495 = .ok (.iaload, 1) := by decide +kernel
theorem dL_law_496 : decode cL_law 496 = .ok (.invokevirtual 58, 3) := by decide +kernel
theorem dL_law_499 : decode cL_law 499 = .ok (.aload_n 2, 1) := by decide +kernel
theorem dL_law_500 : decode cL_law 500 = .ok (.aload_n 0, 1) := by decide +kernel
theorem dL_law_501 : decode cL_law 501 = .ok (.iload_n 3, 1) := by decide +kernel
theorem dL_law_502 : decode cL_law 502 = .ok (.iconst 1, 1) := by decide +kernel
theorem dL_law_503 : decode cL_law 503 = .ok (.iadd, 1) := by decide +kernel
theorem dL_law_504 : decode cL_law 504 = .ok (.iaload, 1) := by decide +kernel
theorem dL_law_505 : decode cL_law 505 = .ok (.invokevirtual 61, 3) := by decide +kernel
theorem dL_law_508 : decode cL_law 508 = .ok (.if_icmp .eq 651, 3) := by decide +kernel
theorem dL_law_511 : decode cL_law 511 = .ok (.iconst 0, 1) := by decide +kernel
theorem dL_law_512 : decode cL_law 512 = .ok (.ireturn, 1) := by decide +kernel
theorem dL_law_513 : decode cL_law 513 = .ok (.aload_n 1, 1) := by decide +kernel
theorem dL_law_514 : decode cL_law 514 = .ok (.invokevirtual 62, 3) := by decide +kernel
theorem dL_law_517 : decode cL_law 517 = .ok (.aload_n 2, 1) := by decide +kernel
theorem dL_law_518 : decode cL_law 518 = .ok (.invokevirtual 65, 3) := by decide +kernel
theorem dL_law_521 : decode cL_law 521 = .ok (.if_icmp .eq 638, 3) := by decide +kernel
theorem dL_law_524 : decode cL_law 524 = .ok (.iconst 0, 1) := by decide +kernel
theorem dL_law_525 : decode cL_law 525 = .ok (.ireturn, 1) := by decide +kernel
theorem dL_law_526 : decode cL_law 526 = .ok (.aload_n 1, 1) := by decide +kernel
theorem dL_law_527 : decode cL_law 527 = .ok (.aload_n 0, 1) := by decide +kernel
theorem dL_law_528 : decode cL_law 528 = .ok (.iload_n 3, 1) := by decide +kernel
theorem dL_law_529 : decode cL_law 529 = .ok (.iconst 1, 1) := by decide +kernel
theorem dL_law_530 : decode cL_law 530 = .ok (.iadd, 1) := by decide +kernel
theorem dL_law_531 : decode cL_law 531 = .ok (.iaload, 1) := by decide +kernel
theorem dL_law_532 : decode cL_law 532 = .ok (.aload_n 0, 1) := by decide +kernel
theorem dL_law_533 : decode cL_law 533 = .ok (.iload_n 3, 1) := by decide +kernel
theorem dL_law_534 : decode cL_law 534 = .ok (.iconst 2, 1) := by decide +kernel
theorem dL_law_535 : decode cL_law 535 = .ok (.iadd, 1) := by decide +kernel
theorem dL_law_536 : decode cL_law 536 = .ok (.iaload, 1) := by decide +kernel
theorem dL_law_537 : decode cL_law 537 = .ok (.invokevirtual 66, 3) := by decide +kernel
theorem dL_law_540 : decode cL_law 540 = .ok (.aload_n 2, 1) := by decide +kernel
theorem dL_law_541 : decode cL_law 541 = .ok (.aload_n 0, 1) := by decide +kernel
theorem dL_law_542 : decode cL_law 542 = .ok (.iload_n 3, 1) := by decide +kernel
theorem dL_law_543 : decode cL_law 543 = .ok (.iconst 1, 1) := by decide +kernel
theorem dL_law_544 : decode cL_law 544 = .ok (.iadd, 1) := by decide +kernel
theorem dL_law_545 : decode cL_law 545 = .ok (.iaload, 1) := by decide +kernel
theorem dL_law_546 : decode cL_law 546 = .ok (.aload_n 0, 1) := by decide +kernel
theorem dL_law_547 : decode cL_law 547 = .ok (.iload_n 3, 1) := by decide +kernel
theorem dL_law_548 : decode cL_law 548 = .ok (.iconst 2, 1) := by decide +kernel
theorem dL_law_549 : decode cL_law 549 = .ok (.iadd, 1) := by decide +kernel
theorem dL_law_550 : decode cL_law 550 = .ok (.iaload, 1) := by decide +kernel
theorem dL_law_551 : decode cL_law 551 = .ok (.invokevirtual 69, 3) := by decide +kernel
theorem dL_law_554 : decode cL_law 554 = .ok (.if_icmp .eq 605, 3) := by decide +kernel
theorem dL_law_557 : decode cL_law 557 = .ok (.iconst 0, 1) := by decide +kernel
theorem dL_law_558 : decode cL_law 558 = .ok (.ireturn, 1) := by decide +kernel
theorem dL_law_559 : decode cL_law 559 = .ok (.aload_n 1, 1) := by decide +kernel
theorem dL_law_560 : decode cL_law 560 = .ok (.aload_n 0, 1) := by decide +kernel
theorem dL_law_561 : decode cL_law 561 = .ok (.iload_n 3, 1) := by decide +kernel
theorem dL_law_562 : decode cL_law 562 = .ok (.iconst 1, 1) := by decide +kernel
theorem dL_law_563 : decode cL_law 563 = .ok (.iadd, 1) := by decide +kernel
theorem dL_law_564 : decode cL_law 564 = .ok (.iaload, 1) := by decide +kernel
theorem dL_law_565 : decode cL_law 565 = .ok (.invokevirtual 70, 3) := by decide +kernel
theorem dL_law_568 : decode cL_law 568 = .ok (.aload_n 2, 1) := by decide +kernel
theorem dL_law_569 : decode cL_law 569 = .ok (.aload_n 0, 1) := by decide +kernel
theorem dL_law_570 : decode cL_law 570 = .ok (.iload_n 3, 1) := by decide +kernel
theorem dL_law_571 : decode cL_law 571 = .ok (.iconst 1, 1) := by decide +kernel
theorem dL_law_572 : decode cL_law 572 = .ok (.iadd, 1) := by decide +kernel
theorem dL_law_573 : decode cL_law 573 = .ok (.iaload, 1) := by decide +kernel
theorem dL_law_574 : decode cL_law 574 = .ok (.invokevirtual 73, 3) := by decide +kernel
theorem dL_law_577 : decode cL_law 577 = .ok (.if_icmp .eq 582, 3) := by decide +kernel
theorem dL_law_580 : decode cL_law 580 = .ok (.iconst 0, 1) := by decide +kernel
theorem dL_law_581 : decode cL_law 581 = .ok (.ireturn, 1) := by decide +kernel
theorem dL_law_582 : decode cL_law 582 = .ok (.aload_n 1, 1) := by decide +kernel
theorem dL_law_583 : decode cL_law 583 = .ok (.aload_n 0, 1) := by decide +kernel
theorem dL_law_584 : decode cL_law 584 = .ok (.iload_n 3, 1) := by decide +kernel
theorem dL_law_585 : decode cL_law 585 = .ok (.iconst 1, 1) := by decide +kernel
theorem dL_law_586 : decode cL_law 586 = .ok (.iadd, 1) := by decide +kernel
theorem dL_law_587 : decode cL_law 587 = .ok (.iaload, 1) := by decide +kernel
theorem dL_law_588 : decode cL_law 588 = .ok (.invokevirtual 74, 3) := by decide +kernel
theorem dL_law_591 : decode cL_law 591 = .ok (.aload_n 2, 1) := by decide +kernel
theorem dL_law_592 : decode cL_law 592 = .ok (.aload_n 0, 1) := by decide +kernel
theorem dL_law_593 : decode cL_law 593 = .ok (.iload_n 3, 1) := by decide +kernel
theorem dL_law_594 : decode cL_law 594 = .ok (.iconst 1, 1) := by decide +kernel
theorem dL_law_595 : decode cL_law 595 = .ok (.iadd, 1) := by decide +kernel
theorem dL_law_596 : decode cL_law 596 = .ok (.iaload, 1) := by decide +kernel
theorem dL_law_597 : decode cL_law 597 = .ok (.invokevirtual 77, 3) := by decide +kernel
theorem dL_law_600 : decode cL_law 600 = .ok (.if_icmp .eq 559, 3) := by decide +kernel
theorem dL_law_603 : decode cL_law 603 = .ok (.iconst 0, 1) := by decide +kernel
theorem dL_law_604 : decode cL_law 604 = .ok (.ireturn, 1) := by decide +kernel
theorem dL_law_605 : decode cL_law 605 = .ok (.aload_n 1, 1) := by decide +kernel
theorem dL_law_606 : decode cL_law 606 = .ok (.aload_n 0, 1) := by decide +kernel
theorem dL_law_607 : decode cL_law 607 = .ok (.iload_n 3, 1) := by decide +kernel
theorem dL_law_608 : decode cL_law 608 = .ok (.iconst 1, 1) := by decide +kernel
theorem dL_law_609 : decode cL_law 609 = .ok (.iadd, 1) := by decide +kernel
theorem dL_law_610 : decode cL_law 610 = .ok (.iaload, 1) := by decide +kernel
theorem dL_law_611 : decode cL_law 611 = .ok (.invokevirtual 78, 3) := by decide +kernel
theorem dL_law_614 : decode cL_law 614 = .ok (.aload_n 2, 1) := by decide +kernel
theorem dL_law_615 : decode cL_law 615 = .ok (.aload_n 0, 1) := by decide +kernel
theorem dL_law_616 : decode cL_law 616 = .ok (.iload_n 3, 1) := by decide +kernel
theorem dL_law_617 : decode cL_law 617 = .ok (.iconst 1, 1) := by decide +kernel
theorem dL_law_618 : decode cL_law 618 = .ok (.iadd, 1) := by decide +kernel
theorem dL_law_619 : decode cL_law 619 = .ok (.iaload, 1) := by decide +kernel
theorem dL_law_620 : decode cL_law 620 = .ok (.invokevirtual 81, 3) := by decide +kernel
theorem dL_law_623 : decode cL_law 623 = .ok (.if_icmp .eq 536, 3) := by decide +kernel
theorem dL_law_626 : decode cL_law 626 = .ok (.iconst 0, 1) := by decide +kernel
theorem dL_law_627 : decode cL_law 627 = .ok (.ireturn, 1) := by decide +kernel
theorem dL_law_628 : decode cL_law 628 = .ok (.aload_n 1, 1) := by decide +kernel
theorem dL_law_629 : decode cL_law 629 = .ok (.aload_n 0, 1) := by decide +kernel
theorem dL_law_630 : decode cL_law 630 = .ok (.iload_n 3, 1) := by decide +kernel
theorem dL_law_631 : decode cL_law 631 = .ok (.iconst 1, 1) := by decide +kernel
theorem dL_law_632 : decode cL_law 632 = .ok (.iadd, 1) := by decide +kernel
theorem dL_law_633 : decode cL_law 633 = .ok (.iaload, 1) := by decide +kernel
theorem dL_law_634 : decode cL_law 634 = .ok (.invokevirtual 82, 3) := by decide +kernel
theorem dL_law_637 : decode cL_law 637 = .ok (.aload_n 2, 1) := by decide +kernel
theorem dL_law_638 : decode cL_law 638 = .ok (.aload_n 0, 1) := by decide +kernel
theorem dL_law_639 : decode cL_law 639 = .ok (.iload_n 3, 1) := by decide +kernel
theorem dL_law_640 : decode cL_law 640 = .ok (.iconst 1, 1) := by decide +kernel
theorem dL_law_641 : decode cL_law 641 = .ok (.iadd, 1) := by decide +kernel
theorem dL_law_642 : decode cL_law 642 = .ok (.iaload, 1) := by decide +kernel
theorem dL_law_643 : decode cL_law 643 = .ok (.invokevirtual 85, 3) := by decide +kernel
theorem dL_law_646 : decode cL_law 646 = .ok (.if_icmp .eq 513, 3) := by decide +kernel
theorem dL_law_649 : decode cL_law 649 = .ok (.iconst 0, 1) := by decide +kernel
theorem dL_law_650 : decode cL_law 650 = .ok (.ireturn, 1) := by decide +kernel
theorem dL_law_651 : decode cL_law 651 = .ok (.aload_n 1, 1) := by decide +kernel
theorem dL_law_652 : decode cL_law 652 = .ok (.invokevirtual 86, 3) := by decide +kernel
theorem dL_law_655 : decode cL_law 655 = .ok (.aload_n 2, 1) := by decide +kernel
theorem dL_law_656 : decode cL_law 656 = .ok (.invokevirtual 89, 3) := by decide +kernel
theorem dL_law_659 : decode cL_law 659 = .ok (.if_icmp .eq 500, 3) := by decide +kernel
theorem dL_law_662 : decode cL_law 662 = .ok (.iconst 0, 1) := by decide +kernel
theorem dL_law_663 : decode cL_law 663 = .ok (.ireturn, 1) := by decide +kernel
theorem dL_law_664 : decode cL_law 664 = .ok (.aload_n 1, 1) := by decide +kernel
theorem dL_law_665 : decode cL_law 665 = .ok (.aload_n 0, 1) := by decide +kernel
theorem dL_law_666 : decode cL_law 666 = .ok (.iload_n 3, 1) := by decide +kernel
theorem dL_law_667 : decode cL_law 667 = .ok (.iconst 1, 1) := by decide +kernel
theorem dL_law_668 : decode cL_law 668 = .ok (.iadd, 1) := by decide +kernel
theorem dL_law_669 : decode cL_law 669 = .ok (.iaload, 1) := by decide +kernel
theorem dL_law_670 : decode cL_law 670 = .ok (.invokevirtual 90, 3) := by decide +kernel
theorem dL_law_673 : decode cL_law 673 = .ok (.aload_n 2, 1) := by decide +kernel
theorem dL_law_674 : decode cL_law 674 = .ok (.aload_n 0, 1) := by decide +kernel
theorem dL_law_675 : decode cL_law 675 = .ok (.iload_n 3, 1) := by decide +kernel
theorem dL_law_676 : decode cL_law 676 = .ok (.iconst 1, 1) := by decide +kernel
theorem dL_law_677 : decode cL_law 677 = .ok (.iadd, 1) := by decide +kernel
theorem dL_law_678 : decode cL_law 678 = .ok (.iaload, 1) := by decide +kernel
theorem dL_law_679 : decode cL_law 679 = .ok (.invokevirtual 93, 3) := by decide +kernel
theorem dL_law_682 : decode cL_law 682 = .ok (.if_icmp .eq 477, 3) := by decide +kernel
theorem dL_law_685 : decode cL_law 685 = .ok (.iconst 0, 1) := by decide +kernel
theorem dL_law_686 : decode cL_law 686 = .ok (.ireturn, 1) := by decide +kernel
theorem dL_law_687 : decode cL_law 687 = .ok (.aload_n 1, 1) := by decide +kernel
theorem dL_law_688 : decode cL_law 688 = .ok (.aload_n 0, 1) := by decide +kernel
theorem dL_law_689 : decode cL_law 689 = .ok (.iload_n 3, 1) := by decide +kernel
theorem dL_law_690 : decode cL_law 690 = .ok (.iconst 1, 1) := by decide +kernel
theorem dL_law_691 : decode cL_law 691 = .ok (.iadd, 1) := by decide +kernel
theorem dL_law_692 : decode cL_law 692 = .ok (.iaload, 1) := by decide +kernel
theorem dL_law_693 : decode cL_law 693 = .ok (.aload_n 0, 1) := by decide +kernel
theorem dL_law_694 : decode cL_law 694 = .ok (.iload_n 3, 1) := by decide +kernel
theorem dL_law_695 : decode cL_law 695 = .ok (.iconst 2, 1) := by decide +kernel
theorem dL_law_696 : decode cL_law 696 = .ok (.iadd, 1) := by decide +kernel
theorem dL_law_697 : decode cL_law 697 = .ok (.iaload, 1) := by decide +kernel
theorem dL_law_698 : decode cL_law 698 = .ok (.aload_n 0, 1) := by decide +kernel
theorem dL_law_699 : decode cL_law 699 = .ok (.iload_n 3, 1) := by decide +kernel
theorem dL_law_700 : decode cL_law 700 = .ok (.iconst 3, 1) := by decide +kernel
theorem dL_law_701 : decode cL_law 701 = .ok (.iadd, 1) := by decide +kernel
theorem dL_law_702 : decode cL_law 702 = .ok (.iaload, 1) := by decide +kernel
theorem dL_law_703 : decode cL_law 703 = .ok (.invokevirtual 94, 3) := by decide +kernel
theorem dL_law_706 : decode cL_law 706 = .ok (.aload_n 2, 1) := by decide +kernel
theorem dL_law_707 : decode cL_law 707 = .ok (.aload_n 0, 1) := by decide +kernel
theorem dL_law_708 : decode cL_law 708 = .ok (.iload_n 3, 1) := by decide +kernel
theorem dL_law_709 : decode cL_law 709 = .ok (.iconst 1, 1) := by decide +kernel
theorem dL_law_710 : decode cL_law 710 = .ok (.iadd, 1) := by decide +kernel
theorem dL_law_711 : decode cL_law 711 = .ok (.iaload, 1) := by decide +kernel
theorem dL_law_712 : decode cL_law 712 = .ok (.aload_n 0, 1) := by decide +kernel
theorem dL_law_713 : decode cL_law 713 = .ok (.iload_n 3, 1) := by decide +kernel
theorem dL_law_714 : decode cL_law 714 = .ok (.iconst 2, 1) := by decide +kernel
theorem dL_law_715 : decode cL_law 715 = .ok (.iadd, 1) := by decide +kernel
theorem dL_law_716 : decode cL_law 716 = .ok (.iaload, 1) := by decide +kernel
theorem dL_law_717 : decode cL_law 717 = .ok (.aload_n 0, 1) := by decide +kernel
theorem dL_law_718 : decode cL_law 718 = .ok (.iload_n 3, 1) := by decide +kernel
theorem dL_law_719 : decode cL_law 719 = .ok (.iconst 3, 1) := by decide +kernel
theorem dL_law_720 : decode cL_law 720 = .ok (.iadd, 1) := by decide +kernel
theorem dL_law_721 : decode cL_law 721 = .ok (.iaload, 1) := by decide +kernel
theorem dL_law_722 : decode cL_law 722 = .ok (.invokevirtual 97, 3) := by decide +kernel
theorem dL_law_725 : decode cL_law 725 = .ok (.if_icmp .eq 434, 3) := by decide +kernel
theorem dL_law_728 : decode cL_law 728 = .ok (.iconst 0, 1) := by decide +kernel
theorem dL_law_729 : decode cL_law 729 = .ok (.ireturn, 1) := by decide +kernel
theorem dL_law_730 : decode cL_law 730 = .ok (.aload_n 1, 1) := by decide +kernel
theorem dL_law_731 : decode cL_law 731 = .ok (.aload_n 0, 1) := by decide +kernel
theorem dL_law_732 : decode cL_law 732 = .ok (.iload_n 3, 1) := by decide +kernel
theorem dL_law_733 : decode cL_law 733 = .ok (.iconst 1, 1) := by decide +kernel
theorem dL_law_734 : decode cL_law 734 = .ok (.iadd, 1) := by decide +kernel
theorem dL_law_735 : decode cL_law 735 = .ok (.iaload, 1) := by decide +kernel
theorem dL_law_736 : decode cL_law 736 = .ok (.aload_n 0, 1) := by decide +kernel
theorem dL_law_737 : decode cL_law 737 = .ok (.iload_n 3, 1) := by decide +kernel
theorem dL_law_738 : decode cL_law 738 = .ok (.iconst 2, 1) := by decide +kernel
theorem dL_law_739 : decode cL_law 739 = .ok (.iadd, 1) := by decide +kernel
theorem dL_law_740 : decode cL_law 740 = .ok (.iaload, 1) := by decide +kernel
theorem dL_law_741 : decode cL_law 741 = .ok (.aload_n 0, 1) := by decide +kernel
theorem dL_law_742 : decode cL_law 742 = .ok (.iload_n 3, 1) := by decide +kernel
theorem dL_law_743 : decode cL_law 743 = .ok (.iconst 3, 1) := by decide +kernel
theorem dL_law_744 : decode cL_law 744 = .ok (.iadd, 1) := by decide +kernel
theorem dL_law_745 : decode cL_law 745 = .ok (.iaload, 1) := by decide +kernel
theorem dL_law_746 : decode cL_law 746 = .ok (.invokevirtual 98, 3) := by decide +kernel
theorem dL_law_749 : decode cL_law 749 = .ok (.aload_n 2, 1) := by decide +kernel
theorem dL_law_750 : decode cL_law 750 = .ok (.aload_n 0, 1) := by decide +kernel
theorem dL_law_751 : decode cL_law 751 = .ok (.iload_n 3, 1) := by decide +kernel
theorem dL_law_752 : decode cL_law 752 = .ok (.iconst 1, 1) := by decide +kernel
theorem dL_law_753 : decode cL_law 753 = .ok (.iadd, 1) := by decide +kernel
theorem dL_law_754 : decode cL_law 754 = .ok (.iaload, 1) := by decide +kernel
theorem dL_law_755 : decode cL_law 755 = .ok (.aload_n 0, 1) := by decide +kernel
theorem dL_law_756 : decode cL_law 756 = .ok (.iload_n 3, 1) := by decide +kernel
theorem dL_law_757 : decode cL_law 757 = .ok (.iconst 2, 1) := by decide +kernel
theorem dL_law_758 : decode cL_law 758 = .ok (.iadd, 1) := by decide +kernel
theorem dL_law_759 : decode cL_law 759 = .ok (.iaload, 1) := by decide +kernel
theorem dL_law_760 : decode cL_law 760 = .ok (.aload_n 0, 1) := by decide +kernel
theorem dL_law_761 : decode cL_law 761 = .ok (.iload_n 3, 1) := by decide +kernel
theorem dL_law_762 : decode cL_law 762 = .ok (.iconst 3, 1) := by decide +kernel
theorem dL_law_763 : decode cL_law 763 = .ok (.iadd, 1) := by decide +kernel
theorem dL_law_764 : decode cL_law 764 = .ok (.iaload, 1) := by decide +kernel
theorem dL_law_765 : decode cL_law 765 = .ok (.invokevirtual 101, 3) := by decide +kernel
theorem dL_law_768 : decode cL_law 768 = .ok (.if_icmp .eq 391, 3) := by decide +kernel
theorem dL_law_771 : decode cL_law 771 = .ok (.iconst 0, 1) := by decide +kernel
theorem dL_law_772 : decode cL_law 772 = .ok (.ireturn, 1) := by decide +kernel
theorem dL_law_773 : decode cL_law 773 = .ok (.aload_n 1, 1) := by decide +kernel
theorem dL_law_774 : decode cL_law 774 = .ok (.aload_n 0, 1) := by decide +kernel
theorem dL_law_775 : decode cL_law 775 = .ok (.iload_n 3, 1) := by decide +kernel
theorem dL_law_776 : decode cL_law 776 = .ok (.iconst 1, 1) := by decide +kernel
theorem dL_law_777 : decode cL_law 777 = .ok (.iadd, 1) := by decide +kernel
theorem dL_law_778 : decode cL_law 778 = .ok (.iaload, 1) := by decide +kernel
theorem dL_law_779 : decode cL_law 779 = .ok (.aload_n 0, 1) := by decide +kernel
theorem dL_law_780 : decode cL_law 780 = .ok (.iload_n 3, 1) := by decide +kernel
theorem dL_law_781 : decode cL_law 781 = .ok (.iconst 2, 1) := by decide +kernel
theorem dL_law_782 : decode cL_law 782 = .ok (.iadd, 1) := by decide +kernel
theorem dL_law_783 : decode cL_law 783 = .ok (.iaload, 1) := by decide +kernel
theorem dL_law_784 : decode cL_law 784 = .ok (.aload_n 0, 1) := by decide +kernel
theorem dL_law_785 : decode cL_law 785 = .ok (.iload_n 3, 1) := by decide +kernel
theorem dL_law_786 : decode cL_law 786 = .ok (.iconst 3, 1) := by decide +kernel
theorem dL_law_787 : decode cL_law 787 = .ok (.iadd, 1) := by decide +kernel
theorem dL_law_788 : decode cL_law 788 = .ok (.iaload, 1) := by decide +kernel
theorem dL_law_789 : decode cL_law 789 = .ok (.aload_n 0, 1) := by decide +kernel
theorem dL_law_790 : decode cL_law 790 = .ok (.iload_n 3, 1) := by decide +kernel
theorem dL_law_791 : decode cL_law 791 = .ok (.iconst 4, 1) := by decide +kernel
theorem dL_law_792 : decode cL_law 792 = .ok (.iadd, 1) := by decide +kernel
theorem dL_law_793 : decode cL_law 793 = .ok (.iaload, 1) := by decide +kernel
theorem dL_law_794 : decode cL_law 794 = .ok (.invokevirtual 102, 3) := by decide +kernel
theorem dL_law_797 : decode cL_law 797 = .ok (.aload_n 2, 1) := by decide +kernel
theorem dL_law_798 : decode cL_law 798 = .ok (.aload_n 0, 1) := by decide +kernel
theorem dL_law_799 : decode cL_law 799 = .ok (.iload_n 3, 1) := by decide +kernel
theorem dL_law_800 : decode cL_law 800 = .ok (.iconst 1, 1) := by decide +kernel
theorem dL_law_801 : decode cL_law 801 = .ok (.iadd, 1) := by decide +kernel
theorem dL_law_802 : decode cL_law 802 = .ok (.iaload, 1) := by decide +kernel
theorem dL_law_803 : decode cL_law 803 = .ok (.aload_n 0, 1) := by decide +kernel
theorem dL_law_804 : decode cL_law 804 = .ok (.iload_n 3, 1) := by decide +kernel
theorem dL_law_805 : decode cL_law 805 = .ok (.iconst 2, 1) := by decide +kernel
theorem dL_law_806 : decode cL_law 806 = .ok (.iadd, 1) := by decide +kernel
theorem dL_law_807 : decode cL_law 807 = .ok (.iaload, 1) := by decide +kernel
theorem dL_law_808 : decode cL_law 808 = .ok (.aload_n 0, 1) := by decide +kernel
theorem dL_law_809 : decode cL_law 809 = .ok (.iload_n 3, 1) := by decide +kernel
theorem dL_law_810 : decode cL_law 810 = .ok (.iconst 3, 1) := by decide +kernel
theorem dL_law_811 : decode cL_law 811 = .ok (.iadd, 1) := by decide +kernel
theorem dL_law_812 : decode cL_law 812 = .ok (.iaload, 1) := by decide +kernel
theorem dL_law_813 : decode cL_law 813 = .ok (.aload_n 0, 1) := by decide +kernel
theorem dL_law_814 : decode cL_law 814 = .ok (.iload_n 3, 1) := by decide +kernel
theorem dL_law_815 : decode cL_law 815 = .ok (.iconst 4, 1) := by decide +kernel
theorem dL_law_816 : decode cL_law 816 = .ok (.iadd, 1) := by decide +kernel
theorem dL_law_817 : decode cL_law 817 = .ok (.iaload, 1) := by decide +kernel
theorem dL_law_818 : decode cL_law 818 = .ok (.invokevirtual 106, 3) := by decide +kernel
theorem dL_law_821 : decode cL_law 821 = .ok (.if_icmp .eq 338, 3) := by decide +kernel
theorem dL_law_824 : decode cL_law 824 = .ok (.iconst 0, 1) := by decide +kernel
theorem dL_law_825 : decode cL_law 825 = .ok (.ireturn, 1) := by decide +kernel
theorem dL_law_826 : decode cL_law 826 = .ok (.aload_n 1, 1) := by decide +kernel
theorem dL_law_827 : decode cL_law 827 = .ok (.aload_n 0, 1) := by decide +kernel
theorem dL_law_828 : decode cL_law 828 = .ok (.iload_n 3, 1) := by decide +kernel
theorem dL_law_829 : decode cL_law 829 = .ok (.iconst 1, 1) := by decide +kernel
theorem dL_law_830 : decode cL_law 830 = .ok (.iadd, 1) := by decide +kernel
theorem dL_law_831 : decode cL_law 831 = .ok (.iaload, 1) := by decide +kernel
theorem dL_law_832 : decode cL_law 832 = .ok (.aload_n 0, 1) := by decide +kernel
theorem dL_law_833 : decode cL_law 833 = .ok (.iload_n 3, 1) := by decide +kernel
theorem dL_law_834 : decode cL_law 834 = .ok (.iconst 2, 1) := by decide +kernel
theorem dL_law_835 : decode cL_law 835 = .ok (.iadd, 1) := by decide +kernel
theorem dL_law_836 : decode cL_law 836 = .ok (.iaload, 1) := by decide +kernel
theorem dL_law_837 : decode cL_law 837 = .ok (.aload_n 0, 1) := by decide +kernel
theorem dL_law_838 : decode cL_law 838 = .ok (.iload_n 3, 1) := by decide +kernel
theorem dL_law_839 : decode cL_law 839 = .ok (.iconst 3, 1) := by decide +kernel
theorem dL_law_840 : decode cL_law 840 = .ok (.iadd, 1) := by decide +kernel
theorem dL_law_841 : decode cL_law 841 = .ok (.iaload, 1) := by decide +kernel
theorem dL_law_842 : decode cL_law 842 = .ok (.aload_n 0, 1) := by decide +kernel
theorem dL_law_843 : decode cL_law 843 = .ok (.iload_n 3, 1) := by decide +kernel
theorem dL_law_844 : decode cL_law 844 = .ok (.iconst 4, 1) := by decide +kernel
theorem dL_law_845 : decode cL_law 845 = .ok (.iadd, 1) := by decide +kernel
theorem dL_law_846 : decode cL_law 846 = .ok (.iaload, 1) := by decide +kernel
theorem dL_law_847 : decode cL_law 847 = .ok (.invokevirtual 107, 3) := by decide +kernel
theorem dL_law_850 : decode cL_law 850 = .ok (.aload_n 2, 1) := by decide +kernel
theorem dL_law_851 : decode cL_law 851 = .ok (.aload_n 0, 1) := by decide +kernel
theorem dL_law_852 : decode cL_law 852 = .ok (.iload_n 3, 1) := by decide +kernel
theorem dL_law_853 : decode cL_law 853 = .ok (.iconst 1, 1) := by decide +kernel
theorem dL_law_854 : decode cL_law 854 = .ok (.iadd, 1) := by decide +kernel
theorem dL_law_855 : decode cL_law 855 = .ok (.iaload, 1) := by decide +kernel
theorem dL_law_856 : decode cL_law 856 = .ok (.aload_n 0, 1) := by decide +kernel
theorem dL_law_857 : decode cL_law 857 = .ok (.iload_n 3, 1) := by decide +kernel
theorem dL_law_858 : decode cL_law 858 = .ok (.iconst 2, 1) := by decide +kernel
theorem dL_law_859 : decode cL_law 859 = .ok (.iadd, 1) := by decide +kernel
theorem dL_law_860 : decode cL_law 860 = .ok (.iaload, 1) := by decide +kernel
theorem dL_law_861 : decode cL_law 861 = .ok (.aload_n 0, 1) := by decide +kernel
theorem dL_law_862 : decode cL_law 862 = .ok (.iload_n 3, 1) := by decide +kernel
theorem dL_law_863 : decode cL_law 863 = .ok (.iconst 3, 1) := by decide +kernel
theorem dL_law_864 : decode cL_law 864 = .ok (.iadd, 1) := by decide +kernel
theorem dL_law_865 : decode cL_law 865 = .ok (.iaload, 1) := by decide +kernel
theorem dL_law_866 : decode cL_law 866 = .ok (.aload_n 0, 1) := by decide +kernel
theorem dL_law_867 : decode cL_law 867 = .ok (.iload_n 3, 1) := by decide +kernel
theorem dL_law_868 : decode cL_law 868 = .ok (.iconst 4, 1) := by decide +kernel
theorem dL_law_869 : decode cL_law 869 = .ok (.iadd, 1) := by decide +kernel
theorem dL_law_870 : decode cL_law 870 = .ok (.iaload, 1) := by decide +kernel
theorem dL_law_871 : decode cL_law 871 = .ok (.invokevirtual 110, 3) := by decide +kernel
theorem dL_law_874 : decode cL_law 874 = .ok (.if_icmp .eq 285, 3) := by decide +kernel
theorem dL_law_877 : decode cL_law 877 = .ok (.iconst 0, 1) := by decide +kernel
theorem dL_law_878 : decode cL_law 878 = .ok (.ireturn, 1) := by decide +kernel
theorem dL_law_879 : decode cL_law 879 = .ok (.aload_n 1, 1) := by decide +kernel
theorem dL_law_880 : decode cL_law 880 = .ok (.aload_n 0, 1) := by decide +kernel
theorem dL_law_881 : decode cL_law 881 = .ok (.iload_n 3, 1) := by decide +kernel
theorem dL_law_882 : decode cL_law 882 = .ok (.iconst 1, 1) := by decide +kernel
theorem dL_law_883 : decode cL_law 883 = .ok (.iadd, 1) := by decide +kernel
theorem dL_law_884 : decode cL_law 884 = .ok (.iaload, 1) := by decide +kernel
theorem dL_law_885 : decode cL_law 885 = .ok (.aload_n 0, 1) := by decide +kernel
theorem dL_law_886 : decode cL_law 886 = .ok (.iload_n 3, 1) := by decide +kernel
theorem dL_law_887 : decode cL_law 887 = .ok (.iconst 2, 1) := by decide +kernel
theorem dL_law_888 : decode cL_law 888 = .ok (.iadd, 1) := by decide +kernel
theorem dL_law_889 : decode cL_law 889 = .ok (.iaload, 1) := by decide +kernel
theorem dL_law_890 : decode cL_law 890 = .ok (.aload_n 0, 1) := by decide +kernel
theorem dL_law_891 : decode cL_law 891 = .ok (.iload_n 3, 1) := by decide +kernel
theorem dL_law_892 : decode cL_law 892 = .ok (.iconst 3, 1) := by decide +kernel
theorem dL_law_893 : decode cL_law 893 = .ok (.iadd, 1) := by decide +kernel
theorem dL_law_894 : decode cL_law 894 = .ok (.iaload, 1) := by decide +kernel
theorem dL_law_895 : decode cL_law 895 = .ok (.invokevirtual 111, 3) := by decide +kernel
theorem dL_law_898 : decode cL_law 898 = .ok (.aload_n 2, 1) := by decide +kernel
theorem dL_law_899 : decode cL_law 899 = .ok (.aload_n 0, 1) := by decide +kernel
theorem dL_law_900 : decode cL_law 900 = .ok (.iload_n 3, 1) := by decide +kernel
theorem dL_law_901 : decode cL_law 901 = .ok (.iconst 1, 1) := by decide +kernel
theorem dL_law_902 : decode cL_law 902 = .ok (.iadd, 1) := by decide +kernel
theorem dL_law_903 : decode cL_law 903 = .ok (.iaload, 1) := by decide +kernel
theorem dL_law_904 : decode cL_law 904 = .ok (.aload_n 0, 1) := by decide +kernel
theorem dL_law_905 : decode cL_law 905 = .ok (.iload_n 3, 1) := by decide +kernel
theorem dL_law_906 : decode cL_law 906 = .ok (.iconst 2, 1) := by decide +kernel
theorem dL_law_907 : decode cL_law 907 = .ok (.iadd, 1) := by decide +kernel
theorem dL_law_908 : decode cL_law 908 = .ok (.iaload, 1) := by decide +kernel
theorem dL_law_909 : decode cL_law 909 = .ok (.aload_n 0, 1) := by decide +kernel
theorem dL_law_910 : decode cL_law 910 = .ok (.iload_n 3, 1) := by decide +kernel
theorem dL_law_911 : decode cL_law 911 = .ok (.iconst 3, 1) := by decide +kernel
theorem dL_law_912 : decode cL_law 912 = .ok (.iadd, 1) := by decide +kernel
theorem dL_law_913 : decode cL_law 913 = .ok (.iaload, 1) := by decide +kernel
theorem dL_law_914 : decode cL_law 914 = .ok (.invokevirtual 114, 3) := by decide +kernel
theorem dL_law_917 : decode cL_law 917 = .ok (.if_icmp .eq 242, 3) := by decide +kernel
theorem dL_law_920 : decode cL_law 920 = .ok (.iconst 0, 1) := by decide +kernel
theorem dL_law_921 : decode cL_law 921 = .ok (.ireturn, 1) := by decide +kernel
theorem dL_law_922 : decode cL_law 922 = .ok (.aload_n 1, 1) := by decide +kernel
theorem dL_law_923 : decode cL_law 923 = .ok (.aload_n 0, 1) := by decide +kernel
theorem dL_law_924 : decode cL_law 924 = .ok (.iload_n 3, 1) := by decide +kernel
theorem dL_law_925 : decode cL_law 925 = .ok (.iconst 1, 1) := by decide +kernel
theorem dL_law_926 : decode cL_law 926 = .ok (.iadd, 1) := by decide +kernel
theorem dL_law_927 : decode cL_law 927 = .ok (.iaload, 1) := by decide +kernel
theorem dL_law_928 : decode cL_law 928 = .ok (.aload_n 0, 1) := by decide +kernel
theorem dL_law_929 : decode cL_law 929 = .ok (.iload_n 3, 1) := by decide +kernel
theorem dL_law_930 : decode cL_law 930 = .ok (.iconst 2, 1) := by decide +kernel
theorem dL_law_931 : decode cL_law 931 = .ok (.iadd, 1) := by decide +kernel
theorem dL_law_932 : decode cL_law 932 = .ok (.iaload, 1) := by decide +kernel
theorem dL_law_933 : decode cL_law 933 = .ok (.aload_n 0, 1) := by decide +kernel
theorem dL_law_934 : decode cL_law 934 = .ok (.iload_n 3, 1) := by decide +kernel
theorem dL_law_935 : decode cL_law 935 = .ok (.iconst 3, 1) := by decide +kernel
theorem dL_law_936 : decode cL_law 936 = .ok (.iadd, 1) := by decide +kernel
theorem dL_law_937 : decode cL_law 937 = .ok (.iaload, 1) := by decide +kernel
theorem dL_law_938 : decode cL_law 938 = .ok (.invokevirtual 115, 3) := by decide +kernel
theorem dL_law_941 : decode cL_law 941 = .ok (.aload_n 2, 1) := by decide +kernel
theorem dL_law_942 : decode cL_law 942 = .ok (.aload_n 0, 1) := by decide +kernel
theorem dL_law_943 : decode cL_law 943 = .ok (.iload_n 3, 1) := by decide +kernel
theorem dL_law_944 : decode cL_law 944 = .ok (.iconst 1, 1) := by decide +kernel
theorem dL_law_945 : decode cL_law 945 = .ok (.iadd, 1) := by decide +kernel
theorem dL_law_946 : decode cL_law 946 = .ok (.iaload, 1) := by decide +kernel
theorem dL_law_947 : decode cL_law 947 = .ok (.aload_n 0, 1) := by decide +kernel
theorem dL_law_948 : decode cL_law 948 = .ok (.iload_n 3, 1) := by decide +kernel
theorem dL_law_949 : decode cL_law 949 = .ok (.iconst 2, 1) := by decide +kernel
theorem dL_law_950 : decode cL_law 950 = .ok (.iadd, 1) := by decide +kernel
theorem dL_law_951 : decode cL_law 951 = .ok (.iaload, 1) := by decide +kernel
theorem dL_law_952 : decode cL_law 952 = .ok (.aload_n 0, 1) := by decide +kernel
theorem dL_law_953 : decode cL_law 953 = .ok (.iload_n 3, 1) := by decide +kernel
theorem dL_law_954 : decode cL_law 954 = .ok (.iconst 3, 1) := by decide +kernel
theorem dL_law_955 : decode cL_law 955 = .ok (.iadd, 1) := by decide +kernel
theorem dL_law_956 : decode cL_law 956 = .ok (.iaload, 1) := by decide +kernel
theorem dL_law_957 : decode cL_law 957 = .ok (.invokevirtual 118, 3) := by decide +kernel
theorem dL_law_960 : decode cL_law 960 = .ok (.if_icmp .eq 199, 3) := by decide +kernel
theorem dL_law_963 : decode cL_law 963 = .ok (.iconst 0, 1) := by decide +kernel
theorem dL_law_964 : decode cL_law 964 = .ok (.ireturn, 1) := by decide +kernel
theorem dL_law_965 : decode cL_law 965 = .ok (.aload_n 1, 1) := by decide +kernel
theorem dL_law_966 : decode cL_law 966 = .ok (.aload_n 0, 1) := by decide +kernel
theorem dL_law_967 : decode cL_law 967 = .ok (.iload_n 3, 1) := by decide +kernel
theorem dL_law_968 : decode cL_law 968 = .ok (.iconst 1, 1) := by decide +kernel
theorem dL_law_969 : decode cL_law 969 = .ok (.iadd, 1) := by decide +kernel
theorem dL_law_970 : decode cL_law 970 = .ok (.iaload, 1) := by decide +kernel
theorem dL_law_971 : decode cL_law 971 = .ok (.invokevirtual 119, 3) := by decide +kernel
theorem dL_law_974 : decode cL_law 974 = .ok (.aload_n 2, 1) := by decide +kernel
theorem dL_law_975 : decode cL_law 975 = .ok (.aload_n 0, 1) := by decide +kernel
theorem dL_law_976 : decode cL_law 976 = .ok (.iload_n 3, 1) := by decide +kernel
theorem dL_law_977 : decode cL_law 977 = .ok (.iconst 1, 1) := by decide +kernel
theorem dL_law_978 : decode cL_law 978 = .ok (.iadd, 1) := by decide +kernel
theorem dL_law_979 : decode cL_law 979 = .ok (.iaload, 1) := by decide +kernel
theorem dL_law_980 : decode cL_law 980 = .ok (.invokevirtual 122, 3) := by decide +kernel
theorem dL_law_983 : decode cL_law 983 = .ok (.if_icmp .eq 176, 3) := by decide +kernel
theorem dL_law_986 : decode cL_law 986 = .ok (.iconst 0, 1) := by decide +kernel
theorem dL_law_987 : decode cL_law 987 = .ok (.ireturn, 1) := by decide +kernel
theorem dL_law_988 : decode cL_law 988 = .ok (.aload_n 1, 1) := by decide +kernel
theorem dL_law_989 : decode cL_law 989 = .ok (.aload_n 0, 1) := by decide +kernel
theorem dL_law_990 : decode cL_law 990 = .ok (.iload_n 3, 1) := by decide +kernel
theorem dL_law_991 : decode cL_law 991 = .ok (.iconst 1, 1) := by decide +kernel
theorem dL_law_992 : decode cL_law 992 = .ok (.iadd, 1) := by decide +kernel
theorem dL_law_993 : decode cL_law 993 = .ok (.iaload, 1) := by decide +kernel
theorem dL_law_994 : decode cL_law 994 = .ok (.invokevirtual 123, 3) := by decide +kernel
theorem dL_law_997 : decode cL_law 997 = .ok (.aload_n 2, 1) := by decide +kernel
theorem dL_law_998 : decode cL_law 998 = .ok (.aload_n 0, 1) := by decide +kernel
theorem dL_law_999 : decode cL_law 999 = .ok (.iload_n 3, 1) := by decide +kernel
theorem dL_law_1000 : decode cL_law 1000 = .ok (.iconst 1, 1) := by decide +kernel
theorem dL_law_1001 : decode cL_law 1001 = .ok (.iadd, 1) := by decide +kernel
theorem dL_law_1002 : decode cL_law 1002 = .ok (.iaload, 1) := by decide +kernel
theorem dL_law_1003 : decode cL_law 1003 = .ok (.invokevirtual 126, 3) := by decide +kernel
theorem dL_law_1006 : decode cL_law 1006 = .ok (.if_icmp .eq 153, 3) := by decide +kernel
theorem dL_law_1009 : decode cL_law 1009 = .ok (.iconst 0, 1) := by decide +kernel
theorem dL_law_1010 : decode cL_law 1010 = .ok (.ireturn, 1) := by decide +kernel
theorem dL_law_1011 : decode cL_law 1011 = .ok (.aload_n 1, 1) := by decide +kernel
theorem dL_law_1012 : decode cL_law 1012 = .ok (.aload_n 0, 1) := by decide +kernel
theorem dL_law_1013 : decode cL_law 1013 = .ok (.iload_n 3, 1) := by decide +kernel
theorem dL_law_1014 : decode cL_law 1014 = .ok (.iconst 1, 1) := by decide +kernel
theorem dL_law_1015 : decode cL_law 1015 = .ok (.iadd, 1) := by decide +kernel
theorem dL_law_1016 : decode cL_law 1016 = .ok (.iaload, 1) := by decide +kernel
theorem dL_law_1017 : decode cL_law 1017 = .ok (.invokevirtual 127, 3) := by decide +kernel
theorem dL_law_1020 : decode cL_law 1020 = .ok (.aload_n 2, 1) := by decide +kernel
theorem dL_law_1021 : decode cL_law 1021 = .ok (.aload_n 0, 1) := by decide +kernel
theorem dL_law_1022 : decode cL_law 1022 = .ok (.iload_n 3, 1) := by decide +kernel
theorem dL_law_1023 : decode cL_law 1023 = .ok (.iconst 1, 1) := by decide +kernel
theorem dL_law_1024 : decode cL_law 1024 = .ok (.iadd, 1) := by decide +kernel
theorem dL_law_1025 : decode cL_law 1025 = .ok (.iaload, 1) := by decide +kernel
theorem dL_law_1026 : decode cL_law 1026 = .ok (.invokevirtual 130, 3) := by decide +kernel
theorem dL_law_1029 : decode cL_law 1029 = .ok (.if_icmp .eq 130, 3) := by decide +kernel
theorem dL_law_1032 : decode cL_law 1032 = .ok (.iconst 0, 1) := by decide +kernel
theorem dL_law_1033 : decode cL_law 1033 = .ok (.ireturn, 1) := by decide +kernel
theorem dL_law_1034 : decode cL_law 1034 = .ok (.aload_n 1, 1) := by decide +kernel
theorem dL_law_1035 : decode cL_law 1035 = .ok (.aload_n 0, 1) := by decide +kernel
theorem dL_law_1036 : decode cL_law 1036 = .ok (.iload_n 3, 1) := by decide +kernel
theorem dL_law_1037 : decode cL_law 1037 = .ok (.iconst 1, 1) := by decide +kernel
theorem dL_law_1038 : decode cL_law 1038 = .ok (.iadd, 1) := by decide +kernel
theorem dL_law_1039 : decode cL_law 1039 = .ok (.iaload, 1) := by decide +kernel
theorem dL_law_1040 : decode cL_law 1040 = .ok (.aload_n 0, 1) := by decide +kernel
theorem dL_law_1041 : decode cL_law 1041 = .ok (.iload_n 3, 1) := by decide +kernel
theorem dL_law_1042 : decode cL_law 1042 = .ok (.iconst 2, 1) := by decide +kernel
theorem dL_law_1043 : decode cL_law 1043 = .ok (.iadd, 1) := by decide +kernel
theorem dL_law_1044 : decode cL_law 1044 = .ok (.iaload, 1) := by decide +kernel
theorem dL_law_1045 : decode cL_law 1045 = .ok (.invokevirtual 131, 3) := by decide +kernel
theorem dL_law_1048 : decode cL_law 1048 = .ok (.aload_n 2, 1) := by decide +kernel
theorem dL_law_1049 : decode cL_law 1049 = .ok (.aload_n 0, 1) := by decide +kernel
theorem dL_law_1050 : decode cL_law 1050 = .ok (.iload_n 3, 1) := by decide +kernel
theorem dL_law_1051 : decode cL_law 1051 = .ok (.iconst 1, 1) := by decide +kernel
theorem dL_law_1052 : decode cL_law 1052 = .ok (.iadd, 1) := by decide +kernel
theorem dL_law_1053 : decode cL_law 1053 = .ok (.iaload, 1) := by decide +kernel
theorem dL_law_1054 : decode cL_law 1054 = .ok (.aload_n 0, 1) := by decide +kernel
theorem dL_law_1055 : decode cL_law 1055 = .ok (.iload_n 3, 1) := by decide +kernel
theorem dL_law_1056 : decode cL_law 1056 = .ok (.iconst 2, 1) := by decide +kernel
theorem dL_law_1057 : decode cL_law 1057 = .ok (.iadd, 1) := by decide +kernel
theorem dL_law_1058 : decode cL_law 1058 = .ok (.iaload, 1) := by decide +kernel
theorem dL_law_1059 : decode cL_law 1059 = .ok (.invokevirtual 134, 3) := by decide +kernel
theorem dL_law_1062 : decode cL_law 1062 = .ok (.if_icmp .eq 97, 3) := by decide +kernel
theorem dL_law_1065 : decode cL_law 1065 = .ok (.iconst 0, 1) := by decide +kernel
theorem dL_law_1066 : decode cL_law 1066 = .ok (.ireturn, 1) := by decide +kernel
theorem dL_law_1067 : decode cL_law 1067 = .ok (.aload_n 1, 1) := by decide +kernel
theorem dL_law_1068 : decode cL_law 1068 = .ok (.aload_n 0, 1) := by decide +kernel
theorem dL_law_1069 : decode cL_law 1069 = .ok (.iload_n 3, 1) := by decide +kernel
theorem dL_law_1070 : decode cL_law 1070 = .ok (.iconst 1, 1) := by decide +kernel
theorem dL_law_1071 : decode cL_law 1071 = .ok (.iadd, 1) := by decide +kernel
theorem dL_law_1072 : decode cL_law 1072 = .ok (.iaload, 1) := by decide +kernel
theorem dL_law_1073 : decode cL_law 1073 = .ok (.aload_n 0, 1) := by decide +kernel
theorem dL_law_1074 : decode cL_law 1074 = .ok (.iload_n 3, 1) := by decide +kernel
theorem dL_law_1075 : decode cL_law 1075 = .ok (.iconst 2, 1) := by decide +kernel
theorem dL_law_1076 : decode cL_law 1076 = .ok (.iadd, 1) := by decide +kernel
theorem dL_law_1077 : decode cL_law 1077 = .ok (.iaload, 1) := by decide +kernel
theorem dL_law_1078 : decode cL_law 1078 = .ok (.invokevirtual 135, 3) := by decide +kernel
theorem dL_law_1081 : decode cL_law 1081 = .ok (.aload_n 2, 1) := by decide +kernel
theorem dL_law_1082 : decode cL_law 1082 = .ok (.aload_n 0, 1) := by decide +kernel
theorem dL_law_1083 : decode cL_law 1083 = .ok (.iload_n 3, 1) := by decide +kernel
theorem dL_law_1084 : decode cL_law 1084 = .ok (.iconst 1, 1) := by decide +kernel
theorem dL_law_1085 : decode cL_law 1085 = .ok (.iadd, 1) := by decide +kernel
theorem dL_law_1086 : decode cL_law 1086 = .ok (.iaload, 1) := by decide +kernel
theorem dL_law_1087 : decode cL_law 1087 = .ok (.aload_n 0, 1) := by decide +kernel
theorem dL_law_1088 : decode cL_law 1088 = .ok (.iload_n 3, 1) := by decide +kernel
theorem dL_law_1089 : decode cL_law 1089 = .ok (.iconst 2, 1) := by decide +kernel
theorem dL_law_1090 : decode cL_law 1090 = .ok (.iadd, 1) := by decide +kernel
theorem dL_law_1091 : decode cL_law 1091 = .ok (.iaload, 1) := by decide +kernel
theorem dL_law_1092 : decode cL_law 1092 = .ok (.invokevirtual 138, 3) := by decide +kernel
theorem dL_law_1095 : decode cL_law 1095 = .ok (.if_icmp .eq 64, 3) := by decide +kernel
theorem dL_law_1098 : decode cL_law 1098 = .ok (.iconst 0, 1) := by decide +kernel
theorem dL_law_1099 : decode cL_law 1099 = .ok (.ireturn, 1) := by decide +kernel
theorem dL_law_1100 : decode cL_law 1100 = .ok (.aload_n 1, 1) := by decide +kernel
theorem dL_law_1101 : decode cL_law 1101 = .ok (.aload_n 0, 1) := by decide +kernel
theorem dL_law_1102 : decode cL_law 1102 = .ok (.iload_n 3, 1) := by decide +kernel
theorem dL_law_1103 : decode cL_law 1103 = .ok (.iconst 1, 1) := by decide +kernel
theorem dL_law_1104 : decode cL_law 1104 = .ok (.iadd, 1) := by decide +kernel
theorem dL_law_1105 : decode cL_law 1105 = .ok (.iaload, 1) := by decide +kernel
theorem dL_law_1106 : decode cL_law 1106 = .ok (.invokevirtual 139, 3) := by decide +kernel
theorem dL_law_1109 : decode cL_law 1109 = .ok (.aload_n 2, 1) := by decide +kernel
theorem dL_law_1110 : decode cL_law 1110 = .ok (.aload_n 0, 1) := by decide +kernel
theorem dL_law_1111 : decode cL_law 1111 = .ok (.iload_n 3, 1) := by decide +kernel
theorem dL_law_1112 : decode cL_law 1112 = .ok (.iconst 1, 1) := by decide +kernel
theorem dL_law_1113 : decode cL_law 1113 = .ok (.iadd, 1) := by decide +kernel
theorem dL_law_1114 : decode cL_law 1114 = .ok (.iaload, 1) := by decide +kernel
theorem dL_law_1115 : decode cL_law 1115 = .ok (.invokevirtual 142, 3) := by decide +kernel
theorem dL_law_1118 : decode cL_law 1118 = .ok (.if_icmp .eq 41, 3) := by decide +kernel
theorem dL_law_1121 : decode cL_law 1121 = .ok (.iconst 0, 1) := by decide +kernel
theorem dL_law_1122 : decode cL_law 1122 = .ok (.ireturn, 1) := by decide +kernel
theorem dL_law_1123 : decode cL_law 1123 = .ok (.aload_n 1, 1) := by decide +kernel
theorem dL_law_1124 : decode cL_law 1124 = .ok (.aload_n 0, 1) := by decide +kernel
theorem dL_law_1125 : decode cL_law 1125 = .ok (.iload_n 3, 1) := by decide +kernel
theorem dL_law_1126 : decode cL_law 1126 = .ok (.iconst 1, 1) := by decide +kernel
theorem dL_law_1127 : decode cL_law 1127 = .ok (.iadd, 1) := by decide +kernel
theorem dL_law_1128 : decode cL_law 1128 = .ok (.iaload, 1) := by decide +kernel
theorem dL_law_1129 : decode cL_law 1129 = .ok (.invokevirtual 143, 3) := by decide +kernel
theorem dL_law_1132 : decode cL_law 1132 = .ok (.aload_n 2, 1) := by decide +kernel
theorem dL_law_1133 : decode cL_law 1133 = .ok (.aload_n 0, 1) := by decide +kernel
theorem dL_law_1134 : decode cL_law 1134 = .ok (.iload_n 3, 1) := by decide +kernel
theorem dL_law_1135 : decode cL_law 1135 = .ok (.iconst 1, 1) := by decide +kernel
theorem dL_law_1136 : decode cL_law 1136 = .ok (.iadd, 1) := by decide +kernel
theorem dL_law_1137 : decode cL_law 1137 = .ok (.iaload, 1) := by decide +kernel
theorem dL_law_1138 : decode cL_law 1138 = .ok (.invokevirtual 146, 3) := by decide +kernel
theorem dL_law_1141 : decode cL_law 1141 = .ok (.if_icmp .eq 18, 3) := by decide +kernel
theorem dL_law_1144 : decode cL_law 1144 = .ok (.iconst 0, 1) := by decide +kernel
theorem dL_law_1145 : decode cL_law 1145 = .ok (.ireturn, 1) := by decide +kernel
theorem dL_law_1146 : decode cL_law 1146 = .ok (.aload_n 1, 1) := by decide +kernel
theorem dL_law_1147 : decode cL_law 1147 = .ok (.invokevirtual 147, 3) := by decide +kernel
theorem dL_law_1150 : decode cL_law 1150 = .ok (.aload_n 2, 1) := by decide +kernel
theorem dL_law_1151 : decode cL_law 1151 = .ok (.invokevirtual 150, 3) := by decide +kernel
theorem dL_law_1154 : decode cL_law 1154 = .ok (.if_icmp .eq 5, 3) := by decide +kernel
theorem dL_law_1157 : decode cL_law 1157 = .ok (.iconst 0, 1) := by decide +kernel
theorem dL_law_1158 : decode cL_law 1158 = .ok (.ireturn, 1) := by decide +kernel
theorem dL_law_1159 : decode cL_law 1159 = .ok (.iinc 3 6, 3) := by decide +kernel
theorem dL_law_1162 : decode cL_law 1162 = .ok (.goto (-1144), 3) := by decide +kernel
theorem dL_law_1165 : decode cL_law 1165 = .ok (.iconst 1, 1) := by decide +kernel
theorem dL_law_1166 : decode cL_law 1166 = .ok (.ireturn, 1) := by decide +kernel
end
section
/-- the words that a method keeps through a call -/
def hc_tb : List Cond := lw_tbl.filter goodWord
theorem hc_tb_of {w : Cond} (i : Nat) (h : lw_tbl[i]? = some w) (g : goodWord w = true) : w ∈ hc_tb := List.mem_filter.mpr ⟨List.mem_of_getElem? h, g⟩
theorem hc_good : GoodIn hc_tb hc_tb := fun w hw => ⟨hw, good_of_word (List.mem_filter.mp hw).2⟩
/-- a field by its pool place: class ci of vwCl, field j -/
def hc_FL (own : String) (idx ci j : Nat) : Prop := ∃ q : vw_C, vwCl[ci]? = some q ∧ j < q.2.2 ∧ (∀ w ∈ u_ws q.1 q.2.1 q.2.2, w ∈ hc_tb) ∧ Cond.fieldLink own idx (q.2.1 j).1 (q.2.1 j).2.1 (q.2.1 j).2.2.1 ∈ hc_tb
def hc_PL (ci j : Nat) (ty : FieldType) : Prop := ∃ (q : vw_C) (ty0 : Nat → FieldType), vwCl[ci]? = some q ∧ (∀ k, k < q.2.2 → parseFieldDescriptor (q.2.1 k).2.2.1 = some (ty0 k)) ∧ (∀ a, a < q.2.2 → ∀ b, b < q.2.2 → a ≠ b → (q.2.1 a).2.1 ≠ (q.2.1 b).2.1) ∧ (q.2.1 j).2.2.2 = false ∧ parseFieldDescriptor (q.2.1 j).2.2.1 = some ty
/-- words of a call, virtual and static -/
def hc_CB (own : String) (idx : Nat) (y : MethodName) (bytes : ByteArray) (maxL : Nat) (rt : Option FieldType) (n : Nat) : Prop := Cond.code y bytes maxL rt ∈ hc_tb ∧ Cond.initialized y.cls ∈ hc_tb ∧ Cond.methodLink own idx y ∈ hc_tb ∧ (y.cls ≠ "java/lang/invoke/MethodHandle" ∧ y.cls ≠ "java/lang/invoke/VarHandle" ∧ (parseMethodDescriptor y.desc).map (fun d => d.parameters.length) = some n) ∧ maxL ≤ 21
def hc_MV (own : String) (idx : Nat) (y : MethodName) (bytes : ByteArray) (maxL : Nat) (rt : Option FieldType) (n : Nat) : Prop := hc_CB own idx y bytes maxL rt n ∧ Cond.instanceMethod y ∈ hc_tb ∧ Cond.selects y.cls y y ∈ hc_tb
def hc_MS (own : String) (idx : Nat) (y : MethodName) (bytes : ByteArray) (maxL : Nat) (rt : Option FieldType) (n : Nat) : Prop := hc_CB own idx y bytes maxL rt n ∧ Cond.static y ∈ hc_tb
end
section
theorem hc_tb_1 {w : Cond} (i : Nat) (h : tables_1_1[i]? = some w) (g : goodWord w = true) : w ∈ hc_tb := by
  have q := List.mem_of_getElem? h
  refine List.mem_filter.mpr ⟨?_, g⟩
  unfold lw_tbl tables_1
  simp only [List.mem_append]
  exact Or.inr (Or.inl q)
theorem hc_tb_2 {w : Cond} (i : Nat) (h : tables_1_2[i]? = some w) (g : goodWord w = true) : w ∈ hc_tb := by
  have q := List.mem_of_getElem? h
  refine List.mem_filter.mpr ⟨?_, g⟩
  unfold lw_tbl tables_1
  simp only [List.mem_append]
  exact Or.inr (Or.inr (Or.inl q))
theorem hc_tb_3 {w : Cond} (i : Nat) (h : tables_1_3[i]? = some w) (g : goodWord w = true) : w ∈ hc_tb := by
  have q := List.mem_of_getElem? h
  refine List.mem_filter.mpr ⟨?_, g⟩
  unfold lw_tbl tables_1
  simp only [List.mem_append]
  exact Or.inr (Or.inr (Or.inr (Or.inl q)))
theorem hc_tb_4 {w : Cond} (i : Nat) (h : tables_1_4[i]? = some w) (g : goodWord w = true) : w ∈ hc_tb := by
  have q := List.mem_of_getElem? h
  refine List.mem_filter.mpr ⟨?_, g⟩
  unfold lw_tbl tables_1
  simp only [List.mem_append]
  exact Or.inr (Or.inr (Or.inr (Or.inr (Or.inl q))))
theorem hc_tb_5 {w : Cond} (i : Nat) (h : tables_1_5[i]? = some w) (g : goodWord w = true) : w ∈ hc_tb := by
  have q := List.mem_of_getElem? h
  refine List.mem_filter.mpr ⟨?_, g⟩
  unfold lw_tbl tables_1
  simp only [List.mem_append]
  exact Or.inr (Or.inr (Or.inr (Or.inr (Or.inr q))))
theorem hin_X0 : ∀ w ∈ u_ws RX0 TX0 4, w ∈ hc_tb := by decide +kernel
theorem hin_X1 : ∀ w ∈ u_ws RX1 TX1 6, w ∈ hc_tb := by decide +kernel
theorem hin_X3 : ∀ w ∈ u_ws RX3 TX3 17, w ∈ hc_tb := by decide +kernel
theorem hin_X5 : ∀ w ∈ u_ws RX5 TX5 3, w ∈ hc_tb := by decide +kernel
theorem hin_X6 : ∀ w ∈ u_ws RX6 TX6 9, w ∈ hc_tb := by decide +kernel
theorem hin_X7 : ∀ w ∈ u_ws RX7 TX7 9, w ∈ hc_tb := by decide +kernel
theorem hin_X8 : ∀ w ∈ u_ws RX8 TX8 23, w ∈ hc_tb := by decide +kernel
set_option maxRecDepth 100000 in
theorem ms_X5_21 : hc_MS RX5 21 yJ7_fill_53178 cJ7_fill_53178 4 none 2 := ⟨⟨hc_tb_1 32 (by rfl) rfl, hc_tb_1 3 (by rfl) rfl, hc_tb_1 30 (by rfl) rfl, by decide +kernel, by decide⟩, hc_tb_1 31 (by rfl) rfl⟩
set_option maxRecDepth 100000 in
theorem fl_X5_11 : hc_FL RX5 11 3 0 := ⟨(RX5, TX5, 3), rfl, by decide, hin_X5, hc_tb_1 33 (by rfl) rfl⟩
set_option maxRecDepth 100000 in
theorem fl_X5_15 : hc_FL RX5 15 3 1 := ⟨(RX5, TX5, 3), rfl, by decide, hin_X5, hc_tb_1 34 (by rfl) rfl⟩
set_option maxRecDepth 100000 in
theorem fl_X5_18 : hc_FL RX5 18 3 2 := ⟨(RX5, TX5, 3), rfl, by decide, hin_X5, hc_tb_1 35 (by rfl) rfl⟩
set_option maxRecDepth 100000 in
theorem fl_X6_13 : hc_FL RX6 13 4 0 := ⟨(RX6, TX6, 9), rfl, by decide, hin_X6, hc_tb_1 50 (by rfl) rfl⟩
set_option maxRecDepth 100000 in
theorem fl_X6_17 : hc_FL RX6 17 4 1 := ⟨(RX6, TX6, 9), rfl, by decide, hin_X6, hc_tb_1 51 (by rfl) rfl⟩
theorem pl_4_1 : hc_PL 4 1 .int := ⟨(RX6, TX6, 9), tyX6, rfl, tyX6_ok, nmX6, rfl, by decide +kernel⟩
set_option maxRecDepth 100000 in
theorem fl_X7_292 : hc_FL RX7 292 4 1 := ⟨(RX6, TX6, 9), rfl, by decide, hin_X6, hc_tb_1 52 (by rfl) rfl⟩
set_option maxRecDepth 100000 in
theorem fl_X6_21 : hc_FL RX6 21 4 2 := ⟨(RX6, TX6, 9), rfl, by decide, hin_X6, hc_tb_1 53 (by rfl) rfl⟩
theorem pl_4_2 : hc_PL 4 2 .int := ⟨(RX6, TX6, 9), tyX6, rfl, tyX6_ok, nmX6, rfl, by decide +kernel⟩
set_option maxRecDepth 100000 in
theorem fl_X7_109 : hc_FL RX7 109 4 2 := ⟨(RX6, TX6, 9), rfl, by decide, hin_X6, hc_tb_1 54 (by rfl) rfl⟩
set_option maxRecDepth 100000 in
theorem fl_X6_24 : hc_FL RX6 24 4 3 := ⟨(RX6, TX6, 9), rfl, by decide, hin_X6, hc_tb_1 55 (by rfl) rfl⟩
theorem pl_4_3 : hc_PL 4 3 .int := ⟨(RX6, TX6, 9), tyX6, rfl, tyX6_ok, nmX6, rfl, by decide +kernel⟩
set_option maxRecDepth 100000 in
theorem fl_X6_27 : hc_FL RX6 27 4 4 := ⟨(RX6, TX6, 9), rfl, by decide, hin_X6, hc_tb_1 56 (by rfl) rfl⟩
set_option maxRecDepth 100000 in
theorem fl_X3_77 : hc_FL RX3 77 4 4 := ⟨(RX6, TX6, 9), rfl, by decide, hin_X6, hc_tb_1 57 (by rfl) rfl⟩
set_option maxRecDepth 100000 in
theorem fl_X6_30 : hc_FL RX6 30 4 5 := ⟨(RX6, TX6, 9), rfl, by decide, hin_X6, hc_tb_1 58 (by rfl) rfl⟩
theorem pl_4_5 : hc_PL 4 5 .int := ⟨(RX6, TX6, 9), tyX6, rfl, tyX6_ok, nmX6, rfl, by decide +kernel⟩
set_option maxRecDepth 100000 in
theorem fl_X3_76 : hc_FL RX3 76 4 5 := ⟨(RX6, TX6, 9), rfl, by decide, hin_X6, hc_tb_1 59 (by rfl) rfl⟩
set_option maxRecDepth 100000 in
theorem fl_X6_33 : hc_FL RX6 33 4 6 := ⟨(RX6, TX6, 9), rfl, by decide, hin_X6, hc_tb_1 60 (by rfl) rfl⟩
theorem pl_4_6 : hc_PL 4 6 .int := ⟨(RX6, TX6, 9), tyX6, rfl, tyX6_ok, nmX6, rfl, by decide +kernel⟩
set_option maxRecDepth 100000 in
theorem fl_X3_82 : hc_FL RX3 82 4 6 := ⟨(RX6, TX6, 9), rfl, by decide, hin_X6, hc_tb_1 61 (by rfl) rfl⟩
set_option maxRecDepth 100000 in
theorem fl_X6_36 : hc_FL RX6 36 4 7 := ⟨(RX6, TX6, 9), rfl, by decide, hin_X6, hc_tb_1 62 (by rfl) rfl⟩
set_option maxRecDepth 100000 in
theorem fl_X6_39 : hc_FL RX6 39 4 8 := ⟨(RX6, TX6, 9), rfl, by decide, hin_X6, hc_tb_1 63 (by rfl) rfl⟩
theorem pl_4_8 : hc_PL 4 8 .int := ⟨(RX6, TX6, 9), tyX6, rfl, tyX6_ok, nmX6, rfl, by decide +kernel⟩
set_option maxRecDepth 100000 in
theorem fl_X3_7 : hc_FL RX3 7 2 0 := ⟨(RX3, TX3, 17), rfl, by decide, hin_X3, hc_tb_1 89 (by rfl) rfl⟩
theorem pl_2_0 : hc_PL 2 0 .boolean := ⟨(RX3, TX3, 17), tyX3, rfl, tyX3_ok, nmX3, rfl, by decide +kernel⟩
set_option maxRecDepth 100000 in
theorem fl_X7_123 : hc_FL RX7 123 2 0 := ⟨(RX3, TX3, 17), rfl, by decide, hin_X3, hc_tb_1 90 (by rfl) rfl⟩
set_option maxRecDepth 100000 in
theorem fl_X3_13 : hc_FL RX3 13 2 1 := ⟨(RX3, TX3, 17), rfl, by decide, hin_X3, hc_tb_1 91 (by rfl) rfl⟩
theorem pl_2_1 : hc_PL 2 1 .int := ⟨(RX3, TX3, 17), tyX3, rfl, tyX3_ok, nmX3, rfl, by decide +kernel⟩
set_option maxRecDepth 100000 in
theorem fl_X0_41 : hc_FL RX0 41 2 1 := ⟨(RX3, TX3, 17), rfl, by decide, hin_X3, hc_tb_1 92 (by rfl) rfl⟩
set_option maxRecDepth 100000 in
theorem fl_X7_163 : hc_FL RX7 163 2 1 := ⟨(RX3, TX3, 17), rfl, by decide, hin_X3, hc_tb_1 93 (by rfl) rfl⟩
set_option maxRecDepth 100000 in
theorem fl_X3_17 : hc_FL RX3 17 2 2 := ⟨(RX3, TX3, 17), rfl, by decide, hin_X3, hc_tb_1 94 (by rfl) rfl⟩
theorem pl_2_2 : hc_PL 2 2 .int := ⟨(RX3, TX3, 17), tyX3, rfl, tyX3_ok, nmX3, rfl, by decide +kernel⟩
set_option maxRecDepth 100000 in
theorem fl_X2_15 : hc_FL RX2 15 2 2 := ⟨(RX3, TX3, 17), rfl, by decide, hin_X3, hc_tb_1 95 (by rfl) rfl⟩
set_option maxRecDepth 100000 in
theorem fl_X7_128 : hc_FL RX7 128 2 2 := ⟨(RX3, TX3, 17), rfl, by decide, hin_X3, hc_tb_1 96 (by rfl) rfl⟩
set_option maxRecDepth 100000 in
theorem fl_X3_20 : hc_FL RX3 20 2 3 := ⟨(RX3, TX3, 17), rfl, by decide, hin_X3, hc_tb_1 97 (by rfl) rfl⟩
theorem pl_2_3 : hc_PL 2 3 .int := ⟨(RX3, TX3, 17), tyX3, rfl, tyX3_ok, nmX3, rfl, by decide +kernel⟩
set_option maxRecDepth 100000 in
theorem fl_X2_9 : hc_FL RX2 9 2 3 := ⟨(RX3, TX3, 17), rfl, by decide, hin_X3, hc_tb_1 98 (by rfl) rfl⟩
set_option maxRecDepth 100000 in
theorem fl_X7_138 : hc_FL RX7 138 2 3 := ⟨(RX3, TX3, 17), rfl, by decide, hin_X3, hc_tb_1 99 (by rfl) rfl⟩
set_option maxRecDepth 100000 in
theorem fl_X3_23 : hc_FL RX3 23 2 4 := ⟨(RX3, TX3, 17), rfl, by decide, hin_X3, hc_tb_1 100 (by rfl) rfl⟩
theorem pl_2_4 : hc_PL 2 4 .int := ⟨(RX3, TX3, 17), tyX3, rfl, tyX3_ok, nmX3, rfl, by decide +kernel⟩
set_option maxRecDepth 100000 in
theorem fl_X2_64 : hc_FL RX2 64 2 4 := ⟨(RX3, TX3, 17), rfl, by decide, hin_X3, hc_tb_1 101 (by rfl) rfl⟩
set_option maxRecDepth 100000 in
theorem fl_X7_155 : hc_FL RX7 155 2 4 := ⟨(RX3, TX3, 17), rfl, by decide, hin_X3, hc_tb_1 102 (by rfl) rfl⟩
set_option maxRecDepth 100000 in
theorem fl_X3_26 : hc_FL RX3 26 2 5 := ⟨(RX3, TX3, 17), rfl, by decide, hin_X3, hc_tb_1 103 (by rfl) rfl⟩
theorem pl_2_5 : hc_PL 2 5 .int := ⟨(RX3, TX3, 17), tyX3, rfl, tyX3_ok, nmX3, rfl, by decide +kernel⟩
set_option maxRecDepth 100000 in
theorem fl_X7_120 : hc_FL RX7 120 2 5 := ⟨(RX3, TX3, 17), rfl, by decide, hin_X3, hc_tb_1 104 (by rfl) rfl⟩
set_option maxRecDepth 100000 in
theorem fl_X3_29 : hc_FL RX3 29 2 6 := ⟨(RX3, TX3, 17), rfl, by decide, hin_X3, hc_tb_1 105 (by rfl) rfl⟩
theorem pl_2_6 : hc_PL 2 6 .int := ⟨(RX3, TX3, 17), tyX3, rfl, tyX3_ok, nmX3, rfl, by decide +kernel⟩
set_option maxRecDepth 100000 in
theorem fl_X2_52 : hc_FL RX2 52 2 6 := ⟨(RX3, TX3, 17), rfl, by decide, hin_X3, hc_tb_1 106 (by rfl) rfl⟩
set_option maxRecDepth 100000 in
theorem fl_X7_286 : hc_FL RX7 286 2 6 := ⟨(RX3, TX3, 17), rfl, by decide, hin_X3, hc_tb_1 107 (by rfl) rfl⟩
set_option maxRecDepth 100000 in
theorem fl_X3_32 : hc_FL RX3 32 2 7 := ⟨(RX3, TX3, 17), rfl, by decide, hin_X3, hc_tb_1 108 (by rfl) rfl⟩
set_option maxRecDepth 100000 in
theorem fl_X1_29 : hc_FL RX1 29 2 7 := ⟨(RX3, TX3, 17), rfl, by decide, hin_X3, hc_tb_1 109 (by rfl) rfl⟩
set_option maxRecDepth 100000 in
theorem fl_X7_262 : hc_FL RX7 262 2 7 := ⟨(RX3, TX3, 17), rfl, by decide, hin_X3, hc_tb_1 110 (by rfl) rfl⟩
set_option maxRecDepth 100000 in
theorem fl_X3_36 : hc_FL RX3 36 2 8 := ⟨(RX3, TX3, 17), rfl, by decide, hin_X3, hc_tb_1 111 (by rfl) rfl⟩
set_option maxRecDepth 100000 in
theorem fl_X1_34 : hc_FL RX1 34 2 8 := ⟨(RX3, TX3, 17), rfl, by decide, hin_X3, hc_tb_1 112 (by rfl) rfl⟩
set_option maxRecDepth 100000 in
theorem fl_X2_91 : hc_FL RX2 91 2 8 := ⟨(RX3, TX3, 17), rfl, by decide, hin_X3, hc_tb_1 113 (by rfl) rfl⟩
set_option maxRecDepth 100000 in
theorem fl_X7_173 : hc_FL RX7 173 2 8 := ⟨(RX3, TX3, 17), rfl, by decide, hin_X3, hc_tb_1 114 (by rfl) rfl⟩
set_option maxRecDepth 100000 in
theorem fl_X3_39 : hc_FL RX3 39 2 9 := ⟨(RX3, TX3, 17), rfl, by decide, hin_X3, hc_tb_1 115 (by rfl) rfl⟩
set_option maxRecDepth 100000 in
theorem fl_X0_32 : hc_FL RX0 32 2 9 := ⟨(RX3, TX3, 17), rfl, by decide, hin_X3, hc_tb_1 116 (by rfl) rfl⟩
set_option maxRecDepth 100000 in
theorem fl_X7_144 : hc_FL RX7 144 2 9 := ⟨(RX3, TX3, 17), rfl, by decide, hin_X3, hc_tb_1 117 (by rfl) rfl⟩
set_option maxRecDepth 100000 in
theorem fl_X3_42 : hc_FL RX3 42 2 10 := ⟨(RX3, TX3, 17), rfl, by decide, hin_X3, hc_tb_1 118 (by rfl) rfl⟩
set_option maxRecDepth 100000 in
theorem fl_X3_45 : hc_FL RX3 45 2 11 := ⟨(RX3, TX3, 17), rfl, by decide, hin_X3, hc_tb_1 119 (by rfl) rfl⟩
set_option maxRecDepth 100000 in
theorem fl_X3_48 : hc_FL RX3 48 2 12 := ⟨(RX3, TX3, 17), rfl, by decide, hin_X3, hc_tb_1 120 (by rfl) rfl⟩
set_option maxRecDepth 100000 in
theorem fl_X1_37 : hc_FL RX1 37 2 12 := ⟨(RX3, TX3, 17), rfl, by decide, hin_X3, hc_tb_1 121 (by rfl) rfl⟩
set_option maxRecDepth 100000 in
theorem fl_X7_182 : hc_FL RX7 182 2 12 := ⟨(RX3, TX3, 17), rfl, by decide, hin_X3, hc_tb_1 122 (by rfl) rfl⟩
set_option maxRecDepth 100000 in
theorem fl_X2_94 : hc_FL RX2 94 2 12 := ⟨(RX3, TX3, 17), rfl, by decide, hin_X3, hc_tb_1 123 (by rfl) rfl⟩
set_option maxRecDepth 100000 in
theorem fl_X3_51 : hc_FL RX3 51 2 13 := ⟨(RX3, TX3, 17), rfl, by decide, hin_X3, hc_tb_1 124 (by rfl) rfl⟩
set_option maxRecDepth 100000 in
theorem fl_X2_41 : hc_FL RX2 41 2 13 := ⟨(RX3, TX3, 17), rfl, by decide, hin_X3, hc_tb_1 125 (by rfl) rfl⟩
set_option maxRecDepth 100000 in
theorem fl_X3_54 : hc_FL RX3 54 2 14 := ⟨(RX3, TX3, 17), rfl, by decide, hin_X3, hc_tb_1 126 (by rfl) rfl⟩
set_option maxRecDepth 100000 in
theorem fl_X2_33 : hc_FL RX2 33 2 14 := ⟨(RX3, TX3, 17), rfl, by decide, hin_X3, hc_tb_1 127 (by rfl) rfl⟩
set_option maxRecDepth 100000 in
theorem fl_X3_57 : hc_FL RX3 57 2 15 := ⟨(RX3, TX3, 17), rfl, by decide, hin_X3, hc_tb_1 128 (by rfl) rfl⟩
set_option maxRecDepth 100000 in
theorem fl_X2_58 : hc_FL RX2 58 2 15 := ⟨(RX3, TX3, 17), rfl, by decide, hin_X3, hc_tb_1 129 (by rfl) rfl⟩
set_option maxRecDepth 100000 in
theorem fl_X3_60 : hc_FL RX3 60 2 16 := ⟨(RX3, TX3, 17), rfl, by decide, hin_X3, hc_tb_1 130 (by rfl) rfl⟩
set_option maxRecDepth 100000 in
theorem fl_X0_9 : hc_FL RX0 9 0 0 := ⟨(RX0, TX0, 4), rfl, by decide, hin_X0, hc_tb_1 172 (by rfl) rfl⟩
set_option maxRecDepth 100000 in
theorem fl_X0_13 : hc_FL RX0 13 0 1 := ⟨(RX0, TX0, 4), rfl, by decide, hin_X0, hc_tb_1 173 (by rfl) rfl⟩
set_option maxRecDepth 100000 in
theorem fl_X0_16 : hc_FL RX0 16 0 2 := ⟨(RX0, TX0, 4), rfl, by decide, hin_X0, hc_tb_1 174 (by rfl) rfl⟩
set_option maxRecDepth 100000 in
theorem fl_X0_19 : hc_FL RX0 19 0 3 := ⟨(RX0, TX0, 4), rfl, by decide, hin_X0, hc_tb_1 175 (by rfl) rfl⟩
theorem pl_0_3 : hc_PL 0 3 .int := ⟨(RX0, TX0, 4), tyX0, rfl, tyX0_ok, nmX0, rfl, by decide +kernel⟩
set_option maxRecDepth 100000 in
theorem fl_X7_166 : hc_FL RX7 166 0 3 := ⟨(RX0, TX0, 4), rfl, by decide, hin_X0, hc_tb_1 176 (by rfl) rfl⟩
set_option maxRecDepth 100000 in
theorem fl_X1_9 : hc_FL RX1 9 1 0 := ⟨(RX1, TX1, 6), rfl, by decide, hin_X1, hc_tb_1 192 (by rfl) rfl⟩
set_option maxRecDepth 100000 in
theorem fl_X7_280 : hc_FL RX7 280 1 0 := ⟨(RX1, TX1, 6), rfl, by decide, hin_X1, hc_tb_1 193 (by rfl) rfl⟩
set_option maxRecDepth 100000 in
theorem fl_X1_13 : hc_FL RX1 13 1 1 := ⟨(RX1, TX1, 6), rfl, by decide, hin_X1, hc_tb_1 194 (by rfl) rfl⟩
theorem pl_1_1 : hc_PL 1 1 .int := ⟨(RX1, TX1, 6), tyX1, rfl, tyX1_ok, nmX1, rfl, by decide +kernel⟩
set_option maxRecDepth 100000 in
theorem fl_X7_277 : hc_FL RX7 277 1 1 := ⟨(RX1, TX1, 6), rfl, by decide, hin_X1, hc_tb_1 195 (by rfl) rfl⟩
set_option maxRecDepth 100000 in
theorem fl_X1_17 : hc_FL RX1 17 1 2 := ⟨(RX1, TX1, 6), rfl, by decide, hin_X1, hc_tb_1 196 (by rfl) rfl⟩
theorem pl_1_2 : hc_PL 1 2 .int := ⟨(RX1, TX1, 6), tyX1, rfl, tyX1_ok, nmX1, rfl, by decide +kernel⟩
set_option maxRecDepth 100000 in
theorem fl_X1_20 : hc_FL RX1 20 1 3 := ⟨(RX1, TX1, 6), rfl, by decide, hin_X1, hc_tb_1 197 (by rfl) rfl⟩
theorem pl_1_3 : hc_PL 1 3 .int := ⟨(RX1, TX1, 6), tyX1, rfl, tyX1_ok, nmX1, rfl, by decide +kernel⟩
set_option maxRecDepth 100000 in
theorem fl_X1_23 : hc_FL RX1 23 1 4 := ⟨(RX1, TX1, 6), rfl, by decide, hin_X1, hc_tb_1 198 (by rfl) rfl⟩
theorem pl_1_4 : hc_PL 1 4 .int := ⟨(RX1, TX1, 6), tyX1, rfl, tyX1_ok, nmX1, rfl, by decide +kernel⟩
set_option maxRecDepth 100000 in
theorem fl_X1_26 : hc_FL RX1 26 1 5 := ⟨(RX1, TX1, 6), rfl, by decide, hin_X1, hc_tb_1 199 (by rfl) rfl⟩
theorem pl_1_5 : hc_PL 1 5 .int := ⟨(RX1, TX1, 6), tyX1, rfl, tyX1_ok, nmX1, rfl, by decide +kernel⟩
set_option maxRecDepth 100000 in
theorem fl_X7_10 : hc_FL RX7 10 5 0 := ⟨(RX7, TX7, 9), rfl, by decide, hin_X7, hc_tb_1 213 (by rfl) rfl⟩
set_option maxRecDepth 100000 in
theorem fl_X7_19 : hc_FL RX7 19 5 1 := ⟨(RX7, TX7, 9), rfl, by decide, hin_X7, hc_tb_1 214 (by rfl) rfl⟩
set_option maxRecDepth 100000 in
theorem fl_X7_26 : hc_FL RX7 26 5 2 := ⟨(RX7, TX7, 9), rfl, by decide, hin_X7, hc_tb_1 215 (by rfl) rfl⟩
set_option maxRecDepth 100000 in
theorem fl_X7_30 : hc_FL RX7 30 5 3 := ⟨(RX7, TX7, 9), rfl, by decide, hin_X7, hc_tb_1 216 (by rfl) rfl⟩
set_option maxRecDepth 100000 in
theorem fl_X7_33 : hc_FL RX7 33 5 4 := ⟨(RX7, TX7, 9), rfl, by decide, hin_X7, hc_tb_1 217 (by rfl) rfl⟩
set_option maxRecDepth 100000 in
theorem fl_X7_39 : hc_FL RX7 39 5 5 := ⟨(RX7, TX7, 9), rfl, by decide, hin_X7, hc_tb_1 218 (by rfl) rfl⟩
set_option maxRecDepth 100000 in
theorem fl_X7_46 : hc_FL RX7 46 5 6 := ⟨(RX7, TX7, 9), rfl, by decide, hin_X7, hc_tb_1 219 (by rfl) rfl⟩
set_option maxRecDepth 100000 in
theorem fl_X7_50 : hc_FL RX7 50 5 7 := ⟨(RX7, TX7, 9), rfl, by decide, hin_X7, hc_tb_1 220 (by rfl) rfl⟩
theorem pl_5_7 : hc_PL 5 7 .int := ⟨(RX7, TX7, 9), tyX7, rfl, tyX7_ok, nmX7, rfl, by decide +kernel⟩
set_option maxRecDepth 100000 in
theorem fl_X7_54 : hc_FL RX7 54 5 8 := ⟨(RX7, TX7, 9), rfl, by decide, hin_X7, hc_tb_1 221 (by rfl) rfl⟩
theorem pl_5_8 : hc_PL 5 8 .int := ⟨(RX7, TX7, 9), tyX7, rfl, tyX7_ok, nmX7, rfl, by decide +kernel⟩
set_option maxRecDepth 100000 in
theorem mv_L_13 : hc_MV RL 13 yX7_row cX7_row 4 (some .int) 3 := ⟨⟨hc_tb_2 4 (by rfl) rfl, hc_tb_1 1 (by rfl) rfl, hc_tb_2 1 (by rfl) rfl, by decide +kernel, by decide⟩, hc_tb_2 2 (by rfl) rfl, hc_tb_2 3 (by rfl) rfl⟩
set_option maxRecDepth 100000 in
theorem ms_X7_57 : hc_MS RX7 57 yX5_isRow cX5_isRow 1 (some .boolean) 1 := ⟨⟨hc_tb_2 7 (by rfl) rfl, hc_tb_1 2 (by rfl) rfl, hc_tb_2 5 (by rfl) rfl, by decide +kernel, by decide⟩, hc_tb_2 6 (by rfl) rfl⟩
set_option maxRecDepth 100000 in
theorem ms_X7_61 : hc_MS RX7 61 yX5_isLane cX5_isLane 1 (some .boolean) 1 := ⟨⟨hc_tb_2 10 (by rfl) rfl, hc_tb_1 2 (by rfl) rfl, hc_tb_2 8 (by rfl) rfl, by decide +kernel, by decide⟩, hc_tb_2 9 (by rfl) rfl⟩
set_option maxRecDepth 100000 in
theorem kc_X7_64 : Cond.constant RX7 64 (-1000001) ∈ hc_tb := hc_tb_2 11 (by rfl) rfl
set_option maxRecDepth 100000 in
theorem mv_X7_65 : hc_MV RX7 65 yX7_found cX7_found 2 (some .int) 1 := ⟨⟨hc_tb_2 15 (by rfl) rfl, hc_tb_1 1 (by rfl) rfl, hc_tb_2 12 (by rfl) rfl, by decide +kernel, by decide⟩, hc_tb_2 14 (by rfl) rfl, hc_tb_of 0 (by decide +kernel) rfl⟩
set_option maxRecDepth 100000 in
theorem kc_X7_295 : Cond.constant RX7 295 (-1000010) ∈ hc_tb := hc_tb_2 16 (by rfl) rfl
set_option maxRecDepth 100000 in
theorem mv_X7_69 : hc_MV RX7 69 yX5_make cX5_make 5 none 3 := ⟨⟨hc_tb_2 20 (by rfl) rfl, hc_tb_1 2 (by rfl) rfl, hc_tb_2 17 (by rfl) rfl, by decide +kernel, by decide⟩, hc_tb_2 18 (by rfl) rfl, hc_tb_2 19 (by rfl) rfl⟩
set_option maxRecDepth 100000 in
theorem ms_X5_35 : hc_MS RX5 35 yJ7_fill_fda19 cJ7_fill_fda19 5 none 4 := ⟨⟨hc_tb_2 23 (by rfl) rfl, hc_tb_1 3 (by rfl) rfl, hc_tb_2 21 (by rfl) rfl, by decide +kernel, by decide⟩, hc_tb_2 22 (by rfl) rfl⟩
set_option maxRecDepth 100000 in
theorem ms_J7_13 : hc_MS RJ7 13 yJ7_rangeCheck_23922 cJ7_rangeCheck_23922 3 none 3 := ⟨⟨hc_tb_2 26 (by rfl) rfl, hc_tb_1 3 (by rfl) rfl, hc_tb_2 24 (by rfl) rfl, by decide +kernel, by decide⟩, hc_tb_2 25 (by rfl) rfl⟩
set_option maxRecDepth 100000 in
theorem mv_X7_73 : hc_MV RX7 73 yX7_foundNothing cX7_foundNothing 2 (some .int) 1 := ⟨⟨hc_tb_2 30 (by rfl) rfl, hc_tb_1 1 (by rfl) rfl, hc_tb_2 27 (by rfl) rfl, by decide +kernel, by decide⟩, hc_tb_2 29 (by rfl) rfl, hc_tb_of 1 (by decide +kernel) rfl⟩
set_option maxRecDepth 100000 in
theorem mv_L_18 : hc_MV RL 18 yX7_set cX7_set 5 (some .int) 3 := ⟨⟨hc_tb_2 34 (by rfl) rfl, hc_tb_1 1 (by rfl) rfl, hc_tb_2 31 (by rfl) rfl, by decide +kernel, by decide⟩, hc_tb_2 32 (by rfl) rfl, hc_tb_2 33 (by rfl) rfl⟩
set_option maxRecDepth 100000 in
theorem mv_X7_76 : hc_MV RX7 76 yX5_findingOf cX5_findingOf 4 (some .int) 3 := ⟨⟨hc_tb_2 38 (by rfl) rfl, hc_tb_1 2 (by rfl) rfl, hc_tb_2 35 (by rfl) rfl, by decide +kernel, by decide⟩, hc_tb_2 36 (by rfl) rfl, hc_tb_2 37 (by rfl) rfl⟩
set_option maxRecDepth 100000 in
theorem mv_X5_27 : hc_MV RX5 27 yX5_isMissing cX5_isMissing 2 (some .boolean) 1 := ⟨⟨hc_tb_2 42 (by rfl) rfl, hc_tb_1 2 (by rfl) rfl, hc_tb_2 39 (by rfl) rfl, by decide +kernel, by decide⟩, hc_tb_2 40 (by rfl) rfl, hc_tb_2 41 (by rfl) rfl⟩
set_option maxRecDepth 100000 in
theorem mv_X5_31 : hc_MV RX5 31 yX5_hasPlaces cX5_hasPlaces 4 (some .boolean) 3 := ⟨⟨hc_tb_2 46 (by rfl) rfl, hc_tb_1 2 (by rfl) rfl, hc_tb_2 43 (by rfl) rfl, by decide +kernel, by decide⟩, hc_tb_2 45 (by rfl) rfl, hc_tb_of 2 (by decide +kernel) rfl⟩
set_option maxRecDepth 100000 in
theorem mv_X7_80 : hc_MV RX7 80 yX5_put cX5_put 5 (some .int) 3 := ⟨⟨hc_tb_2 50 (by rfl) rfl, hc_tb_1 2 (by rfl) rfl, hc_tb_2 47 (by rfl) rfl, by decide +kernel, by decide⟩, hc_tb_2 48 (by rfl) rfl, hc_tb_2 49 (by rfl) rfl⟩
set_option maxRecDepth 100000 in
theorem ms_X5_38 : hc_MS RX5 38 yX5_cutToLane cX5_cutToLane 2 (some .int) 2 := ⟨⟨hc_tb_2 53 (by rfl) rfl, hc_tb_1 2 (by rfl) rfl, hc_tb_2 51 (by rfl) rfl, by decide +kernel, by decide⟩, hc_tb_2 52 (by rfl) rfl⟩
set_option maxRecDepth 100000 in
theorem mv_L_22 : hc_MV RL 22 yX7_copy cX7_copy 7 (some .int) 5 := ⟨⟨hc_tb_2 57 (by rfl) rfl, hc_tb_1 1 (by rfl) rfl, hc_tb_2 54 (by rfl) rfl, by decide +kernel, by decide⟩, hc_tb_2 55 (by rfl) rfl, hc_tb_2 56 (by rfl) rfl⟩
set_option maxRecDepth 100000 in
theorem mv_X7_83 : hc_MV RX7 83 yX5_findingOfCopy cX5_findingOfCopy 6 (some .int) 5 := ⟨⟨hc_tb_2 61 (by rfl) rfl, hc_tb_1 2 (by rfl) rfl, hc_tb_2 58 (by rfl) rfl, by decide +kernel, by decide⟩, hc_tb_2 59 (by rfl) rfl, hc_tb_2 60 (by rfl) rfl⟩
set_option maxRecDepth 100000 in
theorem mv_X7_87 : hc_MV RX7 87 yX5_move cX5_move 6 none 5 := ⟨⟨hc_tb_2 65 (by rfl) rfl, hc_tb_1 2 (by rfl) rfl, hc_tb_2 62 (by rfl) rfl, by decide +kernel, by decide⟩, hc_tb_2 63 (by rfl) rfl, hc_tb_2 64 (by rfl) rfl⟩
set_option maxRecDepth 100000 in
theorem ac_X5_42 : Cond.methodLink RX5 42 arraycopyName ∈ hc_tb := hc_tb_2 66 (by rfl) rfl
set_option maxRecDepth 100000 in
theorem mv_L_27 : hc_MV RL 27 yX7_drop cX7_drop 2 (some .int) 1 := ⟨⟨hc_tb_2 72 (by rfl) rfl, hc_tb_1 1 (by rfl) rfl, hc_tb_2 69 (by rfl) rfl, by decide +kernel, by decide⟩, hc_tb_2 70 (by rfl) rfl, hc_tb_2 71 (by rfl) rfl⟩
set_option maxRecDepth 100000 in
theorem mv_X7_91 : hc_MV RX7 91 yX5_isMissing cX5_isMissing 2 (some .boolean) 1 := ⟨⟨hc_tb_2 42 (by rfl) rfl, hc_tb_1 2 (by rfl) rfl, hc_tb_2 73 (by rfl) rfl, by decide +kernel, by decide⟩, hc_tb_2 40 (by rfl) rfl, hc_tb_2 41 (by rfl) rfl⟩
set_option maxRecDepth 100000 in
theorem mv_X7_94 : hc_MV RX7 94 yX5_remove cX5_remove 3 (some .int) 1 := ⟨⟨hc_tb_2 77 (by rfl) rfl, hc_tb_1 2 (by rfl) rfl, hc_tb_2 74 (by rfl) rfl, by decide +kernel, by decide⟩, hc_tb_2 75 (by rfl) rfl, hc_tb_2 76 (by rfl) rfl⟩
set_option maxRecDepth 100000 in
theorem mv_L_32 : hc_MV RL 32 yX7_feed cX7_feed 2 (some .int) 1 := ⟨⟨hc_tb_2 81 (by rfl) rfl, hc_tb_1 1 (by rfl) rfl, hc_tb_2 78 (by rfl) rfl, by decide +kernel, by decide⟩, hc_tb_2 79 (by rfl) rfl, hc_tb_2 80 (by rfl) rfl⟩
set_option maxRecDepth 100000 in
theorem ms_X7_97 : hc_MS RX7 97 yX7_isWithin cX7_isWithin 3 (some .boolean) 3 := ⟨⟨hc_tb_2 84 (by rfl) rfl, hc_tb_1 1 (by rfl) rfl, hc_tb_2 82 (by rfl) rfl, by decide +kernel, by decide⟩, hc_tb_2 83 (by rfl) rfl⟩
set_option maxRecDepth 100000 in
theorem mv_X7_101 : hc_MV RX7 101 yX6_append cX6_append 2 (some .int) 1 := ⟨⟨hc_tb_2 88 (by rfl) rfl, hc_tb_1 4 (by rfl) rfl, hc_tb_2 85 (by rfl) rfl, by decide +kernel, by decide⟩, hc_tb_2 86 (by rfl) rfl, hc_tb_2 87 (by rfl) rfl⟩
set_option maxRecDepth 100000 in
theorem kc_X6_42 : Cond.constant RX6 42 (-1000003) ∈ hc_tb := hc_tb_2 89 (by rfl) rfl
set_option maxRecDepth 100000 in
theorem mv_L_36 : hc_MV RL 36 yX7_house cX7_house 2 (some .int) 0 := ⟨⟨hc_tb_2 93 (by rfl) rfl, hc_tb_1 1 (by rfl) rfl, hc_tb_2 90 (by rfl) rfl, by decide +kernel, by decide⟩, hc_tb_2 91 (by rfl) rfl, hc_tb_2 92 (by rfl) rfl⟩
set_option maxRecDepth 100000 in
theorem mv_X7_104 : hc_MV RX7 104 yX6_read cX6_read 1 (some .int) 0 := ⟨⟨hc_tb_2 97 (by rfl) rfl, hc_tb_1 4 (by rfl) rfl, hc_tb_2 94 (by rfl) rfl, by decide +kernel, by decide⟩, hc_tb_2 95 (by rfl) rfl, hc_tb_2 96 (by rfl) rfl⟩
set_option maxRecDepth 100000 in
theorem mv_X6_43 : hc_MV RX6 43 yX6_readHouse cX6_readHouse 2 none 0 := ⟨⟨hc_tb_2 101 (by rfl) rfl, hc_tb_1 4 (by rfl) rfl, hc_tb_2 98 (by rfl) rfl, by decide +kernel, by decide⟩, hc_tb_2 100 (by rfl) rfl, hc_tb_of 3 (by decide +kernel) rfl⟩
set_option maxRecDepth 100000 in
theorem mv_X6_47 : hc_MV RX6 47 yX6_byteHere cX6_byteHere 1 (some .int) 0 := ⟨⟨hc_tb_2 105 (by rfl) rfl, hc_tb_1 4 (by rfl) rfl, hc_tb_2 102 (by rfl) rfl, by decide +kernel, by decide⟩, hc_tb_2 104 (by rfl) rfl, hc_tb_of 4 (by decide +kernel) rfl⟩
set_option maxRecDepth 100000 in
theorem kc_X6_46 : Cond.constant RX6 46 (-1000000) ∈ hc_tb := hc_tb_2 106 (by rfl) rfl
set_option maxRecDepth 100000 in
theorem sl_X6_51 : Cond.fieldLink RX6 51 "HeedClock$Tape" "LAW_LEAST" "[I" ∈ hc_tb := hc_tb_2 107 (by rfl) rfl
set_option maxRecDepth 100000 in
theorem sl_X6_54 : Cond.fieldLink RX6 54 "HeedClock$Tape" "LAW_MOST" "[I" ∈ hc_tb := hc_tb_2 109 (by rfl) rfl
set_option maxRecDepth 100000 in
theorem mv_X6_57 : hc_MV RX6 57 yX6_readNumbers cX6_readNumbers 4 none 2 := ⟨⟨hc_tb_2 114 (by rfl) rfl, hc_tb_1 4 (by rfl) rfl, hc_tb_2 111 (by rfl) rfl, by decide +kernel, by decide⟩, hc_tb_2 113 (by rfl) rfl, hc_tb_of 5 (by decide +kernel) rfl⟩
set_option maxRecDepth 100000 in
theorem mv_X6_86 : hc_MV RX6 86 yX6_readNumber cX6_readNumber 6 none 2 := ⟨⟨hc_tb_2 118 (by rfl) rfl, hc_tb_1 4 (by rfl) rfl, hc_tb_2 115 (by rfl) rfl, by decide +kernel, by decide⟩, hc_tb_2 117 (by rfl) rfl, hc_tb_of 6 (by decide +kernel) rfl⟩
set_option maxRecDepth 100000 in
theorem mv_X6_94 : hc_MV RX6 94 yX6_figuresHere cX6_figuresHere 3 (some .int) 0 := ⟨⟨hc_tb_2 122 (by rfl) rfl, hc_tb_1 4 (by rfl) rfl, hc_tb_2 119 (by rfl) rfl, by decide +kernel, by decide⟩, hc_tb_2 121 (by rfl) rfl, hc_tb_of 7 (by decide +kernel) rfl⟩
set_option maxRecDepth 100000 in
theorem mv_X6_90 : hc_MV RX6 90 yX6_readSign cX6_readSign 2 none 1 := ⟨⟨hc_tb_2 126 (by rfl) rfl, hc_tb_1 4 (by rfl) rfl, hc_tb_2 123 (by rfl) rfl, by decide +kernel, by decide⟩, hc_tb_2 125 (by rfl) rfl, hc_tb_of 8 (by decide +kernel) rfl⟩
set_option maxRecDepth 100000 in
theorem ms_X6_61 : hc_MS RX6 61 yX4_ofLetter cX4_ofLetter 1 (some .int) 1 := ⟨⟨hc_tb_2 129 (by rfl) rfl, hc_tb_1 10 (by rfl) rfl, hc_tb_2 127 (by rfl) rfl, by decide +kernel, by decide⟩, hc_tb_2 128 (by rfl) rfl⟩
set_option maxRecDepth 100000 in
theorem mv_X6_67 : hc_MV RX6 67 yX6_readEar cX6_readEar 2 none 1 := ⟨⟨hc_tb_2 133 (by rfl) rfl, hc_tb_1 4 (by rfl) rfl, hc_tb_2 130 (by rfl) rfl, by decide +kernel, by decide⟩, hc_tb_2 132 (by rfl) rfl, hc_tb_of 9 (by decide +kernel) rfl⟩
set_option maxRecDepth 100000 in
theorem sl_X6_74 : Cond.fieldLink RX6 74 "HeedClock$Tape" "EAR_LEAST" "[I" ∈ hc_tb := hc_tb_2 134 (by rfl) rfl
set_option maxRecDepth 100000 in
theorem sl_X6_77 : Cond.fieldLink RX6 77 "HeedClock$Tape" "EAR_MOST" "[I" ∈ hc_tb := hc_tb_2 136 (by rfl) rfl
set_option maxRecDepth 100000 in
theorem mv_X6_71 : hc_MV RX6 71 yX6_readDoing cX6_readDoing 1 none 0 := ⟨⟨hc_tb_2 141 (by rfl) rfl, hc_tb_1 4 (by rfl) rfl, hc_tb_2 138 (by rfl) rfl, by decide +kernel, by decide⟩, hc_tb_2 140 (by rfl) rfl, hc_tb_of 10 (by decide +kernel) rfl⟩
set_option maxRecDepth 100000 in
theorem sl_X6_80 : Cond.fieldLink RX6 80 "HeedClock$Tape" "DOING_LEAST" "[I" ∈ hc_tb := hc_tb_2 142 (by rfl) rfl
set_option maxRecDepth 100000 in
theorem sl_X6_83 : Cond.fieldLink RX6 83 "HeedClock$Tape" "DOING_MOST" "[I" ∈ hc_tb := hc_tb_2 144 (by rfl) rfl
set_option maxRecDepth 100000 in
theorem kc_X7_108 : Cond.constant RX7 108 (-1000000) ∈ hc_tb := hc_tb_2 146 (by rfl) rfl
set_option maxRecDepth 100000 in
theorem kc_X7_112 : Cond.constant RX7 112 (-1000100) ∈ hc_tb := hc_tb_2 147 (by rfl) rfl
set_option maxRecDepth 100000 in
theorem mv_X7_113 : hc_MV RX7 113 yX3_settle cX3_settle 2 none 1 := ⟨⟨hc_tb_2 151 (by rfl) rfl, hc_tb_1 5 (by rfl) rfl, hc_tb_2 148 (by rfl) rfl, by decide +kernel, by decide⟩, hc_tb_2 149 (by rfl) rfl, hc_tb_2 150 (by rfl) rfl⟩
set_option maxRecDepth 100000 in
theorem mv_X3_63 : hc_MV RX3 63 yX6_toldWool cX6_toldWool 1 (some .int) 0 := ⟨⟨hc_tb_2 155 (by rfl) rfl, hc_tb_1 4 (by rfl) rfl, hc_tb_2 152 (by rfl) rfl, by decide +kernel, by decide⟩, hc_tb_2 153 (by rfl) rfl, hc_tb_2 154 (by rfl) rfl⟩
set_option maxRecDepth 100000 in
theorem mv_X3_69 : hc_MV RX3 69 yX3_settleEars cX3_settleEars 3 none 1 := ⟨⟨hc_tb_2 159 (by rfl) rfl, hc_tb_1 5 (by rfl) rfl, hc_tb_2 156 (by rfl) rfl, by decide +kernel, by decide⟩, hc_tb_2 158 (by rfl) rfl, hc_tb_of 11 (by decide +kernel) rfl⟩
set_option maxRecDepth 100000 in
theorem mv_X3_78 : hc_MV RX3 78 yX6_toldOfEar cX6_toldOfEar 3 (some .int) 2 := ⟨⟨hc_tb_2 163 (by rfl) rfl, hc_tb_1 4 (by rfl) rfl, hc_tb_2 160 (by rfl) rfl, by decide +kernel, by decide⟩, hc_tb_2 161 (by rfl) rfl, hc_tb_2 162 (by rfl) rfl⟩
set_option maxRecDepth 100000 in
theorem mv_X3_73 : hc_MV RX3 73 yX3_settleDoings cX3_settleDoings 3 none 1 := ⟨⟨hc_tb_2 167 (by rfl) rfl, hc_tb_1 5 (by rfl) rfl, hc_tb_2 164 (by rfl) rfl, by decide +kernel, by decide⟩, hc_tb_2 166 (by rfl) rfl, hc_tb_of 12 (by decide +kernel) rfl⟩
set_option maxRecDepth 100000 in
theorem mv_X3_83 : hc_MV RX3 83 yX6_toldOfDoing cX6_toldOfDoing 3 (some .int) 2 := ⟨⟨hc_tb_2 171 (by rfl) rfl, hc_tb_1 4 (by rfl) rfl, hc_tb_2 168 (by rfl) rfl, by decide +kernel, by decide⟩, hc_tb_2 169 (by rfl) rfl, hc_tb_2 170 (by rfl) rfl⟩
set_option maxRecDepth 100000 in
theorem mv_X7_117 : hc_MV RX7 117 yX0_forgetAll cX0_forgetAll 1 none 0 := ⟨⟨hc_tb_2 175 (by rfl) rfl, hc_tb_1 6 (by rfl) rfl, hc_tb_2 172 (by rfl) rfl, by decide +kernel, by decide⟩, hc_tb_2 173 (by rfl) rfl, hc_tb_2 174 (by rfl) rfl⟩
set_option maxRecDepth 100000 in
theorem mv_L_41 : hc_MV RL 41 yX7_fault cX7_fault 1 (some .int) 0 := ⟨⟨hc_tb_2 179 (by rfl) rfl, hc_tb_1 1 (by rfl) rfl, hc_tb_2 176 (by rfl) rfl, by decide +kernel, by decide⟩, hc_tb_2 177 (by rfl) rfl, hc_tb_2 178 (by rfl) rfl⟩
set_option maxRecDepth 100000 in
theorem mv_L_45 : hc_MV RL 45 yX7_quarters cX7_quarters 3 (some .int) 1 := ⟨⟨hc_tb_2 183 (by rfl) rfl, hc_tb_1 1 (by rfl) rfl, hc_tb_2 180 (by rfl) rfl, by decide +kernel, by decide⟩, hc_tb_2 181 (by rfl) rfl, hc_tb_2 182 (by rfl) rfl⟩
set_option maxRecDepth 100000 in
theorem kc_X7_127 : Cond.constant RX7 127 (-1000002) ∈ hc_tb := hc_tb_2 184 (by rfl) rfl
set_option maxRecDepth 100000 in
theorem kc_X7_131 : Cond.constant RX7 131 (-1000003) ∈ hc_tb := hc_tb_2 185 (by rfl) rfl
set_option maxRecDepth 100000 in
theorem mv_X7_132 : hc_MV RX7 132 yX3_passQuarter cX3_passQuarter 2 none 0 := ⟨⟨hc_tb_2 189 (by rfl) rfl, hc_tb_1 5 (by rfl) rfl, hc_tb_2 186 (by rfl) rfl, by decide +kernel, by decide⟩, hc_tb_2 187 (by rfl) rfl, hc_tb_2 188 (by rfl) rfl⟩
set_option maxRecDepth 100000 in
theorem mv_X3_103 : hc_MV RX3 103 yX3_attending cX3_attending 1 (some .int) 0 := ⟨⟨hc_tb_2 193 (by rfl) rfl, hc_tb_1 5 (by rfl) rfl, hc_tb_2 190 (by rfl) rfl, by decide +kernel, by decide⟩, hc_tb_2 191 (by rfl) rfl, hc_tb_2 192 (by rfl) rfl⟩
set_option maxRecDepth 100000 in
theorem mv_X3_100 : hc_MV RX3 100 yX3_inClockRoom cX3_inClockRoom 3 (some .int) 0 := ⟨⟨hc_tb_2 197 (by rfl) rfl, hc_tb_1 5 (by rfl) rfl, hc_tb_2 194 (by rfl) rfl, by decide +kernel, by decide⟩, hc_tb_2 195 (by rfl) rfl, hc_tb_2 196 (by rfl) rfl⟩
set_option maxRecDepth 100000 in
theorem mv_X3_96 : hc_MV RX3 96 yX3_isInClockRoom cX3_isInClockRoom 2 (some .boolean) 1 := ⟨⟨hc_tb_2 201 (by rfl) rfl, hc_tb_1 5 (by rfl) rfl, hc_tb_2 198 (by rfl) rfl, by decide +kernel, by decide⟩, hc_tb_2 199 (by rfl) rfl, hc_tb_2 200 (by rfl) rfl⟩
set_option maxRecDepth 100000 in
theorem mv_X3_121 : hc_MV RX3 121 yX3_partsOf cX3_partsOf 6 (some .int) 2 := ⟨⟨hc_tb_2 205 (by rfl) rfl, hc_tb_1 5 (by rfl) rfl, hc_tb_2 202 (by rfl) rfl, by decide +kernel, by decide⟩, hc_tb_2 203 (by rfl) rfl, hc_tb_2 204 (by rfl) rfl⟩
set_option maxRecDepth 100000 in
theorem ms_X3_92 : hc_MS RX3 92 yX3_isIn cX3_isIn 2 (some .boolean) 2 := ⟨⟨hc_tb_2 208 (by rfl) rfl, hc_tb_1 5 (by rfl) rfl, hc_tb_2 206 (by rfl) rfl, by decide +kernel, by decide⟩, hc_tb_2 207 (by rfl) rfl⟩
set_option maxRecDepth 100000 in
theorem mv_X3_106 : hc_MV RX3 106 yX3_hasItsTime cX3_hasItsTime 3 (some .boolean) 2 := ⟨⟨hc_tb_2 212 (by rfl) rfl, hc_tb_1 5 (by rfl) rfl, hc_tb_2 209 (by rfl) rfl, by decide +kernel, by decide⟩, hc_tb_2 211 (by rfl) rfl, hc_tb_of 13 (by decide +kernel) rfl⟩
set_option maxRecDepth 100000 in
theorem mv_X3_114 : hc_MV RX3 114 yX3_giftOf cX3_giftOf 4 (some .int) 1 := ⟨⟨hc_tb_2 216 (by rfl) rfl, hc_tb_1 5 (by rfl) rfl, hc_tb_2 213 (by rfl) rfl, by decide +kernel, by decide⟩, hc_tb_2 215 (by rfl) rfl, hc_tb_of 14 (by decide +kernel) rfl⟩
set_option maxRecDepth 100000 in
theorem mv_X3_128 : hc_MV RX3 128 yX3_growOlder cX3_growOlder 4 none 2 := ⟨⟨hc_tb_2 220 (by rfl) rfl, hc_tb_1 5 (by rfl) rfl, hc_tb_2 217 (by rfl) rfl, by decide +kernel, by decide⟩, hc_tb_2 219 (by rfl) rfl, hc_tb_of 15 (by decide +kernel) rfl⟩
set_option maxRecDepth 100000 in
theorem mv_X7_135 : hc_MV RX7 135 yX0_keep cX0_keep 4 none 3 := ⟨⟨hc_tb_2 224 (by rfl) rfl, hc_tb_1 6 (by rfl) rfl, hc_tb_2 221 (by rfl) rfl, by decide +kernel, by decide⟩, hc_tb_2 222 (by rfl) rfl, hc_tb_2 223 (by rfl) rfl⟩
set_option maxRecDepth 100000 in
theorem mv_X0_23 : hc_MV RX0 23 yX0_forgetOldest cX0_forgetOldest 1 none 0 := ⟨⟨hc_tb_2 228 (by rfl) rfl, hc_tb_1 6 (by rfl) rfl, hc_tb_2 225 (by rfl) rfl, by decide +kernel, by decide⟩, hc_tb_2 227 (by rfl) rfl, hc_tb_of 16 (by decide +kernel) rfl⟩
set_option maxRecDepth 100000 in
theorem ac_X0_26 : Cond.methodLink RX0 26 arraycopyName ∈ hc_tb := hc_tb_2 229 (by rfl) rfl
set_option maxRecDepth 100000 in
theorem mv_L_49 : hc_MV RL 49 yX7_go cX7_go 4 (some .int) 2 := ⟨⟨hc_tb_2 233 (by rfl) rfl, hc_tb_1 1 (by rfl) rfl, hc_tb_2 230 (by rfl) rfl, by decide +kernel, by decide⟩, hc_tb_2 231 (by rfl) rfl, hc_tb_2 232 (by rfl) rfl⟩
set_option maxRecDepth 100000 in
theorem mv_X7_141 : hc_MV RX7 141 yX3_hasEar cX3_hasEar 2 (some .boolean) 1 := ⟨⟨hc_tb_2 237 (by rfl) rfl, hc_tb_1 5 (by rfl) rfl, hc_tb_2 234 (by rfl) rfl, by decide +kernel, by decide⟩, hc_tb_2 235 (by rfl) rfl, hc_tb_2 236 (by rfl) rfl⟩
set_option maxRecDepth 100000 in
theorem mv_L_54 : hc_MV RL 54 yX7_hush cX7_hush 3 (some .int) 2 := ⟨⟨hc_tb_3 1 (by rfl) rfl, hc_tb_1 1 (by rfl) rfl, hc_tb_2 238 (by rfl) rfl, by decide +kernel, by decide⟩, hc_tb_2 239 (by rfl) rfl, hc_tb_3 0 (by rfl) rfl⟩
set_option maxRecDepth 100000 in
theorem mv_X7_148 : hc_MV RX7 148 yX3_isHushed cX3_isHushed 2 (some .boolean) 1 := ⟨⟨hc_tb_3 5 (by rfl) rfl, hc_tb_1 5 (by rfl) rfl, hc_tb_3 2 (by rfl) rfl, by decide +kernel, by decide⟩, hc_tb_3 3 (by rfl) rfl, hc_tb_3 4 (by rfl) rfl⟩
set_option maxRecDepth 100000 in
theorem mv_X7_151 : hc_MV RX7 151 yX3_setHushed cX3_setHushed 4 none 2 := ⟨⟨hc_tb_3 9 (by rfl) rfl, hc_tb_1 5 (by rfl) rfl, hc_tb_3 6 (by rfl) rfl, by decide +kernel, by decide⟩, hc_tb_3 7 (by rfl) rfl, hc_tb_3 8 (by rfl) rfl⟩
set_option maxRecDepth 100000 in
theorem ms_X7_158 : hc_MS RX7 158 yJ6_bitCount_0f7a4 cJ6_bitCount_0f7a4 1 (some .int) 1 := ⟨⟨hc_tb_3 12 (by rfl) rfl, hc_tb_1 12 (by rfl) rfl, hc_tb_3 10 (by rfl) rfl, by decide +kernel, by decide⟩, hc_tb_3 11 (by rfl) rfl⟩
set_option maxRecDepth 100000 in
theorem kc_J6_265 : Cond.constant RJ6 265 (1431655765) ∈ hc_tb := hc_tb_3 13 (by rfl) rfl
set_option maxRecDepth 100000 in
theorem kc_J6_266 : Cond.constant RJ6 266 (858993459) ∈ hc_tb := hc_tb_3 14 (by rfl) rfl
set_option maxRecDepth 100000 in
theorem kc_J6_267 : Cond.constant RJ6 267 (252645135) ∈ hc_tb := hc_tb_3 15 (by rfl) rfl
set_option maxRecDepth 100000 in
theorem mv_L_58 : hc_MV RL 58 yX7_wool cX7_wool 3 (some .int) 1 := ⟨⟨hc_tb_3 19 (by rfl) rfl, hc_tb_1 1 (by rfl) rfl, hc_tb_3 16 (by rfl) rfl, by decide +kernel, by decide⟩, hc_tb_3 17 (by rfl) rfl, hc_tb_3 18 (by rfl) rfl⟩
set_option maxRecDepth 100000 in
theorem mv_L_62 : hc_MV RL 62 yX7_undo cX7_undo 1 (some .int) 0 := ⟨⟨hc_tb_3 23 (by rfl) rfl, hc_tb_1 1 (by rfl) rfl, hc_tb_3 20 (by rfl) rfl, by decide +kernel, by decide⟩, hc_tb_3 21 (by rfl) rfl, hc_tb_3 22 (by rfl) rfl⟩
set_option maxRecDepth 100000 in
theorem mv_X7_169 : hc_MV RX7 169 yX0_takeBackLatest cX0_takeBackLatest 3 none 1 := ⟨⟨hc_tb_3 27 (by rfl) rfl, hc_tb_1 6 (by rfl) rfl, hc_tb_3 24 (by rfl) rfl, by decide +kernel, by decide⟩, hc_tb_3 25 (by rfl) rfl, hc_tb_3 26 (by rfl) rfl⟩
set_option maxRecDepth 100000 in
theorem mv_X0_37 : hc_MV RX0 37 yX3_setHushed cX3_setHushed 4 none 2 := ⟨⟨hc_tb_3 9 (by rfl) rfl, hc_tb_1 5 (by rfl) rfl, hc_tb_3 28 (by rfl) rfl, by decide +kernel, by decide⟩, hc_tb_3 7 (by rfl) rfl, hc_tb_3 8 (by rfl) rfl⟩
set_option maxRecDepth 100000 in
theorem mv_X0_44 : hc_MV RX0 44 yX3_takeQuarterBack cX3_takeQuarterBack 1 none 0 := ⟨⟨hc_tb_3 32 (by rfl) rfl, hc_tb_1 5 (by rfl) rfl, hc_tb_3 29 (by rfl) rfl, by decide +kernel, by decide⟩, hc_tb_3 30 (by rfl) rfl, hc_tb_3 31 (by rfl) rfl⟩
set_option maxRecDepth 100000 in
theorem mv_L_66 : hc_MV RL 66 yX7_ear cX7_ear 3 (some .int) 2 := ⟨⟨hc_tb_3 36 (by rfl) rfl, hc_tb_1 1 (by rfl) rfl, hc_tb_3 33 (by rfl) rfl, by decide +kernel, by decide⟩, hc_tb_3 34 (by rfl) rfl, hc_tb_3 35 (by rfl) rfl⟩
set_option maxRecDepth 100000 in
theorem mv_X7_176 : hc_MV RX7 176 yX3_listensNow cX3_listensNow 2 (some .boolean) 1 := ⟨⟨hc_tb_3 40 (by rfl) rfl, hc_tb_1 5 (by rfl) rfl, hc_tb_3 37 (by rfl) rfl, by decide +kernel, by decide⟩, hc_tb_3 38 (by rfl) rfl, hc_tb_3 39 (by rfl) rfl⟩
set_option maxRecDepth 100000 in
theorem mv_X7_179 : hc_MV RX7 179 yX3_givesNow cX3_givesNow 2 (some .int) 1 := ⟨⟨hc_tb_3 44 (by rfl) rfl, hc_tb_1 5 (by rfl) rfl, hc_tb_3 41 (by rfl) rfl, by decide +kernel, by decide⟩, hc_tb_3 42 (by rfl) rfl, hc_tb_3 43 (by rfl) rfl⟩
set_option maxRecDepth 100000 in
theorem mv_X3_109 : hc_MV RX3 109 yX3_listensNow cX3_listensNow 2 (some .boolean) 1 := ⟨⟨hc_tb_3 40 (by rfl) rfl, hc_tb_1 5 (by rfl) rfl, hc_tb_3 45 (by rfl) rfl, by decide +kernel, by decide⟩, hc_tb_3 38 (by rfl) rfl, hc_tb_3 39 (by rfl) rfl⟩
set_option maxRecDepth 100000 in
theorem mv_X3_124 : hc_MV RX3 124 yX3_areWidowersSilenced cX3_areWidowersSilenced 1 (some .boolean) 0 := ⟨⟨hc_tb_3 49 (by rfl) rfl, hc_tb_1 5 (by rfl) rfl, hc_tb_3 46 (by rfl) rfl, by decide +kernel, by decide⟩, hc_tb_3 48 (by rfl) rfl, hc_tb_of 17 (by decide +kernel) rfl⟩
set_option maxRecDepth 100000 in
theorem mv_X3_118 : hc_MV RX3 118 yX3_widowers cX3_widowers 3 (some .int) 0 := ⟨⟨hc_tb_3 53 (by rfl) rfl, hc_tb_1 5 (by rfl) rfl, hc_tb_3 50 (by rfl) rfl, by decide +kernel, by decide⟩, hc_tb_3 52 (by rfl) rfl, hc_tb_of 18 (by decide +kernel) rfl⟩
set_option maxRecDepth 100000 in
theorem mv_L_70 : hc_MV RL 70 yX7_clock cX7_clock 2 (some .int) 1 := ⟨⟨hc_tb_3 57 (by rfl) rfl, hc_tb_1 1 (by rfl) rfl, hc_tb_3 54 (by rfl) rfl, by decide +kernel, by decide⟩, hc_tb_3 55 (by rfl) rfl, hc_tb_3 56 (by rfl) rfl⟩
set_option maxRecDepth 100000 in
theorem mv_X7_185 : hc_MV RX7 185 yX3_attending cX3_attending 1 (some .int) 0 := ⟨⟨hc_tb_2 193 (by rfl) rfl, hc_tb_1 5 (by rfl) rfl, hc_tb_3 58 (by rfl) rfl, by decide +kernel, by decide⟩, hc_tb_2 191 (by rfl) rfl, hc_tb_2 192 (by rfl) rfl⟩
set_option maxRecDepth 100000 in
theorem mv_X7_188 : hc_MV RX7 188 yX3_partsOf cX3_partsOf 6 (some .int) 2 := ⟨⟨hc_tb_2 205 (by rfl) rfl, hc_tb_1 5 (by rfl) rfl, hc_tb_3 59 (by rfl) rfl, by decide +kernel, by decide⟩, hc_tb_2 203 (by rfl) rfl, hc_tb_2 204 (by rfl) rfl⟩
set_option maxRecDepth 100000 in
theorem mv_L_74 : hc_MV RL 74 yX7_ahead cX7_ahead 2 (some .int) 1 := ⟨⟨hc_tb_3 63 (by rfl) rfl, hc_tb_1 1 (by rfl) rfl, hc_tb_3 60 (by rfl) rfl, by decide +kernel, by decide⟩, hc_tb_3 61 (by rfl) rfl, hc_tb_3 62 (by rfl) rfl⟩
set_option maxRecDepth 100000 in
theorem ms_X7_192 : hc_MS RX7 192 yX2_partsAfter cX2_partsAfter 6 (some .int) 3 := ⟨⟨hc_tb_3 66 (by rfl) rfl, hc_tb_1 13 (by rfl) rfl, hc_tb_3 64 (by rfl) rfl, by decide +kernel, by decide⟩, hc_tb_3 65 (by rfl) rfl⟩
set_option maxRecDepth 100000 in
theorem mv_X2_18 : hc_MV RX2 18 yX3_partsOf cX3_partsOf 6 (some .int) 2 := ⟨⟨hc_tb_2 205 (by rfl) rfl, hc_tb_1 5 (by rfl) rfl, hc_tb_3 67 (by rfl) rfl, by decide +kernel, by decide⟩, hc_tb_2 203 (by rfl) rfl, hc_tb_2 204 (by rfl) rfl⟩
set_option maxRecDepth 100000 in
theorem mv_L_78 : hc_MV RL 78 yX7_whenShows cX7_whenShows 2 (some .int) 1 := ⟨⟨hc_tb_3 71 (by rfl) rfl, hc_tb_1 1 (by rfl) rfl, hc_tb_3 68 (by rfl) rfl, by decide +kernel, by decide⟩, hc_tb_3 69 (by rfl) rfl, hc_tb_3 70 (by rfl) rfl⟩
set_option maxRecDepth 100000 in
theorem ms_X7_198 : hc_MS RX7 198 yX2_quartersTillShown cX2_quartersTillShown 5 (some .int) 2 := ⟨⟨hc_tb_3 74 (by rfl) rfl, hc_tb_1 13 (by rfl) rfl, hc_tb_3 72 (by rfl) rfl, by decide +kernel, by decide⟩, hc_tb_3 73 (by rfl) rfl⟩
set_option maxRecDepth 100000 in
theorem mv_X2_28 : hc_MV RX2 28 yX3_attending cX3_attending 1 (some .int) 0 := ⟨⟨hc_tb_2 193 (by rfl) rfl, hc_tb_1 5 (by rfl) rfl, hc_tb_3 75 (by rfl) rfl, by decide +kernel, by decide⟩, hc_tb_2 191 (by rfl) rfl, hc_tb_2 192 (by rfl) rfl⟩
set_option maxRecDepth 100000 in
theorem kc_X2_32 : Cond.constant RX2 32 (-1000000) ∈ hc_tb := hc_tb_3 76 (by rfl) rfl
set_option maxRecDepth 100000 in
theorem mv_L_82 : hc_MV RL 82 yX7_done cX7_done 2 (some .int) 1 := ⟨⟨hc_tb_3 80 (by rfl) rfl, hc_tb_1 1 (by rfl) rfl, hc_tb_3 77 (by rfl) rfl, by decide +kernel, by decide⟩, hc_tb_3 78 (by rfl) rfl, hc_tb_3 79 (by rfl) rfl⟩
set_option maxRecDepth 100000 in
theorem mv_X7_202 : hc_MV RX7 202 yX3_hasDoing cX3_hasDoing 2 (some .boolean) 1 := ⟨⟨hc_tb_3 84 (by rfl) rfl, hc_tb_1 5 (by rfl) rfl, hc_tb_3 81 (by rfl) rfl, by decide +kernel, by decide⟩, hc_tb_3 82 (by rfl) rfl, hc_tb_3 83 (by rfl) rfl⟩
set_option maxRecDepth 100000 in
theorem ms_X7_205 : hc_MS RX7 205 yX2_doneOn cX2_doneOn 6 (some .int) 2 := ⟨⟨hc_tb_3 87 (by rfl) rfl, hc_tb_1 13 (by rfl) rfl, hc_tb_3 85 (by rfl) rfl, by decide +kernel, by decide⟩, hc_tb_3 86 (by rfl) rfl⟩
set_option maxRecDepth 100000 in
theorem ms_X2_37 : hc_MS RX2 37 yX2_partsNeeded cX2_partsNeeded 2 (some .int) 2 := ⟨⟨hc_tb_3 90 (by rfl) rfl, hc_tb_1 13 (by rfl) rfl, hc_tb_3 88 (by rfl) rfl, by decide +kernel, by decide⟩, hc_tb_3 89 (by rfl) rfl⟩
set_option maxRecDepth 100000 in
theorem mv_X2_44 : hc_MV RX2 44 yX3_isOver cX3_isOver 2 (some .boolean) 1 := ⟨⟨hc_tb_3 94 (by rfl) rfl, hc_tb_1 5 (by rfl) rfl, hc_tb_3 91 (by rfl) rfl, by decide +kernel, by decide⟩, hc_tb_3 92 (by rfl) rfl, hc_tb_3 93 (by rfl) rfl⟩
set_option maxRecDepth 100000 in
theorem mv_X2_48 : hc_MV RX2 48 yX3_partsGoneIn cX3_partsGoneIn 2 (some .int) 1 := ⟨⟨hc_tb_3 98 (by rfl) rfl, hc_tb_1 5 (by rfl) rfl, hc_tb_3 95 (by rfl) rfl, by decide +kernel, by decide⟩, hc_tb_3 96 (by rfl) rfl, hc_tb_3 97 (by rfl) rfl⟩
set_option maxRecDepth 100000 in
theorem mv_X3_132 : hc_MV RX3 132 yX3_isOver cX3_isOver 2 (some .boolean) 1 := ⟨⟨hc_tb_3 94 (by rfl) rfl, hc_tb_1 5 (by rfl) rfl, hc_tb_3 99 (by rfl) rfl, by decide +kernel, by decide⟩, hc_tb_3 92 (by rfl) rfl, hc_tb_3 93 (by rfl) rfl⟩
set_option maxRecDepth 100000 in
theorem mv_L_86 : hc_MV RL 86 yX7_late cX7_late 1 (some .int) 0 := ⟨⟨hc_tb_3 103 (by rfl) rfl, hc_tb_1 1 (by rfl) rfl, hc_tb_3 100 (by rfl) rfl, by decide +kernel, by decide⟩, hc_tb_3 101 (by rfl) rfl, hc_tb_3 102 (by rfl) rfl⟩
set_option maxRecDepth 100000 in
theorem ms_X7_208 : hc_MS RX7 208 yX2_lateDoings cX2_lateDoings 4 (some .int) 1 := ⟨⟨hc_tb_3 106 (by rfl) rfl, hc_tb_1 13 (by rfl) rfl, hc_tb_3 104 (by rfl) rfl, by decide +kernel, by decide⟩, hc_tb_3 105 (by rfl) rfl⟩
set_option maxRecDepth 100000 in
theorem ms_X2_55 : hc_MS RX2 55 yX2_doneOn cX2_doneOn 6 (some .int) 2 := ⟨⟨hc_tb_3 87 (by rfl) rfl, hc_tb_1 13 (by rfl) rfl, hc_tb_3 107 (by rfl) rfl, by decide +kernel, by decide⟩, hc_tb_3 86 (by rfl) rfl⟩
set_option maxRecDepth 100000 in
theorem mv_L_90 : hc_MV RL 90 yX7_latest cX7_latest 2 (some .int) 1 := ⟨⟨hc_tb_3 111 (by rfl) rfl, hc_tb_1 1 (by rfl) rfl, hc_tb_3 108 (by rfl) rfl, by decide +kernel, by decide⟩, hc_tb_3 109 (by rfl) rfl, hc_tb_3 110 (by rfl) rfl⟩
set_option maxRecDepth 100000 in
theorem ms_X7_212 : hc_MS RX7 212 yX2_latestBegin cX2_latestBegin 6 (some .int) 2 := ⟨⟨hc_tb_3 114 (by rfl) rfl, hc_tb_1 13 (by rfl) rfl, hc_tb_3 112 (by rfl) rfl, by decide +kernel, by decide⟩, hc_tb_3 113 (by rfl) rfl⟩
set_option maxRecDepth 100000 in
theorem mv_L_94 : hc_MV RL 94 yX7_toHush cX7_toHush 4 (some .int) 3 := ⟨⟨hc_tb_3 118 (by rfl) rfl, hc_tb_1 1 (by rfl) rfl, hc_tb_3 115 (by rfl) rfl, by decide +kernel, by decide⟩, hc_tb_3 116 (by rfl) rfl, hc_tb_3 117 (by rfl) rfl⟩
set_option maxRecDepth 100000 in
theorem ms_X7_215 : hc_MS RX7 215 yX7_isGoal cX7_isGoal 3 (some .boolean) 3 := ⟨⟨hc_tb_3 121 (by rfl) rfl, hc_tb_1 1 (by rfl) rfl, hc_tb_3 119 (by rfl) rfl, by decide +kernel, by decide⟩, hc_tb_3 120 (by rfl) rfl⟩
set_option maxRecDepth 100000 in
theorem ms_X7_218 : hc_MS RX7 218 yX2_fewestToBeHushed cX2_fewestToBeHushed 6 (some .int) 3 := ⟨⟨hc_tb_3 124 (by rfl) rfl, hc_tb_1 13 (by rfl) rfl, hc_tb_3 122 (by rfl) rfl, by decide +kernel, by decide⟩, hc_tb_3 123 (by rfl) rfl⟩
set_option maxRecDepth 100000 in
theorem mv_X2_61 : hc_MV RX2 61 yX3_allSets cX3_allSets 1 (some .int) 0 := ⟨⟨hc_tb_3 128 (by rfl) rfl, hc_tb_1 5 (by rfl) rfl, hc_tb_3 125 (by rfl) rfl, by decide +kernel, by decide⟩, hc_tb_3 126 (by rfl) rfl, hc_tb_3 127 (by rfl) rfl⟩
set_option maxRecDepth 100000 in
theorem ms_X2_67 : hc_MS RX2 67 yX2_isFewer cX2_isFewer 2 (some .boolean) 2 := ⟨⟨hc_tb_3 131 (by rfl) rfl, hc_tb_1 13 (by rfl) rfl, hc_tb_3 129 (by rfl) rfl, by decide +kernel, by decide⟩, hc_tb_3 130 (by rfl) rfl⟩
set_option maxRecDepth 100000 in
theorem ms_X2_77 : hc_MS RX2 77 yJ6_bitCount_0f7a4 cJ6_bitCount_0f7a4 1 (some .int) 1 := ⟨⟨hc_tb_3 12 (by rfl) rfl, hc_tb_1 12 (by rfl) rfl, hc_tb_3 132 (by rfl) rfl, by decide +kernel, by decide⟩, hc_tb_3 11 (by rfl) rfl⟩
set_option maxRecDepth 100000 in
theorem ms_X2_71 : hc_MS RX2 71 yX2_shownAfter cX2_shownAfter 3 (some .int) 3 := ⟨⟨hc_tb_3 135 (by rfl) rfl, hc_tb_1 13 (by rfl) rfl, hc_tb_3 133 (by rfl) rfl, by decide +kernel, by decide⟩, hc_tb_3 134 (by rfl) rfl⟩
set_option maxRecDepth 100000 in
theorem ms_X2_22 : hc_MS RX2 22 yX2_partsAfter cX2_partsAfter 6 (some .int) 3 := ⟨⟨hc_tb_3 66 (by rfl) rfl, hc_tb_1 13 (by rfl) rfl, hc_tb_3 136 (by rfl) rfl, by decide +kernel, by decide⟩, hc_tb_3 65 (by rfl) rfl⟩
set_option maxRecDepth 100000 in
theorem ms_X7_221 : hc_MS RX7 221 yX7_manyOrWhich cX7_manyOrWhich 2 (some .int) 2 := ⟨⟨hc_tb_3 139 (by rfl) rfl, hc_tb_1 1 (by rfl) rfl, hc_tb_3 137 (by rfl) rfl, by decide +kernel, by decide⟩, hc_tb_3 138 (by rfl) rfl⟩
set_option maxRecDepth 100000 in
theorem mv_L_98 : hc_MV RL 98 yX7_toCall cX7_toCall 4 (some .int) 3 := ⟨⟨hc_tb_3 143 (by rfl) rfl, hc_tb_1 1 (by rfl) rfl, hc_tb_3 140 (by rfl) rfl, by decide +kernel, by decide⟩, hc_tb_3 141 (by rfl) rfl, hc_tb_3 142 (by rfl) rfl⟩
set_option maxRecDepth 100000 in
theorem ms_X7_224 : hc_MS RX7 224 yX2_fewestToBeCalled cX2_fewestToBeCalled 7 (some .int) 3 := ⟨⟨hc_tb_3 146 (by rfl) rfl, hc_tb_1 13 (by rfl) rfl, hc_tb_3 144 (by rfl) rfl, by decide +kernel, by decide⟩, hc_tb_3 145 (by rfl) rfl⟩
set_option maxRecDepth 100000 in
theorem mv_X2_74 : hc_MV RX2 74 yX3_inClockRoom cX3_inClockRoom 3 (some .int) 0 := ⟨⟨hc_tb_2 197 (by rfl) rfl, hc_tb_1 5 (by rfl) rfl, hc_tb_3 147 (by rfl) rfl, by decide +kernel, by decide⟩, hc_tb_2 195 (by rfl) rfl, hc_tb_2 196 (by rfl) rfl⟩
set_option maxRecDepth 100000 in
theorem mv_L_102 : hc_MV RL 102 yX7_who cX7_who 8 (some .int) 4 := ⟨⟨hc_tb_3 151 (by rfl) rfl, hc_tb_1 1 (by rfl) rfl, hc_tb_3 148 (by rfl) rfl, by decide +kernel, by decide⟩, hc_tb_3 149 (by rfl) rfl, hc_tb_3 150 (by rfl) rfl⟩
set_option maxRecDepth 100000 in
theorem ms_X7_227 : hc_MS RX7 227 yX2_setsThatGoSo cX2_setsThatGoSo 8 (some .long) 5 := ⟨⟨hc_tb_3 154 (by rfl) rfl, hc_tb_1 13 (by rfl) rfl, hc_tb_3 152 (by rfl) rfl, by decide +kernel, by decide⟩, hc_tb_3 153 (by rfl) rfl⟩
set_option maxRecDepth 100000 in
theorem ms_X2_87 : hc_MS RX2 87 yX2_goesSo cX2_goesSo 7 (some .boolean) 6 := ⟨⟨hc_tb_3 157 (by rfl) rfl, hc_tb_1 13 (by rfl) rfl, hc_tb_3 155 (by rfl) rfl, by decide +kernel, by decide⟩, hc_tb_3 156 (by rfl) rfl⟩
set_option maxRecDepth 100000 in
theorem mv_X2_82 : hc_MV RX2 82 yX5_item cX5_item 3 (some .int) 2 := ⟨⟨hc_tb_3 161 (by rfl) rfl, hc_tb_1 2 (by rfl) rfl, hc_tb_3 158 (by rfl) rfl, by decide +kernel, by decide⟩, hc_tb_3 159 (by rfl) rfl, hc_tb_3 160 (by rfl) rfl⟩
set_option maxRecDepth 100000 in
theorem ms_X7_231 : hc_MS RX7 231 yJ13_bitCount_95d88 cJ13_bitCount_95d88 2 (some .int) 1 := ⟨⟨hc_tb_3 164 (by rfl) rfl, hc_tb_1 14 (by rfl) rfl, hc_tb_3 162 (by rfl) rfl, by decide +kernel, by decide⟩, hc_tb_3 163 (by rfl) rfl⟩
set_option maxRecDepth 100000 in
theorem kl_J13_314 : Cond.constantLong RJ13 314 (6148914691236517205) ∈ hc_tb := hc_tb_3 165 (by rfl) rfl
set_option maxRecDepth 100000 in
theorem kl_J13_316 : Cond.constantLong RJ13 316 (3689348814741910323) ∈ hc_tb := hc_tb_3 166 (by rfl) rfl
set_option maxRecDepth 100000 in
theorem kl_J13_318 : Cond.constantLong RJ13 318 (1085102592571150095) ∈ hc_tb := hc_tb_3 167 (by rfl) rfl
set_option maxRecDepth 100000 in
theorem ms_X7_236 : hc_MS RX7 236 yJ13_numberOfTrailingZeros_95d88 cJ13_numberOfTrailingZeros_95d88 3 (some .int) 1 := ⟨⟨hc_tb_3 170 (by rfl) rfl, hc_tb_1 14 (by rfl) rfl, hc_tb_3 168 (by rfl) rfl, by decide +kernel, by decide⟩, hc_tb_3 169 (by rfl) rfl⟩
set_option maxRecDepth 100000 in
theorem ms_J13_311 : hc_MS RJ13 311 yJ6_numberOfTrailingZeros_0f7a4 cJ6_numberOfTrailingZeros_0f7a4 2 (some .int) 1 := ⟨⟨hc_tb_3 173 (by rfl) rfl, hc_tb_1 12 (by rfl) rfl, hc_tb_3 171 (by rfl) rfl, by decide +kernel, by decide⟩, hc_tb_3 172 (by rfl) rfl⟩
set_option maxRecDepth 100000 in
theorem kc_J6_264 : Cond.constant RJ6 264 (65536) ∈ hc_tb := hc_tb_3 174 (by rfl) rfl
set_option maxRecDepth 100000 in
theorem mv_L_107 : hc_MV RL 107 yX7_heed cX7_heed 6 (some .int) 4 := ⟨⟨hc_tb_3 178 (by rfl) rfl, hc_tb_1 1 (by rfl) rfl, hc_tb_3 175 (by rfl) rfl, by decide +kernel, by decide⟩, hc_tb_3 176 (by rfl) rfl, hc_tb_3 177 (by rfl) rfl⟩
set_option maxRecDepth 100000 in
theorem ms_X7_239 : hc_MS RX7 239 yX2_heedsThatGoSo cX2_heedsThatGoSo 10 (some .int) 6 := ⟨⟨hc_tb_3 181 (by rfl) rfl, hc_tb_1 13 (by rfl) rfl, hc_tb_3 179 (by rfl) rfl, by decide +kernel, by decide⟩, hc_tb_3 180 (by rfl) rfl⟩
set_option maxRecDepth 100000 in
theorem mv_L_111 : hc_MV RL 111 yX7_older cX7_older 4 (some .int) 3 := ⟨⟨hc_tb_3 185 (by rfl) rfl, hc_tb_1 1 (by rfl) rfl, hc_tb_3 182 (by rfl) rfl, by decide +kernel, by decide⟩, hc_tb_3 183 (by rfl) rfl, hc_tb_3 184 (by rfl) rfl⟩
set_option maxRecDepth 100000 in
theorem ms_X7_243 : hc_MS RX7 243 yX2_livedAfter cX2_livedAfter 4 (some .int) 3 := ⟨⟨hc_tb_3 188 (by rfl) rfl, hc_tb_1 13 (by rfl) rfl, hc_tb_3 186 (by rfl) rfl, by decide +kernel, by decide⟩, hc_tb_3 187 (by rfl) rfl⟩
set_option maxRecDepth 100000 in
theorem mv_X2_97 : hc_MV RX2 97 yX3_isInClockRoom cX3_isInClockRoom 2 (some .boolean) 1 := ⟨⟨hc_tb_2 201 (by rfl) rfl, hc_tb_1 5 (by rfl) rfl, hc_tb_3 189 (by rfl) rfl, by decide +kernel, by decide⟩, hc_tb_2 199 (by rfl) rfl, hc_tb_2 200 (by rfl) rfl⟩
set_option maxRecDepth 100000 in
theorem mv_L_115 : hc_MV RL 115 yX7_odds cX7_odds 7 (some .int) 3 := ⟨⟨hc_tb_3 193 (by rfl) rfl, hc_tb_1 1 (by rfl) rfl, hc_tb_3 190 (by rfl) rfl, by decide +kernel, by decide⟩, hc_tb_3 191 (by rfl) rfl, hc_tb_3 192 (by rfl) rfl⟩
set_option maxRecDepth 100000 in
theorem ms_X7_246 : hc_MS RX7 246 yX2_chancesToGo cX2_chancesToGo 7 (some .int) 3 := ⟨⟨hc_tb_3 196 (by rfl) rfl, hc_tb_1 13 (by rfl) rfl, hc_tb_3 194 (by rfl) rfl, by decide +kernel, by decide⟩, hc_tb_3 195 (by rfl) rfl⟩
set_option maxRecDepth 100000 in
theorem mv_X2_100 : hc_MV RX2 100 yX3_listeningNow cX3_listeningNow 3 (some .int) 0 := ⟨⟨hc_tb_3 200 (by rfl) rfl, hc_tb_1 5 (by rfl) rfl, hc_tb_3 197 (by rfl) rfl, by decide +kernel, by decide⟩, hc_tb_3 198 (by rfl) rfl, hc_tb_3 199 (by rfl) rfl⟩
set_option maxRecDepth 100000 in
theorem ms_X2_103 : hc_MS RX2 103 yX2_power cX2_power 4 (some .int) 2 := ⟨⟨hc_tb_3 203 (by rfl) rfl, hc_tb_1 13 (by rfl) rfl, hc_tb_3 201 (by rfl) rfl, by decide +kernel, by decide⟩, hc_tb_3 202 (by rfl) rfl⟩
set_option maxRecDepth 100000 in
theorem ms_X7_249 : hc_MS RX7 249 yX2_chancesInAll cX2_chancesInAll 1 (some .int) 1 := ⟨⟨hc_tb_3 206 (by rfl) rfl, hc_tb_1 13 (by rfl) rfl, hc_tb_3 204 (by rfl) rfl, by decide +kernel, by decide⟩, hc_tb_3 205 (by rfl) rfl⟩
set_option maxRecDepth 100000 in
theorem ms_X7_252 : hc_MS RX7 252 yX7_greatestDivisor cX7_greatestDivisor 6 (some .int) 2 := ⟨⟨hc_tb_3 209 (by rfl) rfl, hc_tb_1 1 (by rfl) rfl, hc_tb_3 207 (by rfl) rfl, by decide +kernel, by decide⟩, hc_tb_3 208 (by rfl) rfl⟩
set_option maxRecDepth 100000 in
theorem ms_X7_296 : hc_MS RX7 296 yJ9_max_7cf53 cJ9_max_7cf53 2 (some .int) 2 := ⟨⟨hc_tb_3 212 (by rfl) rfl, hc_tb_1 15 (by rfl) rfl, hc_tb_3 210 (by rfl) rfl, by decide +kernel, by decide⟩, hc_tb_3 211 (by rfl) rfl⟩
set_option maxRecDepth 100000 in
theorem mv_L_119 : hc_MV RL 119 yX7_image cX7_image 2 (some .int) 1 := ⟨⟨hc_tb_3 216 (by rfl) rfl, hc_tb_1 1 (by rfl) rfl, hc_tb_3 213 (by rfl) rfl, by decide +kernel, by decide⟩, hc_tb_3 214 (by rfl) rfl, hc_tb_3 215 (by rfl) rfl⟩
set_option maxRecDepth 100000 in
theorem mv_X7_255 : hc_MV RX7 255 yX7_imageAt cX7_imageAt 2 (some (.object "HeedClock$House")) 1 := ⟨⟨hc_tb_3 220 (by rfl) rfl, hc_tb_1 1 (by rfl) rfl, hc_tb_3 217 (by rfl) rfl, by decide +kernel, by decide⟩, hc_tb_3 219 (by rfl) rfl, hc_tb_of 19 (by decide +kernel) rfl⟩
set_option maxRecDepth 100000 in
theorem mv_X7_259 : hc_MV RX7 259 yX3_becomeLike cX3_becomeLike 2 none 1 := ⟨⟨hc_tb_3 224 (by rfl) rfl, hc_tb_1 5 (by rfl) rfl, hc_tb_3 221 (by rfl) rfl, by decide +kernel, by decide⟩, hc_tb_3 222 (by rfl) rfl, hc_tb_3 223 (by rfl) rfl⟩
set_option maxRecDepth 100000 in
theorem ac_X3_86 : Cond.methodLink RX3 86 arraycopyName ∈ hc_tb := hc_tb_3 225 (by rfl) rfl
set_option maxRecDepth 100000 in
theorem mv_L_123 : hc_MV RL 123 yX7_restore cX7_restore 3 (some .int) 1 := ⟨⟨hc_tb_3 229 (by rfl) rfl, hc_tb_1 1 (by rfl) rfl, hc_tb_3 226 (by rfl) rfl, by decide +kernel, by decide⟩, hc_tb_3 227 (by rfl) rfl, hc_tb_3 228 (by rfl) rfl⟩
set_option maxRecDepth 100000 in
theorem mv_L_127 : hc_MV RL 127 yX7_kind cX7_kind 2 (some .int) 1 := ⟨⟨hc_tb_3 233 (by rfl) rfl, hc_tb_1 1 (by rfl) rfl, hc_tb_3 230 (by rfl) rfl, by decide +kernel, by decide⟩, hc_tb_3 231 (by rfl) rfl, hc_tb_3 232 (by rfl) rfl⟩
set_option maxRecDepth 100000 in
theorem mv_L_131 : hc_MV RL 131 yX7_as cX7_as 3 (some .int) 2 := ⟨⟨hc_tb_3 237 (by rfl) rfl, hc_tb_1 1 (by rfl) rfl, hc_tb_3 234 (by rfl) rfl, by decide +kernel, by decide⟩, hc_tb_3 235 (by rfl) rfl, hc_tb_3 236 (by rfl) rfl⟩
set_option maxRecDepth 100000 in
theorem ms_X7_265 : hc_MS RX7 265 yX4_isKind cX4_isKind 1 (some .boolean) 1 := ⟨⟨hc_tb_4 0 (by rfl) rfl, hc_tb_1 10 (by rfl) rfl, hc_tb_3 238 (by rfl) rfl, by decide +kernel, by decide⟩, hc_tb_3 239 (by rfl) rfl⟩
set_option maxRecDepth 100000 in
theorem ms_X7_270 : hc_MS RX7 270 yX4_isOneOf cX4_isOneOf 4 (some .boolean) 2 := ⟨⟨hc_tb_4 3 (by rfl) rfl, hc_tb_1 10 (by rfl) rfl, hc_tb_4 1 (by rfl) rfl, by decide +kernel, by decide⟩, hc_tb_4 2 (by rfl) rfl⟩
set_option maxRecDepth 100000 in
theorem ms_X4_17 : hc_MS RX4 17 yX4_nearest cX4_nearest 1 (some .int) 1 := ⟨⟨hc_tb_4 6 (by rfl) rfl, hc_tb_1 10 (by rfl) rfl, hc_tb_4 4 (by rfl) rfl, by decide +kernel, by decide⟩, hc_tb_4 5 (by rfl) rfl⟩
set_option maxRecDepth 100000 in
theorem ms_X4_9 : hc_MS RX4 9 yX4_isKind cX4_isKind 1 (some .boolean) 1 := ⟨⟨hc_tb_4 0 (by rfl) rfl, hc_tb_1 10 (by rfl) rfl, hc_tb_4 7 (by rfl) rfl, by decide +kernel, by decide⟩, hc_tb_3 239 (by rfl) rfl⟩
set_option maxRecDepth 100000 in
theorem sl_X4_13 : Cond.fieldLink RX4 13 "HeedClock$Kinds" "NEAREST" "[I" ∈ hc_tb := hc_tb_4 8 (by rfl) rfl
set_option maxRecDepth 100000 in
theorem mv_L_135 : hc_MV RL 135 yX7_ask cX7_ask 3 (some .int) 2 := ⟨⟨hc_tb_4 13 (by rfl) rfl, hc_tb_1 1 (by rfl) rfl, hc_tb_4 10 (by rfl) rfl, by decide +kernel, by decide⟩, hc_tb_4 11 (by rfl) rfl, hc_tb_4 12 (by rfl) rfl⟩
set_option maxRecDepth 100000 in
theorem mv_X7_274 : hc_MV RX7 274 yX1_answer cX1_answer 4 (some .int) 3 := ⟨⟨hc_tb_4 17 (by rfl) rfl, hc_tb_1 7 (by rfl) rfl, hc_tb_4 14 (by rfl) rfl, by decide +kernel, by decide⟩, hc_tb_4 15 (by rfl) rfl, hc_tb_4 16 (by rfl) rfl⟩
set_option maxRecDepth 100000 in
theorem mv_X1_40 : hc_MV RX1 40 yX1_begin cX1_begin 4 (some .int) 2 := ⟨⟨hc_tb_4 21 (by rfl) rfl, hc_tb_1 7 (by rfl) rfl, hc_tb_4 18 (by rfl) rfl, by decide +kernel, by decide⟩, hc_tb_4 20 (by rfl) rfl, hc_tb_of 20 (by decide +kernel) rfl⟩
set_option maxRecDepth 100000 in
theorem ms_X1_44 : hc_MS RX1 44 yX1_bodyFor cX1_bodyFor 2 (some .int) 2 := ⟨⟨hc_tb_4 24 (by rfl) rfl, hc_tb_1 7 (by rfl) rfl, hc_tb_4 22 (by rfl) rfl, by decide +kernel, by decide⟩, hc_tb_4 23 (by rfl) rfl⟩
set_option maxRecDepth 100000 in
theorem ms_X1_56 : hc_MS RX1 56 yX4_isKind cX4_isKind 1 (some .boolean) 1 := ⟨⟨hc_tb_4 0 (by rfl) rfl, hc_tb_1 10 (by rfl) rfl, hc_tb_4 25 (by rfl) rfl, by decide +kernel, by decide⟩, hc_tb_3 239 (by rfl) rfl⟩
set_option maxRecDepth 100000 in
theorem sl_X1_60 : Cond.fieldLink RX1 60 "HeedClock$Asks" "SIZE_BODIES" "[I" ∈ hc_tb := hc_tb_4 26 (by rfl) rfl
set_option maxRecDepth 100000 in
theorem sl_X1_63 : Cond.fieldLink RX1 63 "HeedClock$Asks" "MARK_BODIES" "[I" ∈ hc_tb := hc_tb_4 28 (by rfl) rfl
set_option maxRecDepth 100000 in
theorem ms_X1_47 : hc_MS RX1 47 yX4_nearest cX4_nearest 1 (some .int) 1 := ⟨⟨hc_tb_4 6 (by rfl) rfl, hc_tb_1 10 (by rfl) rfl, hc_tb_4 30 (by rfl) rfl, by decide +kernel, by decide⟩, hc_tb_4 5 (by rfl) rfl⟩
set_option maxRecDepth 100000 in
theorem mv_X1_53 : hc_MV RX1 53 yX1_run cX1_run 4 (some .int) 2 := ⟨⟨hc_tb_4 34 (by rfl) rfl, hc_tb_1 7 (by rfl) rfl, hc_tb_4 31 (by rfl) rfl, by decide +kernel, by decide⟩, hc_tb_4 33 (by rfl) rfl, hc_tb_of 21 (by decide +kernel) rfl⟩
set_option maxRecDepth 100000 in
theorem mv_X1_66 : hc_MV RX1 66 yX1_leaveTrace cX1_leaveTrace 2 none 1 := ⟨⟨hc_tb_4 38 (by rfl) rfl, hc_tb_1 7 (by rfl) rfl, hc_tb_4 35 (by rfl) rfl, by decide +kernel, by decide⟩, hc_tb_4 37 (by rfl) rfl, hc_tb_of 22 (by decide +kernel) rfl⟩
set_option maxRecDepth 100000 in
theorem mv_L_139 : hc_MV RL 139 yX7_trace cX7_trace 2 (some .int) 1 := ⟨⟨hc_tb_4 42 (by rfl) rfl, hc_tb_1 1 (by rfl) rfl, hc_tb_4 39 (by rfl) rfl, by decide +kernel, by decide⟩, hc_tb_4 40 (by rfl) rfl, hc_tb_4 41 (by rfl) rfl⟩
set_option maxRecDepth 100000 in
theorem mv_L_143 : hc_MV RL 143 yX7_count cX7_count 2 (some .int) 1 := ⟨⟨hc_tb_4 46 (by rfl) rfl, hc_tb_1 1 (by rfl) rfl, hc_tb_4 43 (by rfl) rfl, by decide +kernel, by decide⟩, hc_tb_4 44 (by rfl) rfl, hc_tb_4 45 (by rfl) rfl⟩
set_option maxRecDepth 100000 in
theorem mv_X7_283 : hc_MV RX7 283 yX5_present cX5_present 3 (some .int) 0 := ⟨⟨hc_tb_4 50 (by rfl) rfl, hc_tb_1 2 (by rfl) rfl, hc_tb_4 47 (by rfl) rfl, by decide +kernel, by decide⟩, hc_tb_4 48 (by rfl) rfl, hc_tb_4 49 (by rfl) rfl⟩
set_option maxRecDepth 100000 in
theorem mv_X7_289 : hc_MV RX7 289 yX3_inClockRoom cX3_inClockRoom 3 (some .int) 0 := ⟨⟨hc_tb_2 197 (by rfl) rfl, hc_tb_1 5 (by rfl) rfl, hc_tb_4 51 (by rfl) rfl, by decide +kernel, by decide⟩, hc_tb_2 195 (by rfl) rfl, hc_tb_2 196 (by rfl) rfl⟩
set_option maxRecDepth 100000 in
theorem mv_L_147 : hc_MV RL 147 yX7_status cX7_status 1 (some .int) 0 := ⟨⟨hc_tb_4 55 (by rfl) rfl, hc_tb_1 1 (by rfl) rfl, hc_tb_4 52 (by rfl) rfl, by decide +kernel, by decide⟩, hc_tb_4 53 (by rfl) rfl, hc_tb_4 54 (by rfl) rfl⟩
set_option maxRecDepth 100000 in
theorem kc_X8_50 : Cond.constant RX8 50 (-1000000) ∈ hc_tb := hc_tb_4 62 (by rfl) rfl
set_option maxRecDepth 100000 in
theorem fl_X8_7 : hc_FL RX8 7 6 0 := ⟨(RX8, TX8, 23), rfl, by decide, hin_X8, hc_tb_4 63 (by rfl) rfl⟩
set_option maxRecDepth 100000 in
theorem fl_X8_13 : hc_FL RX8 13 6 1 := ⟨(RX8, TX8, 23), rfl, by decide, hin_X8, hc_tb_4 64 (by rfl) rfl⟩
set_option maxRecDepth 100000 in
theorem fl_X8_16 : hc_FL RX8 16 6 2 := ⟨(RX8, TX8, 23), rfl, by decide, hin_X8, hc_tb_4 65 (by rfl) rfl⟩
set_option maxRecDepth 100000 in
theorem fl_X8_19 : hc_FL RX8 19 6 3 := ⟨(RX8, TX8, 23), rfl, by decide, hin_X8, hc_tb_4 66 (by rfl) rfl⟩
set_option maxRecDepth 100000 in
theorem fl_X8_51 : hc_FL RX8 51 6 4 := ⟨(RX8, TX8, 23), rfl, by decide, hin_X8, hc_tb_4 67 (by rfl) rfl⟩
theorem pl_6_4 : hc_PL 6 4 .int := ⟨(RX8, TX8, 23), tyX8, rfl, tyX8_ok, nmX8, rfl, by decide +kernel⟩
set_option maxRecDepth 100000 in
theorem fl_X8_22 : hc_FL RX8 22 6 5 := ⟨(RX8, TX8, 23), rfl, by decide, hin_X8, hc_tb_4 68 (by rfl) rfl⟩
set_option maxRecDepth 100000 in
theorem fl_X8_82 : hc_FL RX8 82 6 6 := ⟨(RX8, TX8, 23), rfl, by decide, hin_X8, hc_tb_4 69 (by rfl) rfl⟩
theorem pl_6_6 : hc_PL 6 6 .int := ⟨(RX8, TX8, 23), tyX8, rfl, tyX8_ok, nmX8, rfl, by decide +kernel⟩
set_option maxRecDepth 100000 in
theorem fl_X8_108 : hc_FL RX8 108 6 7 := ⟨(RX8, TX8, 23), rfl, by decide, hin_X8, hc_tb_4 70 (by rfl) rfl⟩
theorem pl_6_7 : hc_PL 6 7 .int := ⟨(RX8, TX8, 23), tyX8, rfl, tyX8_ok, nmX8, rfl, by decide +kernel⟩
set_option maxRecDepth 100000 in
theorem fl_X8_101 : hc_FL RX8 101 6 8 := ⟨(RX8, TX8, 23), rfl, by decide, hin_X8, hc_tb_4 71 (by rfl) rfl⟩
theorem pl_6_8 : hc_PL 6 8 .int := ⟨(RX8, TX8, 23), tyX8, rfl, tyX8_ok, nmX8, rfl, by decide +kernel⟩
set_option maxRecDepth 100000 in
theorem fl_X8_86 : hc_FL RX8 86 6 9 := ⟨(RX8, TX8, 23), rfl, by decide, hin_X8, hc_tb_4 72 (by rfl) rfl⟩
theorem pl_6_9 : hc_PL 6 9 .int := ⟨(RX8, TX8, 23), tyX8, rfl, tyX8_ok, nmX8, rfl, by decide +kernel⟩
set_option maxRecDepth 100000 in
theorem fl_X8_89 : hc_FL RX8 89 6 10 := ⟨(RX8, TX8, 23), rfl, by decide, hin_X8, hc_tb_4 73 (by rfl) rfl⟩
theorem pl_6_10 : hc_PL 6 10 .int := ⟨(RX8, TX8, 23), tyX8, rfl, tyX8_ok, nmX8, rfl, by decide +kernel⟩
set_option maxRecDepth 100000 in
theorem fl_X8_98 : hc_FL RX8 98 6 11 := ⟨(RX8, TX8, 23), rfl, by decide, hin_X8, hc_tb_4 74 (by rfl) rfl⟩
theorem pl_6_11 : hc_PL 6 11 .int := ⟨(RX8, TX8, 23), tyX8, rfl, tyX8_ok, nmX8, rfl, by decide +kernel⟩
set_option maxRecDepth 100000 in
theorem fl_X8_95 : hc_FL RX8 95 6 12 := ⟨(RX8, TX8, 23), rfl, by decide, hin_X8, hc_tb_4 75 (by rfl) rfl⟩
theorem pl_6_12 : hc_PL 6 12 .int := ⟨(RX8, TX8, 23), tyX8, rfl, tyX8_ok, nmX8, rfl, by decide +kernel⟩
set_option maxRecDepth 100000 in
theorem fl_X8_25 : hc_FL RX8 25 6 13 := ⟨(RX8, TX8, 23), rfl, by decide, hin_X8, hc_tb_4 76 (by rfl) rfl⟩
set_option maxRecDepth 100000 in
theorem fl_X8_28 : hc_FL RX8 28 6 14 := ⟨(RX8, TX8, 23), rfl, by decide, hin_X8, hc_tb_4 77 (by rfl) rfl⟩
set_option maxRecDepth 100000 in
theorem fl_X8_31 : hc_FL RX8 31 6 15 := ⟨(RX8, TX8, 23), rfl, by decide, hin_X8, hc_tb_4 78 (by rfl) rfl⟩
set_option maxRecDepth 100000 in
theorem fl_X8_138 : hc_FL RX8 138 6 16 := ⟨(RX8, TX8, 23), rfl, by decide, hin_X8, hc_tb_4 79 (by rfl) rfl⟩
theorem pl_6_16 : hc_PL 6 16 .int := ⟨(RX8, TX8, 23), tyX8, rfl, tyX8_ok, nmX8, rfl, by decide +kernel⟩
set_option maxRecDepth 100000 in
theorem fl_X8_34 : hc_FL RX8 34 6 17 := ⟨(RX8, TX8, 23), rfl, by decide, hin_X8, hc_tb_4 80 (by rfl) rfl⟩
set_option maxRecDepth 100000 in
theorem fl_X8_37 : hc_FL RX8 37 6 18 := ⟨(RX8, TX8, 23), rfl, by decide, hin_X8, hc_tb_4 81 (by rfl) rfl⟩
set_option maxRecDepth 100000 in
theorem fl_X8_41 : hc_FL RX8 41 6 19 := ⟨(RX8, TX8, 23), rfl, by decide, hin_X8, hc_tb_4 82 (by rfl) rfl⟩
set_option maxRecDepth 100000 in
theorem fl_X8_44 : hc_FL RX8 44 6 20 := ⟨(RX8, TX8, 23), rfl, by decide, hin_X8, hc_tb_4 83 (by rfl) rfl⟩
set_option maxRecDepth 100000 in
theorem fl_X8_47 : hc_FL RX8 47 6 21 := ⟨(RX8, TX8, 23), rfl, by decide, hin_X8, hc_tb_4 84 (by rfl) rfl⟩
set_option maxRecDepth 100000 in
theorem fl_X8_209 : hc_FL RX8 209 6 22 := ⟨(RX8, TX8, 23), rfl, by decide, hin_X8, hc_tb_4 85 (by rfl) rfl⟩
theorem pl_6_22 : hc_PL 6 22 .int := ⟨(RX8, TX8, 23), tyX8, rfl, tyX8_ok, nmX8, rfl, by decide +kernel⟩
set_option maxRecDepth 100000 in
theorem mv_L_17 : hc_MV RL 17 yX8_row cX8_row 5 (some .int) 3 := ⟨⟨hc_tb_4 137 (by rfl) rfl, hc_tb_1 8 (by rfl) rfl, hc_tb_4 134 (by rfl) rfl, by decide +kernel, by decide⟩, hc_tb_4 135 (by rfl) rfl, hc_tb_4 136 (by rfl) rfl⟩
set_option maxRecDepth 100000 in
theorem ms_X8_60 : hc_MS RX8 60 yX8_isRow cX8_isRow 1 (some .boolean) 1 := ⟨⟨hc_tb_4 140 (by rfl) rfl, hc_tb_1 8 (by rfl) rfl, hc_tb_4 138 (by rfl) rfl, by decide +kernel, by decide⟩, hc_tb_4 139 (by rfl) rfl⟩
set_option maxRecDepth 100000 in
theorem ms_X8_56 : hc_MS RX8 56 yX8_in cX8_in 3 (some .boolean) 3 := ⟨⟨hc_tb_4 143 (by rfl) rfl, hc_tb_1 8 (by rfl) rfl, hc_tb_4 141 (by rfl) rfl, by decide +kernel, by decide⟩, hc_tb_4 142 (by rfl) rfl⟩
set_option maxRecDepth 100000 in
theorem kc_X8_64 : Cond.constant RX8 64 (-1000001) ∈ hc_tb := hc_tb_4 144 (by rfl) rfl
set_option maxRecDepth 100000 in
theorem mv_X8_65 : hc_MV RX8 65 yX8_found cX8_found 2 (some .int) 1 := ⟨⟨hc_tb_4 148 (by rfl) rfl, hc_tb_1 8 (by rfl) rfl, hc_tb_4 145 (by rfl) rfl, by decide +kernel, by decide⟩, hc_tb_4 147 (by rfl) rfl, hc_tb_of 23 (by decide +kernel) rfl⟩
set_option maxRecDepth 100000 in
theorem kc_X8_55 : Cond.constant RX8 55 (-1000010) ∈ hc_tb := hc_tb_4 149 (by rfl) rfl
set_option maxRecDepth 100000 in
theorem mv_X8_69 : hc_MV RX8 69 yX8_well cX8_well 2 (some .int) 1 := ⟨⟨hc_tb_4 153 (by rfl) rfl, hc_tb_1 8 (by rfl) rfl, hc_tb_4 150 (by rfl) rfl, by decide +kernel, by decide⟩, hc_tb_4 152 (by rfl) rfl, hc_tb_of 24 (by decide +kernel) rfl⟩
set_option maxRecDepth 100000 in
theorem mv_L_21 : hc_MV RL 21 yX8_set cX8_set 4 (some .int) 3 := ⟨⟨hc_tb_4 157 (by rfl) rfl, hc_tb_1 8 (by rfl) rfl, hc_tb_4 154 (by rfl) rfl, by decide +kernel, by decide⟩, hc_tb_4 155 (by rfl) rfl, hc_tb_4 156 (by rfl) rfl⟩
set_option maxRecDepth 100000 in
theorem mv_X8_72 : hc_MV RX8 72 yX8_isMissing cX8_isMissing 2 (some .boolean) 1 := ⟨⟨hc_tb_4 161 (by rfl) rfl, hc_tb_1 8 (by rfl) rfl, hc_tb_4 158 (by rfl) rfl, by decide +kernel, by decide⟩, hc_tb_4 160 (by rfl) rfl, hc_tb_of 25 (by decide +kernel) rfl⟩
set_option maxRecDepth 100000 in
theorem ms_X8_75 : hc_MS RX8 75 yX8_cut cX8_cut 2 (some .int) 2 := ⟨⟨hc_tb_4 164 (by rfl) rfl, hc_tb_1 8 (by rfl) rfl, hc_tb_4 162 (by rfl) rfl, by decide +kernel, by decide⟩, hc_tb_4 163 (by rfl) rfl⟩
set_option maxRecDepth 100000 in
theorem mv_L_26 : hc_MV RL 26 yX8_copy cX8_copy 7 (some .int) 5 := ⟨⟨hc_tb_4 168 (by rfl) rfl, hc_tb_1 8 (by rfl) rfl, hc_tb_4 165 (by rfl) rfl, by decide +kernel, by decide⟩, hc_tb_4 166 (by rfl) rfl, hc_tb_4 167 (by rfl) rfl⟩
set_option maxRecDepth 100000 in
theorem mv_X8_79 : hc_MV RX8 79 yX8_isPart cX8_isPart 4 (some .boolean) 3 := ⟨⟨hc_tb_4 172 (by rfl) rfl, hc_tb_1 8 (by rfl) rfl, hc_tb_4 169 (by rfl) rfl, by decide +kernel, by decide⟩, hc_tb_4 171 (by rfl) rfl, hc_tb_of 26 (by decide +kernel) rfl⟩
set_option maxRecDepth 100000 in
theorem mv_L_31 : hc_MV RL 31 yX8_drop cX8_drop 2 (some .int) 1 := ⟨⟨hc_tb_4 176 (by rfl) rfl, hc_tb_1 8 (by rfl) rfl, hc_tb_4 173 (by rfl) rfl, by decide +kernel, by decide⟩, hc_tb_4 174 (by rfl) rfl, hc_tb_4 175 (by rfl) rfl⟩
set_option maxRecDepth 100000 in
theorem mv_L_35 : hc_MV RL 35 yX8_feed cX8_feed 2 (some .int) 1 := ⟨⟨hc_tb_4 180 (by rfl) rfl, hc_tb_1 8 (by rfl) rfl, hc_tb_4 177 (by rfl) rfl, by decide +kernel, by decide⟩, hc_tb_4 178 (by rfl) rfl, hc_tb_4 179 (by rfl) rfl⟩
set_option maxRecDepth 100000 in
theorem kc_X8_85 : Cond.constant RX8 85 (-1000003) ∈ hc_tb := hc_tb_4 181 (by rfl) rfl
set_option maxRecDepth 100000 in
theorem mv_L_40 : hc_MV RL 40 yX8_house cX8_house 2 (some .int) 0 := ⟨⟨hc_tb_4 185 (by rfl) rfl, hc_tb_1 8 (by rfl) rfl, hc_tb_4 182 (by rfl) rfl, by decide +kernel, by decide⟩, hc_tb_4 183 (by rfl) rfl, hc_tb_4 184 (by rfl) rfl⟩
set_option maxRecDepth 100000 in
theorem mv_X8_111 : hc_MV RX8 111 yX8_advances cX8_advances 2 none 0 := ⟨⟨hc_tb_4 189 (by rfl) rfl, hc_tb_1 8 (by rfl) rfl, hc_tb_4 186 (by rfl) rfl, by decide +kernel, by decide⟩, hc_tb_4 188 (by rfl) rfl, hc_tb_of 27 (by decide +kernel) rfl⟩
set_option maxRecDepth 100000 in
theorem mv_X8_92 : hc_MV RX8 92 yX8_byteAt cX8_byteAt 2 (some .int) 1 := ⟨⟨hc_tb_4 193 (by rfl) rfl, hc_tb_1 8 (by rfl) rfl, hc_tb_4 190 (by rfl) rfl, by decide +kernel, by decide⟩, hc_tb_4 192 (by rfl) rfl, hc_tb_of 28 (by decide +kernel) rfl⟩
set_option maxRecDepth 100000 in
theorem mv_X8_114 : hc_MV RX8 114 yX8_takes cX8_takes 4 (some .int) 2 := ⟨⟨hc_tb_4 197 (by rfl) rfl, hc_tb_1 8 (by rfl) rfl, hc_tb_4 194 (by rfl) rfl, by decide +kernel, by decide⟩, hc_tb_4 196 (by rfl) rfl, hc_tb_of 29 (by decide +kernel) rfl⟩
set_option maxRecDepth 100000 in
theorem mv_X8_104 : hc_MV RX8 104 yX8_isWell cX8_isWell 1 (some .boolean) 0 := ⟨⟨hc_tb_4 201 (by rfl) rfl, hc_tb_1 8 (by rfl) rfl, hc_tb_4 198 (by rfl) rfl, by decide +kernel, by decide⟩, hc_tb_4 200 (by rfl) rfl, hc_tb_of 30 (by decide +kernel) rfl⟩
set_option maxRecDepth 100000 in
theorem mv_X8_118 : hc_MV RX8 118 yX8_figure cX8_figure 3 (some .int) 2 := ⟨⟨hc_tb_4 205 (by rfl) rfl, hc_tb_1 8 (by rfl) rfl, hc_tb_4 202 (by rfl) rfl, by decide +kernel, by decide⟩, hc_tb_4 204 (by rfl) rfl, hc_tb_of 31 (by decide +kernel) rfl⟩
set_option maxRecDepth 100000 in
theorem ms_X8_121 : hc_MS RX8 121 yX8_kindOf cX8_kindOf 1 (some .int) 1 := ⟨⟨hc_tb_4 208 (by rfl) rfl, hc_tb_1 8 (by rfl) rfl, hc_tb_4 206 (by rfl) rfl, by decide +kernel, by decide⟩, hc_tb_4 207 (by rfl) rfl⟩
set_option maxRecDepth 100000 in
theorem mv_X8_127 : hc_MV RX8 127 yX8_readsEar cX8_readsEar 7 none 0 := ⟨⟨hc_tb_4 212 (by rfl) rfl, hc_tb_1 8 (by rfl) rfl, hc_tb_4 209 (by rfl) rfl, by decide +kernel, by decide⟩, hc_tb_4 211 (by rfl) rfl, hc_tb_of 32 (by decide +kernel) rfl⟩
set_option maxRecDepth 100000 in
theorem mv_X8_124 : hc_MV RX8 124 yX8_next cX8_next 3 (some .int) 2 := ⟨⟨hc_tb_4 216 (by rfl) rfl, hc_tb_1 8 (by rfl) rfl, hc_tb_4 213 (by rfl) rfl, by decide +kernel, by decide⟩, hc_tb_4 215 (by rfl) rfl, hc_tb_of 33 (by decide +kernel) rfl⟩
set_option maxRecDepth 100000 in
theorem mv_X8_130 : hc_MV RX8 130 yX8_readsDoing cX8_readsDoing 5 none 0 := ⟨⟨hc_tb_4 220 (by rfl) rfl, hc_tb_1 8 (by rfl) rfl, hc_tb_4 217 (by rfl) rfl, by decide +kernel, by decide⟩, hc_tb_4 219 (by rfl) rfl, hc_tb_of 34 (by decide +kernel) rfl⟩
set_option maxRecDepth 100000 in
theorem kc_X8_133 : Cond.constant RX8 133 (-1000100) ∈ hc_tb := hc_tb_4 221 (by rfl) rfl
set_option maxRecDepth 100000 in
theorem ms_X8_134 : hc_MS RX8 134 yX8_copies cX8_copies 5 none 4 := ⟨⟨hc_tb_4 224 (by rfl) rfl, hc_tb_1 8 (by rfl) rfl, hc_tb_4 222 (by rfl) rfl, by decide +kernel, by decide⟩, hc_tb_4 223 (by rfl) rfl⟩
set_option maxRecDepth 100000 in
theorem mv_L_44 : hc_MV RL 44 yX8_fault cX8_fault 1 (some .int) 0 := ⟨⟨hc_tb_4 228 (by rfl) rfl, hc_tb_1 8 (by rfl) rfl, hc_tb_4 225 (by rfl) rfl, by decide +kernel, by decide⟩, hc_tb_4 226 (by rfl) rfl, hc_tb_4 227 (by rfl) rfl⟩
set_option maxRecDepth 100000 in
theorem mv_L_48 : hc_MV RL 48 yX8_quarters cX8_quarters 3 (some .int) 1 := ⟨⟨hc_tb_4 232 (by rfl) rfl, hc_tb_1 8 (by rfl) rfl, hc_tb_4 229 (by rfl) rfl, by decide +kernel, by decide⟩, hc_tb_4 230 (by rfl) rfl, hc_tb_4 231 (by rfl) rfl⟩
set_option maxRecDepth 100000 in
theorem mv_X8_171 : hc_MV RX8 171 yX8_isHouse cX8_isHouse 1 (some .boolean) 0 := ⟨⟨hc_tb_4 236 (by rfl) rfl, hc_tb_1 8 (by rfl) rfl, hc_tb_4 233 (by rfl) rfl, by decide +kernel, by decide⟩, hc_tb_4 235 (by rfl) rfl, hc_tb_of 35 (by decide +kernel) rfl⟩
set_option maxRecDepth 100000 in
theorem kc_X8_174 : Cond.constant RX8 174 (-1000002) ∈ hc_tb := hc_tb_4 237 (by rfl) rfl
set_option maxRecDepth 100000 in
theorem mv_X8_175 : hc_MV RX8 175 yX8_notes cX8_notes 2 none 0 := ⟨⟨hc_tb_5 1 (by rfl) rfl, hc_tb_1 8 (by rfl) rfl, hc_tb_4 238 (by rfl) rfl, by decide +kernel, by decide⟩, hc_tb_5 0 (by rfl) rfl, hc_tb_of 36 (by decide +kernel) rfl⟩
set_option maxRecDepth 100000 in
theorem ms_X8_167 : hc_MS RX8 167 yX8_passes cX8_passes 5 none 1 := ⟨⟨hc_tb_5 4 (by rfl) rfl, hc_tb_1 8 (by rfl) rfl, hc_tb_5 2 (by rfl) rfl, by decide +kernel, by decide⟩, hc_tb_5 3 (by rfl) rfl⟩
set_option maxRecDepth 100000 in
theorem ms_X8_164 : hc_MS RX8 164 yX8_goes cX8_goes 1 (some .int) 1 := ⟨⟨hc_tb_5 7 (by rfl) rfl, hc_tb_1 8 (by rfl) rfl, hc_tb_5 5 (by rfl) rfl, by decide +kernel, by decide⟩, hc_tb_5 6 (by rfl) rfl⟩
set_option maxRecDepth 100000 in
theorem ms_X8_157 : hc_MS RX8 157 yX8_listening cX8_listening 3 (some .int) 1 := ⟨⟨hc_tb_5 10 (by rfl) rfl, hc_tb_1 8 (by rfl) rfl, hc_tb_5 8 (by rfl) rfl, by decide +kernel, by decide⟩, hc_tb_5 9 (by rfl) rfl⟩
set_option maxRecDepth 100000 in
theorem ms_X8_141 : hc_MS RX8 141 yX8_listens cX8_listens 3 (some .boolean) 2 := ⟨⟨hc_tb_5 13 (by rfl) rfl, hc_tb_1 8 (by rfl) rfl, hc_tb_5 11 (by rfl) rfl, by decide +kernel, by decide⟩, hc_tb_5 12 (by rfl) rfl⟩
set_option maxRecDepth 100000 in
theorem ms_X8_161 : hc_MS RX8 161 yX8_goesBy cX8_goesBy 3 (some .int) 2 := ⟨⟨hc_tb_5 16 (by rfl) rfl, hc_tb_1 8 (by rfl) rfl, hc_tb_5 14 (by rfl) rfl, by decide +kernel, by decide⟩, hc_tb_5 15 (by rfl) rfl⟩
set_option maxRecDepth 100000 in
theorem ms_X8_153 : hc_MS RX8 153 yX8_given cX8_given 5 (some .int) 3 := ⟨⟨hc_tb_5 19 (by rfl) rfl, hc_tb_1 8 (by rfl) rfl, hc_tb_5 17 (by rfl) rfl, by decide +kernel, by decide⟩, hc_tb_5 18 (by rfl) rfl⟩
set_option maxRecDepth 100000 in
theorem ms_X8_145 : hc_MS RX8 145 yX8_has cX8_has 2 (some .boolean) 2 := ⟨⟨hc_tb_5 22 (by rfl) rfl, hc_tb_1 8 (by rfl) rfl, hc_tb_5 20 (by rfl) rfl, by decide +kernel, by decide⟩, hc_tb_5 21 (by rfl) rfl⟩
set_option maxRecDepth 100000 in
theorem ms_X8_149 : hc_MS RX8 149 yX8_heedOf cX8_heedOf 4 (some .int) 2 := ⟨⟨hc_tb_5 25 (by rfl) rfl, hc_tb_1 8 (by rfl) rfl, hc_tb_5 23 (by rfl) rfl, by decide +kernel, by decide⟩, hc_tb_5 24 (by rfl) rfl⟩
set_option maxRecDepth 100000 in
theorem mv_L_53 : hc_MV RL 53 yX8_go cX8_go 4 (some .int) 2 := ⟨⟨hc_tb_5 29 (by rfl) rfl, hc_tb_1 8 (by rfl) rfl, hc_tb_5 26 (by rfl) rfl, by decide +kernel, by decide⟩, hc_tb_5 27 (by rfl) rfl, hc_tb_5 28 (by rfl) rfl⟩
set_option maxRecDepth 100000 in
theorem mv_X8_178 : hc_MV RX8 178 yX8_isEar cX8_isEar 2 (some .boolean) 1 := ⟨⟨hc_tb_5 33 (by rfl) rfl, hc_tb_1 8 (by rfl) rfl, hc_tb_5 30 (by rfl) rfl, by decide +kernel, by decide⟩, hc_tb_5 32 (by rfl) rfl, hc_tb_of 37 (by decide +kernel) rfl⟩
set_option maxRecDepth 100000 in
theorem mv_L_57 : hc_MV RL 57 yX8_hush cX8_hush 3 (some .int) 2 := ⟨⟨hc_tb_5 37 (by rfl) rfl, hc_tb_1 8 (by rfl) rfl, hc_tb_5 34 (by rfl) rfl, by decide +kernel, by decide⟩, hc_tb_5 35 (by rfl) rfl, hc_tb_5 36 (by rfl) rfl⟩
set_option maxRecDepth 100000 in
theorem mv_X8_181 : hc_MV RX8 181 yX8_hushed cX8_hushed 3 (some .int) 0 := ⟨⟨hc_tb_5 41 (by rfl) rfl, hc_tb_1 8 (by rfl) rfl, hc_tb_5 38 (by rfl) rfl, by decide +kernel, by decide⟩, hc_tb_5 40 (by rfl) rfl, hc_tb_of 38 (by decide +kernel) rfl⟩
set_option maxRecDepth 100000 in
theorem mv_L_61 : hc_MV RL 61 yX8_wool cX8_wool 3 (some .int) 1 := ⟨⟨hc_tb_5 45 (by rfl) rfl, hc_tb_1 8 (by rfl) rfl, hc_tb_5 42 (by rfl) rfl, by decide +kernel, by decide⟩, hc_tb_5 43 (by rfl) rfl, hc_tb_5 44 (by rfl) rfl⟩
set_option maxRecDepth 100000 in
theorem mv_L_65 : hc_MV RL 65 yX8_undo cX8_undo 1 (some .int) 0 := ⟨⟨hc_tb_5 49 (by rfl) rfl, hc_tb_1 8 (by rfl) rfl, hc_tb_5 46 (by rfl) rfl, by decide +kernel, by decide⟩, hc_tb_5 47 (by rfl) rfl, hc_tb_5 48 (by rfl) rfl⟩
set_option maxRecDepth 100000 in
theorem mv_L_69 : hc_MV RL 69 yX8_ear cX8_ear 4 (some .int) 2 := ⟨⟨hc_tb_5 53 (by rfl) rfl, hc_tb_1 8 (by rfl) rfl, hc_tb_5 50 (by rfl) rfl, by decide +kernel, by decide⟩, hc_tb_5 51 (by rfl) rfl, hc_tb_5 52 (by rfl) rfl⟩
set_option maxRecDepth 100000 in
theorem mv_X8_185 : hc_MV RX8 185 yX8_givesNow cX8_givesNow 3 (some .int) 1 := ⟨⟨hc_tb_5 57 (by rfl) rfl, hc_tb_1 8 (by rfl) rfl, hc_tb_5 54 (by rfl) rfl, by decide +kernel, by decide⟩, hc_tb_5 56 (by rfl) rfl, hc_tb_of 39 (by decide +kernel) rfl⟩
set_option maxRecDepth 100000 in
theorem mv_L_73 : hc_MV RL 73 yX8_clock cX8_clock 2 (some .int) 1 := ⟨⟨hc_tb_5 61 (by rfl) rfl, hc_tb_1 8 (by rfl) rfl, hc_tb_5 58 (by rfl) rfl, by decide +kernel, by decide⟩, hc_tb_5 59 (by rfl) rfl, hc_tb_5 60 (by rfl) rfl⟩
set_option maxRecDepth 100000 in
theorem mv_L_77 : hc_MV RL 77 yX8_ahead cX8_ahead 2 (some .int) 1 := ⟨⟨hc_tb_5 65 (by rfl) rfl, hc_tb_1 8 (by rfl) rfl, hc_tb_5 62 (by rfl) rfl, by decide +kernel, by decide⟩, hc_tb_5 63 (by rfl) rfl, hc_tb_5 64 (by rfl) rfl⟩
set_option maxRecDepth 100000 in
theorem mv_X8_188 : hc_MV RX8 188 yX8_partsIn cX8_partsIn 3 (some .int) 1 := ⟨⟨hc_tb_5 69 (by rfl) rfl, hc_tb_1 8 (by rfl) rfl, hc_tb_5 66 (by rfl) rfl, by decide +kernel, by decide⟩, hc_tb_5 68 (by rfl) rfl, hc_tb_of 40 (by decide +kernel) rfl⟩
set_option maxRecDepth 100000 in
theorem mv_L_81 : hc_MV RL 81 yX8_whenShows cX8_whenShows 3 (some .int) 1 := ⟨⟨hc_tb_5 73 (by rfl) rfl, hc_tb_1 8 (by rfl) rfl, hc_tb_5 70 (by rfl) rfl, by decide +kernel, by decide⟩, hc_tb_5 71 (by rfl) rfl, hc_tb_5 72 (by rfl) rfl⟩
set_option maxRecDepth 100000 in
theorem mv_X8_191 : hc_MV RX8 191 yX8_lays cX8_lays 2 none 0 := ⟨⟨hc_tb_5 77 (by rfl) rfl, hc_tb_1 8 (by rfl) rfl, hc_tb_5 74 (by rfl) rfl, by decide +kernel, by decide⟩, hc_tb_5 76 (by rfl) rfl, hc_tb_of 41 (by decide +kernel) rfl⟩
set_option maxRecDepth 100000 in
theorem mv_L_85 : hc_MV RL 85 yX8_done cX8_done 2 (some .int) 1 := ⟨⟨hc_tb_5 81 (by rfl) rfl, hc_tb_1 8 (by rfl) rfl, hc_tb_5 78 (by rfl) rfl, by decide +kernel, by decide⟩, hc_tb_5 79 (by rfl) rfl, hc_tb_5 80 (by rfl) rfl⟩
set_option maxRecDepth 100000 in
theorem mv_X8_194 : hc_MV RX8 194 yX8_isDoing cX8_isDoing 2 (some .boolean) 1 := ⟨⟨hc_tb_5 85 (by rfl) rfl, hc_tb_1 8 (by rfl) rfl, hc_tb_5 82 (by rfl) rfl, by decide +kernel, by decide⟩, hc_tb_5 84 (by rfl) rfl, hc_tb_of 42 (by decide +kernel) rfl⟩
set_option maxRecDepth 100000 in
theorem mv_L_89 : hc_MV RL 89 yX8_late cX8_late 4 (some .int) 0 := ⟨⟨hc_tb_5 89 (by rfl) rfl, hc_tb_1 8 (by rfl) rfl, hc_tb_5 86 (by rfl) rfl, by decide +kernel, by decide⟩, hc_tb_5 87 (by rfl) rfl, hc_tb_5 88 (by rfl) rfl⟩
set_option maxRecDepth 100000 in
theorem mv_L_93 : hc_MV RL 93 yX8_latest cX8_latest 6 (some .int) 1 := ⟨⟨hc_tb_5 93 (by rfl) rfl, hc_tb_1 8 (by rfl) rfl, hc_tb_5 90 (by rfl) rfl, by decide +kernel, by decide⟩, hc_tb_5 91 (by rfl) rfl, hc_tb_5 92 (by rfl) rfl⟩
set_option maxRecDepth 100000 in
theorem mv_L_97 : hc_MV RL 97 yX8_toHush cX8_toHush 8 (some .int) 3 := ⟨⟨hc_tb_5 97 (by rfl) rfl, hc_tb_1 8 (by rfl) rfl, hc_tb_5 94 (by rfl) rfl, by decide +kernel, by decide⟩, hc_tb_5 95 (by rfl) rfl, hc_tb_5 96 (by rfl) rfl⟩
set_option maxRecDepth 100000 in
theorem ms_X8_197 : hc_MS RX8 197 yX8_ones cX8_ones 3 (some .int) 1 := ⟨⟨hc_tb_5 100 (by rfl) rfl, hc_tb_1 8 (by rfl) rfl, hc_tb_5 98 (by rfl) rfl, by decide +kernel, by decide⟩, hc_tb_5 99 (by rfl) rfl⟩
set_option maxRecDepth 100000 in
theorem mv_X8_200 : hc_MV RX8 200 yX8_told cX8_told 3 (some .int) 2 := ⟨⟨hc_tb_5 104 (by rfl) rfl, hc_tb_1 8 (by rfl) rfl, hc_tb_5 101 (by rfl) rfl, by decide +kernel, by decide⟩, hc_tb_5 103 (by rfl) rfl, hc_tb_of 43 (by decide +kernel) rfl⟩
set_option maxRecDepth 100000 in
theorem mv_L_101 : hc_MV RL 101 yX8_toCall cX8_toCall 7 (some .int) 3 := ⟨⟨hc_tb_5 108 (by rfl) rfl, hc_tb_1 8 (by rfl) rfl, hc_tb_5 105 (by rfl) rfl, by decide +kernel, by decide⟩, hc_tb_5 106 (by rfl) rfl, hc_tb_5 107 (by rfl) rfl⟩
set_option maxRecDepth 100000 in
theorem mv_L_106 : hc_MV RL 106 yX8_who cX8_who 9 (some .int) 4 := ⟨⟨hc_tb_5 112 (by rfl) rfl, hc_tb_1 8 (by rfl) rfl, hc_tb_5 109 (by rfl) rfl, by decide +kernel, by decide⟩, hc_tb_5 110 (by rfl) rfl, hc_tb_5 111 (by rfl) rfl⟩
set_option maxRecDepth 100000 in
theorem mv_X8_203 : hc_MV RX8 203 yX8_goesSo cX8_goesSo 5 (some .boolean) 2 := ⟨⟨hc_tb_5 116 (by rfl) rfl, hc_tb_1 8 (by rfl) rfl, hc_tb_5 113 (by rfl) rfl, by decide +kernel, by decide⟩, hc_tb_5 115 (by rfl) rfl, hc_tb_of 44 (by decide +kernel) rfl⟩
set_option maxRecDepth 100000 in
theorem mv_L_110 : hc_MV RL 110 yX8_heed cX8_heed 7 (some .int) 4 := ⟨⟨hc_tb_5 120 (by rfl) rfl, hc_tb_1 8 (by rfl) rfl, hc_tb_5 117 (by rfl) rfl, by decide +kernel, by decide⟩, hc_tb_5 118 (by rfl) rfl, hc_tb_5 119 (by rfl) rfl⟩
set_option maxRecDepth 100000 in
theorem mv_L_114 : hc_MV RL 114 yX8_older cX8_older 4 (some .int) 3 := ⟨⟨hc_tb_5 124 (by rfl) rfl, hc_tb_1 8 (by rfl) rfl, hc_tb_5 121 (by rfl) rfl, by decide +kernel, by decide⟩, hc_tb_5 122 (by rfl) rfl, hc_tb_5 123 (by rfl) rfl⟩
set_option maxRecDepth 100000 in
theorem mv_L_118 : hc_MV RL 118 yX8_odds cX8_odds 10 (some .int) 3 := ⟨⟨hc_tb_5 128 (by rfl) rfl, hc_tb_1 8 (by rfl) rfl, hc_tb_5 125 (by rfl) rfl, by decide +kernel, by decide⟩, hc_tb_5 126 (by rfl) rfl, hc_tb_5 127 (by rfl) rfl⟩
set_option maxRecDepth 100000 in
theorem mv_L_122 : hc_MV RL 122 yX8_image cX8_image 2 (some .int) 1 := ⟨⟨hc_tb_5 132 (by rfl) rfl, hc_tb_1 8 (by rfl) rfl, hc_tb_5 129 (by rfl) rfl, by decide +kernel, by decide⟩, hc_tb_5 130 (by rfl) rfl, hc_tb_5 131 (by rfl) rfl⟩
set_option maxRecDepth 100000 in
theorem mv_L_126 : hc_MV RL 126 yX8_restore cX8_restore 2 (some .int) 1 := ⟨⟨hc_tb_5 136 (by rfl) rfl, hc_tb_1 8 (by rfl) rfl, hc_tb_5 133 (by rfl) rfl, by decide +kernel, by decide⟩, hc_tb_5 134 (by rfl) rfl, hc_tb_5 135 (by rfl) rfl⟩
set_option maxRecDepth 100000 in
theorem mv_L_130 : hc_MV RL 130 yX8_kind cX8_kind 2 (some .int) 1 := ⟨⟨hc_tb_5 140 (by rfl) rfl, hc_tb_1 8 (by rfl) rfl, hc_tb_5 137 (by rfl) rfl, by decide +kernel, by decide⟩, hc_tb_5 138 (by rfl) rfl, hc_tb_5 139 (by rfl) rfl⟩
set_option maxRecDepth 100000 in
theorem mv_X8_206 : hc_MV RX8 206 yX8_kindIn cX8_kindIn 2 (some .int) 1 := ⟨⟨hc_tb_5 144 (by rfl) rfl, hc_tb_1 8 (by rfl) rfl, hc_tb_5 141 (by rfl) rfl, by decide +kernel, by decide⟩, hc_tb_5 143 (by rfl) rfl, hc_tb_of 45 (by decide +kernel) rfl⟩
set_option maxRecDepth 100000 in
theorem mv_L_134 : hc_MV RL 134 yX8_as cX8_as 5 (some .int) 2 := ⟨⟨hc_tb_5 148 (by rfl) rfl, hc_tb_1 8 (by rfl) rfl, hc_tb_5 145 (by rfl) rfl, by decide +kernel, by decide⟩, hc_tb_5 146 (by rfl) rfl, hc_tb_5 147 (by rfl) rfl⟩
set_option maxRecDepth 100000 in
theorem mv_L_138 : hc_MV RL 138 yX8_ask cX8_ask 4 (some .int) 2 := ⟨⟨hc_tb_5 152 (by rfl) rfl, hc_tb_1 8 (by rfl) rfl, hc_tb_5 149 (by rfl) rfl, by decide +kernel, by decide⟩, hc_tb_5 150 (by rfl) rfl, hc_tb_5 151 (by rfl) rfl⟩
set_option maxRecDepth 100000 in
theorem mv_X8_219 : hc_MV RX8 219 yX8_catSize cX8_catSize 4 (some .int) 1 := ⟨⟨hc_tb_5 156 (by rfl) rfl, hc_tb_1 8 (by rfl) rfl, hc_tb_5 153 (by rfl) rfl, by decide +kernel, by decide⟩, hc_tb_5 155 (by rfl) rfl, hc_tb_of 46 (by decide +kernel) rfl⟩
set_option maxRecDepth 100000 in
theorem mv_X8_212 : hc_MV RX8 212 yX8_begins cX8_begins 2 none 1 := ⟨⟨hc_tb_5 160 (by rfl) rfl, hc_tb_1 8 (by rfl) rfl, hc_tb_5 157 (by rfl) rfl, by decide +kernel, by decide⟩, hc_tb_5 159 (by rfl) rfl, hc_tb_of 47 (by decide +kernel) rfl⟩
set_option maxRecDepth 100000 in
theorem mv_X8_222 : hc_MV RX8 222 yX8_personSize cX8_personSize 4 (some .int) 1 := ⟨⟨hc_tb_5 164 (by rfl) rfl, hc_tb_1 8 (by rfl) rfl, hc_tb_5 161 (by rfl) rfl, by decide +kernel, by decide⟩, hc_tb_5 163 (by rfl) rfl, hc_tb_of 48 (by decide +kernel) rfl⟩
set_option maxRecDepth 100000 in
theorem mv_X8_216 : hc_MV RX8 216 yX8_personMark cX8_personMark 4 (some .int) 1 := ⟨⟨hc_tb_5 168 (by rfl) rfl, hc_tb_1 8 (by rfl) rfl, hc_tb_5 165 (by rfl) rfl, by decide +kernel, by decide⟩, hc_tb_5 167 (by rfl) rfl, hc_tb_of 49 (by decide +kernel) rfl⟩
set_option maxRecDepth 100000 in
theorem mv_X8_225 : hc_MV RX8 225 yX8_catMark cX8_catMark 2 (some .int) 1 := ⟨⟨hc_tb_5 172 (by rfl) rfl, hc_tb_1 8 (by rfl) rfl, hc_tb_5 169 (by rfl) rfl, by decide +kernel, by decide⟩, hc_tb_5 171 (by rfl) rfl, hc_tb_of 50 (by decide +kernel) rfl⟩
set_option maxRecDepth 100000 in
theorem mv_L_142 : hc_MV RL 142 yX8_trace cX8_trace 2 (some .int) 1 := ⟨⟨hc_tb_5 176 (by rfl) rfl, hc_tb_1 8 (by rfl) rfl, hc_tb_5 173 (by rfl) rfl, by decide +kernel, by decide⟩, hc_tb_5 174 (by rfl) rfl, hc_tb_5 175 (by rfl) rfl⟩
set_option maxRecDepth 100000 in
theorem mv_L_146 : hc_MV RL 146 yX8_count cX8_count 4 (some .int) 1 := ⟨⟨hc_tb_5 180 (by rfl) rfl, hc_tb_1 8 (by rfl) rfl, hc_tb_5 177 (by rfl) rfl, by decide +kernel, by decide⟩, hc_tb_5 178 (by rfl) rfl, hc_tb_5 179 (by rfl) rfl⟩
set_option maxRecDepth 100000 in
theorem mv_L_150 : hc_MV RL 150 yX8_status cX8_status 1 (some .int) 0 := ⟨⟨hc_tb_5 184 (by rfl) rfl, hc_tb_1 8 (by rfl) rfl, hc_tb_5 181 (by rfl) rfl, by decide +kernel, by decide⟩, hc_tb_5 182 (by rfl) rfl, hc_tb_5 183 (by rfl) rfl⟩
set_option maxRecDepth 100000 in
theorem ac_nat : Cond.native arraycopyName ∈ hc_tb := hc_tb_2 68 (by rfl) rfl
set_option maxRecDepth 100000 in
theorem ac_sta : Cond.static arraycopyName ∈ hc_tb := hc_tb_2 67 (by rfl) rfl
set_option maxRecDepth 100000 in
theorem ac_ini : Cond.initialized "java/lang/System" ∈ hc_tb := hc_tb_1 9 (by rfl) rfl
end
