theorem dX3_init_0_b : (decode cX3_init 0 = .ok (.aload_n 0, 1)) ∧ (decode cX3_init 1 = .ok (.invokespecial 1, 3)) ∧ (decode cX3_init 4 = .ok (.aload_n 0, 1)) ∧ (decode cX3_init 5 = .ok (.iconst 0, 1)) ∧ (decode cX3_init 6 = .ok (.putfield 7, 3)) ∧ (decode cX3_init 9 = .ok (.aload_n 0, 1)) ∧ (decode cX3_init 10 = .ok (.iconst 0, 1)) ∧ (decode cX3_init 11 = .ok (.putfield 13, 3)) ∧ (decode cX3_init 14 = .ok (.aload_n 0, 1)) ∧ (decode cX3_init 15 = .ok (.iconst 0, 1)) ∧ (decode cX3_init 16 = .ok (.putfield 17, 3)) ∧ (decode cX3_init 19 = .ok (.aload_n 0, 1)) := by decide +kernel
theorem dX3_init_0 : decode cX3_init 0 = .ok (.aload_n 0, 1) := dX3_init_0_b.1
theorem dX3_init_1 : decode cX3_init 1 = .ok (.invokespecial 1, 3) := dX3_init_0_b.2.1
theorem dX3_init_4 : decode cX3_init 4 = .ok (.aload_n 0, 1) := dX3_init_0_b.2.2.1
theorem dX3_init_5 : decode cX3_init 5 = .ok (.iconst 0, 1) := dX3_init_0_b.2.2.2.1
theorem dX3_init_6 : decode cX3_init 6 = .ok (.putfield 7, 3) := dX3_init_0_b.2.2.2.2.1
theorem dX3_init_9 : decode cX3_init 9 = .ok (.aload_n 0, 1) := dX3_init_0_b.2.2.2.2.2.1
theorem dX3_init_10 : decode cX3_init 10 = .ok (.iconst 0, 1) := dX3_init_0_b.2.2.2.2.2.2.1
theorem dX3_init_11 : decode cX3_init 11 = .ok (.putfield 13, 3) := dX3_init_0_b.2.2.2.2.2.2.2.1
theorem dX3_init_14 : decode cX3_init 14 = .ok (.aload_n 0, 1) := dX3_init_0_b.2.2.2.2.2.2.2.2.1
theorem dX3_init_15 : decode cX3_init 15 = .ok (.iconst 0, 1) := dX3_init_0_b.2.2.2.2.2.2.2.2.2.1
theorem dX3_init_16 : decode cX3_init 16 = .ok (.putfield 17, 3) := dX3_init_0_b.2.2.2.2.2.2.2.2.2.2.1
theorem dX3_init_19 : decode cX3_init 19 = .ok (.aload_n 0, 1) := dX3_init_0_b.2.2.2.2.2.2.2.2.2.2.2
theorem dX3_init_20_b : (decode cX3_init 20 = .ok (.iconst 0, 1)) ∧ (decode cX3_init 21 = .ok (.putfield 20, 3)) ∧ (decode cX3_init 24 = .ok (.aload_n 0, 1)) ∧ (decode cX3_init 25 = .ok (.iconst 0, 1)) ∧ (decode cX3_init 26 = .ok (.putfield 23, 3)) ∧ (decode cX3_init 29 = .ok (.aload_n 0, 1)) ∧ (decode cX3_init 30 = .ok (.iconst 0, 1)) ∧ (decode cX3_init 31 = .ok (.putfield 26, 3)) ∧ (decode cX3_init 34 = .ok (.aload_n 0, 1)) ∧ (decode cX3_init 35 = .ok (.iconst 0, 1)) ∧ (decode cX3_init 36 = .ok (.putfield 29, 3)) ∧ (decode cX3_init 39 = .ok (.aload_n 0, 1)) := by decide +kernel
theorem dX3_init_20 : decode cX3_init 20 = .ok (.iconst 0, 1) := dX3_init_20_b.1
theorem dX3_init_21 : decode cX3_init 21 = .ok (.putfield 20, 3) := dX3_init_20_b.2.1
theorem dX3_init_24 : decode cX3_init 24 = .ok (.aload_n 0, 1) := dX3_init_20_b.2.2.1
theorem dX3_init_25 : decode cX3_init 25 = .ok (.iconst 0, 1) := dX3_init_20_b.2.2.2.1
theorem dX3_init_26 : decode cX3_init 26 = .ok (.putfield 23, 3) := dX3_init_20_b.2.2.2.2.1
theorem dX3_init_29 : decode cX3_init 29 = .ok (.aload_n 0, 1) := dX3_init_20_b.2.2.2.2.2.1
theorem dX3_init_30 : decode cX3_init 30 = .ok (.iconst 0, 1) := dX3_init_20_b.2.2.2.2.2.2.1
theorem dX3_init_31 : decode cX3_init 31 = .ok (.putfield 26, 3) := dX3_init_20_b.2.2.2.2.2.2.2.1
theorem dX3_init_34 : decode cX3_init 34 = .ok (.aload_n 0, 1) := dX3_init_20_b.2.2.2.2.2.2.2.2.1
theorem dX3_init_35 : decode cX3_init 35 = .ok (.iconst 0, 1) := dX3_init_20_b.2.2.2.2.2.2.2.2.2.1
theorem dX3_init_36 : decode cX3_init 36 = .ok (.putfield 29, 3) := dX3_init_20_b.2.2.2.2.2.2.2.2.2.2.1
theorem dX3_init_39 : decode cX3_init 39 = .ok (.aload_n 0, 1) := dX3_init_20_b.2.2.2.2.2.2.2.2.2.2.2
theorem dX3_init_40_b : (decode cX3_init 40 = .ok (.bipush 6, 2)) ∧ (decode cX3_init 42 = .ok (.newarray .int, 2)) ∧ (decode cX3_init 44 = .ok (.putfield 32, 3)) ∧ (decode cX3_init 47 = .ok (.aload_n 0, 1)) ∧ (decode cX3_init 48 = .ok (.bipush 6, 2)) ∧ (decode cX3_init 50 = .ok (.newarray .int, 2)) ∧ (decode cX3_init 52 = .ok (.putfield 36, 3)) ∧ (decode cX3_init 55 = .ok (.aload_n 0, 1)) ∧ (decode cX3_init 56 = .ok (.bipush 6, 2)) ∧ (decode cX3_init 58 = .ok (.newarray .int, 2)) ∧ (decode cX3_init 60 = .ok (.putfield 39, 3)) ∧ (decode cX3_init 63 = .ok (.aload_n 0, 1)) := by decide +kernel
theorem dX3_init_40 : decode cX3_init 40 = .ok (.bipush 6, 2) := dX3_init_40_b.1
theorem dX3_init_42 : decode cX3_init 42 = .ok (.newarray .int, 2) := dX3_init_40_b.2.1
theorem dX3_init_44 : decode cX3_init 44 = .ok (.putfield 32, 3) := dX3_init_40_b.2.2.1
theorem dX3_init_47 : decode cX3_init 47 = .ok (.aload_n 0, 1) := dX3_init_40_b.2.2.2.1
theorem dX3_init_48 : decode cX3_init 48 = .ok (.bipush 6, 2) := dX3_init_40_b.2.2.2.2.1
theorem dX3_init_50 : decode cX3_init 50 = .ok (.newarray .int, 2) := dX3_init_40_b.2.2.2.2.2.1
theorem dX3_init_52 : decode cX3_init 52 = .ok (.putfield 36, 3) := dX3_init_40_b.2.2.2.2.2.2.1
theorem dX3_init_55 : decode cX3_init 55 = .ok (.aload_n 0, 1) := dX3_init_40_b.2.2.2.2.2.2.2.1
theorem dX3_init_56 : decode cX3_init 56 = .ok (.bipush 6, 2) := dX3_init_40_b.2.2.2.2.2.2.2.2.1
theorem dX3_init_58 : decode cX3_init 58 = .ok (.newarray .int, 2) := dX3_init_40_b.2.2.2.2.2.2.2.2.2.1
theorem dX3_init_60 : decode cX3_init 60 = .ok (.putfield 39, 3) := dX3_init_40_b.2.2.2.2.2.2.2.2.2.2.1
theorem dX3_init_63 : decode cX3_init 63 = .ok (.aload_n 0, 1) := dX3_init_40_b.2.2.2.2.2.2.2.2.2.2.2
theorem dX3_init_64_b : (decode cX3_init 64 = .ok (.bipush 6, 2)) ∧ (decode cX3_init 66 = .ok (.newarray .int, 2)) ∧ (decode cX3_init 68 = .ok (.putfield 42, 3)) ∧ (decode cX3_init 71 = .ok (.aload_n 0, 1)) ∧ (decode cX3_init 72 = .ok (.bipush 6, 2)) ∧ (decode cX3_init 74 = .ok (.newarray .int, 2)) ∧ (decode cX3_init 76 = .ok (.putfield 45, 3)) ∧ (decode cX3_init 79 = .ok (.aload_n 0, 1)) ∧ (decode cX3_init 80 = .ok (.bipush 6, 2)) ∧ (decode cX3_init 82 = .ok (.newarray .int, 2)) ∧ (decode cX3_init 84 = .ok (.putfield 48, 3)) ∧ (decode cX3_init 87 = .ok (.aload_n 0, 1)) := by decide +kernel
theorem dX3_init_64 : decode cX3_init 64 = .ok (.bipush 6, 2) := dX3_init_64_b.1
theorem dX3_init_66 : decode cX3_init 66 = .ok (.newarray .int, 2) := dX3_init_64_b.2.1
theorem dX3_init_68 : decode cX3_init 68 = .ok (.putfield 42, 3) := dX3_init_64_b.2.2.1
theorem dX3_init_71 : decode cX3_init 71 = .ok (.aload_n 0, 1) := dX3_init_64_b.2.2.2.1
theorem dX3_init_72 : decode cX3_init 72 = .ok (.bipush 6, 2) := dX3_init_64_b.2.2.2.2.1
theorem dX3_init_74 : decode cX3_init 74 = .ok (.newarray .int, 2) := dX3_init_64_b.2.2.2.2.2.1
theorem dX3_init_76 : decode cX3_init 76 = .ok (.putfield 45, 3) := dX3_init_64_b.2.2.2.2.2.2.1
theorem dX3_init_79 : decode cX3_init 79 = .ok (.aload_n 0, 1) := dX3_init_64_b.2.2.2.2.2.2.2.1
theorem dX3_init_80 : decode cX3_init 80 = .ok (.bipush 6, 2) := dX3_init_64_b.2.2.2.2.2.2.2.2.1
theorem dX3_init_82 : decode cX3_init 82 = .ok (.newarray .int, 2) := dX3_init_64_b.2.2.2.2.2.2.2.2.2.1
theorem dX3_init_84 : decode cX3_init 84 = .ok (.putfield 48, 3) := dX3_init_64_b.2.2.2.2.2.2.2.2.2.2.1
theorem dX3_init_87 : decode cX3_init 87 = .ok (.aload_n 0, 1) := dX3_init_64_b.2.2.2.2.2.2.2.2.2.2.2
theorem dX3_init_88_b : (decode cX3_init 88 = .ok (.iconst 4, 1)) ∧ (decode cX3_init 89 = .ok (.newarray .int, 2)) ∧ (decode cX3_init 91 = .ok (.putfield 51, 3)) ∧ (decode cX3_init 94 = .ok (.aload_n 0, 1)) ∧ (decode cX3_init 95 = .ok (.iconst 4, 1)) ∧ (decode cX3_init 96 = .ok (.newarray .int, 2)) ∧ (decode cX3_init 98 = .ok (.putfield 54, 3)) ∧ (decode cX3_init 101 = .ok (.aload_n 0, 1)) ∧ (decode cX3_init 102 = .ok (.iconst 4, 1)) ∧ (decode cX3_init 103 = .ok (.newarray .int, 2)) ∧ (decode cX3_init 105 = .ok (.putfield 57, 3)) ∧ (decode cX3_init 108 = .ok (.aload_n 0, 1)) := by decide +kernel
theorem dX3_init_88 : decode cX3_init 88 = .ok (.iconst 4, 1) := dX3_init_88_b.1
theorem dX3_init_89 : decode cX3_init 89 = .ok (.newarray .int, 2) := dX3_init_88_b.2.1
theorem dX3_init_91 : decode cX3_init 91 = .ok (.putfield 51, 3) := dX3_init_88_b.2.2.1
theorem dX3_init_94 : decode cX3_init 94 = .ok (.aload_n 0, 1) := dX3_init_88_b.2.2.2.1
theorem dX3_init_95 : decode cX3_init 95 = .ok (.iconst 4, 1) := dX3_init_88_b.2.2.2.2.1
theorem dX3_init_96 : decode cX3_init 96 = .ok (.newarray .int, 2) := dX3_init_88_b.2.2.2.2.2.1
theorem dX3_init_98 : decode cX3_init 98 = .ok (.putfield 54, 3) := dX3_init_88_b.2.2.2.2.2.2.1
theorem dX3_init_101 : decode cX3_init 101 = .ok (.aload_n 0, 1) := dX3_init_88_b.2.2.2.2.2.2.2.1
theorem dX3_init_102 : decode cX3_init 102 = .ok (.iconst 4, 1) := dX3_init_88_b.2.2.2.2.2.2.2.2.1
theorem dX3_init_103 : decode cX3_init 103 = .ok (.newarray .int, 2) := dX3_init_88_b.2.2.2.2.2.2.2.2.2.1
theorem dX3_init_105 : decode cX3_init 105 = .ok (.putfield 57, 3) := dX3_init_88_b.2.2.2.2.2.2.2.2.2.2.1
theorem dX3_init_108 : decode cX3_init 108 = .ok (.aload_n 0, 1) := dX3_init_88_b.2.2.2.2.2.2.2.2.2.2.2
theorem dX3_init_109_b : (decode cX3_init 109 = .ok (.sipush 1000, 3)) ∧ (decode cX3_init 112 = .ok (.newarray .int, 2)) ∧ (decode cX3_init 114 = .ok (.putfield 60, 3)) ∧ (decode cX3_init 117 = .ok (.return_, 1)) := by decide +kernel
theorem dX3_init_109 : decode cX3_init 109 = .ok (.sipush 1000, 3) := dX3_init_109_b.1
theorem dX3_init_112 : decode cX3_init 112 = .ok (.newarray .int, 2) := dX3_init_109_b.2.1
theorem dX3_init_114 : decode cX3_init 114 = .ok (.putfield 60, 3) := dX3_init_109_b.2.2.1
theorem dX3_init_117 : decode cX3_init 117 = .ok (.return_, 1) := dX3_init_109_b.2.2.2
theorem dX3_hasEar_0_b : (decode cX3_hasEar 0 = .ok (.iload_n 1, 1)) ∧ (decode cX3_hasEar 1 = .ok (.ifCond .lt 15, 3)) ∧ (decode cX3_hasEar 4 = .ok (.iload_n 1, 1)) ∧ (decode cX3_hasEar 5 = .ok (.aload_n 0, 1)) ∧ (decode cX3_hasEar 6 = .ok (.getfield 26, 3)) ∧ (decode cX3_hasEar 9 = .ok (.if_icmp .ge 7, 3)) ∧ (decode cX3_hasEar 12 = .ok (.iconst 1, 1)) ∧ (decode cX3_hasEar 13 = .ok (.goto 4, 3)) ∧ (decode cX3_hasEar 16 = .ok (.iconst 0, 1)) ∧ (decode cX3_hasEar 17 = .ok (.ireturn, 1)) := by decide +kernel
theorem dX3_hasEar_0 : decode cX3_hasEar 0 = .ok (.iload_n 1, 1) := dX3_hasEar_0_b.1
theorem dX3_hasEar_1 : decode cX3_hasEar 1 = .ok (.ifCond .lt 15, 3) := dX3_hasEar_0_b.2.1
theorem dX3_hasEar_4 : decode cX3_hasEar 4 = .ok (.iload_n 1, 1) := dX3_hasEar_0_b.2.2.1
theorem dX3_hasEar_5 : decode cX3_hasEar 5 = .ok (.aload_n 0, 1) := dX3_hasEar_0_b.2.2.2.1
theorem dX3_hasEar_6 : decode cX3_hasEar 6 = .ok (.getfield 26, 3) := dX3_hasEar_0_b.2.2.2.2.1
theorem dX3_hasEar_9 : decode cX3_hasEar 9 = .ok (.if_icmp .ge 7, 3) := dX3_hasEar_0_b.2.2.2.2.2.1
theorem dX3_hasEar_12 : decode cX3_hasEar 12 = .ok (.iconst 1, 1) := dX3_hasEar_0_b.2.2.2.2.2.2.1
theorem dX3_hasEar_13 : decode cX3_hasEar 13 = .ok (.goto 4, 3) := dX3_hasEar_0_b.2.2.2.2.2.2.2.1
theorem dX3_hasEar_16 : decode cX3_hasEar 16 = .ok (.iconst 0, 1) := dX3_hasEar_0_b.2.2.2.2.2.2.2.2.1
theorem dX3_hasEar_17 : decode cX3_hasEar 17 = .ok (.ireturn, 1) := dX3_hasEar_0_b.2.2.2.2.2.2.2.2.2
theorem dX3_hasDoing_0_b : (decode cX3_hasDoing 0 = .ok (.iload_n 1, 1)) ∧ (decode cX3_hasDoing 1 = .ok (.ifCond .lt 15, 3)) ∧ (decode cX3_hasDoing 4 = .ok (.iload_n 1, 1)) ∧ (decode cX3_hasDoing 5 = .ok (.aload_n 0, 1)) ∧ (decode cX3_hasDoing 6 = .ok (.getfield 29, 3)) ∧ (decode cX3_hasDoing 9 = .ok (.if_icmp .ge 7, 3)) ∧ (decode cX3_hasDoing 12 = .ok (.iconst 1, 1)) ∧ (decode cX3_hasDoing 13 = .ok (.goto 4, 3)) ∧ (decode cX3_hasDoing 16 = .ok (.iconst 0, 1)) ∧ (decode cX3_hasDoing 17 = .ok (.ireturn, 1)) := by decide +kernel
theorem dX3_hasDoing_0 : decode cX3_hasDoing 0 = .ok (.iload_n 1, 1) := dX3_hasDoing_0_b.1
theorem dX3_hasDoing_1 : decode cX3_hasDoing 1 = .ok (.ifCond .lt 15, 3) := dX3_hasDoing_0_b.2.1
theorem dX3_hasDoing_4 : decode cX3_hasDoing 4 = .ok (.iload_n 1, 1) := dX3_hasDoing_0_b.2.2.1
theorem dX3_hasDoing_5 : decode cX3_hasDoing 5 = .ok (.aload_n 0, 1) := dX3_hasDoing_0_b.2.2.2.1
theorem dX3_hasDoing_6 : decode cX3_hasDoing 6 = .ok (.getfield 29, 3) := dX3_hasDoing_0_b.2.2.2.2.1
theorem dX3_hasDoing_9 : decode cX3_hasDoing 9 = .ok (.if_icmp .ge 7, 3) := dX3_hasDoing_0_b.2.2.2.2.2.1
theorem dX3_hasDoing_12 : decode cX3_hasDoing 12 = .ok (.iconst 1, 1) := dX3_hasDoing_0_b.2.2.2.2.2.2.1
theorem dX3_hasDoing_13 : decode cX3_hasDoing 13 = .ok (.goto 4, 3) := dX3_hasDoing_0_b.2.2.2.2.2.2.2.1
theorem dX3_hasDoing_16 : decode cX3_hasDoing 16 = .ok (.iconst 0, 1) := dX3_hasDoing_0_b.2.2.2.2.2.2.2.2.1
theorem dX3_hasDoing_17 : decode cX3_hasDoing 17 = .ok (.ireturn, 1) := dX3_hasDoing_0_b.2.2.2.2.2.2.2.2.2
theorem dX3_settle_0_b : (decode cX3_settle 0 = .ok (.aload_n 0, 1)) ∧ (decode cX3_settle 1 = .ok (.iconst 1, 1)) ∧ (decode cX3_settle 2 = .ok (.putfield 7, 3)) ∧ (decode cX3_settle 5 = .ok (.aload_n 0, 1)) ∧ (decode cX3_settle 6 = .ok (.aload_n 1, 1)) ∧ (decode cX3_settle 7 = .ok (.invokevirtual 63, 3)) ∧ (decode cX3_settle 10 = .ok (.putfield 13, 3)) ∧ (decode cX3_settle 13 = .ok (.aload_n 0, 1)) ∧ (decode cX3_settle 14 = .ok (.iconst 0, 1)) ∧ (decode cX3_settle 15 = .ok (.putfield 17, 3)) ∧ (decode cX3_settle 18 = .ok (.aload_n 0, 1)) ∧ (decode cX3_settle 19 = .ok (.iconst 0, 1)) := by decide +kernel
theorem dX3_settle_0 : decode cX3_settle 0 = .ok (.aload_n 0, 1) := dX3_settle_0_b.1
theorem dX3_settle_1 : decode cX3_settle 1 = .ok (.iconst 1, 1) := dX3_settle_0_b.2.1
theorem dX3_settle_2 : decode cX3_settle 2 = .ok (.putfield 7, 3) := dX3_settle_0_b.2.2.1
theorem dX3_settle_5 : decode cX3_settle 5 = .ok (.aload_n 0, 1) := dX3_settle_0_b.2.2.2.1
theorem dX3_settle_6 : decode cX3_settle 6 = .ok (.aload_n 1, 1) := dX3_settle_0_b.2.2.2.2.1
theorem dX3_settle_7 : decode cX3_settle 7 = .ok (.invokevirtual 63, 3) := dX3_settle_0_b.2.2.2.2.2.1
theorem dX3_settle_10 : decode cX3_settle 10 = .ok (.putfield 13, 3) := dX3_settle_0_b.2.2.2.2.2.2.1
theorem dX3_settle_13 : decode cX3_settle 13 = .ok (.aload_n 0, 1) := dX3_settle_0_b.2.2.2.2.2.2.2.1
theorem dX3_settle_14 : decode cX3_settle 14 = .ok (.iconst 0, 1) := dX3_settle_0_b.2.2.2.2.2.2.2.2.1
theorem dX3_settle_15 : decode cX3_settle 15 = .ok (.putfield 17, 3) := dX3_settle_0_b.2.2.2.2.2.2.2.2.2.1
theorem dX3_settle_18 : decode cX3_settle 18 = .ok (.aload_n 0, 1) := dX3_settle_0_b.2.2.2.2.2.2.2.2.2.2.1
theorem dX3_settle_19 : decode cX3_settle 19 = .ok (.iconst 0, 1) := dX3_settle_0_b.2.2.2.2.2.2.2.2.2.2.2
theorem dX3_settle_20_b : (decode cX3_settle 20 = .ok (.putfield 20, 3)) ∧ (decode cX3_settle 23 = .ok (.aload_n 0, 1)) ∧ (decode cX3_settle 24 = .ok (.iconst 0, 1)) ∧ (decode cX3_settle 25 = .ok (.putfield 23, 3)) ∧ (decode cX3_settle 28 = .ok (.aload_n 0, 1)) ∧ (decode cX3_settle 29 = .ok (.getfield 60, 3)) ∧ (decode cX3_settle 32 = .ok (.iconst 0, 1)) ∧ (decode cX3_settle 33 = .ok (.iconst 0, 1)) ∧ (decode cX3_settle 34 = .ok (.iastore, 1)) ∧ (decode cX3_settle 35 = .ok (.aload_n 0, 1)) ∧ (decode cX3_settle 36 = .ok (.aload_n 1, 1)) ∧ (decode cX3_settle 37 = .ok (.invokevirtual 69, 3)) := by decide +kernel
theorem dX3_settle_20 : decode cX3_settle 20 = .ok (.putfield 20, 3) := dX3_settle_20_b.1
theorem dX3_settle_23 : decode cX3_settle 23 = .ok (.aload_n 0, 1) := dX3_settle_20_b.2.1
theorem dX3_settle_24 : decode cX3_settle 24 = .ok (.iconst 0, 1) := dX3_settle_20_b.2.2.1
theorem dX3_settle_25 : decode cX3_settle 25 = .ok (.putfield 23, 3) := dX3_settle_20_b.2.2.2.1
theorem dX3_settle_28 : decode cX3_settle 28 = .ok (.aload_n 0, 1) := dX3_settle_20_b.2.2.2.2.1
theorem dX3_settle_29 : decode cX3_settle 29 = .ok (.getfield 60, 3) := dX3_settle_20_b.2.2.2.2.2.1
theorem dX3_settle_32 : decode cX3_settle 32 = .ok (.iconst 0, 1) := dX3_settle_20_b.2.2.2.2.2.2.1
theorem dX3_settle_33 : decode cX3_settle 33 = .ok (.iconst 0, 1) := dX3_settle_20_b.2.2.2.2.2.2.2.1
theorem dX3_settle_34 : decode cX3_settle 34 = .ok (.iastore, 1) := dX3_settle_20_b.2.2.2.2.2.2.2.2.1
theorem dX3_settle_35 : decode cX3_settle 35 = .ok (.aload_n 0, 1) := dX3_settle_20_b.2.2.2.2.2.2.2.2.2.1
theorem dX3_settle_36 : decode cX3_settle 36 = .ok (.aload_n 1, 1) := dX3_settle_20_b.2.2.2.2.2.2.2.2.2.2.1
theorem dX3_settle_37 : decode cX3_settle 37 = .ok (.invokevirtual 69, 3) := dX3_settle_20_b.2.2.2.2.2.2.2.2.2.2.2
theorem dX3_settle_40_b : (decode cX3_settle 40 = .ok (.aload_n 0, 1)) ∧ (decode cX3_settle 41 = .ok (.aload_n 1, 1)) ∧ (decode cX3_settle 42 = .ok (.invokevirtual 73, 3)) ∧ (decode cX3_settle 45 = .ok (.return_, 1)) := by decide +kernel
theorem dX3_settle_40 : decode cX3_settle 40 = .ok (.aload_n 0, 1) := dX3_settle_40_b.1
theorem dX3_settle_41 : decode cX3_settle 41 = .ok (.aload_n 1, 1) := dX3_settle_40_b.2.1
theorem dX3_settle_42 : decode cX3_settle 42 = .ok (.invokevirtual 73, 3) := dX3_settle_40_b.2.2.1
theorem dX3_settle_45 : decode cX3_settle 45 = .ok (.return_, 1) := dX3_settle_40_b.2.2.2
theorem dX3_settleEars_0_b : (decode cX3_settleEars 0 = .ok (.aload_n 0, 1)) ∧ (decode cX3_settleEars 1 = .ok (.aload_n 1, 1)) ∧ (decode cX3_settleEars 2 = .ok (.getfield 76, 3)) ∧ (decode cX3_settleEars 5 = .ok (.putfield 26, 3)) ∧ (decode cX3_settleEars 8 = .ok (.iconst 0, 1)) ∧ (decode cX3_settleEars 9 = .ok (.istore_n 2, 1)) ∧ (decode cX3_settleEars 10 = .ok (.iload_n 2, 1)) ∧ (decode cX3_settleEars 11 = .ok (.aload_n 0, 1)) ∧ (decode cX3_settleEars 12 = .ok (.getfield 26, 3)) ∧ (decode cX3_settleEars 15 = .ok (.if_icmp .ge 76, 3)) ∧ (decode cX3_settleEars 18 = .ok (.aload_n 0, 1)) ∧ (decode cX3_settleEars 19 = .ok (.getfield 32, 3)) := by decide +kernel
theorem dX3_settleEars_0 : decode cX3_settleEars 0 = .ok (.aload_n 0, 1) := dX3_settleEars_0_b.1
theorem dX3_settleEars_1 : decode cX3_settleEars 1 = .ok (.aload_n 1, 1) := dX3_settleEars_0_b.2.1
theorem dX3_settleEars_2 : decode cX3_settleEars 2 = .ok (.getfield 76, 3) := dX3_settleEars_0_b.2.2.1
theorem dX3_settleEars_5 : decode cX3_settleEars 5 = .ok (.putfield 26, 3) := dX3_settleEars_0_b.2.2.2.1
theorem dX3_settleEars_8 : decode cX3_settleEars 8 = .ok (.iconst 0, 1) := dX3_settleEars_0_b.2.2.2.2.1
theorem dX3_settleEars_9 : decode cX3_settleEars 9 = .ok (.istore_n 2, 1) := dX3_settleEars_0_b.2.2.2.2.2.1
theorem dX3_settleEars_10 : decode cX3_settleEars 10 = .ok (.iload_n 2, 1) := dX3_settleEars_0_b.2.2.2.2.2.2.1
theorem dX3_settleEars_11 : decode cX3_settleEars 11 = .ok (.aload_n 0, 1) := dX3_settleEars_0_b.2.2.2.2.2.2.2.1
theorem dX3_settleEars_12 : decode cX3_settleEars 12 = .ok (.getfield 26, 3) := dX3_settleEars_0_b.2.2.2.2.2.2.2.2.1
theorem dX3_settleEars_15 : decode cX3_settleEars 15 = .ok (.if_icmp .ge 76, 3) := dX3_settleEars_0_b.2.2.2.2.2.2.2.2.2.1
theorem dX3_settleEars_18 : decode cX3_settleEars 18 = .ok (.aload_n 0, 1) := dX3_settleEars_0_b.2.2.2.2.2.2.2.2.2.2.1
theorem dX3_settleEars_19 : decode cX3_settleEars 19 = .ok (.getfield 32, 3) := dX3_settleEars_0_b.2.2.2.2.2.2.2.2.2.2.2
theorem dX3_settleEars_22_b : (decode cX3_settleEars 22 = .ok (.iload_n 2, 1)) ∧ (decode cX3_settleEars 23 = .ok (.aload_n 1, 1)) ∧ (decode cX3_settleEars 24 = .ok (.getfield 77, 3)) ∧ (decode cX3_settleEars 27 = .ok (.iload_n 2, 1)) ∧ (decode cX3_settleEars 28 = .ok (.iaload, 1)) ∧ (decode cX3_settleEars 29 = .ok (.iastore, 1)) ∧ (decode cX3_settleEars 30 = .ok (.aload_n 0, 1)) ∧ (decode cX3_settleEars 31 = .ok (.getfield 36, 3)) ∧ (decode cX3_settleEars 34 = .ok (.iload_n 2, 1)) ∧ (decode cX3_settleEars 35 = .ok (.aload_n 1, 1)) ∧ (decode cX3_settleEars 36 = .ok (.iload_n 2, 1)) ∧ (decode cX3_settleEars 37 = .ok (.iconst 0, 1)) := by decide +kernel
theorem dX3_settleEars_22 : decode cX3_settleEars 22 = .ok (.iload_n 2, 1) := dX3_settleEars_22_b.1
theorem dX3_settleEars_23 : decode cX3_settleEars 23 = .ok (.aload_n 1, 1) := dX3_settleEars_22_b.2.1
theorem dX3_settleEars_24 : decode cX3_settleEars 24 = .ok (.getfield 77, 3) := dX3_settleEars_22_b.2.2.1
theorem dX3_settleEars_27 : decode cX3_settleEars 27 = .ok (.iload_n 2, 1) := dX3_settleEars_22_b.2.2.2.1
theorem dX3_settleEars_28 : decode cX3_settleEars 28 = .ok (.iaload, 1) := dX3_settleEars_22_b.2.2.2.2.1
theorem dX3_settleEars_29 : decode cX3_settleEars 29 = .ok (.iastore, 1) := dX3_settleEars_22_b.2.2.2.2.2.1
theorem dX3_settleEars_30 : decode cX3_settleEars 30 = .ok (.aload_n 0, 1) := dX3_settleEars_22_b.2.2.2.2.2.2.1
theorem dX3_settleEars_31 : decode cX3_settleEars 31 = .ok (.getfield 36, 3) := dX3_settleEars_22_b.2.2.2.2.2.2.2.1
theorem dX3_settleEars_34 : decode cX3_settleEars 34 = .ok (.iload_n 2, 1) := dX3_settleEars_22_b.2.2.2.2.2.2.2.2.1
theorem dX3_settleEars_35 : decode cX3_settleEars 35 = .ok (.aload_n 1, 1) := dX3_settleEars_22_b.2.2.2.2.2.2.2.2.2.1
theorem dX3_settleEars_36 : decode cX3_settleEars 36 = .ok (.iload_n 2, 1) := dX3_settleEars_22_b.2.2.2.2.2.2.2.2.2.2.1
theorem dX3_settleEars_37 : decode cX3_settleEars 37 = .ok (.iconst 0, 1) := dX3_settleEars_22_b.2.2.2.2.2.2.2.2.2.2.2
theorem dX3_settleEars_38_b : (decode cX3_settleEars 38 = .ok (.invokevirtual 78, 3)) ∧ (decode cX3_settleEars 41 = .ok (.iastore, 1)) ∧ (decode cX3_settleEars 42 = .ok (.aload_n 0, 1)) ∧ (decode cX3_settleEars 43 = .ok (.getfield 39, 3)) ∧ (decode cX3_settleEars 46 = .ok (.iload_n 2, 1)) ∧ (decode cX3_settleEars 47 = .ok (.aload_n 1, 1)) ∧ (decode cX3_settleEars 48 = .ok (.iload_n 2, 1)) ∧ (decode cX3_settleEars 49 = .ok (.iconst 1, 1)) ∧ (decode cX3_settleEars 50 = .ok (.invokevirtual 78, 3)) ∧ (decode cX3_settleEars 53 = .ok (.iastore, 1)) ∧ (decode cX3_settleEars 54 = .ok (.aload_n 0, 1)) ∧ (decode cX3_settleEars 55 = .ok (.getfield 42, 3)) := by decide +kernel
theorem dX3_settleEars_38 : decode cX3_settleEars 38 = .ok (.invokevirtual 78, 3) := dX3_settleEars_38_b.1
theorem dX3_settleEars_41 : decode cX3_settleEars 41 = .ok (.iastore, 1) := dX3_settleEars_38_b.2.1
theorem dX3_settleEars_42 : decode cX3_settleEars 42 = .ok (.aload_n 0, 1) := dX3_settleEars_38_b.2.2.1
theorem dX3_settleEars_43 : decode cX3_settleEars 43 = .ok (.getfield 39, 3) := dX3_settleEars_38_b.2.2.2.1
theorem dX3_settleEars_46 : decode cX3_settleEars 46 = .ok (.iload_n 2, 1) := dX3_settleEars_38_b.2.2.2.2.1
theorem dX3_settleEars_47 : decode cX3_settleEars 47 = .ok (.aload_n 1, 1) := dX3_settleEars_38_b.2.2.2.2.2.1
theorem dX3_settleEars_48 : decode cX3_settleEars 48 = .ok (.iload_n 2, 1) := dX3_settleEars_38_b.2.2.2.2.2.2.1
theorem dX3_settleEars_49 : decode cX3_settleEars 49 = .ok (.iconst 1, 1) := dX3_settleEars_38_b.2.2.2.2.2.2.2.1
theorem dX3_settleEars_50 : decode cX3_settleEars 50 = .ok (.invokevirtual 78, 3) := dX3_settleEars_38_b.2.2.2.2.2.2.2.2.1
theorem dX3_settleEars_53 : decode cX3_settleEars 53 = .ok (.iastore, 1) := dX3_settleEars_38_b.2.2.2.2.2.2.2.2.2.1
theorem dX3_settleEars_54 : decode cX3_settleEars 54 = .ok (.aload_n 0, 1) := dX3_settleEars_38_b.2.2.2.2.2.2.2.2.2.2.1
theorem dX3_settleEars_55 : decode cX3_settleEars 55 = .ok (.getfield 42, 3) := dX3_settleEars_38_b.2.2.2.2.2.2.2.2.2.2.2
theorem dX3_settleEars_58_b : (decode cX3_settleEars 58 = .ok (.iload_n 2, 1)) ∧ (decode cX3_settleEars 59 = .ok (.aload_n 1, 1)) ∧ (decode cX3_settleEars 60 = .ok (.iload_n 2, 1)) ∧ (decode cX3_settleEars 61 = .ok (.iconst 2, 1)) ∧ (decode cX3_settleEars 62 = .ok (.invokevirtual 78, 3)) ∧ (decode cX3_settleEars 65 = .ok (.iastore, 1)) ∧ (decode cX3_settleEars 66 = .ok (.aload_n 0, 1)) ∧ (decode cX3_settleEars 67 = .ok (.getfield 45, 3)) ∧ (decode cX3_settleEars 70 = .ok (.iload_n 2, 1)) ∧ (decode cX3_settleEars 71 = .ok (.aload_n 1, 1)) ∧ (decode cX3_settleEars 72 = .ok (.iload_n 2, 1)) ∧ (decode cX3_settleEars 73 = .ok (.iconst 3, 1)) := by decide +kernel
theorem dX3_settleEars_58 : decode cX3_settleEars 58 = .ok (.iload_n 2, 1) := dX3_settleEars_58_b.1
theorem dX3_settleEars_59 : decode cX3_settleEars 59 = .ok (.aload_n 1, 1) := dX3_settleEars_58_b.2.1
theorem dX3_settleEars_60 : decode cX3_settleEars 60 = .ok (.iload_n 2, 1) := dX3_settleEars_58_b.2.2.1
theorem dX3_settleEars_61 : decode cX3_settleEars 61 = .ok (.iconst 2, 1) := dX3_settleEars_58_b.2.2.2.1
theorem dX3_settleEars_62 : decode cX3_settleEars 62 = .ok (.invokevirtual 78, 3) := dX3_settleEars_58_b.2.2.2.2.1
theorem dX3_settleEars_65 : decode cX3_settleEars 65 = .ok (.iastore, 1) := dX3_settleEars_58_b.2.2.2.2.2.1
theorem dX3_settleEars_66 : decode cX3_settleEars 66 = .ok (.aload_n 0, 1) := dX3_settleEars_58_b.2.2.2.2.2.2.1
theorem dX3_settleEars_67 : decode cX3_settleEars 67 = .ok (.getfield 45, 3) := dX3_settleEars_58_b.2.2.2.2.2.2.2.1
theorem dX3_settleEars_70 : decode cX3_settleEars 70 = .ok (.iload_n 2, 1) := dX3_settleEars_58_b.2.2.2.2.2.2.2.2.1
theorem dX3_settleEars_71 : decode cX3_settleEars 71 = .ok (.aload_n 1, 1) := dX3_settleEars_58_b.2.2.2.2.2.2.2.2.2.1
theorem dX3_settleEars_72 : decode cX3_settleEars 72 = .ok (.iload_n 2, 1) := dX3_settleEars_58_b.2.2.2.2.2.2.2.2.2.2.1
theorem dX3_settleEars_73 : decode cX3_settleEars 73 = .ok (.iconst 3, 1) := dX3_settleEars_58_b.2.2.2.2.2.2.2.2.2.2.2
theorem dX3_settleEars_74_b : (decode cX3_settleEars 74 = .ok (.invokevirtual 78, 3)) ∧ (decode cX3_settleEars 77 = .ok (.iastore, 1)) ∧ (decode cX3_settleEars 78 = .ok (.aload_n 0, 1)) ∧ (decode cX3_settleEars 79 = .ok (.getfield 48, 3)) ∧ (decode cX3_settleEars 82 = .ok (.iload_n 2, 1)) ∧ (decode cX3_settleEars 83 = .ok (.iconst 0, 1)) ∧ (decode cX3_settleEars 84 = .ok (.iastore, 1)) ∧ (decode cX3_settleEars 85 = .ok (.iinc 2 1, 3)) ∧ (decode cX3_settleEars 88 = .ok (.goto (-78), 3)) ∧ (decode cX3_settleEars 91 = .ok (.return_, 1)) := by decide +kernel
theorem dX3_settleEars_74 : decode cX3_settleEars 74 = .ok (.invokevirtual 78, 3) := dX3_settleEars_74_b.1
theorem dX3_settleEars_77 : decode cX3_settleEars 77 = .ok (.iastore, 1) := dX3_settleEars_74_b.2.1
theorem dX3_settleEars_78 : decode cX3_settleEars 78 = .ok (.aload_n 0, 1) := dX3_settleEars_74_b.2.2.1
theorem dX3_settleEars_79 : decode cX3_settleEars 79 = .ok (.getfield 48, 3) := dX3_settleEars_74_b.2.2.2.1
theorem dX3_settleEars_82 : decode cX3_settleEars 82 = .ok (.iload_n 2, 1) := dX3_settleEars_74_b.2.2.2.2.1
theorem dX3_settleEars_83 : decode cX3_settleEars 83 = .ok (.iconst 0, 1) := dX3_settleEars_74_b.2.2.2.2.2.1
theorem dX3_settleEars_84 : decode cX3_settleEars 84 = .ok (.iastore, 1) := dX3_settleEars_74_b.2.2.2.2.2.2.1
theorem dX3_settleEars_85 : decode cX3_settleEars 85 = .ok (.iinc 2 1, 3) := dX3_settleEars_74_b.2.2.2.2.2.2.2.1
theorem dX3_settleEars_88 : decode cX3_settleEars 88 = .ok (.goto (-78), 3) := dX3_settleEars_74_b.2.2.2.2.2.2.2.2.1
theorem dX3_settleEars_91 : decode cX3_settleEars 91 = .ok (.return_, 1) := dX3_settleEars_74_b.2.2.2.2.2.2.2.2.2
theorem dX3_settleDoings_0_b : (decode cX3_settleDoings 0 = .ok (.aload_n 0, 1)) ∧ (decode cX3_settleDoings 1 = .ok (.aload_n 1, 1)) ∧ (decode cX3_settleDoings 2 = .ok (.getfield 82, 3)) ∧ (decode cX3_settleDoings 5 = .ok (.putfield 29, 3)) ∧ (decode cX3_settleDoings 8 = .ok (.iconst 0, 1)) ∧ (decode cX3_settleDoings 9 = .ok (.istore_n 2, 1)) ∧ (decode cX3_settleDoings 10 = .ok (.iload_n 2, 1)) ∧ (decode cX3_settleDoings 11 = .ok (.aload_n 0, 1)) ∧ (decode cX3_settleDoings 12 = .ok (.getfield 29, 3)) ∧ (decode cX3_settleDoings 15 = .ok (.if_icmp .ge 45, 3)) ∧ (decode cX3_settleDoings 18 = .ok (.aload_n 0, 1)) ∧ (decode cX3_settleDoings 19 = .ok (.getfield 51, 3)) := by decide +kernel
theorem dX3_settleDoings_0 : decode cX3_settleDoings 0 = .ok (.aload_n 0, 1) := dX3_settleDoings_0_b.1
theorem dX3_settleDoings_1 : decode cX3_settleDoings 1 = .ok (.aload_n 1, 1) := dX3_settleDoings_0_b.2.1
theorem dX3_settleDoings_2 : decode cX3_settleDoings 2 = .ok (.getfield 82, 3) := dX3_settleDoings_0_b.2.2.1
theorem dX3_settleDoings_5 : decode cX3_settleDoings 5 = .ok (.putfield 29, 3) := dX3_settleDoings_0_b.2.2.2.1
theorem dX3_settleDoings_8 : decode cX3_settleDoings 8 = .ok (.iconst 0, 1) := dX3_settleDoings_0_b.2.2.2.2.1
theorem dX3_settleDoings_9 : decode cX3_settleDoings 9 = .ok (.istore_n 2, 1) := dX3_settleDoings_0_b.2.2.2.2.2.1
theorem dX3_settleDoings_10 : decode cX3_settleDoings 10 = .ok (.iload_n 2, 1) := dX3_settleDoings_0_b.2.2.2.2.2.2.1
theorem dX3_settleDoings_11 : decode cX3_settleDoings 11 = .ok (.aload_n 0, 1) := dX3_settleDoings_0_b.2.2.2.2.2.2.2.1
theorem dX3_settleDoings_12 : decode cX3_settleDoings 12 = .ok (.getfield 29, 3) := dX3_settleDoings_0_b.2.2.2.2.2.2.2.2.1
theorem dX3_settleDoings_15 : decode cX3_settleDoings 15 = .ok (.if_icmp .ge 45, 3) := dX3_settleDoings_0_b.2.2.2.2.2.2.2.2.2.1
theorem dX3_settleDoings_18 : decode cX3_settleDoings 18 = .ok (.aload_n 0, 1) := dX3_settleDoings_0_b.2.2.2.2.2.2.2.2.2.2.1
theorem dX3_settleDoings_19 : decode cX3_settleDoings 19 = .ok (.getfield 51, 3) := dX3_settleDoings_0_b.2.2.2.2.2.2.2.2.2.2.2
theorem dX3_settleDoings_22_b : (decode cX3_settleDoings 22 = .ok (.iload_n 2, 1)) ∧ (decode cX3_settleDoings 23 = .ok (.aload_n 1, 1)) ∧ (decode cX3_settleDoings 24 = .ok (.iload_n 2, 1)) ∧ (decode cX3_settleDoings 25 = .ok (.iconst 0, 1)) ∧ (decode cX3_settleDoings 26 = .ok (.invokevirtual 83, 3)) ∧ (decode cX3_settleDoings 29 = .ok (.iastore, 1)) ∧ (decode cX3_settleDoings 30 = .ok (.aload_n 0, 1)) ∧ (decode cX3_settleDoings 31 = .ok (.getfield 54, 3)) ∧ (decode cX3_settleDoings 34 = .ok (.iload_n 2, 1)) ∧ (decode cX3_settleDoings 35 = .ok (.aload_n 1, 1)) ∧ (decode cX3_settleDoings 36 = .ok (.iload_n 2, 1)) ∧ (decode cX3_settleDoings 37 = .ok (.iconst 1, 1)) := by decide +kernel
theorem dX3_settleDoings_22 : decode cX3_settleDoings 22 = .ok (.iload_n 2, 1) := dX3_settleDoings_22_b.1
theorem dX3_settleDoings_23 : decode cX3_settleDoings 23 = .ok (.aload_n 1, 1) := dX3_settleDoings_22_b.2.1
theorem dX3_settleDoings_24 : decode cX3_settleDoings 24 = .ok (.iload_n 2, 1) := dX3_settleDoings_22_b.2.2.1
theorem dX3_settleDoings_25 : decode cX3_settleDoings 25 = .ok (.iconst 0, 1) := dX3_settleDoings_22_b.2.2.2.1
theorem dX3_settleDoings_26 : decode cX3_settleDoings 26 = .ok (.invokevirtual 83, 3) := dX3_settleDoings_22_b.2.2.2.2.1
theorem dX3_settleDoings_29 : decode cX3_settleDoings 29 = .ok (.iastore, 1) := dX3_settleDoings_22_b.2.2.2.2.2.1
theorem dX3_settleDoings_30 : decode cX3_settleDoings 30 = .ok (.aload_n 0, 1) := dX3_settleDoings_22_b.2.2.2.2.2.2.1
theorem dX3_settleDoings_31 : decode cX3_settleDoings 31 = .ok (.getfield 54, 3) := dX3_settleDoings_22_b.2.2.2.2.2.2.2.1
theorem dX3_settleDoings_34 : decode cX3_settleDoings 34 = .ok (.iload_n 2, 1) := dX3_settleDoings_22_b.2.2.2.2.2.2.2.2.1
theorem dX3_settleDoings_35 : decode cX3_settleDoings 35 = .ok (.aload_n 1, 1) := dX3_settleDoings_22_b.2.2.2.2.2.2.2.2.2.1
theorem dX3_settleDoings_36 : decode cX3_settleDoings 36 = .ok (.iload_n 2, 1) := dX3_settleDoings_22_b.2.2.2.2.2.2.2.2.2.2.1
theorem dX3_settleDoings_37 : decode cX3_settleDoings 37 = .ok (.iconst 1, 1) := dX3_settleDoings_22_b.2.2.2.2.2.2.2.2.2.2.2
theorem dX3_settleDoings_38_b : (decode cX3_settleDoings 38 = .ok (.invokevirtual 83, 3)) ∧ (decode cX3_settleDoings 41 = .ok (.iastore, 1)) ∧ (decode cX3_settleDoings 42 = .ok (.aload_n 0, 1)) ∧ (decode cX3_settleDoings 43 = .ok (.getfield 57, 3)) ∧ (decode cX3_settleDoings 46 = .ok (.iload_n 2, 1)) ∧ (decode cX3_settleDoings 47 = .ok (.aload_n 1, 1)) ∧ (decode cX3_settleDoings 48 = .ok (.iload_n 2, 1)) ∧ (decode cX3_settleDoings 49 = .ok (.iconst 2, 1)) ∧ (decode cX3_settleDoings 50 = .ok (.invokevirtual 83, 3)) ∧ (decode cX3_settleDoings 53 = .ok (.iastore, 1)) ∧ (decode cX3_settleDoings 54 = .ok (.iinc 2 1, 3)) ∧ (decode cX3_settleDoings 57 = .ok (.goto (-47), 3)) := by decide +kernel
theorem dX3_settleDoings_38 : decode cX3_settleDoings 38 = .ok (.invokevirtual 83, 3) := dX3_settleDoings_38_b.1
theorem dX3_settleDoings_41 : decode cX3_settleDoings 41 = .ok (.iastore, 1) := dX3_settleDoings_38_b.2.1
theorem dX3_settleDoings_42 : decode cX3_settleDoings 42 = .ok (.aload_n 0, 1) := dX3_settleDoings_38_b.2.2.1
theorem dX3_settleDoings_43 : decode cX3_settleDoings 43 = .ok (.getfield 57, 3) := dX3_settleDoings_38_b.2.2.2.1
theorem dX3_settleDoings_46 : decode cX3_settleDoings 46 = .ok (.iload_n 2, 1) := dX3_settleDoings_38_b.2.2.2.2.1
theorem dX3_settleDoings_47 : decode cX3_settleDoings 47 = .ok (.aload_n 1, 1) := dX3_settleDoings_38_b.2.2.2.2.2.1
theorem dX3_settleDoings_48 : decode cX3_settleDoings 48 = .ok (.iload_n 2, 1) := dX3_settleDoings_38_b.2.2.2.2.2.2.1
theorem dX3_settleDoings_49 : decode cX3_settleDoings 49 = .ok (.iconst 2, 1) := dX3_settleDoings_38_b.2.2.2.2.2.2.2.1
theorem dX3_settleDoings_50 : decode cX3_settleDoings 50 = .ok (.invokevirtual 83, 3) := dX3_settleDoings_38_b.2.2.2.2.2.2.2.2.1
theorem dX3_settleDoings_53 : decode cX3_settleDoings 53 = .ok (.iastore, 1) := dX3_settleDoings_38_b.2.2.2.2.2.2.2.2.2.1
theorem dX3_settleDoings_54 : decode cX3_settleDoings 54 = .ok (.iinc 2 1, 3) := dX3_settleDoings_38_b.2.2.2.2.2.2.2.2.2.2.1
theorem dX3_settleDoings_57 : decode cX3_settleDoings 57 = .ok (.goto (-47), 3) := dX3_settleDoings_38_b.2.2.2.2.2.2.2.2.2.2.2
theorem dX3_settleDoings_60 : decode cX3_settleDoings 60 = .ok (.return_, 1) := by decide +kernel
theorem dX3_becomeLike_0_b : (decode cX3_becomeLike 0 = .ok (.aload_n 0, 1)) ∧ (decode cX3_becomeLike 1 = .ok (.aload_n 1, 1)) ∧ (decode cX3_becomeLike 2 = .ok (.getfield 7, 3)) ∧ (decode cX3_becomeLike 5 = .ok (.putfield 7, 3)) ∧ (decode cX3_becomeLike 8 = .ok (.aload_n 0, 1)) ∧ (decode cX3_becomeLike 9 = .ok (.aload_n 1, 1)) ∧ (decode cX3_becomeLike 10 = .ok (.getfield 13, 3)) ∧ (decode cX3_becomeLike 13 = .ok (.putfield 13, 3)) ∧ (decode cX3_becomeLike 16 = .ok (.aload_n 0, 1)) ∧ (decode cX3_becomeLike 17 = .ok (.aload_n 1, 1)) ∧ (decode cX3_becomeLike 18 = .ok (.getfield 17, 3)) ∧ (decode cX3_becomeLike 21 = .ok (.putfield 17, 3)) := by decide +kernel
theorem dX3_becomeLike_0 : decode cX3_becomeLike 0 = .ok (.aload_n 0, 1) := dX3_becomeLike_0_b.1
theorem dX3_becomeLike_1 : decode cX3_becomeLike 1 = .ok (.aload_n 1, 1) := dX3_becomeLike_0_b.2.1
theorem dX3_becomeLike_2 : decode cX3_becomeLike 2 = .ok (.getfield 7, 3) := dX3_becomeLike_0_b.2.2.1
theorem dX3_becomeLike_5 : decode cX3_becomeLike 5 = .ok (.putfield 7, 3) := dX3_becomeLike_0_b.2.2.2.1
theorem dX3_becomeLike_8 : decode cX3_becomeLike 8 = .ok (.aload_n 0, 1) := dX3_becomeLike_0_b.2.2.2.2.1
theorem dX3_becomeLike_9 : decode cX3_becomeLike 9 = .ok (.aload_n 1, 1) := dX3_becomeLike_0_b.2.2.2.2.2.1
theorem dX3_becomeLike_10 : decode cX3_becomeLike 10 = .ok (.getfield 13, 3) := dX3_becomeLike_0_b.2.2.2.2.2.2.1
theorem dX3_becomeLike_13 : decode cX3_becomeLike 13 = .ok (.putfield 13, 3) := dX3_becomeLike_0_b.2.2.2.2.2.2.2.1
theorem dX3_becomeLike_16 : decode cX3_becomeLike 16 = .ok (.aload_n 0, 1) := dX3_becomeLike_0_b.2.2.2.2.2.2.2.2.1
theorem dX3_becomeLike_17 : decode cX3_becomeLike 17 = .ok (.aload_n 1, 1) := dX3_becomeLike_0_b.2.2.2.2.2.2.2.2.2.1
theorem dX3_becomeLike_18 : decode cX3_becomeLike 18 = .ok (.getfield 17, 3) := dX3_becomeLike_0_b.2.2.2.2.2.2.2.2.2.2.1
theorem dX3_becomeLike_21 : decode cX3_becomeLike 21 = .ok (.putfield 17, 3) := dX3_becomeLike_0_b.2.2.2.2.2.2.2.2.2.2.2
theorem dX3_becomeLike_24_b : (decode cX3_becomeLike 24 = .ok (.aload_n 0, 1)) ∧ (decode cX3_becomeLike 25 = .ok (.aload_n 1, 1)) ∧ (decode cX3_becomeLike 26 = .ok (.getfield 20, 3)) ∧ (decode cX3_becomeLike 29 = .ok (.putfield 20, 3)) ∧ (decode cX3_becomeLike 32 = .ok (.aload_n 0, 1)) ∧ (decode cX3_becomeLike 33 = .ok (.aload_n 1, 1)) ∧ (decode cX3_becomeLike 34 = .ok (.getfield 23, 3)) ∧ (decode cX3_becomeLike 37 = .ok (.putfield 23, 3)) ∧ (decode cX3_becomeLike 40 = .ok (.aload_n 0, 1)) ∧ (decode cX3_becomeLike 41 = .ok (.aload_n 1, 1)) ∧ (decode cX3_becomeLike 42 = .ok (.getfield 26, 3)) ∧ (decode cX3_becomeLike 45 = .ok (.putfield 26, 3)) := by decide +kernel
theorem dX3_becomeLike_24 : decode cX3_becomeLike 24 = .ok (.aload_n 0, 1) := dX3_becomeLike_24_b.1
theorem dX3_becomeLike_25 : decode cX3_becomeLike 25 = .ok (.aload_n 1, 1) := dX3_becomeLike_24_b.2.1
theorem dX3_becomeLike_26 : decode cX3_becomeLike 26 = .ok (.getfield 20, 3) := dX3_becomeLike_24_b.2.2.1
theorem dX3_becomeLike_29 : decode cX3_becomeLike 29 = .ok (.putfield 20, 3) := dX3_becomeLike_24_b.2.2.2.1
theorem dX3_becomeLike_32 : decode cX3_becomeLike 32 = .ok (.aload_n 0, 1) := dX3_becomeLike_24_b.2.2.2.2.1
theorem dX3_becomeLike_33 : decode cX3_becomeLike 33 = .ok (.aload_n 1, 1) := dX3_becomeLike_24_b.2.2.2.2.2.1
theorem dX3_becomeLike_34 : decode cX3_becomeLike 34 = .ok (.getfield 23, 3) := dX3_becomeLike_24_b.2.2.2.2.2.2.1
theorem dX3_becomeLike_37 : decode cX3_becomeLike 37 = .ok (.putfield 23, 3) := dX3_becomeLike_24_b.2.2.2.2.2.2.2.1
theorem dX3_becomeLike_40 : decode cX3_becomeLike 40 = .ok (.aload_n 0, 1) := dX3_becomeLike_24_b.2.2.2.2.2.2.2.2.1
theorem dX3_becomeLike_41 : decode cX3_becomeLike 41 = .ok (.aload_n 1, 1) := dX3_becomeLike_24_b.2.2.2.2.2.2.2.2.2.1
theorem dX3_becomeLike_42 : decode cX3_becomeLike 42 = .ok (.getfield 26, 3) := dX3_becomeLike_24_b.2.2.2.2.2.2.2.2.2.2.1
theorem dX3_becomeLike_45 : decode cX3_becomeLike 45 = .ok (.putfield 26, 3) := dX3_becomeLike_24_b.2.2.2.2.2.2.2.2.2.2.2
theorem dX3_becomeLike_48_b : (decode cX3_becomeLike 48 = .ok (.aload_n 0, 1)) ∧ (decode cX3_becomeLike 49 = .ok (.aload_n 1, 1)) ∧ (decode cX3_becomeLike 50 = .ok (.getfield 29, 3)) ∧ (decode cX3_becomeLike 53 = .ok (.putfield 29, 3)) ∧ (decode cX3_becomeLike 56 = .ok (.aload_n 1, 1)) ∧ (decode cX3_becomeLike 57 = .ok (.getfield 32, 3)) ∧ (decode cX3_becomeLike 60 = .ok (.iconst 0, 1)) ∧ (decode cX3_becomeLike 61 = .ok (.aload_n 0, 1)) ∧ (decode cX3_becomeLike 62 = .ok (.getfield 32, 3)) ∧ (decode cX3_becomeLike 65 = .ok (.iconst 0, 1)) ∧ (decode cX3_becomeLike 66 = .ok (.bipush 6, 2)) ∧ (decode cX3_becomeLike 68 = .ok (.invokestatic 86, 3)) := by decide +kernel
theorem dX3_becomeLike_48 : decode cX3_becomeLike 48 = .ok (.aload_n 0, 1) := dX3_becomeLike_48_b.1
theorem dX3_becomeLike_49 : decode cX3_becomeLike 49 = .ok (.aload_n 1, 1) := dX3_becomeLike_48_b.2.1
theorem dX3_becomeLike_50 : decode cX3_becomeLike 50 = .ok (.getfield 29, 3) := dX3_becomeLike_48_b.2.2.1
theorem dX3_becomeLike_53 : decode cX3_becomeLike 53 = .ok (.putfield 29, 3) := dX3_becomeLike_48_b.2.2.2.1
theorem dX3_becomeLike_56 : decode cX3_becomeLike 56 = .ok (.aload_n 1, 1) := dX3_becomeLike_48_b.2.2.2.2.1
theorem dX3_becomeLike_57 : decode cX3_becomeLike 57 = .ok (.getfield 32, 3) := dX3_becomeLike_48_b.2.2.2.2.2.1
theorem dX3_becomeLike_60 : decode cX3_becomeLike 60 = .ok (.iconst 0, 1) := dX3_becomeLike_48_b.2.2.2.2.2.2.1
theorem dX3_becomeLike_61 : decode cX3_becomeLike 61 = .ok (.aload_n 0, 1) := dX3_becomeLike_48_b.2.2.2.2.2.2.2.1
theorem dX3_becomeLike_62 : decode cX3_becomeLike 62 = .ok (.getfield 32, 3) := dX3_becomeLike_48_b.2.2.2.2.2.2.2.2.1
theorem dX3_becomeLike_65 : decode cX3_becomeLike 65 = .ok (.iconst 0, 1) := dX3_becomeLike_48_b.2.2.2.2.2.2.2.2.2.1
theorem dX3_becomeLike_66 : decode cX3_becomeLike 66 = .ok (.bipush 6, 2) := dX3_becomeLike_48_b.2.2.2.2.2.2.2.2.2.2.1
theorem dX3_becomeLike_68 : decode cX3_becomeLike 68 = .ok (.invokestatic 86, 3) := dX3_becomeLike_48_b.2.2.2.2.2.2.2.2.2.2.2
theorem dX3_becomeLike_71_b : (decode cX3_becomeLike 71 = .ok (.aload_n 1, 1)) ∧ (decode cX3_becomeLike 72 = .ok (.getfield 36, 3)) ∧ (decode cX3_becomeLike 75 = .ok (.iconst 0, 1)) ∧ (decode cX3_becomeLike 76 = .ok (.aload_n 0, 1)) ∧ (decode cX3_becomeLike 77 = .ok (.getfield 36, 3)) ∧ (decode cX3_becomeLike 80 = .ok (.iconst 0, 1)) ∧ (decode cX3_becomeLike 81 = .ok (.bipush 6, 2)) ∧ (decode cX3_becomeLike 83 = .ok (.invokestatic 86, 3)) ∧ (decode cX3_becomeLike 86 = .ok (.aload_n 1, 1)) ∧ (decode cX3_becomeLike 87 = .ok (.getfield 39, 3)) ∧ (decode cX3_becomeLike 90 = .ok (.iconst 0, 1)) ∧ (decode cX3_becomeLike 91 = .ok (.aload_n 0, 1)) := by decide +kernel
theorem dX3_becomeLike_71 : decode cX3_becomeLike 71 = .ok (.aload_n 1, 1) := dX3_becomeLike_71_b.1
theorem dX3_becomeLike_72 : decode cX3_becomeLike 72 = .ok (.getfield 36, 3) := dX3_becomeLike_71_b.2.1
theorem dX3_becomeLike_75 : decode cX3_becomeLike 75 = .ok (.iconst 0, 1) := dX3_becomeLike_71_b.2.2.1
theorem dX3_becomeLike_76 : decode cX3_becomeLike 76 = .ok (.aload_n 0, 1) := dX3_becomeLike_71_b.2.2.2.1
theorem dX3_becomeLike_77 : decode cX3_becomeLike 77 = .ok (.getfield 36, 3) := dX3_becomeLike_71_b.2.2.2.2.1
theorem dX3_becomeLike_80 : decode cX3_becomeLike 80 = .ok (.iconst 0, 1) := dX3_becomeLike_71_b.2.2.2.2.2.1
theorem dX3_becomeLike_81 : decode cX3_becomeLike 81 = .ok (.bipush 6, 2) := dX3_becomeLike_71_b.2.2.2.2.2.2.1
theorem dX3_becomeLike_83 : decode cX3_becomeLike 83 = .ok (.invokestatic 86, 3) := dX3_becomeLike_71_b.2.2.2.2.2.2.2.1
theorem dX3_becomeLike_86 : decode cX3_becomeLike 86 = .ok (.aload_n 1, 1) := dX3_becomeLike_71_b.2.2.2.2.2.2.2.2.1
theorem dX3_becomeLike_87 : decode cX3_becomeLike 87 = .ok (.getfield 39, 3) := dX3_becomeLike_71_b.2.2.2.2.2.2.2.2.2.1
theorem dX3_becomeLike_90 : decode cX3_becomeLike 90 = .ok (.iconst 0, 1) := dX3_becomeLike_71_b.2.2.2.2.2.2.2.2.2.2.1
theorem dX3_becomeLike_91 : decode cX3_becomeLike 91 = .ok (.aload_n 0, 1) := dX3_becomeLike_71_b.2.2.2.2.2.2.2.2.2.2.2
theorem dX3_becomeLike_92_b : (decode cX3_becomeLike 92 = .ok (.getfield 39, 3)) ∧ (decode cX3_becomeLike 95 = .ok (.iconst 0, 1)) ∧ (decode cX3_becomeLike 96 = .ok (.bipush 6, 2)) ∧ (decode cX3_becomeLike 98 = .ok (.invokestatic 86, 3)) ∧ (decode cX3_becomeLike 101 = .ok (.aload_n 1, 1)) ∧ (decode cX3_becomeLike 102 = .ok (.getfield 42, 3)) ∧ (decode cX3_becomeLike 105 = .ok (.iconst 0, 1)) ∧ (decode cX3_becomeLike 106 = .ok (.aload_n 0, 1)) ∧ (decode cX3_becomeLike 107 = .ok (.getfield 42, 3)) ∧ (decode cX3_becomeLike 110 = .ok (.iconst 0, 1)) ∧ (decode cX3_becomeLike 111 = .ok (.bipush 6, 2)) ∧ (decode cX3_becomeLike 113 = .ok (.invokestatic 86, 3)) := by decide +kernel
theorem dX3_becomeLike_92 : decode cX3_becomeLike 92 = .ok (.getfield 39, 3) := dX3_becomeLike_92_b.1
theorem dX3_becomeLike_95 : decode cX3_becomeLike 95 = .ok (.iconst 0, 1) := dX3_becomeLike_92_b.2.1
theorem dX3_becomeLike_96 : decode cX3_becomeLike 96 = .ok (.bipush 6, 2) := dX3_becomeLike_92_b.2.2.1
theorem dX3_becomeLike_98 : decode cX3_becomeLike 98 = .ok (.invokestatic 86, 3) := dX3_becomeLike_92_b.2.2.2.1
theorem dX3_becomeLike_101 : decode cX3_becomeLike 101 = .ok (.aload_n 1, 1) := dX3_becomeLike_92_b.2.2.2.2.1
theorem dX3_becomeLike_102 : decode cX3_becomeLike 102 = .ok (.getfield 42, 3) := dX3_becomeLike_92_b.2.2.2.2.2.1
theorem dX3_becomeLike_105 : decode cX3_becomeLike 105 = .ok (.iconst 0, 1) := dX3_becomeLike_92_b.2.2.2.2.2.2.1
theorem dX3_becomeLike_106 : decode cX3_becomeLike 106 = .ok (.aload_n 0, 1) := dX3_becomeLike_92_b.2.2.2.2.2.2.2.1
theorem dX3_becomeLike_107 : decode cX3_becomeLike 107 = .ok (.getfield 42, 3) := dX3_becomeLike_92_b.2.2.2.2.2.2.2.2.1
theorem dX3_becomeLike_110 : decode cX3_becomeLike 110 = .ok (.iconst 0, 1) := dX3_becomeLike_92_b.2.2.2.2.2.2.2.2.2.1
theorem dX3_becomeLike_111 : decode cX3_becomeLike 111 = .ok (.bipush 6, 2) := dX3_becomeLike_92_b.2.2.2.2.2.2.2.2.2.2.1
theorem dX3_becomeLike_113 : decode cX3_becomeLike 113 = .ok (.invokestatic 86, 3) := dX3_becomeLike_92_b.2.2.2.2.2.2.2.2.2.2.2
theorem dX3_becomeLike_116_b : (decode cX3_becomeLike 116 = .ok (.aload_n 1, 1)) ∧ (decode cX3_becomeLike 117 = .ok (.getfield 45, 3)) ∧ (decode cX3_becomeLike 120 = .ok (.iconst 0, 1)) ∧ (decode cX3_becomeLike 121 = .ok (.aload_n 0, 1)) ∧ (decode cX3_becomeLike 122 = .ok (.getfield 45, 3)) ∧ (decode cX3_becomeLike 125 = .ok (.iconst 0, 1)) ∧ (decode cX3_becomeLike 126 = .ok (.bipush 6, 2)) ∧ (decode cX3_becomeLike 128 = .ok (.invokestatic 86, 3)) ∧ (decode cX3_becomeLike 131 = .ok (.aload_n 1, 1)) ∧ (decode cX3_becomeLike 132 = .ok (.getfield 48, 3)) ∧ (decode cX3_becomeLike 135 = .ok (.iconst 0, 1)) ∧ (decode cX3_becomeLike 136 = .ok (.aload_n 0, 1)) := by decide +kernel
theorem dX3_becomeLike_116 : decode cX3_becomeLike 116 = .ok (.aload_n 1, 1) := dX3_becomeLike_116_b.1
theorem dX3_becomeLike_117 : decode cX3_becomeLike 117 = .ok (.getfield 45, 3) := dX3_becomeLike_116_b.2.1
theorem dX3_becomeLike_120 : decode cX3_becomeLike 120 = .ok (.iconst 0, 1) := dX3_becomeLike_116_b.2.2.1
theorem dX3_becomeLike_121 : decode cX3_becomeLike 121 = .ok (.aload_n 0, 1) := dX3_becomeLike_116_b.2.2.2.1
theorem dX3_becomeLike_122 : decode cX3_becomeLike 122 = .ok (.getfield 45, 3) := dX3_becomeLike_116_b.2.2.2.2.1
theorem dX3_becomeLike_125 : decode cX3_becomeLike 125 = .ok (.iconst 0, 1) := dX3_becomeLike_116_b.2.2.2.2.2.1
theorem dX3_becomeLike_126 : decode cX3_becomeLike 126 = .ok (.bipush 6, 2) := dX3_becomeLike_116_b.2.2.2.2.2.2.1
theorem dX3_becomeLike_128 : decode cX3_becomeLike 128 = .ok (.invokestatic 86, 3) := dX3_becomeLike_116_b.2.2.2.2.2.2.2.1
theorem dX3_becomeLike_131 : decode cX3_becomeLike 131 = .ok (.aload_n 1, 1) := dX3_becomeLike_116_b.2.2.2.2.2.2.2.2.1
theorem dX3_becomeLike_132 : decode cX3_becomeLike 132 = .ok (.getfield 48, 3) := dX3_becomeLike_116_b.2.2.2.2.2.2.2.2.2.1
theorem dX3_becomeLike_135 : decode cX3_becomeLike 135 = .ok (.iconst 0, 1) := dX3_becomeLike_116_b.2.2.2.2.2.2.2.2.2.2.1
theorem dX3_becomeLike_136 : decode cX3_becomeLike 136 = .ok (.aload_n 0, 1) := dX3_becomeLike_116_b.2.2.2.2.2.2.2.2.2.2.2
theorem dX3_becomeLike_137_b : (decode cX3_becomeLike 137 = .ok (.getfield 48, 3)) ∧ (decode cX3_becomeLike 140 = .ok (.iconst 0, 1)) ∧ (decode cX3_becomeLike 141 = .ok (.bipush 6, 2)) ∧ (decode cX3_becomeLike 143 = .ok (.invokestatic 86, 3)) ∧ (decode cX3_becomeLike 146 = .ok (.aload_n 1, 1)) ∧ (decode cX3_becomeLike 147 = .ok (.getfield 51, 3)) ∧ (decode cX3_becomeLike 150 = .ok (.iconst 0, 1)) ∧ (decode cX3_becomeLike 151 = .ok (.aload_n 0, 1)) ∧ (decode cX3_becomeLike 152 = .ok (.getfield 51, 3)) ∧ (decode cX3_becomeLike 155 = .ok (.iconst 0, 1)) ∧ (decode cX3_becomeLike 156 = .ok (.iconst 4, 1)) ∧ (decode cX3_becomeLike 157 = .ok (.invokestatic 86, 3)) := by decide +kernel
theorem dX3_becomeLike_137 : decode cX3_becomeLike 137 = .ok (.getfield 48, 3) := dX3_becomeLike_137_b.1
theorem dX3_becomeLike_140 : decode cX3_becomeLike 140 = .ok (.iconst 0, 1) := dX3_becomeLike_137_b.2.1
theorem dX3_becomeLike_141 : decode cX3_becomeLike 141 = .ok (.bipush 6, 2) := dX3_becomeLike_137_b.2.2.1
theorem dX3_becomeLike_143 : decode cX3_becomeLike 143 = .ok (.invokestatic 86, 3) := dX3_becomeLike_137_b.2.2.2.1
theorem dX3_becomeLike_146 : decode cX3_becomeLike 146 = .ok (.aload_n 1, 1) := dX3_becomeLike_137_b.2.2.2.2.1
theorem dX3_becomeLike_147 : decode cX3_becomeLike 147 = .ok (.getfield 51, 3) := dX3_becomeLike_137_b.2.2.2.2.2.1
theorem dX3_becomeLike_150 : decode cX3_becomeLike 150 = .ok (.iconst 0, 1) := dX3_becomeLike_137_b.2.2.2.2.2.2.1
theorem dX3_becomeLike_151 : decode cX3_becomeLike 151 = .ok (.aload_n 0, 1) := dX3_becomeLike_137_b.2.2.2.2.2.2.2.1
theorem dX3_becomeLike_152 : decode cX3_becomeLike 152 = .ok (.getfield 51, 3) := dX3_becomeLike_137_b.2.2.2.2.2.2.2.2.1
theorem dX3_becomeLike_155 : decode cX3_becomeLike 155 = .ok (.iconst 0, 1) := dX3_becomeLike_137_b.2.2.2.2.2.2.2.2.2.1
theorem dX3_becomeLike_156 : decode cX3_becomeLike 156 = .ok (.iconst 4, 1) := dX3_becomeLike_137_b.2.2.2.2.2.2.2.2.2.2.1
theorem dX3_becomeLike_157 : decode cX3_becomeLike 157 = .ok (.invokestatic 86, 3) := dX3_becomeLike_137_b.2.2.2.2.2.2.2.2.2.2.2
theorem dX3_becomeLike_160_b : (decode cX3_becomeLike 160 = .ok (.aload_n 1, 1)) ∧ (decode cX3_becomeLike 161 = .ok (.getfield 54, 3)) ∧ (decode cX3_becomeLike 164 = .ok (.iconst 0, 1)) ∧ (decode cX3_becomeLike 165 = .ok (.aload_n 0, 1)) ∧ (decode cX3_becomeLike 166 = .ok (.getfield 54, 3)) ∧ (decode cX3_becomeLike 169 = .ok (.iconst 0, 1)) ∧ (decode cX3_becomeLike 170 = .ok (.iconst 4, 1)) ∧ (decode cX3_becomeLike 171 = .ok (.invokestatic 86, 3)) ∧ (decode cX3_becomeLike 174 = .ok (.aload_n 1, 1)) ∧ (decode cX3_becomeLike 175 = .ok (.getfield 57, 3)) ∧ (decode cX3_becomeLike 178 = .ok (.iconst 0, 1)) ∧ (decode cX3_becomeLike 179 = .ok (.aload_n 0, 1)) := by decide +kernel
theorem dX3_becomeLike_160 : decode cX3_becomeLike 160 = .ok (.aload_n 1, 1) := dX3_becomeLike_160_b.1
theorem dX3_becomeLike_161 : decode cX3_becomeLike 161 = .ok (.getfield 54, 3) := dX3_becomeLike_160_b.2.1
theorem dX3_becomeLike_164 : decode cX3_becomeLike 164 = .ok (.iconst 0, 1) := dX3_becomeLike_160_b.2.2.1
theorem dX3_becomeLike_165 : decode cX3_becomeLike 165 = .ok (.aload_n 0, 1) := dX3_becomeLike_160_b.2.2.2.1
theorem dX3_becomeLike_166 : decode cX3_becomeLike 166 = .ok (.getfield 54, 3) := dX3_becomeLike_160_b.2.2.2.2.1
theorem dX3_becomeLike_169 : decode cX3_becomeLike 169 = .ok (.iconst 0, 1) := dX3_becomeLike_160_b.2.2.2.2.2.1
theorem dX3_becomeLike_170 : decode cX3_becomeLike 170 = .ok (.iconst 4, 1) := dX3_becomeLike_160_b.2.2.2.2.2.2.1
theorem dX3_becomeLike_171 : decode cX3_becomeLike 171 = .ok (.invokestatic 86, 3) := dX3_becomeLike_160_b.2.2.2.2.2.2.2.1
theorem dX3_becomeLike_174 : decode cX3_becomeLike 174 = .ok (.aload_n 1, 1) := dX3_becomeLike_160_b.2.2.2.2.2.2.2.2.1
theorem dX3_becomeLike_175 : decode cX3_becomeLike 175 = .ok (.getfield 57, 3) := dX3_becomeLike_160_b.2.2.2.2.2.2.2.2.2.1
theorem dX3_becomeLike_178 : decode cX3_becomeLike 178 = .ok (.iconst 0, 1) := dX3_becomeLike_160_b.2.2.2.2.2.2.2.2.2.2.1
theorem dX3_becomeLike_179 : decode cX3_becomeLike 179 = .ok (.aload_n 0, 1) := dX3_becomeLike_160_b.2.2.2.2.2.2.2.2.2.2.2
theorem dX3_becomeLike_180_b : (decode cX3_becomeLike 180 = .ok (.getfield 57, 3)) ∧ (decode cX3_becomeLike 183 = .ok (.iconst 0, 1)) ∧ (decode cX3_becomeLike 184 = .ok (.iconst 4, 1)) ∧ (decode cX3_becomeLike 185 = .ok (.invokestatic 86, 3)) ∧ (decode cX3_becomeLike 188 = .ok (.aload_n 1, 1)) ∧ (decode cX3_becomeLike 189 = .ok (.getfield 60, 3)) ∧ (decode cX3_becomeLike 192 = .ok (.iconst 0, 1)) ∧ (decode cX3_becomeLike 193 = .ok (.aload_n 0, 1)) ∧ (decode cX3_becomeLike 194 = .ok (.getfield 60, 3)) ∧ (decode cX3_becomeLike 197 = .ok (.iconst 0, 1)) ∧ (decode cX3_becomeLike 198 = .ok (.aload_n 1, 1)) ∧ (decode cX3_becomeLike 199 = .ok (.getfield 17, 3)) := by decide +kernel
theorem dX3_becomeLike_180 : decode cX3_becomeLike 180 = .ok (.getfield 57, 3) := dX3_becomeLike_180_b.1
theorem dX3_becomeLike_183 : decode cX3_becomeLike 183 = .ok (.iconst 0, 1) := dX3_becomeLike_180_b.2.1
theorem dX3_becomeLike_184 : decode cX3_becomeLike 184 = .ok (.iconst 4, 1) := dX3_becomeLike_180_b.2.2.1
theorem dX3_becomeLike_185 : decode cX3_becomeLike 185 = .ok (.invokestatic 86, 3) := dX3_becomeLike_180_b.2.2.2.1
theorem dX3_becomeLike_188 : decode cX3_becomeLike 188 = .ok (.aload_n 1, 1) := dX3_becomeLike_180_b.2.2.2.2.1
theorem dX3_becomeLike_189 : decode cX3_becomeLike 189 = .ok (.getfield 60, 3) := dX3_becomeLike_180_b.2.2.2.2.2.1
theorem dX3_becomeLike_192 : decode cX3_becomeLike 192 = .ok (.iconst 0, 1) := dX3_becomeLike_180_b.2.2.2.2.2.2.1
theorem dX3_becomeLike_193 : decode cX3_becomeLike 193 = .ok (.aload_n 0, 1) := dX3_becomeLike_180_b.2.2.2.2.2.2.2.1
theorem dX3_becomeLike_194 : decode cX3_becomeLike 194 = .ok (.getfield 60, 3) := dX3_becomeLike_180_b.2.2.2.2.2.2.2.2.1
theorem dX3_becomeLike_197 : decode cX3_becomeLike 197 = .ok (.iconst 0, 1) := dX3_becomeLike_180_b.2.2.2.2.2.2.2.2.2.1
theorem dX3_becomeLike_198 : decode cX3_becomeLike 198 = .ok (.aload_n 1, 1) := dX3_becomeLike_180_b.2.2.2.2.2.2.2.2.2.2.1
theorem dX3_becomeLike_199 : decode cX3_becomeLike 199 = .ok (.getfield 17, 3) := dX3_becomeLike_180_b.2.2.2.2.2.2.2.2.2.2.2
theorem dX3_becomeLike_202_b : (decode cX3_becomeLike 202 = .ok (.iconst 1, 1)) ∧ (decode cX3_becomeLike 203 = .ok (.iadd, 1)) ∧ (decode cX3_becomeLike 204 = .ok (.invokestatic 86, 3)) ∧ (decode cX3_becomeLike 207 = .ok (.return_, 1)) := by decide +kernel
theorem dX3_becomeLike_202 : decode cX3_becomeLike 202 = .ok (.iconst 1, 1) := dX3_becomeLike_202_b.1
theorem dX3_becomeLike_203 : decode cX3_becomeLike 203 = .ok (.iadd, 1) := dX3_becomeLike_202_b.2.1
theorem dX3_becomeLike_204 : decode cX3_becomeLike 204 = .ok (.invokestatic 86, 3) := dX3_becomeLike_202_b.2.2.1
theorem dX3_becomeLike_207 : decode cX3_becomeLike 207 = .ok (.return_, 1) := dX3_becomeLike_202_b.2.2.2
theorem dX3_isHushed_0_b : (decode cX3_isHushed 0 = .ok (.aload_n 0, 1)) ∧ (decode cX3_isHushed 1 = .ok (.getfield 23, 3)) ∧ (decode cX3_isHushed 4 = .ok (.iload_n 1, 1)) ∧ (decode cX3_isHushed 5 = .ok (.invokestatic 92, 3)) ∧ (decode cX3_isHushed 8 = .ok (.ireturn, 1)) := by decide +kernel
theorem dX3_isHushed_0 : decode cX3_isHushed 0 = .ok (.aload_n 0, 1) := dX3_isHushed_0_b.1
theorem dX3_isHushed_1 : decode cX3_isHushed 1 = .ok (.getfield 23, 3) := dX3_isHushed_0_b.2.1
theorem dX3_isHushed_4 : decode cX3_isHushed 4 = .ok (.iload_n 1, 1) := dX3_isHushed_0_b.2.2.1
theorem dX3_isHushed_5 : decode cX3_isHushed 5 = .ok (.invokestatic 92, 3) := dX3_isHushed_0_b.2.2.2.1
theorem dX3_isHushed_8 : decode cX3_isHushed 8 = .ok (.ireturn, 1) := dX3_isHushed_0_b.2.2.2.2
theorem dX3_setHushed_0_b : (decode cX3_setHushed 0 = .ok (.iconst 1, 1)) ∧ (decode cX3_setHushed 1 = .ok (.iload_n 1, 1)) ∧ (decode cX3_setHushed 2 = .ok (.ishl, 1)) ∧ (decode cX3_setHushed 3 = .ok (.istore_n 3, 1)) ∧ (decode cX3_setHushed 4 = .ok (.aload_n 0, 1)) ∧ (decode cX3_setHushed 5 = .ok (.iload_n 2, 1)) ∧ (decode cX3_setHushed 6 = .ok (.ifCond .eq 12, 3)) ∧ (decode cX3_setHushed 9 = .ok (.aload_n 0, 1)) ∧ (decode cX3_setHushed 10 = .ok (.getfield 23, 3)) ∧ (decode cX3_setHushed 13 = .ok (.iload_n 3, 1)) ∧ (decode cX3_setHushed 14 = .ok (.ior, 1)) ∧ (decode cX3_setHushed 15 = .ok (.goto 11, 3)) := by decide +kernel
theorem dX3_setHushed_0 : decode cX3_setHushed 0 = .ok (.iconst 1, 1) := dX3_setHushed_0_b.1
theorem dX3_setHushed_1 : decode cX3_setHushed 1 = .ok (.iload_n 1, 1) := dX3_setHushed_0_b.2.1
theorem dX3_setHushed_2 : decode cX3_setHushed 2 = .ok (.ishl, 1) := dX3_setHushed_0_b.2.2.1
theorem dX3_setHushed_3 : decode cX3_setHushed 3 = .ok (.istore_n 3, 1) := dX3_setHushed_0_b.2.2.2.1
theorem dX3_setHushed_4 : decode cX3_setHushed 4 = .ok (.aload_n 0, 1) := dX3_setHushed_0_b.2.2.2.2.1
theorem dX3_setHushed_5 : decode cX3_setHushed 5 = .ok (.iload_n 2, 1) := dX3_setHushed_0_b.2.2.2.2.2.1
theorem dX3_setHushed_6 : decode cX3_setHushed 6 = .ok (.ifCond .eq 12, 3) := dX3_setHushed_0_b.2.2.2.2.2.2.1
theorem dX3_setHushed_9 : decode cX3_setHushed 9 = .ok (.aload_n 0, 1) := dX3_setHushed_0_b.2.2.2.2.2.2.2.1
theorem dX3_setHushed_10 : decode cX3_setHushed 10 = .ok (.getfield 23, 3) := dX3_setHushed_0_b.2.2.2.2.2.2.2.2.1
theorem dX3_setHushed_13 : decode cX3_setHushed 13 = .ok (.iload_n 3, 1) := dX3_setHushed_0_b.2.2.2.2.2.2.2.2.2.1
theorem dX3_setHushed_14 : decode cX3_setHushed 14 = .ok (.ior, 1) := dX3_setHushed_0_b.2.2.2.2.2.2.2.2.2.2.1
theorem dX3_setHushed_15 : decode cX3_setHushed 15 = .ok (.goto 11, 3) := dX3_setHushed_0_b.2.2.2.2.2.2.2.2.2.2.2
theorem dX3_setHushed_18_b : (decode cX3_setHushed 18 = .ok (.aload_n 0, 1)) ∧ (decode cX3_setHushed 19 = .ok (.getfield 23, 3)) ∧ (decode cX3_setHushed 22 = .ok (.iload_n 3, 1)) ∧ (decode cX3_setHushed 23 = .ok (.iconst (-1), 1)) ∧ (decode cX3_setHushed 24 = .ok (.ixor, 1)) ∧ (decode cX3_setHushed 25 = .ok (.iand, 1)) ∧ (decode cX3_setHushed 26 = .ok (.putfield 23, 3)) ∧ (decode cX3_setHushed 29 = .ok (.return_, 1)) := by decide +kernel
theorem dX3_setHushed_18 : decode cX3_setHushed 18 = .ok (.aload_n 0, 1) := dX3_setHushed_18_b.1
theorem dX3_setHushed_19 : decode cX3_setHushed 19 = .ok (.getfield 23, 3) := dX3_setHushed_18_b.2.1
theorem dX3_setHushed_22 : decode cX3_setHushed 22 = .ok (.iload_n 3, 1) := dX3_setHushed_18_b.2.2.1
theorem dX3_setHushed_23 : decode cX3_setHushed 23 = .ok (.iconst (-1), 1) := dX3_setHushed_18_b.2.2.2.1
theorem dX3_setHushed_24 : decode cX3_setHushed 24 = .ok (.ixor, 1) := dX3_setHushed_18_b.2.2.2.2.1
theorem dX3_setHushed_25 : decode cX3_setHushed 25 = .ok (.iand, 1) := dX3_setHushed_18_b.2.2.2.2.2.1
theorem dX3_setHushed_26 : decode cX3_setHushed 26 = .ok (.putfield 23, 3) := dX3_setHushed_18_b.2.2.2.2.2.2.1
theorem dX3_setHushed_29 : decode cX3_setHushed 29 = .ok (.return_, 1) := dX3_setHushed_18_b.2.2.2.2.2.2.2
theorem dX3_isInClockRoom_0_b : (decode cX3_isInClockRoom 0 = .ok (.aload_n 0, 1)) ∧ (decode cX3_isInClockRoom 1 = .ok (.getfield 39, 3)) ∧ (decode cX3_isInClockRoom 4 = .ok (.iload_n 1, 1)) ∧ (decode cX3_isInClockRoom 5 = .ok (.iaload, 1)) ∧ (decode cX3_isInClockRoom 6 = .ok (.ifCond .ne 7, 3)) ∧ (decode cX3_isInClockRoom 9 = .ok (.iconst 1, 1)) ∧ (decode cX3_isInClockRoom 10 = .ok (.goto 4, 3)) ∧ (decode cX3_isInClockRoom 13 = .ok (.iconst 0, 1)) ∧ (decode cX3_isInClockRoom 14 = .ok (.ireturn, 1)) := by decide +kernel
theorem dX3_isInClockRoom_0 : decode cX3_isInClockRoom 0 = .ok (.aload_n 0, 1) := dX3_isInClockRoom_0_b.1
theorem dX3_isInClockRoom_1 : decode cX3_isInClockRoom 1 = .ok (.getfield 39, 3) := dX3_isInClockRoom_0_b.2.1
theorem dX3_isInClockRoom_4 : decode cX3_isInClockRoom 4 = .ok (.iload_n 1, 1) := dX3_isInClockRoom_0_b.2.2.1
theorem dX3_isInClockRoom_5 : decode cX3_isInClockRoom 5 = .ok (.iaload, 1) := dX3_isInClockRoom_0_b.2.2.2.1
theorem dX3_isInClockRoom_6 : decode cX3_isInClockRoom 6 = .ok (.ifCond .ne 7, 3) := dX3_isInClockRoom_0_b.2.2.2.2.1
theorem dX3_isInClockRoom_9 : decode cX3_isInClockRoom 9 = .ok (.iconst 1, 1) := dX3_isInClockRoom_0_b.2.2.2.2.2.1
theorem dX3_isInClockRoom_10 : decode cX3_isInClockRoom 10 = .ok (.goto 4, 3) := dX3_isInClockRoom_0_b.2.2.2.2.2.2.1
theorem dX3_isInClockRoom_13 : decode cX3_isInClockRoom 13 = .ok (.iconst 0, 1) := dX3_isInClockRoom_0_b.2.2.2.2.2.2.2.1
theorem dX3_isInClockRoom_14 : decode cX3_isInClockRoom 14 = .ok (.ireturn, 1) := dX3_isInClockRoom_0_b.2.2.2.2.2.2.2.2
theorem dX3_inClockRoom_0_b : (decode cX3_inClockRoom 0 = .ok (.iconst 0, 1)) ∧ (decode cX3_inClockRoom 1 = .ok (.istore_n 1, 1)) ∧ (decode cX3_inClockRoom 2 = .ok (.iconst 0, 1)) ∧ (decode cX3_inClockRoom 3 = .ok (.istore_n 2, 1)) ∧ (decode cX3_inClockRoom 4 = .ok (.iload_n 2, 1)) ∧ (decode cX3_inClockRoom 5 = .ok (.aload_n 0, 1)) ∧ (decode cX3_inClockRoom 6 = .ok (.getfield 26, 3)) ∧ (decode cX3_inClockRoom 9 = .ok (.if_icmp .ge 23, 3)) ∧ (decode cX3_inClockRoom 12 = .ok (.aload_n 0, 1)) ∧ (decode cX3_inClockRoom 13 = .ok (.iload_n 2, 1)) ∧ (decode cX3_inClockRoom 14 = .ok (.invokevirtual 96, 3)) ∧ (decode cX3_inClockRoom 17 = .ok (.ifCond .eq 9, 3)) := by decide +kernel
theorem dX3_inClockRoom_0 : decode cX3_inClockRoom 0 = .ok (.iconst 0, 1) := dX3_inClockRoom_0_b.1
theorem dX3_inClockRoom_1 : decode cX3_inClockRoom 1 = .ok (.istore_n 1, 1) := dX3_inClockRoom_0_b.2.1
theorem dX3_inClockRoom_2 : decode cX3_inClockRoom 2 = .ok (.iconst 0, 1) := dX3_inClockRoom_0_b.2.2.1
theorem dX3_inClockRoom_3 : decode cX3_inClockRoom 3 = .ok (.istore_n 2, 1) := dX3_inClockRoom_0_b.2.2.2.1
theorem dX3_inClockRoom_4 : decode cX3_inClockRoom 4 = .ok (.iload_n 2, 1) := dX3_inClockRoom_0_b.2.2.2.2.1
theorem dX3_inClockRoom_5 : decode cX3_inClockRoom 5 = .ok (.aload_n 0, 1) := dX3_inClockRoom_0_b.2.2.2.2.2.1
theorem dX3_inClockRoom_6 : decode cX3_inClockRoom 6 = .ok (.getfield 26, 3) := dX3_inClockRoom_0_b.2.2.2.2.2.2.1
theorem dX3_inClockRoom_9 : decode cX3_inClockRoom 9 = .ok (.if_icmp .ge 23, 3) := dX3_inClockRoom_0_b.2.2.2.2.2.2.2.1
theorem dX3_inClockRoom_12 : decode cX3_inClockRoom 12 = .ok (.aload_n 0, 1) := dX3_inClockRoom_0_b.2.2.2.2.2.2.2.2.1
theorem dX3_inClockRoom_13 : decode cX3_inClockRoom 13 = .ok (.iload_n 2, 1) := dX3_inClockRoom_0_b.2.2.2.2.2.2.2.2.2.1
theorem dX3_inClockRoom_14 : decode cX3_inClockRoom 14 = .ok (.invokevirtual 96, 3) := dX3_inClockRoom_0_b.2.2.2.2.2.2.2.2.2.2.1
theorem dX3_inClockRoom_17 : decode cX3_inClockRoom 17 = .ok (.ifCond .eq 9, 3) := dX3_inClockRoom_0_b.2.2.2.2.2.2.2.2.2.2.2
theorem dX3_inClockRoom_20_b : (decode cX3_inClockRoom 20 = .ok (.iload_n 1, 1)) ∧ (decode cX3_inClockRoom 21 = .ok (.iconst 1, 1)) ∧ (decode cX3_inClockRoom 22 = .ok (.iload_n 2, 1)) ∧ (decode cX3_inClockRoom 23 = .ok (.ishl, 1)) ∧ (decode cX3_inClockRoom 24 = .ok (.ior, 1)) ∧ (decode cX3_inClockRoom 25 = .ok (.istore_n 1, 1)) ∧ (decode cX3_inClockRoom 26 = .ok (.iinc 2 1, 3)) ∧ (decode cX3_inClockRoom 29 = .ok (.goto (-25), 3)) ∧ (decode cX3_inClockRoom 32 = .ok (.iload_n 1, 1)) ∧ (decode cX3_inClockRoom 33 = .ok (.ireturn, 1)) := by decide +kernel
theorem dX3_inClockRoom_20 : decode cX3_inClockRoom 20 = .ok (.iload_n 1, 1) := dX3_inClockRoom_20_b.1
theorem dX3_inClockRoom_21 : decode cX3_inClockRoom 21 = .ok (.iconst 1, 1) := dX3_inClockRoom_20_b.2.1
theorem dX3_inClockRoom_22 : decode cX3_inClockRoom 22 = .ok (.iload_n 2, 1) := dX3_inClockRoom_20_b.2.2.1
theorem dX3_inClockRoom_23 : decode cX3_inClockRoom 23 = .ok (.ishl, 1) := dX3_inClockRoom_20_b.2.2.2.1
theorem dX3_inClockRoom_24 : decode cX3_inClockRoom 24 = .ok (.ior, 1) := dX3_inClockRoom_20_b.2.2.2.2.1
theorem dX3_inClockRoom_25 : decode cX3_inClockRoom 25 = .ok (.istore_n 1, 1) := dX3_inClockRoom_20_b.2.2.2.2.2.1
theorem dX3_inClockRoom_26 : decode cX3_inClockRoom 26 = .ok (.iinc 2 1, 3) := dX3_inClockRoom_20_b.2.2.2.2.2.2.1
theorem dX3_inClockRoom_29 : decode cX3_inClockRoom 29 = .ok (.goto (-25), 3) := dX3_inClockRoom_20_b.2.2.2.2.2.2.2.1
theorem dX3_inClockRoom_32 : decode cX3_inClockRoom 32 = .ok (.iload_n 1, 1) := dX3_inClockRoom_20_b.2.2.2.2.2.2.2.2.1
theorem dX3_inClockRoom_33 : decode cX3_inClockRoom 33 = .ok (.ireturn, 1) := dX3_inClockRoom_20_b.2.2.2.2.2.2.2.2.2
theorem dX3_attending_0_b : (decode cX3_attending 0 = .ok (.aload_n 0, 1)) ∧ (decode cX3_attending 1 = .ok (.invokevirtual 100, 3)) ∧ (decode cX3_attending 4 = .ok (.aload_n 0, 1)) ∧ (decode cX3_attending 5 = .ok (.getfield 23, 3)) ∧ (decode cX3_attending 8 = .ok (.iconst (-1), 1)) ∧ (decode cX3_attending 9 = .ok (.ixor, 1)) ∧ (decode cX3_attending 10 = .ok (.iand, 1)) ∧ (decode cX3_attending 11 = .ok (.ireturn, 1)) := by decide +kernel
theorem dX3_attending_0 : decode cX3_attending 0 = .ok (.aload_n 0, 1) := dX3_attending_0_b.1
theorem dX3_attending_1 : decode cX3_attending 1 = .ok (.invokevirtual 100, 3) := dX3_attending_0_b.2.1
theorem dX3_attending_4 : decode cX3_attending 4 = .ok (.aload_n 0, 1) := dX3_attending_0_b.2.2.1
theorem dX3_attending_5 : decode cX3_attending 5 = .ok (.getfield 23, 3) := dX3_attending_0_b.2.2.2.1
theorem dX3_attending_8 : decode cX3_attending 8 = .ok (.iconst (-1), 1) := dX3_attending_0_b.2.2.2.2.1
theorem dX3_attending_9 : decode cX3_attending 9 = .ok (.ixor, 1) := dX3_attending_0_b.2.2.2.2.2.1
theorem dX3_attending_10 : decode cX3_attending 10 = .ok (.iand, 1) := dX3_attending_0_b.2.2.2.2.2.2.1
theorem dX3_attending_11 : decode cX3_attending 11 = .ok (.ireturn, 1) := dX3_attending_0_b.2.2.2.2.2.2.2
theorem dX3_allSets_0_b : (decode cX3_allSets 0 = .ok (.iconst 1, 1)) ∧ (decode cX3_allSets 1 = .ok (.aload_n 0, 1)) ∧ (decode cX3_allSets 2 = .ok (.getfield 26, 3)) ∧ (decode cX3_allSets 5 = .ok (.ishl, 1)) ∧ (decode cX3_allSets 6 = .ok (.ireturn, 1)) := by decide +kernel
theorem dX3_allSets_0 : decode cX3_allSets 0 = .ok (.iconst 1, 1) := dX3_allSets_0_b.1
theorem dX3_allSets_1 : decode cX3_allSets 1 = .ok (.aload_n 0, 1) := dX3_allSets_0_b.2.1
theorem dX3_allSets_2 : decode cX3_allSets 2 = .ok (.getfield 26, 3) := dX3_allSets_0_b.2.2.1
theorem dX3_allSets_5 : decode cX3_allSets 5 = .ok (.ishl, 1) := dX3_allSets_0_b.2.2.2.1
theorem dX3_allSets_6 : decode cX3_allSets 6 = .ok (.ireturn, 1) := dX3_allSets_0_b.2.2.2.2
theorem dX3_isIn_0_b : (decode cX3_isIn 0 = .ok (.iload_n 0, 1)) ∧ (decode cX3_isIn 1 = .ok (.iload_n 1, 1)) ∧ (decode cX3_isIn 2 = .ok (.ishr, 1)) ∧ (decode cX3_isIn 3 = .ok (.iconst 1, 1)) ∧ (decode cX3_isIn 4 = .ok (.iand, 1)) ∧ (decode cX3_isIn 5 = .ok (.iconst 1, 1)) ∧ (decode cX3_isIn 6 = .ok (.if_icmp .ne 7, 3)) ∧ (decode cX3_isIn 9 = .ok (.iconst 1, 1)) ∧ (decode cX3_isIn 10 = .ok (.goto 4, 3)) ∧ (decode cX3_isIn 13 = .ok (.iconst 0, 1)) ∧ (decode cX3_isIn 14 = .ok (.ireturn, 1)) := by decide +kernel
theorem dX3_isIn_0 : decode cX3_isIn 0 = .ok (.iload_n 0, 1) := dX3_isIn_0_b.1
theorem dX3_isIn_1 : decode cX3_isIn 1 = .ok (.iload_n 1, 1) := dX3_isIn_0_b.2.1
theorem dX3_isIn_2 : decode cX3_isIn 2 = .ok (.ishr, 1) := dX3_isIn_0_b.2.2.1
theorem dX3_isIn_3 : decode cX3_isIn 3 = .ok (.iconst 1, 1) := dX3_isIn_0_b.2.2.2.1
theorem dX3_isIn_4 : decode cX3_isIn 4 = .ok (.iand, 1) := dX3_isIn_0_b.2.2.2.2.1
theorem dX3_isIn_5 : decode cX3_isIn 5 = .ok (.iconst 1, 1) := dX3_isIn_0_b.2.2.2.2.2.1
theorem dX3_isIn_6 : decode cX3_isIn 6 = .ok (.if_icmp .ne 7, 3) := dX3_isIn_0_b.2.2.2.2.2.2.1
theorem dX3_isIn_9 : decode cX3_isIn 9 = .ok (.iconst 1, 1) := dX3_isIn_0_b.2.2.2.2.2.2.2.1
theorem dX3_isIn_10 : decode cX3_isIn 10 = .ok (.goto 4, 3) := dX3_isIn_0_b.2.2.2.2.2.2.2.2.1
theorem dX3_isIn_13 : decode cX3_isIn 13 = .ok (.iconst 0, 1) := dX3_isIn_0_b.2.2.2.2.2.2.2.2.2.1
theorem dX3_isIn_14 : decode cX3_isIn 14 = .ok (.ireturn, 1) := dX3_isIn_0_b.2.2.2.2.2.2.2.2.2.2
theorem dX3_hasItsTime_0_b : (decode cX3_hasItsTime 0 = .ok (.iload_n 2, 1)) ∧ (decode cX3_hasItsTime 1 = .ok (.bipush 8, 2)) ∧ (decode cX3_hasItsTime 3 = .ok (.iadd, 1)) ∧ (decode cX3_hasItsTime 4 = .ok (.aload_n 0, 1)) ∧ (decode cX3_hasItsTime 5 = .ok (.getfield 42, 3)) ∧ (decode cX3_hasItsTime 8 = .ok (.iload_n 1, 1)) ∧ (decode cX3_hasItsTime 9 = .ok (.iaload, 1)) ∧ (decode cX3_hasItsTime 10 = .ok (.isub, 1)) ∧ (decode cX3_hasItsTime 11 = .ok (.bipush 8, 2)) ∧ (decode cX3_hasItsTime 13 = .ok (.irem, 1)) ∧ (decode cX3_hasItsTime 14 = .ok (.aload_n 0, 1)) ∧ (decode cX3_hasItsTime 15 = .ok (.getfield 45, 3)) := by decide +kernel
theorem dX3_hasItsTime_0 : decode cX3_hasItsTime 0 = .ok (.iload_n 2, 1) := dX3_hasItsTime_0_b.1
theorem dX3_hasItsTime_1 : decode cX3_hasItsTime 1 = .ok (.bipush 8, 2) := dX3_hasItsTime_0_b.2.1
theorem dX3_hasItsTime_3 : decode cX3_hasItsTime 3 = .ok (.iadd, 1) := dX3_hasItsTime_0_b.2.2.1
theorem dX3_hasItsTime_4 : decode cX3_hasItsTime 4 = .ok (.aload_n 0, 1) := dX3_hasItsTime_0_b.2.2.2.1
theorem dX3_hasItsTime_5 : decode cX3_hasItsTime 5 = .ok (.getfield 42, 3) := dX3_hasItsTime_0_b.2.2.2.2.1
theorem dX3_hasItsTime_8 : decode cX3_hasItsTime 8 = .ok (.iload_n 1, 1) := dX3_hasItsTime_0_b.2.2.2.2.2.1
theorem dX3_hasItsTime_9 : decode cX3_hasItsTime 9 = .ok (.iaload, 1) := dX3_hasItsTime_0_b.2.2.2.2.2.2.1
theorem dX3_hasItsTime_10 : decode cX3_hasItsTime 10 = .ok (.isub, 1) := dX3_hasItsTime_0_b.2.2.2.2.2.2.2.1
theorem dX3_hasItsTime_11 : decode cX3_hasItsTime 11 = .ok (.bipush 8, 2) := dX3_hasItsTime_0_b.2.2.2.2.2.2.2.2.1
theorem dX3_hasItsTime_13 : decode cX3_hasItsTime 13 = .ok (.irem, 1) := dX3_hasItsTime_0_b.2.2.2.2.2.2.2.2.2.1
theorem dX3_hasItsTime_14 : decode cX3_hasItsTime 14 = .ok (.aload_n 0, 1) := dX3_hasItsTime_0_b.2.2.2.2.2.2.2.2.2.2.1
theorem dX3_hasItsTime_15 : decode cX3_hasItsTime 15 = .ok (.getfield 45, 3) := dX3_hasItsTime_0_b.2.2.2.2.2.2.2.2.2.2.2
theorem dX3_hasItsTime_18_b : (decode cX3_hasItsTime 18 = .ok (.iload_n 1, 1)) ∧ (decode cX3_hasItsTime 19 = .ok (.iaload, 1)) ∧ (decode cX3_hasItsTime 20 = .ok (.if_icmp .ge 7, 3)) ∧ (decode cX3_hasItsTime 23 = .ok (.iconst 1, 1)) ∧ (decode cX3_hasItsTime 24 = .ok (.goto 4, 3)) ∧ (decode cX3_hasItsTime 27 = .ok (.iconst 0, 1)) ∧ (decode cX3_hasItsTime 28 = .ok (.ireturn, 1)) := by decide +kernel
theorem dX3_hasItsTime_18 : decode cX3_hasItsTime 18 = .ok (.iload_n 1, 1) := dX3_hasItsTime_18_b.1
theorem dX3_hasItsTime_19 : decode cX3_hasItsTime 19 = .ok (.iaload, 1) := dX3_hasItsTime_18_b.2.1
theorem dX3_hasItsTime_20 : decode cX3_hasItsTime 20 = .ok (.if_icmp .ge 7, 3) := dX3_hasItsTime_18_b.2.2.1
theorem dX3_hasItsTime_23 : decode cX3_hasItsTime 23 = .ok (.iconst 1, 1) := dX3_hasItsTime_18_b.2.2.2.1
theorem dX3_hasItsTime_24 : decode cX3_hasItsTime 24 = .ok (.goto 4, 3) := dX3_hasItsTime_18_b.2.2.2.2.1
theorem dX3_hasItsTime_27 : decode cX3_hasItsTime 27 = .ok (.iconst 0, 1) := dX3_hasItsTime_18_b.2.2.2.2.2.1
theorem dX3_hasItsTime_28 : decode cX3_hasItsTime 28 = .ok (.ireturn, 1) := dX3_hasItsTime_18_b.2.2.2.2.2.2
theorem dX3_listensNow_0_b : (decode cX3_listensNow 0 = .ok (.aload_n 0, 1)) ∧ (decode cX3_listensNow 1 = .ok (.invokevirtual 103, 3)) ∧ (decode cX3_listensNow 4 = .ok (.iload_n 1, 1)) ∧ (decode cX3_listensNow 5 = .ok (.invokestatic 92, 3)) ∧ (decode cX3_listensNow 8 = .ok (.ifCond .eq 19, 3)) ∧ (decode cX3_listensNow 11 = .ok (.aload_n 0, 1)) ∧ (decode cX3_listensNow 12 = .ok (.iload_n 1, 1)) ∧ (decode cX3_listensNow 13 = .ok (.aload_n 0, 1)) ∧ (decode cX3_listensNow 14 = .ok (.getfield 17, 3)) ∧ (decode cX3_listensNow 17 = .ok (.invokevirtual 106, 3)) ∧ (decode cX3_listensNow 20 = .ok (.ifCond .eq 7, 3)) ∧ (decode cX3_listensNow 23 = .ok (.iconst 1, 1)) := by decide +kernel
theorem dX3_listensNow_0 : decode cX3_listensNow 0 = .ok (.aload_n 0, 1) := dX3_listensNow_0_b.1
theorem dX3_listensNow_1 : decode cX3_listensNow 1 = .ok (.invokevirtual 103, 3) := dX3_listensNow_0_b.2.1
theorem dX3_listensNow_4 : decode cX3_listensNow 4 = .ok (.iload_n 1, 1) := dX3_listensNow_0_b.2.2.1
theorem dX3_listensNow_5 : decode cX3_listensNow 5 = .ok (.invokestatic 92, 3) := dX3_listensNow_0_b.2.2.2.1
theorem dX3_listensNow_8 : decode cX3_listensNow 8 = .ok (.ifCond .eq 19, 3) := dX3_listensNow_0_b.2.2.2.2.1
theorem dX3_listensNow_11 : decode cX3_listensNow 11 = .ok (.aload_n 0, 1) := dX3_listensNow_0_b.2.2.2.2.2.1
theorem dX3_listensNow_12 : decode cX3_listensNow 12 = .ok (.iload_n 1, 1) := dX3_listensNow_0_b.2.2.2.2.2.2.1
theorem dX3_listensNow_13 : decode cX3_listensNow 13 = .ok (.aload_n 0, 1) := dX3_listensNow_0_b.2.2.2.2.2.2.2.1
theorem dX3_listensNow_14 : decode cX3_listensNow 14 = .ok (.getfield 17, 3) := dX3_listensNow_0_b.2.2.2.2.2.2.2.2.1
theorem dX3_listensNow_17 : decode cX3_listensNow 17 = .ok (.invokevirtual 106, 3) := dX3_listensNow_0_b.2.2.2.2.2.2.2.2.2.1
theorem dX3_listensNow_20 : decode cX3_listensNow 20 = .ok (.ifCond .eq 7, 3) := dX3_listensNow_0_b.2.2.2.2.2.2.2.2.2.2.1
theorem dX3_listensNow_23 : decode cX3_listensNow 23 = .ok (.iconst 1, 1) := dX3_listensNow_0_b.2.2.2.2.2.2.2.2.2.2.2
theorem dX3_listensNow_24_b : (decode cX3_listensNow 24 = .ok (.goto 4, 3)) ∧ (decode cX3_listensNow 27 = .ok (.iconst 0, 1)) ∧ (decode cX3_listensNow 28 = .ok (.ireturn, 1)) := by decide +kernel
theorem dX3_listensNow_24 : decode cX3_listensNow 24 = .ok (.goto 4, 3) := dX3_listensNow_24_b.1
theorem dX3_listensNow_27 : decode cX3_listensNow 27 = .ok (.iconst 0, 1) := dX3_listensNow_24_b.2.1
theorem dX3_listensNow_28 : decode cX3_listensNow 28 = .ok (.ireturn, 1) := dX3_listensNow_24_b.2.2
theorem dX3_listeningNow_0_b : (decode cX3_listeningNow 0 = .ok (.iconst 0, 1)) ∧ (decode cX3_listeningNow 1 = .ok (.istore_n 1, 1)) ∧ (decode cX3_listeningNow 2 = .ok (.iconst 0, 1)) ∧ (decode cX3_listeningNow 3 = .ok (.istore_n 2, 1)) ∧ (decode cX3_listeningNow 4 = .ok (.iload_n 2, 1)) ∧ (decode cX3_listeningNow 5 = .ok (.aload_n 0, 1)) ∧ (decode cX3_listeningNow 6 = .ok (.getfield 26, 3)) ∧ (decode cX3_listeningNow 9 = .ok (.if_icmp .ge 23, 3)) ∧ (decode cX3_listeningNow 12 = .ok (.aload_n 0, 1)) ∧ (decode cX3_listeningNow 13 = .ok (.iload_n 2, 1)) ∧ (decode cX3_listeningNow 14 = .ok (.invokevirtual 109, 3)) ∧ (decode cX3_listeningNow 17 = .ok (.ifCond .eq 9, 3)) := by decide +kernel
theorem dX3_listeningNow_0 : decode cX3_listeningNow 0 = .ok (.iconst 0, 1) := dX3_listeningNow_0_b.1
theorem dX3_listeningNow_1 : decode cX3_listeningNow 1 = .ok (.istore_n 1, 1) := dX3_listeningNow_0_b.2.1
theorem dX3_listeningNow_2 : decode cX3_listeningNow 2 = .ok (.iconst 0, 1) := dX3_listeningNow_0_b.2.2.1
theorem dX3_listeningNow_3 : decode cX3_listeningNow 3 = .ok (.istore_n 2, 1) := dX3_listeningNow_0_b.2.2.2.1
theorem dX3_listeningNow_4 : decode cX3_listeningNow 4 = .ok (.iload_n 2, 1) := dX3_listeningNow_0_b.2.2.2.2.1
theorem dX3_listeningNow_5 : decode cX3_listeningNow 5 = .ok (.aload_n 0, 1) := dX3_listeningNow_0_b.2.2.2.2.2.1
theorem dX3_listeningNow_6 : decode cX3_listeningNow 6 = .ok (.getfield 26, 3) := dX3_listeningNow_0_b.2.2.2.2.2.2.1
theorem dX3_listeningNow_9 : decode cX3_listeningNow 9 = .ok (.if_icmp .ge 23, 3) := dX3_listeningNow_0_b.2.2.2.2.2.2.2.1
theorem dX3_listeningNow_12 : decode cX3_listeningNow 12 = .ok (.aload_n 0, 1) := dX3_listeningNow_0_b.2.2.2.2.2.2.2.2.1
theorem dX3_listeningNow_13 : decode cX3_listeningNow 13 = .ok (.iload_n 2, 1) := dX3_listeningNow_0_b.2.2.2.2.2.2.2.2.2.1
theorem dX3_listeningNow_14 : decode cX3_listeningNow 14 = .ok (.invokevirtual 109, 3) := dX3_listeningNow_0_b.2.2.2.2.2.2.2.2.2.2.1
theorem dX3_listeningNow_17 : decode cX3_listeningNow 17 = .ok (.ifCond .eq 9, 3) := dX3_listeningNow_0_b.2.2.2.2.2.2.2.2.2.2.2
theorem dX3_listeningNow_20_b : (decode cX3_listeningNow 20 = .ok (.iload_n 1, 1)) ∧ (decode cX3_listeningNow 21 = .ok (.iconst 1, 1)) ∧ (decode cX3_listeningNow 22 = .ok (.iload_n 2, 1)) ∧ (decode cX3_listeningNow 23 = .ok (.ishl, 1)) ∧ (decode cX3_listeningNow 24 = .ok (.ior, 1)) ∧ (decode cX3_listeningNow 25 = .ok (.istore_n 1, 1)) ∧ (decode cX3_listeningNow 26 = .ok (.iinc 2 1, 3)) ∧ (decode cX3_listeningNow 29 = .ok (.goto (-25), 3)) ∧ (decode cX3_listeningNow 32 = .ok (.iload_n 1, 1)) ∧ (decode cX3_listeningNow 33 = .ok (.ireturn, 1)) := by decide +kernel
theorem dX3_listeningNow_20 : decode cX3_listeningNow 20 = .ok (.iload_n 1, 1) := dX3_listeningNow_20_b.1
theorem dX3_listeningNow_21 : decode cX3_listeningNow 21 = .ok (.iconst 1, 1) := dX3_listeningNow_20_b.2.1
theorem dX3_listeningNow_22 : decode cX3_listeningNow 22 = .ok (.iload_n 2, 1) := dX3_listeningNow_20_b.2.2.1
theorem dX3_listeningNow_23 : decode cX3_listeningNow 23 = .ok (.ishl, 1) := dX3_listeningNow_20_b.2.2.2.1
theorem dX3_listeningNow_24 : decode cX3_listeningNow 24 = .ok (.ior, 1) := dX3_listeningNow_20_b.2.2.2.2.1
theorem dX3_listeningNow_25 : decode cX3_listeningNow 25 = .ok (.istore_n 1, 1) := dX3_listeningNow_20_b.2.2.2.2.2.1
theorem dX3_listeningNow_26 : decode cX3_listeningNow 26 = .ok (.iinc 2 1, 3) := dX3_listeningNow_20_b.2.2.2.2.2.2.1
theorem dX3_listeningNow_29 : decode cX3_listeningNow 29 = .ok (.goto (-25), 3) := dX3_listeningNow_20_b.2.2.2.2.2.2.2.1
theorem dX3_listeningNow_32 : decode cX3_listeningNow 32 = .ok (.iload_n 1, 1) := dX3_listeningNow_20_b.2.2.2.2.2.2.2.2.1
theorem dX3_listeningNow_33 : decode cX3_listeningNow 33 = .ok (.ireturn, 1) := dX3_listeningNow_20_b.2.2.2.2.2.2.2.2.2
theorem dX3_giftOf_0_b : (decode cX3_giftOf 0 = .ok (.aload_n 0, 1)) ∧ (decode cX3_giftOf 1 = .ok (.getfield 36, 3)) ∧ (decode cX3_giftOf 4 = .ok (.iload_n 1, 1)) ∧ (decode cX3_giftOf 5 = .ok (.iaload, 1)) ∧ (decode cX3_giftOf 6 = .ok (.aload_n 0, 1)) ∧ (decode cX3_giftOf 7 = .ok (.getfield 13, 3)) ∧ (decode cX3_giftOf 10 = .ok (.if_icmp .le 17, 3)) ∧ (decode cX3_giftOf 13 = .ok (.aload_n 0, 1)) ∧ (decode cX3_giftOf 14 = .ok (.getfield 36, 3)) ∧ (decode cX3_giftOf 17 = .ok (.iload_n 1, 1)) ∧ (decode cX3_giftOf 18 = .ok (.iaload, 1)) ∧ (decode cX3_giftOf 19 = .ok (.aload_n 0, 1)) := by decide +kernel
theorem dX3_giftOf_0 : decode cX3_giftOf 0 = .ok (.aload_n 0, 1) := dX3_giftOf_0_b.1
theorem dX3_giftOf_1 : decode cX3_giftOf 1 = .ok (.getfield 36, 3) := dX3_giftOf_0_b.2.1
theorem dX3_giftOf_4 : decode cX3_giftOf 4 = .ok (.iload_n 1, 1) := dX3_giftOf_0_b.2.2.1
theorem dX3_giftOf_5 : decode cX3_giftOf 5 = .ok (.iaload, 1) := dX3_giftOf_0_b.2.2.2.1
theorem dX3_giftOf_6 : decode cX3_giftOf 6 = .ok (.aload_n 0, 1) := dX3_giftOf_0_b.2.2.2.2.1
theorem dX3_giftOf_7 : decode cX3_giftOf 7 = .ok (.getfield 13, 3) := dX3_giftOf_0_b.2.2.2.2.2.1
theorem dX3_giftOf_10 : decode cX3_giftOf 10 = .ok (.if_icmp .le 17, 3) := dX3_giftOf_0_b.2.2.2.2.2.2.1
theorem dX3_giftOf_13 : decode cX3_giftOf 13 = .ok (.aload_n 0, 1) := dX3_giftOf_0_b.2.2.2.2.2.2.2.1
theorem dX3_giftOf_14 : decode cX3_giftOf 14 = .ok (.getfield 36, 3) := dX3_giftOf_0_b.2.2.2.2.2.2.2.2.1
theorem dX3_giftOf_17 : decode cX3_giftOf 17 = .ok (.iload_n 1, 1) := dX3_giftOf_0_b.2.2.2.2.2.2.2.2.2.1
theorem dX3_giftOf_18 : decode cX3_giftOf 18 = .ok (.iaload, 1) := dX3_giftOf_0_b.2.2.2.2.2.2.2.2.2.2.1
theorem dX3_giftOf_19 : decode cX3_giftOf 19 = .ok (.aload_n 0, 1) := dX3_giftOf_0_b.2.2.2.2.2.2.2.2.2.2.2
theorem dX3_giftOf_20_b : (decode cX3_giftOf 20 = .ok (.getfield 13, 3)) ∧ (decode cX3_giftOf 23 = .ok (.isub, 1)) ∧ (decode cX3_giftOf 24 = .ok (.goto 4, 3)) ∧ (decode cX3_giftOf 27 = .ok (.iconst 0, 1)) ∧ (decode cX3_giftOf 28 = .ok (.istore_n 2, 1)) ∧ (decode cX3_giftOf 29 = .ok (.iload_n 2, 1)) ∧ (decode cX3_giftOf 30 = .ok (.iconst 2, 1)) ∧ (decode cX3_giftOf 31 = .ok (.idiv, 1)) ∧ (decode cX3_giftOf 32 = .ok (.istore_n 3, 1)) ∧ (decode cX3_giftOf 33 = .ok (.aload_n 0, 1)) ∧ (decode cX3_giftOf 34 = .ok (.getfield 32, 3)) ∧ (decode cX3_giftOf 37 = .ok (.iload_n 1, 1)) := by decide +kernel
theorem dX3_giftOf_20 : decode cX3_giftOf 20 = .ok (.getfield 13, 3) := dX3_giftOf_20_b.1
theorem dX3_giftOf_23 : decode cX3_giftOf 23 = .ok (.isub, 1) := dX3_giftOf_20_b.2.1
theorem dX3_giftOf_24 : decode cX3_giftOf 24 = .ok (.goto 4, 3) := dX3_giftOf_20_b.2.2.1
theorem dX3_giftOf_27 : decode cX3_giftOf 27 = .ok (.iconst 0, 1) := dX3_giftOf_20_b.2.2.2.1
theorem dX3_giftOf_28 : decode cX3_giftOf 28 = .ok (.istore_n 2, 1) := dX3_giftOf_20_b.2.2.2.2.1
theorem dX3_giftOf_29 : decode cX3_giftOf 29 = .ok (.iload_n 2, 1) := dX3_giftOf_20_b.2.2.2.2.2.1
theorem dX3_giftOf_30 : decode cX3_giftOf 30 = .ok (.iconst 2, 1) := dX3_giftOf_20_b.2.2.2.2.2.2.1
theorem dX3_giftOf_31 : decode cX3_giftOf 31 = .ok (.idiv, 1) := dX3_giftOf_20_b.2.2.2.2.2.2.2.1
theorem dX3_giftOf_32 : decode cX3_giftOf 32 = .ok (.istore_n 3, 1) := dX3_giftOf_20_b.2.2.2.2.2.2.2.2.1
theorem dX3_giftOf_33 : decode cX3_giftOf 33 = .ok (.aload_n 0, 1) := dX3_giftOf_20_b.2.2.2.2.2.2.2.2.2.1
theorem dX3_giftOf_34 : decode cX3_giftOf 34 = .ok (.getfield 32, 3) := dX3_giftOf_20_b.2.2.2.2.2.2.2.2.2.2.1
theorem dX3_giftOf_37 : decode cX3_giftOf 37 = .ok (.iload_n 1, 1) := dX3_giftOf_20_b.2.2.2.2.2.2.2.2.2.2.2
theorem dX3_giftOf_38_b : (decode cX3_giftOf 38 = .ok (.iaload, 1)) ∧ (decode cX3_giftOf 39 = .ok (.tableswitch 44 1 4 #[29, 29, 31, 33], 29)) ∧ (decode cX3_giftOf 68 = .ok (.iload_n 2, 1)) ∧ (decode cX3_giftOf 69 = .ok (.ireturn, 1)) ∧ (decode cX3_giftOf 70 = .ok (.iload_n 3, 1)) ∧ (decode cX3_giftOf 71 = .ok (.ireturn, 1)) ∧ (decode cX3_giftOf 72 = .ok (.iload_n 3, 1)) ∧ (decode cX3_giftOf 73 = .ok (.iconst 3, 1)) ∧ (decode cX3_giftOf 74 = .ok (.if_icmp .le 7, 3)) ∧ (decode cX3_giftOf 77 = .ok (.iconst 3, 1)) ∧ (decode cX3_giftOf 78 = .ok (.goto 4, 3)) ∧ (decode cX3_giftOf 81 = .ok (.iload_n 3, 1)) := by decide +kernel
theorem dX3_giftOf_38 : decode cX3_giftOf 38 = .ok (.iaload, 1) := dX3_giftOf_38_b.1
theorem dX3_giftOf_39 : decode cX3_giftOf 39 = .ok (.tableswitch 44 1 4 #[29, 29, 31, 33], 29) := dX3_giftOf_38_b.2.1
theorem dX3_giftOf_68 : decode cX3_giftOf 68 = .ok (.iload_n 2, 1) := dX3_giftOf_38_b.2.2.1
theorem dX3_giftOf_69 : decode cX3_giftOf 69 = .ok (.ireturn, 1) := dX3_giftOf_38_b.2.2.2.1
theorem dX3_giftOf_70 : decode cX3_giftOf 70 = .ok (.iload_n 3, 1) := dX3_giftOf_38_b.2.2.2.2.1
theorem dX3_giftOf_71 : decode cX3_giftOf 71 = .ok (.ireturn, 1) := dX3_giftOf_38_b.2.2.2.2.2.1
theorem dX3_giftOf_72 : decode cX3_giftOf 72 = .ok (.iload_n 3, 1) := dX3_giftOf_38_b.2.2.2.2.2.2.1
theorem dX3_giftOf_73 : decode cX3_giftOf 73 = .ok (.iconst 3, 1) := dX3_giftOf_38_b.2.2.2.2.2.2.2.1
theorem dX3_giftOf_74 : decode cX3_giftOf 74 = .ok (.if_icmp .le 7, 3) := dX3_giftOf_38_b.2.2.2.2.2.2.2.2.1
theorem dX3_giftOf_77 : decode cX3_giftOf 77 = .ok (.iconst 3, 1) := dX3_giftOf_38_b.2.2.2.2.2.2.2.2.2.1
theorem dX3_giftOf_78 : decode cX3_giftOf 78 = .ok (.goto 4, 3) := dX3_giftOf_38_b.2.2.2.2.2.2.2.2.2.2.1
theorem dX3_giftOf_81 : decode cX3_giftOf 81 = .ok (.iload_n 3, 1) := dX3_giftOf_38_b.2.2.2.2.2.2.2.2.2.2.2
theorem dX3_giftOf_82_b : (decode cX3_giftOf 82 = .ok (.ireturn, 1)) ∧ (decode cX3_giftOf 83 = .ok (.iconst 0, 1)) ∧ (decode cX3_giftOf 84 = .ok (.ireturn, 1)) := by decide +kernel
theorem dX3_giftOf_82 : decode cX3_giftOf 82 = .ok (.ireturn, 1) := dX3_giftOf_82_b.1
theorem dX3_giftOf_83 : decode cX3_giftOf 83 = .ok (.iconst 0, 1) := dX3_giftOf_82_b.2.1
theorem dX3_giftOf_84 : decode cX3_giftOf 84 = .ok (.ireturn, 1) := dX3_giftOf_82_b.2.2
theorem dX3_partsOf_0_b : (decode cX3_partsOf 0 = .ok (.iconst 0, 1)) ∧ (decode cX3_partsOf 1 = .ok (.istore_n 3, 1)) ∧ (decode cX3_partsOf 2 = .ok (.iconst 0, 1)) ∧ (decode cX3_partsOf 3 = .ok (.istore 4, 2)) ∧ (decode cX3_partsOf 5 = .ok (.iconst 0, 1)) ∧ (decode cX3_partsOf 6 = .ok (.istore 5, 2)) ∧ (decode cX3_partsOf 8 = .ok (.iload 5, 2)) ∧ (decode cX3_partsOf 10 = .ok (.aload_n 0, 1)) ∧ (decode cX3_partsOf 11 = .ok (.getfield 26, 3)) ∧ (decode cX3_partsOf 14 = .ok (.if_icmp .ge 62, 3)) ∧ (decode cX3_partsOf 17 = .ok (.iload_n 1, 1)) ∧ (decode cX3_partsOf 18 = .ok (.iload 5, 2)) := by decide +kernel
theorem dX3_partsOf_0 : decode cX3_partsOf 0 = .ok (.iconst 0, 1) := dX3_partsOf_0_b.1
theorem dX3_partsOf_1 : decode cX3_partsOf 1 = .ok (.istore_n 3, 1) := dX3_partsOf_0_b.2.1
theorem dX3_partsOf_2 : decode cX3_partsOf 2 = .ok (.iconst 0, 1) := dX3_partsOf_0_b.2.2.1
theorem dX3_partsOf_3 : decode cX3_partsOf 3 = .ok (.istore 4, 2) := dX3_partsOf_0_b.2.2.2.1
theorem dX3_partsOf_5 : decode cX3_partsOf 5 = .ok (.iconst 0, 1) := dX3_partsOf_0_b.2.2.2.2.1
theorem dX3_partsOf_6 : decode cX3_partsOf 6 = .ok (.istore 5, 2) := dX3_partsOf_0_b.2.2.2.2.2.1
theorem dX3_partsOf_8 : decode cX3_partsOf 8 = .ok (.iload 5, 2) := dX3_partsOf_0_b.2.2.2.2.2.2.1
theorem dX3_partsOf_10 : decode cX3_partsOf 10 = .ok (.aload_n 0, 1) := dX3_partsOf_0_b.2.2.2.2.2.2.2.1
theorem dX3_partsOf_11 : decode cX3_partsOf 11 = .ok (.getfield 26, 3) := dX3_partsOf_0_b.2.2.2.2.2.2.2.2.1
theorem dX3_partsOf_14 : decode cX3_partsOf 14 = .ok (.if_icmp .ge 62, 3) := dX3_partsOf_0_b.2.2.2.2.2.2.2.2.2.1
theorem dX3_partsOf_17 : decode cX3_partsOf 17 = .ok (.iload_n 1, 1) := dX3_partsOf_0_b.2.2.2.2.2.2.2.2.2.2.1
theorem dX3_partsOf_18 : decode cX3_partsOf 18 = .ok (.iload 5, 2) := dX3_partsOf_0_b.2.2.2.2.2.2.2.2.2.2.2
theorem dX3_partsOf_20_b : (decode cX3_partsOf 20 = .ok (.invokestatic 92, 3)) ∧ (decode cX3_partsOf 23 = .ok (.ifCond .eq 47, 3)) ∧ (decode cX3_partsOf 26 = .ok (.aload_n 0, 1)) ∧ (decode cX3_partsOf 27 = .ok (.iload 5, 2)) ∧ (decode cX3_partsOf 29 = .ok (.iload_n 2, 1)) ∧ (decode cX3_partsOf 30 = .ok (.invokevirtual 106, 3)) ∧ (decode cX3_partsOf 33 = .ok (.ifCond .eq 37, 3)) ∧ (decode cX3_partsOf 36 = .ok (.aload_n 0, 1)) ∧ (decode cX3_partsOf 37 = .ok (.getfield 32, 3)) ∧ (decode cX3_partsOf 40 = .ok (.iload 5, 2)) ∧ (decode cX3_partsOf 42 = .ok (.iaload, 1)) ∧ (decode cX3_partsOf 43 = .ok (.iconst 2, 1)) := by decide +kernel
theorem dX3_partsOf_20 : decode cX3_partsOf 20 = .ok (.invokestatic 92, 3) := dX3_partsOf_20_b.1
theorem dX3_partsOf_23 : decode cX3_partsOf 23 = .ok (.ifCond .eq 47, 3) := dX3_partsOf_20_b.2.1
theorem dX3_partsOf_26 : decode cX3_partsOf 26 = .ok (.aload_n 0, 1) := dX3_partsOf_20_b.2.2.1
theorem dX3_partsOf_27 : decode cX3_partsOf 27 = .ok (.iload 5, 2) := dX3_partsOf_20_b.2.2.2.1
theorem dX3_partsOf_29 : decode cX3_partsOf 29 = .ok (.iload_n 2, 1) := dX3_partsOf_20_b.2.2.2.2.1
theorem dX3_partsOf_30 : decode cX3_partsOf 30 = .ok (.invokevirtual 106, 3) := dX3_partsOf_20_b.2.2.2.2.2.1
theorem dX3_partsOf_33 : decode cX3_partsOf 33 = .ok (.ifCond .eq 37, 3) := dX3_partsOf_20_b.2.2.2.2.2.2.1
theorem dX3_partsOf_36 : decode cX3_partsOf 36 = .ok (.aload_n 0, 1) := dX3_partsOf_20_b.2.2.2.2.2.2.2.1
theorem dX3_partsOf_37 : decode cX3_partsOf 37 = .ok (.getfield 32, 3) := dX3_partsOf_20_b.2.2.2.2.2.2.2.2.1
theorem dX3_partsOf_40 : decode cX3_partsOf 40 = .ok (.iload 5, 2) := dX3_partsOf_20_b.2.2.2.2.2.2.2.2.2.1
theorem dX3_partsOf_42 : decode cX3_partsOf 42 = .ok (.iaload, 1) := dX3_partsOf_20_b.2.2.2.2.2.2.2.2.2.2.1
theorem dX3_partsOf_43 : decode cX3_partsOf 43 = .ok (.iconst 2, 1) := dX3_partsOf_20_b.2.2.2.2.2.2.2.2.2.2.2
theorem dX3_partsOf_44_b : (decode cX3_partsOf 44 = .ok (.if_icmp .ne 15, 3)) ∧ (decode cX3_partsOf 47 = .ok (.iload_n 3, 1)) ∧ (decode cX3_partsOf 48 = .ok (.aload_n 0, 1)) ∧ (decode cX3_partsOf 49 = .ok (.iload 5, 2)) ∧ (decode cX3_partsOf 51 = .ok (.invokevirtual 114, 3)) ∧ (decode cX3_partsOf 54 = .ok (.iadd, 1)) ∧ (decode cX3_partsOf 55 = .ok (.istore_n 3, 1)) ∧ (decode cX3_partsOf 56 = .ok (.goto 14, 3)) ∧ (decode cX3_partsOf 59 = .ok (.iload 4, 2)) ∧ (decode cX3_partsOf 61 = .ok (.aload_n 0, 1)) ∧ (decode cX3_partsOf 62 = .ok (.iload 5, 2)) ∧ (decode cX3_partsOf 64 = .ok (.invokevirtual 114, 3)) := by decide +kernel
theorem dX3_partsOf_44 : decode cX3_partsOf 44 = .ok (.if_icmp .ne 15, 3) := dX3_partsOf_44_b.1
theorem dX3_partsOf_47 : decode cX3_partsOf 47 = .ok (.iload_n 3, 1) := dX3_partsOf_44_b.2.1
theorem dX3_partsOf_48 : decode cX3_partsOf 48 = .ok (.aload_n 0, 1) := dX3_partsOf_44_b.2.2.1
theorem dX3_partsOf_49 : decode cX3_partsOf 49 = .ok (.iload 5, 2) := dX3_partsOf_44_b.2.2.2.1
theorem dX3_partsOf_51 : decode cX3_partsOf 51 = .ok (.invokevirtual 114, 3) := dX3_partsOf_44_b.2.2.2.2.1
theorem dX3_partsOf_54 : decode cX3_partsOf 54 = .ok (.iadd, 1) := dX3_partsOf_44_b.2.2.2.2.2.1
theorem dX3_partsOf_55 : decode cX3_partsOf 55 = .ok (.istore_n 3, 1) := dX3_partsOf_44_b.2.2.2.2.2.2.1
theorem dX3_partsOf_56 : decode cX3_partsOf 56 = .ok (.goto 14, 3) := dX3_partsOf_44_b.2.2.2.2.2.2.2.1
theorem dX3_partsOf_59 : decode cX3_partsOf 59 = .ok (.iload 4, 2) := dX3_partsOf_44_b.2.2.2.2.2.2.2.2.1
theorem dX3_partsOf_61 : decode cX3_partsOf 61 = .ok (.aload_n 0, 1) := dX3_partsOf_44_b.2.2.2.2.2.2.2.2.2.1
theorem dX3_partsOf_62 : decode cX3_partsOf 62 = .ok (.iload 5, 2) := dX3_partsOf_44_b.2.2.2.2.2.2.2.2.2.2.1
theorem dX3_partsOf_64 : decode cX3_partsOf 64 = .ok (.invokevirtual 114, 3) := dX3_partsOf_44_b.2.2.2.2.2.2.2.2.2.2.2
theorem dX3_partsOf_67_b : (decode cX3_partsOf 67 = .ok (.iadd, 1)) ∧ (decode cX3_partsOf 68 = .ok (.istore 4, 2)) ∧ (decode cX3_partsOf 70 = .ok (.iinc 5 1, 3)) ∧ (decode cX3_partsOf 73 = .ok (.goto (-65), 3)) ∧ (decode cX3_partsOf 76 = .ok (.iload 4, 2)) ∧ (decode cX3_partsOf 78 = .ok (.bipush 12, 2)) ∧ (decode cX3_partsOf 80 = .ok (.if_icmp .lt 8, 3)) ∧ (decode cX3_partsOf 83 = .ok (.iload 4, 2)) ∧ (decode cX3_partsOf 85 = .ok (.goto 7, 3)) ∧ (decode cX3_partsOf 88 = .ok (.iload 4, 2)) ∧ (decode cX3_partsOf 90 = .ok (.iload_n 3, 1)) ∧ (decode cX3_partsOf 91 = .ok (.iadd, 1)) := by decide +kernel
theorem dX3_partsOf_67 : decode cX3_partsOf 67 = .ok (.iadd, 1) := dX3_partsOf_67_b.1
theorem dX3_partsOf_68 : decode cX3_partsOf 68 = .ok (.istore 4, 2) := dX3_partsOf_67_b.2.1
theorem dX3_partsOf_70 : decode cX3_partsOf 70 = .ok (.iinc 5 1, 3) := dX3_partsOf_67_b.2.2.1
theorem dX3_partsOf_73 : decode cX3_partsOf 73 = .ok (.goto (-65), 3) := dX3_partsOf_67_b.2.2.2.1
theorem dX3_partsOf_76 : decode cX3_partsOf 76 = .ok (.iload 4, 2) := dX3_partsOf_67_b.2.2.2.2.1
theorem dX3_partsOf_78 : decode cX3_partsOf 78 = .ok (.bipush 12, 2) := dX3_partsOf_67_b.2.2.2.2.2.1
theorem dX3_partsOf_80 : decode cX3_partsOf 80 = .ok (.if_icmp .lt 8, 3) := dX3_partsOf_67_b.2.2.2.2.2.2.1
theorem dX3_partsOf_83 : decode cX3_partsOf 83 = .ok (.iload 4, 2) := dX3_partsOf_67_b.2.2.2.2.2.2.2.1
theorem dX3_partsOf_85 : decode cX3_partsOf 85 = .ok (.goto 7, 3) := dX3_partsOf_67_b.2.2.2.2.2.2.2.2.1
theorem dX3_partsOf_88 : decode cX3_partsOf 88 = .ok (.iload 4, 2) := dX3_partsOf_67_b.2.2.2.2.2.2.2.2.2.1
theorem dX3_partsOf_90 : decode cX3_partsOf 90 = .ok (.iload_n 3, 1) := dX3_partsOf_67_b.2.2.2.2.2.2.2.2.2.2.1
theorem dX3_partsOf_91 : decode cX3_partsOf 91 = .ok (.iadd, 1) := dX3_partsOf_67_b.2.2.2.2.2.2.2.2.2.2.2
theorem dX3_partsOf_92 : decode cX3_partsOf 92 = .ok (.ireturn, 1) := by decide +kernel
theorem dX3_widowers_0_b : (decode cX3_widowers 0 = .ok (.iconst 0, 1)) ∧ (decode cX3_widowers 1 = .ok (.istore_n 1, 1)) ∧ (decode cX3_widowers 2 = .ok (.iconst 0, 1)) ∧ (decode cX3_widowers 3 = .ok (.istore_n 2, 1)) ∧ (decode cX3_widowers 4 = .ok (.iload_n 2, 1)) ∧ (decode cX3_widowers 5 = .ok (.aload_n 0, 1)) ∧ (decode cX3_widowers 6 = .ok (.getfield 26, 3)) ∧ (decode cX3_widowers 9 = .ok (.if_icmp .ge 25, 3)) ∧ (decode cX3_widowers 12 = .ok (.aload_n 0, 1)) ∧ (decode cX3_widowers 13 = .ok (.getfield 32, 3)) ∧ (decode cX3_widowers 16 = .ok (.iload_n 2, 1)) ∧ (decode cX3_widowers 17 = .ok (.iaload, 1)) := by decide +kernel
theorem dX3_widowers_0 : decode cX3_widowers 0 = .ok (.iconst 0, 1) := dX3_widowers_0_b.1
theorem dX3_widowers_1 : decode cX3_widowers 1 = .ok (.istore_n 1, 1) := dX3_widowers_0_b.2.1
theorem dX3_widowers_2 : decode cX3_widowers 2 = .ok (.iconst 0, 1) := dX3_widowers_0_b.2.2.1
theorem dX3_widowers_3 : decode cX3_widowers 3 = .ok (.istore_n 2, 1) := dX3_widowers_0_b.2.2.2.1
theorem dX3_widowers_4 : decode cX3_widowers 4 = .ok (.iload_n 2, 1) := dX3_widowers_0_b.2.2.2.2.1
theorem dX3_widowers_5 : decode cX3_widowers 5 = .ok (.aload_n 0, 1) := dX3_widowers_0_b.2.2.2.2.2.1
theorem dX3_widowers_6 : decode cX3_widowers 6 = .ok (.getfield 26, 3) := dX3_widowers_0_b.2.2.2.2.2.2.1
theorem dX3_widowers_9 : decode cX3_widowers 9 = .ok (.if_icmp .ge 25, 3) := dX3_widowers_0_b.2.2.2.2.2.2.2.1
theorem dX3_widowers_12 : decode cX3_widowers 12 = .ok (.aload_n 0, 1) := dX3_widowers_0_b.2.2.2.2.2.2.2.2.1
theorem dX3_widowers_13 : decode cX3_widowers 13 = .ok (.getfield 32, 3) := dX3_widowers_0_b.2.2.2.2.2.2.2.2.2.1
theorem dX3_widowers_16 : decode cX3_widowers 16 = .ok (.iload_n 2, 1) := dX3_widowers_0_b.2.2.2.2.2.2.2.2.2.2.1
theorem dX3_widowers_17 : decode cX3_widowers 17 = .ok (.iaload, 1) := dX3_widowers_0_b.2.2.2.2.2.2.2.2.2.2.2
theorem dX3_widowers_18_b : (decode cX3_widowers 18 = .ok (.iconst 2, 1)) ∧ (decode cX3_widowers 19 = .ok (.if_icmp .ne 9, 3)) ∧ (decode cX3_widowers 22 = .ok (.iload_n 1, 1)) ∧ (decode cX3_widowers 23 = .ok (.iconst 1, 1)) ∧ (decode cX3_widowers 24 = .ok (.iload_n 2, 1)) ∧ (decode cX3_widowers 25 = .ok (.ishl, 1)) ∧ (decode cX3_widowers 26 = .ok (.ior, 1)) ∧ (decode cX3_widowers 27 = .ok (.istore_n 1, 1)) ∧ (decode cX3_widowers 28 = .ok (.iinc 2 1, 3)) ∧ (decode cX3_widowers 31 = .ok (.goto (-27), 3)) ∧ (decode cX3_widowers 34 = .ok (.iload_n 1, 1)) ∧ (decode cX3_widowers 35 = .ok (.ireturn, 1)) := by decide +kernel
theorem dX3_widowers_18 : decode cX3_widowers 18 = .ok (.iconst 2, 1) := dX3_widowers_18_b.1
theorem dX3_widowers_19 : decode cX3_widowers 19 = .ok (.if_icmp .ne 9, 3) := dX3_widowers_18_b.2.1
theorem dX3_widowers_22 : decode cX3_widowers 22 = .ok (.iload_n 1, 1) := dX3_widowers_18_b.2.2.1
theorem dX3_widowers_23 : decode cX3_widowers 23 = .ok (.iconst 1, 1) := dX3_widowers_18_b.2.2.2.1
theorem dX3_widowers_24 : decode cX3_widowers 24 = .ok (.iload_n 2, 1) := dX3_widowers_18_b.2.2.2.2.1
theorem dX3_widowers_25 : decode cX3_widowers 25 = .ok (.ishl, 1) := dX3_widowers_18_b.2.2.2.2.2.1
theorem dX3_widowers_26 : decode cX3_widowers 26 = .ok (.ior, 1) := dX3_widowers_18_b.2.2.2.2.2.2.1
theorem dX3_widowers_27 : decode cX3_widowers 27 = .ok (.istore_n 1, 1) := dX3_widowers_18_b.2.2.2.2.2.2.2.1
theorem dX3_widowers_28 : decode cX3_widowers 28 = .ok (.iinc 2 1, 3) := dX3_widowers_18_b.2.2.2.2.2.2.2.2.1
theorem dX3_widowers_31 : decode cX3_widowers 31 = .ok (.goto (-27), 3) := dX3_widowers_18_b.2.2.2.2.2.2.2.2.2.1
theorem dX3_widowers_34 : decode cX3_widowers 34 = .ok (.iload_n 1, 1) := dX3_widowers_18_b.2.2.2.2.2.2.2.2.2.2.1
theorem dX3_widowers_35 : decode cX3_widowers 35 = .ok (.ireturn, 1) := dX3_widowers_18_b.2.2.2.2.2.2.2.2.2.2.2
theorem dX3_areWidowersSilenced_0_b : (decode cX3_areWidowersSilenced 0 = .ok (.aload_n 0, 1)) ∧ (decode cX3_areWidowersSilenced 1 = .ok (.aload_n 0, 1)) ∧ (decode cX3_areWidowersSilenced 2 = .ok (.invokevirtual 103, 3)) ∧ (decode cX3_areWidowersSilenced 5 = .ok (.aload_n 0, 1)) ∧ (decode cX3_areWidowersSilenced 6 = .ok (.invokevirtual 118, 3)) ∧ (decode cX3_areWidowersSilenced 9 = .ok (.iconst (-1), 1)) ∧ (decode cX3_areWidowersSilenced 10 = .ok (.ixor, 1)) ∧ (decode cX3_areWidowersSilenced 11 = .ok (.iand, 1)) ∧ (decode cX3_areWidowersSilenced 12 = .ok (.aload_n 0, 1)) ∧ (decode cX3_areWidowersSilenced 13 = .ok (.getfield 17, 3)) ∧ (decode cX3_areWidowersSilenced 16 = .ok (.invokevirtual 121, 3)) ∧ (decode cX3_areWidowersSilenced 19 = .ok (.bipush 12, 2)) := by decide +kernel
theorem dX3_areWidowersSilenced_0 : decode cX3_areWidowersSilenced 0 = .ok (.aload_n 0, 1) := dX3_areWidowersSilenced_0_b.1
theorem dX3_areWidowersSilenced_1 : decode cX3_areWidowersSilenced 1 = .ok (.aload_n 0, 1) := dX3_areWidowersSilenced_0_b.2.1
theorem dX3_areWidowersSilenced_2 : decode cX3_areWidowersSilenced 2 = .ok (.invokevirtual 103, 3) := dX3_areWidowersSilenced_0_b.2.2.1
theorem dX3_areWidowersSilenced_5 : decode cX3_areWidowersSilenced 5 = .ok (.aload_n 0, 1) := dX3_areWidowersSilenced_0_b.2.2.2.1
theorem dX3_areWidowersSilenced_6 : decode cX3_areWidowersSilenced 6 = .ok (.invokevirtual 118, 3) := dX3_areWidowersSilenced_0_b.2.2.2.2.1
theorem dX3_areWidowersSilenced_9 : decode cX3_areWidowersSilenced 9 = .ok (.iconst (-1), 1) := dX3_areWidowersSilenced_0_b.2.2.2.2.2.1
theorem dX3_areWidowersSilenced_10 : decode cX3_areWidowersSilenced 10 = .ok (.ixor, 1) := dX3_areWidowersSilenced_0_b.2.2.2.2.2.2.1
theorem dX3_areWidowersSilenced_11 : decode cX3_areWidowersSilenced 11 = .ok (.iand, 1) := dX3_areWidowersSilenced_0_b.2.2.2.2.2.2.2.1
theorem dX3_areWidowersSilenced_12 : decode cX3_areWidowersSilenced 12 = .ok (.aload_n 0, 1) := dX3_areWidowersSilenced_0_b.2.2.2.2.2.2.2.2.1
theorem dX3_areWidowersSilenced_13 : decode cX3_areWidowersSilenced 13 = .ok (.getfield 17, 3) := dX3_areWidowersSilenced_0_b.2.2.2.2.2.2.2.2.2.1
theorem dX3_areWidowersSilenced_16 : decode cX3_areWidowersSilenced 16 = .ok (.invokevirtual 121, 3) := dX3_areWidowersSilenced_0_b.2.2.2.2.2.2.2.2.2.2.1
theorem dX3_areWidowersSilenced_19 : decode cX3_areWidowersSilenced 19 = .ok (.bipush 12, 2) := dX3_areWidowersSilenced_0_b.2.2.2.2.2.2.2.2.2.2.2
theorem dX3_areWidowersSilenced_21_b : (decode cX3_areWidowersSilenced 21 = .ok (.if_icmp .lt 7, 3)) ∧ (decode cX3_areWidowersSilenced 24 = .ok (.iconst 1, 1)) ∧ (decode cX3_areWidowersSilenced 25 = .ok (.goto 4, 3)) ∧ (decode cX3_areWidowersSilenced 28 = .ok (.iconst 0, 1)) ∧ (decode cX3_areWidowersSilenced 29 = .ok (.ireturn, 1)) := by decide +kernel
theorem dX3_areWidowersSilenced_21 : decode cX3_areWidowersSilenced 21 = .ok (.if_icmp .lt 7, 3) := dX3_areWidowersSilenced_21_b.1
theorem dX3_areWidowersSilenced_24 : decode cX3_areWidowersSilenced 24 = .ok (.iconst 1, 1) := dX3_areWidowersSilenced_21_b.2.1
theorem dX3_areWidowersSilenced_25 : decode cX3_areWidowersSilenced 25 = .ok (.goto 4, 3) := dX3_areWidowersSilenced_21_b.2.2.1
theorem dX3_areWidowersSilenced_28 : decode cX3_areWidowersSilenced 28 = .ok (.iconst 0, 1) := dX3_areWidowersSilenced_21_b.2.2.2.1
theorem dX3_areWidowersSilenced_29 : decode cX3_areWidowersSilenced 29 = .ok (.ireturn, 1) := dX3_areWidowersSilenced_21_b.2.2.2.2
theorem dX3_givesNow_0_b : (decode cX3_givesNow 0 = .ok (.aload_n 0, 1)) ∧ (decode cX3_givesNow 1 = .ok (.iload_n 1, 1)) ∧ (decode cX3_givesNow 2 = .ok (.invokevirtual 109, 3)) ∧ (decode cX3_givesNow 5 = .ok (.ifCond .ne 5, 3)) ∧ (decode cX3_givesNow 8 = .ok (.iconst 0, 1)) ∧ (decode cX3_givesNow 9 = .ok (.ireturn, 1)) ∧ (decode cX3_givesNow 10 = .ok (.aload_n 0, 1)) ∧ (decode cX3_givesNow 11 = .ok (.getfield 32, 3)) ∧ (decode cX3_givesNow 14 = .ok (.iload_n 1, 1)) ∧ (decode cX3_givesNow 15 = .ok (.iaload, 1)) ∧ (decode cX3_givesNow 16 = .ok (.iconst 2, 1)) ∧ (decode cX3_givesNow 17 = .ok (.if_icmp .ne 12, 3)) := by decide +kernel
theorem dX3_givesNow_0 : decode cX3_givesNow 0 = .ok (.aload_n 0, 1) := dX3_givesNow_0_b.1
theorem dX3_givesNow_1 : decode cX3_givesNow 1 = .ok (.iload_n 1, 1) := dX3_givesNow_0_b.2.1
theorem dX3_givesNow_2 : decode cX3_givesNow 2 = .ok (.invokevirtual 109, 3) := dX3_givesNow_0_b.2.2.1
theorem dX3_givesNow_5 : decode cX3_givesNow 5 = .ok (.ifCond .ne 5, 3) := dX3_givesNow_0_b.2.2.2.1
theorem dX3_givesNow_8 : decode cX3_givesNow 8 = .ok (.iconst 0, 1) := dX3_givesNow_0_b.2.2.2.2.1
theorem dX3_givesNow_9 : decode cX3_givesNow 9 = .ok (.ireturn, 1) := dX3_givesNow_0_b.2.2.2.2.2.1
theorem dX3_givesNow_10 : decode cX3_givesNow 10 = .ok (.aload_n 0, 1) := dX3_givesNow_0_b.2.2.2.2.2.2.1
theorem dX3_givesNow_11 : decode cX3_givesNow 11 = .ok (.getfield 32, 3) := dX3_givesNow_0_b.2.2.2.2.2.2.2.1
theorem dX3_givesNow_14 : decode cX3_givesNow 14 = .ok (.iload_n 1, 1) := dX3_givesNow_0_b.2.2.2.2.2.2.2.2.1
theorem dX3_givesNow_15 : decode cX3_givesNow 15 = .ok (.iaload, 1) := dX3_givesNow_0_b.2.2.2.2.2.2.2.2.2.1
theorem dX3_givesNow_16 : decode cX3_givesNow 16 = .ok (.iconst 2, 1) := dX3_givesNow_0_b.2.2.2.2.2.2.2.2.2.2.1
theorem dX3_givesNow_17 : decode cX3_givesNow 17 = .ok (.if_icmp .ne 12, 3) := dX3_givesNow_0_b.2.2.2.2.2.2.2.2.2.2.2
theorem dX3_givesNow_20_b : (decode cX3_givesNow 20 = .ok (.aload_n 0, 1)) ∧ (decode cX3_givesNow 21 = .ok (.invokevirtual 124, 3)) ∧ (decode cX3_givesNow 24 = .ok (.ifCond .eq 5, 3)) ∧ (decode cX3_givesNow 27 = .ok (.iconst 0, 1)) ∧ (decode cX3_givesNow 28 = .ok (.ireturn, 1)) ∧ (decode cX3_givesNow 29 = .ok (.aload_n 0, 1)) ∧ (decode cX3_givesNow 30 = .ok (.iload_n 1, 1)) ∧ (decode cX3_givesNow 31 = .ok (.invokevirtual 114, 3)) ∧ (decode cX3_givesNow 34 = .ok (.ireturn, 1)) := by decide +kernel
theorem dX3_givesNow_20 : decode cX3_givesNow 20 = .ok (.aload_n 0, 1) := dX3_givesNow_20_b.1
theorem dX3_givesNow_21 : decode cX3_givesNow 21 = .ok (.invokevirtual 124, 3) := dX3_givesNow_20_b.2.1
theorem dX3_givesNow_24 : decode cX3_givesNow 24 = .ok (.ifCond .eq 5, 3) := dX3_givesNow_20_b.2.2.1
theorem dX3_givesNow_27 : decode cX3_givesNow 27 = .ok (.iconst 0, 1) := dX3_givesNow_20_b.2.2.2.1
theorem dX3_givesNow_28 : decode cX3_givesNow 28 = .ok (.ireturn, 1) := dX3_givesNow_20_b.2.2.2.2.1
theorem dX3_givesNow_29 : decode cX3_givesNow 29 = .ok (.aload_n 0, 1) := dX3_givesNow_20_b.2.2.2.2.2.1
theorem dX3_givesNow_30 : decode cX3_givesNow 30 = .ok (.iload_n 1, 1) := dX3_givesNow_20_b.2.2.2.2.2.2.1
theorem dX3_givesNow_31 : decode cX3_givesNow 31 = .ok (.invokevirtual 114, 3) := dX3_givesNow_20_b.2.2.2.2.2.2.2.1
theorem dX3_givesNow_34 : decode cX3_givesNow 34 = .ok (.ireturn, 1) := dX3_givesNow_20_b.2.2.2.2.2.2.2.2
theorem dX3_passQuarter_0_b : (decode cX3_passQuarter 0 = .ok (.aload_n 0, 1)) ∧ (decode cX3_passQuarter 1 = .ok (.getfield 17, 3)) ∧ (decode cX3_passQuarter 4 = .ok (.sipush 999, 3)) ∧ (decode cX3_passQuarter 7 = .ok (.if_icmp .lt 4, 3)) ∧ (decode cX3_passQuarter 10 = .ok (.return_, 1)) ∧ (decode cX3_passQuarter 11 = .ok (.aload_n 0, 1)) ∧ (decode cX3_passQuarter 12 = .ok (.aload_n 0, 1)) ∧ (decode cX3_passQuarter 13 = .ok (.invokevirtual 103, 3)) ∧ (decode cX3_passQuarter 16 = .ok (.aload_n 0, 1)) ∧ (decode cX3_passQuarter 17 = .ok (.getfield 17, 3)) ∧ (decode cX3_passQuarter 20 = .ok (.invokevirtual 121, 3)) ∧ (decode cX3_passQuarter 23 = .ok (.istore_n 1, 1)) := by decide +kernel
theorem dX3_passQuarter_0 : decode cX3_passQuarter 0 = .ok (.aload_n 0, 1) := dX3_passQuarter_0_b.1
theorem dX3_passQuarter_1 : decode cX3_passQuarter 1 = .ok (.getfield 17, 3) := dX3_passQuarter_0_b.2.1
theorem dX3_passQuarter_4 : decode cX3_passQuarter 4 = .ok (.sipush 999, 3) := dX3_passQuarter_0_b.2.2.1
theorem dX3_passQuarter_7 : decode cX3_passQuarter 7 = .ok (.if_icmp .lt 4, 3) := dX3_passQuarter_0_b.2.2.2.1
theorem dX3_passQuarter_10 : decode cX3_passQuarter 10 = .ok (.return_, 1) := dX3_passQuarter_0_b.2.2.2.2.1
theorem dX3_passQuarter_11 : decode cX3_passQuarter 11 = .ok (.aload_n 0, 1) := dX3_passQuarter_0_b.2.2.2.2.2.1
theorem dX3_passQuarter_12 : decode cX3_passQuarter 12 = .ok (.aload_n 0, 1) := dX3_passQuarter_0_b.2.2.2.2.2.2.1
theorem dX3_passQuarter_13 : decode cX3_passQuarter 13 = .ok (.invokevirtual 103, 3) := dX3_passQuarter_0_b.2.2.2.2.2.2.2.1
theorem dX3_passQuarter_16 : decode cX3_passQuarter 16 = .ok (.aload_n 0, 1) := dX3_passQuarter_0_b.2.2.2.2.2.2.2.2.1
theorem dX3_passQuarter_17 : decode cX3_passQuarter 17 = .ok (.getfield 17, 3) := dX3_passQuarter_0_b.2.2.2.2.2.2.2.2.2.1
theorem dX3_passQuarter_20 : decode cX3_passQuarter 20 = .ok (.invokevirtual 121, 3) := dX3_passQuarter_0_b.2.2.2.2.2.2.2.2.2.2.1
theorem dX3_passQuarter_23 : decode cX3_passQuarter 23 = .ok (.istore_n 1, 1) := dX3_passQuarter_0_b.2.2.2.2.2.2.2.2.2.2.2
theorem dX3_passQuarter_24_b : (decode cX3_passQuarter 24 = .ok (.aload_n 0, 1)) ∧ (decode cX3_passQuarter 25 = .ok (.iload_n 1, 1)) ∧ (decode cX3_passQuarter 26 = .ok (.bipush 12, 2)) ∧ (decode cX3_passQuarter 28 = .ok (.invokevirtual 128, 3)) ∧ (decode cX3_passQuarter 31 = .ok (.aload_n 0, 1)) ∧ (decode cX3_passQuarter 32 = .ok (.dup, 1)) ∧ (decode cX3_passQuarter 33 = .ok (.getfield 20, 3)) ∧ (decode cX3_passQuarter 36 = .ok (.iload_n 1, 1)) ∧ (decode cX3_passQuarter 37 = .ok (.iadd, 1)) ∧ (decode cX3_passQuarter 38 = .ok (.putfield 20, 3)) ∧ (decode cX3_passQuarter 41 = .ok (.aload_n 0, 1)) ∧ (decode cX3_passQuarter 42 = .ok (.dup, 1)) := by decide +kernel
theorem dX3_passQuarter_24 : decode cX3_passQuarter 24 = .ok (.aload_n 0, 1) := dX3_passQuarter_24_b.1
theorem dX3_passQuarter_25 : decode cX3_passQuarter 25 = .ok (.iload_n 1, 1) := dX3_passQuarter_24_b.2.1
theorem dX3_passQuarter_26 : decode cX3_passQuarter 26 = .ok (.bipush 12, 2) := dX3_passQuarter_24_b.2.2.1
theorem dX3_passQuarter_28 : decode cX3_passQuarter 28 = .ok (.invokevirtual 128, 3) := dX3_passQuarter_24_b.2.2.2.1
theorem dX3_passQuarter_31 : decode cX3_passQuarter 31 = .ok (.aload_n 0, 1) := dX3_passQuarter_24_b.2.2.2.2.1
theorem dX3_passQuarter_32 : decode cX3_passQuarter 32 = .ok (.dup, 1) := dX3_passQuarter_24_b.2.2.2.2.2.1
theorem dX3_passQuarter_33 : decode cX3_passQuarter 33 = .ok (.getfield 20, 3) := dX3_passQuarter_24_b.2.2.2.2.2.2.1
theorem dX3_passQuarter_36 : decode cX3_passQuarter 36 = .ok (.iload_n 1, 1) := dX3_passQuarter_24_b.2.2.2.2.2.2.2.1
theorem dX3_passQuarter_37 : decode cX3_passQuarter 37 = .ok (.iadd, 1) := dX3_passQuarter_24_b.2.2.2.2.2.2.2.2.1
theorem dX3_passQuarter_38 : decode cX3_passQuarter 38 = .ok (.putfield 20, 3) := dX3_passQuarter_24_b.2.2.2.2.2.2.2.2.2.1
theorem dX3_passQuarter_41 : decode cX3_passQuarter 41 = .ok (.aload_n 0, 1) := dX3_passQuarter_24_b.2.2.2.2.2.2.2.2.2.2.1
theorem dX3_passQuarter_42 : decode cX3_passQuarter 42 = .ok (.dup, 1) := dX3_passQuarter_24_b.2.2.2.2.2.2.2.2.2.2.2
theorem dX3_passQuarter_43_b : (decode cX3_passQuarter 43 = .ok (.getfield 17, 3)) ∧ (decode cX3_passQuarter 46 = .ok (.iconst 1, 1)) ∧ (decode cX3_passQuarter 47 = .ok (.iadd, 1)) ∧ (decode cX3_passQuarter 48 = .ok (.putfield 17, 3)) ∧ (decode cX3_passQuarter 51 = .ok (.aload_n 0, 1)) ∧ (decode cX3_passQuarter 52 = .ok (.getfield 60, 3)) ∧ (decode cX3_passQuarter 55 = .ok (.aload_n 0, 1)) ∧ (decode cX3_passQuarter 56 = .ok (.getfield 17, 3)) ∧ (decode cX3_passQuarter 59 = .ok (.aload_n 0, 1)) ∧ (decode cX3_passQuarter 60 = .ok (.getfield 20, 3)) ∧ (decode cX3_passQuarter 63 = .ok (.iastore, 1)) ∧ (decode cX3_passQuarter 64 = .ok (.return_, 1)) := by decide +kernel
theorem dX3_passQuarter_43 : decode cX3_passQuarter 43 = .ok (.getfield 17, 3) := dX3_passQuarter_43_b.1
theorem dX3_passQuarter_46 : decode cX3_passQuarter 46 = .ok (.iconst 1, 1) := dX3_passQuarter_43_b.2.1
theorem dX3_passQuarter_47 : decode cX3_passQuarter 47 = .ok (.iadd, 1) := dX3_passQuarter_43_b.2.2.1
theorem dX3_passQuarter_48 : decode cX3_passQuarter 48 = .ok (.putfield 17, 3) := dX3_passQuarter_43_b.2.2.2.1
theorem dX3_passQuarter_51 : decode cX3_passQuarter 51 = .ok (.aload_n 0, 1) := dX3_passQuarter_43_b.2.2.2.2.1
theorem dX3_passQuarter_52 : decode cX3_passQuarter 52 = .ok (.getfield 60, 3) := dX3_passQuarter_43_b.2.2.2.2.2.1
theorem dX3_passQuarter_55 : decode cX3_passQuarter 55 = .ok (.aload_n 0, 1) := dX3_passQuarter_43_b.2.2.2.2.2.2.1
theorem dX3_passQuarter_56 : decode cX3_passQuarter 56 = .ok (.getfield 17, 3) := dX3_passQuarter_43_b.2.2.2.2.2.2.2.1
theorem dX3_passQuarter_59 : decode cX3_passQuarter 59 = .ok (.aload_n 0, 1) := dX3_passQuarter_43_b.2.2.2.2.2.2.2.2.1
theorem dX3_passQuarter_60 : decode cX3_passQuarter 60 = .ok (.getfield 20, 3) := dX3_passQuarter_43_b.2.2.2.2.2.2.2.2.2.1
theorem dX3_passQuarter_63 : decode cX3_passQuarter 63 = .ok (.iastore, 1) := dX3_passQuarter_43_b.2.2.2.2.2.2.2.2.2.2.1
theorem dX3_passQuarter_64 : decode cX3_passQuarter 64 = .ok (.return_, 1) := dX3_passQuarter_43_b.2.2.2.2.2.2.2.2.2.2.2
theorem dX3_takeQuarterBack_0_b : (decode cX3_takeQuarterBack 0 = .ok (.aload_n 0, 1)) ∧ (decode cX3_takeQuarterBack 1 = .ok (.getfield 17, 3)) ∧ (decode cX3_takeQuarterBack 4 = .ok (.ifCond .gt 4, 3)) ∧ (decode cX3_takeQuarterBack 7 = .ok (.return_, 1)) ∧ (decode cX3_takeQuarterBack 8 = .ok (.aload_n 0, 1)) ∧ (decode cX3_takeQuarterBack 9 = .ok (.dup, 1)) ∧ (decode cX3_takeQuarterBack 10 = .ok (.getfield 17, 3)) ∧ (decode cX3_takeQuarterBack 13 = .ok (.iconst 1, 1)) ∧ (decode cX3_takeQuarterBack 14 = .ok (.isub, 1)) ∧ (decode cX3_takeQuarterBack 15 = .ok (.putfield 17, 3)) ∧ (decode cX3_takeQuarterBack 18 = .ok (.aload_n 0, 1)) ∧ (decode cX3_takeQuarterBack 19 = .ok (.aload_n 0, 1)) := by decide +kernel
theorem dX3_takeQuarterBack_0 : decode cX3_takeQuarterBack 0 = .ok (.aload_n 0, 1) := dX3_takeQuarterBack_0_b.1
theorem dX3_takeQuarterBack_1 : decode cX3_takeQuarterBack 1 = .ok (.getfield 17, 3) := dX3_takeQuarterBack_0_b.2.1
theorem dX3_takeQuarterBack_4 : decode cX3_takeQuarterBack 4 = .ok (.ifCond .gt 4, 3) := dX3_takeQuarterBack_0_b.2.2.1
theorem dX3_takeQuarterBack_7 : decode cX3_takeQuarterBack 7 = .ok (.return_, 1) := dX3_takeQuarterBack_0_b.2.2.2.1
theorem dX3_takeQuarterBack_8 : decode cX3_takeQuarterBack 8 = .ok (.aload_n 0, 1) := dX3_takeQuarterBack_0_b.2.2.2.2.1
theorem dX3_takeQuarterBack_9 : decode cX3_takeQuarterBack 9 = .ok (.dup, 1) := dX3_takeQuarterBack_0_b.2.2.2.2.2.1
theorem dX3_takeQuarterBack_10 : decode cX3_takeQuarterBack 10 = .ok (.getfield 17, 3) := dX3_takeQuarterBack_0_b.2.2.2.2.2.2.1
theorem dX3_takeQuarterBack_13 : decode cX3_takeQuarterBack 13 = .ok (.iconst 1, 1) := dX3_takeQuarterBack_0_b.2.2.2.2.2.2.2.1
theorem dX3_takeQuarterBack_14 : decode cX3_takeQuarterBack 14 = .ok (.isub, 1) := dX3_takeQuarterBack_0_b.2.2.2.2.2.2.2.2.1
theorem dX3_takeQuarterBack_15 : decode cX3_takeQuarterBack 15 = .ok (.putfield 17, 3) := dX3_takeQuarterBack_0_b.2.2.2.2.2.2.2.2.2.1
theorem dX3_takeQuarterBack_18 : decode cX3_takeQuarterBack 18 = .ok (.aload_n 0, 1) := dX3_takeQuarterBack_0_b.2.2.2.2.2.2.2.2.2.2.1
theorem dX3_takeQuarterBack_19 : decode cX3_takeQuarterBack 19 = .ok (.aload_n 0, 1) := dX3_takeQuarterBack_0_b.2.2.2.2.2.2.2.2.2.2.2
theorem dX3_takeQuarterBack_20_b : (decode cX3_takeQuarterBack 20 = .ok (.getfield 60, 3)) ∧ (decode cX3_takeQuarterBack 23 = .ok (.aload_n 0, 1)) ∧ (decode cX3_takeQuarterBack 24 = .ok (.getfield 17, 3)) ∧ (decode cX3_takeQuarterBack 27 = .ok (.iaload, 1)) ∧ (decode cX3_takeQuarterBack 28 = .ok (.aload_n 0, 1)) ∧ (decode cX3_takeQuarterBack 29 = .ok (.getfield 20, 3)) ∧ (decode cX3_takeQuarterBack 32 = .ok (.isub, 1)) ∧ (decode cX3_takeQuarterBack 33 = .ok (.bipush (-12), 2)) ∧ (decode cX3_takeQuarterBack 35 = .ok (.invokevirtual 128, 3)) ∧ (decode cX3_takeQuarterBack 38 = .ok (.aload_n 0, 1)) ∧ (decode cX3_takeQuarterBack 39 = .ok (.aload_n 0, 1)) ∧ (decode cX3_takeQuarterBack 40 = .ok (.getfield 60, 3)) := by decide +kernel
theorem dX3_takeQuarterBack_20 : decode cX3_takeQuarterBack 20 = .ok (.getfield 60, 3) := dX3_takeQuarterBack_20_b.1
theorem dX3_takeQuarterBack_23 : decode cX3_takeQuarterBack 23 = .ok (.aload_n 0, 1) := dX3_takeQuarterBack_20_b.2.1
theorem dX3_takeQuarterBack_24 : decode cX3_takeQuarterBack 24 = .ok (.getfield 17, 3) := dX3_takeQuarterBack_20_b.2.2.1
theorem dX3_takeQuarterBack_27 : decode cX3_takeQuarterBack 27 = .ok (.iaload, 1) := dX3_takeQuarterBack_20_b.2.2.2.1
theorem dX3_takeQuarterBack_28 : decode cX3_takeQuarterBack 28 = .ok (.aload_n 0, 1) := dX3_takeQuarterBack_20_b.2.2.2.2.1
theorem dX3_takeQuarterBack_29 : decode cX3_takeQuarterBack 29 = .ok (.getfield 20, 3) := dX3_takeQuarterBack_20_b.2.2.2.2.2.1
theorem dX3_takeQuarterBack_32 : decode cX3_takeQuarterBack 32 = .ok (.isub, 1) := dX3_takeQuarterBack_20_b.2.2.2.2.2.2.1
theorem dX3_takeQuarterBack_33 : decode cX3_takeQuarterBack 33 = .ok (.bipush (-12), 2) := dX3_takeQuarterBack_20_b.2.2.2.2.2.2.2.1
theorem dX3_takeQuarterBack_35 : decode cX3_takeQuarterBack 35 = .ok (.invokevirtual 128, 3) := dX3_takeQuarterBack_20_b.2.2.2.2.2.2.2.2.1
theorem dX3_takeQuarterBack_38 : decode cX3_takeQuarterBack 38 = .ok (.aload_n 0, 1) := dX3_takeQuarterBack_20_b.2.2.2.2.2.2.2.2.2.1
theorem dX3_takeQuarterBack_39 : decode cX3_takeQuarterBack 39 = .ok (.aload_n 0, 1) := dX3_takeQuarterBack_20_b.2.2.2.2.2.2.2.2.2.2.1
theorem dX3_takeQuarterBack_40 : decode cX3_takeQuarterBack 40 = .ok (.getfield 60, 3) := dX3_takeQuarterBack_20_b.2.2.2.2.2.2.2.2.2.2.2
theorem dX3_takeQuarterBack_43_b : (decode cX3_takeQuarterBack 43 = .ok (.aload_n 0, 1)) ∧ (decode cX3_takeQuarterBack 44 = .ok (.getfield 17, 3)) ∧ (decode cX3_takeQuarterBack 47 = .ok (.iaload, 1)) ∧ (decode cX3_takeQuarterBack 48 = .ok (.putfield 20, 3)) ∧ (decode cX3_takeQuarterBack 51 = .ok (.return_, 1)) := by decide +kernel
theorem dX3_takeQuarterBack_43 : decode cX3_takeQuarterBack 43 = .ok (.aload_n 0, 1) := dX3_takeQuarterBack_43_b.1
theorem dX3_takeQuarterBack_44 : decode cX3_takeQuarterBack 44 = .ok (.getfield 17, 3) := dX3_takeQuarterBack_43_b.2.1
theorem dX3_takeQuarterBack_47 : decode cX3_takeQuarterBack 47 = .ok (.iaload, 1) := dX3_takeQuarterBack_43_b.2.2.1
theorem dX3_takeQuarterBack_48 : decode cX3_takeQuarterBack 48 = .ok (.putfield 20, 3) := dX3_takeQuarterBack_43_b.2.2.2.1
theorem dX3_takeQuarterBack_51 : decode cX3_takeQuarterBack 51 = .ok (.return_, 1) := dX3_takeQuarterBack_43_b.2.2.2.2
theorem dX3_growOlder_0_b : (decode cX3_growOlder 0 = .ok (.iconst 0, 1)) ∧ (decode cX3_growOlder 1 = .ok (.istore_n 3, 1)) ∧ (decode cX3_growOlder 2 = .ok (.iload_n 3, 1)) ∧ (decode cX3_growOlder 3 = .ok (.aload_n 0, 1)) ∧ (decode cX3_growOlder 4 = .ok (.getfield 26, 3)) ∧ (decode cX3_growOlder 7 = .ok (.if_icmp .ge 31, 3)) ∧ (decode cX3_growOlder 10 = .ok (.aload_n 0, 1)) ∧ (decode cX3_growOlder 11 = .ok (.getfield 48, 3)) ∧ (decode cX3_growOlder 14 = .ok (.iload_n 3, 1)) ∧ (decode cX3_growOlder 15 = .ok (.dup2, 1)) ∧ (decode cX3_growOlder 16 = .ok (.iaload, 1)) ∧ (decode cX3_growOlder 17 = .ok (.aload_n 0, 1)) := by decide +kernel
theorem dX3_growOlder_0 : decode cX3_growOlder 0 = .ok (.iconst 0, 1) := dX3_growOlder_0_b.1
theorem dX3_growOlder_1 : decode cX3_growOlder 1 = .ok (.istore_n 3, 1) := dX3_growOlder_0_b.2.1
theorem dX3_growOlder_2 : decode cX3_growOlder 2 = .ok (.iload_n 3, 1) := dX3_growOlder_0_b.2.2.1
theorem dX3_growOlder_3 : decode cX3_growOlder 3 = .ok (.aload_n 0, 1) := dX3_growOlder_0_b.2.2.2.1
theorem dX3_growOlder_4 : decode cX3_growOlder 4 = .ok (.getfield 26, 3) := dX3_growOlder_0_b.2.2.2.2.1
theorem dX3_growOlder_7 : decode cX3_growOlder 7 = .ok (.if_icmp .ge 31, 3) := dX3_growOlder_0_b.2.2.2.2.2.1
theorem dX3_growOlder_10 : decode cX3_growOlder 10 = .ok (.aload_n 0, 1) := dX3_growOlder_0_b.2.2.2.2.2.2.1
theorem dX3_growOlder_11 : decode cX3_growOlder 11 = .ok (.getfield 48, 3) := dX3_growOlder_0_b.2.2.2.2.2.2.2.1
theorem dX3_growOlder_14 : decode cX3_growOlder 14 = .ok (.iload_n 3, 1) := dX3_growOlder_0_b.2.2.2.2.2.2.2.2.1
theorem dX3_growOlder_15 : decode cX3_growOlder 15 = .ok (.dup2, 1) := dX3_growOlder_0_b.2.2.2.2.2.2.2.2.2.1
theorem dX3_growOlder_16 : decode cX3_growOlder 16 = .ok (.iaload, 1) := dX3_growOlder_0_b.2.2.2.2.2.2.2.2.2.2.1
theorem dX3_growOlder_17 : decode cX3_growOlder 17 = .ok (.aload_n 0, 1) := dX3_growOlder_0_b.2.2.2.2.2.2.2.2.2.2.2
theorem dX3_growOlder_18_b : (decode cX3_growOlder 18 = .ok (.iload_n 3, 1)) ∧ (decode cX3_growOlder 19 = .ok (.invokevirtual 96, 3)) ∧ (decode cX3_growOlder 22 = .ok (.ifCond .eq 7, 3)) ∧ (decode cX3_growOlder 25 = .ok (.iload_n 1, 1)) ∧ (decode cX3_growOlder 26 = .ok (.goto 4, 3)) ∧ (decode cX3_growOlder 29 = .ok (.iload_n 2, 1)) ∧ (decode cX3_growOlder 30 = .ok (.iadd, 1)) ∧ (decode cX3_growOlder 31 = .ok (.iastore, 1)) ∧ (decode cX3_growOlder 32 = .ok (.iinc 3 1, 3)) ∧ (decode cX3_growOlder 35 = .ok (.goto (-33), 3)) ∧ (decode cX3_growOlder 38 = .ok (.return_, 1)) := by decide +kernel
theorem dX3_growOlder_18 : decode cX3_growOlder 18 = .ok (.iload_n 3, 1) := dX3_growOlder_18_b.1
theorem dX3_growOlder_19 : decode cX3_growOlder 19 = .ok (.invokevirtual 96, 3) := dX3_growOlder_18_b.2.1
theorem dX3_growOlder_22 : decode cX3_growOlder 22 = .ok (.ifCond .eq 7, 3) := dX3_growOlder_18_b.2.2.1
theorem dX3_growOlder_25 : decode cX3_growOlder 25 = .ok (.iload_n 1, 1) := dX3_growOlder_18_b.2.2.2.1
theorem dX3_growOlder_26 : decode cX3_growOlder 26 = .ok (.goto 4, 3) := dX3_growOlder_18_b.2.2.2.2.1
theorem dX3_growOlder_29 : decode cX3_growOlder 29 = .ok (.iload_n 2, 1) := dX3_growOlder_18_b.2.2.2.2.2.1
theorem dX3_growOlder_30 : decode cX3_growOlder 30 = .ok (.iadd, 1) := dX3_growOlder_18_b.2.2.2.2.2.2.1
theorem dX3_growOlder_31 : decode cX3_growOlder 31 = .ok (.iastore, 1) := dX3_growOlder_18_b.2.2.2.2.2.2.2.1
theorem dX3_growOlder_32 : decode cX3_growOlder 32 = .ok (.iinc 3 1, 3) := dX3_growOlder_18_b.2.2.2.2.2.2.2.2.1
theorem dX3_growOlder_35 : decode cX3_growOlder 35 = .ok (.goto (-33), 3) := dX3_growOlder_18_b.2.2.2.2.2.2.2.2.2.1
theorem dX3_growOlder_38 : decode cX3_growOlder 38 = .ok (.return_, 1) := dX3_growOlder_18_b.2.2.2.2.2.2.2.2.2.2
theorem dX3_isOver_0_b : (decode cX3_isOver 0 = .ok (.iload_n 1, 1)) ∧ (decode cX3_isOver 1 = .ok (.ifCond .lt 15, 3)) ∧ (decode cX3_isOver 4 = .ok (.iload_n 1, 1)) ∧ (decode cX3_isOver 5 = .ok (.aload_n 0, 1)) ∧ (decode cX3_isOver 6 = .ok (.getfield 17, 3)) ∧ (decode cX3_isOver 9 = .ok (.if_icmp .ge 7, 3)) ∧ (decode cX3_isOver 12 = .ok (.iconst 1, 1)) ∧ (decode cX3_isOver 13 = .ok (.goto 4, 3)) ∧ (decode cX3_isOver 16 = .ok (.iconst 0, 1)) ∧ (decode cX3_isOver 17 = .ok (.ireturn, 1)) := by decide +kernel
theorem dX3_isOver_0 : decode cX3_isOver 0 = .ok (.iload_n 1, 1) := dX3_isOver_0_b.1
theorem dX3_isOver_1 : decode cX3_isOver 1 = .ok (.ifCond .lt 15, 3) := dX3_isOver_0_b.2.1
theorem dX3_isOver_4 : decode cX3_isOver 4 = .ok (.iload_n 1, 1) := dX3_isOver_0_b.2.2.1
theorem dX3_isOver_5 : decode cX3_isOver 5 = .ok (.aload_n 0, 1) := dX3_isOver_0_b.2.2.2.1
theorem dX3_isOver_6 : decode cX3_isOver 6 = .ok (.getfield 17, 3) := dX3_isOver_0_b.2.2.2.2.1
theorem dX3_isOver_9 : decode cX3_isOver 9 = .ok (.if_icmp .ge 7, 3) := dX3_isOver_0_b.2.2.2.2.2.1
theorem dX3_isOver_12 : decode cX3_isOver 12 = .ok (.iconst 1, 1) := dX3_isOver_0_b.2.2.2.2.2.2.1
theorem dX3_isOver_13 : decode cX3_isOver 13 = .ok (.goto 4, 3) := dX3_isOver_0_b.2.2.2.2.2.2.2.1
theorem dX3_isOver_16 : decode cX3_isOver 16 = .ok (.iconst 0, 1) := dX3_isOver_0_b.2.2.2.2.2.2.2.2.1
theorem dX3_isOver_17 : decode cX3_isOver 17 = .ok (.ireturn, 1) := dX3_isOver_0_b.2.2.2.2.2.2.2.2.2
theorem dX3_partsGoneIn_0_b : (decode cX3_partsGoneIn 0 = .ok (.aload_n 0, 1)) ∧ (decode cX3_partsGoneIn 1 = .ok (.iload_n 1, 1)) ∧ (decode cX3_partsGoneIn 2 = .ok (.invokevirtual 132, 3)) ∧ (decode cX3_partsGoneIn 5 = .ok (.ifCond .eq 21, 3)) ∧ (decode cX3_partsGoneIn 8 = .ok (.aload_n 0, 1)) ∧ (decode cX3_partsGoneIn 9 = .ok (.getfield 60, 3)) ∧ (decode cX3_partsGoneIn 12 = .ok (.iload_n 1, 1)) ∧ (decode cX3_partsGoneIn 13 = .ok (.iconst 1, 1)) ∧ (decode cX3_partsGoneIn 14 = .ok (.iadd, 1)) ∧ (decode cX3_partsGoneIn 15 = .ok (.iaload, 1)) ∧ (decode cX3_partsGoneIn 16 = .ok (.aload_n 0, 1)) ∧ (decode cX3_partsGoneIn 17 = .ok (.getfield 60, 3)) := by decide +kernel
theorem dX3_partsGoneIn_0 : decode cX3_partsGoneIn 0 = .ok (.aload_n 0, 1) := dX3_partsGoneIn_0_b.1
theorem dX3_partsGoneIn_1 : decode cX3_partsGoneIn 1 = .ok (.iload_n 1, 1) := dX3_partsGoneIn_0_b.2.1
theorem dX3_partsGoneIn_2 : decode cX3_partsGoneIn 2 = .ok (.invokevirtual 132, 3) := dX3_partsGoneIn_0_b.2.2.1
theorem dX3_partsGoneIn_5 : decode cX3_partsGoneIn 5 = .ok (.ifCond .eq 21, 3) := dX3_partsGoneIn_0_b.2.2.2.1
theorem dX3_partsGoneIn_8 : decode cX3_partsGoneIn 8 = .ok (.aload_n 0, 1) := dX3_partsGoneIn_0_b.2.2.2.2.1
theorem dX3_partsGoneIn_9 : decode cX3_partsGoneIn 9 = .ok (.getfield 60, 3) := dX3_partsGoneIn_0_b.2.2.2.2.2.1
theorem dX3_partsGoneIn_12 : decode cX3_partsGoneIn 12 = .ok (.iload_n 1, 1) := dX3_partsGoneIn_0_b.2.2.2.2.2.2.1
theorem dX3_partsGoneIn_13 : decode cX3_partsGoneIn 13 = .ok (.iconst 1, 1) := dX3_partsGoneIn_0_b.2.2.2.2.2.2.2.1
theorem dX3_partsGoneIn_14 : decode cX3_partsGoneIn 14 = .ok (.iadd, 1) := dX3_partsGoneIn_0_b.2.2.2.2.2.2.2.2.1
theorem dX3_partsGoneIn_15 : decode cX3_partsGoneIn 15 = .ok (.iaload, 1) := dX3_partsGoneIn_0_b.2.2.2.2.2.2.2.2.2.1
theorem dX3_partsGoneIn_16 : decode cX3_partsGoneIn 16 = .ok (.aload_n 0, 1) := dX3_partsGoneIn_0_b.2.2.2.2.2.2.2.2.2.2.1
theorem dX3_partsGoneIn_17 : decode cX3_partsGoneIn 17 = .ok (.getfield 60, 3) := dX3_partsGoneIn_0_b.2.2.2.2.2.2.2.2.2.2.2
theorem dX3_partsGoneIn_20_b : (decode cX3_partsGoneIn 20 = .ok (.iload_n 1, 1)) ∧ (decode cX3_partsGoneIn 21 = .ok (.iaload, 1)) ∧ (decode cX3_partsGoneIn 22 = .ok (.isub, 1)) ∧ (decode cX3_partsGoneIn 23 = .ok (.goto 4, 3)) ∧ (decode cX3_partsGoneIn 26 = .ok (.iconst 0, 1)) ∧ (decode cX3_partsGoneIn 27 = .ok (.ireturn, 1)) := by decide +kernel
theorem dX3_partsGoneIn_20 : decode cX3_partsGoneIn 20 = .ok (.iload_n 1, 1) := dX3_partsGoneIn_20_b.1
theorem dX3_partsGoneIn_21 : decode cX3_partsGoneIn 21 = .ok (.iaload, 1) := dX3_partsGoneIn_20_b.2.1
theorem dX3_partsGoneIn_22 : decode cX3_partsGoneIn 22 = .ok (.isub, 1) := dX3_partsGoneIn_20_b.2.2.1
theorem dX3_partsGoneIn_23 : decode cX3_partsGoneIn 23 = .ok (.goto 4, 3) := dX3_partsGoneIn_20_b.2.2.2.1
theorem dX3_partsGoneIn_26 : decode cX3_partsGoneIn 26 = .ok (.iconst 0, 1) := dX3_partsGoneIn_20_b.2.2.2.2.1
theorem dX3_partsGoneIn_27 : decode cX3_partsGoneIn 27 = .ok (.ireturn, 1) := dX3_partsGoneIn_20_b.2.2.2.2.2
theorem dX6_init_0_b : (decode cX6_init 0 = .ok (.aload_n 0, 1)) ∧ (decode cX6_init 1 = .ok (.invokespecial 5, 3)) ∧ (decode cX6_init 4 = .ok (.aload_n 0, 1)) ∧ (decode cX6_init 5 = .ok (.bipush 120, 2)) ∧ (decode cX6_init 7 = .ok (.newarray .int, 2)) ∧ (decode cX6_init 9 = .ok (.putfield 13, 3)) ∧ (decode cX6_init 12 = .ok (.aload_n 0, 1)) ∧ (decode cX6_init 13 = .ok (.iconst 0, 1)) ∧ (decode cX6_init 14 = .ok (.putfield 17, 3)) ∧ (decode cX6_init 17 = .ok (.aload_n 0, 1)) ∧ (decode cX6_init 18 = .ok (.iconst 0, 1)) ∧ (decode cX6_init 19 = .ok (.putfield 21, 3)) := by decide +kernel
theorem dX6_init_0 : decode cX6_init 0 = .ok (.aload_n 0, 1) := dX6_init_0_b.1
theorem dX6_init_1 : decode cX6_init 1 = .ok (.invokespecial 5, 3) := dX6_init_0_b.2.1
theorem dX6_init_4 : decode cX6_init 4 = .ok (.aload_n 0, 1) := dX6_init_0_b.2.2.1
theorem dX6_init_5 : decode cX6_init 5 = .ok (.bipush 120, 2) := dX6_init_0_b.2.2.2.1
theorem dX6_init_7 : decode cX6_init 7 = .ok (.newarray .int, 2) := dX6_init_0_b.2.2.2.2.1
theorem dX6_init_9 : decode cX6_init 9 = .ok (.putfield 13, 3) := dX6_init_0_b.2.2.2.2.2.1
theorem dX6_init_12 : decode cX6_init 12 = .ok (.aload_n 0, 1) := dX6_init_0_b.2.2.2.2.2.2.1
theorem dX6_init_13 : decode cX6_init 13 = .ok (.iconst 0, 1) := dX6_init_0_b.2.2.2.2.2.2.2.1
theorem dX6_init_14 : decode cX6_init 14 = .ok (.putfield 17, 3) := dX6_init_0_b.2.2.2.2.2.2.2.2.1
theorem dX6_init_17 : decode cX6_init 17 = .ok (.aload_n 0, 1) := dX6_init_0_b.2.2.2.2.2.2.2.2.2.1
theorem dX6_init_18 : decode cX6_init 18 = .ok (.iconst 0, 1) := dX6_init_0_b.2.2.2.2.2.2.2.2.2.2.1
theorem dX6_init_19 : decode cX6_init 19 = .ok (.putfield 21, 3) := dX6_init_0_b.2.2.2.2.2.2.2.2.2.2.2
theorem dX6_init_22_b : (decode cX6_init 22 = .ok (.aload_n 0, 1)) ∧ (decode cX6_init 23 = .ok (.iconst 0, 1)) ∧ (decode cX6_init 24 = .ok (.putfield 24, 3)) ∧ (decode cX6_init 27 = .ok (.aload_n 0, 1)) ∧ (decode cX6_init 28 = .ok (.bipush 6, 2)) ∧ (decode cX6_init 30 = .ok (.newarray .int, 2)) ∧ (decode cX6_init 32 = .ok (.putfield 27, 3)) ∧ (decode cX6_init 35 = .ok (.aload_n 0, 1)) ∧ (decode cX6_init 36 = .ok (.iconst 0, 1)) ∧ (decode cX6_init 37 = .ok (.putfield 30, 3)) ∧ (decode cX6_init 40 = .ok (.aload_n 0, 1)) ∧ (decode cX6_init 41 = .ok (.iconst 0, 1)) := by decide +kernel
theorem dX6_init_22 : decode cX6_init 22 = .ok (.aload_n 0, 1) := dX6_init_22_b.1
theorem dX6_init_23 : decode cX6_init 23 = .ok (.iconst 0, 1) := dX6_init_22_b.2.1
theorem dX6_init_24 : decode cX6_init 24 = .ok (.putfield 24, 3) := dX6_init_22_b.2.2.1
theorem dX6_init_27 : decode cX6_init 27 = .ok (.aload_n 0, 1) := dX6_init_22_b.2.2.2.1
theorem dX6_init_28 : decode cX6_init 28 = .ok (.bipush 6, 2) := dX6_init_22_b.2.2.2.2.1
theorem dX6_init_30 : decode cX6_init 30 = .ok (.newarray .int, 2) := dX6_init_22_b.2.2.2.2.2.1
theorem dX6_init_32 : decode cX6_init 32 = .ok (.putfield 27, 3) := dX6_init_22_b.2.2.2.2.2.2.1
theorem dX6_init_35 : decode cX6_init 35 = .ok (.aload_n 0, 1) := dX6_init_22_b.2.2.2.2.2.2.2.1
theorem dX6_init_36 : decode cX6_init 36 = .ok (.iconst 0, 1) := dX6_init_22_b.2.2.2.2.2.2.2.2.1
theorem dX6_init_37 : decode cX6_init 37 = .ok (.putfield 30, 3) := dX6_init_22_b.2.2.2.2.2.2.2.2.2.1
theorem dX6_init_40 : decode cX6_init 40 = .ok (.aload_n 0, 1) := dX6_init_22_b.2.2.2.2.2.2.2.2.2.2.1
theorem dX6_init_41 : decode cX6_init 41 = .ok (.iconst 0, 1) := dX6_init_22_b.2.2.2.2.2.2.2.2.2.2.2
theorem dX6_init_42_b : (decode cX6_init 42 = .ok (.putfield 33, 3)) ∧ (decode cX6_init 45 = .ok (.aload_n 0, 1)) ∧ (decode cX6_init 46 = .ok (.bipush 37, 2)) ∧ (decode cX6_init 48 = .ok (.newarray .int, 2)) ∧ (decode cX6_init 50 = .ok (.putfield 36, 3)) ∧ (decode cX6_init 53 = .ok (.aload_n 0, 1)) ∧ (decode cX6_init 54 = .ok (.iconst 0, 1)) ∧ (decode cX6_init 55 = .ok (.putfield 39, 3)) ∧ (decode cX6_init 58 = .ok (.return_, 1)) := by decide +kernel
theorem dX6_init_42 : decode cX6_init 42 = .ok (.putfield 33, 3) := dX6_init_42_b.1
theorem dX6_init_45 : decode cX6_init 45 = .ok (.aload_n 0, 1) := dX6_init_42_b.2.1
theorem dX6_init_46 : decode cX6_init 46 = .ok (.bipush 37, 2) := dX6_init_42_b.2.2.1
theorem dX6_init_48 : decode cX6_init 48 = .ok (.newarray .int, 2) := dX6_init_42_b.2.2.2.1
theorem dX6_init_50 : decode cX6_init 50 = .ok (.putfield 36, 3) := dX6_init_42_b.2.2.2.2.1
theorem dX6_init_53 : decode cX6_init 53 = .ok (.aload_n 0, 1) := dX6_init_42_b.2.2.2.2.2.1
theorem dX6_init_54 : decode cX6_init 54 = .ok (.iconst 0, 1) := dX6_init_42_b.2.2.2.2.2.2.1
theorem dX6_init_55 : decode cX6_init 55 = .ok (.putfield 39, 3) := dX6_init_42_b.2.2.2.2.2.2.2.1
theorem dX6_init_58 : decode cX6_init 58 = .ok (.return_, 1) := dX6_init_42_b.2.2.2.2.2.2.2.2
theorem dX6_append_0_b : (decode cX6_append 0 = .ok (.aload_n 0, 1)) ∧ (decode cX6_append 1 = .ok (.getfield 17, 3)) ∧ (decode cX6_append 4 = .ok (.bipush 120, 2)) ∧ (decode cX6_append 6 = .ok (.if_icmp .lt 6, 3)) ∧ (decode cX6_append 9 = .ok (.ldc 42, 2)) ∧ (decode cX6_append 11 = .ok (.ireturn, 1)) ∧ (decode cX6_append 12 = .ok (.aload_n 0, 1)) ∧ (decode cX6_append 13 = .ok (.getfield 13, 3)) ∧ (decode cX6_append 16 = .ok (.aload_n 0, 1)) ∧ (decode cX6_append 17 = .ok (.getfield 17, 3)) ∧ (decode cX6_append 20 = .ok (.iload_n 1, 1)) ∧ (decode cX6_append 21 = .ok (.iastore, 1)) := by decide +kernel
theorem dX6_append_0 : decode cX6_append 0 = .ok (.aload_n 0, 1) := dX6_append_0_b.1
theorem dX6_append_1 : decode cX6_append 1 = .ok (.getfield 17, 3) := dX6_append_0_b.2.1
theorem dX6_append_4 : decode cX6_append 4 = .ok (.bipush 120, 2) := dX6_append_0_b.2.2.1
theorem dX6_append_6 : decode cX6_append 6 = .ok (.if_icmp .lt 6, 3) := dX6_append_0_b.2.2.2.1
theorem dX6_append_9 : decode cX6_append 9 = .ok (.ldc 42, 2) := dX6_append_0_b.2.2.2.2.1
theorem dX6_append_11 : decode cX6_append 11 = .ok (.ireturn, 1) := dX6_append_0_b.2.2.2.2.2.1
theorem dX6_append_12 : decode cX6_append 12 = .ok (.aload_n 0, 1) := dX6_append_0_b.2.2.2.2.2.2.1
theorem dX6_append_13 : decode cX6_append 13 = .ok (.getfield 13, 3) := dX6_append_0_b.2.2.2.2.2.2.2.1
theorem dX6_append_16 : decode cX6_append 16 = .ok (.aload_n 0, 1) := dX6_append_0_b.2.2.2.2.2.2.2.2.1
theorem dX6_append_17 : decode cX6_append 17 = .ok (.getfield 17, 3) := dX6_append_0_b.2.2.2.2.2.2.2.2.2.1
theorem dX6_append_20 : decode cX6_append 20 = .ok (.iload_n 1, 1) := dX6_append_0_b.2.2.2.2.2.2.2.2.2.2.1
theorem dX6_append_21 : decode cX6_append 21 = .ok (.iastore, 1) := dX6_append_0_b.2.2.2.2.2.2.2.2.2.2.2
theorem dX6_append_22_b : (decode cX6_append 22 = .ok (.aload_n 0, 1)) ∧ (decode cX6_append 23 = .ok (.dup, 1)) ∧ (decode cX6_append 24 = .ok (.getfield 17, 3)) ∧ (decode cX6_append 27 = .ok (.iconst 1, 1)) ∧ (decode cX6_append 28 = .ok (.iadd, 1)) ∧ (decode cX6_append 29 = .ok (.putfield 17, 3)) ∧ (decode cX6_append 32 = .ok (.aload_n 0, 1)) ∧ (decode cX6_append 33 = .ok (.getfield 17, 3)) ∧ (decode cX6_append 36 = .ok (.ireturn, 1)) := by decide +kernel
theorem dX6_append_22 : decode cX6_append 22 = .ok (.aload_n 0, 1) := dX6_append_22_b.1
theorem dX6_append_23 : decode cX6_append 23 = .ok (.dup, 1) := dX6_append_22_b.2.1
theorem dX6_append_24 : decode cX6_append 24 = .ok (.getfield 17, 3) := dX6_append_22_b.2.2.1
theorem dX6_append_27 : decode cX6_append 27 = .ok (.iconst 1, 1) := dX6_append_22_b.2.2.2.1
theorem dX6_append_28 : decode cX6_append 28 = .ok (.iadd, 1) := dX6_append_22_b.2.2.2.2.1
theorem dX6_append_29 : decode cX6_append 29 = .ok (.putfield 17, 3) := dX6_append_22_b.2.2.2.2.2.1
theorem dX6_append_32 : decode cX6_append 32 = .ok (.aload_n 0, 1) := dX6_append_22_b.2.2.2.2.2.2.1
theorem dX6_append_33 : decode cX6_append 33 = .ok (.getfield 17, 3) := dX6_append_22_b.2.2.2.2.2.2.2.1
theorem dX6_append_36 : decode cX6_append 36 = .ok (.ireturn, 1) := dX6_append_22_b.2.2.2.2.2.2.2.2
theorem dX6_read_0_b : (decode cX6_read 0 = .ok (.aload_n 0, 1)) ∧ (decode cX6_read 1 = .ok (.iconst 0, 1)) ∧ (decode cX6_read 2 = .ok (.putfield 24, 3)) ∧ (decode cX6_read 5 = .ok (.aload_n 0, 1)) ∧ (decode cX6_read 6 = .ok (.iconst 0, 1)) ∧ (decode cX6_read 7 = .ok (.putfield 21, 3)) ∧ (decode cX6_read 10 = .ok (.aload_n 0, 1)) ∧ (decode cX6_read 11 = .ok (.iconst 0, 1)) ∧ (decode cX6_read 12 = .ok (.putfield 30, 3)) ∧ (decode cX6_read 15 = .ok (.aload_n 0, 1)) ∧ (decode cX6_read 16 = .ok (.iconst 0, 1)) ∧ (decode cX6_read 17 = .ok (.putfield 33, 3)) := by decide +kernel
theorem dX6_read_0 : decode cX6_read 0 = .ok (.aload_n 0, 1) := dX6_read_0_b.1
theorem dX6_read_1 : decode cX6_read 1 = .ok (.iconst 0, 1) := dX6_read_0_b.2.1
theorem dX6_read_2 : decode cX6_read 2 = .ok (.putfield 24, 3) := dX6_read_0_b.2.2.1
theorem dX6_read_5 : decode cX6_read 5 = .ok (.aload_n 0, 1) := dX6_read_0_b.2.2.2.1
theorem dX6_read_6 : decode cX6_read 6 = .ok (.iconst 0, 1) := dX6_read_0_b.2.2.2.2.1
theorem dX6_read_7 : decode cX6_read 7 = .ok (.putfield 21, 3) := dX6_read_0_b.2.2.2.2.2.1
theorem dX6_read_10 : decode cX6_read 10 = .ok (.aload_n 0, 1) := dX6_read_0_b.2.2.2.2.2.2.1
theorem dX6_read_11 : decode cX6_read 11 = .ok (.iconst 0, 1) := dX6_read_0_b.2.2.2.2.2.2.2.1
theorem dX6_read_12 : decode cX6_read 12 = .ok (.putfield 30, 3) := dX6_read_0_b.2.2.2.2.2.2.2.2.1
theorem dX6_read_15 : decode cX6_read 15 = .ok (.aload_n 0, 1) := dX6_read_0_b.2.2.2.2.2.2.2.2.2.1
theorem dX6_read_16 : decode cX6_read 16 = .ok (.iconst 0, 1) := dX6_read_0_b.2.2.2.2.2.2.2.2.2.2.1
theorem dX6_read_17 : decode cX6_read 17 = .ok (.putfield 33, 3) := dX6_read_0_b.2.2.2.2.2.2.2.2.2.2.2
theorem dX6_read_20_b : (decode cX6_read 20 = .ok (.aload_n 0, 1)) ∧ (decode cX6_read 21 = .ok (.iconst 0, 1)) ∧ (decode cX6_read 22 = .ok (.putfield 39, 3)) ∧ (decode cX6_read 25 = .ok (.aload_n 0, 1)) ∧ (decode cX6_read 26 = .ok (.invokevirtual 43, 3)) ∧ (decode cX6_read 29 = .ok (.aload_n 0, 1)) ∧ (decode cX6_read 30 = .ok (.iconst 0, 1)) ∧ (decode cX6_read 31 = .ok (.putfield 17, 3)) ∧ (decode cX6_read 34 = .ok (.aload_n 0, 1)) ∧ (decode cX6_read 35 = .ok (.getfield 21, 3)) ∧ (decode cX6_read 38 = .ok (.ifCond .ne 8, 3)) ∧ (decode cX6_read 41 = .ok (.ldc 46, 2)) := by decide +kernel
theorem dX6_read_20 : decode cX6_read 20 = .ok (.aload_n 0, 1) := dX6_read_20_b.1
theorem dX6_read_21 : decode cX6_read 21 = .ok (.iconst 0, 1) := dX6_read_20_b.2.1
theorem dX6_read_22 : decode cX6_read 22 = .ok (.putfield 39, 3) := dX6_read_20_b.2.2.1
theorem dX6_read_25 : decode cX6_read 25 = .ok (.aload_n 0, 1) := dX6_read_20_b.2.2.2.1
theorem dX6_read_26 : decode cX6_read 26 = .ok (.invokevirtual 43, 3) := dX6_read_20_b.2.2.2.2.1
theorem dX6_read_29 : decode cX6_read 29 = .ok (.aload_n 0, 1) := dX6_read_20_b.2.2.2.2.2.1
theorem dX6_read_30 : decode cX6_read 30 = .ok (.iconst 0, 1) := dX6_read_20_b.2.2.2.2.2.2.1
theorem dX6_read_31 : decode cX6_read 31 = .ok (.putfield 17, 3) := dX6_read_20_b.2.2.2.2.2.2.2.1
theorem dX6_read_34 : decode cX6_read 34 = .ok (.aload_n 0, 1) := dX6_read_20_b.2.2.2.2.2.2.2.2.1
theorem dX6_read_35 : decode cX6_read 35 = .ok (.getfield 21, 3) := dX6_read_20_b.2.2.2.2.2.2.2.2.2.1
theorem dX6_read_38 : decode cX6_read 38 = .ok (.ifCond .ne 8, 3) := dX6_read_20_b.2.2.2.2.2.2.2.2.2.2.1
theorem dX6_read_41 : decode cX6_read 41 = .ok (.ldc 46, 2) := dX6_read_20_b.2.2.2.2.2.2.2.2.2.2.2
theorem dX6_read_43_b : (decode cX6_read 43 = .ok (.goto 7, 3)) ∧ (decode cX6_read 46 = .ok (.aload_n 0, 1)) ∧ (decode cX6_read 47 = .ok (.getfield 24, 3)) ∧ (decode cX6_read 50 = .ok (.ireturn, 1)) := by decide +kernel
theorem dX6_read_43 : decode cX6_read 43 = .ok (.goto 7, 3) := dX6_read_43_b.1
theorem dX6_read_46 : decode cX6_read 46 = .ok (.aload_n 0, 1) := dX6_read_43_b.2.1
theorem dX6_read_47 : decode cX6_read 47 = .ok (.getfield 24, 3) := dX6_read_43_b.2.2.1
theorem dX6_read_50 : decode cX6_read 50 = .ok (.ireturn, 1) := dX6_read_43_b.2.2.2
theorem dX6_readHouse_0_b : (decode cX6_readHouse 0 = .ok (.aload_n 0, 1)) ∧ (decode cX6_readHouse 1 = .ok (.invokevirtual 47, 3)) ∧ (decode cX6_readHouse 4 = .ok (.bipush 99, 2)) ∧ (decode cX6_readHouse 6 = .ok (.if_icmp .eq 9, 3)) ∧ (decode cX6_readHouse 9 = .ok (.aload_n 0, 1)) ∧ (decode cX6_readHouse 10 = .ok (.iconst 1, 1)) ∧ (decode cX6_readHouse 11 = .ok (.putfield 21, 3)) ∧ (decode cX6_readHouse 14 = .ok (.return_, 1)) ∧ (decode cX6_readHouse 15 = .ok (.aload_n 0, 1)) ∧ (decode cX6_readHouse 16 = .ok (.dup, 1)) ∧ (decode cX6_readHouse 17 = .ok (.getfield 24, 3)) ∧ (decode cX6_readHouse 20 = .ok (.iconst 1, 1)) := by decide +kernel
theorem dX6_readHouse_0 : decode cX6_readHouse 0 = .ok (.aload_n 0, 1) := dX6_readHouse_0_b.1
theorem dX6_readHouse_1 : decode cX6_readHouse 1 = .ok (.invokevirtual 47, 3) := dX6_readHouse_0_b.2.1
theorem dX6_readHouse_4 : decode cX6_readHouse 4 = .ok (.bipush 99, 2) := dX6_readHouse_0_b.2.2.1
theorem dX6_readHouse_6 : decode cX6_readHouse 6 = .ok (.if_icmp .eq 9, 3) := dX6_readHouse_0_b.2.2.2.1
theorem dX6_readHouse_9 : decode cX6_readHouse 9 = .ok (.aload_n 0, 1) := dX6_readHouse_0_b.2.2.2.2.1
theorem dX6_readHouse_10 : decode cX6_readHouse 10 = .ok (.iconst 1, 1) := dX6_readHouse_0_b.2.2.2.2.2.1
theorem dX6_readHouse_11 : decode cX6_readHouse 11 = .ok (.putfield 21, 3) := dX6_readHouse_0_b.2.2.2.2.2.2.1
theorem dX6_readHouse_14 : decode cX6_readHouse 14 = .ok (.return_, 1) := dX6_readHouse_0_b.2.2.2.2.2.2.2.1
theorem dX6_readHouse_15 : decode cX6_readHouse 15 = .ok (.aload_n 0, 1) := dX6_readHouse_0_b.2.2.2.2.2.2.2.2.1
theorem dX6_readHouse_16 : decode cX6_readHouse 16 = .ok (.dup, 1) := dX6_readHouse_0_b.2.2.2.2.2.2.2.2.2.1
theorem dX6_readHouse_17 : decode cX6_readHouse 17 = .ok (.getfield 24, 3) := dX6_readHouse_0_b.2.2.2.2.2.2.2.2.2.2.1
theorem dX6_readHouse_20 : decode cX6_readHouse 20 = .ok (.iconst 1, 1) := dX6_readHouse_0_b.2.2.2.2.2.2.2.2.2.2.2
theorem dX6_readHouse_21_b : (decode cX6_readHouse 21 = .ok (.iadd, 1)) ∧ (decode cX6_readHouse 22 = .ok (.putfield 24, 3)) ∧ (decode cX6_readHouse 25 = .ok (.aload_n 0, 1)) ∧ (decode cX6_readHouse 26 = .ok (.getstatic 51, 3)) ∧ (decode cX6_readHouse 29 = .ok (.getstatic 54, 3)) ∧ (decode cX6_readHouse 32 = .ok (.invokevirtual 57, 3)) ∧ (decode cX6_readHouse 35 = .ok (.iconst 0, 1)) ∧ (decode cX6_readHouse 36 = .ok (.istore_n 1, 1)) ∧ (decode cX6_readHouse 37 = .ok (.iload_n 1, 1)) ∧ (decode cX6_readHouse 38 = .ok (.bipush 6, 2)) ∧ (decode cX6_readHouse 40 = .ok (.if_icmp .gt 30, 3)) ∧ (decode cX6_readHouse 43 = .ok (.aload_n 0, 1)) := by decide +kernel
theorem dX6_readHouse_21 : decode cX6_readHouse 21 = .ok (.iadd, 1) := dX6_readHouse_21_b.1
theorem dX6_readHouse_22 : decode cX6_readHouse 22 = .ok (.putfield 24, 3) := dX6_readHouse_21_b.2.1
theorem dX6_readHouse_25 : decode cX6_readHouse 25 = .ok (.aload_n 0, 1) := dX6_readHouse_21_b.2.2.1
theorem dX6_readHouse_26 : decode cX6_readHouse 26 = .ok (.getstatic 51, 3) := dX6_readHouse_21_b.2.2.2.1
theorem dX6_readHouse_29 : decode cX6_readHouse 29 = .ok (.getstatic 54, 3) := dX6_readHouse_21_b.2.2.2.2.1
theorem dX6_readHouse_32 : decode cX6_readHouse 32 = .ok (.invokevirtual 57, 3) := dX6_readHouse_21_b.2.2.2.2.2.1
theorem dX6_readHouse_35 : decode cX6_readHouse 35 = .ok (.iconst 0, 1) := dX6_readHouse_21_b.2.2.2.2.2.2.1
theorem dX6_readHouse_36 : decode cX6_readHouse 36 = .ok (.istore_n 1, 1) := dX6_readHouse_21_b.2.2.2.2.2.2.2.1
theorem dX6_readHouse_37 : decode cX6_readHouse 37 = .ok (.iload_n 1, 1) := dX6_readHouse_21_b.2.2.2.2.2.2.2.2.1
theorem dX6_readHouse_38 : decode cX6_readHouse 38 = .ok (.bipush 6, 2) := dX6_readHouse_21_b.2.2.2.2.2.2.2.2.2.1
theorem dX6_readHouse_40 : decode cX6_readHouse 40 = .ok (.if_icmp .gt 30, 3) := dX6_readHouse_21_b.2.2.2.2.2.2.2.2.2.2.1
theorem dX6_readHouse_43 : decode cX6_readHouse 43 = .ok (.aload_n 0, 1) := dX6_readHouse_21_b.2.2.2.2.2.2.2.2.2.2.2
theorem dX6_readHouse_44_b : (decode cX6_readHouse 44 = .ok (.invokevirtual 47, 3)) ∧ (decode cX6_readHouse 47 = .ok (.invokestatic 61, 3)) ∧ (decode cX6_readHouse 50 = .ok (.ifCond .eq 20, 3)) ∧ (decode cX6_readHouse 53 = .ok (.aload_n 0, 1)) ∧ (decode cX6_readHouse 54 = .ok (.aload_n 0, 1)) ∧ (decode cX6_readHouse 55 = .ok (.invokevirtual 47, 3)) ∧ (decode cX6_readHouse 58 = .ok (.invokestatic 61, 3)) ∧ (decode cX6_readHouse 61 = .ok (.invokevirtual 67, 3)) ∧ (decode cX6_readHouse 64 = .ok (.iinc 1 1, 3)) ∧ (decode cX6_readHouse 67 = .ok (.goto (-30), 3)) ∧ (decode cX6_readHouse 70 = .ok (.iconst 0, 1)) ∧ (decode cX6_readHouse 71 = .ok (.istore_n 1, 1)) := by decide +kernel
theorem dX6_readHouse_44 : decode cX6_readHouse 44 = .ok (.invokevirtual 47, 3) := dX6_readHouse_44_b.1
theorem dX6_readHouse_47 : decode cX6_readHouse 47 = .ok (.invokestatic 61, 3) := dX6_readHouse_44_b.2.1
theorem dX6_readHouse_50 : decode cX6_readHouse 50 = .ok (.ifCond .eq 20, 3) := dX6_readHouse_44_b.2.2.1
theorem dX6_readHouse_53 : decode cX6_readHouse 53 = .ok (.aload_n 0, 1) := dX6_readHouse_44_b.2.2.2.1
theorem dX6_readHouse_54 : decode cX6_readHouse 54 = .ok (.aload_n 0, 1) := dX6_readHouse_44_b.2.2.2.2.1
theorem dX6_readHouse_55 : decode cX6_readHouse 55 = .ok (.invokevirtual 47, 3) := dX6_readHouse_44_b.2.2.2.2.2.1
theorem dX6_readHouse_58 : decode cX6_readHouse 58 = .ok (.invokestatic 61, 3) := dX6_readHouse_44_b.2.2.2.2.2.2.1
theorem dX6_readHouse_61 : decode cX6_readHouse 61 = .ok (.invokevirtual 67, 3) := dX6_readHouse_44_b.2.2.2.2.2.2.2.1
theorem dX6_readHouse_64 : decode cX6_readHouse 64 = .ok (.iinc 1 1, 3) := dX6_readHouse_44_b.2.2.2.2.2.2.2.2.1
theorem dX6_readHouse_67 : decode cX6_readHouse 67 = .ok (.goto (-30), 3) := dX6_readHouse_44_b.2.2.2.2.2.2.2.2.2.1
theorem dX6_readHouse_70 : decode cX6_readHouse 70 = .ok (.iconst 0, 1) := dX6_readHouse_44_b.2.2.2.2.2.2.2.2.2.2.1
theorem dX6_readHouse_71 : decode cX6_readHouse 71 = .ok (.istore_n 1, 1) := dX6_readHouse_44_b.2.2.2.2.2.2.2.2.2.2.2
theorem dX6_readHouse_72_b : (decode cX6_readHouse 72 = .ok (.iload_n 1, 1)) ∧ (decode cX6_readHouse 73 = .ok (.iconst 4, 1)) ∧ (decode cX6_readHouse 74 = .ok (.if_icmp .gt 22, 3)) ∧ (decode cX6_readHouse 77 = .ok (.aload_n 0, 1)) ∧ (decode cX6_readHouse 78 = .ok (.invokevirtual 47, 3)) ∧ (decode cX6_readHouse 81 = .ok (.bipush 120, 2)) ∧ (decode cX6_readHouse 83 = .ok (.if_icmp .ne 13, 3)) ∧ (decode cX6_readHouse 86 = .ok (.aload_n 0, 1)) ∧ (decode cX6_readHouse 87 = .ok (.invokevirtual 71, 3)) ∧ (decode cX6_readHouse 90 = .ok (.iinc 1 1, 3)) ∧ (decode cX6_readHouse 93 = .ok (.goto (-21), 3)) ∧ (decode cX6_readHouse 96 = .ok (.aload_n 0, 1)) := by decide +kernel
theorem dX6_readHouse_72 : decode cX6_readHouse 72 = .ok (.iload_n 1, 1) := dX6_readHouse_72_b.1
theorem dX6_readHouse_73 : decode cX6_readHouse 73 = .ok (.iconst 4, 1) := dX6_readHouse_72_b.2.1
theorem dX6_readHouse_74 : decode cX6_readHouse 74 = .ok (.if_icmp .gt 22, 3) := dX6_readHouse_72_b.2.2.1
theorem dX6_readHouse_77 : decode cX6_readHouse 77 = .ok (.aload_n 0, 1) := dX6_readHouse_72_b.2.2.2.1
theorem dX6_readHouse_78 : decode cX6_readHouse 78 = .ok (.invokevirtual 47, 3) := dX6_readHouse_72_b.2.2.2.2.1
theorem dX6_readHouse_81 : decode cX6_readHouse 81 = .ok (.bipush 120, 2) := dX6_readHouse_72_b.2.2.2.2.2.1
theorem dX6_readHouse_83 : decode cX6_readHouse 83 = .ok (.if_icmp .ne 13, 3) := dX6_readHouse_72_b.2.2.2.2.2.2.1
theorem dX6_readHouse_86 : decode cX6_readHouse 86 = .ok (.aload_n 0, 1) := dX6_readHouse_72_b.2.2.2.2.2.2.2.1
theorem dX6_readHouse_87 : decode cX6_readHouse 87 = .ok (.invokevirtual 71, 3) := dX6_readHouse_72_b.2.2.2.2.2.2.2.2.1
theorem dX6_readHouse_90 : decode cX6_readHouse 90 = .ok (.iinc 1 1, 3) := dX6_readHouse_72_b.2.2.2.2.2.2.2.2.2.1
theorem dX6_readHouse_93 : decode cX6_readHouse 93 = .ok (.goto (-21), 3) := dX6_readHouse_72_b.2.2.2.2.2.2.2.2.2.2.1
theorem dX6_readHouse_96 : decode cX6_readHouse 96 = .ok (.aload_n 0, 1) := dX6_readHouse_72_b.2.2.2.2.2.2.2.2.2.2.2
theorem dX6_readHouse_97_b : (decode cX6_readHouse 97 = .ok (.getfield 21, 3)) ∧ (decode cX6_readHouse 100 = .ok (.ifCond .ne 19, 3)) ∧ (decode cX6_readHouse 103 = .ok (.aload_n 0, 1)) ∧ (decode cX6_readHouse 104 = .ok (.getfield 24, 3)) ∧ (decode cX6_readHouse 107 = .ok (.aload_n 0, 1)) ∧ (decode cX6_readHouse 108 = .ok (.getfield 17, 3)) ∧ (decode cX6_readHouse 111 = .ok (.if_icmp .ge 8, 3)) ∧ (decode cX6_readHouse 114 = .ok (.aload_n 0, 1)) ∧ (decode cX6_readHouse 115 = .ok (.iconst 1, 1)) ∧ (decode cX6_readHouse 116 = .ok (.putfield 21, 3)) ∧ (decode cX6_readHouse 119 = .ok (.return_, 1)) := by decide +kernel
theorem dX6_readHouse_97 : decode cX6_readHouse 97 = .ok (.getfield 21, 3) := dX6_readHouse_97_b.1
theorem dX6_readHouse_100 : decode cX6_readHouse 100 = .ok (.ifCond .ne 19, 3) := dX6_readHouse_97_b.2.1
theorem dX6_readHouse_103 : decode cX6_readHouse 103 = .ok (.aload_n 0, 1) := dX6_readHouse_97_b.2.2.1
theorem dX6_readHouse_104 : decode cX6_readHouse 104 = .ok (.getfield 24, 3) := dX6_readHouse_97_b.2.2.2.1
theorem dX6_readHouse_107 : decode cX6_readHouse 107 = .ok (.aload_n 0, 1) := dX6_readHouse_97_b.2.2.2.2.1
theorem dX6_readHouse_108 : decode cX6_readHouse 108 = .ok (.getfield 17, 3) := dX6_readHouse_97_b.2.2.2.2.2.1
theorem dX6_readHouse_111 : decode cX6_readHouse 111 = .ok (.if_icmp .ge 8, 3) := dX6_readHouse_97_b.2.2.2.2.2.2.1
theorem dX6_readHouse_114 : decode cX6_readHouse 114 = .ok (.aload_n 0, 1) := dX6_readHouse_97_b.2.2.2.2.2.2.2.1
theorem dX6_readHouse_115 : decode cX6_readHouse 115 = .ok (.iconst 1, 1) := dX6_readHouse_97_b.2.2.2.2.2.2.2.2.1
theorem dX6_readHouse_116 : decode cX6_readHouse 116 = .ok (.putfield 21, 3) := dX6_readHouse_97_b.2.2.2.2.2.2.2.2.2.1
theorem dX6_readHouse_119 : decode cX6_readHouse 119 = .ok (.return_, 1) := dX6_readHouse_97_b.2.2.2.2.2.2.2.2.2.2
theorem dX6_byteHere_0_b : (decode cX6_byteHere 0 = .ok (.aload_n 0, 1)) ∧ (decode cX6_byteHere 1 = .ok (.getfield 21, 3)) ∧ (decode cX6_byteHere 4 = .ok (.ifCond .ne 26, 3)) ∧ (decode cX6_byteHere 7 = .ok (.aload_n 0, 1)) ∧ (decode cX6_byteHere 8 = .ok (.getfield 24, 3)) ∧ (decode cX6_byteHere 11 = .ok (.aload_n 0, 1)) ∧ (decode cX6_byteHere 12 = .ok (.getfield 17, 3)) ∧ (decode cX6_byteHere 15 = .ok (.if_icmp .ge 15, 3)) ∧ (decode cX6_byteHere 18 = .ok (.aload_n 0, 1)) ∧ (decode cX6_byteHere 19 = .ok (.getfield 13, 3)) ∧ (decode cX6_byteHere 22 = .ok (.aload_n 0, 1)) ∧ (decode cX6_byteHere 23 = .ok (.getfield 24, 3)) := by decide +kernel
theorem dX6_byteHere_0 : decode cX6_byteHere 0 = .ok (.aload_n 0, 1) := dX6_byteHere_0_b.1
theorem dX6_byteHere_1 : decode cX6_byteHere 1 = .ok (.getfield 21, 3) := dX6_byteHere_0_b.2.1
theorem dX6_byteHere_4 : decode cX6_byteHere 4 = .ok (.ifCond .ne 26, 3) := dX6_byteHere_0_b.2.2.1
theorem dX6_byteHere_7 : decode cX6_byteHere 7 = .ok (.aload_n 0, 1) := dX6_byteHere_0_b.2.2.2.1
theorem dX6_byteHere_8 : decode cX6_byteHere 8 = .ok (.getfield 24, 3) := dX6_byteHere_0_b.2.2.2.2.1
theorem dX6_byteHere_11 : decode cX6_byteHere 11 = .ok (.aload_n 0, 1) := dX6_byteHere_0_b.2.2.2.2.2.1
theorem dX6_byteHere_12 : decode cX6_byteHere 12 = .ok (.getfield 17, 3) := dX6_byteHere_0_b.2.2.2.2.2.2.1
theorem dX6_byteHere_15 : decode cX6_byteHere 15 = .ok (.if_icmp .ge 15, 3) := dX6_byteHere_0_b.2.2.2.2.2.2.2.1
theorem dX6_byteHere_18 : decode cX6_byteHere 18 = .ok (.aload_n 0, 1) := dX6_byteHere_0_b.2.2.2.2.2.2.2.2.1
theorem dX6_byteHere_19 : decode cX6_byteHere 19 = .ok (.getfield 13, 3) := dX6_byteHere_0_b.2.2.2.2.2.2.2.2.2.1
theorem dX6_byteHere_22 : decode cX6_byteHere 22 = .ok (.aload_n 0, 1) := dX6_byteHere_0_b.2.2.2.2.2.2.2.2.2.2.1
theorem dX6_byteHere_23 : decode cX6_byteHere 23 = .ok (.getfield 24, 3) := dX6_byteHere_0_b.2.2.2.2.2.2.2.2.2.2.2
theorem dX6_byteHere_26_b : (decode cX6_byteHere 26 = .ok (.iaload, 1)) ∧ (decode cX6_byteHere 27 = .ok (.goto 5, 3)) ∧ (decode cX6_byteHere 30 = .ok (.ldc 46, 2)) ∧ (decode cX6_byteHere 32 = .ok (.ireturn, 1)) := by decide +kernel
theorem dX6_byteHere_26 : decode cX6_byteHere 26 = .ok (.iaload, 1) := dX6_byteHere_26_b.1
theorem dX6_byteHere_27 : decode cX6_byteHere 27 = .ok (.goto 5, 3) := dX6_byteHere_26_b.2.1
theorem dX6_byteHere_30 : decode cX6_byteHere 30 = .ok (.ldc 46, 2) := dX6_byteHere_26_b.2.2.1
theorem dX6_byteHere_32 : decode cX6_byteHere 32 = .ok (.ireturn, 1) := dX6_byteHere_26_b.2.2.2
theorem dX6_readEar_0_b : (decode cX6_readEar 0 = .ok (.aload_n 0, 1)) ∧ (decode cX6_readEar 1 = .ok (.getfield 30, 3)) ∧ (decode cX6_readEar 4 = .ok (.bipush 6, 2)) ∧ (decode cX6_readEar 6 = .ok (.if_icmp .lt 9, 3)) ∧ (decode cX6_readEar 9 = .ok (.aload_n 0, 1)) ∧ (decode cX6_readEar 10 = .ok (.iconst 3, 1)) ∧ (decode cX6_readEar 11 = .ok (.putfield 21, 3)) ∧ (decode cX6_readEar 14 = .ok (.return_, 1)) ∧ (decode cX6_readEar 15 = .ok (.aload_n 0, 1)) ∧ (decode cX6_readEar 16 = .ok (.getfield 27, 3)) ∧ (decode cX6_readEar 19 = .ok (.aload_n 0, 1)) ∧ (decode cX6_readEar 20 = .ok (.getfield 30, 3)) := by decide +kernel
theorem dX6_readEar_0 : decode cX6_readEar 0 = .ok (.aload_n 0, 1) := dX6_readEar_0_b.1
theorem dX6_readEar_1 : decode cX6_readEar 1 = .ok (.getfield 30, 3) := dX6_readEar_0_b.2.1
theorem dX6_readEar_4 : decode cX6_readEar 4 = .ok (.bipush 6, 2) := dX6_readEar_0_b.2.2.1
theorem dX6_readEar_6 : decode cX6_readEar 6 = .ok (.if_icmp .lt 9, 3) := dX6_readEar_0_b.2.2.2.1
theorem dX6_readEar_9 : decode cX6_readEar 9 = .ok (.aload_n 0, 1) := dX6_readEar_0_b.2.2.2.2.1
theorem dX6_readEar_10 : decode cX6_readEar 10 = .ok (.iconst 3, 1) := dX6_readEar_0_b.2.2.2.2.2.1
theorem dX6_readEar_11 : decode cX6_readEar 11 = .ok (.putfield 21, 3) := dX6_readEar_0_b.2.2.2.2.2.2.1
theorem dX6_readEar_14 : decode cX6_readEar 14 = .ok (.return_, 1) := dX6_readEar_0_b.2.2.2.2.2.2.2.1
theorem dX6_readEar_15 : decode cX6_readEar 15 = .ok (.aload_n 0, 1) := dX6_readEar_0_b.2.2.2.2.2.2.2.2.1
theorem dX6_readEar_16 : decode cX6_readEar 16 = .ok (.getfield 27, 3) := dX6_readEar_0_b.2.2.2.2.2.2.2.2.2.1
theorem dX6_readEar_19 : decode cX6_readEar 19 = .ok (.aload_n 0, 1) := dX6_readEar_0_b.2.2.2.2.2.2.2.2.2.2.1
theorem dX6_readEar_20 : decode cX6_readEar 20 = .ok (.getfield 30, 3) := dX6_readEar_0_b.2.2.2.2.2.2.2.2.2.2.2
theorem dX6_readEar_23_b : (decode cX6_readEar 23 = .ok (.iload_n 1, 1)) ∧ (decode cX6_readEar 24 = .ok (.iastore, 1)) ∧ (decode cX6_readEar 25 = .ok (.aload_n 0, 1)) ∧ (decode cX6_readEar 26 = .ok (.dup, 1)) ∧ (decode cX6_readEar 27 = .ok (.getfield 30, 3)) ∧ (decode cX6_readEar 30 = .ok (.iconst 1, 1)) ∧ (decode cX6_readEar 31 = .ok (.iadd, 1)) ∧ (decode cX6_readEar 32 = .ok (.putfield 30, 3)) ∧ (decode cX6_readEar 35 = .ok (.aload_n 0, 1)) ∧ (decode cX6_readEar 36 = .ok (.dup, 1)) ∧ (decode cX6_readEar 37 = .ok (.getfield 24, 3)) ∧ (decode cX6_readEar 40 = .ok (.iconst 1, 1)) := by decide +kernel
theorem dX6_readEar_23 : decode cX6_readEar 23 = .ok (.iload_n 1, 1) := dX6_readEar_23_b.1
theorem dX6_readEar_24 : decode cX6_readEar 24 = .ok (.iastore, 1) := dX6_readEar_23_b.2.1
theorem dX6_readEar_25 : decode cX6_readEar 25 = .ok (.aload_n 0, 1) := dX6_readEar_23_b.2.2.1
theorem dX6_readEar_26 : decode cX6_readEar 26 = .ok (.dup, 1) := dX6_readEar_23_b.2.2.2.1
theorem dX6_readEar_27 : decode cX6_readEar 27 = .ok (.getfield 30, 3) := dX6_readEar_23_b.2.2.2.2.1
theorem dX6_readEar_30 : decode cX6_readEar 30 = .ok (.iconst 1, 1) := dX6_readEar_23_b.2.2.2.2.2.1
theorem dX6_readEar_31 : decode cX6_readEar 31 = .ok (.iadd, 1) := dX6_readEar_23_b.2.2.2.2.2.2.1
theorem dX6_readEar_32 : decode cX6_readEar 32 = .ok (.putfield 30, 3) := dX6_readEar_23_b.2.2.2.2.2.2.2.1
theorem dX6_readEar_35 : decode cX6_readEar 35 = .ok (.aload_n 0, 1) := dX6_readEar_23_b.2.2.2.2.2.2.2.2.1
theorem dX6_readEar_36 : decode cX6_readEar 36 = .ok (.dup, 1) := dX6_readEar_23_b.2.2.2.2.2.2.2.2.2.1
theorem dX6_readEar_37 : decode cX6_readEar 37 = .ok (.getfield 24, 3) := dX6_readEar_23_b.2.2.2.2.2.2.2.2.2.2.1
theorem dX6_readEar_40 : decode cX6_readEar 40 = .ok (.iconst 1, 1) := dX6_readEar_23_b.2.2.2.2.2.2.2.2.2.2.2
theorem dX6_readEar_41_b : (decode cX6_readEar 41 = .ok (.iadd, 1)) ∧ (decode cX6_readEar 42 = .ok (.putfield 24, 3)) ∧ (decode cX6_readEar 45 = .ok (.aload_n 0, 1)) ∧ (decode cX6_readEar 46 = .ok (.getstatic 74, 3)) ∧ (decode cX6_readEar 49 = .ok (.getstatic 77, 3)) ∧ (decode cX6_readEar 52 = .ok (.invokevirtual 57, 3)) ∧ (decode cX6_readEar 55 = .ok (.return_, 1)) := by decide +kernel
theorem dX6_readEar_41 : decode cX6_readEar 41 = .ok (.iadd, 1) := dX6_readEar_41_b.1
theorem dX6_readEar_42 : decode cX6_readEar 42 = .ok (.putfield 24, 3) := dX6_readEar_41_b.2.1
theorem dX6_readEar_45 : decode cX6_readEar 45 = .ok (.aload_n 0, 1) := dX6_readEar_41_b.2.2.1
theorem dX6_readEar_46 : decode cX6_readEar 46 = .ok (.getstatic 74, 3) := dX6_readEar_41_b.2.2.2.1
theorem dX6_readEar_49 : decode cX6_readEar 49 = .ok (.getstatic 77, 3) := dX6_readEar_41_b.2.2.2.2.1
theorem dX6_readEar_52 : decode cX6_readEar 52 = .ok (.invokevirtual 57, 3) := dX6_readEar_41_b.2.2.2.2.2.1
theorem dX6_readEar_55 : decode cX6_readEar 55 = .ok (.return_, 1) := dX6_readEar_41_b.2.2.2.2.2.2
theorem dX6_readDoing_0_b : (decode cX6_readDoing 0 = .ok (.aload_n 0, 1)) ∧ (decode cX6_readDoing 1 = .ok (.getfield 33, 3)) ∧ (decode cX6_readDoing 4 = .ok (.iconst 4, 1)) ∧ (decode cX6_readDoing 5 = .ok (.if_icmp .lt 9, 3)) ∧ (decode cX6_readDoing 8 = .ok (.aload_n 0, 1)) ∧ (decode cX6_readDoing 9 = .ok (.iconst 3, 1)) ∧ (decode cX6_readDoing 10 = .ok (.putfield 21, 3)) ∧ (decode cX6_readDoing 13 = .ok (.return_, 1)) ∧ (decode cX6_readDoing 14 = .ok (.aload_n 0, 1)) ∧ (decode cX6_readDoing 15 = .ok (.dup, 1)) ∧ (decode cX6_readDoing 16 = .ok (.getfield 33, 3)) ∧ (decode cX6_readDoing 19 = .ok (.iconst 1, 1)) := by decide +kernel
theorem dX6_readDoing_0 : decode cX6_readDoing 0 = .ok (.aload_n 0, 1) := dX6_readDoing_0_b.1
theorem dX6_readDoing_1 : decode cX6_readDoing 1 = .ok (.getfield 33, 3) := dX6_readDoing_0_b.2.1
theorem dX6_readDoing_4 : decode cX6_readDoing 4 = .ok (.iconst 4, 1) := dX6_readDoing_0_b.2.2.1
theorem dX6_readDoing_5 : decode cX6_readDoing 5 = .ok (.if_icmp .lt 9, 3) := dX6_readDoing_0_b.2.2.2.1
theorem dX6_readDoing_8 : decode cX6_readDoing 8 = .ok (.aload_n 0, 1) := dX6_readDoing_0_b.2.2.2.2.1
theorem dX6_readDoing_9 : decode cX6_readDoing 9 = .ok (.iconst 3, 1) := dX6_readDoing_0_b.2.2.2.2.2.1
theorem dX6_readDoing_10 : decode cX6_readDoing 10 = .ok (.putfield 21, 3) := dX6_readDoing_0_b.2.2.2.2.2.2.1
theorem dX6_readDoing_13 : decode cX6_readDoing 13 = .ok (.return_, 1) := dX6_readDoing_0_b.2.2.2.2.2.2.2.1
theorem dX6_readDoing_14 : decode cX6_readDoing 14 = .ok (.aload_n 0, 1) := dX6_readDoing_0_b.2.2.2.2.2.2.2.2.1
theorem dX6_readDoing_15 : decode cX6_readDoing 15 = .ok (.dup, 1) := dX6_readDoing_0_b.2.2.2.2.2.2.2.2.2.1
theorem dX6_readDoing_16 : decode cX6_readDoing 16 = .ok (.getfield 33, 3) := dX6_readDoing_0_b.2.2.2.2.2.2.2.2.2.2.1
theorem dX6_readDoing_19 : decode cX6_readDoing 19 = .ok (.iconst 1, 1) := dX6_readDoing_0_b.2.2.2.2.2.2.2.2.2.2.2
theorem dX6_readDoing_20_b : (decode cX6_readDoing 20 = .ok (.iadd, 1)) ∧ (decode cX6_readDoing 21 = .ok (.putfield 33, 3)) ∧ (decode cX6_readDoing 24 = .ok (.aload_n 0, 1)) ∧ (decode cX6_readDoing 25 = .ok (.dup, 1)) ∧ (decode cX6_readDoing 26 = .ok (.getfield 24, 3)) ∧ (decode cX6_readDoing 29 = .ok (.iconst 1, 1)) ∧ (decode cX6_readDoing 30 = .ok (.iadd, 1)) ∧ (decode cX6_readDoing 31 = .ok (.putfield 24, 3)) ∧ (decode cX6_readDoing 34 = .ok (.aload_n 0, 1)) ∧ (decode cX6_readDoing 35 = .ok (.getstatic 80, 3)) ∧ (decode cX6_readDoing 38 = .ok (.getstatic 83, 3)) ∧ (decode cX6_readDoing 41 = .ok (.invokevirtual 57, 3)) := by decide +kernel
theorem dX6_readDoing_20 : decode cX6_readDoing 20 = .ok (.iadd, 1) := dX6_readDoing_20_b.1
theorem dX6_readDoing_21 : decode cX6_readDoing 21 = .ok (.putfield 33, 3) := dX6_readDoing_20_b.2.1
theorem dX6_readDoing_24 : decode cX6_readDoing 24 = .ok (.aload_n 0, 1) := dX6_readDoing_20_b.2.2.1
theorem dX6_readDoing_25 : decode cX6_readDoing 25 = .ok (.dup, 1) := dX6_readDoing_20_b.2.2.2.1
theorem dX6_readDoing_26 : decode cX6_readDoing 26 = .ok (.getfield 24, 3) := dX6_readDoing_20_b.2.2.2.2.1
theorem dX6_readDoing_29 : decode cX6_readDoing 29 = .ok (.iconst 1, 1) := dX6_readDoing_20_b.2.2.2.2.2.1
theorem dX6_readDoing_30 : decode cX6_readDoing 30 = .ok (.iadd, 1) := dX6_readDoing_20_b.2.2.2.2.2.2.1
theorem dX6_readDoing_31 : decode cX6_readDoing 31 = .ok (.putfield 24, 3) := dX6_readDoing_20_b.2.2.2.2.2.2.2.1
theorem dX6_readDoing_34 : decode cX6_readDoing 34 = .ok (.aload_n 0, 1) := dX6_readDoing_20_b.2.2.2.2.2.2.2.2.1
theorem dX6_readDoing_35 : decode cX6_readDoing 35 = .ok (.getstatic 80, 3) := dX6_readDoing_20_b.2.2.2.2.2.2.2.2.2.1
theorem dX6_readDoing_38 : decode cX6_readDoing 38 = .ok (.getstatic 83, 3) := dX6_readDoing_20_b.2.2.2.2.2.2.2.2.2.2.1
theorem dX6_readDoing_41 : decode cX6_readDoing 41 = .ok (.invokevirtual 57, 3) := dX6_readDoing_20_b.2.2.2.2.2.2.2.2.2.2.2
theorem dX6_readDoing_44 : decode cX6_readDoing 44 = .ok (.return_, 1) := by decide +kernel
theorem dX6_readNumbers_0_b : (decode cX6_readNumbers 0 = .ok (.iconst 0, 1)) ∧ (decode cX6_readNumbers 1 = .ok (.istore_n 3, 1)) ∧ (decode cX6_readNumbers 2 = .ok (.iload_n 3, 1)) ∧ (decode cX6_readNumbers 3 = .ok (.aload_n 1, 1)) ∧ (decode cX6_readNumbers 4 = .ok (.arraylength, 1)) ∧ (decode cX6_readNumbers 5 = .ok (.if_icmp .ge 51, 3)) ∧ (decode cX6_readNumbers 8 = .ok (.iload_n 3, 1)) ∧ (decode cX6_readNumbers 9 = .ok (.aload_n 2, 1)) ∧ (decode cX6_readNumbers 10 = .ok (.arraylength, 1)) ∧ (decode cX6_readNumbers 11 = .ok (.if_icmp .ge 45, 3)) ∧ (decode cX6_readNumbers 14 = .ok (.aload_n 0, 1)) ∧ (decode cX6_readNumbers 15 = .ok (.getfield 21, 3)) := by decide +kernel
theorem dX6_readNumbers_0 : decode cX6_readNumbers 0 = .ok (.iconst 0, 1) := dX6_readNumbers_0_b.1
theorem dX6_readNumbers_1 : decode cX6_readNumbers 1 = .ok (.istore_n 3, 1) := dX6_readNumbers_0_b.2.1
theorem dX6_readNumbers_2 : decode cX6_readNumbers 2 = .ok (.iload_n 3, 1) := dX6_readNumbers_0_b.2.2.1
theorem dX6_readNumbers_3 : decode cX6_readNumbers 3 = .ok (.aload_n 1, 1) := dX6_readNumbers_0_b.2.2.2.1
theorem dX6_readNumbers_4 : decode cX6_readNumbers 4 = .ok (.arraylength, 1) := dX6_readNumbers_0_b.2.2.2.2.1
theorem dX6_readNumbers_5 : decode cX6_readNumbers 5 = .ok (.if_icmp .ge 51, 3) := dX6_readNumbers_0_b.2.2.2.2.2.1
theorem dX6_readNumbers_8 : decode cX6_readNumbers 8 = .ok (.iload_n 3, 1) := dX6_readNumbers_0_b.2.2.2.2.2.2.1
theorem dX6_readNumbers_9 : decode cX6_readNumbers 9 = .ok (.aload_n 2, 1) := dX6_readNumbers_0_b.2.2.2.2.2.2.2.1
theorem dX6_readNumbers_10 : decode cX6_readNumbers 10 = .ok (.arraylength, 1) := dX6_readNumbers_0_b.2.2.2.2.2.2.2.2.1
theorem dX6_readNumbers_11 : decode cX6_readNumbers 11 = .ok (.if_icmp .ge 45, 3) := dX6_readNumbers_0_b.2.2.2.2.2.2.2.2.2.1
theorem dX6_readNumbers_14 : decode cX6_readNumbers 14 = .ok (.aload_n 0, 1) := dX6_readNumbers_0_b.2.2.2.2.2.2.2.2.2.2.1
theorem dX6_readNumbers_15 : decode cX6_readNumbers 15 = .ok (.getfield 21, 3) := dX6_readNumbers_0_b.2.2.2.2.2.2.2.2.2.2.2
theorem dX6_readNumbers_18_b : (decode cX6_readNumbers 18 = .ok (.ifCond .ne 38, 3)) ∧ (decode cX6_readNumbers 21 = .ok (.aload_n 0, 1)) ∧ (decode cX6_readNumbers 22 = .ok (.aload_n 1, 1)) ∧ (decode cX6_readNumbers 23 = .ok (.iload_n 3, 1)) ∧ (decode cX6_readNumbers 24 = .ok (.iaload, 1)) ∧ (decode cX6_readNumbers 25 = .ok (.aload_n 2, 1)) ∧ (decode cX6_readNumbers 26 = .ok (.iload_n 3, 1)) ∧ (decode cX6_readNumbers 27 = .ok (.iaload, 1)) ∧ (decode cX6_readNumbers 28 = .ok (.invokevirtual 86, 3)) ∧ (decode cX6_readNumbers 31 = .ok (.aload_n 0, 1)) ∧ (decode cX6_readNumbers 32 = .ok (.iload_n 3, 1)) ∧ (decode cX6_readNumbers 33 = .ok (.aload_n 1, 1)) := by decide +kernel
theorem dX6_readNumbers_18 : decode cX6_readNumbers 18 = .ok (.ifCond .ne 38, 3) := dX6_readNumbers_18_b.1
theorem dX6_readNumbers_21 : decode cX6_readNumbers 21 = .ok (.aload_n 0, 1) := dX6_readNumbers_18_b.2.1
theorem dX6_readNumbers_22 : decode cX6_readNumbers 22 = .ok (.aload_n 1, 1) := dX6_readNumbers_18_b.2.2.1
theorem dX6_readNumbers_23 : decode cX6_readNumbers 23 = .ok (.iload_n 3, 1) := dX6_readNumbers_18_b.2.2.2.1
theorem dX6_readNumbers_24 : decode cX6_readNumbers 24 = .ok (.iaload, 1) := dX6_readNumbers_18_b.2.2.2.2.1
theorem dX6_readNumbers_25 : decode cX6_readNumbers 25 = .ok (.aload_n 2, 1) := dX6_readNumbers_18_b.2.2.2.2.2.1
theorem dX6_readNumbers_26 : decode cX6_readNumbers 26 = .ok (.iload_n 3, 1) := dX6_readNumbers_18_b.2.2.2.2.2.2.1
theorem dX6_readNumbers_27 : decode cX6_readNumbers 27 = .ok (.iaload, 1) := dX6_readNumbers_18_b.2.2.2.2.2.2.2.1
theorem dX6_readNumbers_28 : decode cX6_readNumbers 28 = .ok (.invokevirtual 86, 3) := dX6_readNumbers_18_b.2.2.2.2.2.2.2.2.1
theorem dX6_readNumbers_31 : decode cX6_readNumbers 31 = .ok (.aload_n 0, 1) := dX6_readNumbers_18_b.2.2.2.2.2.2.2.2.2.1
theorem dX6_readNumbers_32 : decode cX6_readNumbers 32 = .ok (.iload_n 3, 1) := dX6_readNumbers_18_b.2.2.2.2.2.2.2.2.2.2.1
theorem dX6_readNumbers_33 : decode cX6_readNumbers 33 = .ok (.aload_n 1, 1) := dX6_readNumbers_18_b.2.2.2.2.2.2.2.2.2.2.2
theorem dX6_readNumbers_34_b : (decode cX6_readNumbers 34 = .ok (.arraylength, 1)) ∧ (decode cX6_readNumbers 35 = .ok (.iconst 1, 1)) ∧ (decode cX6_readNumbers 36 = .ok (.isub, 1)) ∧ (decode cX6_readNumbers 37 = .ok (.if_icmp .ne 8, 3)) ∧ (decode cX6_readNumbers 40 = .ok (.bipush 59, 2)) ∧ (decode cX6_readNumbers 42 = .ok (.goto 5, 3)) ∧ (decode cX6_readNumbers 45 = .ok (.bipush 44, 2)) ∧ (decode cX6_readNumbers 47 = .ok (.invokevirtual 90, 3)) ∧ (decode cX6_readNumbers 50 = .ok (.iinc 3 1, 3)) ∧ (decode cX6_readNumbers 53 = .ok (.goto (-51), 3)) ∧ (decode cX6_readNumbers 56 = .ok (.return_, 1)) := by decide +kernel
theorem dX6_readNumbers_34 : decode cX6_readNumbers 34 = .ok (.arraylength, 1) := dX6_readNumbers_34_b.1
theorem dX6_readNumbers_35 : decode cX6_readNumbers 35 = .ok (.iconst 1, 1) := dX6_readNumbers_34_b.2.1
theorem dX6_readNumbers_36 : decode cX6_readNumbers 36 = .ok (.isub, 1) := dX6_readNumbers_34_b.2.2.1
theorem dX6_readNumbers_37 : decode cX6_readNumbers 37 = .ok (.if_icmp .ne 8, 3) := dX6_readNumbers_34_b.2.2.2.1
theorem dX6_readNumbers_40 : decode cX6_readNumbers 40 = .ok (.bipush 59, 2) := dX6_readNumbers_34_b.2.2.2.2.1
theorem dX6_readNumbers_42 : decode cX6_readNumbers 42 = .ok (.goto 5, 3) := dX6_readNumbers_34_b.2.2.2.2.2.1
theorem dX6_readNumbers_45 : decode cX6_readNumbers 45 = .ok (.bipush 44, 2) := dX6_readNumbers_34_b.2.2.2.2.2.2.1
theorem dX6_readNumbers_47 : decode cX6_readNumbers 47 = .ok (.invokevirtual 90, 3) := dX6_readNumbers_34_b.2.2.2.2.2.2.2.1
theorem dX6_readNumbers_50 : decode cX6_readNumbers 50 = .ok (.iinc 3 1, 3) := dX6_readNumbers_34_b.2.2.2.2.2.2.2.2.1
theorem dX6_readNumbers_53 : decode cX6_readNumbers 53 = .ok (.goto (-51), 3) := dX6_readNumbers_34_b.2.2.2.2.2.2.2.2.2.1
theorem dX6_readNumbers_56 : decode cX6_readNumbers 56 = .ok (.return_, 1) := dX6_readNumbers_34_b.2.2.2.2.2.2.2.2.2.2
theorem dX6_readNumber_0_b : (decode cX6_readNumber 0 = .ok (.aload_n 0, 1)) ∧ (decode cX6_readNumber 1 = .ok (.invokevirtual 94, 3)) ∧ (decode cX6_readNumber 4 = .ok (.istore_n 3, 1)) ∧ (decode cX6_readNumber 5 = .ok (.iload_n 3, 1)) ∧ (decode cX6_readNumber 6 = .ok (.ifCond .eq 8, 3)) ∧ (decode cX6_readNumber 9 = .ok (.iload_n 3, 1)) ∧ (decode cX6_readNumber 10 = .ok (.iconst 2, 1)) ∧ (decode cX6_readNumber 11 = .ok (.if_icmp .le 9, 3)) ∧ (decode cX6_readNumber 14 = .ok (.aload_n 0, 1)) ∧ (decode cX6_readNumber 15 = .ok (.iconst 1, 1)) ∧ (decode cX6_readNumber 16 = .ok (.putfield 21, 3)) ∧ (decode cX6_readNumber 19 = .ok (.return_, 1)) := by decide +kernel
theorem dX6_readNumber_0 : decode cX6_readNumber 0 = .ok (.aload_n 0, 1) := dX6_readNumber_0_b.1
theorem dX6_readNumber_1 : decode cX6_readNumber 1 = .ok (.invokevirtual 94, 3) := dX6_readNumber_0_b.2.1
theorem dX6_readNumber_4 : decode cX6_readNumber 4 = .ok (.istore_n 3, 1) := dX6_readNumber_0_b.2.2.1
theorem dX6_readNumber_5 : decode cX6_readNumber 5 = .ok (.iload_n 3, 1) := dX6_readNumber_0_b.2.2.2.1
theorem dX6_readNumber_6 : decode cX6_readNumber 6 = .ok (.ifCond .eq 8, 3) := dX6_readNumber_0_b.2.2.2.2.1
theorem dX6_readNumber_9 : decode cX6_readNumber 9 = .ok (.iload_n 3, 1) := dX6_readNumber_0_b.2.2.2.2.2.1
theorem dX6_readNumber_10 : decode cX6_readNumber 10 = .ok (.iconst 2, 1) := dX6_readNumber_0_b.2.2.2.2.2.2.1
theorem dX6_readNumber_11 : decode cX6_readNumber 11 = .ok (.if_icmp .le 9, 3) := dX6_readNumber_0_b.2.2.2.2.2.2.2.1
theorem dX6_readNumber_14 : decode cX6_readNumber 14 = .ok (.aload_n 0, 1) := dX6_readNumber_0_b.2.2.2.2.2.2.2.2.1
theorem dX6_readNumber_15 : decode cX6_readNumber 15 = .ok (.iconst 1, 1) := dX6_readNumber_0_b.2.2.2.2.2.2.2.2.2.1
theorem dX6_readNumber_16 : decode cX6_readNumber 16 = .ok (.putfield 21, 3) := dX6_readNumber_0_b.2.2.2.2.2.2.2.2.2.2.1
theorem dX6_readNumber_19 : decode cX6_readNumber 19 = .ok (.return_, 1) := dX6_readNumber_0_b.2.2.2.2.2.2.2.2.2.2.2
theorem dX6_readNumber_20_b : (decode cX6_readNumber 20 = .ok (.iconst 0, 1)) ∧ (decode cX6_readNumber 21 = .ok (.istore 4, 2)) ∧ (decode cX6_readNumber 23 = .ok (.aload_n 0, 1)) ∧ (decode cX6_readNumber 24 = .ok (.getfield 24, 3)) ∧ (decode cX6_readNumber 27 = .ok (.istore 5, 2)) ∧ (decode cX6_readNumber 29 = .ok (.iload 5, 2)) ∧ (decode cX6_readNumber 31 = .ok (.aload_n 0, 1)) ∧ (decode cX6_readNumber 32 = .ok (.getfield 24, 3)) ∧ (decode cX6_readNumber 35 = .ok (.iload_n 3, 1)) ∧ (decode cX6_readNumber 36 = .ok (.iadd, 1)) ∧ (decode cX6_readNumber 37 = .ok (.if_icmp .ge 27, 3)) ∧ (decode cX6_readNumber 40 = .ok (.bipush 10, 2)) := by decide +kernel
theorem dX6_readNumber_20 : decode cX6_readNumber 20 = .ok (.iconst 0, 1) := dX6_readNumber_20_b.1
theorem dX6_readNumber_21 : decode cX6_readNumber 21 = .ok (.istore 4, 2) := dX6_readNumber_20_b.2.1
theorem dX6_readNumber_23 : decode cX6_readNumber 23 = .ok (.aload_n 0, 1) := dX6_readNumber_20_b.2.2.1
theorem dX6_readNumber_24 : decode cX6_readNumber 24 = .ok (.getfield 24, 3) := dX6_readNumber_20_b.2.2.2.1
theorem dX6_readNumber_27 : decode cX6_readNumber 27 = .ok (.istore 5, 2) := dX6_readNumber_20_b.2.2.2.2.1
theorem dX6_readNumber_29 : decode cX6_readNumber 29 = .ok (.iload 5, 2) := dX6_readNumber_20_b.2.2.2.2.2.1
theorem dX6_readNumber_31 : decode cX6_readNumber 31 = .ok (.aload_n 0, 1) := dX6_readNumber_20_b.2.2.2.2.2.2.1
theorem dX6_readNumber_32 : decode cX6_readNumber 32 = .ok (.getfield 24, 3) := dX6_readNumber_20_b.2.2.2.2.2.2.2.1
theorem dX6_readNumber_35 : decode cX6_readNumber 35 = .ok (.iload_n 3, 1) := dX6_readNumber_20_b.2.2.2.2.2.2.2.2.1
theorem dX6_readNumber_36 : decode cX6_readNumber 36 = .ok (.iadd, 1) := dX6_readNumber_20_b.2.2.2.2.2.2.2.2.2.1
theorem dX6_readNumber_37 : decode cX6_readNumber 37 = .ok (.if_icmp .ge 27, 3) := dX6_readNumber_20_b.2.2.2.2.2.2.2.2.2.2.1
theorem dX6_readNumber_40 : decode cX6_readNumber 40 = .ok (.bipush 10, 2) := dX6_readNumber_20_b.2.2.2.2.2.2.2.2.2.2.2
theorem dX6_readNumber_42_b : (decode cX6_readNumber 42 = .ok (.iload 4, 2)) ∧ (decode cX6_readNumber 44 = .ok (.imul, 1)) ∧ (decode cX6_readNumber 45 = .ok (.aload_n 0, 1)) ∧ (decode cX6_readNumber 46 = .ok (.getfield 13, 3)) ∧ (decode cX6_readNumber 49 = .ok (.iload 5, 2)) ∧ (decode cX6_readNumber 51 = .ok (.iaload, 1)) ∧ (decode cX6_readNumber 52 = .ok (.iadd, 1)) ∧ (decode cX6_readNumber 53 = .ok (.bipush 48, 2)) ∧ (decode cX6_readNumber 55 = .ok (.isub, 1)) ∧ (decode cX6_readNumber 56 = .ok (.istore 4, 2)) ∧ (decode cX6_readNumber 58 = .ok (.iinc 5 1, 3)) ∧ (decode cX6_readNumber 61 = .ok (.goto (-32), 3)) := by decide +kernel
theorem dX6_readNumber_42 : decode cX6_readNumber 42 = .ok (.iload 4, 2) := dX6_readNumber_42_b.1
theorem dX6_readNumber_44 : decode cX6_readNumber 44 = .ok (.imul, 1) := dX6_readNumber_42_b.2.1
theorem dX6_readNumber_45 : decode cX6_readNumber 45 = .ok (.aload_n 0, 1) := dX6_readNumber_42_b.2.2.1
theorem dX6_readNumber_46 : decode cX6_readNumber 46 = .ok (.getfield 13, 3) := dX6_readNumber_42_b.2.2.2.1
theorem dX6_readNumber_49 : decode cX6_readNumber 49 = .ok (.iload 5, 2) := dX6_readNumber_42_b.2.2.2.2.1
theorem dX6_readNumber_51 : decode cX6_readNumber 51 = .ok (.iaload, 1) := dX6_readNumber_42_b.2.2.2.2.2.1
theorem dX6_readNumber_52 : decode cX6_readNumber 52 = .ok (.iadd, 1) := dX6_readNumber_42_b.2.2.2.2.2.2.1
theorem dX6_readNumber_53 : decode cX6_readNumber 53 = .ok (.bipush 48, 2) := dX6_readNumber_42_b.2.2.2.2.2.2.2.1
theorem dX6_readNumber_55 : decode cX6_readNumber 55 = .ok (.isub, 1) := dX6_readNumber_42_b.2.2.2.2.2.2.2.2.1
theorem dX6_readNumber_56 : decode cX6_readNumber 56 = .ok (.istore 4, 2) := dX6_readNumber_42_b.2.2.2.2.2.2.2.2.2.1
theorem dX6_readNumber_58 : decode cX6_readNumber 58 = .ok (.iinc 5 1, 3) := dX6_readNumber_42_b.2.2.2.2.2.2.2.2.2.2.1
theorem dX6_readNumber_61 : decode cX6_readNumber 61 = .ok (.goto (-32), 3) := dX6_readNumber_42_b.2.2.2.2.2.2.2.2.2.2.2
theorem dX6_readNumber_64_b : (decode cX6_readNumber 64 = .ok (.iload 4, 2)) ∧ (decode cX6_readNumber 66 = .ok (.iload_n 1, 1)) ∧ (decode cX6_readNumber 67 = .ok (.if_icmp .lt 18, 3)) ∧ (decode cX6_readNumber 70 = .ok (.iload 4, 2)) ∧ (decode cX6_readNumber 72 = .ok (.iload_n 2, 1)) ∧ (decode cX6_readNumber 73 = .ok (.if_icmp .gt 12, 3)) ∧ (decode cX6_readNumber 76 = .ok (.aload_n 0, 1)) ∧ (decode cX6_readNumber 77 = .ok (.getfield 39, 3)) ∧ (decode cX6_readNumber 80 = .ok (.bipush 37, 2)) ∧ (decode cX6_readNumber 82 = .ok (.if_icmp .lt 9, 3)) ∧ (decode cX6_readNumber 85 = .ok (.aload_n 0, 1)) ∧ (decode cX6_readNumber 86 = .ok (.iconst 2, 1)) := by decide +kernel
theorem dX6_readNumber_64 : decode cX6_readNumber 64 = .ok (.iload 4, 2) := dX6_readNumber_64_b.1
theorem dX6_readNumber_66 : decode cX6_readNumber 66 = .ok (.iload_n 1, 1) := dX6_readNumber_64_b.2.1
theorem dX6_readNumber_67 : decode cX6_readNumber 67 = .ok (.if_icmp .lt 18, 3) := dX6_readNumber_64_b.2.2.1
theorem dX6_readNumber_70 : decode cX6_readNumber 70 = .ok (.iload 4, 2) := dX6_readNumber_64_b.2.2.2.1
theorem dX6_readNumber_72 : decode cX6_readNumber 72 = .ok (.iload_n 2, 1) := dX6_readNumber_64_b.2.2.2.2.1
theorem dX6_readNumber_73 : decode cX6_readNumber 73 = .ok (.if_icmp .gt 12, 3) := dX6_readNumber_64_b.2.2.2.2.2.1
theorem dX6_readNumber_76 : decode cX6_readNumber 76 = .ok (.aload_n 0, 1) := dX6_readNumber_64_b.2.2.2.2.2.2.1
theorem dX6_readNumber_77 : decode cX6_readNumber 77 = .ok (.getfield 39, 3) := dX6_readNumber_64_b.2.2.2.2.2.2.2.1
theorem dX6_readNumber_80 : decode cX6_readNumber 80 = .ok (.bipush 37, 2) := dX6_readNumber_64_b.2.2.2.2.2.2.2.2.1
theorem dX6_readNumber_82 : decode cX6_readNumber 82 = .ok (.if_icmp .lt 9, 3) := dX6_readNumber_64_b.2.2.2.2.2.2.2.2.2.1
theorem dX6_readNumber_85 : decode cX6_readNumber 85 = .ok (.aload_n 0, 1) := dX6_readNumber_64_b.2.2.2.2.2.2.2.2.2.2.1
theorem dX6_readNumber_86 : decode cX6_readNumber 86 = .ok (.iconst 2, 1) := dX6_readNumber_64_b.2.2.2.2.2.2.2.2.2.2.2
theorem dX6_readNumber_87_b : (decode cX6_readNumber 87 = .ok (.putfield 21, 3)) ∧ (decode cX6_readNumber 90 = .ok (.return_, 1)) ∧ (decode cX6_readNumber 91 = .ok (.aload_n 0, 1)) ∧ (decode cX6_readNumber 92 = .ok (.getfield 36, 3)) ∧ (decode cX6_readNumber 95 = .ok (.aload_n 0, 1)) ∧ (decode cX6_readNumber 96 = .ok (.getfield 39, 3)) ∧ (decode cX6_readNumber 99 = .ok (.iload 4, 2)) ∧ (decode cX6_readNumber 101 = .ok (.iastore, 1)) ∧ (decode cX6_readNumber 102 = .ok (.aload_n 0, 1)) ∧ (decode cX6_readNumber 103 = .ok (.dup, 1)) ∧ (decode cX6_readNumber 104 = .ok (.getfield 39, 3)) ∧ (decode cX6_readNumber 107 = .ok (.iconst 1, 1)) := by decide +kernel
theorem dX6_readNumber_87 : decode cX6_readNumber 87 = .ok (.putfield 21, 3) := dX6_readNumber_87_b.1
theorem dX6_readNumber_90 : decode cX6_readNumber 90 = .ok (.return_, 1) := dX6_readNumber_87_b.2.1
theorem dX6_readNumber_91 : decode cX6_readNumber 91 = .ok (.aload_n 0, 1) := dX6_readNumber_87_b.2.2.1
theorem dX6_readNumber_92 : decode cX6_readNumber 92 = .ok (.getfield 36, 3) := dX6_readNumber_87_b.2.2.2.1
theorem dX6_readNumber_95 : decode cX6_readNumber 95 = .ok (.aload_n 0, 1) := dX6_readNumber_87_b.2.2.2.2.1
theorem dX6_readNumber_96 : decode cX6_readNumber 96 = .ok (.getfield 39, 3) := dX6_readNumber_87_b.2.2.2.2.2.1
theorem dX6_readNumber_99 : decode cX6_readNumber 99 = .ok (.iload 4, 2) := dX6_readNumber_87_b.2.2.2.2.2.2.1
theorem dX6_readNumber_101 : decode cX6_readNumber 101 = .ok (.iastore, 1) := dX6_readNumber_87_b.2.2.2.2.2.2.2.1
theorem dX6_readNumber_102 : decode cX6_readNumber 102 = .ok (.aload_n 0, 1) := dX6_readNumber_87_b.2.2.2.2.2.2.2.2.1
theorem dX6_readNumber_103 : decode cX6_readNumber 103 = .ok (.dup, 1) := dX6_readNumber_87_b.2.2.2.2.2.2.2.2.2.1
theorem dX6_readNumber_104 : decode cX6_readNumber 104 = .ok (.getfield 39, 3) := dX6_readNumber_87_b.2.2.2.2.2.2.2.2.2.2.1
theorem dX6_readNumber_107 : decode cX6_readNumber 107 = .ok (.iconst 1, 1) := dX6_readNumber_87_b.2.2.2.2.2.2.2.2.2.2.2
theorem dX6_readNumber_108_b : (decode cX6_readNumber 108 = .ok (.iadd, 1)) ∧ (decode cX6_readNumber 109 = .ok (.putfield 39, 3)) ∧ (decode cX6_readNumber 112 = .ok (.aload_n 0, 1)) ∧ (decode cX6_readNumber 113 = .ok (.dup, 1)) ∧ (decode cX6_readNumber 114 = .ok (.getfield 24, 3)) ∧ (decode cX6_readNumber 117 = .ok (.iload_n 3, 1)) ∧ (decode cX6_readNumber 118 = .ok (.iadd, 1)) ∧ (decode cX6_readNumber 119 = .ok (.putfield 24, 3)) ∧ (decode cX6_readNumber 122 = .ok (.return_, 1)) := by decide +kernel
theorem dX6_readNumber_108 : decode cX6_readNumber 108 = .ok (.iadd, 1) := dX6_readNumber_108_b.1
theorem dX6_readNumber_109 : decode cX6_readNumber 109 = .ok (.putfield 39, 3) := dX6_readNumber_108_b.2.1
theorem dX6_readNumber_112 : decode cX6_readNumber 112 = .ok (.aload_n 0, 1) := dX6_readNumber_108_b.2.2.1
theorem dX6_readNumber_113 : decode cX6_readNumber 113 = .ok (.dup, 1) := dX6_readNumber_108_b.2.2.2.1
theorem dX6_readNumber_114 : decode cX6_readNumber 114 = .ok (.getfield 24, 3) := dX6_readNumber_108_b.2.2.2.2.1
theorem dX6_readNumber_117 : decode cX6_readNumber 117 = .ok (.iload_n 3, 1) := dX6_readNumber_108_b.2.2.2.2.2.1
theorem dX6_readNumber_118 : decode cX6_readNumber 118 = .ok (.iadd, 1) := dX6_readNumber_108_b.2.2.2.2.2.2.1
theorem dX6_readNumber_119 : decode cX6_readNumber 119 = .ok (.putfield 24, 3) := dX6_readNumber_108_b.2.2.2.2.2.2.2.1
theorem dX6_readNumber_122 : decode cX6_readNumber 122 = .ok (.return_, 1) := dX6_readNumber_108_b.2.2.2.2.2.2.2.2
theorem dX6_figuresHere_0_b : (decode cX6_figuresHere 0 = .ok (.iconst 0, 1)) ∧ (decode cX6_figuresHere 1 = .ok (.istore_n 1, 1)) ∧ (decode cX6_figuresHere 2 = .ok (.aload_n 0, 1)) ∧ (decode cX6_figuresHere 3 = .ok (.getfield 24, 3)) ∧ (decode cX6_figuresHere 6 = .ok (.istore_n 2, 1)) ∧ (decode cX6_figuresHere 7 = .ok (.iload_n 2, 1)) ∧ (decode cX6_figuresHere 8 = .ok (.aload_n 0, 1)) ∧ (decode cX6_figuresHere 9 = .ok (.getfield 17, 3)) ∧ (decode cX6_figuresHere 12 = .ok (.if_icmp .ge 34, 3)) ∧ (decode cX6_figuresHere 15 = .ok (.aload_n 0, 1)) ∧ (decode cX6_figuresHere 16 = .ok (.getfield 13, 3)) ∧ (decode cX6_figuresHere 19 = .ok (.iload_n 2, 1)) := by decide +kernel
theorem dX6_figuresHere_0 : decode cX6_figuresHere 0 = .ok (.iconst 0, 1) := dX6_figuresHere_0_b.1
theorem dX6_figuresHere_1 : decode cX6_figuresHere 1 = .ok (.istore_n 1, 1) := dX6_figuresHere_0_b.2.1
theorem dX6_figuresHere_2 : decode cX6_figuresHere 2 = .ok (.aload_n 0, 1) := dX6_figuresHere_0_b.2.2.1
theorem dX6_figuresHere_3 : decode cX6_figuresHere 3 = .ok (.getfield 24, 3) := dX6_figuresHere_0_b.2.2.2.1
theorem dX6_figuresHere_6 : decode cX6_figuresHere 6 = .ok (.istore_n 2, 1) := dX6_figuresHere_0_b.2.2.2.2.1
theorem dX6_figuresHere_7 : decode cX6_figuresHere 7 = .ok (.iload_n 2, 1) := dX6_figuresHere_0_b.2.2.2.2.2.1
theorem dX6_figuresHere_8 : decode cX6_figuresHere 8 = .ok (.aload_n 0, 1) := dX6_figuresHere_0_b.2.2.2.2.2.2.1
theorem dX6_figuresHere_9 : decode cX6_figuresHere 9 = .ok (.getfield 17, 3) := dX6_figuresHere_0_b.2.2.2.2.2.2.2.1
theorem dX6_figuresHere_12 : decode cX6_figuresHere 12 = .ok (.if_icmp .ge 34, 3) := dX6_figuresHere_0_b.2.2.2.2.2.2.2.2.1
theorem dX6_figuresHere_15 : decode cX6_figuresHere 15 = .ok (.aload_n 0, 1) := dX6_figuresHere_0_b.2.2.2.2.2.2.2.2.2.1
theorem dX6_figuresHere_16 : decode cX6_figuresHere 16 = .ok (.getfield 13, 3) := dX6_figuresHere_0_b.2.2.2.2.2.2.2.2.2.2.1
theorem dX6_figuresHere_19 : decode cX6_figuresHere 19 = .ok (.iload_n 2, 1) := dX6_figuresHere_0_b.2.2.2.2.2.2.2.2.2.2.2
theorem dX6_figuresHere_20_b : (decode cX6_figuresHere 20 = .ok (.iaload, 1)) ∧ (decode cX6_figuresHere 21 = .ok (.bipush 48, 2)) ∧ (decode cX6_figuresHere 23 = .ok (.if_icmp .lt 23, 3)) ∧ (decode cX6_figuresHere 26 = .ok (.aload_n 0, 1)) ∧ (decode cX6_figuresHere 27 = .ok (.getfield 13, 3)) ∧ (decode cX6_figuresHere 30 = .ok (.iload_n 2, 1)) ∧ (decode cX6_figuresHere 31 = .ok (.iaload, 1)) ∧ (decode cX6_figuresHere 32 = .ok (.bipush 57, 2)) ∧ (decode cX6_figuresHere 34 = .ok (.if_icmp .gt 12, 3)) ∧ (decode cX6_figuresHere 37 = .ok (.iinc 1 1, 3)) ∧ (decode cX6_figuresHere 40 = .ok (.iinc 2 1, 3)) ∧ (decode cX6_figuresHere 43 = .ok (.goto (-36), 3)) := by decide +kernel
theorem dX6_figuresHere_20 : decode cX6_figuresHere 20 = .ok (.iaload, 1) := dX6_figuresHere_20_b.1
theorem dX6_figuresHere_21 : decode cX6_figuresHere 21 = .ok (.bipush 48, 2) := dX6_figuresHere_20_b.2.1
theorem dX6_figuresHere_23 : decode cX6_figuresHere 23 = .ok (.if_icmp .lt 23, 3) := dX6_figuresHere_20_b.2.2.1
theorem dX6_figuresHere_26 : decode cX6_figuresHere 26 = .ok (.aload_n 0, 1) := dX6_figuresHere_20_b.2.2.2.1
theorem dX6_figuresHere_27 : decode cX6_figuresHere 27 = .ok (.getfield 13, 3) := dX6_figuresHere_20_b.2.2.2.2.1
theorem dX6_figuresHere_30 : decode cX6_figuresHere 30 = .ok (.iload_n 2, 1) := dX6_figuresHere_20_b.2.2.2.2.2.1
theorem dX6_figuresHere_31 : decode cX6_figuresHere 31 = .ok (.iaload, 1) := dX6_figuresHere_20_b.2.2.2.2.2.2.1
theorem dX6_figuresHere_32 : decode cX6_figuresHere 32 = .ok (.bipush 57, 2) := dX6_figuresHere_20_b.2.2.2.2.2.2.2.1
theorem dX6_figuresHere_34 : decode cX6_figuresHere 34 = .ok (.if_icmp .gt 12, 3) := dX6_figuresHere_20_b.2.2.2.2.2.2.2.2.1
theorem dX6_figuresHere_37 : decode cX6_figuresHere 37 = .ok (.iinc 1 1, 3) := dX6_figuresHere_20_b.2.2.2.2.2.2.2.2.2.1
theorem dX6_figuresHere_40 : decode cX6_figuresHere 40 = .ok (.iinc 2 1, 3) := dX6_figuresHere_20_b.2.2.2.2.2.2.2.2.2.2.1
theorem dX6_figuresHere_43 : decode cX6_figuresHere 43 = .ok (.goto (-36), 3) := dX6_figuresHere_20_b.2.2.2.2.2.2.2.2.2.2.2
theorem dX6_figuresHere_46_b : (decode cX6_figuresHere 46 = .ok (.iload_n 1, 1)) ∧ (decode cX6_figuresHere 47 = .ok (.ireturn, 1)) := by decide +kernel
theorem dX6_figuresHere_46 : decode cX6_figuresHere 46 = .ok (.iload_n 1, 1) := dX6_figuresHere_46_b.1
theorem dX6_figuresHere_47 : decode cX6_figuresHere 47 = .ok (.ireturn, 1) := dX6_figuresHere_46_b.2
theorem dX6_readSign_0_b : (decode cX6_readSign 0 = .ok (.aload_n 0, 1)) ∧ (decode cX6_readSign 1 = .ok (.getfield 21, 3)) ∧ (decode cX6_readSign 4 = .ok (.ifCond .eq 4, 3)) ∧ (decode cX6_readSign 7 = .ok (.return_, 1)) ∧ (decode cX6_readSign 8 = .ok (.aload_n 0, 1)) ∧ (decode cX6_readSign 9 = .ok (.invokevirtual 47, 3)) ∧ (decode cX6_readSign 12 = .ok (.iload_n 1, 1)) ∧ (decode cX6_readSign 13 = .ok (.if_icmp .eq 9, 3)) ∧ (decode cX6_readSign 16 = .ok (.aload_n 0, 1)) ∧ (decode cX6_readSign 17 = .ok (.iconst 1, 1)) ∧ (decode cX6_readSign 18 = .ok (.putfield 21, 3)) ∧ (decode cX6_readSign 21 = .ok (.return_, 1)) := by decide +kernel
theorem dX6_readSign_0 : decode cX6_readSign 0 = .ok (.aload_n 0, 1) := dX6_readSign_0_b.1
theorem dX6_readSign_1 : decode cX6_readSign 1 = .ok (.getfield 21, 3) := dX6_readSign_0_b.2.1
theorem dX6_readSign_4 : decode cX6_readSign 4 = .ok (.ifCond .eq 4, 3) := dX6_readSign_0_b.2.2.1
theorem dX6_readSign_7 : decode cX6_readSign 7 = .ok (.return_, 1) := dX6_readSign_0_b.2.2.2.1
theorem dX6_readSign_8 : decode cX6_readSign 8 = .ok (.aload_n 0, 1) := dX6_readSign_0_b.2.2.2.2.1
theorem dX6_readSign_9 : decode cX6_readSign 9 = .ok (.invokevirtual 47, 3) := dX6_readSign_0_b.2.2.2.2.2.1
theorem dX6_readSign_12 : decode cX6_readSign 12 = .ok (.iload_n 1, 1) := dX6_readSign_0_b.2.2.2.2.2.2.1
theorem dX6_readSign_13 : decode cX6_readSign 13 = .ok (.if_icmp .eq 9, 3) := dX6_readSign_0_b.2.2.2.2.2.2.2.1
theorem dX6_readSign_16 : decode cX6_readSign 16 = .ok (.aload_n 0, 1) := dX6_readSign_0_b.2.2.2.2.2.2.2.2.1
theorem dX6_readSign_17 : decode cX6_readSign 17 = .ok (.iconst 1, 1) := dX6_readSign_0_b.2.2.2.2.2.2.2.2.2.1
theorem dX6_readSign_18 : decode cX6_readSign 18 = .ok (.putfield 21, 3) := dX6_readSign_0_b.2.2.2.2.2.2.2.2.2.2.1
theorem dX6_readSign_21 : decode cX6_readSign 21 = .ok (.return_, 1) := dX6_readSign_0_b.2.2.2.2.2.2.2.2.2.2.2
theorem dX6_readSign_22_b : (decode cX6_readSign 22 = .ok (.aload_n 0, 1)) ∧ (decode cX6_readSign 23 = .ok (.dup, 1)) ∧ (decode cX6_readSign 24 = .ok (.getfield 24, 3)) ∧ (decode cX6_readSign 27 = .ok (.iconst 1, 1)) ∧ (decode cX6_readSign 28 = .ok (.iadd, 1)) ∧ (decode cX6_readSign 29 = .ok (.putfield 24, 3)) ∧ (decode cX6_readSign 32 = .ok (.return_, 1)) := by decide +kernel
theorem dX6_readSign_22 : decode cX6_readSign 22 = .ok (.aload_n 0, 1) := dX6_readSign_22_b.1
theorem dX6_readSign_23 : decode cX6_readSign 23 = .ok (.dup, 1) := dX6_readSign_22_b.2.1
theorem dX6_readSign_24 : decode cX6_readSign 24 = .ok (.getfield 24, 3) := dX6_readSign_22_b.2.2.1
theorem dX6_readSign_27 : decode cX6_readSign 27 = .ok (.iconst 1, 1) := dX6_readSign_22_b.2.2.2.1
theorem dX6_readSign_28 : decode cX6_readSign 28 = .ok (.iadd, 1) := dX6_readSign_22_b.2.2.2.2.1
theorem dX6_readSign_29 : decode cX6_readSign 29 = .ok (.putfield 24, 3) := dX6_readSign_22_b.2.2.2.2.2.1
theorem dX6_readSign_32 : decode cX6_readSign 32 = .ok (.return_, 1) := dX6_readSign_22_b.2.2.2.2.2.2
theorem dX6_toldWool_0_b : (decode cX6_toldWool 0 = .ok (.aload_n 0, 1)) ∧ (decode cX6_toldWool 1 = .ok (.getfield 36, 3)) ∧ (decode cX6_toldWool 4 = .ok (.iconst 0, 1)) ∧ (decode cX6_toldWool 5 = .ok (.iaload, 1)) ∧ (decode cX6_toldWool 6 = .ok (.ireturn, 1)) := by decide +kernel
theorem dX6_toldWool_0 : decode cX6_toldWool 0 = .ok (.aload_n 0, 1) := dX6_toldWool_0_b.1
theorem dX6_toldWool_1 : decode cX6_toldWool 1 = .ok (.getfield 36, 3) := dX6_toldWool_0_b.2.1
theorem dX6_toldWool_4 : decode cX6_toldWool 4 = .ok (.iconst 0, 1) := dX6_toldWool_0_b.2.2.1
theorem dX6_toldWool_5 : decode cX6_toldWool 5 = .ok (.iaload, 1) := dX6_toldWool_0_b.2.2.2.1
theorem dX6_toldWool_6 : decode cX6_toldWool 6 = .ok (.ireturn, 1) := dX6_toldWool_0_b.2.2.2.2
theorem dX6_toldOfEar_0_b : (decode cX6_toldOfEar 0 = .ok (.aload_n 0, 1)) ∧ (decode cX6_toldOfEar 1 = .ok (.getfield 36, 3)) ∧ (decode cX6_toldOfEar 4 = .ok (.iconst 1, 1)) ∧ (decode cX6_toldOfEar 5 = .ok (.iconst 4, 1)) ∧ (decode cX6_toldOfEar 6 = .ok (.iload_n 1, 1)) ∧ (decode cX6_toldOfEar 7 = .ok (.imul, 1)) ∧ (decode cX6_toldOfEar 8 = .ok (.iadd, 1)) ∧ (decode cX6_toldOfEar 9 = .ok (.iload_n 2, 1)) ∧ (decode cX6_toldOfEar 10 = .ok (.iadd, 1)) ∧ (decode cX6_toldOfEar 11 = .ok (.iaload, 1)) ∧ (decode cX6_toldOfEar 12 = .ok (.ireturn, 1)) := by decide +kernel
theorem dX6_toldOfEar_0 : decode cX6_toldOfEar 0 = .ok (.aload_n 0, 1) := dX6_toldOfEar_0_b.1
theorem dX6_toldOfEar_1 : decode cX6_toldOfEar 1 = .ok (.getfield 36, 3) := dX6_toldOfEar_0_b.2.1
theorem dX6_toldOfEar_4 : decode cX6_toldOfEar 4 = .ok (.iconst 1, 1) := dX6_toldOfEar_0_b.2.2.1
theorem dX6_toldOfEar_5 : decode cX6_toldOfEar 5 = .ok (.iconst 4, 1) := dX6_toldOfEar_0_b.2.2.2.1
theorem dX6_toldOfEar_6 : decode cX6_toldOfEar 6 = .ok (.iload_n 1, 1) := dX6_toldOfEar_0_b.2.2.2.2.1
theorem dX6_toldOfEar_7 : decode cX6_toldOfEar 7 = .ok (.imul, 1) := dX6_toldOfEar_0_b.2.2.2.2.2.1
theorem dX6_toldOfEar_8 : decode cX6_toldOfEar 8 = .ok (.iadd, 1) := dX6_toldOfEar_0_b.2.2.2.2.2.2.1
theorem dX6_toldOfEar_9 : decode cX6_toldOfEar 9 = .ok (.iload_n 2, 1) := dX6_toldOfEar_0_b.2.2.2.2.2.2.2.1
theorem dX6_toldOfEar_10 : decode cX6_toldOfEar 10 = .ok (.iadd, 1) := dX6_toldOfEar_0_b.2.2.2.2.2.2.2.2.1
theorem dX6_toldOfEar_11 : decode cX6_toldOfEar 11 = .ok (.iaload, 1) := dX6_toldOfEar_0_b.2.2.2.2.2.2.2.2.2.1
theorem dX6_toldOfEar_12 : decode cX6_toldOfEar 12 = .ok (.ireturn, 1) := dX6_toldOfEar_0_b.2.2.2.2.2.2.2.2.2.2
theorem dX6_toldOfDoing_0_b : (decode cX6_toldOfDoing 0 = .ok (.aload_n 0, 1)) ∧ (decode cX6_toldOfDoing 1 = .ok (.getfield 36, 3)) ∧ (decode cX6_toldOfDoing 4 = .ok (.iconst 1, 1)) ∧ (decode cX6_toldOfDoing 5 = .ok (.iconst 4, 1)) ∧ (decode cX6_toldOfDoing 6 = .ok (.aload_n 0, 1)) ∧ (decode cX6_toldOfDoing 7 = .ok (.getfield 30, 3)) ∧ (decode cX6_toldOfDoing 10 = .ok (.imul, 1)) ∧ (decode cX6_toldOfDoing 11 = .ok (.iadd, 1)) ∧ (decode cX6_toldOfDoing 12 = .ok (.iconst 3, 1)) ∧ (decode cX6_toldOfDoing 13 = .ok (.iload_n 1, 1)) ∧ (decode cX6_toldOfDoing 14 = .ok (.imul, 1)) ∧ (decode cX6_toldOfDoing 15 = .ok (.iadd, 1)) := by decide +kernel
theorem dX6_toldOfDoing_0 : decode cX6_toldOfDoing 0 = .ok (.aload_n 0, 1) := dX6_toldOfDoing_0_b.1
theorem dX6_toldOfDoing_1 : decode cX6_toldOfDoing 1 = .ok (.getfield 36, 3) := dX6_toldOfDoing_0_b.2.1
theorem dX6_toldOfDoing_4 : decode cX6_toldOfDoing 4 = .ok (.iconst 1, 1) := dX6_toldOfDoing_0_b.2.2.1
theorem dX6_toldOfDoing_5 : decode cX6_toldOfDoing 5 = .ok (.iconst 4, 1) := dX6_toldOfDoing_0_b.2.2.2.1
theorem dX6_toldOfDoing_6 : decode cX6_toldOfDoing 6 = .ok (.aload_n 0, 1) := dX6_toldOfDoing_0_b.2.2.2.2.1
theorem dX6_toldOfDoing_7 : decode cX6_toldOfDoing 7 = .ok (.getfield 30, 3) := dX6_toldOfDoing_0_b.2.2.2.2.2.1
theorem dX6_toldOfDoing_10 : decode cX6_toldOfDoing 10 = .ok (.imul, 1) := dX6_toldOfDoing_0_b.2.2.2.2.2.2.1
theorem dX6_toldOfDoing_11 : decode cX6_toldOfDoing 11 = .ok (.iadd, 1) := dX6_toldOfDoing_0_b.2.2.2.2.2.2.2.1
theorem dX6_toldOfDoing_12 : decode cX6_toldOfDoing 12 = .ok (.iconst 3, 1) := dX6_toldOfDoing_0_b.2.2.2.2.2.2.2.2.1
theorem dX6_toldOfDoing_13 : decode cX6_toldOfDoing 13 = .ok (.iload_n 1, 1) := dX6_toldOfDoing_0_b.2.2.2.2.2.2.2.2.2.1
theorem dX6_toldOfDoing_14 : decode cX6_toldOfDoing 14 = .ok (.imul, 1) := dX6_toldOfDoing_0_b.2.2.2.2.2.2.2.2.2.2.1
theorem dX6_toldOfDoing_15 : decode cX6_toldOfDoing 15 = .ok (.iadd, 1) := dX6_toldOfDoing_0_b.2.2.2.2.2.2.2.2.2.2.2
theorem dX6_toldOfDoing_16_b : (decode cX6_toldOfDoing 16 = .ok (.iload_n 2, 1)) ∧ (decode cX6_toldOfDoing 17 = .ok (.iadd, 1)) ∧ (decode cX6_toldOfDoing 18 = .ok (.iaload, 1)) ∧ (decode cX6_toldOfDoing 19 = .ok (.ireturn, 1)) := by decide +kernel
theorem dX6_toldOfDoing_16 : decode cX6_toldOfDoing 16 = .ok (.iload_n 2, 1) := dX6_toldOfDoing_16_b.1
theorem dX6_toldOfDoing_17 : decode cX6_toldOfDoing 17 = .ok (.iadd, 1) := dX6_toldOfDoing_16_b.2.1
theorem dX6_toldOfDoing_18 : decode cX6_toldOfDoing 18 = .ok (.iaload, 1) := dX6_toldOfDoing_16_b.2.2.1
theorem dX6_toldOfDoing_19 : decode cX6_toldOfDoing 19 = .ok (.ireturn, 1) := dX6_toldOfDoing_16_b.2.2.2
