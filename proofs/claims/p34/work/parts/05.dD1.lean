theorem dX8_init_0_b : (decode cX8_init 0 = .ok (.aload_n 0, 1)) ∧ (decode cX8_init 1 = .ok (.invokespecial 1, 3)) ∧ (decode cX8_init 4 = .ok (.aload_n 0, 1)) ∧ (decode cX8_init 5 = .ok (.bipush 8, 2)) ∧ (decode cX8_init 7 = .ok (.newarray .int, 2)) ∧ (decode cX8_init 9 = .ok (.putfield 7, 3)) ∧ (decode cX8_init 12 = .ok (.aload_n 0, 1)) ∧ (decode cX8_init 13 = .ok (.bipush 8, 2)) ∧ (decode cX8_init 15 = .ok (.newarray .int, 2)) ∧ (decode cX8_init 17 = .ok (.putfield 13, 3)) ∧ (decode cX8_init 20 = .ok (.aload_n 0, 1)) ∧ (decode cX8_init 21 = .ok (.sipush 320, 3)) := by decide +kernel
theorem dX8_init_0 : decode cX8_init 0 = .ok (.aload_n 0, 1) := dX8_init_0_b.1
theorem dX8_init_1 : decode cX8_init 1 = .ok (.invokespecial 1, 3) := dX8_init_0_b.2.1
theorem dX8_init_4 : decode cX8_init 4 = .ok (.aload_n 0, 1) := dX8_init_0_b.2.2.1
theorem dX8_init_5 : decode cX8_init 5 = .ok (.bipush 8, 2) := dX8_init_0_b.2.2.2.1
theorem dX8_init_7 : decode cX8_init 7 = .ok (.newarray .int, 2) := dX8_init_0_b.2.2.2.2.1
theorem dX8_init_9 : decode cX8_init 9 = .ok (.putfield 7, 3) := dX8_init_0_b.2.2.2.2.2.1
theorem dX8_init_12 : decode cX8_init 12 = .ok (.aload_n 0, 1) := dX8_init_0_b.2.2.2.2.2.2.1
theorem dX8_init_13 : decode cX8_init 13 = .ok (.bipush 8, 2) := dX8_init_0_b.2.2.2.2.2.2.2.1
theorem dX8_init_15 : decode cX8_init 15 = .ok (.newarray .int, 2) := dX8_init_0_b.2.2.2.2.2.2.2.2.1
theorem dX8_init_17 : decode cX8_init 17 = .ok (.putfield 13, 3) := dX8_init_0_b.2.2.2.2.2.2.2.2.2.1
theorem dX8_init_20 : decode cX8_init 20 = .ok (.aload_n 0, 1) := dX8_init_0_b.2.2.2.2.2.2.2.2.2.2.1
theorem dX8_init_21 : decode cX8_init 21 = .ok (.sipush 320, 3) := dX8_init_0_b.2.2.2.2.2.2.2.2.2.2.2
theorem dX8_init_24_b : (decode cX8_init 24 = .ok (.newarray .int, 2)) ∧ (decode cX8_init 26 = .ok (.putfield 16, 3)) ∧ (decode cX8_init 29 = .ok (.aload_n 0, 1)) ∧ (decode cX8_init 30 = .ok (.bipush 40, 2)) ∧ (decode cX8_init 32 = .ok (.newarray .int, 2)) ∧ (decode cX8_init 34 = .ok (.putfield 19, 3)) ∧ (decode cX8_init 37 = .ok (.aload_n 0, 1)) ∧ (decode cX8_init 38 = .ok (.bipush 120, 2)) ∧ (decode cX8_init 40 = .ok (.newarray .int, 2)) ∧ (decode cX8_init 42 = .ok (.putfield 22, 3)) ∧ (decode cX8_init 45 = .ok (.aload_n 0, 1)) ∧ (decode cX8_init 46 = .ok (.bipush 68, 2)) := by decide +kernel
theorem dX8_init_24 : decode cX8_init 24 = .ok (.newarray .int, 2) := dX8_init_24_b.1
theorem dX8_init_26 : decode cX8_init 26 = .ok (.putfield 16, 3) := dX8_init_24_b.2.1
theorem dX8_init_29 : decode cX8_init 29 = .ok (.aload_n 0, 1) := dX8_init_24_b.2.2.1
theorem dX8_init_30 : decode cX8_init 30 = .ok (.bipush 40, 2) := dX8_init_24_b.2.2.2.1
theorem dX8_init_32 : decode cX8_init 32 = .ok (.newarray .int, 2) := dX8_init_24_b.2.2.2.2.1
theorem dX8_init_34 : decode cX8_init 34 = .ok (.putfield 19, 3) := dX8_init_24_b.2.2.2.2.2.1
theorem dX8_init_37 : decode cX8_init 37 = .ok (.aload_n 0, 1) := dX8_init_24_b.2.2.2.2.2.2.1
theorem dX8_init_38 : decode cX8_init 38 = .ok (.bipush 120, 2) := dX8_init_24_b.2.2.2.2.2.2.2.1
theorem dX8_init_40 : decode cX8_init 40 = .ok (.newarray .int, 2) := dX8_init_24_b.2.2.2.2.2.2.2.2.1
theorem dX8_init_42 : decode cX8_init 42 = .ok (.putfield 22, 3) := dX8_init_24_b.2.2.2.2.2.2.2.2.2.1
theorem dX8_init_45 : decode cX8_init 45 = .ok (.aload_n 0, 1) := dX8_init_24_b.2.2.2.2.2.2.2.2.2.2.1
theorem dX8_init_46 : decode cX8_init 46 = .ok (.bipush 68, 2) := dX8_init_24_b.2.2.2.2.2.2.2.2.2.2.2
theorem dX8_init_48_b : (decode cX8_init 48 = .ok (.newarray .int, 2)) ∧ (decode cX8_init 50 = .ok (.putfield 25, 3)) ∧ (decode cX8_init 53 = .ok (.aload_n 0, 1)) ∧ (decode cX8_init 54 = .ok (.bipush 68, 2)) ∧ (decode cX8_init 56 = .ok (.newarray .int, 2)) ∧ (decode cX8_init 58 = .ok (.putfield 28, 3)) ∧ (decode cX8_init 61 = .ok (.aload_n 0, 1)) ∧ (decode cX8_init 62 = .ok (.sipush 1632, 3)) ∧ (decode cX8_init 65 = .ok (.newarray .int, 2)) ∧ (decode cX8_init 67 = .ok (.putfield 31, 3)) ∧ (decode cX8_init 70 = .ok (.aload_n 0, 1)) ∧ (decode cX8_init 71 = .ok (.sipush 136, 3)) := by decide +kernel
theorem dX8_init_48 : decode cX8_init 48 = .ok (.newarray .int, 2) := dX8_init_48_b.1
theorem dX8_init_50 : decode cX8_init 50 = .ok (.putfield 25, 3) := dX8_init_48_b.2.1
theorem dX8_init_53 : decode cX8_init 53 = .ok (.aload_n 0, 1) := dX8_init_48_b.2.2.1
theorem dX8_init_54 : decode cX8_init 54 = .ok (.bipush 68, 2) := dX8_init_48_b.2.2.2.1
theorem dX8_init_56 : decode cX8_init 56 = .ok (.newarray .int, 2) := dX8_init_48_b.2.2.2.2.1
theorem dX8_init_58 : decode cX8_init 58 = .ok (.putfield 28, 3) := dX8_init_48_b.2.2.2.2.2.1
theorem dX8_init_61 : decode cX8_init 61 = .ok (.aload_n 0, 1) := dX8_init_48_b.2.2.2.2.2.2.1
theorem dX8_init_62 : decode cX8_init 62 = .ok (.sipush 1632, 3) := dX8_init_48_b.2.2.2.2.2.2.2.1
theorem dX8_init_65 : decode cX8_init 65 = .ok (.newarray .int, 2) := dX8_init_48_b.2.2.2.2.2.2.2.2.1
theorem dX8_init_67 : decode cX8_init 67 = .ok (.putfield 31, 3) := dX8_init_48_b.2.2.2.2.2.2.2.2.2.1
theorem dX8_init_70 : decode cX8_init 70 = .ok (.aload_n 0, 1) := dX8_init_48_b.2.2.2.2.2.2.2.2.2.2.1
theorem dX8_init_71 : decode cX8_init 71 = .ok (.sipush 136, 3) := dX8_init_48_b.2.2.2.2.2.2.2.2.2.2.2
theorem dX8_init_74_b : (decode cX8_init 74 = .ok (.newarray .int, 2)) ∧ (decode cX8_init 76 = .ok (.putfield 34, 3)) ∧ (decode cX8_init 79 = .ok (.aload_n 0, 1)) ∧ (decode cX8_init 80 = .ok (.iconst 2, 1)) ∧ (decode cX8_init 81 = .ok (.newarray .boolean, 2)) ∧ (decode cX8_init 83 = .ok (.putfield 37, 3)) ∧ (decode cX8_init 86 = .ok (.aload_n 0, 1)) ∧ (decode cX8_init 87 = .ok (.bipush 68, 2)) ∧ (decode cX8_init 89 = .ok (.newarray .int, 2)) ∧ (decode cX8_init 91 = .ok (.putfield 41, 3)) ∧ (decode cX8_init 94 = .ok (.aload_n 0, 1)) ∧ (decode cX8_init 95 = .ok (.bipush 100, 2)) := by decide +kernel
theorem dX8_init_74 : decode cX8_init 74 = .ok (.newarray .int, 2) := dX8_init_74_b.1
theorem dX8_init_76 : decode cX8_init 76 = .ok (.putfield 34, 3) := dX8_init_74_b.2.1
theorem dX8_init_79 : decode cX8_init 79 = .ok (.aload_n 0, 1) := dX8_init_74_b.2.2.1
theorem dX8_init_80 : decode cX8_init 80 = .ok (.iconst 2, 1) := dX8_init_74_b.2.2.2.1
theorem dX8_init_81 : decode cX8_init 81 = .ok (.newarray .boolean, 2) := dX8_init_74_b.2.2.2.2.1
theorem dX8_init_83 : decode cX8_init 83 = .ok (.putfield 37, 3) := dX8_init_74_b.2.2.2.2.2.1
theorem dX8_init_86 : decode cX8_init 86 = .ok (.aload_n 0, 1) := dX8_init_74_b.2.2.2.2.2.2.1
theorem dX8_init_87 : decode cX8_init 87 = .ok (.bipush 68, 2) := dX8_init_74_b.2.2.2.2.2.2.2.1
theorem dX8_init_89 : decode cX8_init 89 = .ok (.newarray .int, 2) := dX8_init_74_b.2.2.2.2.2.2.2.2.1
theorem dX8_init_91 : decode cX8_init 91 = .ok (.putfield 41, 3) := dX8_init_74_b.2.2.2.2.2.2.2.2.2.1
theorem dX8_init_94 : decode cX8_init 94 = .ok (.aload_n 0, 1) := dX8_init_74_b.2.2.2.2.2.2.2.2.2.2.1
theorem dX8_init_95 : decode cX8_init 95 = .ok (.bipush 100, 2) := dX8_init_74_b.2.2.2.2.2.2.2.2.2.2.2
theorem dX8_init_97_b : (decode cX8_init 97 = .ok (.newarray .int, 2)) ∧ (decode cX8_init 99 = .ok (.putfield 44, 3)) ∧ (decode cX8_init 102 = .ok (.aload_n 0, 1)) ∧ (decode cX8_init 103 = .ok (.bipush 16, 2)) ∧ (decode cX8_init 105 = .ok (.newarray .int, 2)) ∧ (decode cX8_init 107 = .ok (.putfield 47, 3)) ∧ (decode cX8_init 110 = .ok (.iconst 0, 1)) ∧ (decode cX8_init 111 = .ok (.istore_n 1, 1)) ∧ (decode cX8_init 112 = .ok (.iload_n 1, 1)) ∧ (decode cX8_init 113 = .ok (.bipush 8, 2)) ∧ (decode cX8_init 115 = .ok (.if_icmp .ge 17, 3)) ∧ (decode cX8_init 118 = .ok (.aload_n 0, 1)) := by decide +kernel
theorem dX8_init_97 : decode cX8_init 97 = .ok (.newarray .int, 2) := dX8_init_97_b.1
theorem dX8_init_99 : decode cX8_init 99 = .ok (.putfield 44, 3) := dX8_init_97_b.2.1
theorem dX8_init_102 : decode cX8_init 102 = .ok (.aload_n 0, 1) := dX8_init_97_b.2.2.1
theorem dX8_init_103 : decode cX8_init 103 = .ok (.bipush 16, 2) := dX8_init_97_b.2.2.2.1
theorem dX8_init_105 : decode cX8_init 105 = .ok (.newarray .int, 2) := dX8_init_97_b.2.2.2.2.1
theorem dX8_init_107 : decode cX8_init 107 = .ok (.putfield 47, 3) := dX8_init_97_b.2.2.2.2.2.1
theorem dX8_init_110 : decode cX8_init 110 = .ok (.iconst 0, 1) := dX8_init_97_b.2.2.2.2.2.2.1
theorem dX8_init_111 : decode cX8_init 111 = .ok (.istore_n 1, 1) := dX8_init_97_b.2.2.2.2.2.2.2.1
theorem dX8_init_112 : decode cX8_init 112 = .ok (.iload_n 1, 1) := dX8_init_97_b.2.2.2.2.2.2.2.2.1
theorem dX8_init_113 : decode cX8_init 113 = .ok (.bipush 8, 2) := dX8_init_97_b.2.2.2.2.2.2.2.2.2.1
theorem dX8_init_115 : decode cX8_init 115 = .ok (.if_icmp .ge 17, 3) := dX8_init_97_b.2.2.2.2.2.2.2.2.2.2.1
theorem dX8_init_118 : decode cX8_init 118 = .ok (.aload_n 0, 1) := dX8_init_97_b.2.2.2.2.2.2.2.2.2.2.2
theorem dX8_init_119_b : (decode cX8_init 119 = .ok (.getfield 7, 3)) ∧ (decode cX8_init 122 = .ok (.iload_n 1, 1)) ∧ (decode cX8_init 123 = .ok (.ldc 50, 2)) ∧ (decode cX8_init 125 = .ok (.iastore, 1)) ∧ (decode cX8_init 126 = .ok (.iinc 1 1, 3)) ∧ (decode cX8_init 129 = .ok (.goto (-17), 3)) ∧ (decode cX8_init 132 = .ok (.return_, 1)) := by decide +kernel
theorem dX8_init_119 : decode cX8_init 119 = .ok (.getfield 7, 3) := dX8_init_119_b.1
theorem dX8_init_122 : decode cX8_init 122 = .ok (.iload_n 1, 1) := dX8_init_119_b.2.1
theorem dX8_init_123 : decode cX8_init 123 = .ok (.ldc 50, 2) := dX8_init_119_b.2.2.1
theorem dX8_init_125 : decode cX8_init 125 = .ok (.iastore, 1) := dX8_init_119_b.2.2.2.1
theorem dX8_init_126 : decode cX8_init 126 = .ok (.iinc 1 1, 3) := dX8_init_119_b.2.2.2.2.1
theorem dX8_init_129 : decode cX8_init 129 = .ok (.goto (-17), 3) := dX8_init_119_b.2.2.2.2.2.1
theorem dX8_init_132 : decode cX8_init 132 = .ok (.return_, 1) := dX8_init_119_b.2.2.2.2.2.2
theorem dX8_in_0_b : (decode cX8_in 0 = .ok (.iload_n 0, 1)) ∧ (decode cX8_in 1 = .ok (.iload_n 1, 1)) ∧ (decode cX8_in 2 = .ok (.if_icmp .lt 12, 3)) ∧ (decode cX8_in 5 = .ok (.iload_n 0, 1)) ∧ (decode cX8_in 6 = .ok (.iload_n 2, 1)) ∧ (decode cX8_in 7 = .ok (.if_icmp .gt 7, 3)) ∧ (decode cX8_in 10 = .ok (.iconst 1, 1)) ∧ (decode cX8_in 11 = .ok (.goto 4, 3)) ∧ (decode cX8_in 14 = .ok (.iconst 0, 1)) ∧ (decode cX8_in 15 = .ok (.ireturn, 1)) := by decide +kernel
theorem dX8_in_0 : decode cX8_in 0 = .ok (.iload_n 0, 1) := dX8_in_0_b.1
theorem dX8_in_1 : decode cX8_in 1 = .ok (.iload_n 1, 1) := dX8_in_0_b.2.1
theorem dX8_in_2 : decode cX8_in 2 = .ok (.if_icmp .lt 12, 3) := dX8_in_0_b.2.2.1
theorem dX8_in_5 : decode cX8_in 5 = .ok (.iload_n 0, 1) := dX8_in_0_b.2.2.2.1
theorem dX8_in_6 : decode cX8_in 6 = .ok (.iload_n 2, 1) := dX8_in_0_b.2.2.2.2.1
theorem dX8_in_7 : decode cX8_in 7 = .ok (.if_icmp .gt 7, 3) := dX8_in_0_b.2.2.2.2.2.1
theorem dX8_in_10 : decode cX8_in 10 = .ok (.iconst 1, 1) := dX8_in_0_b.2.2.2.2.2.2.1
theorem dX8_in_11 : decode cX8_in 11 = .ok (.goto 4, 3) := dX8_in_0_b.2.2.2.2.2.2.2.1
theorem dX8_in_14 : decode cX8_in 14 = .ok (.iconst 0, 1) := dX8_in_0_b.2.2.2.2.2.2.2.2.1
theorem dX8_in_15 : decode cX8_in 15 = .ok (.ireturn, 1) := dX8_in_0_b.2.2.2.2.2.2.2.2.2
theorem dX8_has_0_b : (decode cX8_has 0 = .ok (.iload_n 0, 1)) ∧ (decode cX8_has 1 = .ok (.iload_n 1, 1)) ∧ (decode cX8_has 2 = .ok (.ishr, 1)) ∧ (decode cX8_has 3 = .ok (.iconst 1, 1)) ∧ (decode cX8_has 4 = .ok (.iand, 1)) ∧ (decode cX8_has 5 = .ok (.iconst 1, 1)) ∧ (decode cX8_has 6 = .ok (.if_icmp .ne 7, 3)) ∧ (decode cX8_has 9 = .ok (.iconst 1, 1)) ∧ (decode cX8_has 10 = .ok (.goto 4, 3)) ∧ (decode cX8_has 13 = .ok (.iconst 0, 1)) ∧ (decode cX8_has 14 = .ok (.ireturn, 1)) := by decide +kernel
theorem dX8_has_0 : decode cX8_has 0 = .ok (.iload_n 0, 1) := dX8_has_0_b.1
theorem dX8_has_1 : decode cX8_has 1 = .ok (.iload_n 1, 1) := dX8_has_0_b.2.1
theorem dX8_has_2 : decode cX8_has 2 = .ok (.ishr, 1) := dX8_has_0_b.2.2.1
theorem dX8_has_3 : decode cX8_has 3 = .ok (.iconst 1, 1) := dX8_has_0_b.2.2.2.1
theorem dX8_has_4 : decode cX8_has 4 = .ok (.iand, 1) := dX8_has_0_b.2.2.2.2.1
theorem dX8_has_5 : decode cX8_has 5 = .ok (.iconst 1, 1) := dX8_has_0_b.2.2.2.2.2.1
theorem dX8_has_6 : decode cX8_has 6 = .ok (.if_icmp .ne 7, 3) := dX8_has_0_b.2.2.2.2.2.2.1
theorem dX8_has_9 : decode cX8_has 9 = .ok (.iconst 1, 1) := dX8_has_0_b.2.2.2.2.2.2.2.1
theorem dX8_has_10 : decode cX8_has 10 = .ok (.goto 4, 3) := dX8_has_0_b.2.2.2.2.2.2.2.2.1
theorem dX8_has_13 : decode cX8_has 13 = .ok (.iconst 0, 1) := dX8_has_0_b.2.2.2.2.2.2.2.2.2.1
theorem dX8_has_14 : decode cX8_has 14 = .ok (.ireturn, 1) := dX8_has_0_b.2.2.2.2.2.2.2.2.2.2
theorem dX8_ones_0_b : (decode cX8_ones 0 = .ok (.iconst 0, 1)) ∧ (decode cX8_ones 1 = .ok (.istore_n 1, 1)) ∧ (decode cX8_ones 2 = .ok (.iconst 0, 1)) ∧ (decode cX8_ones 3 = .ok (.istore_n 2, 1)) ∧ (decode cX8_ones 4 = .ok (.iload_n 2, 1)) ∧ (decode cX8_ones 5 = .ok (.bipush 8, 2)) ∧ (decode cX8_ones 7 = .ok (.if_icmp .ge 17, 3)) ∧ (decode cX8_ones 10 = .ok (.iload_n 1, 1)) ∧ (decode cX8_ones 11 = .ok (.iload_n 0, 1)) ∧ (decode cX8_ones 12 = .ok (.iload_n 2, 1)) ∧ (decode cX8_ones 13 = .ok (.ishr, 1)) ∧ (decode cX8_ones 14 = .ok (.iconst 1, 1)) := by decide +kernel
theorem dX8_ones_0 : decode cX8_ones 0 = .ok (.iconst 0, 1) := dX8_ones_0_b.1
theorem dX8_ones_1 : decode cX8_ones 1 = .ok (.istore_n 1, 1) := dX8_ones_0_b.2.1
theorem dX8_ones_2 : decode cX8_ones 2 = .ok (.iconst 0, 1) := dX8_ones_0_b.2.2.1
theorem dX8_ones_3 : decode cX8_ones 3 = .ok (.istore_n 2, 1) := dX8_ones_0_b.2.2.2.1
theorem dX8_ones_4 : decode cX8_ones 4 = .ok (.iload_n 2, 1) := dX8_ones_0_b.2.2.2.2.1
theorem dX8_ones_5 : decode cX8_ones 5 = .ok (.bipush 8, 2) := dX8_ones_0_b.2.2.2.2.2.1
theorem dX8_ones_7 : decode cX8_ones 7 = .ok (.if_icmp .ge 17, 3) := dX8_ones_0_b.2.2.2.2.2.2.1
theorem dX8_ones_10 : decode cX8_ones 10 = .ok (.iload_n 1, 1) := dX8_ones_0_b.2.2.2.2.2.2.2.1
theorem dX8_ones_11 : decode cX8_ones 11 = .ok (.iload_n 0, 1) := dX8_ones_0_b.2.2.2.2.2.2.2.2.1
theorem dX8_ones_12 : decode cX8_ones 12 = .ok (.iload_n 2, 1) := dX8_ones_0_b.2.2.2.2.2.2.2.2.2.1
theorem dX8_ones_13 : decode cX8_ones 13 = .ok (.ishr, 1) := dX8_ones_0_b.2.2.2.2.2.2.2.2.2.2.1
theorem dX8_ones_14 : decode cX8_ones 14 = .ok (.iconst 1, 1) := dX8_ones_0_b.2.2.2.2.2.2.2.2.2.2.2
theorem dX8_ones_15_b : (decode cX8_ones 15 = .ok (.iand, 1)) ∧ (decode cX8_ones 16 = .ok (.iadd, 1)) ∧ (decode cX8_ones 17 = .ok (.istore_n 1, 1)) ∧ (decode cX8_ones 18 = .ok (.iinc 2 1, 3)) ∧ (decode cX8_ones 21 = .ok (.goto (-17), 3)) ∧ (decode cX8_ones 24 = .ok (.iload_n 1, 1)) ∧ (decode cX8_ones 25 = .ok (.ireturn, 1)) := by decide +kernel
theorem dX8_ones_15 : decode cX8_ones 15 = .ok (.iand, 1) := dX8_ones_15_b.1
theorem dX8_ones_16 : decode cX8_ones 16 = .ok (.iadd, 1) := dX8_ones_15_b.2.1
theorem dX8_ones_17 : decode cX8_ones 17 = .ok (.istore_n 1, 1) := dX8_ones_15_b.2.2.1
theorem dX8_ones_18 : decode cX8_ones 18 = .ok (.iinc 2 1, 3) := dX8_ones_15_b.2.2.2.1
theorem dX8_ones_21 : decode cX8_ones 21 = .ok (.goto (-17), 3) := dX8_ones_15_b.2.2.2.2.1
theorem dX8_ones_24 : decode cX8_ones 24 = .ok (.iload_n 1, 1) := dX8_ones_15_b.2.2.2.2.2.1
theorem dX8_ones_25 : decode cX8_ones 25 = .ok (.ireturn, 1) := dX8_ones_15_b.2.2.2.2.2.2
theorem dX8_found_0_b : (decode cX8_found 0 = .ok (.aload_n 0, 1)) ∧ (decode cX8_found 1 = .ok (.iload_n 1, 1)) ∧ (decode cX8_found 2 = .ok (.putfield 51, 3)) ∧ (decode cX8_found 5 = .ok (.ldc 55, 2)) ∧ (decode cX8_found 7 = .ok (.iload_n 1, 1)) ∧ (decode cX8_found 8 = .ok (.isub, 1)) ∧ (decode cX8_found 9 = .ok (.ireturn, 1)) := by decide +kernel
theorem dX8_found_0 : decode cX8_found 0 = .ok (.aload_n 0, 1) := dX8_found_0_b.1
theorem dX8_found_1 : decode cX8_found 1 = .ok (.iload_n 1, 1) := dX8_found_0_b.2.1
theorem dX8_found_2 : decode cX8_found 2 = .ok (.putfield 51, 3) := dX8_found_0_b.2.2.1
theorem dX8_found_5 : decode cX8_found 5 = .ok (.ldc 55, 2) := dX8_found_0_b.2.2.2.1
theorem dX8_found_7 : decode cX8_found 7 = .ok (.iload_n 1, 1) := dX8_found_0_b.2.2.2.2.1
theorem dX8_found_8 : decode cX8_found 8 = .ok (.isub, 1) := dX8_found_0_b.2.2.2.2.2.1
theorem dX8_found_9 : decode cX8_found 9 = .ok (.ireturn, 1) := dX8_found_0_b.2.2.2.2.2.2
theorem dX8_well_0_b : (decode cX8_well 0 = .ok (.aload_n 0, 1)) ∧ (decode cX8_well 1 = .ok (.iconst 0, 1)) ∧ (decode cX8_well 2 = .ok (.putfield 51, 3)) ∧ (decode cX8_well 5 = .ok (.iload_n 1, 1)) ∧ (decode cX8_well 6 = .ok (.ireturn, 1)) := by decide +kernel
theorem dX8_well_0 : decode cX8_well 0 = .ok (.aload_n 0, 1) := dX8_well_0_b.1
theorem dX8_well_1 : decode cX8_well 1 = .ok (.iconst 0, 1) := dX8_well_0_b.2.1
theorem dX8_well_2 : decode cX8_well 2 = .ok (.putfield 51, 3) := dX8_well_0_b.2.2.1
theorem dX8_well_5 : decode cX8_well 5 = .ok (.iload_n 1, 1) := dX8_well_0_b.2.2.2.1
theorem dX8_well_6 : decode cX8_well 6 = .ok (.ireturn, 1) := dX8_well_0_b.2.2.2.2
theorem dX8_copies_0_b : (decode cX8_copies 0 = .ok (.iconst 0, 1)) ∧ (decode cX8_copies 1 = .ok (.istore 4, 2)) ∧ (decode cX8_copies 3 = .ok (.iload 4, 2)) ∧ (decode cX8_copies 5 = .ok (.bipush 68, 2)) ∧ (decode cX8_copies 7 = .ok (.if_icmp .ge 21, 3)) ∧ (decode cX8_copies 10 = .ok (.aload_n 2, 1)) ∧ (decode cX8_copies 11 = .ok (.iload_n 3, 1)) ∧ (decode cX8_copies 12 = .ok (.iload 4, 2)) ∧ (decode cX8_copies 14 = .ok (.iadd, 1)) ∧ (decode cX8_copies 15 = .ok (.aload_n 0, 1)) ∧ (decode cX8_copies 16 = .ok (.iload_n 1, 1)) ∧ (decode cX8_copies 17 = .ok (.iload 4, 2)) := by decide +kernel
theorem dX8_copies_0 : decode cX8_copies 0 = .ok (.iconst 0, 1) := dX8_copies_0_b.1
theorem dX8_copies_1 : decode cX8_copies 1 = .ok (.istore 4, 2) := dX8_copies_0_b.2.1
theorem dX8_copies_3 : decode cX8_copies 3 = .ok (.iload 4, 2) := dX8_copies_0_b.2.2.1
theorem dX8_copies_5 : decode cX8_copies 5 = .ok (.bipush 68, 2) := dX8_copies_0_b.2.2.2.1
theorem dX8_copies_7 : decode cX8_copies 7 = .ok (.if_icmp .ge 21, 3) := dX8_copies_0_b.2.2.2.2.1
theorem dX8_copies_10 : decode cX8_copies 10 = .ok (.aload_n 2, 1) := dX8_copies_0_b.2.2.2.2.2.1
theorem dX8_copies_11 : decode cX8_copies 11 = .ok (.iload_n 3, 1) := dX8_copies_0_b.2.2.2.2.2.2.1
theorem dX8_copies_12 : decode cX8_copies 12 = .ok (.iload 4, 2) := dX8_copies_0_b.2.2.2.2.2.2.2.1
theorem dX8_copies_14 : decode cX8_copies 14 = .ok (.iadd, 1) := dX8_copies_0_b.2.2.2.2.2.2.2.2.1
theorem dX8_copies_15 : decode cX8_copies 15 = .ok (.aload_n 0, 1) := dX8_copies_0_b.2.2.2.2.2.2.2.2.2.1
theorem dX8_copies_16 : decode cX8_copies 16 = .ok (.iload_n 1, 1) := dX8_copies_0_b.2.2.2.2.2.2.2.2.2.2.1
theorem dX8_copies_17 : decode cX8_copies 17 = .ok (.iload 4, 2) := dX8_copies_0_b.2.2.2.2.2.2.2.2.2.2.2
theorem dX8_copies_19_b : (decode cX8_copies 19 = .ok (.iadd, 1)) ∧ (decode cX8_copies 20 = .ok (.iaload, 1)) ∧ (decode cX8_copies 21 = .ok (.iastore, 1)) ∧ (decode cX8_copies 22 = .ok (.iinc 4 1, 3)) ∧ (decode cX8_copies 25 = .ok (.goto (-22), 3)) ∧ (decode cX8_copies 28 = .ok (.return_, 1)) := by decide +kernel
theorem dX8_copies_19 : decode cX8_copies 19 = .ok (.iadd, 1) := dX8_copies_19_b.1
theorem dX8_copies_20 : decode cX8_copies 20 = .ok (.iaload, 1) := dX8_copies_19_b.2.1
theorem dX8_copies_21 : decode cX8_copies 21 = .ok (.iastore, 1) := dX8_copies_19_b.2.2.1
theorem dX8_copies_22 : decode cX8_copies 22 = .ok (.iinc 4 1, 3) := dX8_copies_19_b.2.2.2.1
theorem dX8_copies_25 : decode cX8_copies 25 = .ok (.goto (-22), 3) := dX8_copies_19_b.2.2.2.2.1
theorem dX8_copies_28 : decode cX8_copies 28 = .ok (.return_, 1) := dX8_copies_19_b.2.2.2.2.2
theorem dX8_isRow_0_b : (decode cX8_isRow 0 = .ok (.iload_n 0, 1)) ∧ (decode cX8_isRow 1 = .ok (.iconst 0, 1)) ∧ (decode cX8_isRow 2 = .ok (.bipush 7, 2)) ∧ (decode cX8_isRow 4 = .ok (.invokestatic 56, 3)) ∧ (decode cX8_isRow 7 = .ok (.ireturn, 1)) := by decide +kernel
theorem dX8_isRow_0 : decode cX8_isRow 0 = .ok (.iload_n 0, 1) := dX8_isRow_0_b.1
theorem dX8_isRow_1 : decode cX8_isRow 1 = .ok (.iconst 0, 1) := dX8_isRow_0_b.2.1
theorem dX8_isRow_2 : decode cX8_isRow 2 = .ok (.bipush 7, 2) := dX8_isRow_0_b.2.2.1
theorem dX8_isRow_4 : decode cX8_isRow 4 = .ok (.invokestatic 56, 3) := dX8_isRow_0_b.2.2.2.1
theorem dX8_isRow_7 : decode cX8_isRow 7 = .ok (.ireturn, 1) := dX8_isRow_0_b.2.2.2.2
theorem dX8_isMissing_0_b : (decode cX8_isMissing 0 = .ok (.aload_n 0, 1)) ∧ (decode cX8_isMissing 1 = .ok (.getfield 7, 3)) ∧ (decode cX8_isMissing 4 = .ok (.iload_n 1, 1)) ∧ (decode cX8_isMissing 5 = .ok (.iaload, 1)) ∧ (decode cX8_isMissing 6 = .ok (.ldc 50, 2)) ∧ (decode cX8_isMissing 8 = .ok (.if_icmp .ne 7, 3)) ∧ (decode cX8_isMissing 11 = .ok (.iconst 1, 1)) ∧ (decode cX8_isMissing 12 = .ok (.goto 4, 3)) ∧ (decode cX8_isMissing 15 = .ok (.iconst 0, 1)) ∧ (decode cX8_isMissing 16 = .ok (.ireturn, 1)) := by decide +kernel
theorem dX8_isMissing_0 : decode cX8_isMissing 0 = .ok (.aload_n 0, 1) := dX8_isMissing_0_b.1
theorem dX8_isMissing_1 : decode cX8_isMissing 1 = .ok (.getfield 7, 3) := dX8_isMissing_0_b.2.1
theorem dX8_isMissing_4 : decode cX8_isMissing 4 = .ok (.iload_n 1, 1) := dX8_isMissing_0_b.2.2.1
theorem dX8_isMissing_5 : decode cX8_isMissing 5 = .ok (.iaload, 1) := dX8_isMissing_0_b.2.2.2.1
theorem dX8_isMissing_6 : decode cX8_isMissing 6 = .ok (.ldc 50, 2) := dX8_isMissing_0_b.2.2.2.2.1
theorem dX8_isMissing_8 : decode cX8_isMissing 8 = .ok (.if_icmp .ne 7, 3) := dX8_isMissing_0_b.2.2.2.2.2.1
theorem dX8_isMissing_11 : decode cX8_isMissing 11 = .ok (.iconst 1, 1) := dX8_isMissing_0_b.2.2.2.2.2.2.1
theorem dX8_isMissing_12 : decode cX8_isMissing 12 = .ok (.goto 4, 3) := dX8_isMissing_0_b.2.2.2.2.2.2.2.1
theorem dX8_isMissing_15 : decode cX8_isMissing 15 = .ok (.iconst 0, 1) := dX8_isMissing_0_b.2.2.2.2.2.2.2.2.1
theorem dX8_isMissing_16 : decode cX8_isMissing 16 = .ok (.ireturn, 1) := dX8_isMissing_0_b.2.2.2.2.2.2.2.2.2
theorem dX8_cut_0_b : (decode cX8_cut 0 = .ok (.iload_n 0, 1)) ∧ (decode cX8_cut 1 = .ok (.ifCond .ne 13, 3)) ∧ (decode cX8_cut 4 = .ok (.iload_n 1, 1)) ∧ (decode cX8_cut 5 = .ok (.bipush 24, 2)) ∧ (decode cX8_cut 7 = .ok (.ishl, 1)) ∧ (decode cX8_cut 8 = .ok (.bipush 24, 2)) ∧ (decode cX8_cut 10 = .ok (.ishr, 1)) ∧ (decode cX8_cut 11 = .ok (.goto 19, 3)) ∧ (decode cX8_cut 14 = .ok (.iload_n 0, 1)) ∧ (decode cX8_cut 15 = .ok (.iconst 1, 1)) ∧ (decode cX8_cut 16 = .ok (.if_icmp .ne 13, 3)) ∧ (decode cX8_cut 19 = .ok (.iload_n 1, 1)) := by decide +kernel
theorem dX8_cut_0 : decode cX8_cut 0 = .ok (.iload_n 0, 1) := dX8_cut_0_b.1
theorem dX8_cut_1 : decode cX8_cut 1 = .ok (.ifCond .ne 13, 3) := dX8_cut_0_b.2.1
theorem dX8_cut_4 : decode cX8_cut 4 = .ok (.iload_n 1, 1) := dX8_cut_0_b.2.2.1
theorem dX8_cut_5 : decode cX8_cut 5 = .ok (.bipush 24, 2) := dX8_cut_0_b.2.2.2.1
theorem dX8_cut_7 : decode cX8_cut 7 = .ok (.ishl, 1) := dX8_cut_0_b.2.2.2.2.1
theorem dX8_cut_8 : decode cX8_cut 8 = .ok (.bipush 24, 2) := dX8_cut_0_b.2.2.2.2.2.1
theorem dX8_cut_10 : decode cX8_cut 10 = .ok (.ishr, 1) := dX8_cut_0_b.2.2.2.2.2.2.1
theorem dX8_cut_11 : decode cX8_cut 11 = .ok (.goto 19, 3) := dX8_cut_0_b.2.2.2.2.2.2.2.1
theorem dX8_cut_14 : decode cX8_cut 14 = .ok (.iload_n 0, 1) := dX8_cut_0_b.2.2.2.2.2.2.2.2.1
theorem dX8_cut_15 : decode cX8_cut 15 = .ok (.iconst 1, 1) := dX8_cut_0_b.2.2.2.2.2.2.2.2.2.1
theorem dX8_cut_16 : decode cX8_cut 16 = .ok (.if_icmp .ne 13, 3) := dX8_cut_0_b.2.2.2.2.2.2.2.2.2.2.1
theorem dX8_cut_19 : decode cX8_cut 19 = .ok (.iload_n 1, 1) := dX8_cut_0_b.2.2.2.2.2.2.2.2.2.2.2
theorem dX8_cut_20_b : (decode cX8_cut 20 = .ok (.bipush 16, 2)) ∧ (decode cX8_cut 22 = .ok (.ishl, 1)) ∧ (decode cX8_cut 23 = .ok (.bipush 16, 2)) ∧ (decode cX8_cut 25 = .ok (.ishr, 1)) ∧ (decode cX8_cut 26 = .ok (.goto 4, 3)) ∧ (decode cX8_cut 29 = .ok (.iload_n 1, 1)) ∧ (decode cX8_cut 30 = .ok (.ireturn, 1)) := by decide +kernel
theorem dX8_cut_20 : decode cX8_cut 20 = .ok (.bipush 16, 2) := dX8_cut_20_b.1
theorem dX8_cut_22 : decode cX8_cut 22 = .ok (.ishl, 1) := dX8_cut_20_b.2.1
theorem dX8_cut_23 : decode cX8_cut 23 = .ok (.bipush 16, 2) := dX8_cut_20_b.2.2.1
theorem dX8_cut_25 : decode cX8_cut 25 = .ok (.ishr, 1) := dX8_cut_20_b.2.2.2.1
theorem dX8_cut_26 : decode cX8_cut 26 = .ok (.goto 4, 3) := dX8_cut_20_b.2.2.2.2.1
theorem dX8_cut_29 : decode cX8_cut 29 = .ok (.iload_n 1, 1) := dX8_cut_20_b.2.2.2.2.2.1
theorem dX8_cut_30 : decode cX8_cut 30 = .ok (.ireturn, 1) := dX8_cut_20_b.2.2.2.2.2.2
theorem dX8_row_0_b : (decode cX8_row 0 = .ok (.iload_n 1, 1)) ∧ (decode cX8_row 1 = .ok (.invokestatic 60, 3)) ∧ (decode cX8_row 4 = .ok (.ifCond .eq 18, 3)) ∧ (decode cX8_row 7 = .ok (.iload_n 2, 1)) ∧ (decode cX8_row 8 = .ok (.iconst 0, 1)) ∧ (decode cX8_row 9 = .ok (.iconst 2, 1)) ∧ (decode cX8_row 10 = .ok (.invokestatic 56, 3)) ∧ (decode cX8_row 13 = .ok (.ifCond .eq 9, 3)) ∧ (decode cX8_row 16 = .ok (.iload_n 3, 1)) ∧ (decode cX8_row 17 = .ok (.bipush 40, 2)) ∧ (decode cX8_row 19 = .ok (.if_icmp .le 6, 3)) ∧ (decode cX8_row 22 = .ok (.ldc 64, 2)) := by decide +kernel
theorem dX8_row_0 : decode cX8_row 0 = .ok (.iload_n 1, 1) := dX8_row_0_b.1
theorem dX8_row_1 : decode cX8_row 1 = .ok (.invokestatic 60, 3) := dX8_row_0_b.2.1
theorem dX8_row_4 : decode cX8_row 4 = .ok (.ifCond .eq 18, 3) := dX8_row_0_b.2.2.1
theorem dX8_row_7 : decode cX8_row 7 = .ok (.iload_n 2, 1) := dX8_row_0_b.2.2.2.1
theorem dX8_row_8 : decode cX8_row 8 = .ok (.iconst 0, 1) := dX8_row_0_b.2.2.2.2.1
theorem dX8_row_9 : decode cX8_row 9 = .ok (.iconst 2, 1) := dX8_row_0_b.2.2.2.2.2.1
theorem dX8_row_10 : decode cX8_row 10 = .ok (.invokestatic 56, 3) := dX8_row_0_b.2.2.2.2.2.2.1
theorem dX8_row_13 : decode cX8_row 13 = .ok (.ifCond .eq 9, 3) := dX8_row_0_b.2.2.2.2.2.2.2.1
theorem dX8_row_16 : decode cX8_row 16 = .ok (.iload_n 3, 1) := dX8_row_0_b.2.2.2.2.2.2.2.2.1
theorem dX8_row_17 : decode cX8_row 17 = .ok (.bipush 40, 2) := dX8_row_0_b.2.2.2.2.2.2.2.2.2.1
theorem dX8_row_19 : decode cX8_row 19 = .ok (.if_icmp .le 6, 3) := dX8_row_0_b.2.2.2.2.2.2.2.2.2.2.1
theorem dX8_row_22 : decode cX8_row 22 = .ok (.ldc 64, 2) := dX8_row_0_b.2.2.2.2.2.2.2.2.2.2.2
theorem dX8_row_24_b : (decode cX8_row 24 = .ok (.ireturn, 1)) ∧ (decode cX8_row 25 = .ok (.iload_n 3, 1)) ∧ (decode cX8_row 26 = .ok (.ifCond .ge 9, 3)) ∧ (decode cX8_row 29 = .ok (.aload_n 0, 1)) ∧ (decode cX8_row 30 = .ok (.iconst 4, 1)) ∧ (decode cX8_row 31 = .ok (.invokevirtual 65, 3)) ∧ (decode cX8_row 34 = .ok (.ireturn, 1)) ∧ (decode cX8_row 35 = .ok (.aload_n 0, 1)) ∧ (decode cX8_row 36 = .ok (.getfield 7, 3)) ∧ (decode cX8_row 39 = .ok (.iload_n 1, 1)) ∧ (decode cX8_row 40 = .ok (.iload_n 2, 1)) ∧ (decode cX8_row 41 = .ok (.iastore, 1)) := by decide +kernel
theorem dX8_row_24 : decode cX8_row 24 = .ok (.ireturn, 1) := dX8_row_24_b.1
theorem dX8_row_25 : decode cX8_row 25 = .ok (.iload_n 3, 1) := dX8_row_24_b.2.1
theorem dX8_row_26 : decode cX8_row 26 = .ok (.ifCond .ge 9, 3) := dX8_row_24_b.2.2.1
theorem dX8_row_29 : decode cX8_row 29 = .ok (.aload_n 0, 1) := dX8_row_24_b.2.2.2.1
theorem dX8_row_30 : decode cX8_row 30 = .ok (.iconst 4, 1) := dX8_row_24_b.2.2.2.2.1
theorem dX8_row_31 : decode cX8_row 31 = .ok (.invokevirtual 65, 3) := dX8_row_24_b.2.2.2.2.2.1
theorem dX8_row_34 : decode cX8_row 34 = .ok (.ireturn, 1) := dX8_row_24_b.2.2.2.2.2.2.1
theorem dX8_row_35 : decode cX8_row 35 = .ok (.aload_n 0, 1) := dX8_row_24_b.2.2.2.2.2.2.2.1
theorem dX8_row_36 : decode cX8_row 36 = .ok (.getfield 7, 3) := dX8_row_24_b.2.2.2.2.2.2.2.2.1
theorem dX8_row_39 : decode cX8_row 39 = .ok (.iload_n 1, 1) := dX8_row_24_b.2.2.2.2.2.2.2.2.2.1
theorem dX8_row_40 : decode cX8_row 40 = .ok (.iload_n 2, 1) := dX8_row_24_b.2.2.2.2.2.2.2.2.2.2.1
theorem dX8_row_41 : decode cX8_row 41 = .ok (.iastore, 1) := dX8_row_24_b.2.2.2.2.2.2.2.2.2.2.2
theorem dX8_row_42_b : (decode cX8_row 42 = .ok (.aload_n 0, 1)) ∧ (decode cX8_row 43 = .ok (.getfield 13, 3)) ∧ (decode cX8_row 46 = .ok (.iload_n 1, 1)) ∧ (decode cX8_row 47 = .ok (.iload_n 3, 1)) ∧ (decode cX8_row 48 = .ok (.iastore, 1)) ∧ (decode cX8_row 49 = .ok (.iconst 0, 1)) ∧ (decode cX8_row 50 = .ok (.istore 4, 2)) ∧ (decode cX8_row 52 = .ok (.iload 4, 2)) ∧ (decode cX8_row 54 = .ok (.bipush 40, 2)) ∧ (decode cX8_row 56 = .ok (.if_icmp .ge 22, 3)) ∧ (decode cX8_row 59 = .ok (.aload_n 0, 1)) ∧ (decode cX8_row 60 = .ok (.getfield 16, 3)) := by decide +kernel
theorem dX8_row_42 : decode cX8_row 42 = .ok (.aload_n 0, 1) := dX8_row_42_b.1
theorem dX8_row_43 : decode cX8_row 43 = .ok (.getfield 13, 3) := dX8_row_42_b.2.1
theorem dX8_row_46 : decode cX8_row 46 = .ok (.iload_n 1, 1) := dX8_row_42_b.2.2.1
theorem dX8_row_47 : decode cX8_row 47 = .ok (.iload_n 3, 1) := dX8_row_42_b.2.2.2.1
theorem dX8_row_48 : decode cX8_row 48 = .ok (.iastore, 1) := dX8_row_42_b.2.2.2.2.1
theorem dX8_row_49 : decode cX8_row 49 = .ok (.iconst 0, 1) := dX8_row_42_b.2.2.2.2.2.1
theorem dX8_row_50 : decode cX8_row 50 = .ok (.istore 4, 2) := dX8_row_42_b.2.2.2.2.2.2.1
theorem dX8_row_52 : decode cX8_row 52 = .ok (.iload 4, 2) := dX8_row_42_b.2.2.2.2.2.2.2.1
theorem dX8_row_54 : decode cX8_row 54 = .ok (.bipush 40, 2) := dX8_row_42_b.2.2.2.2.2.2.2.2.1
theorem dX8_row_56 : decode cX8_row 56 = .ok (.if_icmp .ge 22, 3) := dX8_row_42_b.2.2.2.2.2.2.2.2.2.1
theorem dX8_row_59 : decode cX8_row 59 = .ok (.aload_n 0, 1) := dX8_row_42_b.2.2.2.2.2.2.2.2.2.2.1
theorem dX8_row_60 : decode cX8_row 60 = .ok (.getfield 16, 3) := dX8_row_42_b.2.2.2.2.2.2.2.2.2.2.2
theorem dX8_row_63_b : (decode cX8_row 63 = .ok (.bipush 40, 2)) ∧ (decode cX8_row 65 = .ok (.iload_n 1, 1)) ∧ (decode cX8_row 66 = .ok (.imul, 1)) ∧ (decode cX8_row 67 = .ok (.iload 4, 2)) ∧ (decode cX8_row 69 = .ok (.iadd, 1)) ∧ (decode cX8_row 70 = .ok (.iconst 0, 1)) ∧ (decode cX8_row 71 = .ok (.iastore, 1)) ∧ (decode cX8_row 72 = .ok (.iinc 4 1, 3)) ∧ (decode cX8_row 75 = .ok (.goto (-23), 3)) ∧ (decode cX8_row 78 = .ok (.aload_n 0, 1)) ∧ (decode cX8_row 79 = .ok (.iload_n 3, 1)) ∧ (decode cX8_row 80 = .ok (.invokevirtual 69, 3)) := by decide +kernel
theorem dX8_row_63 : decode cX8_row 63 = .ok (.bipush 40, 2) := dX8_row_63_b.1
theorem dX8_row_65 : decode cX8_row 65 = .ok (.iload_n 1, 1) := dX8_row_63_b.2.1
theorem dX8_row_66 : decode cX8_row 66 = .ok (.imul, 1) := dX8_row_63_b.2.2.1
theorem dX8_row_67 : decode cX8_row 67 = .ok (.iload 4, 2) := dX8_row_63_b.2.2.2.1
theorem dX8_row_69 : decode cX8_row 69 = .ok (.iadd, 1) := dX8_row_63_b.2.2.2.2.1
theorem dX8_row_70 : decode cX8_row 70 = .ok (.iconst 0, 1) := dX8_row_63_b.2.2.2.2.2.1
theorem dX8_row_71 : decode cX8_row 71 = .ok (.iastore, 1) := dX8_row_63_b.2.2.2.2.2.2.1
theorem dX8_row_72 : decode cX8_row 72 = .ok (.iinc 4 1, 3) := dX8_row_63_b.2.2.2.2.2.2.2.1
theorem dX8_row_75 : decode cX8_row 75 = .ok (.goto (-23), 3) := dX8_row_63_b.2.2.2.2.2.2.2.2.1
theorem dX8_row_78 : decode cX8_row 78 = .ok (.aload_n 0, 1) := dX8_row_63_b.2.2.2.2.2.2.2.2.2.1
theorem dX8_row_79 : decode cX8_row 79 = .ok (.iload_n 3, 1) := dX8_row_63_b.2.2.2.2.2.2.2.2.2.2.1
theorem dX8_row_80 : decode cX8_row 80 = .ok (.invokevirtual 69, 3) := dX8_row_63_b.2.2.2.2.2.2.2.2.2.2.2
theorem dX8_row_83 : decode cX8_row 83 = .ok (.ireturn, 1) := by decide +kernel
theorem dX8_set_0_b : (decode cX8_set 0 = .ok (.iload_n 1, 1)) ∧ (decode cX8_set 1 = .ok (.invokestatic 60, 3)) ∧ (decode cX8_set 4 = .ok (.ifCond .ne 6, 3)) ∧ (decode cX8_set 7 = .ok (.ldc 64, 2)) ∧ (decode cX8_set 9 = .ok (.ireturn, 1)) ∧ (decode cX8_set 10 = .ok (.aload_n 0, 1)) ∧ (decode cX8_set 11 = .ok (.iload_n 1, 1)) ∧ (decode cX8_set 12 = .ok (.invokevirtual 72, 3)) ∧ (decode cX8_set 15 = .ok (.ifCond .eq 9, 3)) ∧ (decode cX8_set 18 = .ok (.aload_n 0, 1)) ∧ (decode cX8_set 19 = .ok (.iconst 1, 1)) ∧ (decode cX8_set 20 = .ok (.invokevirtual 65, 3)) := by decide +kernel
theorem dX8_set_0 : decode cX8_set 0 = .ok (.iload_n 1, 1) := dX8_set_0_b.1
theorem dX8_set_1 : decode cX8_set 1 = .ok (.invokestatic 60, 3) := dX8_set_0_b.2.1
theorem dX8_set_4 : decode cX8_set 4 = .ok (.ifCond .ne 6, 3) := dX8_set_0_b.2.2.1
theorem dX8_set_7 : decode cX8_set 7 = .ok (.ldc 64, 2) := dX8_set_0_b.2.2.2.1
theorem dX8_set_9 : decode cX8_set 9 = .ok (.ireturn, 1) := dX8_set_0_b.2.2.2.2.1
theorem dX8_set_10 : decode cX8_set 10 = .ok (.aload_n 0, 1) := dX8_set_0_b.2.2.2.2.2.1
theorem dX8_set_11 : decode cX8_set 11 = .ok (.iload_n 1, 1) := dX8_set_0_b.2.2.2.2.2.2.1
theorem dX8_set_12 : decode cX8_set 12 = .ok (.invokevirtual 72, 3) := dX8_set_0_b.2.2.2.2.2.2.2.1
theorem dX8_set_15 : decode cX8_set 15 = .ok (.ifCond .eq 9, 3) := dX8_set_0_b.2.2.2.2.2.2.2.2.1
theorem dX8_set_18 : decode cX8_set 18 = .ok (.aload_n 0, 1) := dX8_set_0_b.2.2.2.2.2.2.2.2.2.1
theorem dX8_set_19 : decode cX8_set 19 = .ok (.iconst 1, 1) := dX8_set_0_b.2.2.2.2.2.2.2.2.2.2.1
theorem dX8_set_20 : decode cX8_set 20 = .ok (.invokevirtual 65, 3) := dX8_set_0_b.2.2.2.2.2.2.2.2.2.2.2
theorem dX8_set_23_b : (decode cX8_set 23 = .ok (.ireturn, 1)) ∧ (decode cX8_set 24 = .ok (.iload_n 2, 1)) ∧ (decode cX8_set 25 = .ok (.iconst 0, 1)) ∧ (decode cX8_set 26 = .ok (.aload_n 0, 1)) ∧ (decode cX8_set 27 = .ok (.getfield 13, 3)) ∧ (decode cX8_set 30 = .ok (.iload_n 1, 1)) ∧ (decode cX8_set 31 = .ok (.iaload, 1)) ∧ (decode cX8_set 32 = .ok (.iconst 1, 1)) ∧ (decode cX8_set 33 = .ok (.isub, 1)) ∧ (decode cX8_set 34 = .ok (.invokestatic 56, 3)) ∧ (decode cX8_set 37 = .ok (.ifCond .ne 9, 3)) ∧ (decode cX8_set 40 = .ok (.aload_n 0, 1)) := by decide +kernel
theorem dX8_set_23 : decode cX8_set 23 = .ok (.ireturn, 1) := dX8_set_23_b.1
theorem dX8_set_24 : decode cX8_set 24 = .ok (.iload_n 2, 1) := dX8_set_23_b.2.1
theorem dX8_set_25 : decode cX8_set 25 = .ok (.iconst 0, 1) := dX8_set_23_b.2.2.1
theorem dX8_set_26 : decode cX8_set 26 = .ok (.aload_n 0, 1) := dX8_set_23_b.2.2.2.1
theorem dX8_set_27 : decode cX8_set 27 = .ok (.getfield 13, 3) := dX8_set_23_b.2.2.2.2.1
theorem dX8_set_30 : decode cX8_set 30 = .ok (.iload_n 1, 1) := dX8_set_23_b.2.2.2.2.2.1
theorem dX8_set_31 : decode cX8_set 31 = .ok (.iaload, 1) := dX8_set_23_b.2.2.2.2.2.2.1
theorem dX8_set_32 : decode cX8_set 32 = .ok (.iconst 1, 1) := dX8_set_23_b.2.2.2.2.2.2.2.1
theorem dX8_set_33 : decode cX8_set 33 = .ok (.isub, 1) := dX8_set_23_b.2.2.2.2.2.2.2.2.1
theorem dX8_set_34 : decode cX8_set 34 = .ok (.invokestatic 56, 3) := dX8_set_23_b.2.2.2.2.2.2.2.2.2.1
theorem dX8_set_37 : decode cX8_set 37 = .ok (.ifCond .ne 9, 3) := dX8_set_23_b.2.2.2.2.2.2.2.2.2.2.1
theorem dX8_set_40 : decode cX8_set 40 = .ok (.aload_n 0, 1) := dX8_set_23_b.2.2.2.2.2.2.2.2.2.2.2
theorem dX8_set_41_b : (decode cX8_set 41 = .ok (.iconst 2, 1)) ∧ (decode cX8_set 42 = .ok (.invokevirtual 65, 3)) ∧ (decode cX8_set 45 = .ok (.ireturn, 1)) ∧ (decode cX8_set 46 = .ok (.aload_n 0, 1)) ∧ (decode cX8_set 47 = .ok (.getfield 16, 3)) ∧ (decode cX8_set 50 = .ok (.bipush 40, 2)) ∧ (decode cX8_set 52 = .ok (.iload_n 1, 1)) ∧ (decode cX8_set 53 = .ok (.imul, 1)) ∧ (decode cX8_set 54 = .ok (.iload_n 2, 1)) ∧ (decode cX8_set 55 = .ok (.iadd, 1)) ∧ (decode cX8_set 56 = .ok (.aload_n 0, 1)) ∧ (decode cX8_set 57 = .ok (.getfield 7, 3)) := by decide +kernel
theorem dX8_set_41 : decode cX8_set 41 = .ok (.iconst 2, 1) := dX8_set_41_b.1
theorem dX8_set_42 : decode cX8_set 42 = .ok (.invokevirtual 65, 3) := dX8_set_41_b.2.1
theorem dX8_set_45 : decode cX8_set 45 = .ok (.ireturn, 1) := dX8_set_41_b.2.2.1
theorem dX8_set_46 : decode cX8_set 46 = .ok (.aload_n 0, 1) := dX8_set_41_b.2.2.2.1
theorem dX8_set_47 : decode cX8_set 47 = .ok (.getfield 16, 3) := dX8_set_41_b.2.2.2.2.1
theorem dX8_set_50 : decode cX8_set 50 = .ok (.bipush 40, 2) := dX8_set_41_b.2.2.2.2.2.1
theorem dX8_set_52 : decode cX8_set 52 = .ok (.iload_n 1, 1) := dX8_set_41_b.2.2.2.2.2.2.1
theorem dX8_set_53 : decode cX8_set 53 = .ok (.imul, 1) := dX8_set_41_b.2.2.2.2.2.2.2.1
theorem dX8_set_54 : decode cX8_set 54 = .ok (.iload_n 2, 1) := dX8_set_41_b.2.2.2.2.2.2.2.2.1
theorem dX8_set_55 : decode cX8_set 55 = .ok (.iadd, 1) := dX8_set_41_b.2.2.2.2.2.2.2.2.2.1
theorem dX8_set_56 : decode cX8_set 56 = .ok (.aload_n 0, 1) := dX8_set_41_b.2.2.2.2.2.2.2.2.2.2.1
theorem dX8_set_57 : decode cX8_set 57 = .ok (.getfield 7, 3) := dX8_set_41_b.2.2.2.2.2.2.2.2.2.2.2
theorem dX8_set_60_b : (decode cX8_set 60 = .ok (.iload_n 1, 1)) ∧ (decode cX8_set 61 = .ok (.iaload, 1)) ∧ (decode cX8_set 62 = .ok (.iload_n 3, 1)) ∧ (decode cX8_set 63 = .ok (.invokestatic 75, 3)) ∧ (decode cX8_set 66 = .ok (.iastore, 1)) ∧ (decode cX8_set 67 = .ok (.aload_n 0, 1)) ∧ (decode cX8_set 68 = .ok (.aload_n 0, 1)) ∧ (decode cX8_set 69 = .ok (.getfield 16, 3)) ∧ (decode cX8_set 72 = .ok (.bipush 40, 2)) ∧ (decode cX8_set 74 = .ok (.iload_n 1, 1)) ∧ (decode cX8_set 75 = .ok (.imul, 1)) ∧ (decode cX8_set 76 = .ok (.iload_n 2, 1)) := by decide +kernel
theorem dX8_set_60 : decode cX8_set 60 = .ok (.iload_n 1, 1) := dX8_set_60_b.1
theorem dX8_set_61 : decode cX8_set 61 = .ok (.iaload, 1) := dX8_set_60_b.2.1
theorem dX8_set_62 : decode cX8_set 62 = .ok (.iload_n 3, 1) := dX8_set_60_b.2.2.1
theorem dX8_set_63 : decode cX8_set 63 = .ok (.invokestatic 75, 3) := dX8_set_60_b.2.2.2.1
theorem dX8_set_66 : decode cX8_set 66 = .ok (.iastore, 1) := dX8_set_60_b.2.2.2.2.1
theorem dX8_set_67 : decode cX8_set 67 = .ok (.aload_n 0, 1) := dX8_set_60_b.2.2.2.2.2.1
theorem dX8_set_68 : decode cX8_set 68 = .ok (.aload_n 0, 1) := dX8_set_60_b.2.2.2.2.2.2.1
theorem dX8_set_69 : decode cX8_set 69 = .ok (.getfield 16, 3) := dX8_set_60_b.2.2.2.2.2.2.2.1
theorem dX8_set_72 : decode cX8_set 72 = .ok (.bipush 40, 2) := dX8_set_60_b.2.2.2.2.2.2.2.2.1
theorem dX8_set_74 : decode cX8_set 74 = .ok (.iload_n 1, 1) := dX8_set_60_b.2.2.2.2.2.2.2.2.2.1
theorem dX8_set_75 : decode cX8_set 75 = .ok (.imul, 1) := dX8_set_60_b.2.2.2.2.2.2.2.2.2.2.1
theorem dX8_set_76 : decode cX8_set 76 = .ok (.iload_n 2, 1) := dX8_set_60_b.2.2.2.2.2.2.2.2.2.2.2
theorem dX8_set_77_b : (decode cX8_set 77 = .ok (.iadd, 1)) ∧ (decode cX8_set 78 = .ok (.iaload, 1)) ∧ (decode cX8_set 79 = .ok (.invokevirtual 69, 3)) ∧ (decode cX8_set 82 = .ok (.ireturn, 1)) := by decide +kernel
theorem dX8_set_77 : decode cX8_set 77 = .ok (.iadd, 1) := dX8_set_77_b.1
theorem dX8_set_78 : decode cX8_set 78 = .ok (.iaload, 1) := dX8_set_77_b.2.1
theorem dX8_set_79 : decode cX8_set 79 = .ok (.invokevirtual 69, 3) := dX8_set_77_b.2.2.1
theorem dX8_set_82 : decode cX8_set 82 = .ok (.ireturn, 1) := dX8_set_77_b.2.2.2
theorem dX8_isPart_0_b : (decode cX8_isPart 0 = .ok (.iload_n 2, 1)) ∧ (decode cX8_isPart 1 = .ok (.ifCond .lt 33, 3)) ∧ (decode cX8_isPart 4 = .ok (.iload_n 3, 1)) ∧ (decode cX8_isPart 5 = .ok (.ifCond .lt 29, 3)) ∧ (decode cX8_isPart 8 = .ok (.iload_n 2, 1)) ∧ (decode cX8_isPart 9 = .ok (.aload_n 0, 1)) ∧ (decode cX8_isPart 10 = .ok (.getfield 13, 3)) ∧ (decode cX8_isPart 13 = .ok (.iload_n 1, 1)) ∧ (decode cX8_isPart 14 = .ok (.iaload, 1)) ∧ (decode cX8_isPart 15 = .ok (.if_icmp .gt 19, 3)) ∧ (decode cX8_isPart 18 = .ok (.iload_n 3, 1)) ∧ (decode cX8_isPart 19 = .ok (.aload_n 0, 1)) := by decide +kernel
theorem dX8_isPart_0 : decode cX8_isPart 0 = .ok (.iload_n 2, 1) := dX8_isPart_0_b.1
theorem dX8_isPart_1 : decode cX8_isPart 1 = .ok (.ifCond .lt 33, 3) := dX8_isPart_0_b.2.1
theorem dX8_isPart_4 : decode cX8_isPart 4 = .ok (.iload_n 3, 1) := dX8_isPart_0_b.2.2.1
theorem dX8_isPart_5 : decode cX8_isPart 5 = .ok (.ifCond .lt 29, 3) := dX8_isPart_0_b.2.2.2.1
theorem dX8_isPart_8 : decode cX8_isPart 8 = .ok (.iload_n 2, 1) := dX8_isPart_0_b.2.2.2.2.1
theorem dX8_isPart_9 : decode cX8_isPart 9 = .ok (.aload_n 0, 1) := dX8_isPart_0_b.2.2.2.2.2.1
theorem dX8_isPart_10 : decode cX8_isPart 10 = .ok (.getfield 13, 3) := dX8_isPart_0_b.2.2.2.2.2.2.1
theorem dX8_isPart_13 : decode cX8_isPart 13 = .ok (.iload_n 1, 1) := dX8_isPart_0_b.2.2.2.2.2.2.2.1
theorem dX8_isPart_14 : decode cX8_isPart 14 = .ok (.iaload, 1) := dX8_isPart_0_b.2.2.2.2.2.2.2.2.1
theorem dX8_isPart_15 : decode cX8_isPart 15 = .ok (.if_icmp .gt 19, 3) := dX8_isPart_0_b.2.2.2.2.2.2.2.2.2.1
theorem dX8_isPart_18 : decode cX8_isPart 18 = .ok (.iload_n 3, 1) := dX8_isPart_0_b.2.2.2.2.2.2.2.2.2.2.1
theorem dX8_isPart_19 : decode cX8_isPart 19 = .ok (.aload_n 0, 1) := dX8_isPart_0_b.2.2.2.2.2.2.2.2.2.2.2
theorem dX8_isPart_20_b : (decode cX8_isPart 20 = .ok (.getfield 13, 3)) ∧ (decode cX8_isPart 23 = .ok (.iload_n 1, 1)) ∧ (decode cX8_isPart 24 = .ok (.iaload, 1)) ∧ (decode cX8_isPart 25 = .ok (.iload_n 2, 1)) ∧ (decode cX8_isPart 26 = .ok (.isub, 1)) ∧ (decode cX8_isPart 27 = .ok (.if_icmp .gt 7, 3)) ∧ (decode cX8_isPart 30 = .ok (.iconst 1, 1)) ∧ (decode cX8_isPart 31 = .ok (.goto 4, 3)) ∧ (decode cX8_isPart 34 = .ok (.iconst 0, 1)) ∧ (decode cX8_isPart 35 = .ok (.ireturn, 1)) := by decide +kernel
theorem dX8_isPart_20 : decode cX8_isPart 20 = .ok (.getfield 13, 3) := dX8_isPart_20_b.1
theorem dX8_isPart_23 : decode cX8_isPart 23 = .ok (.iload_n 1, 1) := dX8_isPart_20_b.2.1
theorem dX8_isPart_24 : decode cX8_isPart 24 = .ok (.iaload, 1) := dX8_isPart_20_b.2.2.1
theorem dX8_isPart_25 : decode cX8_isPart 25 = .ok (.iload_n 2, 1) := dX8_isPart_20_b.2.2.2.1
theorem dX8_isPart_26 : decode cX8_isPart 26 = .ok (.isub, 1) := dX8_isPart_20_b.2.2.2.2.1
theorem dX8_isPart_27 : decode cX8_isPart 27 = .ok (.if_icmp .gt 7, 3) := dX8_isPart_20_b.2.2.2.2.2.1
theorem dX8_isPart_30 : decode cX8_isPart 30 = .ok (.iconst 1, 1) := dX8_isPart_20_b.2.2.2.2.2.2.1
theorem dX8_isPart_31 : decode cX8_isPart 31 = .ok (.goto 4, 3) := dX8_isPart_20_b.2.2.2.2.2.2.2.1
theorem dX8_isPart_34 : decode cX8_isPart 34 = .ok (.iconst 0, 1) := dX8_isPart_20_b.2.2.2.2.2.2.2.2.1
theorem dX8_isPart_35 : decode cX8_isPart 35 = .ok (.ireturn, 1) := dX8_isPart_20_b.2.2.2.2.2.2.2.2.2
theorem dX8_copy_0_b : (decode cX8_copy 0 = .ok (.iload_n 1, 1)) ∧ (decode cX8_copy 1 = .ok (.invokestatic 60, 3)) ∧ (decode cX8_copy 4 = .ok (.ifCond .eq 10, 3)) ∧ (decode cX8_copy 7 = .ok (.iload_n 3, 1)) ∧ (decode cX8_copy 8 = .ok (.invokestatic 60, 3)) ∧ (decode cX8_copy 11 = .ok (.ifCond .ne 6, 3)) ∧ (decode cX8_copy 14 = .ok (.ldc 64, 2)) ∧ (decode cX8_copy 16 = .ok (.ireturn, 1)) ∧ (decode cX8_copy 17 = .ok (.aload_n 0, 1)) ∧ (decode cX8_copy 18 = .ok (.iload_n 1, 1)) ∧ (decode cX8_copy 19 = .ok (.invokevirtual 72, 3)) ∧ (decode cX8_copy 22 = .ok (.ifCond .ne 11, 3)) := by decide +kernel
theorem dX8_copy_0 : decode cX8_copy 0 = .ok (.iload_n 1, 1) := dX8_copy_0_b.1
theorem dX8_copy_1 : decode cX8_copy 1 = .ok (.invokestatic 60, 3) := dX8_copy_0_b.2.1
theorem dX8_copy_4 : decode cX8_copy 4 = .ok (.ifCond .eq 10, 3) := dX8_copy_0_b.2.2.1
theorem dX8_copy_7 : decode cX8_copy 7 = .ok (.iload_n 3, 1) := dX8_copy_0_b.2.2.2.1
theorem dX8_copy_8 : decode cX8_copy 8 = .ok (.invokestatic 60, 3) := dX8_copy_0_b.2.2.2.2.1
theorem dX8_copy_11 : decode cX8_copy 11 = .ok (.ifCond .ne 6, 3) := dX8_copy_0_b.2.2.2.2.2.1
theorem dX8_copy_14 : decode cX8_copy 14 = .ok (.ldc 64, 2) := dX8_copy_0_b.2.2.2.2.2.2.1
theorem dX8_copy_16 : decode cX8_copy 16 = .ok (.ireturn, 1) := dX8_copy_0_b.2.2.2.2.2.2.2.1
theorem dX8_copy_17 : decode cX8_copy 17 = .ok (.aload_n 0, 1) := dX8_copy_0_b.2.2.2.2.2.2.2.2.1
theorem dX8_copy_18 : decode cX8_copy 18 = .ok (.iload_n 1, 1) := dX8_copy_0_b.2.2.2.2.2.2.2.2.2.1
theorem dX8_copy_19 : decode cX8_copy 19 = .ok (.invokevirtual 72, 3) := dX8_copy_0_b.2.2.2.2.2.2.2.2.2.2.1
theorem dX8_copy_22 : decode cX8_copy 22 = .ok (.ifCond .ne 11, 3) := dX8_copy_0_b.2.2.2.2.2.2.2.2.2.2.2
theorem dX8_copy_25_b : (decode cX8_copy 25 = .ok (.aload_n 0, 1)) ∧ (decode cX8_copy 26 = .ok (.iload_n 3, 1)) ∧ (decode cX8_copy 27 = .ok (.invokevirtual 72, 3)) ∧ (decode cX8_copy 30 = .ok (.ifCond .eq 9, 3)) ∧ (decode cX8_copy 33 = .ok (.aload_n 0, 1)) ∧ (decode cX8_copy 34 = .ok (.iconst 1, 1)) ∧ (decode cX8_copy 35 = .ok (.invokevirtual 65, 3)) ∧ (decode cX8_copy 38 = .ok (.ireturn, 1)) ∧ (decode cX8_copy 39 = .ok (.aload_n 0, 1)) ∧ (decode cX8_copy 40 = .ok (.getfield 7, 3)) ∧ (decode cX8_copy 43 = .ok (.iload_n 1, 1)) ∧ (decode cX8_copy 44 = .ok (.iaload, 1)) := by decide +kernel
theorem dX8_copy_25 : decode cX8_copy 25 = .ok (.aload_n 0, 1) := dX8_copy_25_b.1
theorem dX8_copy_26 : decode cX8_copy 26 = .ok (.iload_n 3, 1) := dX8_copy_25_b.2.1
theorem dX8_copy_27 : decode cX8_copy 27 = .ok (.invokevirtual 72, 3) := dX8_copy_25_b.2.2.1
theorem dX8_copy_30 : decode cX8_copy 30 = .ok (.ifCond .eq 9, 3) := dX8_copy_25_b.2.2.2.1
theorem dX8_copy_33 : decode cX8_copy 33 = .ok (.aload_n 0, 1) := dX8_copy_25_b.2.2.2.2.1
theorem dX8_copy_34 : decode cX8_copy 34 = .ok (.iconst 1, 1) := dX8_copy_25_b.2.2.2.2.2.1
theorem dX8_copy_35 : decode cX8_copy 35 = .ok (.invokevirtual 65, 3) := dX8_copy_25_b.2.2.2.2.2.2.1
theorem dX8_copy_38 : decode cX8_copy 38 = .ok (.ireturn, 1) := dX8_copy_25_b.2.2.2.2.2.2.2.1
theorem dX8_copy_39 : decode cX8_copy 39 = .ok (.aload_n 0, 1) := dX8_copy_25_b.2.2.2.2.2.2.2.2.1
theorem dX8_copy_40 : decode cX8_copy 40 = .ok (.getfield 7, 3) := dX8_copy_25_b.2.2.2.2.2.2.2.2.2.1
theorem dX8_copy_43 : decode cX8_copy 43 = .ok (.iload_n 1, 1) := dX8_copy_25_b.2.2.2.2.2.2.2.2.2.2.1
theorem dX8_copy_44 : decode cX8_copy 44 = .ok (.iaload, 1) := dX8_copy_25_b.2.2.2.2.2.2.2.2.2.2.2
theorem dX8_copy_45_b : (decode cX8_copy 45 = .ok (.aload_n 0, 1)) ∧ (decode cX8_copy 46 = .ok (.getfield 7, 3)) ∧ (decode cX8_copy 49 = .ok (.iload_n 3, 1)) ∧ (decode cX8_copy 50 = .ok (.iaload, 1)) ∧ (decode cX8_copy 51 = .ok (.if_icmp .eq 9, 3)) ∧ (decode cX8_copy 54 = .ok (.aload_n 0, 1)) ∧ (decode cX8_copy 55 = .ok (.iconst 5, 1)) ∧ (decode cX8_copy 56 = .ok (.invokevirtual 65, 3)) ∧ (decode cX8_copy 59 = .ok (.ireturn, 1)) ∧ (decode cX8_copy 60 = .ok (.aload_n 0, 1)) ∧ (decode cX8_copy 61 = .ok (.iload_n 1, 1)) ∧ (decode cX8_copy 62 = .ok (.iload_n 2, 1)) := by decide +kernel
theorem dX8_copy_45 : decode cX8_copy 45 = .ok (.aload_n 0, 1) := dX8_copy_45_b.1
theorem dX8_copy_46 : decode cX8_copy 46 = .ok (.getfield 7, 3) := dX8_copy_45_b.2.1
theorem dX8_copy_49 : decode cX8_copy 49 = .ok (.iload_n 3, 1) := dX8_copy_45_b.2.2.1
theorem dX8_copy_50 : decode cX8_copy 50 = .ok (.iaload, 1) := dX8_copy_45_b.2.2.2.1
theorem dX8_copy_51 : decode cX8_copy 51 = .ok (.if_icmp .eq 9, 3) := dX8_copy_45_b.2.2.2.2.1
theorem dX8_copy_54 : decode cX8_copy 54 = .ok (.aload_n 0, 1) := dX8_copy_45_b.2.2.2.2.2.1
theorem dX8_copy_55 : decode cX8_copy 55 = .ok (.iconst 5, 1) := dX8_copy_45_b.2.2.2.2.2.2.1
theorem dX8_copy_56 : decode cX8_copy 56 = .ok (.invokevirtual 65, 3) := dX8_copy_45_b.2.2.2.2.2.2.2.1
theorem dX8_copy_59 : decode cX8_copy 59 = .ok (.ireturn, 1) := dX8_copy_45_b.2.2.2.2.2.2.2.2.1
theorem dX8_copy_60 : decode cX8_copy 60 = .ok (.aload_n 0, 1) := dX8_copy_45_b.2.2.2.2.2.2.2.2.2.1
theorem dX8_copy_61 : decode cX8_copy 61 = .ok (.iload_n 1, 1) := dX8_copy_45_b.2.2.2.2.2.2.2.2.2.2.1
theorem dX8_copy_62 : decode cX8_copy 62 = .ok (.iload_n 2, 1) := dX8_copy_45_b.2.2.2.2.2.2.2.2.2.2.2
theorem dX8_copy_63_b : (decode cX8_copy 63 = .ok (.iload 5, 2)) ∧ (decode cX8_copy 65 = .ok (.invokevirtual 79, 3)) ∧ (decode cX8_copy 68 = .ok (.ifCond .eq 15, 3)) ∧ (decode cX8_copy 71 = .ok (.aload_n 0, 1)) ∧ (decode cX8_copy 72 = .ok (.iload_n 3, 1)) ∧ (decode cX8_copy 73 = .ok (.iload 4, 2)) ∧ (decode cX8_copy 75 = .ok (.iload 5, 2)) ∧ (decode cX8_copy 77 = .ok (.invokevirtual 79, 3)) ∧ (decode cX8_copy 80 = .ok (.ifCond .ne 9, 3)) ∧ (decode cX8_copy 83 = .ok (.aload_n 0, 1)) ∧ (decode cX8_copy 84 = .ok (.iconst 2, 1)) ∧ (decode cX8_copy 85 = .ok (.invokevirtual 65, 3)) := by decide +kernel
theorem dX8_copy_63 : decode cX8_copy 63 = .ok (.iload 5, 2) := dX8_copy_63_b.1
theorem dX8_copy_65 : decode cX8_copy 65 = .ok (.invokevirtual 79, 3) := dX8_copy_63_b.2.1
theorem dX8_copy_68 : decode cX8_copy 68 = .ok (.ifCond .eq 15, 3) := dX8_copy_63_b.2.2.1
theorem dX8_copy_71 : decode cX8_copy 71 = .ok (.aload_n 0, 1) := dX8_copy_63_b.2.2.2.1
theorem dX8_copy_72 : decode cX8_copy 72 = .ok (.iload_n 3, 1) := dX8_copy_63_b.2.2.2.2.1
theorem dX8_copy_73 : decode cX8_copy 73 = .ok (.iload 4, 2) := dX8_copy_63_b.2.2.2.2.2.1
theorem dX8_copy_75 : decode cX8_copy 75 = .ok (.iload 5, 2) := dX8_copy_63_b.2.2.2.2.2.2.1
theorem dX8_copy_77 : decode cX8_copy 77 = .ok (.invokevirtual 79, 3) := dX8_copy_63_b.2.2.2.2.2.2.2.1
theorem dX8_copy_80 : decode cX8_copy 80 = .ok (.ifCond .ne 9, 3) := dX8_copy_63_b.2.2.2.2.2.2.2.2.1
theorem dX8_copy_83 : decode cX8_copy 83 = .ok (.aload_n 0, 1) := dX8_copy_63_b.2.2.2.2.2.2.2.2.2.1
theorem dX8_copy_84 : decode cX8_copy 84 = .ok (.iconst 2, 1) := dX8_copy_63_b.2.2.2.2.2.2.2.2.2.2.1
theorem dX8_copy_85 : decode cX8_copy 85 = .ok (.invokevirtual 65, 3) := dX8_copy_63_b.2.2.2.2.2.2.2.2.2.2.2
theorem dX8_copy_88_b : (decode cX8_copy 88 = .ok (.ireturn, 1)) ∧ (decode cX8_copy 89 = .ok (.iconst 0, 1)) ∧ (decode cX8_copy 90 = .ok (.istore 6, 2)) ∧ (decode cX8_copy 92 = .ok (.iload 6, 2)) ∧ (decode cX8_copy 94 = .ok (.iload 5, 2)) ∧ (decode cX8_copy 96 = .ok (.if_icmp .ge 30, 3)) ∧ (decode cX8_copy 99 = .ok (.aload_n 0, 1)) ∧ (decode cX8_copy 100 = .ok (.getfield 19, 3)) ∧ (decode cX8_copy 103 = .ok (.iload 6, 2)) ∧ (decode cX8_copy 105 = .ok (.aload_n 0, 1)) ∧ (decode cX8_copy 106 = .ok (.getfield 16, 3)) ∧ (decode cX8_copy 109 = .ok (.bipush 40, 2)) := by decide +kernel
theorem dX8_copy_88 : decode cX8_copy 88 = .ok (.ireturn, 1) := dX8_copy_88_b.1
theorem dX8_copy_89 : decode cX8_copy 89 = .ok (.iconst 0, 1) := dX8_copy_88_b.2.1
theorem dX8_copy_90 : decode cX8_copy 90 = .ok (.istore 6, 2) := dX8_copy_88_b.2.2.1
theorem dX8_copy_92 : decode cX8_copy 92 = .ok (.iload 6, 2) := dX8_copy_88_b.2.2.2.1
theorem dX8_copy_94 : decode cX8_copy 94 = .ok (.iload 5, 2) := dX8_copy_88_b.2.2.2.2.1
theorem dX8_copy_96 : decode cX8_copy 96 = .ok (.if_icmp .ge 30, 3) := dX8_copy_88_b.2.2.2.2.2.1
theorem dX8_copy_99 : decode cX8_copy 99 = .ok (.aload_n 0, 1) := dX8_copy_88_b.2.2.2.2.2.2.1
theorem dX8_copy_100 : decode cX8_copy 100 = .ok (.getfield 19, 3) := dX8_copy_88_b.2.2.2.2.2.2.2.1
theorem dX8_copy_103 : decode cX8_copy 103 = .ok (.iload 6, 2) := dX8_copy_88_b.2.2.2.2.2.2.2.2.1
theorem dX8_copy_105 : decode cX8_copy 105 = .ok (.aload_n 0, 1) := dX8_copy_88_b.2.2.2.2.2.2.2.2.2.1
theorem dX8_copy_106 : decode cX8_copy 106 = .ok (.getfield 16, 3) := dX8_copy_88_b.2.2.2.2.2.2.2.2.2.2.1
theorem dX8_copy_109 : decode cX8_copy 109 = .ok (.bipush 40, 2) := dX8_copy_88_b.2.2.2.2.2.2.2.2.2.2.2
theorem dX8_copy_111_b : (decode cX8_copy 111 = .ok (.iload_n 1, 1)) ∧ (decode cX8_copy 112 = .ok (.imul, 1)) ∧ (decode cX8_copy 113 = .ok (.iload_n 2, 1)) ∧ (decode cX8_copy 114 = .ok (.iadd, 1)) ∧ (decode cX8_copy 115 = .ok (.iload 6, 2)) ∧ (decode cX8_copy 117 = .ok (.iadd, 1)) ∧ (decode cX8_copy 118 = .ok (.iaload, 1)) ∧ (decode cX8_copy 119 = .ok (.iastore, 1)) ∧ (decode cX8_copy 120 = .ok (.iinc 6 1, 3)) ∧ (decode cX8_copy 123 = .ok (.goto (-31), 3)) ∧ (decode cX8_copy 126 = .ok (.iconst 0, 1)) ∧ (decode cX8_copy 127 = .ok (.istore 6, 2)) := by decide +kernel
theorem dX8_copy_111 : decode cX8_copy 111 = .ok (.iload_n 1, 1) := dX8_copy_111_b.1
theorem dX8_copy_112 : decode cX8_copy 112 = .ok (.imul, 1) := dX8_copy_111_b.2.1
theorem dX8_copy_113 : decode cX8_copy 113 = .ok (.iload_n 2, 1) := dX8_copy_111_b.2.2.1
theorem dX8_copy_114 : decode cX8_copy 114 = .ok (.iadd, 1) := dX8_copy_111_b.2.2.2.1
theorem dX8_copy_115 : decode cX8_copy 115 = .ok (.iload 6, 2) := dX8_copy_111_b.2.2.2.2.1
theorem dX8_copy_117 : decode cX8_copy 117 = .ok (.iadd, 1) := dX8_copy_111_b.2.2.2.2.2.1
theorem dX8_copy_118 : decode cX8_copy 118 = .ok (.iaload, 1) := dX8_copy_111_b.2.2.2.2.2.2.1
theorem dX8_copy_119 : decode cX8_copy 119 = .ok (.iastore, 1) := dX8_copy_111_b.2.2.2.2.2.2.2.1
theorem dX8_copy_120 : decode cX8_copy 120 = .ok (.iinc 6 1, 3) := dX8_copy_111_b.2.2.2.2.2.2.2.2.1
theorem dX8_copy_123 : decode cX8_copy 123 = .ok (.goto (-31), 3) := dX8_copy_111_b.2.2.2.2.2.2.2.2.2.1
theorem dX8_copy_126 : decode cX8_copy 126 = .ok (.iconst 0, 1) := dX8_copy_111_b.2.2.2.2.2.2.2.2.2.2.1
theorem dX8_copy_127 : decode cX8_copy 127 = .ok (.istore 6, 2) := dX8_copy_111_b.2.2.2.2.2.2.2.2.2.2.2
theorem dX8_copy_129_b : (decode cX8_copy 129 = .ok (.iload 6, 2)) ∧ (decode cX8_copy 131 = .ok (.iload 5, 2)) ∧ (decode cX8_copy 133 = .ok (.if_icmp .ge 31, 3)) ∧ (decode cX8_copy 136 = .ok (.aload_n 0, 1)) ∧ (decode cX8_copy 137 = .ok (.getfield 16, 3)) ∧ (decode cX8_copy 140 = .ok (.bipush 40, 2)) ∧ (decode cX8_copy 142 = .ok (.iload_n 3, 1)) ∧ (decode cX8_copy 143 = .ok (.imul, 1)) ∧ (decode cX8_copy 144 = .ok (.iload 4, 2)) ∧ (decode cX8_copy 146 = .ok (.iadd, 1)) ∧ (decode cX8_copy 147 = .ok (.iload 6, 2)) ∧ (decode cX8_copy 149 = .ok (.iadd, 1)) := by decide +kernel
theorem dX8_copy_129 : decode cX8_copy 129 = .ok (.iload 6, 2) := dX8_copy_129_b.1
theorem dX8_copy_131 : decode cX8_copy 131 = .ok (.iload 5, 2) := dX8_copy_129_b.2.1
theorem dX8_copy_133 : decode cX8_copy 133 = .ok (.if_icmp .ge 31, 3) := dX8_copy_129_b.2.2.1
theorem dX8_copy_136 : decode cX8_copy 136 = .ok (.aload_n 0, 1) := dX8_copy_129_b.2.2.2.1
theorem dX8_copy_137 : decode cX8_copy 137 = .ok (.getfield 16, 3) := dX8_copy_129_b.2.2.2.2.1
theorem dX8_copy_140 : decode cX8_copy 140 = .ok (.bipush 40, 2) := dX8_copy_129_b.2.2.2.2.2.1
theorem dX8_copy_142 : decode cX8_copy 142 = .ok (.iload_n 3, 1) := dX8_copy_129_b.2.2.2.2.2.2.1
theorem dX8_copy_143 : decode cX8_copy 143 = .ok (.imul, 1) := dX8_copy_129_b.2.2.2.2.2.2.2.1
theorem dX8_copy_144 : decode cX8_copy 144 = .ok (.iload 4, 2) := dX8_copy_129_b.2.2.2.2.2.2.2.2.1
theorem dX8_copy_146 : decode cX8_copy 146 = .ok (.iadd, 1) := dX8_copy_129_b.2.2.2.2.2.2.2.2.2.1
theorem dX8_copy_147 : decode cX8_copy 147 = .ok (.iload 6, 2) := dX8_copy_129_b.2.2.2.2.2.2.2.2.2.2.1
theorem dX8_copy_149 : decode cX8_copy 149 = .ok (.iadd, 1) := dX8_copy_129_b.2.2.2.2.2.2.2.2.2.2.2
theorem dX8_copy_150_b : (decode cX8_copy 150 = .ok (.aload_n 0, 1)) ∧ (decode cX8_copy 151 = .ok (.getfield 19, 3)) ∧ (decode cX8_copy 154 = .ok (.iload 6, 2)) ∧ (decode cX8_copy 156 = .ok (.iaload, 1)) ∧ (decode cX8_copy 157 = .ok (.iastore, 1)) ∧ (decode cX8_copy 158 = .ok (.iinc 6 1, 3)) ∧ (decode cX8_copy 161 = .ok (.goto (-32), 3)) ∧ (decode cX8_copy 164 = .ok (.aload_n 0, 1)) ∧ (decode cX8_copy 165 = .ok (.iload 5, 2)) ∧ (decode cX8_copy 167 = .ok (.invokevirtual 69, 3)) ∧ (decode cX8_copy 170 = .ok (.ireturn, 1)) := by decide +kernel
theorem dX8_copy_150 : decode cX8_copy 150 = .ok (.aload_n 0, 1) := dX8_copy_150_b.1
theorem dX8_copy_151 : decode cX8_copy 151 = .ok (.getfield 19, 3) := dX8_copy_150_b.2.1
theorem dX8_copy_154 : decode cX8_copy 154 = .ok (.iload 6, 2) := dX8_copy_150_b.2.2.1
theorem dX8_copy_156 : decode cX8_copy 156 = .ok (.iaload, 1) := dX8_copy_150_b.2.2.2.1
theorem dX8_copy_157 : decode cX8_copy 157 = .ok (.iastore, 1) := dX8_copy_150_b.2.2.2.2.1
theorem dX8_copy_158 : decode cX8_copy 158 = .ok (.iinc 6 1, 3) := dX8_copy_150_b.2.2.2.2.2.1
theorem dX8_copy_161 : decode cX8_copy 161 = .ok (.goto (-32), 3) := dX8_copy_150_b.2.2.2.2.2.2.1
theorem dX8_copy_164 : decode cX8_copy 164 = .ok (.aload_n 0, 1) := dX8_copy_150_b.2.2.2.2.2.2.2.1
theorem dX8_copy_165 : decode cX8_copy 165 = .ok (.iload 5, 2) := dX8_copy_150_b.2.2.2.2.2.2.2.2.1
theorem dX8_copy_167 : decode cX8_copy 167 = .ok (.invokevirtual 69, 3) := dX8_copy_150_b.2.2.2.2.2.2.2.2.2.1
theorem dX8_copy_170 : decode cX8_copy 170 = .ok (.ireturn, 1) := dX8_copy_150_b.2.2.2.2.2.2.2.2.2.2
theorem dX8_drop_0_b : (decode cX8_drop 0 = .ok (.iload_n 1, 1)) ∧ (decode cX8_drop 1 = .ok (.invokestatic 60, 3)) ∧ (decode cX8_drop 4 = .ok (.ifCond .ne 6, 3)) ∧ (decode cX8_drop 7 = .ok (.ldc 64, 2)) ∧ (decode cX8_drop 9 = .ok (.ireturn, 1)) ∧ (decode cX8_drop 10 = .ok (.aload_n 0, 1)) ∧ (decode cX8_drop 11 = .ok (.iload_n 1, 1)) ∧ (decode cX8_drop 12 = .ok (.invokevirtual 72, 3)) ∧ (decode cX8_drop 15 = .ok (.ifCond .eq 9, 3)) ∧ (decode cX8_drop 18 = .ok (.aload_n 0, 1)) ∧ (decode cX8_drop 19 = .ok (.iconst 1, 1)) ∧ (decode cX8_drop 20 = .ok (.invokevirtual 65, 3)) := by decide +kernel
theorem dX8_drop_0 : decode cX8_drop 0 = .ok (.iload_n 1, 1) := dX8_drop_0_b.1
theorem dX8_drop_1 : decode cX8_drop 1 = .ok (.invokestatic 60, 3) := dX8_drop_0_b.2.1
theorem dX8_drop_4 : decode cX8_drop 4 = .ok (.ifCond .ne 6, 3) := dX8_drop_0_b.2.2.1
theorem dX8_drop_7 : decode cX8_drop 7 = .ok (.ldc 64, 2) := dX8_drop_0_b.2.2.2.1
theorem dX8_drop_9 : decode cX8_drop 9 = .ok (.ireturn, 1) := dX8_drop_0_b.2.2.2.2.1
theorem dX8_drop_10 : decode cX8_drop 10 = .ok (.aload_n 0, 1) := dX8_drop_0_b.2.2.2.2.2.1
theorem dX8_drop_11 : decode cX8_drop 11 = .ok (.iload_n 1, 1) := dX8_drop_0_b.2.2.2.2.2.2.1
theorem dX8_drop_12 : decode cX8_drop 12 = .ok (.invokevirtual 72, 3) := dX8_drop_0_b.2.2.2.2.2.2.2.1
theorem dX8_drop_15 : decode cX8_drop 15 = .ok (.ifCond .eq 9, 3) := dX8_drop_0_b.2.2.2.2.2.2.2.2.1
theorem dX8_drop_18 : decode cX8_drop 18 = .ok (.aload_n 0, 1) := dX8_drop_0_b.2.2.2.2.2.2.2.2.2.1
theorem dX8_drop_19 : decode cX8_drop 19 = .ok (.iconst 1, 1) := dX8_drop_0_b.2.2.2.2.2.2.2.2.2.2.1
theorem dX8_drop_20 : decode cX8_drop 20 = .ok (.invokevirtual 65, 3) := dX8_drop_0_b.2.2.2.2.2.2.2.2.2.2.2
theorem dX8_drop_23_b : (decode cX8_drop 23 = .ok (.ireturn, 1)) ∧ (decode cX8_drop 24 = .ok (.aload_n 0, 1)) ∧ (decode cX8_drop 25 = .ok (.getfield 7, 3)) ∧ (decode cX8_drop 28 = .ok (.iload_n 1, 1)) ∧ (decode cX8_drop 29 = .ok (.ldc 50, 2)) ∧ (decode cX8_drop 31 = .ok (.iastore, 1)) ∧ (decode cX8_drop 32 = .ok (.aload_n 0, 1)) ∧ (decode cX8_drop 33 = .ok (.aload_n 0, 1)) ∧ (decode cX8_drop 34 = .ok (.getfield 13, 3)) ∧ (decode cX8_drop 37 = .ok (.iload_n 1, 1)) ∧ (decode cX8_drop 38 = .ok (.iaload, 1)) ∧ (decode cX8_drop 39 = .ok (.invokevirtual 69, 3)) := by decide +kernel
theorem dX8_drop_23 : decode cX8_drop 23 = .ok (.ireturn, 1) := dX8_drop_23_b.1
theorem dX8_drop_24 : decode cX8_drop 24 = .ok (.aload_n 0, 1) := dX8_drop_23_b.2.1
theorem dX8_drop_25 : decode cX8_drop 25 = .ok (.getfield 7, 3) := dX8_drop_23_b.2.2.1
theorem dX8_drop_28 : decode cX8_drop 28 = .ok (.iload_n 1, 1) := dX8_drop_23_b.2.2.2.1
theorem dX8_drop_29 : decode cX8_drop 29 = .ok (.ldc 50, 2) := dX8_drop_23_b.2.2.2.2.1
theorem dX8_drop_31 : decode cX8_drop 31 = .ok (.iastore, 1) := dX8_drop_23_b.2.2.2.2.2.1
theorem dX8_drop_32 : decode cX8_drop 32 = .ok (.aload_n 0, 1) := dX8_drop_23_b.2.2.2.2.2.2.1
theorem dX8_drop_33 : decode cX8_drop 33 = .ok (.aload_n 0, 1) := dX8_drop_23_b.2.2.2.2.2.2.2.1
theorem dX8_drop_34 : decode cX8_drop 34 = .ok (.getfield 13, 3) := dX8_drop_23_b.2.2.2.2.2.2.2.2.1
theorem dX8_drop_37 : decode cX8_drop 37 = .ok (.iload_n 1, 1) := dX8_drop_23_b.2.2.2.2.2.2.2.2.2.1
theorem dX8_drop_38 : decode cX8_drop 38 = .ok (.iaload, 1) := dX8_drop_23_b.2.2.2.2.2.2.2.2.2.2.1
theorem dX8_drop_39 : decode cX8_drop 39 = .ok (.invokevirtual 69, 3) := dX8_drop_23_b.2.2.2.2.2.2.2.2.2.2.2
theorem dX8_drop_42 : decode cX8_drop 42 = .ok (.ireturn, 1) := by decide +kernel
theorem dX8_feed_0_b : (decode cX8_feed 0 = .ok (.iload_n 1, 1)) ∧ (decode cX8_feed 1 = .ok (.iconst 0, 1)) ∧ (decode cX8_feed 2 = .ok (.sipush 255, 3)) ∧ (decode cX8_feed 5 = .ok (.invokestatic 56, 3)) ∧ (decode cX8_feed 8 = .ok (.ifCond .ne 6, 3)) ∧ (decode cX8_feed 11 = .ok (.ldc 64, 2)) ∧ (decode cX8_feed 13 = .ok (.ireturn, 1)) ∧ (decode cX8_feed 14 = .ok (.aload_n 0, 1)) ∧ (decode cX8_feed 15 = .ok (.getfield 82, 3)) ∧ (decode cX8_feed 18 = .ok (.bipush 120, 2)) ∧ (decode cX8_feed 20 = .ok (.if_icmp .ne 6, 3)) ∧ (decode cX8_feed 23 = .ok (.ldc 85, 2)) := by decide +kernel
theorem dX8_feed_0 : decode cX8_feed 0 = .ok (.iload_n 1, 1) := dX8_feed_0_b.1
theorem dX8_feed_1 : decode cX8_feed 1 = .ok (.iconst 0, 1) := dX8_feed_0_b.2.1
theorem dX8_feed_2 : decode cX8_feed 2 = .ok (.sipush 255, 3) := dX8_feed_0_b.2.2.1
theorem dX8_feed_5 : decode cX8_feed 5 = .ok (.invokestatic 56, 3) := dX8_feed_0_b.2.2.2.1
theorem dX8_feed_8 : decode cX8_feed 8 = .ok (.ifCond .ne 6, 3) := dX8_feed_0_b.2.2.2.2.1
theorem dX8_feed_11 : decode cX8_feed 11 = .ok (.ldc 64, 2) := dX8_feed_0_b.2.2.2.2.2.1
theorem dX8_feed_13 : decode cX8_feed 13 = .ok (.ireturn, 1) := dX8_feed_0_b.2.2.2.2.2.2.1
theorem dX8_feed_14 : decode cX8_feed 14 = .ok (.aload_n 0, 1) := dX8_feed_0_b.2.2.2.2.2.2.2.1
theorem dX8_feed_15 : decode cX8_feed 15 = .ok (.getfield 82, 3) := dX8_feed_0_b.2.2.2.2.2.2.2.2.1
theorem dX8_feed_18 : decode cX8_feed 18 = .ok (.bipush 120, 2) := dX8_feed_0_b.2.2.2.2.2.2.2.2.2.1
theorem dX8_feed_20 : decode cX8_feed 20 = .ok (.if_icmp .ne 6, 3) := dX8_feed_0_b.2.2.2.2.2.2.2.2.2.2.1
theorem dX8_feed_23 : decode cX8_feed 23 = .ok (.ldc 85, 2) := dX8_feed_0_b.2.2.2.2.2.2.2.2.2.2.2
theorem dX8_feed_25_b : (decode cX8_feed 25 = .ok (.ireturn, 1)) ∧ (decode cX8_feed 26 = .ok (.aload_n 0, 1)) ∧ (decode cX8_feed 27 = .ok (.getfield 22, 3)) ∧ (decode cX8_feed 30 = .ok (.aload_n 0, 1)) ∧ (decode cX8_feed 31 = .ok (.getfield 82, 3)) ∧ (decode cX8_feed 34 = .ok (.iload_n 1, 1)) ∧ (decode cX8_feed 35 = .ok (.iastore, 1)) ∧ (decode cX8_feed 36 = .ok (.aload_n 0, 1)) ∧ (decode cX8_feed 37 = .ok (.dup, 1)) ∧ (decode cX8_feed 38 = .ok (.getfield 82, 3)) ∧ (decode cX8_feed 41 = .ok (.iconst 1, 1)) ∧ (decode cX8_feed 42 = .ok (.iadd, 1)) := by decide +kernel
theorem dX8_feed_25 : decode cX8_feed 25 = .ok (.ireturn, 1) := dX8_feed_25_b.1
theorem dX8_feed_26 : decode cX8_feed 26 = .ok (.aload_n 0, 1) := dX8_feed_25_b.2.1
theorem dX8_feed_27 : decode cX8_feed 27 = .ok (.getfield 22, 3) := dX8_feed_25_b.2.2.1
theorem dX8_feed_30 : decode cX8_feed 30 = .ok (.aload_n 0, 1) := dX8_feed_25_b.2.2.2.1
theorem dX8_feed_31 : decode cX8_feed 31 = .ok (.getfield 82, 3) := dX8_feed_25_b.2.2.2.2.1
theorem dX8_feed_34 : decode cX8_feed 34 = .ok (.iload_n 1, 1) := dX8_feed_25_b.2.2.2.2.2.1
theorem dX8_feed_35 : decode cX8_feed 35 = .ok (.iastore, 1) := dX8_feed_25_b.2.2.2.2.2.2.1
theorem dX8_feed_36 : decode cX8_feed 36 = .ok (.aload_n 0, 1) := dX8_feed_25_b.2.2.2.2.2.2.2.1
theorem dX8_feed_37 : decode cX8_feed 37 = .ok (.dup, 1) := dX8_feed_25_b.2.2.2.2.2.2.2.2.1
theorem dX8_feed_38 : decode cX8_feed 38 = .ok (.getfield 82, 3) := dX8_feed_25_b.2.2.2.2.2.2.2.2.2.1
theorem dX8_feed_41 : decode cX8_feed 41 = .ok (.iconst 1, 1) := dX8_feed_25_b.2.2.2.2.2.2.2.2.2.2.1
theorem dX8_feed_42 : decode cX8_feed 42 = .ok (.iadd, 1) := dX8_feed_25_b.2.2.2.2.2.2.2.2.2.2.2
theorem dX8_feed_43_b : (decode cX8_feed 43 = .ok (.putfield 82, 3)) ∧ (decode cX8_feed 46 = .ok (.aload_n 0, 1)) ∧ (decode cX8_feed 47 = .ok (.getfield 82, 3)) ∧ (decode cX8_feed 50 = .ok (.ireturn, 1)) := by decide +kernel
theorem dX8_feed_43 : decode cX8_feed 43 = .ok (.putfield 82, 3) := dX8_feed_43_b.1
theorem dX8_feed_46 : decode cX8_feed 46 = .ok (.aload_n 0, 1) := dX8_feed_43_b.2.1
theorem dX8_feed_47 : decode cX8_feed 47 = .ok (.getfield 82, 3) := dX8_feed_43_b.2.2.1
theorem dX8_feed_50 : decode cX8_feed 50 = .ok (.ireturn, 1) := dX8_feed_43_b.2.2.2
theorem dX8_byteAt_0_b : (decode cX8_byteAt 0 = .ok (.iload_n 1, 1)) ∧ (decode cX8_byteAt 1 = .ok (.aload_n 0, 1)) ∧ (decode cX8_byteAt 2 = .ok (.getfield 82, 3)) ∧ (decode cX8_byteAt 5 = .ok (.if_icmp .ge 12, 3)) ∧ (decode cX8_byteAt 8 = .ok (.aload_n 0, 1)) ∧ (decode cX8_byteAt 9 = .ok (.getfield 22, 3)) ∧ (decode cX8_byteAt 12 = .ok (.iload_n 1, 1)) ∧ (decode cX8_byteAt 13 = .ok (.iaload, 1)) ∧ (decode cX8_byteAt 14 = .ok (.goto 4, 3)) ∧ (decode cX8_byteAt 17 = .ok (.iconst (-1), 1)) ∧ (decode cX8_byteAt 18 = .ok (.ireturn, 1)) := by decide +kernel
theorem dX8_byteAt_0 : decode cX8_byteAt 0 = .ok (.iload_n 1, 1) := dX8_byteAt_0_b.1
theorem dX8_byteAt_1 : decode cX8_byteAt 1 = .ok (.aload_n 0, 1) := dX8_byteAt_0_b.2.1
theorem dX8_byteAt_2 : decode cX8_byteAt 2 = .ok (.getfield 82, 3) := dX8_byteAt_0_b.2.2.1
theorem dX8_byteAt_5 : decode cX8_byteAt 5 = .ok (.if_icmp .ge 12, 3) := dX8_byteAt_0_b.2.2.2.1
theorem dX8_byteAt_8 : decode cX8_byteAt 8 = .ok (.aload_n 0, 1) := dX8_byteAt_0_b.2.2.2.2.1
theorem dX8_byteAt_9 : decode cX8_byteAt 9 = .ok (.getfield 22, 3) := dX8_byteAt_0_b.2.2.2.2.2.1
theorem dX8_byteAt_12 : decode cX8_byteAt 12 = .ok (.iload_n 1, 1) := dX8_byteAt_0_b.2.2.2.2.2.2.1
theorem dX8_byteAt_13 : decode cX8_byteAt 13 = .ok (.iaload, 1) := dX8_byteAt_0_b.2.2.2.2.2.2.2.1
theorem dX8_byteAt_14 : decode cX8_byteAt 14 = .ok (.goto 4, 3) := dX8_byteAt_0_b.2.2.2.2.2.2.2.2.1
theorem dX8_byteAt_17 : decode cX8_byteAt 17 = .ok (.iconst (-1), 1) := dX8_byteAt_0_b.2.2.2.2.2.2.2.2.2.1
theorem dX8_byteAt_18 : decode cX8_byteAt 18 = .ok (.ireturn, 1) := dX8_byteAt_0_b.2.2.2.2.2.2.2.2.2.2
theorem dX8_advances_0_b : (decode cX8_advances 0 = .ok (.aload_n 0, 1)) ∧ (decode cX8_advances 1 = .ok (.aload_n 0, 1)) ∧ (decode cX8_advances 2 = .ok (.getfield 86, 3)) ∧ (decode cX8_advances 5 = .ok (.putfield 89, 3)) ∧ (decode cX8_advances 8 = .ok (.aload_n 0, 1)) ∧ (decode cX8_advances 9 = .ok (.aload_n 0, 1)) ∧ (decode cX8_advances 10 = .ok (.getfield 86, 3)) ∧ (decode cX8_advances 13 = .ok (.invokevirtual 92, 3)) ∧ (decode cX8_advances 16 = .ok (.istore_n 1, 1)) ∧ (decode cX8_advances 17 = .ok (.aload_n 0, 1)) ∧ (decode cX8_advances 18 = .ok (.iload_n 1, 1)) ∧ (decode cX8_advances 19 = .ok (.putfield 95, 3)) := by decide +kernel
theorem dX8_advances_0 : decode cX8_advances 0 = .ok (.aload_n 0, 1) := dX8_advances_0_b.1
theorem dX8_advances_1 : decode cX8_advances 1 = .ok (.aload_n 0, 1) := dX8_advances_0_b.2.1
theorem dX8_advances_2 : decode cX8_advances 2 = .ok (.getfield 86, 3) := dX8_advances_0_b.2.2.1
theorem dX8_advances_5 : decode cX8_advances 5 = .ok (.putfield 89, 3) := dX8_advances_0_b.2.2.2.1
theorem dX8_advances_8 : decode cX8_advances 8 = .ok (.aload_n 0, 1) := dX8_advances_0_b.2.2.2.2.1
theorem dX8_advances_9 : decode cX8_advances 9 = .ok (.aload_n 0, 1) := dX8_advances_0_b.2.2.2.2.2.1
theorem dX8_advances_10 : decode cX8_advances 10 = .ok (.getfield 86, 3) := dX8_advances_0_b.2.2.2.2.2.2.1
theorem dX8_advances_13 : decode cX8_advances 13 = .ok (.invokevirtual 92, 3) := dX8_advances_0_b.2.2.2.2.2.2.2.1
theorem dX8_advances_16 : decode cX8_advances 16 = .ok (.istore_n 1, 1) := dX8_advances_0_b.2.2.2.2.2.2.2.2.1
theorem dX8_advances_17 : decode cX8_advances 17 = .ok (.aload_n 0, 1) := dX8_advances_0_b.2.2.2.2.2.2.2.2.2.1
theorem dX8_advances_18 : decode cX8_advances 18 = .ok (.iload_n 1, 1) := dX8_advances_0_b.2.2.2.2.2.2.2.2.2.2.1
theorem dX8_advances_19 : decode cX8_advances 19 = .ok (.putfield 95, 3) := dX8_advances_0_b.2.2.2.2.2.2.2.2.2.2.2
theorem dX8_advances_22_b : (decode cX8_advances 22 = .ok (.iload_n 1, 1)) ∧ (decode cX8_advances 23 = .ok (.bipush 48, 2)) ∧ (decode cX8_advances 25 = .ok (.bipush 57, 2)) ∧ (decode cX8_advances 27 = .ok (.invokestatic 56, 3)) ∧ (decode cX8_advances 30 = .ok (.ifCond .eq 105, 3)) ∧ (decode cX8_advances 33 = .ok (.aload_n 0, 1)) ∧ (decode cX8_advances 34 = .ok (.iconst 0, 1)) ∧ (decode cX8_advances 35 = .ok (.putfield 95, 3)) ∧ (decode cX8_advances 38 = .ok (.aload_n 0, 1)) ∧ (decode cX8_advances 39 = .ok (.aload_n 0, 1)) ∧ (decode cX8_advances 40 = .ok (.getfield 86, 3)) ∧ (decode cX8_advances 43 = .ok (.invokevirtual 92, 3)) := by decide +kernel
theorem dX8_advances_22 : decode cX8_advances 22 = .ok (.iload_n 1, 1) := dX8_advances_22_b.1
theorem dX8_advances_23 : decode cX8_advances 23 = .ok (.bipush 48, 2) := dX8_advances_22_b.2.1
theorem dX8_advances_25 : decode cX8_advances 25 = .ok (.bipush 57, 2) := dX8_advances_22_b.2.2.1
theorem dX8_advances_27 : decode cX8_advances 27 = .ok (.invokestatic 56, 3) := dX8_advances_22_b.2.2.2.1
theorem dX8_advances_30 : decode cX8_advances 30 = .ok (.ifCond .eq 105, 3) := dX8_advances_22_b.2.2.2.2.1
theorem dX8_advances_33 : decode cX8_advances 33 = .ok (.aload_n 0, 1) := dX8_advances_22_b.2.2.2.2.2.1
theorem dX8_advances_34 : decode cX8_advances 34 = .ok (.iconst 0, 1) := dX8_advances_22_b.2.2.2.2.2.2.1
theorem dX8_advances_35 : decode cX8_advances 35 = .ok (.putfield 95, 3) := dX8_advances_22_b.2.2.2.2.2.2.2.1
theorem dX8_advances_38 : decode cX8_advances 38 = .ok (.aload_n 0, 1) := dX8_advances_22_b.2.2.2.2.2.2.2.2.1
theorem dX8_advances_39 : decode cX8_advances 39 = .ok (.aload_n 0, 1) := dX8_advances_22_b.2.2.2.2.2.2.2.2.2.1
theorem dX8_advances_40 : decode cX8_advances 40 = .ok (.getfield 86, 3) := dX8_advances_22_b.2.2.2.2.2.2.2.2.2.2.1
theorem dX8_advances_43 : decode cX8_advances 43 = .ok (.invokevirtual 92, 3) := dX8_advances_22_b.2.2.2.2.2.2.2.2.2.2.2
theorem dX8_advances_46_b : (decode cX8_advances 46 = .ok (.bipush 48, 2)) ∧ (decode cX8_advances 48 = .ok (.bipush 57, 2)) ∧ (decode cX8_advances 50 = .ok (.invokestatic 56, 3)) ∧ (decode cX8_advances 53 = .ok (.ifCond .eq 59, 3)) ∧ (decode cX8_advances 56 = .ok (.aload_n 0, 1)) ∧ (decode cX8_advances 57 = .ok (.aload_n 0, 1)) ∧ (decode cX8_advances 58 = .ok (.getfield 86, 3)) ∧ (decode cX8_advances 61 = .ok (.aload_n 0, 1)) ∧ (decode cX8_advances 62 = .ok (.getfield 89, 3)) ∧ (decode cX8_advances 65 = .ok (.isub, 1)) ∧ (decode cX8_advances 66 = .ok (.iconst 2, 1)) ∧ (decode cX8_advances 67 = .ok (.if_icmp .ge 25, 3)) := by decide +kernel
theorem dX8_advances_46 : decode cX8_advances 46 = .ok (.bipush 48, 2) := dX8_advances_46_b.1
theorem dX8_advances_48 : decode cX8_advances 48 = .ok (.bipush 57, 2) := dX8_advances_46_b.2.1
theorem dX8_advances_50 : decode cX8_advances 50 = .ok (.invokestatic 56, 3) := dX8_advances_46_b.2.2.1
theorem dX8_advances_53 : decode cX8_advances 53 = .ok (.ifCond .eq 59, 3) := dX8_advances_46_b.2.2.2.1
theorem dX8_advances_56 : decode cX8_advances 56 = .ok (.aload_n 0, 1) := dX8_advances_46_b.2.2.2.2.1
theorem dX8_advances_57 : decode cX8_advances 57 = .ok (.aload_n 0, 1) := dX8_advances_46_b.2.2.2.2.2.1
theorem dX8_advances_58 : decode cX8_advances 58 = .ok (.getfield 86, 3) := dX8_advances_46_b.2.2.2.2.2.2.1
theorem dX8_advances_61 : decode cX8_advances 61 = .ok (.aload_n 0, 1) := dX8_advances_46_b.2.2.2.2.2.2.2.1
theorem dX8_advances_62 : decode cX8_advances 62 = .ok (.getfield 89, 3) := dX8_advances_46_b.2.2.2.2.2.2.2.2.1
theorem dX8_advances_65 : decode cX8_advances 65 = .ok (.isub, 1) := dX8_advances_46_b.2.2.2.2.2.2.2.2.2.1
theorem dX8_advances_66 : decode cX8_advances 66 = .ok (.iconst 2, 1) := dX8_advances_46_b.2.2.2.2.2.2.2.2.2.2.1
theorem dX8_advances_67 : decode cX8_advances 67 = .ok (.if_icmp .ge 25, 3) := dX8_advances_46_b.2.2.2.2.2.2.2.2.2.2.2
theorem dX8_advances_70_b : (decode cX8_advances 70 = .ok (.bipush 10, 2)) ∧ (decode cX8_advances 72 = .ok (.aload_n 0, 1)) ∧ (decode cX8_advances 73 = .ok (.getfield 95, 3)) ∧ (decode cX8_advances 76 = .ok (.imul, 1)) ∧ (decode cX8_advances 77 = .ok (.aload_n 0, 1)) ∧ (decode cX8_advances 78 = .ok (.aload_n 0, 1)) ∧ (decode cX8_advances 79 = .ok (.getfield 86, 3)) ∧ (decode cX8_advances 82 = .ok (.invokevirtual 92, 3)) ∧ (decode cX8_advances 85 = .ok (.iadd, 1)) ∧ (decode cX8_advances 86 = .ok (.bipush 48, 2)) ∧ (decode cX8_advances 88 = .ok (.isub, 1)) ∧ (decode cX8_advances 89 = .ok (.goto 7, 3)) := by decide +kernel
theorem dX8_advances_70 : decode cX8_advances 70 = .ok (.bipush 10, 2) := dX8_advances_70_b.1
theorem dX8_advances_72 : decode cX8_advances 72 = .ok (.aload_n 0, 1) := dX8_advances_70_b.2.1
theorem dX8_advances_73 : decode cX8_advances 73 = .ok (.getfield 95, 3) := dX8_advances_70_b.2.2.1
theorem dX8_advances_76 : decode cX8_advances 76 = .ok (.imul, 1) := dX8_advances_70_b.2.2.2.1
theorem dX8_advances_77 : decode cX8_advances 77 = .ok (.aload_n 0, 1) := dX8_advances_70_b.2.2.2.2.1
theorem dX8_advances_78 : decode cX8_advances 78 = .ok (.aload_n 0, 1) := dX8_advances_70_b.2.2.2.2.2.1
theorem dX8_advances_79 : decode cX8_advances 79 = .ok (.getfield 86, 3) := dX8_advances_70_b.2.2.2.2.2.2.1
theorem dX8_advances_82 : decode cX8_advances 82 = .ok (.invokevirtual 92, 3) := dX8_advances_70_b.2.2.2.2.2.2.2.1
theorem dX8_advances_85 : decode cX8_advances 85 = .ok (.iadd, 1) := dX8_advances_70_b.2.2.2.2.2.2.2.2.1
theorem dX8_advances_86 : decode cX8_advances 86 = .ok (.bipush 48, 2) := dX8_advances_70_b.2.2.2.2.2.2.2.2.2.1
theorem dX8_advances_88 : decode cX8_advances 88 = .ok (.isub, 1) := dX8_advances_70_b.2.2.2.2.2.2.2.2.2.2.1
theorem dX8_advances_89 : decode cX8_advances 89 = .ok (.goto 7, 3) := dX8_advances_70_b.2.2.2.2.2.2.2.2.2.2.2
theorem dX8_advances_92_b : (decode cX8_advances 92 = .ok (.aload_n 0, 1)) ∧ (decode cX8_advances 93 = .ok (.getfield 95, 3)) ∧ (decode cX8_advances 96 = .ok (.putfield 95, 3)) ∧ (decode cX8_advances 99 = .ok (.aload_n 0, 1)) ∧ (decode cX8_advances 100 = .ok (.dup, 1)) ∧ (decode cX8_advances 101 = .ok (.getfield 86, 3)) ∧ (decode cX8_advances 104 = .ok (.iconst 1, 1)) ∧ (decode cX8_advances 105 = .ok (.iadd, 1)) ∧ (decode cX8_advances 106 = .ok (.putfield 86, 3)) ∧ (decode cX8_advances 109 = .ok (.goto (-71), 3)) ∧ (decode cX8_advances 112 = .ok (.aload_n 0, 1)) ∧ (decode cX8_advances 113 = .ok (.aload_n 0, 1)) := by decide +kernel
theorem dX8_advances_92 : decode cX8_advances 92 = .ok (.aload_n 0, 1) := dX8_advances_92_b.1
theorem dX8_advances_93 : decode cX8_advances 93 = .ok (.getfield 95, 3) := dX8_advances_92_b.2.1
theorem dX8_advances_96 : decode cX8_advances 96 = .ok (.putfield 95, 3) := dX8_advances_92_b.2.2.1
theorem dX8_advances_99 : decode cX8_advances 99 = .ok (.aload_n 0, 1) := dX8_advances_92_b.2.2.2.1
theorem dX8_advances_100 : decode cX8_advances 100 = .ok (.dup, 1) := dX8_advances_92_b.2.2.2.2.1
theorem dX8_advances_101 : decode cX8_advances 101 = .ok (.getfield 86, 3) := dX8_advances_92_b.2.2.2.2.2.1
theorem dX8_advances_104 : decode cX8_advances 104 = .ok (.iconst 1, 1) := dX8_advances_92_b.2.2.2.2.2.2.1
theorem dX8_advances_105 : decode cX8_advances 105 = .ok (.iadd, 1) := dX8_advances_92_b.2.2.2.2.2.2.2.1
theorem dX8_advances_106 : decode cX8_advances 106 = .ok (.putfield 86, 3) := dX8_advances_92_b.2.2.2.2.2.2.2.2.1
theorem dX8_advances_109 : decode cX8_advances 109 = .ok (.goto (-71), 3) := dX8_advances_92_b.2.2.2.2.2.2.2.2.2.1
theorem dX8_advances_112 : decode cX8_advances 112 = .ok (.aload_n 0, 1) := dX8_advances_92_b.2.2.2.2.2.2.2.2.2.2.1
theorem dX8_advances_113 : decode cX8_advances 113 = .ok (.aload_n 0, 1) := dX8_advances_92_b.2.2.2.2.2.2.2.2.2.2.2
theorem dX8_advances_114_b : (decode cX8_advances 114 = .ok (.getfield 86, 3)) ∧ (decode cX8_advances 117 = .ok (.aload_n 0, 1)) ∧ (decode cX8_advances 118 = .ok (.getfield 89, 3)) ∧ (decode cX8_advances 121 = .ok (.isub, 1)) ∧ (decode cX8_advances 122 = .ok (.iconst 3, 1)) ∧ (decode cX8_advances 123 = .ok (.if_icmp .ge 7, 3)) ∧ (decode cX8_advances 126 = .ok (.iconst 2, 1)) ∧ (decode cX8_advances 127 = .ok (.goto 4, 3)) ∧ (decode cX8_advances 130 = .ok (.iconst 5, 1)) ∧ (decode cX8_advances 131 = .ok (.putfield 98, 3)) ∧ (decode cX8_advances 134 = .ok (.return_, 1)) ∧ (decode cX8_advances 135 = .ok (.aload_n 0, 1)) := by decide +kernel
theorem dX8_advances_114 : decode cX8_advances 114 = .ok (.getfield 86, 3) := dX8_advances_114_b.1
theorem dX8_advances_117 : decode cX8_advances 117 = .ok (.aload_n 0, 1) := dX8_advances_114_b.2.1
theorem dX8_advances_118 : decode cX8_advances 118 = .ok (.getfield 89, 3) := dX8_advances_114_b.2.2.1
theorem dX8_advances_121 : decode cX8_advances 121 = .ok (.isub, 1) := dX8_advances_114_b.2.2.2.1
theorem dX8_advances_122 : decode cX8_advances 122 = .ok (.iconst 3, 1) := dX8_advances_114_b.2.2.2.2.1
theorem dX8_advances_123 : decode cX8_advances 123 = .ok (.if_icmp .ge 7, 3) := dX8_advances_114_b.2.2.2.2.2.1
theorem dX8_advances_126 : decode cX8_advances 126 = .ok (.iconst 2, 1) := dX8_advances_114_b.2.2.2.2.2.2.1
theorem dX8_advances_127 : decode cX8_advances 127 = .ok (.goto 4, 3) := dX8_advances_114_b.2.2.2.2.2.2.2.1
theorem dX8_advances_130 : decode cX8_advances 130 = .ok (.iconst 5, 1) := dX8_advances_114_b.2.2.2.2.2.2.2.2.1
theorem dX8_advances_131 : decode cX8_advances 131 = .ok (.putfield 98, 3) := dX8_advances_114_b.2.2.2.2.2.2.2.2.2.1
theorem dX8_advances_134 : decode cX8_advances 134 = .ok (.return_, 1) := dX8_advances_114_b.2.2.2.2.2.2.2.2.2.2.1
theorem dX8_advances_135 : decode cX8_advances 135 = .ok (.aload_n 0, 1) := dX8_advances_114_b.2.2.2.2.2.2.2.2.2.2.2
theorem dX8_advances_136_b : (decode cX8_advances 136 = .ok (.iload_n 1, 1)) ∧ (decode cX8_advances 137 = .ok (.ifCond .ge 7, 3)) ∧ (decode cX8_advances 140 = .ok (.iconst 0, 1)) ∧ (decode cX8_advances 141 = .ok (.goto 39, 3)) ∧ (decode cX8_advances 144 = .ok (.iload_n 1, 1)) ∧ (decode cX8_advances 145 = .ok (.bipush 97, 2)) ∧ (decode cX8_advances 147 = .ok (.bipush 122, 2)) ∧ (decode cX8_advances 149 = .ok (.invokestatic 56, 3)) ∧ (decode cX8_advances 152 = .ok (.ifCond .eq 7, 3)) ∧ (decode cX8_advances 155 = .ok (.iconst 1, 1)) ∧ (decode cX8_advances 156 = .ok (.goto 24, 3)) ∧ (decode cX8_advances 159 = .ok (.iload_n 1, 1)) := by decide +kernel
theorem dX8_advances_136 : decode cX8_advances 136 = .ok (.iload_n 1, 1) := dX8_advances_136_b.1
theorem dX8_advances_137 : decode cX8_advances 137 = .ok (.ifCond .ge 7, 3) := dX8_advances_136_b.2.1
theorem dX8_advances_140 : decode cX8_advances 140 = .ok (.iconst 0, 1) := dX8_advances_136_b.2.2.1
theorem dX8_advances_141 : decode cX8_advances 141 = .ok (.goto 39, 3) := dX8_advances_136_b.2.2.2.1
theorem dX8_advances_144 : decode cX8_advances 144 = .ok (.iload_n 1, 1) := dX8_advances_136_b.2.2.2.2.1
theorem dX8_advances_145 : decode cX8_advances 145 = .ok (.bipush 97, 2) := dX8_advances_136_b.2.2.2.2.2.1
theorem dX8_advances_147 : decode cX8_advances 147 = .ok (.bipush 122, 2) := dX8_advances_136_b.2.2.2.2.2.2.1
theorem dX8_advances_149 : decode cX8_advances 149 = .ok (.invokestatic 56, 3) := dX8_advances_136_b.2.2.2.2.2.2.2.1
theorem dX8_advances_152 : decode cX8_advances 152 = .ok (.ifCond .eq 7, 3) := dX8_advances_136_b.2.2.2.2.2.2.2.2.1
theorem dX8_advances_155 : decode cX8_advances 155 = .ok (.iconst 1, 1) := dX8_advances_136_b.2.2.2.2.2.2.2.2.2.1
theorem dX8_advances_156 : decode cX8_advances 156 = .ok (.goto 24, 3) := dX8_advances_136_b.2.2.2.2.2.2.2.2.2.2.1
theorem dX8_advances_159 : decode cX8_advances 159 = .ok (.iload_n 1, 1) := dX8_advances_136_b.2.2.2.2.2.2.2.2.2.2.2
theorem dX8_advances_160_b : (decode cX8_advances 160 = .ok (.bipush 44, 2)) ∧ (decode cX8_advances 162 = .ok (.if_icmp .ne 7, 3)) ∧ (decode cX8_advances 165 = .ok (.iconst 3, 1)) ∧ (decode cX8_advances 166 = .ok (.goto 14, 3)) ∧ (decode cX8_advances 169 = .ok (.iload_n 1, 1)) ∧ (decode cX8_advances 170 = .ok (.bipush 59, 2)) ∧ (decode cX8_advances 172 = .ok (.if_icmp .ne 7, 3)) ∧ (decode cX8_advances 175 = .ok (.iconst 4, 1)) ∧ (decode cX8_advances 176 = .ok (.goto 4, 3)) ∧ (decode cX8_advances 179 = .ok (.iconst 5, 1)) ∧ (decode cX8_advances 180 = .ok (.putfield 98, 3)) ∧ (decode cX8_advances 183 = .ok (.aload_n 0, 1)) := by decide +kernel
theorem dX8_advances_160 : decode cX8_advances 160 = .ok (.bipush 44, 2) := dX8_advances_160_b.1
theorem dX8_advances_162 : decode cX8_advances 162 = .ok (.if_icmp .ne 7, 3) := dX8_advances_160_b.2.1
theorem dX8_advances_165 : decode cX8_advances 165 = .ok (.iconst 3, 1) := dX8_advances_160_b.2.2.1
theorem dX8_advances_166 : decode cX8_advances 166 = .ok (.goto 14, 3) := dX8_advances_160_b.2.2.2.1
theorem dX8_advances_169 : decode cX8_advances 169 = .ok (.iload_n 1, 1) := dX8_advances_160_b.2.2.2.2.1
theorem dX8_advances_170 : decode cX8_advances 170 = .ok (.bipush 59, 2) := dX8_advances_160_b.2.2.2.2.2.1
theorem dX8_advances_172 : decode cX8_advances 172 = .ok (.if_icmp .ne 7, 3) := dX8_advances_160_b.2.2.2.2.2.2.1
theorem dX8_advances_175 : decode cX8_advances 175 = .ok (.iconst 4, 1) := dX8_advances_160_b.2.2.2.2.2.2.2.1
theorem dX8_advances_176 : decode cX8_advances 176 = .ok (.goto 4, 3) := dX8_advances_160_b.2.2.2.2.2.2.2.2.1
theorem dX8_advances_179 : decode cX8_advances 179 = .ok (.iconst 5, 1) := dX8_advances_160_b.2.2.2.2.2.2.2.2.2.1
theorem dX8_advances_180 : decode cX8_advances 180 = .ok (.putfield 98, 3) := dX8_advances_160_b.2.2.2.2.2.2.2.2.2.2.1
theorem dX8_advances_183 : decode cX8_advances 183 = .ok (.aload_n 0, 1) := dX8_advances_160_b.2.2.2.2.2.2.2.2.2.2.2
theorem dX8_advances_184_b : (decode cX8_advances 184 = .ok (.dup, 1)) ∧ (decode cX8_advances 185 = .ok (.getfield 86, 3)) ∧ (decode cX8_advances 188 = .ok (.aload_n 0, 1)) ∧ (decode cX8_advances 189 = .ok (.getfield 98, 3)) ∧ (decode cX8_advances 192 = .ok (.ifCond .ne 7, 3)) ∧ (decode cX8_advances 195 = .ok (.iconst 0, 1)) ∧ (decode cX8_advances 196 = .ok (.goto 4, 3)) ∧ (decode cX8_advances 199 = .ok (.iconst 1, 1)) ∧ (decode cX8_advances 200 = .ok (.iadd, 1)) ∧ (decode cX8_advances 201 = .ok (.putfield 86, 3)) ∧ (decode cX8_advances 204 = .ok (.return_, 1)) := by decide +kernel
theorem dX8_advances_184 : decode cX8_advances 184 = .ok (.dup, 1) := dX8_advances_184_b.1
theorem dX8_advances_185 : decode cX8_advances 185 = .ok (.getfield 86, 3) := dX8_advances_184_b.2.1
theorem dX8_advances_188 : decode cX8_advances 188 = .ok (.aload_n 0, 1) := dX8_advances_184_b.2.2.1
theorem dX8_advances_189 : decode cX8_advances 189 = .ok (.getfield 98, 3) := dX8_advances_184_b.2.2.2.1
theorem dX8_advances_192 : decode cX8_advances 192 = .ok (.ifCond .ne 7, 3) := dX8_advances_184_b.2.2.2.2.1
theorem dX8_advances_195 : decode cX8_advances 195 = .ok (.iconst 0, 1) := dX8_advances_184_b.2.2.2.2.2.1
theorem dX8_advances_196 : decode cX8_advances 196 = .ok (.goto 4, 3) := dX8_advances_184_b.2.2.2.2.2.2.1
theorem dX8_advances_199 : decode cX8_advances 199 = .ok (.iconst 1, 1) := dX8_advances_184_b.2.2.2.2.2.2.2.1
theorem dX8_advances_200 : decode cX8_advances 200 = .ok (.iadd, 1) := dX8_advances_184_b.2.2.2.2.2.2.2.2.1
theorem dX8_advances_201 : decode cX8_advances 201 = .ok (.putfield 86, 3) := dX8_advances_184_b.2.2.2.2.2.2.2.2.2.1
theorem dX8_advances_204 : decode cX8_advances 204 = .ok (.return_, 1) := dX8_advances_184_b.2.2.2.2.2.2.2.2.2.2
theorem dX8_isWell_0_b : (decode cX8_isWell 0 = .ok (.aload_n 0, 1)) ∧ (decode cX8_isWell 1 = .ok (.getfield 101, 3)) ∧ (decode cX8_isWell 4 = .ok (.ifCond .ge 7, 3)) ∧ (decode cX8_isWell 7 = .ok (.iconst 1, 1)) ∧ (decode cX8_isWell 8 = .ok (.goto 4, 3)) ∧ (decode cX8_isWell 11 = .ok (.iconst 0, 1)) ∧ (decode cX8_isWell 12 = .ok (.ireturn, 1)) := by decide +kernel
theorem dX8_isWell_0 : decode cX8_isWell 0 = .ok (.aload_n 0, 1) := dX8_isWell_0_b.1
theorem dX8_isWell_1 : decode cX8_isWell 1 = .ok (.getfield 101, 3) := dX8_isWell_0_b.2.1
theorem dX8_isWell_4 : decode cX8_isWell 4 = .ok (.ifCond .ge 7, 3) := dX8_isWell_0_b.2.2.1
theorem dX8_isWell_7 : decode cX8_isWell 7 = .ok (.iconst 1, 1) := dX8_isWell_0_b.2.2.2.1
theorem dX8_isWell_8 : decode cX8_isWell 8 = .ok (.goto 4, 3) := dX8_isWell_0_b.2.2.2.2.1
theorem dX8_isWell_11 : decode cX8_isWell 11 = .ok (.iconst 0, 1) := dX8_isWell_0_b.2.2.2.2.2.1
theorem dX8_isWell_12 : decode cX8_isWell 12 = .ok (.ireturn, 1) := dX8_isWell_0_b.2.2.2.2.2.2
theorem dX8_takes_0_b : (decode cX8_takes 0 = .ok (.aload_n 0, 1)) ∧ (decode cX8_takes 1 = .ok (.invokevirtual 104, 3)) ∧ (decode cX8_takes 4 = .ok (.ifCond .ne 5, 3)) ∧ (decode cX8_takes 7 = .ok (.iconst 0, 1)) ∧ (decode cX8_takes 8 = .ok (.ireturn, 1)) ∧ (decode cX8_takes 9 = .ok (.iload_n 1, 1)) ∧ (decode cX8_takes 10 = .ok (.ifCond .ne 18, 3)) ∧ (decode cX8_takes 13 = .ok (.aload_n 0, 1)) ∧ (decode cX8_takes 14 = .ok (.aload_n 0, 1)) ∧ (decode cX8_takes 15 = .ok (.getfield 89, 3)) ∧ (decode cX8_takes 18 = .ok (.putfield 101, 3)) ∧ (decode cX8_takes 21 = .ok (.aload_n 0, 1)) := by decide +kernel
theorem dX8_takes_0 : decode cX8_takes 0 = .ok (.aload_n 0, 1) := dX8_takes_0_b.1
theorem dX8_takes_1 : decode cX8_takes 1 = .ok (.invokevirtual 104, 3) := dX8_takes_0_b.2.1
theorem dX8_takes_4 : decode cX8_takes 4 = .ok (.ifCond .ne 5, 3) := dX8_takes_0_b.2.2.1
theorem dX8_takes_7 : decode cX8_takes 7 = .ok (.iconst 0, 1) := dX8_takes_0_b.2.2.2.1
theorem dX8_takes_8 : decode cX8_takes 8 = .ok (.ireturn, 1) := dX8_takes_0_b.2.2.2.2.1
theorem dX8_takes_9 : decode cX8_takes 9 = .ok (.iload_n 1, 1) := dX8_takes_0_b.2.2.2.2.2.1
theorem dX8_takes_10 : decode cX8_takes 10 = .ok (.ifCond .ne 18, 3) := dX8_takes_0_b.2.2.2.2.2.2.1
theorem dX8_takes_13 : decode cX8_takes 13 = .ok (.aload_n 0, 1) := dX8_takes_0_b.2.2.2.2.2.2.2.1
theorem dX8_takes_14 : decode cX8_takes 14 = .ok (.aload_n 0, 1) := dX8_takes_0_b.2.2.2.2.2.2.2.2.1
theorem dX8_takes_15 : decode cX8_takes 15 = .ok (.getfield 89, 3) := dX8_takes_0_b.2.2.2.2.2.2.2.2.2.1
theorem dX8_takes_18 : decode cX8_takes 18 = .ok (.putfield 101, 3) := dX8_takes_0_b.2.2.2.2.2.2.2.2.2.2.1
theorem dX8_takes_21 : decode cX8_takes 21 = .ok (.aload_n 0, 1) := dX8_takes_0_b.2.2.2.2.2.2.2.2.2.2.2
theorem dX8_takes_22_b : (decode cX8_takes 22 = .ok (.iload_n 2, 1)) ∧ (decode cX8_takes 23 = .ok (.putfield 108, 3)) ∧ (decode cX8_takes 26 = .ok (.iconst 0, 1)) ∧ (decode cX8_takes 27 = .ok (.ireturn, 1)) ∧ (decode cX8_takes 28 = .ok (.aload_n 0, 1)) ∧ (decode cX8_takes 29 = .ok (.getfield 95, 3)) ∧ (decode cX8_takes 32 = .ok (.istore_n 3, 1)) ∧ (decode cX8_takes 33 = .ok (.aload_n 0, 1)) ∧ (decode cX8_takes 34 = .ok (.invokevirtual 111, 3)) ∧ (decode cX8_takes 37 = .ok (.iload_n 3, 1)) ∧ (decode cX8_takes 38 = .ok (.ireturn, 1)) := by decide +kernel
theorem dX8_takes_22 : decode cX8_takes 22 = .ok (.iload_n 2, 1) := dX8_takes_22_b.1
theorem dX8_takes_23 : decode cX8_takes 23 = .ok (.putfield 108, 3) := dX8_takes_22_b.2.1
theorem dX8_takes_26 : decode cX8_takes 26 = .ok (.iconst 0, 1) := dX8_takes_22_b.2.2.1
theorem dX8_takes_27 : decode cX8_takes 27 = .ok (.ireturn, 1) := dX8_takes_22_b.2.2.2.1
theorem dX8_takes_28 : decode cX8_takes 28 = .ok (.aload_n 0, 1) := dX8_takes_22_b.2.2.2.2.1
theorem dX8_takes_29 : decode cX8_takes 29 = .ok (.getfield 95, 3) := dX8_takes_22_b.2.2.2.2.2.1
theorem dX8_takes_32 : decode cX8_takes 32 = .ok (.istore_n 3, 1) := dX8_takes_22_b.2.2.2.2.2.2.1
theorem dX8_takes_33 : decode cX8_takes 33 = .ok (.aload_n 0, 1) := dX8_takes_22_b.2.2.2.2.2.2.2.1
theorem dX8_takes_34 : decode cX8_takes 34 = .ok (.invokevirtual 111, 3) := dX8_takes_22_b.2.2.2.2.2.2.2.2.1
theorem dX8_takes_37 : decode cX8_takes 37 = .ok (.iload_n 3, 1) := dX8_takes_22_b.2.2.2.2.2.2.2.2.2.1
theorem dX8_takes_38 : decode cX8_takes 38 = .ok (.ireturn, 1) := dX8_takes_22_b.2.2.2.2.2.2.2.2.2.2
theorem dX8_figure_0_b : (decode cX8_figure 0 = .ok (.aload_n 0, 1)) ∧ (decode cX8_figure 1 = .ok (.invokevirtual 104, 3)) ∧ (decode cX8_figure 4 = .ok (.ifCond .eq 18, 3)) ∧ (decode cX8_figure 7 = .ok (.aload_n 0, 1)) ∧ (decode cX8_figure 8 = .ok (.getfield 98, 3)) ∧ (decode cX8_figure 11 = .ok (.iconst 2, 1)) ∧ (decode cX8_figure 12 = .ok (.if_icmp .eq 10, 3)) ∧ (decode cX8_figure 15 = .ok (.aload_n 0, 1)) ∧ (decode cX8_figure 16 = .ok (.iconst 0, 1)) ∧ (decode cX8_figure 17 = .ok (.iconst 1, 1)) ∧ (decode cX8_figure 18 = .ok (.invokevirtual 114, 3)) ∧ (decode cX8_figure 21 = .ok (.ireturn, 1)) := by decide +kernel
theorem dX8_figure_0 : decode cX8_figure 0 = .ok (.aload_n 0, 1) := dX8_figure_0_b.1
theorem dX8_figure_1 : decode cX8_figure 1 = .ok (.invokevirtual 104, 3) := dX8_figure_0_b.2.1
theorem dX8_figure_4 : decode cX8_figure 4 = .ok (.ifCond .eq 18, 3) := dX8_figure_0_b.2.2.1
theorem dX8_figure_7 : decode cX8_figure 7 = .ok (.aload_n 0, 1) := dX8_figure_0_b.2.2.2.1
theorem dX8_figure_8 : decode cX8_figure 8 = .ok (.getfield 98, 3) := dX8_figure_0_b.2.2.2.2.1
theorem dX8_figure_11 : decode cX8_figure 11 = .ok (.iconst 2, 1) := dX8_figure_0_b.2.2.2.2.2.1
theorem dX8_figure_12 : decode cX8_figure 12 = .ok (.if_icmp .eq 10, 3) := dX8_figure_0_b.2.2.2.2.2.2.1
theorem dX8_figure_15 : decode cX8_figure 15 = .ok (.aload_n 0, 1) := dX8_figure_0_b.2.2.2.2.2.2.2.1
theorem dX8_figure_16 : decode cX8_figure 16 = .ok (.iconst 0, 1) := dX8_figure_0_b.2.2.2.2.2.2.2.2.1
theorem dX8_figure_17 : decode cX8_figure 17 = .ok (.iconst 1, 1) := dX8_figure_0_b.2.2.2.2.2.2.2.2.2.1
theorem dX8_figure_18 : decode cX8_figure 18 = .ok (.invokevirtual 114, 3) := dX8_figure_0_b.2.2.2.2.2.2.2.2.2.2.1
theorem dX8_figure_21 : decode cX8_figure 21 = .ok (.ireturn, 1) := dX8_figure_0_b.2.2.2.2.2.2.2.2.2.2.2
theorem dX8_figure_22_b : (decode cX8_figure 22 = .ok (.aload_n 0, 1)) ∧ (decode cX8_figure 23 = .ok (.aload_n 0, 1)) ∧ (decode cX8_figure 24 = .ok (.getfield 95, 3)) ∧ (decode cX8_figure 27 = .ok (.iload_n 1, 1)) ∧ (decode cX8_figure 28 = .ok (.iload_n 2, 1)) ∧ (decode cX8_figure 29 = .ok (.invokestatic 56, 3)) ∧ (decode cX8_figure 32 = .ok (.iconst 2, 1)) ∧ (decode cX8_figure 33 = .ok (.invokevirtual 114, 3)) ∧ (decode cX8_figure 36 = .ok (.ireturn, 1)) := by decide +kernel
theorem dX8_figure_22 : decode cX8_figure 22 = .ok (.aload_n 0, 1) := dX8_figure_22_b.1
theorem dX8_figure_23 : decode cX8_figure 23 = .ok (.aload_n 0, 1) := dX8_figure_22_b.2.1
theorem dX8_figure_24 : decode cX8_figure 24 = .ok (.getfield 95, 3) := dX8_figure_22_b.2.2.1
theorem dX8_figure_27 : decode cX8_figure 27 = .ok (.iload_n 1, 1) := dX8_figure_22_b.2.2.2.1
theorem dX8_figure_28 : decode cX8_figure 28 = .ok (.iload_n 2, 1) := dX8_figure_22_b.2.2.2.2.1
theorem dX8_figure_29 : decode cX8_figure 29 = .ok (.invokestatic 56, 3) := dX8_figure_22_b.2.2.2.2.2.1
theorem dX8_figure_32 : decode cX8_figure 32 = .ok (.iconst 2, 1) := dX8_figure_22_b.2.2.2.2.2.2.1
theorem dX8_figure_33 : decode cX8_figure 33 = .ok (.invokevirtual 114, 3) := dX8_figure_22_b.2.2.2.2.2.2.2.1
theorem dX8_figure_36 : decode cX8_figure 36 = .ok (.ireturn, 1) := dX8_figure_22_b.2.2.2.2.2.2.2.2
theorem dX8_kindOf_0_b : (decode cX8_kindOf 0 = .ok (.iload_n 0, 1)) ∧ (decode cX8_kindOf 1 = .ok (.bipush 112, 2)) ∧ (decode cX8_kindOf 3 = .ok (.if_icmp .ne 7, 3)) ∧ (decode cX8_kindOf 6 = .ok (.iconst 1, 1)) ∧ (decode cX8_kindOf 7 = .ok (.goto 44, 3)) ∧ (decode cX8_kindOf 10 = .ok (.iload_n 0, 1)) ∧ (decode cX8_kindOf 11 = .ok (.bipush 119, 2)) ∧ (decode cX8_kindOf 13 = .ok (.if_icmp .ne 7, 3)) ∧ (decode cX8_kindOf 16 = .ok (.iconst 2, 1)) ∧ (decode cX8_kindOf 17 = .ok (.goto 34, 3)) ∧ (decode cX8_kindOf 20 = .ok (.iload_n 0, 1)) ∧ (decode cX8_kindOf 21 = .ok (.bipush 116, 2)) := by decide +kernel
theorem dX8_kindOf_0 : decode cX8_kindOf 0 = .ok (.iload_n 0, 1) := dX8_kindOf_0_b.1
theorem dX8_kindOf_1 : decode cX8_kindOf 1 = .ok (.bipush 112, 2) := dX8_kindOf_0_b.2.1
theorem dX8_kindOf_3 : decode cX8_kindOf 3 = .ok (.if_icmp .ne 7, 3) := dX8_kindOf_0_b.2.2.1
theorem dX8_kindOf_6 : decode cX8_kindOf 6 = .ok (.iconst 1, 1) := dX8_kindOf_0_b.2.2.2.1
theorem dX8_kindOf_7 : decode cX8_kindOf 7 = .ok (.goto 44, 3) := dX8_kindOf_0_b.2.2.2.2.1
theorem dX8_kindOf_10 : decode cX8_kindOf 10 = .ok (.iload_n 0, 1) := dX8_kindOf_0_b.2.2.2.2.2.1
theorem dX8_kindOf_11 : decode cX8_kindOf 11 = .ok (.bipush 119, 2) := dX8_kindOf_0_b.2.2.2.2.2.2.1
theorem dX8_kindOf_13 : decode cX8_kindOf 13 = .ok (.if_icmp .ne 7, 3) := dX8_kindOf_0_b.2.2.2.2.2.2.2.1
theorem dX8_kindOf_16 : decode cX8_kindOf 16 = .ok (.iconst 2, 1) := dX8_kindOf_0_b.2.2.2.2.2.2.2.2.1
theorem dX8_kindOf_17 : decode cX8_kindOf 17 = .ok (.goto 34, 3) := dX8_kindOf_0_b.2.2.2.2.2.2.2.2.2.1
theorem dX8_kindOf_20 : decode cX8_kindOf 20 = .ok (.iload_n 0, 1) := dX8_kindOf_0_b.2.2.2.2.2.2.2.2.2.2.1
theorem dX8_kindOf_21 : decode cX8_kindOf 21 = .ok (.bipush 116, 2) := dX8_kindOf_0_b.2.2.2.2.2.2.2.2.2.2.2
theorem dX8_kindOf_23_b : (decode cX8_kindOf 23 = .ok (.if_icmp .ne 7, 3)) ∧ (decode cX8_kindOf 26 = .ok (.iconst 3, 1)) ∧ (decode cX8_kindOf 27 = .ok (.goto 24, 3)) ∧ (decode cX8_kindOf 30 = .ok (.iload_n 0, 1)) ∧ (decode cX8_kindOf 31 = .ok (.bipush 107, 2)) ∧ (decode cX8_kindOf 33 = .ok (.if_icmp .ne 7, 3)) ∧ (decode cX8_kindOf 36 = .ok (.iconst 4, 1)) ∧ (decode cX8_kindOf 37 = .ok (.goto 14, 3)) ∧ (decode cX8_kindOf 40 = .ok (.iload_n 0, 1)) ∧ (decode cX8_kindOf 41 = .ok (.bipush 100, 2)) ∧ (decode cX8_kindOf 43 = .ok (.if_icmp .ne 7, 3)) ∧ (decode cX8_kindOf 46 = .ok (.iconst 5, 1)) := by decide +kernel
theorem dX8_kindOf_23 : decode cX8_kindOf 23 = .ok (.if_icmp .ne 7, 3) := dX8_kindOf_23_b.1
theorem dX8_kindOf_26 : decode cX8_kindOf 26 = .ok (.iconst 3, 1) := dX8_kindOf_23_b.2.1
theorem dX8_kindOf_27 : decode cX8_kindOf 27 = .ok (.goto 24, 3) := dX8_kindOf_23_b.2.2.1
theorem dX8_kindOf_30 : decode cX8_kindOf 30 = .ok (.iload_n 0, 1) := dX8_kindOf_23_b.2.2.2.1
theorem dX8_kindOf_31 : decode cX8_kindOf 31 = .ok (.bipush 107, 2) := dX8_kindOf_23_b.2.2.2.2.1
theorem dX8_kindOf_33 : decode cX8_kindOf 33 = .ok (.if_icmp .ne 7, 3) := dX8_kindOf_23_b.2.2.2.2.2.1
theorem dX8_kindOf_36 : decode cX8_kindOf 36 = .ok (.iconst 4, 1) := dX8_kindOf_23_b.2.2.2.2.2.2.1
theorem dX8_kindOf_37 : decode cX8_kindOf 37 = .ok (.goto 14, 3) := dX8_kindOf_23_b.2.2.2.2.2.2.2.1
theorem dX8_kindOf_40 : decode cX8_kindOf 40 = .ok (.iload_n 0, 1) := dX8_kindOf_23_b.2.2.2.2.2.2.2.2.1
theorem dX8_kindOf_41 : decode cX8_kindOf 41 = .ok (.bipush 100, 2) := dX8_kindOf_23_b.2.2.2.2.2.2.2.2.2.1
theorem dX8_kindOf_43 : decode cX8_kindOf 43 = .ok (.if_icmp .ne 7, 3) := dX8_kindOf_23_b.2.2.2.2.2.2.2.2.2.2.1
theorem dX8_kindOf_46 : decode cX8_kindOf 46 = .ok (.iconst 5, 1) := dX8_kindOf_23_b.2.2.2.2.2.2.2.2.2.2.2
theorem dX8_kindOf_47_b : (decode cX8_kindOf 47 = .ok (.goto 4, 3)) ∧ (decode cX8_kindOf 50 = .ok (.iconst 0, 1)) ∧ (decode cX8_kindOf 51 = .ok (.ireturn, 1)) := by decide +kernel
theorem dX8_kindOf_47 : decode cX8_kindOf 47 = .ok (.goto 4, 3) := dX8_kindOf_47_b.1
theorem dX8_kindOf_50 : decode cX8_kindOf 50 = .ok (.iconst 0, 1) := dX8_kindOf_47_b.2.1
theorem dX8_kindOf_51 : decode cX8_kindOf 51 = .ok (.ireturn, 1) := dX8_kindOf_47_b.2.2
theorem dX8_next_0_b : (decode cX8_next 0 = .ok (.aload_n 0, 1)) ∧ (decode cX8_next 1 = .ok (.aload_n 0, 1)) ∧ (decode cX8_next 2 = .ok (.getfield 98, 3)) ∧ (decode cX8_next 5 = .ok (.iconst 3, 1)) ∧ (decode cX8_next 6 = .ok (.if_icmp .ne 7, 3)) ∧ (decode cX8_next 9 = .ok (.iconst 1, 1)) ∧ (decode cX8_next 10 = .ok (.goto 4, 3)) ∧ (decode cX8_next 13 = .ok (.iconst 0, 1)) ∧ (decode cX8_next 14 = .ok (.iconst 1, 1)) ∧ (decode cX8_next 15 = .ok (.invokevirtual 114, 3)) ∧ (decode cX8_next 18 = .ok (.pop, 1)) ∧ (decode cX8_next 19 = .ok (.aload_n 0, 1)) := by decide +kernel
theorem dX8_next_0 : decode cX8_next 0 = .ok (.aload_n 0, 1) := dX8_next_0_b.1
theorem dX8_next_1 : decode cX8_next 1 = .ok (.aload_n 0, 1) := dX8_next_0_b.2.1
theorem dX8_next_2 : decode cX8_next 2 = .ok (.getfield 98, 3) := dX8_next_0_b.2.2.1
theorem dX8_next_5 : decode cX8_next 5 = .ok (.iconst 3, 1) := dX8_next_0_b.2.2.2.1
theorem dX8_next_6 : decode cX8_next 6 = .ok (.if_icmp .ne 7, 3) := dX8_next_0_b.2.2.2.2.1
theorem dX8_next_9 : decode cX8_next 9 = .ok (.iconst 1, 1) := dX8_next_0_b.2.2.2.2.2.1
theorem dX8_next_10 : decode cX8_next 10 = .ok (.goto 4, 3) := dX8_next_0_b.2.2.2.2.2.2.1
theorem dX8_next_13 : decode cX8_next 13 = .ok (.iconst 0, 1) := dX8_next_0_b.2.2.2.2.2.2.2.1
theorem dX8_next_14 : decode cX8_next 14 = .ok (.iconst 1, 1) := dX8_next_0_b.2.2.2.2.2.2.2.2.1
theorem dX8_next_15 : decode cX8_next 15 = .ok (.invokevirtual 114, 3) := dX8_next_0_b.2.2.2.2.2.2.2.2.2.1
theorem dX8_next_18 : decode cX8_next 18 = .ok (.pop, 1) := dX8_next_0_b.2.2.2.2.2.2.2.2.2.2.1
theorem dX8_next_19 : decode cX8_next 19 = .ok (.aload_n 0, 1) := dX8_next_0_b.2.2.2.2.2.2.2.2.2.2.2
theorem dX8_next_20_b : (decode cX8_next 20 = .ok (.iload_n 1, 1)) ∧ (decode cX8_next 21 = .ok (.iload_n 2, 1)) ∧ (decode cX8_next 22 = .ok (.invokevirtual 118, 3)) ∧ (decode cX8_next 25 = .ok (.ireturn, 1)) := by decide +kernel
theorem dX8_next_20 : decode cX8_next 20 = .ok (.iload_n 1, 1) := dX8_next_20_b.1
theorem dX8_next_21 : decode cX8_next 21 = .ok (.iload_n 2, 1) := dX8_next_20_b.2.1
theorem dX8_next_22 : decode cX8_next 22 = .ok (.invokevirtual 118, 3) := dX8_next_20_b.2.2.1
theorem dX8_next_25 : decode cX8_next 25 = .ok (.ireturn, 1) := dX8_next_20_b.2.2.2
theorem dX8_readsEar_0_b : (decode cX8_readsEar 0 = .ok (.aload_n 0, 1)) ∧ (decode cX8_readsEar 1 = .ok (.getfield 95, 3)) ∧ (decode cX8_readsEar 4 = .ok (.invokestatic 121, 3)) ∧ (decode cX8_readsEar 7 = .ok (.istore_n 1, 1)) ∧ (decode cX8_readsEar 8 = .ok (.aload_n 0, 1)) ∧ (decode cX8_readsEar 9 = .ok (.aload_n 0, 1)) ∧ (decode cX8_readsEar 10 = .ok (.getfield 28, 3)) ∧ (decode cX8_readsEar 13 = .ok (.iconst 4, 1)) ∧ (decode cX8_readsEar 14 = .ok (.iaload, 1)) ∧ (decode cX8_readsEar 15 = .ok (.bipush 6, 2)) ∧ (decode cX8_readsEar 17 = .ok (.if_icmp .ge 7, 3)) ∧ (decode cX8_readsEar 20 = .ok (.iconst 1, 1)) := by decide +kernel
theorem dX8_readsEar_0 : decode cX8_readsEar 0 = .ok (.aload_n 0, 1) := dX8_readsEar_0_b.1
theorem dX8_readsEar_1 : decode cX8_readsEar 1 = .ok (.getfield 95, 3) := dX8_readsEar_0_b.2.1
theorem dX8_readsEar_4 : decode cX8_readsEar 4 = .ok (.invokestatic 121, 3) := dX8_readsEar_0_b.2.2.1
theorem dX8_readsEar_7 : decode cX8_readsEar 7 = .ok (.istore_n 1, 1) := dX8_readsEar_0_b.2.2.2.1
theorem dX8_readsEar_8 : decode cX8_readsEar 8 = .ok (.aload_n 0, 1) := dX8_readsEar_0_b.2.2.2.2.1
theorem dX8_readsEar_9 : decode cX8_readsEar 9 = .ok (.aload_n 0, 1) := dX8_readsEar_0_b.2.2.2.2.2.1
theorem dX8_readsEar_10 : decode cX8_readsEar 10 = .ok (.getfield 28, 3) := dX8_readsEar_0_b.2.2.2.2.2.2.1
theorem dX8_readsEar_13 : decode cX8_readsEar 13 = .ok (.iconst 4, 1) := dX8_readsEar_0_b.2.2.2.2.2.2.2.1
theorem dX8_readsEar_14 : decode cX8_readsEar 14 = .ok (.iaload, 1) := dX8_readsEar_0_b.2.2.2.2.2.2.2.2.1
theorem dX8_readsEar_15 : decode cX8_readsEar 15 = .ok (.bipush 6, 2) := dX8_readsEar_0_b.2.2.2.2.2.2.2.2.2.1
theorem dX8_readsEar_17 : decode cX8_readsEar 17 = .ok (.if_icmp .ge 7, 3) := dX8_readsEar_0_b.2.2.2.2.2.2.2.2.2.2.1
theorem dX8_readsEar_20 : decode cX8_readsEar 20 = .ok (.iconst 1, 1) := dX8_readsEar_0_b.2.2.2.2.2.2.2.2.2.2.2
theorem dX8_readsEar_21_b : (decode cX8_readsEar 21 = .ok (.goto 4, 3)) ∧ (decode cX8_readsEar 24 = .ok (.iconst 0, 1)) ∧ (decode cX8_readsEar 25 = .ok (.iconst 3, 1)) ∧ (decode cX8_readsEar 26 = .ok (.invokevirtual 114, 3)) ∧ (decode cX8_readsEar 29 = .ok (.pop, 1)) ∧ (decode cX8_readsEar 30 = .ok (.bipush 6, 2)) ∧ (decode cX8_readsEar 32 = .ok (.bipush 7, 2)) ∧ (decode cX8_readsEar 34 = .ok (.aload_n 0, 1)) ∧ (decode cX8_readsEar 35 = .ok (.getfield 28, 3)) ∧ (decode cX8_readsEar 38 = .ok (.iconst 4, 1)) ∧ (decode cX8_readsEar 39 = .ok (.iaload, 1)) ∧ (decode cX8_readsEar 40 = .ok (.bipush 6, 2)) := by decide +kernel
theorem dX8_readsEar_21 : decode cX8_readsEar 21 = .ok (.goto 4, 3) := dX8_readsEar_21_b.1
theorem dX8_readsEar_24 : decode cX8_readsEar 24 = .ok (.iconst 0, 1) := dX8_readsEar_21_b.2.1
theorem dX8_readsEar_25 : decode cX8_readsEar 25 = .ok (.iconst 3, 1) := dX8_readsEar_21_b.2.2.1
theorem dX8_readsEar_26 : decode cX8_readsEar 26 = .ok (.invokevirtual 114, 3) := dX8_readsEar_21_b.2.2.2.1
theorem dX8_readsEar_29 : decode cX8_readsEar 29 = .ok (.pop, 1) := dX8_readsEar_21_b.2.2.2.2.1
theorem dX8_readsEar_30 : decode cX8_readsEar 30 = .ok (.bipush 6, 2) := dX8_readsEar_21_b.2.2.2.2.2.1
theorem dX8_readsEar_32 : decode cX8_readsEar 32 = .ok (.bipush 7, 2) := dX8_readsEar_21_b.2.2.2.2.2.2.1
theorem dX8_readsEar_34 : decode cX8_readsEar 34 = .ok (.aload_n 0, 1) := dX8_readsEar_21_b.2.2.2.2.2.2.2.1
theorem dX8_readsEar_35 : decode cX8_readsEar 35 = .ok (.getfield 28, 3) := dX8_readsEar_21_b.2.2.2.2.2.2.2.2.1
theorem dX8_readsEar_38 : decode cX8_readsEar 38 = .ok (.iconst 4, 1) := dX8_readsEar_21_b.2.2.2.2.2.2.2.2.2.1
theorem dX8_readsEar_39 : decode cX8_readsEar 39 = .ok (.iaload, 1) := dX8_readsEar_21_b.2.2.2.2.2.2.2.2.2.2.1
theorem dX8_readsEar_40 : decode cX8_readsEar 40 = .ok (.bipush 6, 2) := dX8_readsEar_21_b.2.2.2.2.2.2.2.2.2.2.2
theorem dX8_readsEar_42_b : (decode cX8_readsEar 42 = .ok (.if_icmp .ge 12, 3)) ∧ (decode cX8_readsEar 45 = .ok (.aload_n 0, 1)) ∧ (decode cX8_readsEar 46 = .ok (.getfield 28, 3)) ∧ (decode cX8_readsEar 49 = .ok (.iconst 4, 1)) ∧ (decode cX8_readsEar 50 = .ok (.iaload, 1)) ∧ (decode cX8_readsEar 51 = .ok (.goto 4, 3)) ∧ (decode cX8_readsEar 54 = .ok (.iconst 0, 1)) ∧ (decode cX8_readsEar 55 = .ok (.imul, 1)) ∧ (decode cX8_readsEar 56 = .ok (.iadd, 1)) ∧ (decode cX8_readsEar 57 = .ok (.istore_n 2, 1)) ∧ (decode cX8_readsEar 58 = .ok (.aload_n 0, 1)) ∧ (decode cX8_readsEar 59 = .ok (.iconst 1, 1)) := by decide +kernel
theorem dX8_readsEar_42 : decode cX8_readsEar 42 = .ok (.if_icmp .ge 12, 3) := dX8_readsEar_42_b.1
theorem dX8_readsEar_45 : decode cX8_readsEar 45 = .ok (.aload_n 0, 1) := dX8_readsEar_42_b.2.1
theorem dX8_readsEar_46 : decode cX8_readsEar 46 = .ok (.getfield 28, 3) := dX8_readsEar_42_b.2.2.1
theorem dX8_readsEar_49 : decode cX8_readsEar 49 = .ok (.iconst 4, 1) := dX8_readsEar_42_b.2.2.2.1
theorem dX8_readsEar_50 : decode cX8_readsEar 50 = .ok (.iaload, 1) := dX8_readsEar_42_b.2.2.2.2.1
theorem dX8_readsEar_51 : decode cX8_readsEar 51 = .ok (.goto 4, 3) := dX8_readsEar_42_b.2.2.2.2.2.1
theorem dX8_readsEar_54 : decode cX8_readsEar 54 = .ok (.iconst 0, 1) := dX8_readsEar_42_b.2.2.2.2.2.2.1
theorem dX8_readsEar_55 : decode cX8_readsEar 55 = .ok (.imul, 1) := dX8_readsEar_42_b.2.2.2.2.2.2.2.1
theorem dX8_readsEar_56 : decode cX8_readsEar 56 = .ok (.iadd, 1) := dX8_readsEar_42_b.2.2.2.2.2.2.2.2.1
theorem dX8_readsEar_57 : decode cX8_readsEar 57 = .ok (.istore_n 2, 1) := dX8_readsEar_42_b.2.2.2.2.2.2.2.2.2.1
theorem dX8_readsEar_58 : decode cX8_readsEar 58 = .ok (.aload_n 0, 1) := dX8_readsEar_42_b.2.2.2.2.2.2.2.2.2.2.1
theorem dX8_readsEar_59 : decode cX8_readsEar 59 = .ok (.iconst 1, 1) := dX8_readsEar_42_b.2.2.2.2.2.2.2.2.2.2.2
theorem dX8_readsEar_60_b : (decode cX8_readsEar 60 = .ok (.bipush 12, 2)) ∧ (decode cX8_readsEar 62 = .ok (.invokevirtual 118, 3)) ∧ (decode cX8_readsEar 65 = .ok (.istore_n 3, 1)) ∧ (decode cX8_readsEar 66 = .ok (.aload_n 0, 1)) ∧ (decode cX8_readsEar 67 = .ok (.iconst 0, 1)) ∧ (decode cX8_readsEar 68 = .ok (.iconst 3, 1)) ∧ (decode cX8_readsEar 69 = .ok (.invokevirtual 124, 3)) ∧ (decode cX8_readsEar 72 = .ok (.istore 4, 2)) ∧ (decode cX8_readsEar 74 = .ok (.aload_n 0, 1)) ∧ (decode cX8_readsEar 75 = .ok (.iconst 0, 1)) ∧ (decode cX8_readsEar 76 = .ok (.bipush 7, 2)) ∧ (decode cX8_readsEar 78 = .ok (.invokevirtual 124, 3)) := by decide +kernel
theorem dX8_readsEar_60 : decode cX8_readsEar 60 = .ok (.bipush 12, 2) := dX8_readsEar_60_b.1
theorem dX8_readsEar_62 : decode cX8_readsEar 62 = .ok (.invokevirtual 118, 3) := dX8_readsEar_60_b.2.1
theorem dX8_readsEar_65 : decode cX8_readsEar 65 = .ok (.istore_n 3, 1) := dX8_readsEar_60_b.2.2.1
theorem dX8_readsEar_66 : decode cX8_readsEar 66 = .ok (.aload_n 0, 1) := dX8_readsEar_60_b.2.2.2.1
theorem dX8_readsEar_67 : decode cX8_readsEar 67 = .ok (.iconst 0, 1) := dX8_readsEar_60_b.2.2.2.2.1
theorem dX8_readsEar_68 : decode cX8_readsEar 68 = .ok (.iconst 3, 1) := dX8_readsEar_60_b.2.2.2.2.2.1
theorem dX8_readsEar_69 : decode cX8_readsEar 69 = .ok (.invokevirtual 124, 3) := dX8_readsEar_60_b.2.2.2.2.2.2.1
theorem dX8_readsEar_72 : decode cX8_readsEar 72 = .ok (.istore 4, 2) := dX8_readsEar_60_b.2.2.2.2.2.2.2.1
theorem dX8_readsEar_74 : decode cX8_readsEar 74 = .ok (.aload_n 0, 1) := dX8_readsEar_60_b.2.2.2.2.2.2.2.2.1
theorem dX8_readsEar_75 : decode cX8_readsEar 75 = .ok (.iconst 0, 1) := dX8_readsEar_60_b.2.2.2.2.2.2.2.2.2.1
theorem dX8_readsEar_76 : decode cX8_readsEar 76 = .ok (.bipush 7, 2) := dX8_readsEar_60_b.2.2.2.2.2.2.2.2.2.2.1
theorem dX8_readsEar_78 : decode cX8_readsEar 78 = .ok (.invokevirtual 124, 3) := dX8_readsEar_60_b.2.2.2.2.2.2.2.2.2.2.2
theorem dX8_readsEar_81_b : (decode cX8_readsEar 81 = .ok (.istore 5, 2)) ∧ (decode cX8_readsEar 83 = .ok (.aload_n 0, 1)) ∧ (decode cX8_readsEar 84 = .ok (.iconst 1, 1)) ∧ (decode cX8_readsEar 85 = .ok (.bipush 8, 2)) ∧ (decode cX8_readsEar 87 = .ok (.invokevirtual 124, 3)) ∧ (decode cX8_readsEar 90 = .ok (.istore 6, 2)) ∧ (decode cX8_readsEar 92 = .ok (.aload_n 0, 1)) ∧ (decode cX8_readsEar 93 = .ok (.aload_n 0, 1)) ∧ (decode cX8_readsEar 94 = .ok (.getfield 98, 3)) ∧ (decode cX8_readsEar 97 = .ok (.iconst 4, 1)) ∧ (decode cX8_readsEar 98 = .ok (.if_icmp .ne 7, 3)) ∧ (decode cX8_readsEar 101 = .ok (.iconst 1, 1)) := by decide +kernel
theorem dX8_readsEar_81 : decode cX8_readsEar 81 = .ok (.istore 5, 2) := dX8_readsEar_81_b.1
theorem dX8_readsEar_83 : decode cX8_readsEar 83 = .ok (.aload_n 0, 1) := dX8_readsEar_81_b.2.1
theorem dX8_readsEar_84 : decode cX8_readsEar 84 = .ok (.iconst 1, 1) := dX8_readsEar_81_b.2.2.1
theorem dX8_readsEar_85 : decode cX8_readsEar 85 = .ok (.bipush 8, 2) := dX8_readsEar_81_b.2.2.2.1
theorem dX8_readsEar_87 : decode cX8_readsEar 87 = .ok (.invokevirtual 124, 3) := dX8_readsEar_81_b.2.2.2.2.1
theorem dX8_readsEar_90 : decode cX8_readsEar 90 = .ok (.istore 6, 2) := dX8_readsEar_81_b.2.2.2.2.2.1
theorem dX8_readsEar_92 : decode cX8_readsEar 92 = .ok (.aload_n 0, 1) := dX8_readsEar_81_b.2.2.2.2.2.2.1
theorem dX8_readsEar_93 : decode cX8_readsEar 93 = .ok (.aload_n 0, 1) := dX8_readsEar_81_b.2.2.2.2.2.2.2.1
theorem dX8_readsEar_94 : decode cX8_readsEar 94 = .ok (.getfield 98, 3) := dX8_readsEar_81_b.2.2.2.2.2.2.2.2.1
theorem dX8_readsEar_97 : decode cX8_readsEar 97 = .ok (.iconst 4, 1) := dX8_readsEar_81_b.2.2.2.2.2.2.2.2.2.1
theorem dX8_readsEar_98 : decode cX8_readsEar 98 = .ok (.if_icmp .ne 7, 3) := dX8_readsEar_81_b.2.2.2.2.2.2.2.2.2.2.1
theorem dX8_readsEar_101 : decode cX8_readsEar 101 = .ok (.iconst 1, 1) := dX8_readsEar_81_b.2.2.2.2.2.2.2.2.2.2.2
theorem dX8_readsEar_102_b : (decode cX8_readsEar 102 = .ok (.goto 4, 3)) ∧ (decode cX8_readsEar 105 = .ok (.iconst 0, 1)) ∧ (decode cX8_readsEar 106 = .ok (.iconst 1, 1)) ∧ (decode cX8_readsEar 107 = .ok (.invokevirtual 114, 3)) ∧ (decode cX8_readsEar 110 = .ok (.pop, 1)) ∧ (decode cX8_readsEar 111 = .ok (.aload_n 0, 1)) ∧ (decode cX8_readsEar 112 = .ok (.invokevirtual 104, 3)) ∧ (decode cX8_readsEar 115 = .ok (.ifCond .eq 59, 3)) ∧ (decode cX8_readsEar 118 = .ok (.aload_n 0, 1)) ∧ (decode cX8_readsEar 119 = .ok (.getfield 28, 3)) ∧ (decode cX8_readsEar 122 = .ok (.iload_n 2, 1)) ∧ (decode cX8_readsEar 123 = .ok (.iload_n 1, 1)) := by decide +kernel
theorem dX8_readsEar_102 : decode cX8_readsEar 102 = .ok (.goto 4, 3) := dX8_readsEar_102_b.1
theorem dX8_readsEar_105 : decode cX8_readsEar 105 = .ok (.iconst 0, 1) := dX8_readsEar_102_b.2.1
theorem dX8_readsEar_106 : decode cX8_readsEar 106 = .ok (.iconst 1, 1) := dX8_readsEar_102_b.2.2.1
theorem dX8_readsEar_107 : decode cX8_readsEar 107 = .ok (.invokevirtual 114, 3) := dX8_readsEar_102_b.2.2.2.1
theorem dX8_readsEar_110 : decode cX8_readsEar 110 = .ok (.pop, 1) := dX8_readsEar_102_b.2.2.2.2.1
theorem dX8_readsEar_111 : decode cX8_readsEar 111 = .ok (.aload_n 0, 1) := dX8_readsEar_102_b.2.2.2.2.2.1
theorem dX8_readsEar_112 : decode cX8_readsEar 112 = .ok (.invokevirtual 104, 3) := dX8_readsEar_102_b.2.2.2.2.2.2.1
theorem dX8_readsEar_115 : decode cX8_readsEar 115 = .ok (.ifCond .eq 59, 3) := dX8_readsEar_102_b.2.2.2.2.2.2.2.1
theorem dX8_readsEar_118 : decode cX8_readsEar 118 = .ok (.aload_n 0, 1) := dX8_readsEar_102_b.2.2.2.2.2.2.2.2.1
theorem dX8_readsEar_119 : decode cX8_readsEar 119 = .ok (.getfield 28, 3) := dX8_readsEar_102_b.2.2.2.2.2.2.2.2.2.1
theorem dX8_readsEar_122 : decode cX8_readsEar 122 = .ok (.iload_n 2, 1) := dX8_readsEar_102_b.2.2.2.2.2.2.2.2.2.2.1
theorem dX8_readsEar_123 : decode cX8_readsEar 123 = .ok (.iload_n 1, 1) := dX8_readsEar_102_b.2.2.2.2.2.2.2.2.2.2.2
theorem dX8_readsEar_124_b : (decode cX8_readsEar 124 = .ok (.iastore, 1)) ∧ (decode cX8_readsEar 125 = .ok (.aload_n 0, 1)) ∧ (decode cX8_readsEar 126 = .ok (.getfield 28, 3)) ∧ (decode cX8_readsEar 129 = .ok (.iload_n 2, 1)) ∧ (decode cX8_readsEar 130 = .ok (.iconst 1, 1)) ∧ (decode cX8_readsEar 131 = .ok (.iadd, 1)) ∧ (decode cX8_readsEar 132 = .ok (.iload_n 3, 1)) ∧ (decode cX8_readsEar 133 = .ok (.iastore, 1)) ∧ (decode cX8_readsEar 134 = .ok (.aload_n 0, 1)) ∧ (decode cX8_readsEar 135 = .ok (.getfield 28, 3)) ∧ (decode cX8_readsEar 138 = .ok (.iload_n 2, 1)) ∧ (decode cX8_readsEar 139 = .ok (.iconst 2, 1)) := by decide +kernel
theorem dX8_readsEar_124 : decode cX8_readsEar 124 = .ok (.iastore, 1) := dX8_readsEar_124_b.1
theorem dX8_readsEar_125 : decode cX8_readsEar 125 = .ok (.aload_n 0, 1) := dX8_readsEar_124_b.2.1
theorem dX8_readsEar_126 : decode cX8_readsEar 126 = .ok (.getfield 28, 3) := dX8_readsEar_124_b.2.2.1
theorem dX8_readsEar_129 : decode cX8_readsEar 129 = .ok (.iload_n 2, 1) := dX8_readsEar_124_b.2.2.2.1
theorem dX8_readsEar_130 : decode cX8_readsEar 130 = .ok (.iconst 1, 1) := dX8_readsEar_124_b.2.2.2.2.1
theorem dX8_readsEar_131 : decode cX8_readsEar 131 = .ok (.iadd, 1) := dX8_readsEar_124_b.2.2.2.2.2.1
theorem dX8_readsEar_132 : decode cX8_readsEar 132 = .ok (.iload_n 3, 1) := dX8_readsEar_124_b.2.2.2.2.2.2.1
theorem dX8_readsEar_133 : decode cX8_readsEar 133 = .ok (.iastore, 1) := dX8_readsEar_124_b.2.2.2.2.2.2.2.1
theorem dX8_readsEar_134 : decode cX8_readsEar 134 = .ok (.aload_n 0, 1) := dX8_readsEar_124_b.2.2.2.2.2.2.2.2.1
theorem dX8_readsEar_135 : decode cX8_readsEar 135 = .ok (.getfield 28, 3) := dX8_readsEar_124_b.2.2.2.2.2.2.2.2.2.1
theorem dX8_readsEar_138 : decode cX8_readsEar 138 = .ok (.iload_n 2, 1) := dX8_readsEar_124_b.2.2.2.2.2.2.2.2.2.2.1
theorem dX8_readsEar_139 : decode cX8_readsEar 139 = .ok (.iconst 2, 1) := dX8_readsEar_124_b.2.2.2.2.2.2.2.2.2.2.2
theorem dX8_readsEar_140_b : (decode cX8_readsEar 140 = .ok (.iadd, 1)) ∧ (decode cX8_readsEar 141 = .ok (.iload 4, 2)) ∧ (decode cX8_readsEar 143 = .ok (.iastore, 1)) ∧ (decode cX8_readsEar 144 = .ok (.aload_n 0, 1)) ∧ (decode cX8_readsEar 145 = .ok (.getfield 28, 3)) ∧ (decode cX8_readsEar 148 = .ok (.iload_n 2, 1)) ∧ (decode cX8_readsEar 149 = .ok (.iconst 3, 1)) ∧ (decode cX8_readsEar 150 = .ok (.iadd, 1)) ∧ (decode cX8_readsEar 151 = .ok (.iload 5, 2)) ∧ (decode cX8_readsEar 153 = .ok (.iastore, 1)) ∧ (decode cX8_readsEar 154 = .ok (.aload_n 0, 1)) ∧ (decode cX8_readsEar 155 = .ok (.getfield 28, 3)) := by decide +kernel
theorem dX8_readsEar_140 : decode cX8_readsEar 140 = .ok (.iadd, 1) := dX8_readsEar_140_b.1
theorem dX8_readsEar_141 : decode cX8_readsEar 141 = .ok (.iload 4, 2) := dX8_readsEar_140_b.2.1
theorem dX8_readsEar_143 : decode cX8_readsEar 143 = .ok (.iastore, 1) := dX8_readsEar_140_b.2.2.1
theorem dX8_readsEar_144 : decode cX8_readsEar 144 = .ok (.aload_n 0, 1) := dX8_readsEar_140_b.2.2.2.1
theorem dX8_readsEar_145 : decode cX8_readsEar 145 = .ok (.getfield 28, 3) := dX8_readsEar_140_b.2.2.2.2.1
theorem dX8_readsEar_148 : decode cX8_readsEar 148 = .ok (.iload_n 2, 1) := dX8_readsEar_140_b.2.2.2.2.2.1
theorem dX8_readsEar_149 : decode cX8_readsEar 149 = .ok (.iconst 3, 1) := dX8_readsEar_140_b.2.2.2.2.2.2.1
theorem dX8_readsEar_150 : decode cX8_readsEar 150 = .ok (.iadd, 1) := dX8_readsEar_140_b.2.2.2.2.2.2.2.1
theorem dX8_readsEar_151 : decode cX8_readsEar 151 = .ok (.iload 5, 2) := dX8_readsEar_140_b.2.2.2.2.2.2.2.2.1
theorem dX8_readsEar_153 : decode cX8_readsEar 153 = .ok (.iastore, 1) := dX8_readsEar_140_b.2.2.2.2.2.2.2.2.2.1
theorem dX8_readsEar_154 : decode cX8_readsEar 154 = .ok (.aload_n 0, 1) := dX8_readsEar_140_b.2.2.2.2.2.2.2.2.2.2.1
theorem dX8_readsEar_155 : decode cX8_readsEar 155 = .ok (.getfield 28, 3) := dX8_readsEar_140_b.2.2.2.2.2.2.2.2.2.2.2
theorem dX8_readsEar_158_b : (decode cX8_readsEar 158 = .ok (.iload_n 2, 1)) ∧ (decode cX8_readsEar 159 = .ok (.iconst 4, 1)) ∧ (decode cX8_readsEar 160 = .ok (.iadd, 1)) ∧ (decode cX8_readsEar 161 = .ok (.iload 6, 2)) ∧ (decode cX8_readsEar 163 = .ok (.iastore, 1)) ∧ (decode cX8_readsEar 164 = .ok (.aload_n 0, 1)) ∧ (decode cX8_readsEar 165 = .ok (.getfield 28, 3)) ∧ (decode cX8_readsEar 168 = .ok (.iconst 4, 1)) ∧ (decode cX8_readsEar 169 = .ok (.dup2, 1)) ∧ (decode cX8_readsEar 170 = .ok (.iaload, 1)) ∧ (decode cX8_readsEar 171 = .ok (.iconst 1, 1)) ∧ (decode cX8_readsEar 172 = .ok (.iadd, 1)) := by decide +kernel
theorem dX8_readsEar_158 : decode cX8_readsEar 158 = .ok (.iload_n 2, 1) := dX8_readsEar_158_b.1
theorem dX8_readsEar_159 : decode cX8_readsEar 159 = .ok (.iconst 4, 1) := dX8_readsEar_158_b.2.1
theorem dX8_readsEar_160 : decode cX8_readsEar 160 = .ok (.iadd, 1) := dX8_readsEar_158_b.2.2.1
theorem dX8_readsEar_161 : decode cX8_readsEar 161 = .ok (.iload 6, 2) := dX8_readsEar_158_b.2.2.2.1
theorem dX8_readsEar_163 : decode cX8_readsEar 163 = .ok (.iastore, 1) := dX8_readsEar_158_b.2.2.2.2.1
theorem dX8_readsEar_164 : decode cX8_readsEar 164 = .ok (.aload_n 0, 1) := dX8_readsEar_158_b.2.2.2.2.2.1
theorem dX8_readsEar_165 : decode cX8_readsEar 165 = .ok (.getfield 28, 3) := dX8_readsEar_158_b.2.2.2.2.2.2.1
theorem dX8_readsEar_168 : decode cX8_readsEar 168 = .ok (.iconst 4, 1) := dX8_readsEar_158_b.2.2.2.2.2.2.2.1
theorem dX8_readsEar_169 : decode cX8_readsEar 169 = .ok (.dup2, 1) := dX8_readsEar_158_b.2.2.2.2.2.2.2.2.1
theorem dX8_readsEar_170 : decode cX8_readsEar 170 = .ok (.iaload, 1) := dX8_readsEar_158_b.2.2.2.2.2.2.2.2.2.1
theorem dX8_readsEar_171 : decode cX8_readsEar 171 = .ok (.iconst 1, 1) := dX8_readsEar_158_b.2.2.2.2.2.2.2.2.2.2.1
theorem dX8_readsEar_172 : decode cX8_readsEar 172 = .ok (.iadd, 1) := dX8_readsEar_158_b.2.2.2.2.2.2.2.2.2.2.2
theorem dX8_readsEar_173_b : (decode cX8_readsEar 173 = .ok (.iastore, 1)) ∧ (decode cX8_readsEar 174 = .ok (.return_, 1)) := by decide +kernel
theorem dX8_readsEar_173 : decode cX8_readsEar 173 = .ok (.iastore, 1) := dX8_readsEar_173_b.1
theorem dX8_readsEar_174 : decode cX8_readsEar 174 = .ok (.return_, 1) := dX8_readsEar_173_b.2
theorem dX8_readsDoing_0_b : (decode cX8_readsDoing 0 = .ok (.aload_n 0, 1)) ∧ (decode cX8_readsDoing 1 = .ok (.aload_n 0, 1)) ∧ (decode cX8_readsDoing 2 = .ok (.getfield 28, 3)) ∧ (decode cX8_readsDoing 5 = .ok (.iconst 5, 1)) ∧ (decode cX8_readsDoing 6 = .ok (.iaload, 1)) ∧ (decode cX8_readsDoing 7 = .ok (.iconst 4, 1)) ∧ (decode cX8_readsDoing 8 = .ok (.if_icmp .ge 7, 3)) ∧ (decode cX8_readsDoing 11 = .ok (.iconst 1, 1)) ∧ (decode cX8_readsDoing 12 = .ok (.goto 4, 3)) ∧ (decode cX8_readsDoing 15 = .ok (.iconst 0, 1)) ∧ (decode cX8_readsDoing 16 = .ok (.iconst 3, 1)) ∧ (decode cX8_readsDoing 17 = .ok (.invokevirtual 114, 3)) := by decide +kernel
theorem dX8_readsDoing_0 : decode cX8_readsDoing 0 = .ok (.aload_n 0, 1) := dX8_readsDoing_0_b.1
theorem dX8_readsDoing_1 : decode cX8_readsDoing 1 = .ok (.aload_n 0, 1) := dX8_readsDoing_0_b.2.1
theorem dX8_readsDoing_2 : decode cX8_readsDoing 2 = .ok (.getfield 28, 3) := dX8_readsDoing_0_b.2.2.1
theorem dX8_readsDoing_5 : decode cX8_readsDoing 5 = .ok (.iconst 5, 1) := dX8_readsDoing_0_b.2.2.2.1
theorem dX8_readsDoing_6 : decode cX8_readsDoing 6 = .ok (.iaload, 1) := dX8_readsDoing_0_b.2.2.2.2.1
theorem dX8_readsDoing_7 : decode cX8_readsDoing 7 = .ok (.iconst 4, 1) := dX8_readsDoing_0_b.2.2.2.2.2.1
theorem dX8_readsDoing_8 : decode cX8_readsDoing 8 = .ok (.if_icmp .ge 7, 3) := dX8_readsDoing_0_b.2.2.2.2.2.2.1
theorem dX8_readsDoing_11 : decode cX8_readsDoing 11 = .ok (.iconst 1, 1) := dX8_readsDoing_0_b.2.2.2.2.2.2.2.1
theorem dX8_readsDoing_12 : decode cX8_readsDoing 12 = .ok (.goto 4, 3) := dX8_readsDoing_0_b.2.2.2.2.2.2.2.2.1
theorem dX8_readsDoing_15 : decode cX8_readsDoing 15 = .ok (.iconst 0, 1) := dX8_readsDoing_0_b.2.2.2.2.2.2.2.2.2.1
theorem dX8_readsDoing_16 : decode cX8_readsDoing 16 = .ok (.iconst 3, 1) := dX8_readsDoing_0_b.2.2.2.2.2.2.2.2.2.2.1
theorem dX8_readsDoing_17 : decode cX8_readsDoing 17 = .ok (.invokevirtual 114, 3) := dX8_readsDoing_0_b.2.2.2.2.2.2.2.2.2.2.2
theorem dX8_readsDoing_20_b : (decode cX8_readsDoing 20 = .ok (.pop, 1)) ∧ (decode cX8_readsDoing 21 = .ok (.bipush 48, 2)) ∧ (decode cX8_readsDoing 23 = .ok (.iconst 5, 1)) ∧ (decode cX8_readsDoing 24 = .ok (.aload_n 0, 1)) ∧ (decode cX8_readsDoing 25 = .ok (.getfield 28, 3)) ∧ (decode cX8_readsDoing 28 = .ok (.iconst 5, 1)) ∧ (decode cX8_readsDoing 29 = .ok (.iaload, 1)) ∧ (decode cX8_readsDoing 30 = .ok (.iconst 4, 1)) ∧ (decode cX8_readsDoing 31 = .ok (.if_icmp .ge 12, 3)) ∧ (decode cX8_readsDoing 34 = .ok (.aload_n 0, 1)) ∧ (decode cX8_readsDoing 35 = .ok (.getfield 28, 3)) ∧ (decode cX8_readsDoing 38 = .ok (.iconst 5, 1)) := by decide +kernel
theorem dX8_readsDoing_20 : decode cX8_readsDoing 20 = .ok (.pop, 1) := dX8_readsDoing_20_b.1
theorem dX8_readsDoing_21 : decode cX8_readsDoing 21 = .ok (.bipush 48, 2) := dX8_readsDoing_20_b.2.1
theorem dX8_readsDoing_23 : decode cX8_readsDoing 23 = .ok (.iconst 5, 1) := dX8_readsDoing_20_b.2.2.1
theorem dX8_readsDoing_24 : decode cX8_readsDoing 24 = .ok (.aload_n 0, 1) := dX8_readsDoing_20_b.2.2.2.1
theorem dX8_readsDoing_25 : decode cX8_readsDoing 25 = .ok (.getfield 28, 3) := dX8_readsDoing_20_b.2.2.2.2.1
theorem dX8_readsDoing_28 : decode cX8_readsDoing 28 = .ok (.iconst 5, 1) := dX8_readsDoing_20_b.2.2.2.2.2.1
theorem dX8_readsDoing_29 : decode cX8_readsDoing 29 = .ok (.iaload, 1) := dX8_readsDoing_20_b.2.2.2.2.2.2.1
theorem dX8_readsDoing_30 : decode cX8_readsDoing 30 = .ok (.iconst 4, 1) := dX8_readsDoing_20_b.2.2.2.2.2.2.2.1
theorem dX8_readsDoing_31 : decode cX8_readsDoing 31 = .ok (.if_icmp .ge 12, 3) := dX8_readsDoing_20_b.2.2.2.2.2.2.2.2.1
theorem dX8_readsDoing_34 : decode cX8_readsDoing 34 = .ok (.aload_n 0, 1) := dX8_readsDoing_20_b.2.2.2.2.2.2.2.2.2.1
theorem dX8_readsDoing_35 : decode cX8_readsDoing 35 = .ok (.getfield 28, 3) := dX8_readsDoing_20_b.2.2.2.2.2.2.2.2.2.2.1
theorem dX8_readsDoing_38 : decode cX8_readsDoing 38 = .ok (.iconst 5, 1) := dX8_readsDoing_20_b.2.2.2.2.2.2.2.2.2.2.2
theorem dX8_readsDoing_39_b : (decode cX8_readsDoing 39 = .ok (.iaload, 1)) ∧ (decode cX8_readsDoing 40 = .ok (.goto 4, 3)) ∧ (decode cX8_readsDoing 43 = .ok (.iconst 0, 1)) ∧ (decode cX8_readsDoing 44 = .ok (.imul, 1)) ∧ (decode cX8_readsDoing 45 = .ok (.iadd, 1)) ∧ (decode cX8_readsDoing 46 = .ok (.istore_n 1, 1)) ∧ (decode cX8_readsDoing 47 = .ok (.aload_n 0, 1)) ∧ (decode cX8_readsDoing 48 = .ok (.iconst 0, 1)) ∧ (decode cX8_readsDoing 49 = .ok (.bipush 99, 2)) ∧ (decode cX8_readsDoing 51 = .ok (.invokevirtual 118, 3)) ∧ (decode cX8_readsDoing 54 = .ok (.istore_n 2, 1)) ∧ (decode cX8_readsDoing 55 = .ok (.aload_n 0, 1)) := by decide +kernel
theorem dX8_readsDoing_39 : decode cX8_readsDoing 39 = .ok (.iaload, 1) := dX8_readsDoing_39_b.1
theorem dX8_readsDoing_40 : decode cX8_readsDoing 40 = .ok (.goto 4, 3) := dX8_readsDoing_39_b.2.1
theorem dX8_readsDoing_43 : decode cX8_readsDoing 43 = .ok (.iconst 0, 1) := dX8_readsDoing_39_b.2.2.1
theorem dX8_readsDoing_44 : decode cX8_readsDoing 44 = .ok (.imul, 1) := dX8_readsDoing_39_b.2.2.2.1
theorem dX8_readsDoing_45 : decode cX8_readsDoing 45 = .ok (.iadd, 1) := dX8_readsDoing_39_b.2.2.2.2.1
theorem dX8_readsDoing_46 : decode cX8_readsDoing 46 = .ok (.istore_n 1, 1) := dX8_readsDoing_39_b.2.2.2.2.2.1
theorem dX8_readsDoing_47 : decode cX8_readsDoing 47 = .ok (.aload_n 0, 1) := dX8_readsDoing_39_b.2.2.2.2.2.2.1
theorem dX8_readsDoing_48 : decode cX8_readsDoing 48 = .ok (.iconst 0, 1) := dX8_readsDoing_39_b.2.2.2.2.2.2.2.1
theorem dX8_readsDoing_49 : decode cX8_readsDoing 49 = .ok (.bipush 99, 2) := dX8_readsDoing_39_b.2.2.2.2.2.2.2.2.1
theorem dX8_readsDoing_51 : decode cX8_readsDoing 51 = .ok (.invokevirtual 118, 3) := dX8_readsDoing_39_b.2.2.2.2.2.2.2.2.2.1
theorem dX8_readsDoing_54 : decode cX8_readsDoing 54 = .ok (.istore_n 2, 1) := dX8_readsDoing_39_b.2.2.2.2.2.2.2.2.2.2.1
theorem dX8_readsDoing_55 : decode cX8_readsDoing 55 = .ok (.aload_n 0, 1) := dX8_readsDoing_39_b.2.2.2.2.2.2.2.2.2.2.2
theorem dX8_readsDoing_56_b : (decode cX8_readsDoing 56 = .ok (.iconst 1, 1)) ∧ (decode cX8_readsDoing 57 = .ok (.bipush 40, 2)) ∧ (decode cX8_readsDoing 59 = .ok (.invokevirtual 124, 3)) ∧ (decode cX8_readsDoing 62 = .ok (.istore_n 3, 1)) ∧ (decode cX8_readsDoing 63 = .ok (.aload_n 0, 1)) ∧ (decode cX8_readsDoing 64 = .ok (.iconst 0, 1)) ∧ (decode cX8_readsDoing 65 = .ok (.bipush 99, 2)) ∧ (decode cX8_readsDoing 67 = .ok (.invokevirtual 124, 3)) ∧ (decode cX8_readsDoing 70 = .ok (.istore 4, 2)) ∧ (decode cX8_readsDoing 72 = .ok (.aload_n 0, 1)) ∧ (decode cX8_readsDoing 73 = .ok (.aload_n 0, 1)) ∧ (decode cX8_readsDoing 74 = .ok (.getfield 98, 3)) := by decide +kernel
theorem dX8_readsDoing_56 : decode cX8_readsDoing 56 = .ok (.iconst 1, 1) := dX8_readsDoing_56_b.1
theorem dX8_readsDoing_57 : decode cX8_readsDoing 57 = .ok (.bipush 40, 2) := dX8_readsDoing_56_b.2.1
theorem dX8_readsDoing_59 : decode cX8_readsDoing 59 = .ok (.invokevirtual 124, 3) := dX8_readsDoing_56_b.2.2.1
theorem dX8_readsDoing_62 : decode cX8_readsDoing 62 = .ok (.istore_n 3, 1) := dX8_readsDoing_56_b.2.2.2.1
theorem dX8_readsDoing_63 : decode cX8_readsDoing 63 = .ok (.aload_n 0, 1) := dX8_readsDoing_56_b.2.2.2.2.1
theorem dX8_readsDoing_64 : decode cX8_readsDoing 64 = .ok (.iconst 0, 1) := dX8_readsDoing_56_b.2.2.2.2.2.1
theorem dX8_readsDoing_65 : decode cX8_readsDoing 65 = .ok (.bipush 99, 2) := dX8_readsDoing_56_b.2.2.2.2.2.2.1
theorem dX8_readsDoing_67 : decode cX8_readsDoing 67 = .ok (.invokevirtual 124, 3) := dX8_readsDoing_56_b.2.2.2.2.2.2.2.1
theorem dX8_readsDoing_70 : decode cX8_readsDoing 70 = .ok (.istore 4, 2) := dX8_readsDoing_56_b.2.2.2.2.2.2.2.2.1
theorem dX8_readsDoing_72 : decode cX8_readsDoing 72 = .ok (.aload_n 0, 1) := dX8_readsDoing_56_b.2.2.2.2.2.2.2.2.2.1
theorem dX8_readsDoing_73 : decode cX8_readsDoing 73 = .ok (.aload_n 0, 1) := dX8_readsDoing_56_b.2.2.2.2.2.2.2.2.2.2.1
theorem dX8_readsDoing_74 : decode cX8_readsDoing 74 = .ok (.getfield 98, 3) := dX8_readsDoing_56_b.2.2.2.2.2.2.2.2.2.2.2
theorem dX8_readsDoing_77_b : (decode cX8_readsDoing 77 = .ok (.iconst 4, 1)) ∧ (decode cX8_readsDoing 78 = .ok (.if_icmp .ne 7, 3)) ∧ (decode cX8_readsDoing 81 = .ok (.iconst 1, 1)) ∧ (decode cX8_readsDoing 82 = .ok (.goto 4, 3)) ∧ (decode cX8_readsDoing 85 = .ok (.iconst 0, 1)) ∧ (decode cX8_readsDoing 86 = .ok (.iconst 1, 1)) ∧ (decode cX8_readsDoing 87 = .ok (.invokevirtual 114, 3)) ∧ (decode cX8_readsDoing 90 = .ok (.pop, 1)) ∧ (decode cX8_readsDoing 91 = .ok (.aload_n 0, 1)) ∧ (decode cX8_readsDoing 92 = .ok (.invokevirtual 104, 3)) ∧ (decode cX8_readsDoing 95 = .ok (.ifCond .eq 69, 3)) ∧ (decode cX8_readsDoing 98 = .ok (.aload_n 0, 1)) := by decide +kernel
theorem dX8_readsDoing_77 : decode cX8_readsDoing 77 = .ok (.iconst 4, 1) := dX8_readsDoing_77_b.1
theorem dX8_readsDoing_78 : decode cX8_readsDoing 78 = .ok (.if_icmp .ne 7, 3) := dX8_readsDoing_77_b.2.1
theorem dX8_readsDoing_81 : decode cX8_readsDoing 81 = .ok (.iconst 1, 1) := dX8_readsDoing_77_b.2.2.1
theorem dX8_readsDoing_82 : decode cX8_readsDoing 82 = .ok (.goto 4, 3) := dX8_readsDoing_77_b.2.2.2.1
theorem dX8_readsDoing_85 : decode cX8_readsDoing 85 = .ok (.iconst 0, 1) := dX8_readsDoing_77_b.2.2.2.2.1
theorem dX8_readsDoing_86 : decode cX8_readsDoing 86 = .ok (.iconst 1, 1) := dX8_readsDoing_77_b.2.2.2.2.2.1
theorem dX8_readsDoing_87 : decode cX8_readsDoing 87 = .ok (.invokevirtual 114, 3) := dX8_readsDoing_77_b.2.2.2.2.2.2.1
theorem dX8_readsDoing_90 : decode cX8_readsDoing 90 = .ok (.pop, 1) := dX8_readsDoing_77_b.2.2.2.2.2.2.2.1
theorem dX8_readsDoing_91 : decode cX8_readsDoing 91 = .ok (.aload_n 0, 1) := dX8_readsDoing_77_b.2.2.2.2.2.2.2.2.1
theorem dX8_readsDoing_92 : decode cX8_readsDoing 92 = .ok (.invokevirtual 104, 3) := dX8_readsDoing_77_b.2.2.2.2.2.2.2.2.2.1
theorem dX8_readsDoing_95 : decode cX8_readsDoing 95 = .ok (.ifCond .eq 69, 3) := dX8_readsDoing_77_b.2.2.2.2.2.2.2.2.2.2.1
theorem dX8_readsDoing_98 : decode cX8_readsDoing 98 = .ok (.aload_n 0, 1) := dX8_readsDoing_77_b.2.2.2.2.2.2.2.2.2.2.2
theorem dX8_readsDoing_99_b : (decode cX8_readsDoing 99 = .ok (.getfield 28, 3)) ∧ (decode cX8_readsDoing 102 = .ok (.iload_n 1, 1)) ∧ (decode cX8_readsDoing 103 = .ok (.iconst 0, 1)) ∧ (decode cX8_readsDoing 104 = .ok (.iadd, 1)) ∧ (decode cX8_readsDoing 105 = .ok (.iload_n 2, 1)) ∧ (decode cX8_readsDoing 106 = .ok (.iastore, 1)) ∧ (decode cX8_readsDoing 107 = .ok (.aload_n 0, 1)) ∧ (decode cX8_readsDoing 108 = .ok (.getfield 28, 3)) ∧ (decode cX8_readsDoing 111 = .ok (.iload_n 1, 1)) ∧ (decode cX8_readsDoing 112 = .ok (.iconst 1, 1)) ∧ (decode cX8_readsDoing 113 = .ok (.iadd, 1)) ∧ (decode cX8_readsDoing 114 = .ok (.iload_n 3, 1)) := by decide +kernel
theorem dX8_readsDoing_99 : decode cX8_readsDoing 99 = .ok (.getfield 28, 3) := dX8_readsDoing_99_b.1
theorem dX8_readsDoing_102 : decode cX8_readsDoing 102 = .ok (.iload_n 1, 1) := dX8_readsDoing_99_b.2.1
theorem dX8_readsDoing_103 : decode cX8_readsDoing 103 = .ok (.iconst 0, 1) := dX8_readsDoing_99_b.2.2.1
theorem dX8_readsDoing_104 : decode cX8_readsDoing 104 = .ok (.iadd, 1) := dX8_readsDoing_99_b.2.2.2.1
theorem dX8_readsDoing_105 : decode cX8_readsDoing 105 = .ok (.iload_n 2, 1) := dX8_readsDoing_99_b.2.2.2.2.1
theorem dX8_readsDoing_106 : decode cX8_readsDoing 106 = .ok (.iastore, 1) := dX8_readsDoing_99_b.2.2.2.2.2.1
theorem dX8_readsDoing_107 : decode cX8_readsDoing 107 = .ok (.aload_n 0, 1) := dX8_readsDoing_99_b.2.2.2.2.2.2.1
theorem dX8_readsDoing_108 : decode cX8_readsDoing 108 = .ok (.getfield 28, 3) := dX8_readsDoing_99_b.2.2.2.2.2.2.2.1
theorem dX8_readsDoing_111 : decode cX8_readsDoing 111 = .ok (.iload_n 1, 1) := dX8_readsDoing_99_b.2.2.2.2.2.2.2.2.1
theorem dX8_readsDoing_112 : decode cX8_readsDoing 112 = .ok (.iconst 1, 1) := dX8_readsDoing_99_b.2.2.2.2.2.2.2.2.2.1
theorem dX8_readsDoing_113 : decode cX8_readsDoing 113 = .ok (.iadd, 1) := dX8_readsDoing_99_b.2.2.2.2.2.2.2.2.2.2.1
theorem dX8_readsDoing_114 : decode cX8_readsDoing 114 = .ok (.iload_n 3, 1) := dX8_readsDoing_99_b.2.2.2.2.2.2.2.2.2.2.2
theorem dX8_readsDoing_115_b : (decode cX8_readsDoing 115 = .ok (.iastore, 1)) ∧ (decode cX8_readsDoing 116 = .ok (.aload_n 0, 1)) ∧ (decode cX8_readsDoing 117 = .ok (.getfield 28, 3)) ∧ (decode cX8_readsDoing 120 = .ok (.iload_n 1, 1)) ∧ (decode cX8_readsDoing 121 = .ok (.iconst 2, 1)) ∧ (decode cX8_readsDoing 122 = .ok (.iadd, 1)) ∧ (decode cX8_readsDoing 123 = .ok (.iload 4, 2)) ∧ (decode cX8_readsDoing 125 = .ok (.iastore, 1)) ∧ (decode cX8_readsDoing 126 = .ok (.aload_n 0, 1)) ∧ (decode cX8_readsDoing 127 = .ok (.getfield 28, 3)) ∧ (decode cX8_readsDoing 130 = .ok (.iload_n 1, 1)) ∧ (decode cX8_readsDoing 131 = .ok (.iconst 3, 1)) := by decide +kernel
theorem dX8_readsDoing_115 : decode cX8_readsDoing 115 = .ok (.iastore, 1) := dX8_readsDoing_115_b.1
theorem dX8_readsDoing_116 : decode cX8_readsDoing 116 = .ok (.aload_n 0, 1) := dX8_readsDoing_115_b.2.1
theorem dX8_readsDoing_117 : decode cX8_readsDoing 117 = .ok (.getfield 28, 3) := dX8_readsDoing_115_b.2.2.1
theorem dX8_readsDoing_120 : decode cX8_readsDoing 120 = .ok (.iload_n 1, 1) := dX8_readsDoing_115_b.2.2.2.1
theorem dX8_readsDoing_121 : decode cX8_readsDoing 121 = .ok (.iconst 2, 1) := dX8_readsDoing_115_b.2.2.2.2.1
theorem dX8_readsDoing_122 : decode cX8_readsDoing 122 = .ok (.iadd, 1) := dX8_readsDoing_115_b.2.2.2.2.2.1
theorem dX8_readsDoing_123 : decode cX8_readsDoing 123 = .ok (.iload 4, 2) := dX8_readsDoing_115_b.2.2.2.2.2.2.1
theorem dX8_readsDoing_125 : decode cX8_readsDoing 125 = .ok (.iastore, 1) := dX8_readsDoing_115_b.2.2.2.2.2.2.2.1
theorem dX8_readsDoing_126 : decode cX8_readsDoing 126 = .ok (.aload_n 0, 1) := dX8_readsDoing_115_b.2.2.2.2.2.2.2.2.1
theorem dX8_readsDoing_127 : decode cX8_readsDoing 127 = .ok (.getfield 28, 3) := dX8_readsDoing_115_b.2.2.2.2.2.2.2.2.2.1
theorem dX8_readsDoing_130 : decode cX8_readsDoing 130 = .ok (.iload_n 1, 1) := dX8_readsDoing_115_b.2.2.2.2.2.2.2.2.2.2.1
theorem dX8_readsDoing_131 : decode cX8_readsDoing 131 = .ok (.iconst 3, 1) := dX8_readsDoing_115_b.2.2.2.2.2.2.2.2.2.2.2
theorem dX8_readsDoing_132_b : (decode cX8_readsDoing 132 = .ok (.iadd, 1)) ∧ (decode cX8_readsDoing 133 = .ok (.iload_n 2, 1)) ∧ (decode cX8_readsDoing 134 = .ok (.ifCond .ne 7, 3)) ∧ (decode cX8_readsDoing 137 = .ok (.iconst 0, 1)) ∧ (decode cX8_readsDoing 138 = .ok (.goto 5, 3)) ∧ (decode cX8_readsDoing 141 = .ok (.ldc 50, 2)) ∧ (decode cX8_readsDoing 143 = .ok (.iastore, 1)) ∧ (decode cX8_readsDoing 144 = .ok (.aload_n 0, 1)) ∧ (decode cX8_readsDoing 145 = .ok (.getfield 28, 3)) ∧ (decode cX8_readsDoing 148 = .ok (.iload_n 1, 1)) ∧ (decode cX8_readsDoing 149 = .ok (.iconst 4, 1)) ∧ (decode cX8_readsDoing 150 = .ok (.iadd, 1)) := by decide +kernel
theorem dX8_readsDoing_132 : decode cX8_readsDoing 132 = .ok (.iadd, 1) := dX8_readsDoing_132_b.1
theorem dX8_readsDoing_133 : decode cX8_readsDoing 133 = .ok (.iload_n 2, 1) := dX8_readsDoing_132_b.2.1
theorem dX8_readsDoing_134 : decode cX8_readsDoing 134 = .ok (.ifCond .ne 7, 3) := dX8_readsDoing_132_b.2.2.1
theorem dX8_readsDoing_137 : decode cX8_readsDoing 137 = .ok (.iconst 0, 1) := dX8_readsDoing_132_b.2.2.2.1
theorem dX8_readsDoing_138 : decode cX8_readsDoing 138 = .ok (.goto 5, 3) := dX8_readsDoing_132_b.2.2.2.2.1
theorem dX8_readsDoing_141 : decode cX8_readsDoing 141 = .ok (.ldc 50, 2) := dX8_readsDoing_132_b.2.2.2.2.2.1
theorem dX8_readsDoing_143 : decode cX8_readsDoing 143 = .ok (.iastore, 1) := dX8_readsDoing_132_b.2.2.2.2.2.2.1
theorem dX8_readsDoing_144 : decode cX8_readsDoing 144 = .ok (.aload_n 0, 1) := dX8_readsDoing_132_b.2.2.2.2.2.2.2.1
theorem dX8_readsDoing_145 : decode cX8_readsDoing 145 = .ok (.getfield 28, 3) := dX8_readsDoing_132_b.2.2.2.2.2.2.2.2.1
theorem dX8_readsDoing_148 : decode cX8_readsDoing 148 = .ok (.iload_n 1, 1) := dX8_readsDoing_132_b.2.2.2.2.2.2.2.2.2.1
theorem dX8_readsDoing_149 : decode cX8_readsDoing 149 = .ok (.iconst 4, 1) := dX8_readsDoing_132_b.2.2.2.2.2.2.2.2.2.2.1
theorem dX8_readsDoing_150 : decode cX8_readsDoing 150 = .ok (.iadd, 1) := dX8_readsDoing_132_b.2.2.2.2.2.2.2.2.2.2.2
theorem dX8_readsDoing_151_b : (decode cX8_readsDoing 151 = .ok (.ldc 50, 2)) ∧ (decode cX8_readsDoing 153 = .ok (.iastore, 1)) ∧ (decode cX8_readsDoing 154 = .ok (.aload_n 0, 1)) ∧ (decode cX8_readsDoing 155 = .ok (.getfield 28, 3)) ∧ (decode cX8_readsDoing 158 = .ok (.iconst 5, 1)) ∧ (decode cX8_readsDoing 159 = .ok (.dup2, 1)) ∧ (decode cX8_readsDoing 160 = .ok (.iaload, 1)) ∧ (decode cX8_readsDoing 161 = .ok (.iconst 1, 1)) ∧ (decode cX8_readsDoing 162 = .ok (.iadd, 1)) ∧ (decode cX8_readsDoing 163 = .ok (.iastore, 1)) ∧ (decode cX8_readsDoing 164 = .ok (.return_, 1)) := by decide +kernel
theorem dX8_readsDoing_151 : decode cX8_readsDoing 151 = .ok (.ldc 50, 2) := dX8_readsDoing_151_b.1
theorem dX8_readsDoing_153 : decode cX8_readsDoing 153 = .ok (.iastore, 1) := dX8_readsDoing_151_b.2.1
theorem dX8_readsDoing_154 : decode cX8_readsDoing 154 = .ok (.aload_n 0, 1) := dX8_readsDoing_151_b.2.2.1
theorem dX8_readsDoing_155 : decode cX8_readsDoing 155 = .ok (.getfield 28, 3) := dX8_readsDoing_151_b.2.2.2.1
theorem dX8_readsDoing_158 : decode cX8_readsDoing 158 = .ok (.iconst 5, 1) := dX8_readsDoing_151_b.2.2.2.2.1
theorem dX8_readsDoing_159 : decode cX8_readsDoing 159 = .ok (.dup2, 1) := dX8_readsDoing_151_b.2.2.2.2.2.1
theorem dX8_readsDoing_160 : decode cX8_readsDoing 160 = .ok (.iaload, 1) := dX8_readsDoing_151_b.2.2.2.2.2.2.1
theorem dX8_readsDoing_161 : decode cX8_readsDoing 161 = .ok (.iconst 1, 1) := dX8_readsDoing_151_b.2.2.2.2.2.2.2.1
theorem dX8_readsDoing_162 : decode cX8_readsDoing 162 = .ok (.iadd, 1) := dX8_readsDoing_151_b.2.2.2.2.2.2.2.2.1
theorem dX8_readsDoing_163 : decode cX8_readsDoing 163 = .ok (.iastore, 1) := dX8_readsDoing_151_b.2.2.2.2.2.2.2.2.2.1
theorem dX8_readsDoing_164 : decode cX8_readsDoing 164 = .ok (.return_, 1) := dX8_readsDoing_151_b.2.2.2.2.2.2.2.2.2.2
theorem dX8_house_0_b : (decode cX8_house 0 = .ok (.iconst 0, 1)) ∧ (decode cX8_house 1 = .ok (.istore_n 1, 1)) ∧ (decode cX8_house 2 = .ok (.iload_n 1, 1)) ∧ (decode cX8_house 3 = .ok (.bipush 68, 2)) ∧ (decode cX8_house 5 = .ok (.if_icmp .ge 16, 3)) ∧ (decode cX8_house 8 = .ok (.aload_n 0, 1)) ∧ (decode cX8_house 9 = .ok (.getfield 28, 3)) ∧ (decode cX8_house 12 = .ok (.iload_n 1, 1)) ∧ (decode cX8_house 13 = .ok (.iconst 0, 1)) ∧ (decode cX8_house 14 = .ok (.iastore, 1)) ∧ (decode cX8_house 15 = .ok (.iinc 1 1, 3)) ∧ (decode cX8_house 18 = .ok (.goto (-16), 3)) := by decide +kernel
theorem dX8_house_0 : decode cX8_house 0 = .ok (.iconst 0, 1) := dX8_house_0_b.1
theorem dX8_house_1 : decode cX8_house 1 = .ok (.istore_n 1, 1) := dX8_house_0_b.2.1
theorem dX8_house_2 : decode cX8_house 2 = .ok (.iload_n 1, 1) := dX8_house_0_b.2.2.1
theorem dX8_house_3 : decode cX8_house 3 = .ok (.bipush 68, 2) := dX8_house_0_b.2.2.2.1
theorem dX8_house_5 : decode cX8_house 5 = .ok (.if_icmp .ge 16, 3) := dX8_house_0_b.2.2.2.2.1
theorem dX8_house_8 : decode cX8_house 8 = .ok (.aload_n 0, 1) := dX8_house_0_b.2.2.2.2.2.1
theorem dX8_house_9 : decode cX8_house 9 = .ok (.getfield 28, 3) := dX8_house_0_b.2.2.2.2.2.2.1
theorem dX8_house_12 : decode cX8_house 12 = .ok (.iload_n 1, 1) := dX8_house_0_b.2.2.2.2.2.2.2.1
theorem dX8_house_13 : decode cX8_house 13 = .ok (.iconst 0, 1) := dX8_house_0_b.2.2.2.2.2.2.2.2.1
theorem dX8_house_14 : decode cX8_house 14 = .ok (.iastore, 1) := dX8_house_0_b.2.2.2.2.2.2.2.2.2.1
theorem dX8_house_15 : decode cX8_house 15 = .ok (.iinc 1 1, 3) := dX8_house_0_b.2.2.2.2.2.2.2.2.2.2.1
theorem dX8_house_18 : decode cX8_house 18 = .ok (.goto (-16), 3) := dX8_house_0_b.2.2.2.2.2.2.2.2.2.2.2
theorem dX8_house_21_b : (decode cX8_house 21 = .ok (.aload_n 0, 1)) ∧ (decode cX8_house 22 = .ok (.iconst 0, 1)) ∧ (decode cX8_house 23 = .ok (.putfield 86, 3)) ∧ (decode cX8_house 26 = .ok (.aload_n 0, 1)) ∧ (decode cX8_house 27 = .ok (.iconst (-1), 1)) ∧ (decode cX8_house 28 = .ok (.putfield 101, 3)) ∧ (decode cX8_house 31 = .ok (.aload_n 0, 1)) ∧ (decode cX8_house 32 = .ok (.invokevirtual 111, 3)) ∧ (decode cX8_house 35 = .ok (.aload_n 0, 1)) ∧ (decode cX8_house 36 = .ok (.aload_n 0, 1)) ∧ (decode cX8_house 37 = .ok (.getfield 98, 3)) ∧ (decode cX8_house 40 = .ok (.iconst 1, 1)) := by decide +kernel
theorem dX8_house_21 : decode cX8_house 21 = .ok (.aload_n 0, 1) := dX8_house_21_b.1
theorem dX8_house_22 : decode cX8_house 22 = .ok (.iconst 0, 1) := dX8_house_21_b.2.1
theorem dX8_house_23 : decode cX8_house 23 = .ok (.putfield 86, 3) := dX8_house_21_b.2.2.1
theorem dX8_house_26 : decode cX8_house 26 = .ok (.aload_n 0, 1) := dX8_house_21_b.2.2.2.1
theorem dX8_house_27 : decode cX8_house 27 = .ok (.iconst (-1), 1) := dX8_house_21_b.2.2.2.2.1
theorem dX8_house_28 : decode cX8_house 28 = .ok (.putfield 101, 3) := dX8_house_21_b.2.2.2.2.2.1
theorem dX8_house_31 : decode cX8_house 31 = .ok (.aload_n 0, 1) := dX8_house_21_b.2.2.2.2.2.2.1
theorem dX8_house_32 : decode cX8_house 32 = .ok (.invokevirtual 111, 3) := dX8_house_21_b.2.2.2.2.2.2.2.1
theorem dX8_house_35 : decode cX8_house 35 = .ok (.aload_n 0, 1) := dX8_house_21_b.2.2.2.2.2.2.2.2.1
theorem dX8_house_36 : decode cX8_house 36 = .ok (.aload_n 0, 1) := dX8_house_21_b.2.2.2.2.2.2.2.2.2.1
theorem dX8_house_37 : decode cX8_house 37 = .ok (.getfield 98, 3) := dX8_house_21_b.2.2.2.2.2.2.2.2.2.2.1
theorem dX8_house_40 : decode cX8_house 40 = .ok (.iconst 1, 1) := dX8_house_21_b.2.2.2.2.2.2.2.2.2.2.2
theorem dX8_house_41_b : (decode cX8_house 41 = .ok (.if_icmp .ne 16, 3)) ∧ (decode cX8_house 44 = .ok (.aload_n 0, 1)) ∧ (decode cX8_house 45 = .ok (.getfield 95, 3)) ∧ (decode cX8_house 48 = .ok (.bipush 99, 2)) ∧ (decode cX8_house 50 = .ok (.if_icmp .ne 7, 3)) ∧ (decode cX8_house 53 = .ok (.iconst 1, 1)) ∧ (decode cX8_house 54 = .ok (.goto 4, 3)) ∧ (decode cX8_house 57 = .ok (.iconst 0, 1)) ∧ (decode cX8_house 58 = .ok (.iconst 1, 1)) ∧ (decode cX8_house 59 = .ok (.invokevirtual 114, 3)) ∧ (decode cX8_house 62 = .ok (.pop, 1)) ∧ (decode cX8_house 63 = .ok (.aload_n 0, 1)) := by decide +kernel
theorem dX8_house_41 : decode cX8_house 41 = .ok (.if_icmp .ne 16, 3) := dX8_house_41_b.1
theorem dX8_house_44 : decode cX8_house 44 = .ok (.aload_n 0, 1) := dX8_house_41_b.2.1
theorem dX8_house_45 : decode cX8_house 45 = .ok (.getfield 95, 3) := dX8_house_41_b.2.2.1
theorem dX8_house_48 : decode cX8_house 48 = .ok (.bipush 99, 2) := dX8_house_41_b.2.2.2.1
theorem dX8_house_50 : decode cX8_house 50 = .ok (.if_icmp .ne 7, 3) := dX8_house_41_b.2.2.2.2.1
theorem dX8_house_53 : decode cX8_house 53 = .ok (.iconst 1, 1) := dX8_house_41_b.2.2.2.2.2.1
theorem dX8_house_54 : decode cX8_house 54 = .ok (.goto 4, 3) := dX8_house_41_b.2.2.2.2.2.2.1
theorem dX8_house_57 : decode cX8_house 57 = .ok (.iconst 0, 1) := dX8_house_41_b.2.2.2.2.2.2.2.1
theorem dX8_house_58 : decode cX8_house 58 = .ok (.iconst 1, 1) := dX8_house_41_b.2.2.2.2.2.2.2.2.1
theorem dX8_house_59 : decode cX8_house 59 = .ok (.invokevirtual 114, 3) := dX8_house_41_b.2.2.2.2.2.2.2.2.2.1
theorem dX8_house_62 : decode cX8_house 62 = .ok (.pop, 1) := dX8_house_41_b.2.2.2.2.2.2.2.2.2.2.1
theorem dX8_house_63 : decode cX8_house 63 = .ok (.aload_n 0, 1) := dX8_house_41_b.2.2.2.2.2.2.2.2.2.2.2
theorem dX8_house_64_b : (decode cX8_house 64 = .ok (.getfield 28, 3)) ∧ (decode cX8_house 67 = .ok (.iconst 1, 1)) ∧ (decode cX8_house 68 = .ok (.aload_n 0, 1)) ∧ (decode cX8_house 69 = .ok (.iconst 0, 1)) ∧ (decode cX8_house 70 = .ok (.bipush 12, 2)) ∧ (decode cX8_house 72 = .ok (.invokevirtual 118, 3)) ∧ (decode cX8_house 75 = .ok (.iastore, 1)) ∧ (decode cX8_house 76 = .ok (.aload_n 0, 1)) ∧ (decode cX8_house 77 = .ok (.aload_n 0, 1)) ∧ (decode cX8_house 78 = .ok (.getfield 98, 3)) ∧ (decode cX8_house 81 = .ok (.iconst 4, 1)) ∧ (decode cX8_house 82 = .ok (.if_icmp .ne 7, 3)) := by decide +kernel
theorem dX8_house_64 : decode cX8_house 64 = .ok (.getfield 28, 3) := dX8_house_64_b.1
theorem dX8_house_67 : decode cX8_house 67 = .ok (.iconst 1, 1) := dX8_house_64_b.2.1
theorem dX8_house_68 : decode cX8_house 68 = .ok (.aload_n 0, 1) := dX8_house_64_b.2.2.1
theorem dX8_house_69 : decode cX8_house 69 = .ok (.iconst 0, 1) := dX8_house_64_b.2.2.2.1
theorem dX8_house_70 : decode cX8_house 70 = .ok (.bipush 12, 2) := dX8_house_64_b.2.2.2.2.1
theorem dX8_house_72 : decode cX8_house 72 = .ok (.invokevirtual 118, 3) := dX8_house_64_b.2.2.2.2.2.1
theorem dX8_house_75 : decode cX8_house 75 = .ok (.iastore, 1) := dX8_house_64_b.2.2.2.2.2.2.1
theorem dX8_house_76 : decode cX8_house 76 = .ok (.aload_n 0, 1) := dX8_house_64_b.2.2.2.2.2.2.2.1
theorem dX8_house_77 : decode cX8_house 77 = .ok (.aload_n 0, 1) := dX8_house_64_b.2.2.2.2.2.2.2.2.1
theorem dX8_house_78 : decode cX8_house 78 = .ok (.getfield 98, 3) := dX8_house_64_b.2.2.2.2.2.2.2.2.2.1
theorem dX8_house_81 : decode cX8_house 81 = .ok (.iconst 4, 1) := dX8_house_64_b.2.2.2.2.2.2.2.2.2.2.1
theorem dX8_house_82 : decode cX8_house 82 = .ok (.if_icmp .ne 7, 3) := dX8_house_64_b.2.2.2.2.2.2.2.2.2.2.2
theorem dX8_house_85_b : (decode cX8_house 85 = .ok (.iconst 1, 1)) ∧ (decode cX8_house 86 = .ok (.goto 4, 3)) ∧ (decode cX8_house 89 = .ok (.iconst 0, 1)) ∧ (decode cX8_house 90 = .ok (.iconst 1, 1)) ∧ (decode cX8_house 91 = .ok (.invokevirtual 114, 3)) ∧ (decode cX8_house 94 = .ok (.pop, 1)) ∧ (decode cX8_house 95 = .ok (.aload_n 0, 1)) ∧ (decode cX8_house 96 = .ok (.invokevirtual 104, 3)) ∧ (decode cX8_house 99 = .ok (.ifCond .eq 28, 3)) ∧ (decode cX8_house 102 = .ok (.aload_n 0, 1)) ∧ (decode cX8_house 103 = .ok (.getfield 98, 3)) ∧ (decode cX8_house 106 = .ok (.iconst 1, 1)) := by decide +kernel
theorem dX8_house_85 : decode cX8_house 85 = .ok (.iconst 1, 1) := dX8_house_85_b.1
theorem dX8_house_86 : decode cX8_house 86 = .ok (.goto 4, 3) := dX8_house_85_b.2.1
theorem dX8_house_89 : decode cX8_house 89 = .ok (.iconst 0, 1) := dX8_house_85_b.2.2.1
theorem dX8_house_90 : decode cX8_house 90 = .ok (.iconst 1, 1) := dX8_house_85_b.2.2.2.1
theorem dX8_house_91 : decode cX8_house 91 = .ok (.invokevirtual 114, 3) := dX8_house_85_b.2.2.2.2.1
theorem dX8_house_94 : decode cX8_house 94 = .ok (.pop, 1) := dX8_house_85_b.2.2.2.2.2.1
theorem dX8_house_95 : decode cX8_house 95 = .ok (.aload_n 0, 1) := dX8_house_85_b.2.2.2.2.2.2.1
theorem dX8_house_96 : decode cX8_house 96 = .ok (.invokevirtual 104, 3) := dX8_house_85_b.2.2.2.2.2.2.2.1
theorem dX8_house_99 : decode cX8_house 99 = .ok (.ifCond .eq 28, 3) := dX8_house_85_b.2.2.2.2.2.2.2.2.1
theorem dX8_house_102 : decode cX8_house 102 = .ok (.aload_n 0, 1) := dX8_house_85_b.2.2.2.2.2.2.2.2.2.1
theorem dX8_house_103 : decode cX8_house 103 = .ok (.getfield 98, 3) := dX8_house_85_b.2.2.2.2.2.2.2.2.2.2.1
theorem dX8_house_106 : decode cX8_house 106 = .ok (.iconst 1, 1) := dX8_house_85_b.2.2.2.2.2.2.2.2.2.2.2
theorem dX8_house_107_b : (decode cX8_house 107 = .ok (.if_icmp .ne 20, 3)) ∧ (decode cX8_house 110 = .ok (.aload_n 0, 1)) ∧ (decode cX8_house 111 = .ok (.getfield 95, 3)) ∧ (decode cX8_house 114 = .ok (.invokestatic 121, 3)) ∧ (decode cX8_house 117 = .ok (.ifCond .le 10, 3)) ∧ (decode cX8_house 120 = .ok (.aload_n 0, 1)) ∧ (decode cX8_house 121 = .ok (.invokevirtual 127, 3)) ∧ (decode cX8_house 124 = .ok (.goto (-29), 3)) ∧ (decode cX8_house 127 = .ok (.aload_n 0, 1)) ∧ (decode cX8_house 128 = .ok (.invokevirtual 104, 3)) ∧ (decode cX8_house 131 = .ok (.ifCond .eq 27, 3)) ∧ (decode cX8_house 134 = .ok (.aload_n 0, 1)) := by decide +kernel
theorem dX8_house_107 : decode cX8_house 107 = .ok (.if_icmp .ne 20, 3) := dX8_house_107_b.1
theorem dX8_house_110 : decode cX8_house 110 = .ok (.aload_n 0, 1) := dX8_house_107_b.2.1
theorem dX8_house_111 : decode cX8_house 111 = .ok (.getfield 95, 3) := dX8_house_107_b.2.2.1
theorem dX8_house_114 : decode cX8_house 114 = .ok (.invokestatic 121, 3) := dX8_house_107_b.2.2.2.1
theorem dX8_house_117 : decode cX8_house 117 = .ok (.ifCond .le 10, 3) := dX8_house_107_b.2.2.2.2.1
theorem dX8_house_120 : decode cX8_house 120 = .ok (.aload_n 0, 1) := dX8_house_107_b.2.2.2.2.2.1
theorem dX8_house_121 : decode cX8_house 121 = .ok (.invokevirtual 127, 3) := dX8_house_107_b.2.2.2.2.2.2.1
theorem dX8_house_124 : decode cX8_house 124 = .ok (.goto (-29), 3) := dX8_house_107_b.2.2.2.2.2.2.2.1
theorem dX8_house_127 : decode cX8_house 127 = .ok (.aload_n 0, 1) := dX8_house_107_b.2.2.2.2.2.2.2.2.1
theorem dX8_house_128 : decode cX8_house 128 = .ok (.invokevirtual 104, 3) := dX8_house_107_b.2.2.2.2.2.2.2.2.2.1
theorem dX8_house_131 : decode cX8_house 131 = .ok (.ifCond .eq 27, 3) := dX8_house_107_b.2.2.2.2.2.2.2.2.2.2.1
theorem dX8_house_134 : decode cX8_house 134 = .ok (.aload_n 0, 1) := dX8_house_107_b.2.2.2.2.2.2.2.2.2.2.2
theorem dX8_house_135_b : (decode cX8_house 135 = .ok (.getfield 98, 3)) ∧ (decode cX8_house 138 = .ok (.iconst 1, 1)) ∧ (decode cX8_house 139 = .ok (.if_icmp .ne 19, 3)) ∧ (decode cX8_house 142 = .ok (.aload_n 0, 1)) ∧ (decode cX8_house 143 = .ok (.getfield 95, 3)) ∧ (decode cX8_house 146 = .ok (.bipush 120, 2)) ∧ (decode cX8_house 148 = .ok (.if_icmp .ne 10, 3)) ∧ (decode cX8_house 151 = .ok (.aload_n 0, 1)) ∧ (decode cX8_house 152 = .ok (.invokevirtual 130, 3)) ∧ (decode cX8_house 155 = .ok (.goto (-28), 3)) ∧ (decode cX8_house 158 = .ok (.aload_n 0, 1)) ∧ (decode cX8_house 159 = .ok (.invokevirtual 104, 3)) := by decide +kernel
theorem dX8_house_135 : decode cX8_house 135 = .ok (.getfield 98, 3) := dX8_house_135_b.1
theorem dX8_house_138 : decode cX8_house 138 = .ok (.iconst 1, 1) := dX8_house_135_b.2.1
theorem dX8_house_139 : decode cX8_house 139 = .ok (.if_icmp .ne 19, 3) := dX8_house_135_b.2.2.1
theorem dX8_house_142 : decode cX8_house 142 = .ok (.aload_n 0, 1) := dX8_house_135_b.2.2.2.1
theorem dX8_house_143 : decode cX8_house 143 = .ok (.getfield 95, 3) := dX8_house_135_b.2.2.2.2.1
theorem dX8_house_146 : decode cX8_house 146 = .ok (.bipush 120, 2) := dX8_house_135_b.2.2.2.2.2.1
theorem dX8_house_148 : decode cX8_house 148 = .ok (.if_icmp .ne 10, 3) := dX8_house_135_b.2.2.2.2.2.2.1
theorem dX8_house_151 : decode cX8_house 151 = .ok (.aload_n 0, 1) := dX8_house_135_b.2.2.2.2.2.2.2.1
theorem dX8_house_152 : decode cX8_house 152 = .ok (.invokevirtual 130, 3) := dX8_house_135_b.2.2.2.2.2.2.2.2.1
theorem dX8_house_155 : decode cX8_house 155 = .ok (.goto (-28), 3) := dX8_house_135_b.2.2.2.2.2.2.2.2.2.1
theorem dX8_house_158 : decode cX8_house 158 = .ok (.aload_n 0, 1) := dX8_house_135_b.2.2.2.2.2.2.2.2.2.2.1
theorem dX8_house_159 : decode cX8_house 159 = .ok (.invokevirtual 104, 3) := dX8_house_135_b.2.2.2.2.2.2.2.2.2.2.2
theorem dX8_house_162_b : (decode cX8_house 162 = .ok (.ifCond .eq 17, 3)) ∧ (decode cX8_house 165 = .ok (.aload_n 0, 1)) ∧ (decode cX8_house 166 = .ok (.getfield 98, 3)) ∧ (decode cX8_house 169 = .ok (.ifCond .eq 10, 3)) ∧ (decode cX8_house 172 = .ok (.aload_n 0, 1)) ∧ (decode cX8_house 173 = .ok (.iconst 0, 1)) ∧ (decode cX8_house 174 = .ok (.iconst 1, 1)) ∧ (decode cX8_house 175 = .ok (.invokevirtual 114, 3)) ∧ (decode cX8_house 178 = .ok (.pop, 1)) ∧ (decode cX8_house 179 = .ok (.aload_n 0, 1)) ∧ (decode cX8_house 180 = .ok (.iconst 0, 1)) ∧ (decode cX8_house 181 = .ok (.putfield 82, 3)) := by decide +kernel
theorem dX8_house_162 : decode cX8_house 162 = .ok (.ifCond .eq 17, 3) := dX8_house_162_b.1
theorem dX8_house_165 : decode cX8_house 165 = .ok (.aload_n 0, 1) := dX8_house_162_b.2.1
theorem dX8_house_166 : decode cX8_house 166 = .ok (.getfield 98, 3) := dX8_house_162_b.2.2.1
theorem dX8_house_169 : decode cX8_house 169 = .ok (.ifCond .eq 10, 3) := dX8_house_162_b.2.2.2.1
theorem dX8_house_172 : decode cX8_house 172 = .ok (.aload_n 0, 1) := dX8_house_162_b.2.2.2.2.1
theorem dX8_house_173 : decode cX8_house 173 = .ok (.iconst 0, 1) := dX8_house_162_b.2.2.2.2.2.1
theorem dX8_house_174 : decode cX8_house 174 = .ok (.iconst 1, 1) := dX8_house_162_b.2.2.2.2.2.2.1
theorem dX8_house_175 : decode cX8_house 175 = .ok (.invokevirtual 114, 3) := dX8_house_162_b.2.2.2.2.2.2.2.1
theorem dX8_house_178 : decode cX8_house 178 = .ok (.pop, 1) := dX8_house_162_b.2.2.2.2.2.2.2.2.1
theorem dX8_house_179 : decode cX8_house 179 = .ok (.aload_n 0, 1) := dX8_house_162_b.2.2.2.2.2.2.2.2.2.1
theorem dX8_house_180 : decode cX8_house 180 = .ok (.iconst 0, 1) := dX8_house_162_b.2.2.2.2.2.2.2.2.2.2.1
theorem dX8_house_181 : decode cX8_house 181 = .ok (.putfield 82, 3) := dX8_house_162_b.2.2.2.2.2.2.2.2.2.2.2
theorem dX8_house_184_b : (decode cX8_house 184 = .ok (.aload_n 0, 1)) ∧ (decode cX8_house 185 = .ok (.invokevirtual 104, 3)) ∧ (decode cX8_house 188 = .ok (.ifCond .ne 11, 3)) ∧ (decode cX8_house 191 = .ok (.ldc 133, 2)) ∧ (decode cX8_house 193 = .ok (.aload_n 0, 1)) ∧ (decode cX8_house 194 = .ok (.getfield 101, 3)) ∧ (decode cX8_house 197 = .ok (.isub, 1)) ∧ (decode cX8_house 198 = .ok (.ireturn, 1)) ∧ (decode cX8_house 199 = .ok (.aload_n 0, 1)) ∧ (decode cX8_house 200 = .ok (.getfield 28, 3)) ∧ (decode cX8_house 203 = .ok (.iconst 0, 1)) ∧ (decode cX8_house 204 = .ok (.iconst 1, 1)) := by decide +kernel
theorem dX8_house_184 : decode cX8_house 184 = .ok (.aload_n 0, 1) := dX8_house_184_b.1
theorem dX8_house_185 : decode cX8_house 185 = .ok (.invokevirtual 104, 3) := dX8_house_184_b.2.1
theorem dX8_house_188 : decode cX8_house 188 = .ok (.ifCond .ne 11, 3) := dX8_house_184_b.2.2.1
theorem dX8_house_191 : decode cX8_house 191 = .ok (.ldc 133, 2) := dX8_house_184_b.2.2.2.1
theorem dX8_house_193 : decode cX8_house 193 = .ok (.aload_n 0, 1) := dX8_house_184_b.2.2.2.2.1
theorem dX8_house_194 : decode cX8_house 194 = .ok (.getfield 101, 3) := dX8_house_184_b.2.2.2.2.2.1
theorem dX8_house_197 : decode cX8_house 197 = .ok (.isub, 1) := dX8_house_184_b.2.2.2.2.2.2.1
theorem dX8_house_198 : decode cX8_house 198 = .ok (.ireturn, 1) := dX8_house_184_b.2.2.2.2.2.2.2.1
theorem dX8_house_199 : decode cX8_house 199 = .ok (.aload_n 0, 1) := dX8_house_184_b.2.2.2.2.2.2.2.2.1
theorem dX8_house_200 : decode cX8_house 200 = .ok (.getfield 28, 3) := dX8_house_184_b.2.2.2.2.2.2.2.2.2.1
theorem dX8_house_203 : decode cX8_house 203 = .ok (.iconst 0, 1) := dX8_house_184_b.2.2.2.2.2.2.2.2.2.2.1
theorem dX8_house_204 : decode cX8_house 204 = .ok (.iconst 1, 1) := dX8_house_184_b.2.2.2.2.2.2.2.2.2.2.2
theorem dX8_house_205_b : (decode cX8_house 205 = .ok (.iastore, 1)) ∧ (decode cX8_house 206 = .ok (.aload_n 0, 1)) ∧ (decode cX8_house 207 = .ok (.getfield 28, 3)) ∧ (decode cX8_house 210 = .ok (.iconst 0, 1)) ∧ (decode cX8_house 211 = .ok (.aload_n 0, 1)) ∧ (decode cX8_house 212 = .ok (.getfield 25, 3)) ∧ (decode cX8_house 215 = .ok (.iconst 0, 1)) ∧ (decode cX8_house 216 = .ok (.invokestatic 134, 3)) ∧ (decode cX8_house 219 = .ok (.aload_n 0, 1)) ∧ (decode cX8_house 220 = .ok (.iconst 0, 1)) ∧ (decode cX8_house 221 = .ok (.putfield 138, 3)) ∧ (decode cX8_house 224 = .ok (.aload_n 0, 1)) := by decide +kernel
theorem dX8_house_205 : decode cX8_house 205 = .ok (.iastore, 1) := dX8_house_205_b.1
theorem dX8_house_206 : decode cX8_house 206 = .ok (.aload_n 0, 1) := dX8_house_205_b.2.1
theorem dX8_house_207 : decode cX8_house 207 = .ok (.getfield 28, 3) := dX8_house_205_b.2.2.1
theorem dX8_house_210 : decode cX8_house 210 = .ok (.iconst 0, 1) := dX8_house_205_b.2.2.2.1
theorem dX8_house_211 : decode cX8_house 211 = .ok (.aload_n 0, 1) := dX8_house_205_b.2.2.2.2.1
theorem dX8_house_212 : decode cX8_house 212 = .ok (.getfield 25, 3) := dX8_house_205_b.2.2.2.2.2.1
theorem dX8_house_215 : decode cX8_house 215 = .ok (.iconst 0, 1) := dX8_house_205_b.2.2.2.2.2.2.1
theorem dX8_house_216 : decode cX8_house 216 = .ok (.invokestatic 134, 3) := dX8_house_205_b.2.2.2.2.2.2.2.1
theorem dX8_house_219 : decode cX8_house 219 = .ok (.aload_n 0, 1) := dX8_house_205_b.2.2.2.2.2.2.2.2.1
theorem dX8_house_220 : decode cX8_house 220 = .ok (.iconst 0, 1) := dX8_house_205_b.2.2.2.2.2.2.2.2.2.1
theorem dX8_house_221 : decode cX8_house 221 = .ok (.putfield 138, 3) := dX8_house_205_b.2.2.2.2.2.2.2.2.2.2.1
theorem dX8_house_224 : decode cX8_house 224 = .ok (.aload_n 0, 1) := dX8_house_205_b.2.2.2.2.2.2.2.2.2.2.2
theorem dX8_house_225_b : (decode cX8_house 225 = .ok (.getfield 25, 3)) ∧ (decode cX8_house 228 = .ok (.iconst 4, 1)) ∧ (decode cX8_house 229 = .ok (.iaload, 1)) ∧ (decode cX8_house 230 = .ok (.ireturn, 1)) := by decide +kernel
theorem dX8_house_225 : decode cX8_house 225 = .ok (.getfield 25, 3) := dX8_house_225_b.1
theorem dX8_house_228 : decode cX8_house 228 = .ok (.iconst 4, 1) := dX8_house_225_b.2.1
theorem dX8_house_229 : decode cX8_house 229 = .ok (.iaload, 1) := dX8_house_225_b.2.2.1
theorem dX8_house_230 : decode cX8_house 230 = .ok (.ireturn, 1) := dX8_house_225_b.2.2.2
theorem dX8_fault_0_b : (decode cX8_fault 0 = .ok (.aload_n 0, 1)) ∧ (decode cX8_fault 1 = .ok (.getfield 108, 3)) ∧ (decode cX8_fault 4 = .ok (.ireturn, 1)) := by decide +kernel
theorem dX8_fault_0 : decode cX8_fault 0 = .ok (.aload_n 0, 1) := dX8_fault_0_b.1
theorem dX8_fault_1 : decode cX8_fault 1 = .ok (.getfield 108, 3) := dX8_fault_0_b.2.1
theorem dX8_fault_4 : decode cX8_fault 4 = .ok (.ireturn, 1) := dX8_fault_0_b.2.2
theorem dX8_isHouse_0_b : (decode cX8_isHouse 0 = .ok (.aload_n 0, 1)) ∧ (decode cX8_isHouse 1 = .ok (.getfield 25, 3)) ∧ (decode cX8_isHouse 4 = .ok (.iconst 0, 1)) ∧ (decode cX8_isHouse 5 = .ok (.iaload, 1)) ∧ (decode cX8_isHouse 6 = .ok (.iconst 1, 1)) ∧ (decode cX8_isHouse 7 = .ok (.if_icmp .ne 7, 3)) ∧ (decode cX8_isHouse 10 = .ok (.iconst 1, 1)) ∧ (decode cX8_isHouse 11 = .ok (.goto 4, 3)) ∧ (decode cX8_isHouse 14 = .ok (.iconst 0, 1)) ∧ (decode cX8_isHouse 15 = .ok (.ireturn, 1)) := by decide +kernel
theorem dX8_isHouse_0 : decode cX8_isHouse 0 = .ok (.aload_n 0, 1) := dX8_isHouse_0_b.1
theorem dX8_isHouse_1 : decode cX8_isHouse 1 = .ok (.getfield 25, 3) := dX8_isHouse_0_b.2.1
theorem dX8_isHouse_4 : decode cX8_isHouse 4 = .ok (.iconst 0, 1) := dX8_isHouse_0_b.2.2.1
theorem dX8_isHouse_5 : decode cX8_isHouse 5 = .ok (.iaload, 1) := dX8_isHouse_0_b.2.2.2.1
theorem dX8_isHouse_6 : decode cX8_isHouse 6 = .ok (.iconst 1, 1) := dX8_isHouse_0_b.2.2.2.2.1
theorem dX8_isHouse_7 : decode cX8_isHouse 7 = .ok (.if_icmp .ne 7, 3) := dX8_isHouse_0_b.2.2.2.2.2.1
theorem dX8_isHouse_10 : decode cX8_isHouse 10 = .ok (.iconst 1, 1) := dX8_isHouse_0_b.2.2.2.2.2.2.1
theorem dX8_isHouse_11 : decode cX8_isHouse 11 = .ok (.goto 4, 3) := dX8_isHouse_0_b.2.2.2.2.2.2.2.1
theorem dX8_isHouse_14 : decode cX8_isHouse 14 = .ok (.iconst 0, 1) := dX8_isHouse_0_b.2.2.2.2.2.2.2.2.1
theorem dX8_isHouse_15 : decode cX8_isHouse 15 = .ok (.ireturn, 1) := dX8_isHouse_0_b.2.2.2.2.2.2.2.2.2
theorem dX8_isEar_0_b : (decode cX8_isEar 0 = .ok (.iload_n 1, 1)) ∧ (decode cX8_isEar 1 = .ok (.iconst 0, 1)) ∧ (decode cX8_isEar 2 = .ok (.aload_n 0, 1)) ∧ (decode cX8_isEar 3 = .ok (.getfield 25, 3)) ∧ (decode cX8_isEar 6 = .ok (.iconst 4, 1)) ∧ (decode cX8_isEar 7 = .ok (.iaload, 1)) ∧ (decode cX8_isEar 8 = .ok (.iconst 1, 1)) ∧ (decode cX8_isEar 9 = .ok (.isub, 1)) ∧ (decode cX8_isEar 10 = .ok (.invokestatic 56, 3)) ∧ (decode cX8_isEar 13 = .ok (.ireturn, 1)) := by decide +kernel
theorem dX8_isEar_0 : decode cX8_isEar 0 = .ok (.iload_n 1, 1) := dX8_isEar_0_b.1
theorem dX8_isEar_1 : decode cX8_isEar 1 = .ok (.iconst 0, 1) := dX8_isEar_0_b.2.1
theorem dX8_isEar_2 : decode cX8_isEar 2 = .ok (.aload_n 0, 1) := dX8_isEar_0_b.2.2.1
theorem dX8_isEar_3 : decode cX8_isEar 3 = .ok (.getfield 25, 3) := dX8_isEar_0_b.2.2.2.1
theorem dX8_isEar_6 : decode cX8_isEar 6 = .ok (.iconst 4, 1) := dX8_isEar_0_b.2.2.2.2.1
theorem dX8_isEar_7 : decode cX8_isEar 7 = .ok (.iaload, 1) := dX8_isEar_0_b.2.2.2.2.2.1
theorem dX8_isEar_8 : decode cX8_isEar 8 = .ok (.iconst 1, 1) := dX8_isEar_0_b.2.2.2.2.2.2.1
theorem dX8_isEar_9 : decode cX8_isEar 9 = .ok (.isub, 1) := dX8_isEar_0_b.2.2.2.2.2.2.2.1
theorem dX8_isEar_10 : decode cX8_isEar 10 = .ok (.invokestatic 56, 3) := dX8_isEar_0_b.2.2.2.2.2.2.2.2.1
theorem dX8_isEar_13 : decode cX8_isEar 13 = .ok (.ireturn, 1) := dX8_isEar_0_b.2.2.2.2.2.2.2.2.2
theorem dX8_isDoing_0_b : (decode cX8_isDoing 0 = .ok (.iload_n 1, 1)) ∧ (decode cX8_isDoing 1 = .ok (.iconst 0, 1)) ∧ (decode cX8_isDoing 2 = .ok (.aload_n 0, 1)) ∧ (decode cX8_isDoing 3 = .ok (.getfield 25, 3)) ∧ (decode cX8_isDoing 6 = .ok (.iconst 5, 1)) ∧ (decode cX8_isDoing 7 = .ok (.iaload, 1)) ∧ (decode cX8_isDoing 8 = .ok (.iconst 1, 1)) ∧ (decode cX8_isDoing 9 = .ok (.isub, 1)) ∧ (decode cX8_isDoing 10 = .ok (.invokestatic 56, 3)) ∧ (decode cX8_isDoing 13 = .ok (.ireturn, 1)) := by decide +kernel
theorem dX8_isDoing_0 : decode cX8_isDoing 0 = .ok (.iload_n 1, 1) := dX8_isDoing_0_b.1
theorem dX8_isDoing_1 : decode cX8_isDoing 1 = .ok (.iconst 0, 1) := dX8_isDoing_0_b.2.1
theorem dX8_isDoing_2 : decode cX8_isDoing 2 = .ok (.aload_n 0, 1) := dX8_isDoing_0_b.2.2.1
theorem dX8_isDoing_3 : decode cX8_isDoing 3 = .ok (.getfield 25, 3) := dX8_isDoing_0_b.2.2.2.1
theorem dX8_isDoing_6 : decode cX8_isDoing 6 = .ok (.iconst 5, 1) := dX8_isDoing_0_b.2.2.2.2.1
theorem dX8_isDoing_7 : decode cX8_isDoing 7 = .ok (.iaload, 1) := dX8_isDoing_0_b.2.2.2.2.2.1
theorem dX8_isDoing_8 : decode cX8_isDoing 8 = .ok (.iconst 1, 1) := dX8_isDoing_0_b.2.2.2.2.2.2.1
theorem dX8_isDoing_9 : decode cX8_isDoing 9 = .ok (.isub, 1) := dX8_isDoing_0_b.2.2.2.2.2.2.2.1
theorem dX8_isDoing_10 : decode cX8_isDoing 10 = .ok (.invokestatic 56, 3) := dX8_isDoing_0_b.2.2.2.2.2.2.2.2.1
theorem dX8_isDoing_13 : decode cX8_isDoing 13 = .ok (.ireturn, 1) := dX8_isDoing_0_b.2.2.2.2.2.2.2.2.2
theorem dX8_listens_0_b : (decode cX8_listens 0 = .ok (.bipush 6, 2)) ∧ (decode cX8_listens 2 = .ok (.bipush 7, 2)) ∧ (decode cX8_listens 4 = .ok (.iload_n 1, 1)) ∧ (decode cX8_listens 5 = .ok (.imul, 1)) ∧ (decode cX8_listens 6 = .ok (.iadd, 1)) ∧ (decode cX8_listens 7 = .ok (.istore_n 2, 1)) ∧ (decode cX8_listens 8 = .ok (.aload_n 0, 1)) ∧ (decode cX8_listens 9 = .ok (.iload_n 2, 1)) ∧ (decode cX8_listens 10 = .ok (.iconst 2, 1)) ∧ (decode cX8_listens 11 = .ok (.iadd, 1)) ∧ (decode cX8_listens 12 = .ok (.iaload, 1)) ∧ (decode cX8_listens 13 = .ok (.ifCond .ne 38, 3)) := by decide +kernel
theorem dX8_listens_0 : decode cX8_listens 0 = .ok (.bipush 6, 2) := dX8_listens_0_b.1
theorem dX8_listens_2 : decode cX8_listens 2 = .ok (.bipush 7, 2) := dX8_listens_0_b.2.1
theorem dX8_listens_4 : decode cX8_listens 4 = .ok (.iload_n 1, 1) := dX8_listens_0_b.2.2.1
theorem dX8_listens_5 : decode cX8_listens 5 = .ok (.imul, 1) := dX8_listens_0_b.2.2.2.1
theorem dX8_listens_6 : decode cX8_listens 6 = .ok (.iadd, 1) := dX8_listens_0_b.2.2.2.2.1
theorem dX8_listens_7 : decode cX8_listens 7 = .ok (.istore_n 2, 1) := dX8_listens_0_b.2.2.2.2.2.1
theorem dX8_listens_8 : decode cX8_listens 8 = .ok (.aload_n 0, 1) := dX8_listens_0_b.2.2.2.2.2.2.1
theorem dX8_listens_9 : decode cX8_listens 9 = .ok (.iload_n 2, 1) := dX8_listens_0_b.2.2.2.2.2.2.2.1
theorem dX8_listens_10 : decode cX8_listens 10 = .ok (.iconst 2, 1) := dX8_listens_0_b.2.2.2.2.2.2.2.2.1
theorem dX8_listens_11 : decode cX8_listens 11 = .ok (.iadd, 1) := dX8_listens_0_b.2.2.2.2.2.2.2.2.2.1
theorem dX8_listens_12 : decode cX8_listens 12 = .ok (.iaload, 1) := dX8_listens_0_b.2.2.2.2.2.2.2.2.2.2.1
theorem dX8_listens_13 : decode cX8_listens 13 = .ok (.ifCond .ne 38, 3) := dX8_listens_0_b.2.2.2.2.2.2.2.2.2.2.2
theorem dX8_listens_16_b : (decode cX8_listens 16 = .ok (.aload_n 0, 1)) ∧ (decode cX8_listens 17 = .ok (.iload_n 2, 1)) ∧ (decode cX8_listens 18 = .ok (.iconst 5, 1)) ∧ (decode cX8_listens 19 = .ok (.iadd, 1)) ∧ (decode cX8_listens 20 = .ok (.iaload, 1)) ∧ (decode cX8_listens 21 = .ok (.ifCond .ne 30, 3)) ∧ (decode cX8_listens 24 = .ok (.aload_n 0, 1)) ∧ (decode cX8_listens 25 = .ok (.iconst 2, 1)) ∧ (decode cX8_listens 26 = .ok (.iaload, 1)) ∧ (decode cX8_listens 27 = .ok (.bipush 8, 2)) ∧ (decode cX8_listens 29 = .ok (.iadd, 1)) ∧ (decode cX8_listens 30 = .ok (.aload_n 0, 1)) := by decide +kernel
theorem dX8_listens_16 : decode cX8_listens 16 = .ok (.aload_n 0, 1) := dX8_listens_16_b.1
theorem dX8_listens_17 : decode cX8_listens 17 = .ok (.iload_n 2, 1) := dX8_listens_16_b.2.1
theorem dX8_listens_18 : decode cX8_listens 18 = .ok (.iconst 5, 1) := dX8_listens_16_b.2.2.1
theorem dX8_listens_19 : decode cX8_listens 19 = .ok (.iadd, 1) := dX8_listens_16_b.2.2.2.1
theorem dX8_listens_20 : decode cX8_listens 20 = .ok (.iaload, 1) := dX8_listens_16_b.2.2.2.2.1
theorem dX8_listens_21 : decode cX8_listens 21 = .ok (.ifCond .ne 30, 3) := dX8_listens_16_b.2.2.2.2.2.1
theorem dX8_listens_24 : decode cX8_listens 24 = .ok (.aload_n 0, 1) := dX8_listens_16_b.2.2.2.2.2.2.1
theorem dX8_listens_25 : decode cX8_listens 25 = .ok (.iconst 2, 1) := dX8_listens_16_b.2.2.2.2.2.2.2.1
theorem dX8_listens_26 : decode cX8_listens 26 = .ok (.iaload, 1) := dX8_listens_16_b.2.2.2.2.2.2.2.2.1
theorem dX8_listens_27 : decode cX8_listens 27 = .ok (.bipush 8, 2) := dX8_listens_16_b.2.2.2.2.2.2.2.2.2.1
theorem dX8_listens_29 : decode cX8_listens 29 = .ok (.iadd, 1) := dX8_listens_16_b.2.2.2.2.2.2.2.2.2.2.1
theorem dX8_listens_30 : decode cX8_listens 30 = .ok (.aload_n 0, 1) := dX8_listens_16_b.2.2.2.2.2.2.2.2.2.2.2
theorem dX8_listens_31_b : (decode cX8_listens 31 = .ok (.iload_n 2, 1)) ∧ (decode cX8_listens 32 = .ok (.iconst 3, 1)) ∧ (decode cX8_listens 33 = .ok (.iadd, 1)) ∧ (decode cX8_listens 34 = .ok (.iaload, 1)) ∧ (decode cX8_listens 35 = .ok (.isub, 1)) ∧ (decode cX8_listens 36 = .ok (.bipush 8, 2)) ∧ (decode cX8_listens 38 = .ok (.irem, 1)) ∧ (decode cX8_listens 39 = .ok (.aload_n 0, 1)) ∧ (decode cX8_listens 40 = .ok (.iload_n 2, 1)) ∧ (decode cX8_listens 41 = .ok (.iconst 4, 1)) ∧ (decode cX8_listens 42 = .ok (.iadd, 1)) ∧ (decode cX8_listens 43 = .ok (.iaload, 1)) := by decide +kernel
theorem dX8_listens_31 : decode cX8_listens 31 = .ok (.iload_n 2, 1) := dX8_listens_31_b.1
theorem dX8_listens_32 : decode cX8_listens 32 = .ok (.iconst 3, 1) := dX8_listens_31_b.2.1
theorem dX8_listens_33 : decode cX8_listens 33 = .ok (.iadd, 1) := dX8_listens_31_b.2.2.1
theorem dX8_listens_34 : decode cX8_listens 34 = .ok (.iaload, 1) := dX8_listens_31_b.2.2.2.1
theorem dX8_listens_35 : decode cX8_listens 35 = .ok (.isub, 1) := dX8_listens_31_b.2.2.2.2.1
theorem dX8_listens_36 : decode cX8_listens 36 = .ok (.bipush 8, 2) := dX8_listens_31_b.2.2.2.2.2.1
theorem dX8_listens_38 : decode cX8_listens 38 = .ok (.irem, 1) := dX8_listens_31_b.2.2.2.2.2.2.1
theorem dX8_listens_39 : decode cX8_listens 39 = .ok (.aload_n 0, 1) := dX8_listens_31_b.2.2.2.2.2.2.2.1
theorem dX8_listens_40 : decode cX8_listens 40 = .ok (.iload_n 2, 1) := dX8_listens_31_b.2.2.2.2.2.2.2.2.1
theorem dX8_listens_41 : decode cX8_listens 41 = .ok (.iconst 4, 1) := dX8_listens_31_b.2.2.2.2.2.2.2.2.2.1
theorem dX8_listens_42 : decode cX8_listens 42 = .ok (.iadd, 1) := dX8_listens_31_b.2.2.2.2.2.2.2.2.2.2.1
theorem dX8_listens_43 : decode cX8_listens 43 = .ok (.iaload, 1) := dX8_listens_31_b.2.2.2.2.2.2.2.2.2.2.2
theorem dX8_listens_44_b : (decode cX8_listens 44 = .ok (.if_icmp .ge 7, 3)) ∧ (decode cX8_listens 47 = .ok (.iconst 1, 1)) ∧ (decode cX8_listens 48 = .ok (.goto 4, 3)) ∧ (decode cX8_listens 51 = .ok (.iconst 0, 1)) ∧ (decode cX8_listens 52 = .ok (.ireturn, 1)) := by decide +kernel
theorem dX8_listens_44 : decode cX8_listens 44 = .ok (.if_icmp .ge 7, 3) := dX8_listens_44_b.1
theorem dX8_listens_47 : decode cX8_listens 47 = .ok (.iconst 1, 1) := dX8_listens_44_b.2.1
theorem dX8_listens_48 : decode cX8_listens 48 = .ok (.goto 4, 3) := dX8_listens_44_b.2.2.1
theorem dX8_listens_51 : decode cX8_listens 51 = .ok (.iconst 0, 1) := dX8_listens_44_b.2.2.2.1
theorem dX8_listens_52 : decode cX8_listens 52 = .ok (.ireturn, 1) := dX8_listens_44_b.2.2.2.2
theorem dX8_listening_0_b : (decode cX8_listening 0 = .ok (.iconst 0, 1)) ∧ (decode cX8_listening 1 = .ok (.istore_n 1, 1)) ∧ (decode cX8_listening 2 = .ok (.iconst 0, 1)) ∧ (decode cX8_listening 3 = .ok (.istore_n 2, 1)) ∧ (decode cX8_listening 4 = .ok (.iload_n 2, 1)) ∧ (decode cX8_listening 5 = .ok (.aload_n 0, 1)) ∧ (decode cX8_listening 6 = .ok (.iconst 4, 1)) ∧ (decode cX8_listening 7 = .ok (.iaload, 1)) ∧ (decode cX8_listening 8 = .ok (.if_icmp .ge 27, 3)) ∧ (decode cX8_listening 11 = .ok (.iload_n 1, 1)) ∧ (decode cX8_listening 12 = .ok (.aload_n 0, 1)) ∧ (decode cX8_listening 13 = .ok (.iload_n 2, 1)) := by decide +kernel
theorem dX8_listening_0 : decode cX8_listening 0 = .ok (.iconst 0, 1) := dX8_listening_0_b.1
theorem dX8_listening_1 : decode cX8_listening 1 = .ok (.istore_n 1, 1) := dX8_listening_0_b.2.1
theorem dX8_listening_2 : decode cX8_listening 2 = .ok (.iconst 0, 1) := dX8_listening_0_b.2.2.1
theorem dX8_listening_3 : decode cX8_listening 3 = .ok (.istore_n 2, 1) := dX8_listening_0_b.2.2.2.1
theorem dX8_listening_4 : decode cX8_listening 4 = .ok (.iload_n 2, 1) := dX8_listening_0_b.2.2.2.2.1
theorem dX8_listening_5 : decode cX8_listening 5 = .ok (.aload_n 0, 1) := dX8_listening_0_b.2.2.2.2.2.1
theorem dX8_listening_6 : decode cX8_listening 6 = .ok (.iconst 4, 1) := dX8_listening_0_b.2.2.2.2.2.2.1
theorem dX8_listening_7 : decode cX8_listening 7 = .ok (.iaload, 1) := dX8_listening_0_b.2.2.2.2.2.2.2.1
theorem dX8_listening_8 : decode cX8_listening 8 = .ok (.if_icmp .ge 27, 3) := dX8_listening_0_b.2.2.2.2.2.2.2.2.1
theorem dX8_listening_11 : decode cX8_listening 11 = .ok (.iload_n 1, 1) := dX8_listening_0_b.2.2.2.2.2.2.2.2.2.1
theorem dX8_listening_12 : decode cX8_listening 12 = .ok (.aload_n 0, 1) := dX8_listening_0_b.2.2.2.2.2.2.2.2.2.2.1
theorem dX8_listening_13 : decode cX8_listening 13 = .ok (.iload_n 2, 1) := dX8_listening_0_b.2.2.2.2.2.2.2.2.2.2.2
theorem dX8_listening_14_b : (decode cX8_listening 14 = .ok (.invokestatic 141, 3)) ∧ (decode cX8_listening 17 = .ok (.ifCond .eq 9, 3)) ∧ (decode cX8_listening 20 = .ok (.iconst 1, 1)) ∧ (decode cX8_listening 21 = .ok (.iload_n 2, 1)) ∧ (decode cX8_listening 22 = .ok (.ishl, 1)) ∧ (decode cX8_listening 23 = .ok (.goto 4, 3)) ∧ (decode cX8_listening 26 = .ok (.iconst 0, 1)) ∧ (decode cX8_listening 27 = .ok (.ior, 1)) ∧ (decode cX8_listening 28 = .ok (.istore_n 1, 1)) ∧ (decode cX8_listening 29 = .ok (.iinc 2 1, 3)) ∧ (decode cX8_listening 32 = .ok (.goto (-28), 3)) ∧ (decode cX8_listening 35 = .ok (.iload_n 1, 1)) := by decide +kernel
theorem dX8_listening_14 : decode cX8_listening 14 = .ok (.invokestatic 141, 3) := dX8_listening_14_b.1
theorem dX8_listening_17 : decode cX8_listening 17 = .ok (.ifCond .eq 9, 3) := dX8_listening_14_b.2.1
theorem dX8_listening_20 : decode cX8_listening 20 = .ok (.iconst 1, 1) := dX8_listening_14_b.2.2.1
theorem dX8_listening_21 : decode cX8_listening 21 = .ok (.iload_n 2, 1) := dX8_listening_14_b.2.2.2.1
theorem dX8_listening_22 : decode cX8_listening 22 = .ok (.ishl, 1) := dX8_listening_14_b.2.2.2.2.1
theorem dX8_listening_23 : decode cX8_listening 23 = .ok (.goto 4, 3) := dX8_listening_14_b.2.2.2.2.2.1
theorem dX8_listening_26 : decode cX8_listening 26 = .ok (.iconst 0, 1) := dX8_listening_14_b.2.2.2.2.2.2.1
theorem dX8_listening_27 : decode cX8_listening 27 = .ok (.ior, 1) := dX8_listening_14_b.2.2.2.2.2.2.2.1
theorem dX8_listening_28 : decode cX8_listening 28 = .ok (.istore_n 1, 1) := dX8_listening_14_b.2.2.2.2.2.2.2.2.1
theorem dX8_listening_29 : decode cX8_listening 29 = .ok (.iinc 2 1, 3) := dX8_listening_14_b.2.2.2.2.2.2.2.2.2.1
theorem dX8_listening_32 : decode cX8_listening 32 = .ok (.goto (-28), 3) := dX8_listening_14_b.2.2.2.2.2.2.2.2.2.2.1
theorem dX8_listening_35 : decode cX8_listening 35 = .ok (.iload_n 1, 1) := dX8_listening_14_b.2.2.2.2.2.2.2.2.2.2.2
theorem dX8_listening_36 : decode cX8_listening 36 = .ok (.ireturn, 1) := by decide +kernel
theorem dX8_heedOf_0_b : (decode cX8_heedOf 0 = .ok (.bipush 6, 2)) ∧ (decode cX8_heedOf 2 = .ok (.bipush 7, 2)) ∧ (decode cX8_heedOf 4 = .ok (.iload_n 1, 1)) ∧ (decode cX8_heedOf 5 = .ok (.imul, 1)) ∧ (decode cX8_heedOf 6 = .ok (.iadd, 1)) ∧ (decode cX8_heedOf 7 = .ok (.istore_n 2, 1)) ∧ (decode cX8_heedOf 8 = .ok (.aload_n 0, 1)) ∧ (decode cX8_heedOf 9 = .ok (.iload_n 2, 1)) ∧ (decode cX8_heedOf 10 = .ok (.iconst 1, 1)) ∧ (decode cX8_heedOf 11 = .ok (.iadd, 1)) ∧ (decode cX8_heedOf 12 = .ok (.iaload, 1)) ∧ (decode cX8_heedOf 13 = .ok (.aload_n 0, 1)) := by decide +kernel
theorem dX8_heedOf_0 : decode cX8_heedOf 0 = .ok (.bipush 6, 2) := dX8_heedOf_0_b.1
theorem dX8_heedOf_2 : decode cX8_heedOf 2 = .ok (.bipush 7, 2) := dX8_heedOf_0_b.2.1
theorem dX8_heedOf_4 : decode cX8_heedOf 4 = .ok (.iload_n 1, 1) := dX8_heedOf_0_b.2.2.1
theorem dX8_heedOf_5 : decode cX8_heedOf 5 = .ok (.imul, 1) := dX8_heedOf_0_b.2.2.2.1
theorem dX8_heedOf_6 : decode cX8_heedOf 6 = .ok (.iadd, 1) := dX8_heedOf_0_b.2.2.2.2.1
theorem dX8_heedOf_7 : decode cX8_heedOf 7 = .ok (.istore_n 2, 1) := dX8_heedOf_0_b.2.2.2.2.2.1
theorem dX8_heedOf_8 : decode cX8_heedOf 8 = .ok (.aload_n 0, 1) := dX8_heedOf_0_b.2.2.2.2.2.2.1
theorem dX8_heedOf_9 : decode cX8_heedOf 9 = .ok (.iload_n 2, 1) := dX8_heedOf_0_b.2.2.2.2.2.2.2.1
theorem dX8_heedOf_10 : decode cX8_heedOf 10 = .ok (.iconst 1, 1) := dX8_heedOf_0_b.2.2.2.2.2.2.2.2.1
theorem dX8_heedOf_11 : decode cX8_heedOf 11 = .ok (.iadd, 1) := dX8_heedOf_0_b.2.2.2.2.2.2.2.2.2.1
theorem dX8_heedOf_12 : decode cX8_heedOf 12 = .ok (.iaload, 1) := dX8_heedOf_0_b.2.2.2.2.2.2.2.2.2.2.1
theorem dX8_heedOf_13 : decode cX8_heedOf 13 = .ok (.aload_n 0, 1) := dX8_heedOf_0_b.2.2.2.2.2.2.2.2.2.2.2
theorem dX8_heedOf_14_b : (decode cX8_heedOf 14 = .ok (.iconst 1, 1)) ∧ (decode cX8_heedOf 15 = .ok (.iaload, 1)) ∧ (decode cX8_heedOf 16 = .ok (.if_icmp .le 15, 3)) ∧ (decode cX8_heedOf 19 = .ok (.aload_n 0, 1)) ∧ (decode cX8_heedOf 20 = .ok (.iload_n 2, 1)) ∧ (decode cX8_heedOf 21 = .ok (.iconst 1, 1)) ∧ (decode cX8_heedOf 22 = .ok (.iadd, 1)) ∧ (decode cX8_heedOf 23 = .ok (.iaload, 1)) ∧ (decode cX8_heedOf 24 = .ok (.aload_n 0, 1)) ∧ (decode cX8_heedOf 25 = .ok (.iconst 1, 1)) ∧ (decode cX8_heedOf 26 = .ok (.iaload, 1)) ∧ (decode cX8_heedOf 27 = .ok (.isub, 1)) := by decide +kernel
theorem dX8_heedOf_14 : decode cX8_heedOf 14 = .ok (.iconst 1, 1) := dX8_heedOf_14_b.1
theorem dX8_heedOf_15 : decode cX8_heedOf 15 = .ok (.iaload, 1) := dX8_heedOf_14_b.2.1
theorem dX8_heedOf_16 : decode cX8_heedOf 16 = .ok (.if_icmp .le 15, 3) := dX8_heedOf_14_b.2.2.1
theorem dX8_heedOf_19 : decode cX8_heedOf 19 = .ok (.aload_n 0, 1) := dX8_heedOf_14_b.2.2.2.1
theorem dX8_heedOf_20 : decode cX8_heedOf 20 = .ok (.iload_n 2, 1) := dX8_heedOf_14_b.2.2.2.2.1
theorem dX8_heedOf_21 : decode cX8_heedOf 21 = .ok (.iconst 1, 1) := dX8_heedOf_14_b.2.2.2.2.2.1
theorem dX8_heedOf_22 : decode cX8_heedOf 22 = .ok (.iadd, 1) := dX8_heedOf_14_b.2.2.2.2.2.2.1
theorem dX8_heedOf_23 : decode cX8_heedOf 23 = .ok (.iaload, 1) := dX8_heedOf_14_b.2.2.2.2.2.2.2.1
theorem dX8_heedOf_24 : decode cX8_heedOf 24 = .ok (.aload_n 0, 1) := dX8_heedOf_14_b.2.2.2.2.2.2.2.2.1
theorem dX8_heedOf_25 : decode cX8_heedOf 25 = .ok (.iconst 1, 1) := dX8_heedOf_14_b.2.2.2.2.2.2.2.2.2.1
theorem dX8_heedOf_26 : decode cX8_heedOf 26 = .ok (.iaload, 1) := dX8_heedOf_14_b.2.2.2.2.2.2.2.2.2.2.1
theorem dX8_heedOf_27 : decode cX8_heedOf 27 = .ok (.isub, 1) := dX8_heedOf_14_b.2.2.2.2.2.2.2.2.2.2.2
theorem dX8_heedOf_28_b : (decode cX8_heedOf 28 = .ok (.goto 4, 3)) ∧ (decode cX8_heedOf 31 = .ok (.iconst 0, 1)) ∧ (decode cX8_heedOf 32 = .ok (.istore_n 3, 1)) ∧ (decode cX8_heedOf 33 = .ok (.aload_n 0, 1)) ∧ (decode cX8_heedOf 34 = .ok (.iload_n 2, 1)) ∧ (decode cX8_heedOf 35 = .ok (.iaload, 1)) ∧ (decode cX8_heedOf 36 = .ok (.tableswitch 49 3 5 #[28, 32, 47], 28)) ∧ (decode cX8_heedOf 64 = .ok (.iload_n 3, 1)) ∧ (decode cX8_heedOf 65 = .ok (.iconst 2, 1)) ∧ (decode cX8_heedOf 66 = .ok (.idiv, 1)) ∧ (decode cX8_heedOf 67 = .ok (.ireturn, 1)) ∧ (decode cX8_heedOf 68 = .ok (.iload_n 3, 1)) := by decide +kernel
theorem dX8_heedOf_28 : decode cX8_heedOf 28 = .ok (.goto 4, 3) := dX8_heedOf_28_b.1
theorem dX8_heedOf_31 : decode cX8_heedOf 31 = .ok (.iconst 0, 1) := dX8_heedOf_28_b.2.1
theorem dX8_heedOf_32 : decode cX8_heedOf 32 = .ok (.istore_n 3, 1) := dX8_heedOf_28_b.2.2.1
theorem dX8_heedOf_33 : decode cX8_heedOf 33 = .ok (.aload_n 0, 1) := dX8_heedOf_28_b.2.2.2.1
theorem dX8_heedOf_34 : decode cX8_heedOf 34 = .ok (.iload_n 2, 1) := dX8_heedOf_28_b.2.2.2.2.1
theorem dX8_heedOf_35 : decode cX8_heedOf 35 = .ok (.iaload, 1) := dX8_heedOf_28_b.2.2.2.2.2.1
theorem dX8_heedOf_36 : decode cX8_heedOf 36 = .ok (.tableswitch 49 3 5 #[28, 32, 47], 28) := dX8_heedOf_28_b.2.2.2.2.2.2.1
theorem dX8_heedOf_64 : decode cX8_heedOf 64 = .ok (.iload_n 3, 1) := dX8_heedOf_28_b.2.2.2.2.2.2.2.1
theorem dX8_heedOf_65 : decode cX8_heedOf 65 = .ok (.iconst 2, 1) := dX8_heedOf_28_b.2.2.2.2.2.2.2.2.1
theorem dX8_heedOf_66 : decode cX8_heedOf 66 = .ok (.idiv, 1) := dX8_heedOf_28_b.2.2.2.2.2.2.2.2.2.1
theorem dX8_heedOf_67 : decode cX8_heedOf 67 = .ok (.ireturn, 1) := dX8_heedOf_28_b.2.2.2.2.2.2.2.2.2.2.1
theorem dX8_heedOf_68 : decode cX8_heedOf 68 = .ok (.iload_n 3, 1) := dX8_heedOf_28_b.2.2.2.2.2.2.2.2.2.2.2
theorem dX8_heedOf_69_b : (decode cX8_heedOf 69 = .ok (.iconst 2, 1)) ∧ (decode cX8_heedOf 70 = .ok (.idiv, 1)) ∧ (decode cX8_heedOf 71 = .ok (.iconst 3, 1)) ∧ (decode cX8_heedOf 72 = .ok (.if_icmp .ge 9, 3)) ∧ (decode cX8_heedOf 75 = .ok (.iload_n 3, 1)) ∧ (decode cX8_heedOf 76 = .ok (.iconst 2, 1)) ∧ (decode cX8_heedOf 77 = .ok (.idiv, 1)) ∧ (decode cX8_heedOf 78 = .ok (.goto 4, 3)) ∧ (decode cX8_heedOf 81 = .ok (.iconst 3, 1)) ∧ (decode cX8_heedOf 82 = .ok (.ireturn, 1)) ∧ (decode cX8_heedOf 83 = .ok (.iconst 0, 1)) ∧ (decode cX8_heedOf 84 = .ok (.ireturn, 1)) := by decide +kernel
theorem dX8_heedOf_69 : decode cX8_heedOf 69 = .ok (.iconst 2, 1) := dX8_heedOf_69_b.1
theorem dX8_heedOf_70 : decode cX8_heedOf 70 = .ok (.idiv, 1) := dX8_heedOf_69_b.2.1
theorem dX8_heedOf_71 : decode cX8_heedOf 71 = .ok (.iconst 3, 1) := dX8_heedOf_69_b.2.2.1
theorem dX8_heedOf_72 : decode cX8_heedOf 72 = .ok (.if_icmp .ge 9, 3) := dX8_heedOf_69_b.2.2.2.1
theorem dX8_heedOf_75 : decode cX8_heedOf 75 = .ok (.iload_n 3, 1) := dX8_heedOf_69_b.2.2.2.2.1
theorem dX8_heedOf_76 : decode cX8_heedOf 76 = .ok (.iconst 2, 1) := dX8_heedOf_69_b.2.2.2.2.2.1
theorem dX8_heedOf_77 : decode cX8_heedOf 77 = .ok (.idiv, 1) := dX8_heedOf_69_b.2.2.2.2.2.2.1
theorem dX8_heedOf_78 : decode cX8_heedOf 78 = .ok (.goto 4, 3) := dX8_heedOf_69_b.2.2.2.2.2.2.2.1
theorem dX8_heedOf_81 : decode cX8_heedOf 81 = .ok (.iconst 3, 1) := dX8_heedOf_69_b.2.2.2.2.2.2.2.2.1
theorem dX8_heedOf_82 : decode cX8_heedOf 82 = .ok (.ireturn, 1) := dX8_heedOf_69_b.2.2.2.2.2.2.2.2.2.1
theorem dX8_heedOf_83 : decode cX8_heedOf 83 = .ok (.iconst 0, 1) := dX8_heedOf_69_b.2.2.2.2.2.2.2.2.2.2.1
theorem dX8_heedOf_84 : decode cX8_heedOf 84 = .ok (.ireturn, 1) := dX8_heedOf_69_b.2.2.2.2.2.2.2.2.2.2.2
theorem dX8_heedOf_85_b : (decode cX8_heedOf 85 = .ok (.iload_n 3, 1)) ∧ (decode cX8_heedOf 86 = .ok (.ireturn, 1)) := by decide +kernel
theorem dX8_heedOf_85 : decode cX8_heedOf 85 = .ok (.iload_n 3, 1) := dX8_heedOf_85_b.1
theorem dX8_heedOf_86 : decode cX8_heedOf 86 = .ok (.ireturn, 1) := dX8_heedOf_85_b.2
theorem dX8_given_0_b : (decode cX8_given 0 = .ok (.iconst 0, 1)) ∧ (decode cX8_given 1 = .ok (.istore_n 3, 1)) ∧ (decode cX8_given 2 = .ok (.iconst 0, 1)) ∧ (decode cX8_given 3 = .ok (.istore 4, 2)) ∧ (decode cX8_given 5 = .ok (.iload 4, 2)) ∧ (decode cX8_given 7 = .ok (.aload_n 0, 1)) ∧ (decode cX8_given 8 = .ok (.iconst 4, 1)) ∧ (decode cX8_given 9 = .ok (.iaload, 1)) ∧ (decode cX8_given 10 = .ok (.if_icmp .ge 54, 3)) ∧ (decode cX8_given 13 = .ok (.iload_n 3, 1)) ∧ (decode cX8_given 14 = .ok (.iload_n 1, 1)) ∧ (decode cX8_given 15 = .ok (.iload 4, 2)) := by decide +kernel
theorem dX8_given_0 : decode cX8_given 0 = .ok (.iconst 0, 1) := dX8_given_0_b.1
theorem dX8_given_1 : decode cX8_given 1 = .ok (.istore_n 3, 1) := dX8_given_0_b.2.1
theorem dX8_given_2 : decode cX8_given 2 = .ok (.iconst 0, 1) := dX8_given_0_b.2.2.1
theorem dX8_given_3 : decode cX8_given 3 = .ok (.istore 4, 2) := dX8_given_0_b.2.2.2.1
theorem dX8_given_5 : decode cX8_given 5 = .ok (.iload 4, 2) := dX8_given_0_b.2.2.2.2.1
theorem dX8_given_7 : decode cX8_given 7 = .ok (.aload_n 0, 1) := dX8_given_0_b.2.2.2.2.2.1
theorem dX8_given_8 : decode cX8_given 8 = .ok (.iconst 4, 1) := dX8_given_0_b.2.2.2.2.2.2.1
theorem dX8_given_9 : decode cX8_given 9 = .ok (.iaload, 1) := dX8_given_0_b.2.2.2.2.2.2.2.1
theorem dX8_given_10 : decode cX8_given 10 = .ok (.if_icmp .ge 54, 3) := dX8_given_0_b.2.2.2.2.2.2.2.2.1
theorem dX8_given_13 : decode cX8_given 13 = .ok (.iload_n 3, 1) := dX8_given_0_b.2.2.2.2.2.2.2.2.2.1
theorem dX8_given_14 : decode cX8_given 14 = .ok (.iload_n 1, 1) := dX8_given_0_b.2.2.2.2.2.2.2.2.2.2.1
theorem dX8_given_15 : decode cX8_given 15 = .ok (.iload 4, 2) := dX8_given_0_b.2.2.2.2.2.2.2.2.2.2.2
theorem dX8_given_17_b : (decode cX8_given 17 = .ok (.invokestatic 145, 3)) ∧ (decode cX8_given 20 = .ok (.ifCond .eq 35, 3)) ∧ (decode cX8_given 23 = .ok (.aload_n 0, 1)) ∧ (decode cX8_given 24 = .ok (.bipush 6, 2)) ∧ (decode cX8_given 26 = .ok (.bipush 7, 2)) ∧ (decode cX8_given 28 = .ok (.iload 4, 2)) ∧ (decode cX8_given 30 = .ok (.imul, 1)) ∧ (decode cX8_given 31 = .ok (.iadd, 1)) ∧ (decode cX8_given 32 = .ok (.iaload, 1)) ∧ (decode cX8_given 33 = .ok (.iconst 2, 1)) ∧ (decode cX8_given 34 = .ok (.if_icmp .ne 7, 3)) ∧ (decode cX8_given 37 = .ok (.iconst 1, 1)) := by decide +kernel
theorem dX8_given_17 : decode cX8_given 17 = .ok (.invokestatic 145, 3) := dX8_given_17_b.1
theorem dX8_given_20 : decode cX8_given 20 = .ok (.ifCond .eq 35, 3) := dX8_given_17_b.2.1
theorem dX8_given_23 : decode cX8_given 23 = .ok (.aload_n 0, 1) := dX8_given_17_b.2.2.1
theorem dX8_given_24 : decode cX8_given 24 = .ok (.bipush 6, 2) := dX8_given_17_b.2.2.2.1
theorem dX8_given_26 : decode cX8_given 26 = .ok (.bipush 7, 2) := dX8_given_17_b.2.2.2.2.1
theorem dX8_given_28 : decode cX8_given 28 = .ok (.iload 4, 2) := dX8_given_17_b.2.2.2.2.2.1
theorem dX8_given_30 : decode cX8_given 30 = .ok (.imul, 1) := dX8_given_17_b.2.2.2.2.2.2.1
theorem dX8_given_31 : decode cX8_given 31 = .ok (.iadd, 1) := dX8_given_17_b.2.2.2.2.2.2.2.1
theorem dX8_given_32 : decode cX8_given 32 = .ok (.iaload, 1) := dX8_given_17_b.2.2.2.2.2.2.2.2.1
theorem dX8_given_33 : decode cX8_given 33 = .ok (.iconst 2, 1) := dX8_given_17_b.2.2.2.2.2.2.2.2.2.1
theorem dX8_given_34 : decode cX8_given 34 = .ok (.if_icmp .ne 7, 3) := dX8_given_17_b.2.2.2.2.2.2.2.2.2.2.1
theorem dX8_given_37 : decode cX8_given 37 = .ok (.iconst 1, 1) := dX8_given_17_b.2.2.2.2.2.2.2.2.2.2.2
theorem dX8_given_38_b : (decode cX8_given 38 = .ok (.goto 4, 3)) ∧ (decode cX8_given 41 = .ok (.iconst 0, 1)) ∧ (decode cX8_given 42 = .ok (.iload_n 2, 1)) ∧ (decode cX8_given 43 = .ok (.if_icmp .ne 12, 3)) ∧ (decode cX8_given 46 = .ok (.aload_n 0, 1)) ∧ (decode cX8_given 47 = .ok (.iload 4, 2)) ∧ (decode cX8_given 49 = .ok (.invokestatic 149, 3)) ∧ (decode cX8_given 52 = .ok (.goto 4, 3)) ∧ (decode cX8_given 55 = .ok (.iconst 0, 1)) ∧ (decode cX8_given 56 = .ok (.iadd, 1)) ∧ (decode cX8_given 57 = .ok (.istore_n 3, 1)) ∧ (decode cX8_given 58 = .ok (.iinc 4 1, 3)) := by decide +kernel
theorem dX8_given_38 : decode cX8_given 38 = .ok (.goto 4, 3) := dX8_given_38_b.1
theorem dX8_given_41 : decode cX8_given 41 = .ok (.iconst 0, 1) := dX8_given_38_b.2.1
theorem dX8_given_42 : decode cX8_given 42 = .ok (.iload_n 2, 1) := dX8_given_38_b.2.2.1
theorem dX8_given_43 : decode cX8_given 43 = .ok (.if_icmp .ne 12, 3) := dX8_given_38_b.2.2.2.1
theorem dX8_given_46 : decode cX8_given 46 = .ok (.aload_n 0, 1) := dX8_given_38_b.2.2.2.2.1
theorem dX8_given_47 : decode cX8_given 47 = .ok (.iload 4, 2) := dX8_given_38_b.2.2.2.2.2.1
theorem dX8_given_49 : decode cX8_given 49 = .ok (.invokestatic 149, 3) := dX8_given_38_b.2.2.2.2.2.2.1
theorem dX8_given_52 : decode cX8_given 52 = .ok (.goto 4, 3) := dX8_given_38_b.2.2.2.2.2.2.2.1
theorem dX8_given_55 : decode cX8_given 55 = .ok (.iconst 0, 1) := dX8_given_38_b.2.2.2.2.2.2.2.2.1
theorem dX8_given_56 : decode cX8_given 56 = .ok (.iadd, 1) := dX8_given_38_b.2.2.2.2.2.2.2.2.2.1
theorem dX8_given_57 : decode cX8_given 57 = .ok (.istore_n 3, 1) := dX8_given_38_b.2.2.2.2.2.2.2.2.2.2.1
theorem dX8_given_58 : decode cX8_given 58 = .ok (.iinc 4 1, 3) := dX8_given_38_b.2.2.2.2.2.2.2.2.2.2.2
theorem dX8_given_61_b : (decode cX8_given 61 = .ok (.goto (-56), 3)) ∧ (decode cX8_given 64 = .ok (.iload_n 3, 1)) ∧ (decode cX8_given 65 = .ok (.ireturn, 1)) := by decide +kernel
theorem dX8_given_61 : decode cX8_given 61 = .ok (.goto (-56), 3) := dX8_given_61_b.1
theorem dX8_given_64 : decode cX8_given 64 = .ok (.iload_n 3, 1) := dX8_given_61_b.2.1
theorem dX8_given_65 : decode cX8_given 65 = .ok (.ireturn, 1) := dX8_given_61_b.2.2
theorem dX8_goesBy_0_b : (decode cX8_goesBy 0 = .ok (.aload_n 0, 1)) ∧ (decode cX8_goesBy 1 = .ok (.iload_n 1, 1)) ∧ (decode cX8_goesBy 2 = .ok (.iconst 0, 1)) ∧ (decode cX8_goesBy 3 = .ok (.invokestatic 153, 3)) ∧ (decode cX8_goesBy 6 = .ok (.istore_n 2, 1)) ∧ (decode cX8_goesBy 7 = .ok (.iload_n 2, 1)) ∧ (decode cX8_goesBy 8 = .ok (.bipush 12, 2)) ∧ (decode cX8_goesBy 10 = .ok (.if_icmp .lt 7, 3)) ∧ (decode cX8_goesBy 13 = .ok (.iload_n 2, 1)) ∧ (decode cX8_goesBy 14 = .ok (.goto 11, 3)) ∧ (decode cX8_goesBy 17 = .ok (.iload_n 2, 1)) ∧ (decode cX8_goesBy 18 = .ok (.aload_n 0, 1)) := by decide +kernel
theorem dX8_goesBy_0 : decode cX8_goesBy 0 = .ok (.aload_n 0, 1) := dX8_goesBy_0_b.1
theorem dX8_goesBy_1 : decode cX8_goesBy 1 = .ok (.iload_n 1, 1) := dX8_goesBy_0_b.2.1
theorem dX8_goesBy_2 : decode cX8_goesBy 2 = .ok (.iconst 0, 1) := dX8_goesBy_0_b.2.2.1
theorem dX8_goesBy_3 : decode cX8_goesBy 3 = .ok (.invokestatic 153, 3) := dX8_goesBy_0_b.2.2.2.1
theorem dX8_goesBy_6 : decode cX8_goesBy 6 = .ok (.istore_n 2, 1) := dX8_goesBy_0_b.2.2.2.2.1
theorem dX8_goesBy_7 : decode cX8_goesBy 7 = .ok (.iload_n 2, 1) := dX8_goesBy_0_b.2.2.2.2.2.1
theorem dX8_goesBy_8 : decode cX8_goesBy 8 = .ok (.bipush 12, 2) := dX8_goesBy_0_b.2.2.2.2.2.2.1
theorem dX8_goesBy_10 : decode cX8_goesBy 10 = .ok (.if_icmp .lt 7, 3) := dX8_goesBy_0_b.2.2.2.2.2.2.2.1
theorem dX8_goesBy_13 : decode cX8_goesBy 13 = .ok (.iload_n 2, 1) := dX8_goesBy_0_b.2.2.2.2.2.2.2.2.1
theorem dX8_goesBy_14 : decode cX8_goesBy 14 = .ok (.goto 11, 3) := dX8_goesBy_0_b.2.2.2.2.2.2.2.2.2.1
theorem dX8_goesBy_17 : decode cX8_goesBy 17 = .ok (.iload_n 2, 1) := dX8_goesBy_0_b.2.2.2.2.2.2.2.2.2.2.1
theorem dX8_goesBy_18 : decode cX8_goesBy 18 = .ok (.aload_n 0, 1) := dX8_goesBy_0_b.2.2.2.2.2.2.2.2.2.2.2
theorem dX8_goesBy_19_b : (decode cX8_goesBy 19 = .ok (.iload_n 1, 1)) ∧ (decode cX8_goesBy 20 = .ok (.iconst 1, 1)) ∧ (decode cX8_goesBy 21 = .ok (.invokestatic 153, 3)) ∧ (decode cX8_goesBy 24 = .ok (.iadd, 1)) ∧ (decode cX8_goesBy 25 = .ok (.ireturn, 1)) := by decide +kernel
theorem dX8_goesBy_19 : decode cX8_goesBy 19 = .ok (.iload_n 1, 1) := dX8_goesBy_19_b.1
theorem dX8_goesBy_20 : decode cX8_goesBy 20 = .ok (.iconst 1, 1) := dX8_goesBy_19_b.2.1
theorem dX8_goesBy_21 : decode cX8_goesBy 21 = .ok (.invokestatic 153, 3) := dX8_goesBy_19_b.2.2.1
theorem dX8_goesBy_24 : decode cX8_goesBy 24 = .ok (.iadd, 1) := dX8_goesBy_19_b.2.2.2.1
theorem dX8_goesBy_25 : decode cX8_goesBy 25 = .ok (.ireturn, 1) := dX8_goesBy_19_b.2.2.2.2
theorem dX8_goes_0_b : (decode cX8_goes 0 = .ok (.aload_n 0, 1)) ∧ (decode cX8_goes 1 = .ok (.aload_n 0, 1)) ∧ (decode cX8_goes 2 = .ok (.invokestatic 157, 3)) ∧ (decode cX8_goes 5 = .ok (.invokestatic 161, 3)) ∧ (decode cX8_goes 8 = .ok (.ireturn, 1)) := by decide +kernel
theorem dX8_goes_0 : decode cX8_goes 0 = .ok (.aload_n 0, 1) := dX8_goes_0_b.1
theorem dX8_goes_1 : decode cX8_goes 1 = .ok (.aload_n 0, 1) := dX8_goes_0_b.2.1
theorem dX8_goes_2 : decode cX8_goes 2 = .ok (.invokestatic 157, 3) := dX8_goes_0_b.2.2.1
theorem dX8_goes_5 : decode cX8_goes 5 = .ok (.invokestatic 161, 3) := dX8_goes_0_b.2.2.2.1
theorem dX8_goes_8 : decode cX8_goes 8 = .ok (.ireturn, 1) := dX8_goes_0_b.2.2.2.2
theorem dX8_passes_0_b : (decode cX8_passes 0 = .ok (.aload_n 0, 1)) ∧ (decode cX8_passes 1 = .ok (.invokestatic 164, 3)) ∧ (decode cX8_passes 4 = .ok (.istore_n 1, 1)) ∧ (decode cX8_passes 5 = .ok (.iconst 0, 1)) ∧ (decode cX8_passes 6 = .ok (.istore_n 2, 1)) ∧ (decode cX8_passes 7 = .ok (.iload_n 2, 1)) ∧ (decode cX8_passes 8 = .ok (.aload_n 0, 1)) ∧ (decode cX8_passes 9 = .ok (.iconst 4, 1)) ∧ (decode cX8_passes 10 = .ok (.iaload, 1)) ∧ (decode cX8_passes 11 = .ok (.if_icmp .ge 44, 3)) ∧ (decode cX8_passes 14 = .ok (.aload_n 0, 1)) ∧ (decode cX8_passes 15 = .ok (.bipush 6, 2)) := by decide +kernel
theorem dX8_passes_0 : decode cX8_passes 0 = .ok (.aload_n 0, 1) := dX8_passes_0_b.1
theorem dX8_passes_1 : decode cX8_passes 1 = .ok (.invokestatic 164, 3) := dX8_passes_0_b.2.1
theorem dX8_passes_4 : decode cX8_passes 4 = .ok (.istore_n 1, 1) := dX8_passes_0_b.2.2.1
theorem dX8_passes_5 : decode cX8_passes 5 = .ok (.iconst 0, 1) := dX8_passes_0_b.2.2.2.1
theorem dX8_passes_6 : decode cX8_passes 6 = .ok (.istore_n 2, 1) := dX8_passes_0_b.2.2.2.2.1
theorem dX8_passes_7 : decode cX8_passes 7 = .ok (.iload_n 2, 1) := dX8_passes_0_b.2.2.2.2.2.1
theorem dX8_passes_8 : decode cX8_passes 8 = .ok (.aload_n 0, 1) := dX8_passes_0_b.2.2.2.2.2.2.1
theorem dX8_passes_9 : decode cX8_passes 9 = .ok (.iconst 4, 1) := dX8_passes_0_b.2.2.2.2.2.2.2.1
theorem dX8_passes_10 : decode cX8_passes 10 = .ok (.iaload, 1) := dX8_passes_0_b.2.2.2.2.2.2.2.2.1
theorem dX8_passes_11 : decode cX8_passes 11 = .ok (.if_icmp .ge 44, 3) := dX8_passes_0_b.2.2.2.2.2.2.2.2.2.1
theorem dX8_passes_14 : decode cX8_passes 14 = .ok (.aload_n 0, 1) := dX8_passes_0_b.2.2.2.2.2.2.2.2.2.2.1
theorem dX8_passes_15 : decode cX8_passes 15 = .ok (.bipush 6, 2) := dX8_passes_0_b.2.2.2.2.2.2.2.2.2.2.2
theorem dX8_passes_17_b : (decode cX8_passes 17 = .ok (.bipush 7, 2)) ∧ (decode cX8_passes 19 = .ok (.iload_n 2, 1)) ∧ (decode cX8_passes 20 = .ok (.imul, 1)) ∧ (decode cX8_passes 21 = .ok (.iadd, 1)) ∧ (decode cX8_passes 22 = .ok (.bipush 6, 2)) ∧ (decode cX8_passes 24 = .ok (.iadd, 1)) ∧ (decode cX8_passes 25 = .ok (.dup2, 1)) ∧ (decode cX8_passes 26 = .ok (.iaload, 1)) ∧ (decode cX8_passes 27 = .ok (.aload_n 0, 1)) ∧ (decode cX8_passes 28 = .ok (.bipush 6, 2)) ∧ (decode cX8_passes 30 = .ok (.bipush 7, 2)) ∧ (decode cX8_passes 32 = .ok (.iload_n 2, 1)) := by decide +kernel
theorem dX8_passes_17 : decode cX8_passes 17 = .ok (.bipush 7, 2) := dX8_passes_17_b.1
theorem dX8_passes_19 : decode cX8_passes 19 = .ok (.iload_n 2, 1) := dX8_passes_17_b.2.1
theorem dX8_passes_20 : decode cX8_passes 20 = .ok (.imul, 1) := dX8_passes_17_b.2.2.1
theorem dX8_passes_21 : decode cX8_passes 21 = .ok (.iadd, 1) := dX8_passes_17_b.2.2.2.1
theorem dX8_passes_22 : decode cX8_passes 22 = .ok (.bipush 6, 2) := dX8_passes_17_b.2.2.2.2.1
theorem dX8_passes_24 : decode cX8_passes 24 = .ok (.iadd, 1) := dX8_passes_17_b.2.2.2.2.2.1
theorem dX8_passes_25 : decode cX8_passes 25 = .ok (.dup2, 1) := dX8_passes_17_b.2.2.2.2.2.2.1
theorem dX8_passes_26 : decode cX8_passes 26 = .ok (.iaload, 1) := dX8_passes_17_b.2.2.2.2.2.2.2.1
theorem dX8_passes_27 : decode cX8_passes 27 = .ok (.aload_n 0, 1) := dX8_passes_17_b.2.2.2.2.2.2.2.2.1
theorem dX8_passes_28 : decode cX8_passes 28 = .ok (.bipush 6, 2) := dX8_passes_17_b.2.2.2.2.2.2.2.2.2.1
theorem dX8_passes_30 : decode cX8_passes 30 = .ok (.bipush 7, 2) := dX8_passes_17_b.2.2.2.2.2.2.2.2.2.2.1
theorem dX8_passes_32 : decode cX8_passes 32 = .ok (.iload_n 2, 1) := dX8_passes_17_b.2.2.2.2.2.2.2.2.2.2.2
theorem dX8_passes_33_b : (decode cX8_passes 33 = .ok (.imul, 1)) ∧ (decode cX8_passes 34 = .ok (.iadd, 1)) ∧ (decode cX8_passes 35 = .ok (.iconst 2, 1)) ∧ (decode cX8_passes 36 = .ok (.iadd, 1)) ∧ (decode cX8_passes 37 = .ok (.iaload, 1)) ∧ (decode cX8_passes 38 = .ok (.ifCond .ne 7, 3)) ∧ (decode cX8_passes 41 = .ok (.iload_n 1, 1)) ∧ (decode cX8_passes 42 = .ok (.goto 5, 3)) ∧ (decode cX8_passes 45 = .ok (.bipush 12, 2)) ∧ (decode cX8_passes 47 = .ok (.iadd, 1)) ∧ (decode cX8_passes 48 = .ok (.iastore, 1)) ∧ (decode cX8_passes 49 = .ok (.iinc 2 1, 3)) := by decide +kernel
theorem dX8_passes_33 : decode cX8_passes 33 = .ok (.imul, 1) := dX8_passes_33_b.1
theorem dX8_passes_34 : decode cX8_passes 34 = .ok (.iadd, 1) := dX8_passes_33_b.2.1
theorem dX8_passes_35 : decode cX8_passes 35 = .ok (.iconst 2, 1) := dX8_passes_33_b.2.2.1
theorem dX8_passes_36 : decode cX8_passes 36 = .ok (.iadd, 1) := dX8_passes_33_b.2.2.2.1
theorem dX8_passes_37 : decode cX8_passes 37 = .ok (.iaload, 1) := dX8_passes_33_b.2.2.2.2.1
theorem dX8_passes_38 : decode cX8_passes 38 = .ok (.ifCond .ne 7, 3) := dX8_passes_33_b.2.2.2.2.2.1
theorem dX8_passes_41 : decode cX8_passes 41 = .ok (.iload_n 1, 1) := dX8_passes_33_b.2.2.2.2.2.2.1
theorem dX8_passes_42 : decode cX8_passes 42 = .ok (.goto 5, 3) := dX8_passes_33_b.2.2.2.2.2.2.2.1
theorem dX8_passes_45 : decode cX8_passes 45 = .ok (.bipush 12, 2) := dX8_passes_33_b.2.2.2.2.2.2.2.2.1
theorem dX8_passes_47 : decode cX8_passes 47 = .ok (.iadd, 1) := dX8_passes_33_b.2.2.2.2.2.2.2.2.2.1
theorem dX8_passes_48 : decode cX8_passes 48 = .ok (.iastore, 1) := dX8_passes_33_b.2.2.2.2.2.2.2.2.2.2.1
theorem dX8_passes_49 : decode cX8_passes 49 = .ok (.iinc 2 1, 3) := dX8_passes_33_b.2.2.2.2.2.2.2.2.2.2.2
theorem dX8_passes_52_b : (decode cX8_passes 52 = .ok (.goto (-45), 3)) ∧ (decode cX8_passes 55 = .ok (.aload_n 0, 1)) ∧ (decode cX8_passes 56 = .ok (.iconst 3, 1)) ∧ (decode cX8_passes 57 = .ok (.dup2, 1)) ∧ (decode cX8_passes 58 = .ok (.iaload, 1)) ∧ (decode cX8_passes 59 = .ok (.iload_n 1, 1)) ∧ (decode cX8_passes 60 = .ok (.iadd, 1)) ∧ (decode cX8_passes 61 = .ok (.iastore, 1)) ∧ (decode cX8_passes 62 = .ok (.aload_n 0, 1)) ∧ (decode cX8_passes 63 = .ok (.iconst 2, 1)) ∧ (decode cX8_passes 64 = .ok (.dup2, 1)) ∧ (decode cX8_passes 65 = .ok (.iaload, 1)) := by decide +kernel
theorem dX8_passes_52 : decode cX8_passes 52 = .ok (.goto (-45), 3) := dX8_passes_52_b.1
theorem dX8_passes_55 : decode cX8_passes 55 = .ok (.aload_n 0, 1) := dX8_passes_52_b.2.1
theorem dX8_passes_56 : decode cX8_passes 56 = .ok (.iconst 3, 1) := dX8_passes_52_b.2.2.1
theorem dX8_passes_57 : decode cX8_passes 57 = .ok (.dup2, 1) := dX8_passes_52_b.2.2.2.1
theorem dX8_passes_58 : decode cX8_passes 58 = .ok (.iaload, 1) := dX8_passes_52_b.2.2.2.2.1
theorem dX8_passes_59 : decode cX8_passes 59 = .ok (.iload_n 1, 1) := dX8_passes_52_b.2.2.2.2.2.1
theorem dX8_passes_60 : decode cX8_passes 60 = .ok (.iadd, 1) := dX8_passes_52_b.2.2.2.2.2.2.1
theorem dX8_passes_61 : decode cX8_passes 61 = .ok (.iastore, 1) := dX8_passes_52_b.2.2.2.2.2.2.2.1
theorem dX8_passes_62 : decode cX8_passes 62 = .ok (.aload_n 0, 1) := dX8_passes_52_b.2.2.2.2.2.2.2.2.1
theorem dX8_passes_63 : decode cX8_passes 63 = .ok (.iconst 2, 1) := dX8_passes_52_b.2.2.2.2.2.2.2.2.2.1
theorem dX8_passes_64 : decode cX8_passes 64 = .ok (.dup2, 1) := dX8_passes_52_b.2.2.2.2.2.2.2.2.2.2.1
theorem dX8_passes_65 : decode cX8_passes 65 = .ok (.iaload, 1) := dX8_passes_52_b.2.2.2.2.2.2.2.2.2.2.2
theorem dX8_passes_66_b : (decode cX8_passes 66 = .ok (.iconst 1, 1)) ∧ (decode cX8_passes 67 = .ok (.iadd, 1)) ∧ (decode cX8_passes 68 = .ok (.iastore, 1)) ∧ (decode cX8_passes 69 = .ok (.iconst 0, 1)) ∧ (decode cX8_passes 70 = .ok (.istore_n 2, 1)) ∧ (decode cX8_passes 71 = .ok (.iload_n 2, 1)) ∧ (decode cX8_passes 72 = .ok (.aload_n 0, 1)) ∧ (decode cX8_passes 73 = .ok (.iconst 5, 1)) ∧ (decode cX8_passes 74 = .ok (.iaload, 1)) ∧ (decode cX8_passes 75 = .ok (.if_icmp .ge 111, 3)) ∧ (decode cX8_passes 78 = .ok (.bipush 48, 2)) ∧ (decode cX8_passes 80 = .ok (.iconst 5, 1)) := by decide +kernel
theorem dX8_passes_66 : decode cX8_passes 66 = .ok (.iconst 1, 1) := dX8_passes_66_b.1
theorem dX8_passes_67 : decode cX8_passes 67 = .ok (.iadd, 1) := dX8_passes_66_b.2.1
theorem dX8_passes_68 : decode cX8_passes 68 = .ok (.iastore, 1) := dX8_passes_66_b.2.2.1
theorem dX8_passes_69 : decode cX8_passes 69 = .ok (.iconst 0, 1) := dX8_passes_66_b.2.2.2.1
theorem dX8_passes_70 : decode cX8_passes 70 = .ok (.istore_n 2, 1) := dX8_passes_66_b.2.2.2.2.1
theorem dX8_passes_71 : decode cX8_passes 71 = .ok (.iload_n 2, 1) := dX8_passes_66_b.2.2.2.2.2.1
theorem dX8_passes_72 : decode cX8_passes 72 = .ok (.aload_n 0, 1) := dX8_passes_66_b.2.2.2.2.2.2.1
theorem dX8_passes_73 : decode cX8_passes 73 = .ok (.iconst 5, 1) := dX8_passes_66_b.2.2.2.2.2.2.2.1
theorem dX8_passes_74 : decode cX8_passes 74 = .ok (.iaload, 1) := dX8_passes_66_b.2.2.2.2.2.2.2.2.1
theorem dX8_passes_75 : decode cX8_passes 75 = .ok (.if_icmp .ge 111, 3) := dX8_passes_66_b.2.2.2.2.2.2.2.2.2.1
theorem dX8_passes_78 : decode cX8_passes 78 = .ok (.bipush 48, 2) := dX8_passes_66_b.2.2.2.2.2.2.2.2.2.2.1
theorem dX8_passes_80 : decode cX8_passes 80 = .ok (.iconst 5, 1) := dX8_passes_66_b.2.2.2.2.2.2.2.2.2.2.2
theorem dX8_passes_81_b : (decode cX8_passes 81 = .ok (.iload_n 2, 1)) ∧ (decode cX8_passes 82 = .ok (.imul, 1)) ∧ (decode cX8_passes 83 = .ok (.iadd, 1)) ∧ (decode cX8_passes 84 = .ok (.istore_n 3, 1)) ∧ (decode cX8_passes 85 = .ok (.aload_n 0, 1)) ∧ (decode cX8_passes 86 = .ok (.iload_n 3, 1)) ∧ (decode cX8_passes 87 = .ok (.iconst 3, 1)) ∧ (decode cX8_passes 88 = .ok (.iadd, 1)) ∧ (decode cX8_passes 89 = .ok (.iaload, 1)) ∧ (decode cX8_passes 90 = .ok (.ldc 50, 2)) ∧ (decode cX8_passes 92 = .ok (.if_icmp .eq 37, 3)) ∧ (decode cX8_passes 95 = .ok (.aload_n 0, 1)) := by decide +kernel
theorem dX8_passes_81 : decode cX8_passes 81 = .ok (.iload_n 2, 1) := dX8_passes_81_b.1
theorem dX8_passes_82 : decode cX8_passes 82 = .ok (.imul, 1) := dX8_passes_81_b.2.1
theorem dX8_passes_83 : decode cX8_passes 83 = .ok (.iadd, 1) := dX8_passes_81_b.2.2.1
theorem dX8_passes_84 : decode cX8_passes 84 = .ok (.istore_n 3, 1) := dX8_passes_81_b.2.2.2.1
theorem dX8_passes_85 : decode cX8_passes 85 = .ok (.aload_n 0, 1) := dX8_passes_81_b.2.2.2.2.1
theorem dX8_passes_86 : decode cX8_passes 86 = .ok (.iload_n 3, 1) := dX8_passes_81_b.2.2.2.2.2.1
theorem dX8_passes_87 : decode cX8_passes 87 = .ok (.iconst 3, 1) := dX8_passes_81_b.2.2.2.2.2.2.1
theorem dX8_passes_88 : decode cX8_passes 88 = .ok (.iadd, 1) := dX8_passes_81_b.2.2.2.2.2.2.2.1
theorem dX8_passes_89 : decode cX8_passes 89 = .ok (.iaload, 1) := dX8_passes_81_b.2.2.2.2.2.2.2.2.1
theorem dX8_passes_90 : decode cX8_passes 90 = .ok (.ldc 50, 2) := dX8_passes_81_b.2.2.2.2.2.2.2.2.2.1
theorem dX8_passes_92 : decode cX8_passes 92 = .ok (.if_icmp .eq 37, 3) := dX8_passes_81_b.2.2.2.2.2.2.2.2.2.2.1
theorem dX8_passes_95 : decode cX8_passes 95 = .ok (.aload_n 0, 1) := dX8_passes_81_b.2.2.2.2.2.2.2.2.2.2.2
theorem dX8_passes_96_b : (decode cX8_passes 96 = .ok (.iload_n 3, 1)) ∧ (decode cX8_passes 97 = .ok (.iconst 4, 1)) ∧ (decode cX8_passes 98 = .ok (.iadd, 1)) ∧ (decode cX8_passes 99 = .ok (.iaload, 1)) ∧ (decode cX8_passes 100 = .ok (.ldc 50, 2)) ∧ (decode cX8_passes 102 = .ok (.if_icmp .ne 27, 3)) ∧ (decode cX8_passes 105 = .ok (.aload_n 0, 1)) ∧ (decode cX8_passes 106 = .ok (.iconst 3, 1)) ∧ (decode cX8_passes 107 = .ok (.iaload, 1)) ∧ (decode cX8_passes 108 = .ok (.aload_n 0, 1)) ∧ (decode cX8_passes 109 = .ok (.iload_n 3, 1)) ∧ (decode cX8_passes 110 = .ok (.iconst 3, 1)) := by decide +kernel
theorem dX8_passes_96 : decode cX8_passes 96 = .ok (.iload_n 3, 1) := dX8_passes_96_b.1
theorem dX8_passes_97 : decode cX8_passes 97 = .ok (.iconst 4, 1) := dX8_passes_96_b.2.1
theorem dX8_passes_98 : decode cX8_passes 98 = .ok (.iadd, 1) := dX8_passes_96_b.2.2.1
theorem dX8_passes_99 : decode cX8_passes 99 = .ok (.iaload, 1) := dX8_passes_96_b.2.2.2.1
theorem dX8_passes_100 : decode cX8_passes 100 = .ok (.ldc 50, 2) := dX8_passes_96_b.2.2.2.2.1
theorem dX8_passes_102 : decode cX8_passes 102 = .ok (.if_icmp .ne 27, 3) := dX8_passes_96_b.2.2.2.2.2.1
theorem dX8_passes_105 : decode cX8_passes 105 = .ok (.aload_n 0, 1) := dX8_passes_96_b.2.2.2.2.2.2.1
theorem dX8_passes_106 : decode cX8_passes 106 = .ok (.iconst 3, 1) := dX8_passes_96_b.2.2.2.2.2.2.2.1
theorem dX8_passes_107 : decode cX8_passes 107 = .ok (.iaload, 1) := dX8_passes_96_b.2.2.2.2.2.2.2.2.1
theorem dX8_passes_108 : decode cX8_passes 108 = .ok (.aload_n 0, 1) := dX8_passes_96_b.2.2.2.2.2.2.2.2.2.1
theorem dX8_passes_109 : decode cX8_passes 109 = .ok (.iload_n 3, 1) := dX8_passes_96_b.2.2.2.2.2.2.2.2.2.2.1
theorem dX8_passes_110 : decode cX8_passes 110 = .ok (.iconst 3, 1) := dX8_passes_96_b.2.2.2.2.2.2.2.2.2.2.2
theorem dX8_passes_111_b : (decode cX8_passes 111 = .ok (.iadd, 1)) ∧ (decode cX8_passes 112 = .ok (.iaload, 1)) ∧ (decode cX8_passes 113 = .ok (.bipush 12, 2)) ∧ (decode cX8_passes 115 = .ok (.aload_n 0, 1)) ∧ (decode cX8_passes 116 = .ok (.iload_n 3, 1)) ∧ (decode cX8_passes 117 = .ok (.iconst 1, 1)) ∧ (decode cX8_passes 118 = .ok (.iadd, 1)) ∧ (decode cX8_passes 119 = .ok (.iaload, 1)) ∧ (decode cX8_passes 120 = .ok (.imul, 1)) ∧ (decode cX8_passes 121 = .ok (.iadd, 1)) ∧ (decode cX8_passes 122 = .ok (.if_icmp .lt 7, 3)) ∧ (decode cX8_passes 125 = .ok (.iconst 1, 1)) := by decide +kernel
theorem dX8_passes_111 : decode cX8_passes 111 = .ok (.iadd, 1) := dX8_passes_111_b.1
theorem dX8_passes_112 : decode cX8_passes 112 = .ok (.iaload, 1) := dX8_passes_111_b.2.1
theorem dX8_passes_113 : decode cX8_passes 113 = .ok (.bipush 12, 2) := dX8_passes_111_b.2.2.1
theorem dX8_passes_115 : decode cX8_passes 115 = .ok (.aload_n 0, 1) := dX8_passes_111_b.2.2.2.1
theorem dX8_passes_116 : decode cX8_passes 116 = .ok (.iload_n 3, 1) := dX8_passes_111_b.2.2.2.2.1
theorem dX8_passes_117 : decode cX8_passes 117 = .ok (.iconst 1, 1) := dX8_passes_111_b.2.2.2.2.2.1
theorem dX8_passes_118 : decode cX8_passes 118 = .ok (.iadd, 1) := dX8_passes_111_b.2.2.2.2.2.2.1
theorem dX8_passes_119 : decode cX8_passes 119 = .ok (.iaload, 1) := dX8_passes_111_b.2.2.2.2.2.2.2.1
theorem dX8_passes_120 : decode cX8_passes 120 = .ok (.imul, 1) := dX8_passes_111_b.2.2.2.2.2.2.2.2.1
theorem dX8_passes_121 : decode cX8_passes 121 = .ok (.iadd, 1) := dX8_passes_111_b.2.2.2.2.2.2.2.2.2.1
theorem dX8_passes_122 : decode cX8_passes 122 = .ok (.if_icmp .lt 7, 3) := dX8_passes_111_b.2.2.2.2.2.2.2.2.2.2.1
theorem dX8_passes_125 : decode cX8_passes 125 = .ok (.iconst 1, 1) := dX8_passes_111_b.2.2.2.2.2.2.2.2.2.2.2
theorem dX8_passes_126_b : (decode cX8_passes 126 = .ok (.goto 4, 3)) ∧ (decode cX8_passes 129 = .ok (.iconst 0, 1)) ∧ (decode cX8_passes 130 = .ok (.istore 4, 2)) ∧ (decode cX8_passes 132 = .ok (.aload_n 0, 1)) ∧ (decode cX8_passes 133 = .ok (.iload_n 3, 1)) ∧ (decode cX8_passes 134 = .ok (.iconst 4, 1)) ∧ (decode cX8_passes 135 = .ok (.iadd, 1)) ∧ (decode cX8_passes 136 = .ok (.iload 4, 2)) ∧ (decode cX8_passes 138 = .ok (.ifCond .eq 9, 3)) ∧ (decode cX8_passes 141 = .ok (.aload_n 0, 1)) ∧ (decode cX8_passes 142 = .ok (.iconst 2, 1)) ∧ (decode cX8_passes 143 = .ok (.iaload, 1)) := by decide +kernel
theorem dX8_passes_126 : decode cX8_passes 126 = .ok (.goto 4, 3) := dX8_passes_126_b.1
theorem dX8_passes_129 : decode cX8_passes 129 = .ok (.iconst 0, 1) := dX8_passes_126_b.2.1
theorem dX8_passes_130 : decode cX8_passes 130 = .ok (.istore 4, 2) := dX8_passes_126_b.2.2.1
theorem dX8_passes_132 : decode cX8_passes 132 = .ok (.aload_n 0, 1) := dX8_passes_126_b.2.2.2.1
theorem dX8_passes_133 : decode cX8_passes 133 = .ok (.iload_n 3, 1) := dX8_passes_126_b.2.2.2.2.1
theorem dX8_passes_134 : decode cX8_passes 134 = .ok (.iconst 4, 1) := dX8_passes_126_b.2.2.2.2.2.1
theorem dX8_passes_135 : decode cX8_passes 135 = .ok (.iadd, 1) := dX8_passes_126_b.2.2.2.2.2.2.1
theorem dX8_passes_136 : decode cX8_passes 136 = .ok (.iload 4, 2) := dX8_passes_126_b.2.2.2.2.2.2.2.1
theorem dX8_passes_138 : decode cX8_passes 138 = .ok (.ifCond .eq 9, 3) := dX8_passes_126_b.2.2.2.2.2.2.2.2.1
theorem dX8_passes_141 : decode cX8_passes 141 = .ok (.aload_n 0, 1) := dX8_passes_126_b.2.2.2.2.2.2.2.2.2.1
theorem dX8_passes_142 : decode cX8_passes 142 = .ok (.iconst 2, 1) := dX8_passes_126_b.2.2.2.2.2.2.2.2.2.2.1
theorem dX8_passes_143 : decode cX8_passes 143 = .ok (.iaload, 1) := dX8_passes_126_b.2.2.2.2.2.2.2.2.2.2.2
theorem dX8_passes_144_b : (decode cX8_passes 144 = .ok (.goto 8, 3)) ∧ (decode cX8_passes 147 = .ok (.aload_n 0, 1)) ∧ (decode cX8_passes 148 = .ok (.iload_n 3, 1)) ∧ (decode cX8_passes 149 = .ok (.iconst 4, 1)) ∧ (decode cX8_passes 150 = .ok (.iadd, 1)) ∧ (decode cX8_passes 151 = .ok (.iaload, 1)) ∧ (decode cX8_passes 152 = .ok (.iastore, 1)) ∧ (decode cX8_passes 153 = .ok (.aload_n 0, 1)) ∧ (decode cX8_passes 154 = .ok (.iload_n 3, 1)) ∧ (decode cX8_passes 155 = .ok (.iconst 3, 1)) ∧ (decode cX8_passes 156 = .ok (.iadd, 1)) ∧ (decode cX8_passes 157 = .ok (.aload_n 0, 1)) := by decide +kernel
theorem dX8_passes_144 : decode cX8_passes 144 = .ok (.goto 8, 3) := dX8_passes_144_b.1
theorem dX8_passes_147 : decode cX8_passes 147 = .ok (.aload_n 0, 1) := dX8_passes_144_b.2.1
theorem dX8_passes_148 : decode cX8_passes 148 = .ok (.iload_n 3, 1) := dX8_passes_144_b.2.2.1
theorem dX8_passes_149 : decode cX8_passes 149 = .ok (.iconst 4, 1) := dX8_passes_144_b.2.2.2.1
theorem dX8_passes_150 : decode cX8_passes 150 = .ok (.iadd, 1) := dX8_passes_144_b.2.2.2.2.1
theorem dX8_passes_151 : decode cX8_passes 151 = .ok (.iaload, 1) := dX8_passes_144_b.2.2.2.2.2.1
theorem dX8_passes_152 : decode cX8_passes 152 = .ok (.iastore, 1) := dX8_passes_144_b.2.2.2.2.2.2.1
theorem dX8_passes_153 : decode cX8_passes 153 = .ok (.aload_n 0, 1) := dX8_passes_144_b.2.2.2.2.2.2.2.1
theorem dX8_passes_154 : decode cX8_passes 154 = .ok (.iload_n 3, 1) := dX8_passes_144_b.2.2.2.2.2.2.2.2.1
theorem dX8_passes_155 : decode cX8_passes 155 = .ok (.iconst 3, 1) := dX8_passes_144_b.2.2.2.2.2.2.2.2.2.1
theorem dX8_passes_156 : decode cX8_passes 156 = .ok (.iadd, 1) := dX8_passes_144_b.2.2.2.2.2.2.2.2.2.2.1
theorem dX8_passes_157 : decode cX8_passes 157 = .ok (.aload_n 0, 1) := dX8_passes_144_b.2.2.2.2.2.2.2.2.2.2.2
theorem dX8_passes_158_b : (decode cX8_passes 158 = .ok (.iload_n 3, 1)) ∧ (decode cX8_passes 159 = .ok (.iconst 0, 1)) ∧ (decode cX8_passes 160 = .ok (.iadd, 1)) ∧ (decode cX8_passes 161 = .ok (.iaload, 1)) ∧ (decode cX8_passes 162 = .ok (.aload_n 0, 1)) ∧ (decode cX8_passes 163 = .ok (.iconst 2, 1)) ∧ (decode cX8_passes 164 = .ok (.iaload, 1)) ∧ (decode cX8_passes 165 = .ok (.if_icmp .ne 9, 3)) ∧ (decode cX8_passes 168 = .ok (.aload_n 0, 1)) ∧ (decode cX8_passes 169 = .ok (.iconst 3, 1)) ∧ (decode cX8_passes 170 = .ok (.iaload, 1)) ∧ (decode cX8_passes 171 = .ok (.goto 8, 3)) := by decide +kernel
theorem dX8_passes_158 : decode cX8_passes 158 = .ok (.iload_n 3, 1) := dX8_passes_158_b.1
theorem dX8_passes_159 : decode cX8_passes 159 = .ok (.iconst 0, 1) := dX8_passes_158_b.2.1
theorem dX8_passes_160 : decode cX8_passes 160 = .ok (.iadd, 1) := dX8_passes_158_b.2.2.1
theorem dX8_passes_161 : decode cX8_passes 161 = .ok (.iaload, 1) := dX8_passes_158_b.2.2.2.1
theorem dX8_passes_162 : decode cX8_passes 162 = .ok (.aload_n 0, 1) := dX8_passes_158_b.2.2.2.2.1
theorem dX8_passes_163 : decode cX8_passes 163 = .ok (.iconst 2, 1) := dX8_passes_158_b.2.2.2.2.2.1
theorem dX8_passes_164 : decode cX8_passes 164 = .ok (.iaload, 1) := dX8_passes_158_b.2.2.2.2.2.2.1
theorem dX8_passes_165 : decode cX8_passes 165 = .ok (.if_icmp .ne 9, 3) := dX8_passes_158_b.2.2.2.2.2.2.2.1
theorem dX8_passes_168 : decode cX8_passes 168 = .ok (.aload_n 0, 1) := dX8_passes_158_b.2.2.2.2.2.2.2.2.1
theorem dX8_passes_169 : decode cX8_passes 169 = .ok (.iconst 3, 1) := dX8_passes_158_b.2.2.2.2.2.2.2.2.2.1
theorem dX8_passes_170 : decode cX8_passes 170 = .ok (.iaload, 1) := dX8_passes_158_b.2.2.2.2.2.2.2.2.2.2.1
theorem dX8_passes_171 : decode cX8_passes 171 = .ok (.goto 8, 3) := dX8_passes_158_b.2.2.2.2.2.2.2.2.2.2.2
theorem dX8_passes_174_b : (decode cX8_passes 174 = .ok (.aload_n 0, 1)) ∧ (decode cX8_passes 175 = .ok (.iload_n 3, 1)) ∧ (decode cX8_passes 176 = .ok (.iconst 3, 1)) ∧ (decode cX8_passes 177 = .ok (.iadd, 1)) ∧ (decode cX8_passes 178 = .ok (.iaload, 1)) ∧ (decode cX8_passes 179 = .ok (.iastore, 1)) ∧ (decode cX8_passes 180 = .ok (.iinc 2 1, 3)) ∧ (decode cX8_passes 183 = .ok (.goto (-112), 3)) ∧ (decode cX8_passes 186 = .ok (.return_, 1)) := by decide +kernel
theorem dX8_passes_174 : decode cX8_passes 174 = .ok (.aload_n 0, 1) := dX8_passes_174_b.1
theorem dX8_passes_175 : decode cX8_passes 175 = .ok (.iload_n 3, 1) := dX8_passes_174_b.2.1
theorem dX8_passes_176 : decode cX8_passes 176 = .ok (.iconst 3, 1) := dX8_passes_174_b.2.2.1
theorem dX8_passes_177 : decode cX8_passes 177 = .ok (.iadd, 1) := dX8_passes_174_b.2.2.2.1
theorem dX8_passes_178 : decode cX8_passes 178 = .ok (.iaload, 1) := dX8_passes_174_b.2.2.2.2.1
theorem dX8_passes_179 : decode cX8_passes 179 = .ok (.iastore, 1) := dX8_passes_174_b.2.2.2.2.2.1
theorem dX8_passes_180 : decode cX8_passes 180 = .ok (.iinc 2 1, 3) := dX8_passes_174_b.2.2.2.2.2.2.1
theorem dX8_passes_183 : decode cX8_passes 183 = .ok (.goto (-112), 3) := dX8_passes_174_b.2.2.2.2.2.2.2.1
theorem dX8_passes_186 : decode cX8_passes 186 = .ok (.return_, 1) := dX8_passes_174_b.2.2.2.2.2.2.2.2
theorem dX8_partsIn_0_b : (decode cX8_partsIn 0 = .ok (.iconst 0, 1)) ∧ (decode cX8_partsIn 1 = .ok (.istore_n 2, 1)) ∧ (decode cX8_partsIn 2 = .ok (.iload_n 2, 1)) ∧ (decode cX8_partsIn 3 = .ok (.iload_n 1, 1)) ∧ (decode cX8_partsIn 4 = .ok (.if_icmp .ge 16, 3)) ∧ (decode cX8_partsIn 7 = .ok (.aload_n 0, 1)) ∧ (decode cX8_partsIn 8 = .ok (.getfield 41, 3)) ∧ (decode cX8_partsIn 11 = .ok (.invokestatic 167, 3)) ∧ (decode cX8_partsIn 14 = .ok (.iinc 2 1, 3)) ∧ (decode cX8_partsIn 17 = .ok (.goto (-15), 3)) ∧ (decode cX8_partsIn 20 = .ok (.aload_n 0, 1)) ∧ (decode cX8_partsIn 21 = .ok (.getfield 41, 3)) := by decide +kernel
theorem dX8_partsIn_0 : decode cX8_partsIn 0 = .ok (.iconst 0, 1) := dX8_partsIn_0_b.1
theorem dX8_partsIn_1 : decode cX8_partsIn 1 = .ok (.istore_n 2, 1) := dX8_partsIn_0_b.2.1
theorem dX8_partsIn_2 : decode cX8_partsIn 2 = .ok (.iload_n 2, 1) := dX8_partsIn_0_b.2.2.1
theorem dX8_partsIn_3 : decode cX8_partsIn 3 = .ok (.iload_n 1, 1) := dX8_partsIn_0_b.2.2.2.1
theorem dX8_partsIn_4 : decode cX8_partsIn 4 = .ok (.if_icmp .ge 16, 3) := dX8_partsIn_0_b.2.2.2.2.1
theorem dX8_partsIn_7 : decode cX8_partsIn 7 = .ok (.aload_n 0, 1) := dX8_partsIn_0_b.2.2.2.2.2.1
theorem dX8_partsIn_8 : decode cX8_partsIn 8 = .ok (.getfield 41, 3) := dX8_partsIn_0_b.2.2.2.2.2.2.1
theorem dX8_partsIn_11 : decode cX8_partsIn 11 = .ok (.invokestatic 167, 3) := dX8_partsIn_0_b.2.2.2.2.2.2.2.1
theorem dX8_partsIn_14 : decode cX8_partsIn 14 = .ok (.iinc 2 1, 3) := dX8_partsIn_0_b.2.2.2.2.2.2.2.2.1
theorem dX8_partsIn_17 : decode cX8_partsIn 17 = .ok (.goto (-15), 3) := dX8_partsIn_0_b.2.2.2.2.2.2.2.2.2.1
theorem dX8_partsIn_20 : decode cX8_partsIn 20 = .ok (.aload_n 0, 1) := dX8_partsIn_0_b.2.2.2.2.2.2.2.2.2.2.1
theorem dX8_partsIn_21 : decode cX8_partsIn 21 = .ok (.getfield 41, 3) := dX8_partsIn_0_b.2.2.2.2.2.2.2.2.2.2.2
theorem dX8_partsIn_24_b : (decode cX8_partsIn 24 = .ok (.iconst 3, 1)) ∧ (decode cX8_partsIn 25 = .ok (.iaload, 1)) ∧ (decode cX8_partsIn 26 = .ok (.ireturn, 1)) := by decide +kernel
theorem dX8_partsIn_24 : decode cX8_partsIn 24 = .ok (.iconst 3, 1) := dX8_partsIn_24_b.1
theorem dX8_partsIn_25 : decode cX8_partsIn 25 = .ok (.iaload, 1) := dX8_partsIn_24_b.2.1
theorem dX8_partsIn_26 : decode cX8_partsIn 26 = .ok (.ireturn, 1) := dX8_partsIn_24_b.2.2
theorem dX8_notes_0_b : (decode cX8_notes 0 = .ok (.aload_n 0, 1)) ∧ (decode cX8_notes 1 = .ok (.getfield 138, 3)) ∧ (decode cX8_notes 4 = .ok (.bipush 24, 2)) ∧ (decode cX8_notes 6 = .ok (.if_icmp .ne 43, 3)) ∧ (decode cX8_notes 9 = .ok (.iconst 0, 1)) ∧ (decode cX8_notes 10 = .ok (.istore_n 1, 1)) ∧ (decode cX8_notes 11 = .ok (.iload_n 1, 1)) ∧ (decode cX8_notes 12 = .ok (.sipush 1564, 3)) ∧ (decode cX8_notes 15 = .ok (.if_icmp .ge 24, 3)) ∧ (decode cX8_notes 18 = .ok (.aload_n 0, 1)) ∧ (decode cX8_notes 19 = .ok (.getfield 31, 3)) ∧ (decode cX8_notes 22 = .ok (.iload_n 1, 1)) := by decide +kernel
theorem dX8_notes_0 : decode cX8_notes 0 = .ok (.aload_n 0, 1) := dX8_notes_0_b.1
theorem dX8_notes_1 : decode cX8_notes 1 = .ok (.getfield 138, 3) := dX8_notes_0_b.2.1
theorem dX8_notes_4 : decode cX8_notes 4 = .ok (.bipush 24, 2) := dX8_notes_0_b.2.2.1
theorem dX8_notes_6 : decode cX8_notes 6 = .ok (.if_icmp .ne 43, 3) := dX8_notes_0_b.2.2.2.1
theorem dX8_notes_9 : decode cX8_notes 9 = .ok (.iconst 0, 1) := dX8_notes_0_b.2.2.2.2.1
theorem dX8_notes_10 : decode cX8_notes 10 = .ok (.istore_n 1, 1) := dX8_notes_0_b.2.2.2.2.2.1
theorem dX8_notes_11 : decode cX8_notes 11 = .ok (.iload_n 1, 1) := dX8_notes_0_b.2.2.2.2.2.2.1
theorem dX8_notes_12 : decode cX8_notes 12 = .ok (.sipush 1564, 3) := dX8_notes_0_b.2.2.2.2.2.2.2.1
theorem dX8_notes_15 : decode cX8_notes 15 = .ok (.if_icmp .ge 24, 3) := dX8_notes_0_b.2.2.2.2.2.2.2.2.1
theorem dX8_notes_18 : decode cX8_notes 18 = .ok (.aload_n 0, 1) := dX8_notes_0_b.2.2.2.2.2.2.2.2.2.1
theorem dX8_notes_19 : decode cX8_notes 19 = .ok (.getfield 31, 3) := dX8_notes_0_b.2.2.2.2.2.2.2.2.2.2.1
theorem dX8_notes_22 : decode cX8_notes 22 = .ok (.iload_n 1, 1) := dX8_notes_0_b.2.2.2.2.2.2.2.2.2.2.2
theorem dX8_notes_23_b : (decode cX8_notes 23 = .ok (.aload_n 0, 1)) ∧ (decode cX8_notes 24 = .ok (.getfield 31, 3)) ∧ (decode cX8_notes 27 = .ok (.iload_n 1, 1)) ∧ (decode cX8_notes 28 = .ok (.bipush 68, 2)) ∧ (decode cX8_notes 30 = .ok (.iadd, 1)) ∧ (decode cX8_notes 31 = .ok (.iaload, 1)) ∧ (decode cX8_notes 32 = .ok (.iastore, 1)) ∧ (decode cX8_notes 33 = .ok (.iinc 1 1, 3)) ∧ (decode cX8_notes 36 = .ok (.goto (-25), 3)) ∧ (decode cX8_notes 39 = .ok (.aload_n 0, 1)) ∧ (decode cX8_notes 40 = .ok (.dup, 1)) ∧ (decode cX8_notes 41 = .ok (.getfield 138, 3)) := by decide +kernel
theorem dX8_notes_23 : decode cX8_notes 23 = .ok (.aload_n 0, 1) := dX8_notes_23_b.1
theorem dX8_notes_24 : decode cX8_notes 24 = .ok (.getfield 31, 3) := dX8_notes_23_b.2.1
theorem dX8_notes_27 : decode cX8_notes 27 = .ok (.iload_n 1, 1) := dX8_notes_23_b.2.2.1
theorem dX8_notes_28 : decode cX8_notes 28 = .ok (.bipush 68, 2) := dX8_notes_23_b.2.2.2.1
theorem dX8_notes_30 : decode cX8_notes 30 = .ok (.iadd, 1) := dX8_notes_23_b.2.2.2.2.1
theorem dX8_notes_31 : decode cX8_notes 31 = .ok (.iaload, 1) := dX8_notes_23_b.2.2.2.2.2.1
theorem dX8_notes_32 : decode cX8_notes 32 = .ok (.iastore, 1) := dX8_notes_23_b.2.2.2.2.2.2.1
theorem dX8_notes_33 : decode cX8_notes 33 = .ok (.iinc 1 1, 3) := dX8_notes_23_b.2.2.2.2.2.2.2.1
theorem dX8_notes_36 : decode cX8_notes 36 = .ok (.goto (-25), 3) := dX8_notes_23_b.2.2.2.2.2.2.2.2.1
theorem dX8_notes_39 : decode cX8_notes 39 = .ok (.aload_n 0, 1) := dX8_notes_23_b.2.2.2.2.2.2.2.2.2.1
theorem dX8_notes_40 : decode cX8_notes 40 = .ok (.dup, 1) := dX8_notes_23_b.2.2.2.2.2.2.2.2.2.2.1
theorem dX8_notes_41 : decode cX8_notes 41 = .ok (.getfield 138, 3) := dX8_notes_23_b.2.2.2.2.2.2.2.2.2.2.2
theorem dX8_notes_44_b : (decode cX8_notes 44 = .ok (.iconst 1, 1)) ∧ (decode cX8_notes 45 = .ok (.isub, 1)) ∧ (decode cX8_notes 46 = .ok (.putfield 138, 3)) ∧ (decode cX8_notes 49 = .ok (.aload_n 0, 1)) ∧ (decode cX8_notes 50 = .ok (.getfield 25, 3)) ∧ (decode cX8_notes 53 = .ok (.iconst 0, 1)) ∧ (decode cX8_notes 54 = .ok (.aload_n 0, 1)) ∧ (decode cX8_notes 55 = .ok (.getfield 31, 3)) ∧ (decode cX8_notes 58 = .ok (.bipush 68, 2)) ∧ (decode cX8_notes 60 = .ok (.aload_n 0, 1)) ∧ (decode cX8_notes 61 = .ok (.getfield 138, 3)) ∧ (decode cX8_notes 64 = .ok (.imul, 1)) := by decide +kernel
theorem dX8_notes_44 : decode cX8_notes 44 = .ok (.iconst 1, 1) := dX8_notes_44_b.1
theorem dX8_notes_45 : decode cX8_notes 45 = .ok (.isub, 1) := dX8_notes_44_b.2.1
theorem dX8_notes_46 : decode cX8_notes 46 = .ok (.putfield 138, 3) := dX8_notes_44_b.2.2.1
theorem dX8_notes_49 : decode cX8_notes 49 = .ok (.aload_n 0, 1) := dX8_notes_44_b.2.2.2.1
theorem dX8_notes_50 : decode cX8_notes 50 = .ok (.getfield 25, 3) := dX8_notes_44_b.2.2.2.2.1
theorem dX8_notes_53 : decode cX8_notes 53 = .ok (.iconst 0, 1) := dX8_notes_44_b.2.2.2.2.2.1
theorem dX8_notes_54 : decode cX8_notes 54 = .ok (.aload_n 0, 1) := dX8_notes_44_b.2.2.2.2.2.2.1
theorem dX8_notes_55 : decode cX8_notes 55 = .ok (.getfield 31, 3) := dX8_notes_44_b.2.2.2.2.2.2.2.1
theorem dX8_notes_58 : decode cX8_notes 58 = .ok (.bipush 68, 2) := dX8_notes_44_b.2.2.2.2.2.2.2.2.1
theorem dX8_notes_60 : decode cX8_notes 60 = .ok (.aload_n 0, 1) := dX8_notes_44_b.2.2.2.2.2.2.2.2.2.1
theorem dX8_notes_61 : decode cX8_notes 61 = .ok (.getfield 138, 3) := dX8_notes_44_b.2.2.2.2.2.2.2.2.2.2.1
theorem dX8_notes_64 : decode cX8_notes 64 = .ok (.imul, 1) := dX8_notes_44_b.2.2.2.2.2.2.2.2.2.2.2
theorem dX8_notes_65_b : (decode cX8_notes 65 = .ok (.invokestatic 134, 3)) ∧ (decode cX8_notes 68 = .ok (.aload_n 0, 1)) ∧ (decode cX8_notes 69 = .ok (.dup, 1)) ∧ (decode cX8_notes 70 = .ok (.getfield 138, 3)) ∧ (decode cX8_notes 73 = .ok (.iconst 1, 1)) ∧ (decode cX8_notes 74 = .ok (.iadd, 1)) ∧ (decode cX8_notes 75 = .ok (.putfield 138, 3)) ∧ (decode cX8_notes 78 = .ok (.return_, 1)) := by decide +kernel
theorem dX8_notes_65 : decode cX8_notes 65 = .ok (.invokestatic 134, 3) := dX8_notes_65_b.1
theorem dX8_notes_68 : decode cX8_notes 68 = .ok (.aload_n 0, 1) := dX8_notes_65_b.2.1
theorem dX8_notes_69 : decode cX8_notes 69 = .ok (.dup, 1) := dX8_notes_65_b.2.2.1
theorem dX8_notes_70 : decode cX8_notes 70 = .ok (.getfield 138, 3) := dX8_notes_65_b.2.2.2.1
theorem dX8_notes_73 : decode cX8_notes 73 = .ok (.iconst 1, 1) := dX8_notes_65_b.2.2.2.2.1
theorem dX8_notes_74 : decode cX8_notes 74 = .ok (.iadd, 1) := dX8_notes_65_b.2.2.2.2.2.1
theorem dX8_notes_75 : decode cX8_notes 75 = .ok (.putfield 138, 3) := dX8_notes_65_b.2.2.2.2.2.2.1
theorem dX8_notes_78 : decode cX8_notes 78 = .ok (.return_, 1) := dX8_notes_65_b.2.2.2.2.2.2.2
theorem dX8_quarters_0_b : (decode cX8_quarters 0 = .ok (.aload_n 0, 1)) ∧ (decode cX8_quarters 1 = .ok (.invokevirtual 171, 3)) ∧ (decode cX8_quarters 4 = .ok (.ifCond .ne 6, 3)) ∧ (decode cX8_quarters 7 = .ok (.ldc 174, 2)) ∧ (decode cX8_quarters 9 = .ok (.ireturn, 1)) ∧ (decode cX8_quarters 10 = .ok (.iload_n 1, 1)) ∧ (decode cX8_quarters 11 = .ok (.iconst 1, 1)) ∧ (decode cX8_quarters 12 = .ok (.bipush 20, 2)) ∧ (decode cX8_quarters 14 = .ok (.invokestatic 56, 3)) ∧ (decode cX8_quarters 17 = .ok (.ifCond .ne 6, 3)) ∧ (decode cX8_quarters 20 = .ok (.ldc 64, 2)) ∧ (decode cX8_quarters 22 = .ok (.ireturn, 1)) := by decide +kernel
theorem dX8_quarters_0 : decode cX8_quarters 0 = .ok (.aload_n 0, 1) := dX8_quarters_0_b.1
theorem dX8_quarters_1 : decode cX8_quarters 1 = .ok (.invokevirtual 171, 3) := dX8_quarters_0_b.2.1
theorem dX8_quarters_4 : decode cX8_quarters 4 = .ok (.ifCond .ne 6, 3) := dX8_quarters_0_b.2.2.1
theorem dX8_quarters_7 : decode cX8_quarters 7 = .ok (.ldc 174, 2) := dX8_quarters_0_b.2.2.2.1
theorem dX8_quarters_9 : decode cX8_quarters 9 = .ok (.ireturn, 1) := dX8_quarters_0_b.2.2.2.2.1
theorem dX8_quarters_10 : decode cX8_quarters 10 = .ok (.iload_n 1, 1) := dX8_quarters_0_b.2.2.2.2.2.1
theorem dX8_quarters_11 : decode cX8_quarters 11 = .ok (.iconst 1, 1) := dX8_quarters_0_b.2.2.2.2.2.2.1
theorem dX8_quarters_12 : decode cX8_quarters 12 = .ok (.bipush 20, 2) := dX8_quarters_0_b.2.2.2.2.2.2.2.1
theorem dX8_quarters_14 : decode cX8_quarters 14 = .ok (.invokestatic 56, 3) := dX8_quarters_0_b.2.2.2.2.2.2.2.2.1
theorem dX8_quarters_17 : decode cX8_quarters 17 = .ok (.ifCond .ne 6, 3) := dX8_quarters_0_b.2.2.2.2.2.2.2.2.2.1
theorem dX8_quarters_20 : decode cX8_quarters 20 = .ok (.ldc 64, 2) := dX8_quarters_0_b.2.2.2.2.2.2.2.2.2.2.1
theorem dX8_quarters_22 : decode cX8_quarters 22 = .ok (.ireturn, 1) := dX8_quarters_0_b.2.2.2.2.2.2.2.2.2.2.2
theorem dX8_quarters_23_b : (decode cX8_quarters 23 = .ok (.aload_n 0, 1)) ∧ (decode cX8_quarters 24 = .ok (.getfield 25, 3)) ∧ (decode cX8_quarters 27 = .ok (.iconst 2, 1)) ∧ (decode cX8_quarters 28 = .ok (.iaload, 1)) ∧ (decode cX8_quarters 29 = .ok (.iload_n 1, 1)) ∧ (decode cX8_quarters 30 = .ok (.iadd, 1)) ∧ (decode cX8_quarters 31 = .ok (.sipush 999, 3)) ∧ (decode cX8_quarters 34 = .ok (.if_icmp .le 6, 3)) ∧ (decode cX8_quarters 37 = .ok (.ldc 85, 2)) ∧ (decode cX8_quarters 39 = .ok (.ireturn, 1)) ∧ (decode cX8_quarters 40 = .ok (.iconst 0, 1)) ∧ (decode cX8_quarters 41 = .ok (.istore_n 2, 1)) := by decide +kernel
theorem dX8_quarters_23 : decode cX8_quarters 23 = .ok (.aload_n 0, 1) := dX8_quarters_23_b.1
theorem dX8_quarters_24 : decode cX8_quarters 24 = .ok (.getfield 25, 3) := dX8_quarters_23_b.2.1
theorem dX8_quarters_27 : decode cX8_quarters 27 = .ok (.iconst 2, 1) := dX8_quarters_23_b.2.2.1
theorem dX8_quarters_28 : decode cX8_quarters 28 = .ok (.iaload, 1) := dX8_quarters_23_b.2.2.2.1
theorem dX8_quarters_29 : decode cX8_quarters 29 = .ok (.iload_n 1, 1) := dX8_quarters_23_b.2.2.2.2.1
theorem dX8_quarters_30 : decode cX8_quarters 30 = .ok (.iadd, 1) := dX8_quarters_23_b.2.2.2.2.2.1
theorem dX8_quarters_31 : decode cX8_quarters 31 = .ok (.sipush 999, 3) := dX8_quarters_23_b.2.2.2.2.2.2.1
theorem dX8_quarters_34 : decode cX8_quarters 34 = .ok (.if_icmp .le 6, 3) := dX8_quarters_23_b.2.2.2.2.2.2.2.1
theorem dX8_quarters_37 : decode cX8_quarters 37 = .ok (.ldc 85, 2) := dX8_quarters_23_b.2.2.2.2.2.2.2.2.1
theorem dX8_quarters_39 : decode cX8_quarters 39 = .ok (.ireturn, 1) := dX8_quarters_23_b.2.2.2.2.2.2.2.2.2.1
theorem dX8_quarters_40 : decode cX8_quarters 40 = .ok (.iconst 0, 1) := dX8_quarters_23_b.2.2.2.2.2.2.2.2.2.2.1
theorem dX8_quarters_41 : decode cX8_quarters 41 = .ok (.istore_n 2, 1) := dX8_quarters_23_b.2.2.2.2.2.2.2.2.2.2.2
theorem dX8_quarters_42_b : (decode cX8_quarters 42 = .ok (.iload_n 2, 1)) ∧ (decode cX8_quarters 43 = .ok (.iload_n 1, 1)) ∧ (decode cX8_quarters 44 = .ok (.if_icmp .ge 20, 3)) ∧ (decode cX8_quarters 47 = .ok (.aload_n 0, 1)) ∧ (decode cX8_quarters 48 = .ok (.invokevirtual 175, 3)) ∧ (decode cX8_quarters 51 = .ok (.aload_n 0, 1)) ∧ (decode cX8_quarters 52 = .ok (.getfield 25, 3)) ∧ (decode cX8_quarters 55 = .ok (.invokestatic 167, 3)) ∧ (decode cX8_quarters 58 = .ok (.iinc 2 1, 3)) ∧ (decode cX8_quarters 61 = .ok (.goto (-19), 3)) ∧ (decode cX8_quarters 64 = .ok (.aload_n 0, 1)) ∧ (decode cX8_quarters 65 = .ok (.getfield 25, 3)) := by decide +kernel
theorem dX8_quarters_42 : decode cX8_quarters 42 = .ok (.iload_n 2, 1) := dX8_quarters_42_b.1
theorem dX8_quarters_43 : decode cX8_quarters 43 = .ok (.iload_n 1, 1) := dX8_quarters_42_b.2.1
theorem dX8_quarters_44 : decode cX8_quarters 44 = .ok (.if_icmp .ge 20, 3) := dX8_quarters_42_b.2.2.1
theorem dX8_quarters_47 : decode cX8_quarters 47 = .ok (.aload_n 0, 1) := dX8_quarters_42_b.2.2.2.1
theorem dX8_quarters_48 : decode cX8_quarters 48 = .ok (.invokevirtual 175, 3) := dX8_quarters_42_b.2.2.2.2.1
theorem dX8_quarters_51 : decode cX8_quarters 51 = .ok (.aload_n 0, 1) := dX8_quarters_42_b.2.2.2.2.2.1
theorem dX8_quarters_52 : decode cX8_quarters 52 = .ok (.getfield 25, 3) := dX8_quarters_42_b.2.2.2.2.2.2.1
theorem dX8_quarters_55 : decode cX8_quarters 55 = .ok (.invokestatic 167, 3) := dX8_quarters_42_b.2.2.2.2.2.2.2.1
theorem dX8_quarters_58 : decode cX8_quarters 58 = .ok (.iinc 2 1, 3) := dX8_quarters_42_b.2.2.2.2.2.2.2.2.1
theorem dX8_quarters_61 : decode cX8_quarters 61 = .ok (.goto (-19), 3) := dX8_quarters_42_b.2.2.2.2.2.2.2.2.2.1
theorem dX8_quarters_64 : decode cX8_quarters 64 = .ok (.aload_n 0, 1) := dX8_quarters_42_b.2.2.2.2.2.2.2.2.2.2.1
theorem dX8_quarters_65 : decode cX8_quarters 65 = .ok (.getfield 25, 3) := dX8_quarters_42_b.2.2.2.2.2.2.2.2.2.2.2
theorem dX8_quarters_68_b : (decode cX8_quarters 68 = .ok (.iconst 3, 1)) ∧ (decode cX8_quarters 69 = .ok (.iaload, 1)) ∧ (decode cX8_quarters 70 = .ok (.ireturn, 1)) := by decide +kernel
theorem dX8_quarters_68 : decode cX8_quarters 68 = .ok (.iconst 3, 1) := dX8_quarters_68_b.1
theorem dX8_quarters_69 : decode cX8_quarters 69 = .ok (.iaload, 1) := dX8_quarters_68_b.2.1
theorem dX8_quarters_70 : decode cX8_quarters 70 = .ok (.ireturn, 1) := dX8_quarters_68_b.2.2
theorem dX8_go_0_b : (decode cX8_go 0 = .ok (.aload_n 0, 1)) ∧ (decode cX8_go 1 = .ok (.iload_n 1, 1)) ∧ (decode cX8_go 2 = .ok (.invokevirtual 178, 3)) ∧ (decode cX8_go 5 = .ok (.ifCond .eq 12, 3)) ∧ (decode cX8_go 8 = .ok (.iload_n 2, 1)) ∧ (decode cX8_go 9 = .ok (.iconst 0, 1)) ∧ (decode cX8_go 10 = .ok (.iconst 3, 1)) ∧ (decode cX8_go 11 = .ok (.invokestatic 56, 3)) ∧ (decode cX8_go 14 = .ok (.ifCond .ne 6, 3)) ∧ (decode cX8_go 17 = .ok (.ldc 64, 2)) ∧ (decode cX8_go 19 = .ok (.ireturn, 1)) ∧ (decode cX8_go 20 = .ok (.aload_n 0, 1)) := by decide +kernel
theorem dX8_go_0 : decode cX8_go 0 = .ok (.aload_n 0, 1) := dX8_go_0_b.1
theorem dX8_go_1 : decode cX8_go 1 = .ok (.iload_n 1, 1) := dX8_go_0_b.2.1
theorem dX8_go_2 : decode cX8_go 2 = .ok (.invokevirtual 178, 3) := dX8_go_0_b.2.2.1
theorem dX8_go_5 : decode cX8_go 5 = .ok (.ifCond .eq 12, 3) := dX8_go_0_b.2.2.2.1
theorem dX8_go_8 : decode cX8_go 8 = .ok (.iload_n 2, 1) := dX8_go_0_b.2.2.2.2.1
theorem dX8_go_9 : decode cX8_go 9 = .ok (.iconst 0, 1) := dX8_go_0_b.2.2.2.2.2.1
theorem dX8_go_10 : decode cX8_go 10 = .ok (.iconst 3, 1) := dX8_go_0_b.2.2.2.2.2.2.1
theorem dX8_go_11 : decode cX8_go 11 = .ok (.invokestatic 56, 3) := dX8_go_0_b.2.2.2.2.2.2.2.1
theorem dX8_go_14 : decode cX8_go 14 = .ok (.ifCond .ne 6, 3) := dX8_go_0_b.2.2.2.2.2.2.2.2.1
theorem dX8_go_17 : decode cX8_go 17 = .ok (.ldc 64, 2) := dX8_go_0_b.2.2.2.2.2.2.2.2.2.1
theorem dX8_go_19 : decode cX8_go 19 = .ok (.ireturn, 1) := dX8_go_0_b.2.2.2.2.2.2.2.2.2.2.1
theorem dX8_go_20 : decode cX8_go 20 = .ok (.aload_n 0, 1) := dX8_go_0_b.2.2.2.2.2.2.2.2.2.2.2
theorem dX8_go_21_b : (decode cX8_go 21 = .ok (.getfield 25, 3)) ∧ (decode cX8_go 24 = .ok (.bipush 6, 2)) ∧ (decode cX8_go 26 = .ok (.bipush 7, 2)) ∧ (decode cX8_go 28 = .ok (.iload_n 1, 1)) ∧ (decode cX8_go 29 = .ok (.imul, 1)) ∧ (decode cX8_go 30 = .ok (.iadd, 1)) ∧ (decode cX8_go 31 = .ok (.iconst 2, 1)) ∧ (decode cX8_go 32 = .ok (.iadd, 1)) ∧ (decode cX8_go 33 = .ok (.iaload, 1)) ∧ (decode cX8_go 34 = .ok (.istore_n 3, 1)) ∧ (decode cX8_go 35 = .ok (.iload_n 3, 1)) ∧ (decode cX8_go 36 = .ok (.iload_n 2, 1)) := by decide +kernel
theorem dX8_go_21 : decode cX8_go 21 = .ok (.getfield 25, 3) := dX8_go_21_b.1
theorem dX8_go_24 : decode cX8_go 24 = .ok (.bipush 6, 2) := dX8_go_21_b.2.1
theorem dX8_go_26 : decode cX8_go 26 = .ok (.bipush 7, 2) := dX8_go_21_b.2.2.1
theorem dX8_go_28 : decode cX8_go 28 = .ok (.iload_n 1, 1) := dX8_go_21_b.2.2.2.1
theorem dX8_go_29 : decode cX8_go 29 = .ok (.imul, 1) := dX8_go_21_b.2.2.2.2.1
theorem dX8_go_30 : decode cX8_go 30 = .ok (.iadd, 1) := dX8_go_21_b.2.2.2.2.2.1
theorem dX8_go_31 : decode cX8_go 31 = .ok (.iconst 2, 1) := dX8_go_21_b.2.2.2.2.2.2.1
theorem dX8_go_32 : decode cX8_go 32 = .ok (.iadd, 1) := dX8_go_21_b.2.2.2.2.2.2.2.1
theorem dX8_go_33 : decode cX8_go 33 = .ok (.iaload, 1) := dX8_go_21_b.2.2.2.2.2.2.2.2.1
theorem dX8_go_34 : decode cX8_go 34 = .ok (.istore_n 3, 1) := dX8_go_21_b.2.2.2.2.2.2.2.2.2.1
theorem dX8_go_35 : decode cX8_go 35 = .ok (.iload_n 3, 1) := dX8_go_21_b.2.2.2.2.2.2.2.2.2.2.1
theorem dX8_go_36 : decode cX8_go 36 = .ok (.iload_n 2, 1) := dX8_go_21_b.2.2.2.2.2.2.2.2.2.2.2
theorem dX8_go_37_b : (decode cX8_go 37 = .ok (.if_icmp .ne 6, 3)) ∧ (decode cX8_go 40 = .ok (.ldc 174, 2)) ∧ (decode cX8_go 42 = .ok (.ireturn, 1)) ∧ (decode cX8_go 43 = .ok (.aload_n 0, 1)) ∧ (decode cX8_go 44 = .ok (.invokevirtual 175, 3)) ∧ (decode cX8_go 47 = .ok (.aload_n 0, 1)) ∧ (decode cX8_go 48 = .ok (.getfield 25, 3)) ∧ (decode cX8_go 51 = .ok (.bipush 6, 2)) ∧ (decode cX8_go 53 = .ok (.bipush 7, 2)) ∧ (decode cX8_go 55 = .ok (.iload_n 1, 1)) ∧ (decode cX8_go 56 = .ok (.imul, 1)) ∧ (decode cX8_go 57 = .ok (.iadd, 1)) := by decide +kernel
theorem dX8_go_37 : decode cX8_go 37 = .ok (.if_icmp .ne 6, 3) := dX8_go_37_b.1
theorem dX8_go_40 : decode cX8_go 40 = .ok (.ldc 174, 2) := dX8_go_37_b.2.1
theorem dX8_go_42 : decode cX8_go 42 = .ok (.ireturn, 1) := dX8_go_37_b.2.2.1
theorem dX8_go_43 : decode cX8_go 43 = .ok (.aload_n 0, 1) := dX8_go_37_b.2.2.2.1
theorem dX8_go_44 : decode cX8_go 44 = .ok (.invokevirtual 175, 3) := dX8_go_37_b.2.2.2.2.1
theorem dX8_go_47 : decode cX8_go 47 = .ok (.aload_n 0, 1) := dX8_go_37_b.2.2.2.2.2.1
theorem dX8_go_48 : decode cX8_go 48 = .ok (.getfield 25, 3) := dX8_go_37_b.2.2.2.2.2.2.1
theorem dX8_go_51 : decode cX8_go 51 = .ok (.bipush 6, 2) := dX8_go_37_b.2.2.2.2.2.2.2.1
theorem dX8_go_53 : decode cX8_go 53 = .ok (.bipush 7, 2) := dX8_go_37_b.2.2.2.2.2.2.2.2.1
theorem dX8_go_55 : decode cX8_go 55 = .ok (.iload_n 1, 1) := dX8_go_37_b.2.2.2.2.2.2.2.2.2.1
theorem dX8_go_56 : decode cX8_go 56 = .ok (.imul, 1) := dX8_go_37_b.2.2.2.2.2.2.2.2.2.2.1
theorem dX8_go_57 : decode cX8_go 57 = .ok (.iadd, 1) := dX8_go_37_b.2.2.2.2.2.2.2.2.2.2.2
theorem dX8_go_58_b : (decode cX8_go 58 = .ok (.iconst 2, 1)) ∧ (decode cX8_go 59 = .ok (.iadd, 1)) ∧ (decode cX8_go 60 = .ok (.iload_n 2, 1)) ∧ (decode cX8_go 61 = .ok (.iastore, 1)) ∧ (decode cX8_go 62 = .ok (.iload_n 3, 1)) ∧ (decode cX8_go 63 = .ok (.ireturn, 1)) := by decide +kernel
theorem dX8_go_58 : decode cX8_go 58 = .ok (.iconst 2, 1) := dX8_go_58_b.1
theorem dX8_go_59 : decode cX8_go 59 = .ok (.iadd, 1) := dX8_go_58_b.2.1
theorem dX8_go_60 : decode cX8_go 60 = .ok (.iload_n 2, 1) := dX8_go_58_b.2.2.1
theorem dX8_go_61 : decode cX8_go 61 = .ok (.iastore, 1) := dX8_go_58_b.2.2.2.1
theorem dX8_go_62 : decode cX8_go 62 = .ok (.iload_n 3, 1) := dX8_go_58_b.2.2.2.2.1
theorem dX8_go_63 : decode cX8_go 63 = .ok (.ireturn, 1) := dX8_go_58_b.2.2.2.2.2
theorem dX8_hushed_0_b : (decode cX8_hushed 0 = .ok (.iconst 0, 1)) ∧ (decode cX8_hushed 1 = .ok (.istore_n 1, 1)) ∧ (decode cX8_hushed 2 = .ok (.iconst 0, 1)) ∧ (decode cX8_hushed 3 = .ok (.istore_n 2, 1)) ∧ (decode cX8_hushed 4 = .ok (.iload_n 2, 1)) ∧ (decode cX8_hushed 5 = .ok (.aload_n 0, 1)) ∧ (decode cX8_hushed 6 = .ok (.getfield 25, 3)) ∧ (decode cX8_hushed 9 = .ok (.iconst 4, 1)) ∧ (decode cX8_hushed 10 = .ok (.iaload, 1)) ∧ (decode cX8_hushed 11 = .ok (.if_icmp .ge 26, 3)) ∧ (decode cX8_hushed 14 = .ok (.iload_n 1, 1)) ∧ (decode cX8_hushed 15 = .ok (.aload_n 0, 1)) := by decide +kernel
theorem dX8_hushed_0 : decode cX8_hushed 0 = .ok (.iconst 0, 1) := dX8_hushed_0_b.1
theorem dX8_hushed_1 : decode cX8_hushed 1 = .ok (.istore_n 1, 1) := dX8_hushed_0_b.2.1
theorem dX8_hushed_2 : decode cX8_hushed 2 = .ok (.iconst 0, 1) := dX8_hushed_0_b.2.2.1
theorem dX8_hushed_3 : decode cX8_hushed 3 = .ok (.istore_n 2, 1) := dX8_hushed_0_b.2.2.2.1
theorem dX8_hushed_4 : decode cX8_hushed 4 = .ok (.iload_n 2, 1) := dX8_hushed_0_b.2.2.2.2.1
theorem dX8_hushed_5 : decode cX8_hushed 5 = .ok (.aload_n 0, 1) := dX8_hushed_0_b.2.2.2.2.2.1
theorem dX8_hushed_6 : decode cX8_hushed 6 = .ok (.getfield 25, 3) := dX8_hushed_0_b.2.2.2.2.2.2.1
theorem dX8_hushed_9 : decode cX8_hushed 9 = .ok (.iconst 4, 1) := dX8_hushed_0_b.2.2.2.2.2.2.2.1
theorem dX8_hushed_10 : decode cX8_hushed 10 = .ok (.iaload, 1) := dX8_hushed_0_b.2.2.2.2.2.2.2.2.1
theorem dX8_hushed_11 : decode cX8_hushed 11 = .ok (.if_icmp .ge 26, 3) := dX8_hushed_0_b.2.2.2.2.2.2.2.2.2.1
theorem dX8_hushed_14 : decode cX8_hushed 14 = .ok (.iload_n 1, 1) := dX8_hushed_0_b.2.2.2.2.2.2.2.2.2.2.1
theorem dX8_hushed_15 : decode cX8_hushed 15 = .ok (.aload_n 0, 1) := dX8_hushed_0_b.2.2.2.2.2.2.2.2.2.2.2
theorem dX8_hushed_16_b : (decode cX8_hushed 16 = .ok (.getfield 25, 3)) ∧ (decode cX8_hushed 19 = .ok (.bipush 6, 2)) ∧ (decode cX8_hushed 21 = .ok (.bipush 7, 2)) ∧ (decode cX8_hushed 23 = .ok (.iload_n 2, 1)) ∧ (decode cX8_hushed 24 = .ok (.imul, 1)) ∧ (decode cX8_hushed 25 = .ok (.iadd, 1)) ∧ (decode cX8_hushed 26 = .ok (.iconst 5, 1)) ∧ (decode cX8_hushed 27 = .ok (.iadd, 1)) ∧ (decode cX8_hushed 28 = .ok (.iaload, 1)) ∧ (decode cX8_hushed 29 = .ok (.iadd, 1)) ∧ (decode cX8_hushed 30 = .ok (.istore_n 1, 1)) ∧ (decode cX8_hushed 31 = .ok (.iinc 2 1, 3)) := by decide +kernel
theorem dX8_hushed_16 : decode cX8_hushed 16 = .ok (.getfield 25, 3) := dX8_hushed_16_b.1
theorem dX8_hushed_19 : decode cX8_hushed 19 = .ok (.bipush 6, 2) := dX8_hushed_16_b.2.1
theorem dX8_hushed_21 : decode cX8_hushed 21 = .ok (.bipush 7, 2) := dX8_hushed_16_b.2.2.1
theorem dX8_hushed_23 : decode cX8_hushed 23 = .ok (.iload_n 2, 1) := dX8_hushed_16_b.2.2.2.1
theorem dX8_hushed_24 : decode cX8_hushed 24 = .ok (.imul, 1) := dX8_hushed_16_b.2.2.2.2.1
theorem dX8_hushed_25 : decode cX8_hushed 25 = .ok (.iadd, 1) := dX8_hushed_16_b.2.2.2.2.2.1
theorem dX8_hushed_26 : decode cX8_hushed 26 = .ok (.iconst 5, 1) := dX8_hushed_16_b.2.2.2.2.2.2.1
theorem dX8_hushed_27 : decode cX8_hushed 27 = .ok (.iadd, 1) := dX8_hushed_16_b.2.2.2.2.2.2.2.1
theorem dX8_hushed_28 : decode cX8_hushed 28 = .ok (.iaload, 1) := dX8_hushed_16_b.2.2.2.2.2.2.2.2.1
theorem dX8_hushed_29 : decode cX8_hushed 29 = .ok (.iadd, 1) := dX8_hushed_16_b.2.2.2.2.2.2.2.2.2.1
theorem dX8_hushed_30 : decode cX8_hushed 30 = .ok (.istore_n 1, 1) := dX8_hushed_16_b.2.2.2.2.2.2.2.2.2.2.1
theorem dX8_hushed_31 : decode cX8_hushed 31 = .ok (.iinc 2 1, 3) := dX8_hushed_16_b.2.2.2.2.2.2.2.2.2.2.2
theorem dX8_hushed_34_b : (decode cX8_hushed 34 = .ok (.goto (-30), 3)) ∧ (decode cX8_hushed 37 = .ok (.iload_n 1, 1)) ∧ (decode cX8_hushed 38 = .ok (.ireturn, 1)) := by decide +kernel
theorem dX8_hushed_34 : decode cX8_hushed 34 = .ok (.goto (-30), 3) := dX8_hushed_34_b.1
theorem dX8_hushed_37 : decode cX8_hushed 37 = .ok (.iload_n 1, 1) := dX8_hushed_34_b.2.1
theorem dX8_hushed_38 : decode cX8_hushed 38 = .ok (.ireturn, 1) := dX8_hushed_34_b.2.2
theorem dX8_hush_0_b : (decode cX8_hush 0 = .ok (.aload_n 0, 1)) ∧ (decode cX8_hush 1 = .ok (.iload_n 1, 1)) ∧ (decode cX8_hush 2 = .ok (.invokevirtual 178, 3)) ∧ (decode cX8_hush 5 = .ok (.ifCond .eq 12, 3)) ∧ (decode cX8_hush 8 = .ok (.iload_n 2, 1)) ∧ (decode cX8_hush 9 = .ok (.iconst 0, 1)) ∧ (decode cX8_hush 10 = .ok (.iconst 1, 1)) ∧ (decode cX8_hush 11 = .ok (.invokestatic 56, 3)) ∧ (decode cX8_hush 14 = .ok (.ifCond .ne 6, 3)) ∧ (decode cX8_hush 17 = .ok (.ldc 64, 2)) ∧ (decode cX8_hush 19 = .ok (.ireturn, 1)) ∧ (decode cX8_hush 20 = .ok (.aload_n 0, 1)) := by decide +kernel
theorem dX8_hush_0 : decode cX8_hush 0 = .ok (.aload_n 0, 1) := dX8_hush_0_b.1
theorem dX8_hush_1 : decode cX8_hush 1 = .ok (.iload_n 1, 1) := dX8_hush_0_b.2.1
theorem dX8_hush_2 : decode cX8_hush 2 = .ok (.invokevirtual 178, 3) := dX8_hush_0_b.2.2.1
theorem dX8_hush_5 : decode cX8_hush 5 = .ok (.ifCond .eq 12, 3) := dX8_hush_0_b.2.2.2.1
theorem dX8_hush_8 : decode cX8_hush 8 = .ok (.iload_n 2, 1) := dX8_hush_0_b.2.2.2.2.1
theorem dX8_hush_9 : decode cX8_hush 9 = .ok (.iconst 0, 1) := dX8_hush_0_b.2.2.2.2.2.1
theorem dX8_hush_10 : decode cX8_hush 10 = .ok (.iconst 1, 1) := dX8_hush_0_b.2.2.2.2.2.2.1
theorem dX8_hush_11 : decode cX8_hush 11 = .ok (.invokestatic 56, 3) := dX8_hush_0_b.2.2.2.2.2.2.2.1
theorem dX8_hush_14 : decode cX8_hush 14 = .ok (.ifCond .ne 6, 3) := dX8_hush_0_b.2.2.2.2.2.2.2.2.1
theorem dX8_hush_17 : decode cX8_hush 17 = .ok (.ldc 64, 2) := dX8_hush_0_b.2.2.2.2.2.2.2.2.2.1
theorem dX8_hush_19 : decode cX8_hush 19 = .ok (.ireturn, 1) := dX8_hush_0_b.2.2.2.2.2.2.2.2.2.2.1
theorem dX8_hush_20 : decode cX8_hush 20 = .ok (.aload_n 0, 1) := dX8_hush_0_b.2.2.2.2.2.2.2.2.2.2.2
theorem dX8_hush_21_b : (decode cX8_hush 21 = .ok (.getfield 25, 3)) ∧ (decode cX8_hush 24 = .ok (.bipush 6, 2)) ∧ (decode cX8_hush 26 = .ok (.bipush 7, 2)) ∧ (decode cX8_hush 28 = .ok (.iload_n 1, 1)) ∧ (decode cX8_hush 29 = .ok (.imul, 1)) ∧ (decode cX8_hush 30 = .ok (.iadd, 1)) ∧ (decode cX8_hush 31 = .ok (.iconst 5, 1)) ∧ (decode cX8_hush 32 = .ok (.iadd, 1)) ∧ (decode cX8_hush 33 = .ok (.iaload, 1)) ∧ (decode cX8_hush 34 = .ok (.iload_n 2, 1)) ∧ (decode cX8_hush 35 = .ok (.if_icmp .ne 6, 3)) ∧ (decode cX8_hush 38 = .ok (.ldc 174, 2)) := by decide +kernel
theorem dX8_hush_21 : decode cX8_hush 21 = .ok (.getfield 25, 3) := dX8_hush_21_b.1
theorem dX8_hush_24 : decode cX8_hush 24 = .ok (.bipush 6, 2) := dX8_hush_21_b.2.1
theorem dX8_hush_26 : decode cX8_hush 26 = .ok (.bipush 7, 2) := dX8_hush_21_b.2.2.1
theorem dX8_hush_28 : decode cX8_hush 28 = .ok (.iload_n 1, 1) := dX8_hush_21_b.2.2.2.1
theorem dX8_hush_29 : decode cX8_hush 29 = .ok (.imul, 1) := dX8_hush_21_b.2.2.2.2.1
theorem dX8_hush_30 : decode cX8_hush 30 = .ok (.iadd, 1) := dX8_hush_21_b.2.2.2.2.2.1
theorem dX8_hush_31 : decode cX8_hush 31 = .ok (.iconst 5, 1) := dX8_hush_21_b.2.2.2.2.2.2.1
theorem dX8_hush_32 : decode cX8_hush 32 = .ok (.iadd, 1) := dX8_hush_21_b.2.2.2.2.2.2.2.1
theorem dX8_hush_33 : decode cX8_hush 33 = .ok (.iaload, 1) := dX8_hush_21_b.2.2.2.2.2.2.2.2.1
theorem dX8_hush_34 : decode cX8_hush 34 = .ok (.iload_n 2, 1) := dX8_hush_21_b.2.2.2.2.2.2.2.2.2.1
theorem dX8_hush_35 : decode cX8_hush 35 = .ok (.if_icmp .ne 6, 3) := dX8_hush_21_b.2.2.2.2.2.2.2.2.2.2.1
theorem dX8_hush_38 : decode cX8_hush 38 = .ok (.ldc 174, 2) := dX8_hush_21_b.2.2.2.2.2.2.2.2.2.2.2
theorem dX8_hush_40_b : (decode cX8_hush 40 = .ok (.ireturn, 1)) ∧ (decode cX8_hush 41 = .ok (.aload_n 0, 1)) ∧ (decode cX8_hush 42 = .ok (.invokevirtual 175, 3)) ∧ (decode cX8_hush 45 = .ok (.aload_n 0, 1)) := by decide +kernel
theorem dX8_hush_40 : decode cX8_hush 40 = .ok (.ireturn, 1) := dX8_hush_40_b.1
theorem dX8_hush_41 : decode cX8_hush 41 = .ok (.aload_n 0, 1) := dX8_hush_40_b.2.1
theorem dX8_hush_42 : decode cX8_hush 42 = .ok (.invokevirtual 175, 3) := dX8_hush_40_b.2.2.1
theorem dX8_hush_45 : decode cX8_hush 45 = .ok (.aload_n 0, 1) := dX8_hush_40_b.2.2.2
