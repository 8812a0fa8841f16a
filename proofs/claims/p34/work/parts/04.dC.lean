theorem dX7_init_0_b : (decode cX7_init 0 = .ok (.aload_n 0, 1)) ∧ (decode cX7_init 1 = .ok (.invokespecial 1, 3)) ∧ (decode cX7_init 4 = .ok (.aload_n 0, 1)) ∧ (decode cX7_init 5 = .ok (.new 7, 3)) ∧ (decode cX7_init 8 = .ok (.dup, 1)) ∧ (decode cX7_init 9 = .ok (.invokespecial 9, 3)) ∧ (decode cX7_init 12 = .ok (.putfield 10, 3)) ∧ (decode cX7_init 15 = .ok (.aload_n 0, 1)) ∧ (decode cX7_init 16 = .ok (.new 16, 3)) ∧ (decode cX7_init 19 = .ok (.dup, 1)) ∧ (decode cX7_init 20 = .ok (.invokespecial 18, 3)) ∧ (decode cX7_init 23 = .ok (.putfield 19, 3)) := by decide +kernel
theorem dX7_init_0 : decode cX7_init 0 = .ok (.aload_n 0, 1) := dX7_init_0_b.1
theorem dX7_init_1 : decode cX7_init 1 = .ok (.invokespecial 1, 3) := dX7_init_0_b.2.1
theorem dX7_init_4 : decode cX7_init 4 = .ok (.aload_n 0, 1) := dX7_init_0_b.2.2.1
theorem dX7_init_5 : decode cX7_init 5 = .ok (.new 7, 3) := dX7_init_0_b.2.2.2.1
theorem dX7_init_8 : decode cX7_init 8 = .ok (.dup, 1) := dX7_init_0_b.2.2.2.2.1
theorem dX7_init_9 : decode cX7_init 9 = .ok (.invokespecial 9, 3) := dX7_init_0_b.2.2.2.2.2.1
theorem dX7_init_12 : decode cX7_init 12 = .ok (.putfield 10, 3) := dX7_init_0_b.2.2.2.2.2.2.1
theorem dX7_init_15 : decode cX7_init 15 = .ok (.aload_n 0, 1) := dX7_init_0_b.2.2.2.2.2.2.2.1
theorem dX7_init_16 : decode cX7_init 16 = .ok (.new 16, 3) := dX7_init_0_b.2.2.2.2.2.2.2.2.1
theorem dX7_init_19 : decode cX7_init 19 = .ok (.dup, 1) := dX7_init_0_b.2.2.2.2.2.2.2.2.2.1
theorem dX7_init_20 : decode cX7_init 20 = .ok (.invokespecial 18, 3) := dX7_init_0_b.2.2.2.2.2.2.2.2.2.2.1
theorem dX7_init_23 : decode cX7_init 23 = .ok (.putfield 19, 3) := dX7_init_0_b.2.2.2.2.2.2.2.2.2.2.2
theorem dX7_init_26_b : (decode cX7_init 26 = .ok (.aload_n 0, 1)) ∧ (decode cX7_init 27 = .ok (.new 23, 3)) ∧ (decode cX7_init 30 = .ok (.dup, 1)) ∧ (decode cX7_init 31 = .ok (.invokespecial 25, 3)) ∧ (decode cX7_init 34 = .ok (.putfield 26, 3)) ∧ (decode cX7_init 37 = .ok (.aload_n 0, 1)) ∧ (decode cX7_init 38 = .ok (.new 23, 3)) ∧ (decode cX7_init 41 = .ok (.dup, 1)) ∧ (decode cX7_init 42 = .ok (.invokespecial 25, 3)) ∧ (decode cX7_init 45 = .ok (.putfield 30, 3)) ∧ (decode cX7_init 48 = .ok (.aload_n 0, 1)) ∧ (decode cX7_init 49 = .ok (.new 23, 3)) := by decide +kernel
theorem dX7_init_26 : decode cX7_init 26 = .ok (.aload_n 0, 1) := dX7_init_26_b.1
theorem dX7_init_27 : decode cX7_init 27 = .ok (.new 23, 3) := dX7_init_26_b.2.1
theorem dX7_init_30 : decode cX7_init 30 = .ok (.dup, 1) := dX7_init_26_b.2.2.1
theorem dX7_init_31 : decode cX7_init 31 = .ok (.invokespecial 25, 3) := dX7_init_26_b.2.2.2.1
theorem dX7_init_34 : decode cX7_init 34 = .ok (.putfield 26, 3) := dX7_init_26_b.2.2.2.2.1
theorem dX7_init_37 : decode cX7_init 37 = .ok (.aload_n 0, 1) := dX7_init_26_b.2.2.2.2.2.1
theorem dX7_init_38 : decode cX7_init 38 = .ok (.new 23, 3) := dX7_init_26_b.2.2.2.2.2.2.1
theorem dX7_init_41 : decode cX7_init 41 = .ok (.dup, 1) := dX7_init_26_b.2.2.2.2.2.2.2.1
theorem dX7_init_42 : decode cX7_init 42 = .ok (.invokespecial 25, 3) := dX7_init_26_b.2.2.2.2.2.2.2.2.1
theorem dX7_init_45 : decode cX7_init 45 = .ok (.putfield 30, 3) := dX7_init_26_b.2.2.2.2.2.2.2.2.2.1
theorem dX7_init_48 : decode cX7_init 48 = .ok (.aload_n 0, 1) := dX7_init_26_b.2.2.2.2.2.2.2.2.2.2.1
theorem dX7_init_49 : decode cX7_init 49 = .ok (.new 23, 3) := dX7_init_26_b.2.2.2.2.2.2.2.2.2.2.2
theorem dX7_init_52_b : (decode cX7_init 52 = .ok (.dup, 1)) ∧ (decode cX7_init 53 = .ok (.invokespecial 25, 3)) ∧ (decode cX7_init 56 = .ok (.putfield 33, 3)) ∧ (decode cX7_init 59 = .ok (.aload_n 0, 1)) ∧ (decode cX7_init 60 = .ok (.new 36, 3)) ∧ (decode cX7_init 63 = .ok (.dup, 1)) ∧ (decode cX7_init 64 = .ok (.invokespecial 38, 3)) ∧ (decode cX7_init 67 = .ok (.putfield 39, 3)) ∧ (decode cX7_init 70 = .ok (.aload_n 0, 1)) ∧ (decode cX7_init 71 = .ok (.new 43, 3)) ∧ (decode cX7_init 74 = .ok (.dup, 1)) ∧ (decode cX7_init 75 = .ok (.invokespecial 45, 3)) := by decide +kernel
theorem dX7_init_52 : decode cX7_init 52 = .ok (.dup, 1) := dX7_init_52_b.1
theorem dX7_init_53 : decode cX7_init 53 = .ok (.invokespecial 25, 3) := dX7_init_52_b.2.1
theorem dX7_init_56 : decode cX7_init 56 = .ok (.putfield 33, 3) := dX7_init_52_b.2.2.1
theorem dX7_init_59 : decode cX7_init 59 = .ok (.aload_n 0, 1) := dX7_init_52_b.2.2.2.1
theorem dX7_init_60 : decode cX7_init 60 = .ok (.new 36, 3) := dX7_init_52_b.2.2.2.2.1
theorem dX7_init_63 : decode cX7_init 63 = .ok (.dup, 1) := dX7_init_52_b.2.2.2.2.2.1
theorem dX7_init_64 : decode cX7_init 64 = .ok (.invokespecial 38, 3) := dX7_init_52_b.2.2.2.2.2.2.1
theorem dX7_init_67 : decode cX7_init 67 = .ok (.putfield 39, 3) := dX7_init_52_b.2.2.2.2.2.2.2.1
theorem dX7_init_70 : decode cX7_init 70 = .ok (.aload_n 0, 1) := dX7_init_52_b.2.2.2.2.2.2.2.2.1
theorem dX7_init_71 : decode cX7_init 71 = .ok (.new 43, 3) := dX7_init_52_b.2.2.2.2.2.2.2.2.2.1
theorem dX7_init_74 : decode cX7_init 74 = .ok (.dup, 1) := dX7_init_52_b.2.2.2.2.2.2.2.2.2.2.1
theorem dX7_init_75 : decode cX7_init 75 = .ok (.invokespecial 45, 3) := dX7_init_52_b.2.2.2.2.2.2.2.2.2.2.2
theorem dX7_init_78_b : (decode cX7_init 78 = .ok (.putfield 46, 3)) ∧ (decode cX7_init 81 = .ok (.aload_n 0, 1)) ∧ (decode cX7_init 82 = .ok (.iconst 0, 1)) ∧ (decode cX7_init 83 = .ok (.putfield 50, 3)) ∧ (decode cX7_init 86 = .ok (.aload_n 0, 1)) ∧ (decode cX7_init 87 = .ok (.iconst 0, 1)) ∧ (decode cX7_init 88 = .ok (.putfield 54, 3)) ∧ (decode cX7_init 91 = .ok (.return_, 1)) := by decide +kernel
theorem dX7_init_78 : decode cX7_init 78 = .ok (.putfield 46, 3) := dX7_init_78_b.1
theorem dX7_init_81 : decode cX7_init 81 = .ok (.aload_n 0, 1) := dX7_init_78_b.2.1
theorem dX7_init_82 : decode cX7_init 82 = .ok (.iconst 0, 1) := dX7_init_78_b.2.2.1
theorem dX7_init_83 : decode cX7_init 83 = .ok (.putfield 50, 3) := dX7_init_78_b.2.2.2.1
theorem dX7_init_86 : decode cX7_init 86 = .ok (.aload_n 0, 1) := dX7_init_78_b.2.2.2.2.1
theorem dX7_init_87 : decode cX7_init 87 = .ok (.iconst 0, 1) := dX7_init_78_b.2.2.2.2.2.1
theorem dX7_init_88 : decode cX7_init 88 = .ok (.putfield 54, 3) := dX7_init_78_b.2.2.2.2.2.2.1
theorem dX7_init_91 : decode cX7_init 91 = .ok (.return_, 1) := dX7_init_78_b.2.2.2.2.2.2.2
theorem dX7_row_0_b : (decode cX7_row 0 = .ok (.iload_n 1, 1)) ∧ (decode cX7_row 1 = .ok (.invokestatic 57, 3)) ∧ (decode cX7_row 4 = .ok (.ifCond .eq 16, 3)) ∧ (decode cX7_row 7 = .ok (.iload_n 2, 1)) ∧ (decode cX7_row 8 = .ok (.invokestatic 61, 3)) ∧ (decode cX7_row 11 = .ok (.ifCond .eq 9, 3)) ∧ (decode cX7_row 14 = .ok (.iload_n 3, 1)) ∧ (decode cX7_row 15 = .ok (.bipush 40, 2)) ∧ (decode cX7_row 17 = .ok (.if_icmp .le 6, 3)) ∧ (decode cX7_row 20 = .ok (.ldc 64, 2)) ∧ (decode cX7_row 22 = .ok (.ireturn, 1)) ∧ (decode cX7_row 23 = .ok (.iload_n 3, 1)) := by decide +kernel
theorem dX7_row_0 : decode cX7_row 0 = .ok (.iload_n 1, 1) := dX7_row_0_b.1
theorem dX7_row_1 : decode cX7_row 1 = .ok (.invokestatic 57, 3) := dX7_row_0_b.2.1
theorem dX7_row_4 : decode cX7_row 4 = .ok (.ifCond .eq 16, 3) := dX7_row_0_b.2.2.1
theorem dX7_row_7 : decode cX7_row 7 = .ok (.iload_n 2, 1) := dX7_row_0_b.2.2.2.1
theorem dX7_row_8 : decode cX7_row 8 = .ok (.invokestatic 61, 3) := dX7_row_0_b.2.2.2.2.1
theorem dX7_row_11 : decode cX7_row 11 = .ok (.ifCond .eq 9, 3) := dX7_row_0_b.2.2.2.2.2.1
theorem dX7_row_14 : decode cX7_row 14 = .ok (.iload_n 3, 1) := dX7_row_0_b.2.2.2.2.2.2.1
theorem dX7_row_15 : decode cX7_row 15 = .ok (.bipush 40, 2) := dX7_row_0_b.2.2.2.2.2.2.2.1
theorem dX7_row_17 : decode cX7_row 17 = .ok (.if_icmp .le 6, 3) := dX7_row_0_b.2.2.2.2.2.2.2.2.1
theorem dX7_row_20 : decode cX7_row 20 = .ok (.ldc 64, 2) := dX7_row_0_b.2.2.2.2.2.2.2.2.2.1
theorem dX7_row_22 : decode cX7_row 22 = .ok (.ireturn, 1) := dX7_row_0_b.2.2.2.2.2.2.2.2.2.2.1
theorem dX7_row_23 : decode cX7_row 23 = .ok (.iload_n 3, 1) := dX7_row_0_b.2.2.2.2.2.2.2.2.2.2.2
theorem dX7_row_24_b : (decode cX7_row 24 = .ok (.ifCond .ge 9, 3)) ∧ (decode cX7_row 27 = .ok (.aload_n 0, 1)) ∧ (decode cX7_row 28 = .ok (.iconst 4, 1)) ∧ (decode cX7_row 29 = .ok (.invokevirtual 65, 3)) ∧ (decode cX7_row 32 = .ok (.ireturn, 1)) ∧ (decode cX7_row 33 = .ok (.aload_n 0, 1)) ∧ (decode cX7_row 34 = .ok (.getfield 10, 3)) ∧ (decode cX7_row 37 = .ok (.iload_n 1, 1)) ∧ (decode cX7_row 38 = .ok (.iload_n 2, 1)) ∧ (decode cX7_row 39 = .ok (.iload_n 3, 1)) ∧ (decode cX7_row 40 = .ok (.invokevirtual 69, 3)) ∧ (decode cX7_row 43 = .ok (.aload_n 0, 1)) := by decide +kernel
theorem dX7_row_24 : decode cX7_row 24 = .ok (.ifCond .ge 9, 3) := dX7_row_24_b.1
theorem dX7_row_27 : decode cX7_row 27 = .ok (.aload_n 0, 1) := dX7_row_24_b.2.1
theorem dX7_row_28 : decode cX7_row 28 = .ok (.iconst 4, 1) := dX7_row_24_b.2.2.1
theorem dX7_row_29 : decode cX7_row 29 = .ok (.invokevirtual 65, 3) := dX7_row_24_b.2.2.2.1
theorem dX7_row_32 : decode cX7_row 32 = .ok (.ireturn, 1) := dX7_row_24_b.2.2.2.2.1
theorem dX7_row_33 : decode cX7_row 33 = .ok (.aload_n 0, 1) := dX7_row_24_b.2.2.2.2.2.1
theorem dX7_row_34 : decode cX7_row 34 = .ok (.getfield 10, 3) := dX7_row_24_b.2.2.2.2.2.2.1
theorem dX7_row_37 : decode cX7_row 37 = .ok (.iload_n 1, 1) := dX7_row_24_b.2.2.2.2.2.2.2.1
theorem dX7_row_38 : decode cX7_row 38 = .ok (.iload_n 2, 1) := dX7_row_24_b.2.2.2.2.2.2.2.2.1
theorem dX7_row_39 : decode cX7_row 39 = .ok (.iload_n 3, 1) := dX7_row_24_b.2.2.2.2.2.2.2.2.2.1
theorem dX7_row_40 : decode cX7_row 40 = .ok (.invokevirtual 69, 3) := dX7_row_24_b.2.2.2.2.2.2.2.2.2.2.1
theorem dX7_row_43 : decode cX7_row 43 = .ok (.aload_n 0, 1) := dX7_row_24_b.2.2.2.2.2.2.2.2.2.2.2
theorem dX7_row_44_b : (decode cX7_row 44 = .ok (.iload_n 3, 1)) ∧ (decode cX7_row 45 = .ok (.invokevirtual 73, 3)) ∧ (decode cX7_row 48 = .ok (.ireturn, 1)) := by decide +kernel
theorem dX7_row_44 : decode cX7_row 44 = .ok (.iload_n 3, 1) := dX7_row_44_b.1
theorem dX7_row_45 : decode cX7_row 45 = .ok (.invokevirtual 73, 3) := dX7_row_44_b.2.1
theorem dX7_row_48 : decode cX7_row 48 = .ok (.ireturn, 1) := dX7_row_44_b.2.2
theorem dX7_set_0_b : (decode cX7_set 0 = .ok (.iload_n 1, 1)) ∧ (decode cX7_set 1 = .ok (.invokestatic 57, 3)) ∧ (decode cX7_set 4 = .ok (.ifCond .ne 6, 3)) ∧ (decode cX7_set 7 = .ok (.ldc 64, 2)) ∧ (decode cX7_set 9 = .ok (.ireturn, 1)) ∧ (decode cX7_set 10 = .ok (.aload_n 0, 1)) ∧ (decode cX7_set 11 = .ok (.getfield 10, 3)) ∧ (decode cX7_set 14 = .ok (.iload_n 1, 1)) ∧ (decode cX7_set 15 = .ok (.iload_n 2, 1)) ∧ (decode cX7_set 16 = .ok (.iconst 1, 1)) ∧ (decode cX7_set 17 = .ok (.invokevirtual 76, 3)) ∧ (decode cX7_set 20 = .ok (.istore 4, 2)) := by decide +kernel
theorem dX7_set_0 : decode cX7_set 0 = .ok (.iload_n 1, 1) := dX7_set_0_b.1
theorem dX7_set_1 : decode cX7_set 1 = .ok (.invokestatic 57, 3) := dX7_set_0_b.2.1
theorem dX7_set_4 : decode cX7_set 4 = .ok (.ifCond .ne 6, 3) := dX7_set_0_b.2.2.1
theorem dX7_set_7 : decode cX7_set 7 = .ok (.ldc 64, 2) := dX7_set_0_b.2.2.2.1
theorem dX7_set_9 : decode cX7_set 9 = .ok (.ireturn, 1) := dX7_set_0_b.2.2.2.2.1
theorem dX7_set_10 : decode cX7_set 10 = .ok (.aload_n 0, 1) := dX7_set_0_b.2.2.2.2.2.1
theorem dX7_set_11 : decode cX7_set 11 = .ok (.getfield 10, 3) := dX7_set_0_b.2.2.2.2.2.2.1
theorem dX7_set_14 : decode cX7_set 14 = .ok (.iload_n 1, 1) := dX7_set_0_b.2.2.2.2.2.2.2.1
theorem dX7_set_15 : decode cX7_set 15 = .ok (.iload_n 2, 1) := dX7_set_0_b.2.2.2.2.2.2.2.2.1
theorem dX7_set_16 : decode cX7_set 16 = .ok (.iconst 1, 1) := dX7_set_0_b.2.2.2.2.2.2.2.2.2.1
theorem dX7_set_17 : decode cX7_set 17 = .ok (.invokevirtual 76, 3) := dX7_set_0_b.2.2.2.2.2.2.2.2.2.2.1
theorem dX7_set_20 : decode cX7_set 20 = .ok (.istore 4, 2) := dX7_set_0_b.2.2.2.2.2.2.2.2.2.2.2
theorem dX7_set_22_b : (decode cX7_set 22 = .ok (.iload 4, 2)) ∧ (decode cX7_set 24 = .ok (.ifCond .eq 10, 3)) ∧ (decode cX7_set 27 = .ok (.aload_n 0, 1)) ∧ (decode cX7_set 28 = .ok (.iload 4, 2)) ∧ (decode cX7_set 30 = .ok (.invokevirtual 65, 3)) ∧ (decode cX7_set 33 = .ok (.ireturn, 1)) ∧ (decode cX7_set 34 = .ok (.aload_n 0, 1)) ∧ (decode cX7_set 35 = .ok (.aload_n 0, 1)) ∧ (decode cX7_set 36 = .ok (.getfield 10, 3)) ∧ (decode cX7_set 39 = .ok (.iload_n 1, 1)) ∧ (decode cX7_set 40 = .ok (.iload_n 2, 1)) ∧ (decode cX7_set 41 = .ok (.iload_n 3, 1)) := by decide +kernel
theorem dX7_set_22 : decode cX7_set 22 = .ok (.iload 4, 2) := dX7_set_22_b.1
theorem dX7_set_24 : decode cX7_set 24 = .ok (.ifCond .eq 10, 3) := dX7_set_22_b.2.1
theorem dX7_set_27 : decode cX7_set 27 = .ok (.aload_n 0, 1) := dX7_set_22_b.2.2.1
theorem dX7_set_28 : decode cX7_set 28 = .ok (.iload 4, 2) := dX7_set_22_b.2.2.2.1
theorem dX7_set_30 : decode cX7_set 30 = .ok (.invokevirtual 65, 3) := dX7_set_22_b.2.2.2.2.1
theorem dX7_set_33 : decode cX7_set 33 = .ok (.ireturn, 1) := dX7_set_22_b.2.2.2.2.2.1
theorem dX7_set_34 : decode cX7_set 34 = .ok (.aload_n 0, 1) := dX7_set_22_b.2.2.2.2.2.2.1
theorem dX7_set_35 : decode cX7_set 35 = .ok (.aload_n 0, 1) := dX7_set_22_b.2.2.2.2.2.2.2.1
theorem dX7_set_36 : decode cX7_set 36 = .ok (.getfield 10, 3) := dX7_set_22_b.2.2.2.2.2.2.2.2.1
theorem dX7_set_39 : decode cX7_set 39 = .ok (.iload_n 1, 1) := dX7_set_22_b.2.2.2.2.2.2.2.2.2.1
theorem dX7_set_40 : decode cX7_set 40 = .ok (.iload_n 2, 1) := dX7_set_22_b.2.2.2.2.2.2.2.2.2.2.1
theorem dX7_set_41 : decode cX7_set 41 = .ok (.iload_n 3, 1) := dX7_set_22_b.2.2.2.2.2.2.2.2.2.2.2
theorem dX7_set_42_b : (decode cX7_set 42 = .ok (.invokevirtual 80, 3)) ∧ (decode cX7_set 45 = .ok (.invokevirtual 73, 3)) ∧ (decode cX7_set 48 = .ok (.ireturn, 1)) := by decide +kernel
theorem dX7_set_42 : decode cX7_set 42 = .ok (.invokevirtual 80, 3) := dX7_set_42_b.1
theorem dX7_set_45 : decode cX7_set 45 = .ok (.invokevirtual 73, 3) := dX7_set_42_b.2.1
theorem dX7_set_48 : decode cX7_set 48 = .ok (.ireturn, 1) := dX7_set_42_b.2.2
theorem dX7_copy_0_b : (decode cX7_copy 0 = .ok (.iload_n 1, 1)) ∧ (decode cX7_copy 1 = .ok (.invokestatic 57, 3)) ∧ (decode cX7_copy 4 = .ok (.ifCond .eq 10, 3)) ∧ (decode cX7_copy 7 = .ok (.iload_n 3, 1)) ∧ (decode cX7_copy 8 = .ok (.invokestatic 57, 3)) ∧ (decode cX7_copy 11 = .ok (.ifCond .ne 6, 3)) ∧ (decode cX7_copy 14 = .ok (.ldc 64, 2)) ∧ (decode cX7_copy 16 = .ok (.ireturn, 1)) ∧ (decode cX7_copy 17 = .ok (.aload_n 0, 1)) ∧ (decode cX7_copy 18 = .ok (.getfield 10, 3)) ∧ (decode cX7_copy 21 = .ok (.iload_n 1, 1)) ∧ (decode cX7_copy 22 = .ok (.iload_n 2, 1)) := by decide +kernel
theorem dX7_copy_0 : decode cX7_copy 0 = .ok (.iload_n 1, 1) := dX7_copy_0_b.1
theorem dX7_copy_1 : decode cX7_copy 1 = .ok (.invokestatic 57, 3) := dX7_copy_0_b.2.1
theorem dX7_copy_4 : decode cX7_copy 4 = .ok (.ifCond .eq 10, 3) := dX7_copy_0_b.2.2.1
theorem dX7_copy_7 : decode cX7_copy 7 = .ok (.iload_n 3, 1) := dX7_copy_0_b.2.2.2.1
theorem dX7_copy_8 : decode cX7_copy 8 = .ok (.invokestatic 57, 3) := dX7_copy_0_b.2.2.2.2.1
theorem dX7_copy_11 : decode cX7_copy 11 = .ok (.ifCond .ne 6, 3) := dX7_copy_0_b.2.2.2.2.2.1
theorem dX7_copy_14 : decode cX7_copy 14 = .ok (.ldc 64, 2) := dX7_copy_0_b.2.2.2.2.2.2.1
theorem dX7_copy_16 : decode cX7_copy 16 = .ok (.ireturn, 1) := dX7_copy_0_b.2.2.2.2.2.2.2.1
theorem dX7_copy_17 : decode cX7_copy 17 = .ok (.aload_n 0, 1) := dX7_copy_0_b.2.2.2.2.2.2.2.2.1
theorem dX7_copy_18 : decode cX7_copy 18 = .ok (.getfield 10, 3) := dX7_copy_0_b.2.2.2.2.2.2.2.2.2.1
theorem dX7_copy_21 : decode cX7_copy 21 = .ok (.iload_n 1, 1) := dX7_copy_0_b.2.2.2.2.2.2.2.2.2.2.1
theorem dX7_copy_22 : decode cX7_copy 22 = .ok (.iload_n 2, 1) := dX7_copy_0_b.2.2.2.2.2.2.2.2.2.2.2
theorem dX7_copy_23_b : (decode cX7_copy 23 = .ok (.iload_n 3, 1)) ∧ (decode cX7_copy 24 = .ok (.iload 4, 2)) ∧ (decode cX7_copy 26 = .ok (.iload 5, 2)) ∧ (decode cX7_copy 28 = .ok (.invokevirtual 83, 3)) ∧ (decode cX7_copy 31 = .ok (.istore 6, 2)) ∧ (decode cX7_copy 33 = .ok (.iload 6, 2)) ∧ (decode cX7_copy 35 = .ok (.ifCond .eq 10, 3)) ∧ (decode cX7_copy 38 = .ok (.aload_n 0, 1)) ∧ (decode cX7_copy 39 = .ok (.iload 6, 2)) ∧ (decode cX7_copy 41 = .ok (.invokevirtual 65, 3)) ∧ (decode cX7_copy 44 = .ok (.ireturn, 1)) ∧ (decode cX7_copy 45 = .ok (.aload_n 0, 1)) := by decide +kernel
theorem dX7_copy_23 : decode cX7_copy 23 = .ok (.iload_n 3, 1) := dX7_copy_23_b.1
theorem dX7_copy_24 : decode cX7_copy 24 = .ok (.iload 4, 2) := dX7_copy_23_b.2.1
theorem dX7_copy_26 : decode cX7_copy 26 = .ok (.iload 5, 2) := dX7_copy_23_b.2.2.1
theorem dX7_copy_28 : decode cX7_copy 28 = .ok (.invokevirtual 83, 3) := dX7_copy_23_b.2.2.2.1
theorem dX7_copy_31 : decode cX7_copy 31 = .ok (.istore 6, 2) := dX7_copy_23_b.2.2.2.2.1
theorem dX7_copy_33 : decode cX7_copy 33 = .ok (.iload 6, 2) := dX7_copy_23_b.2.2.2.2.2.1
theorem dX7_copy_35 : decode cX7_copy 35 = .ok (.ifCond .eq 10, 3) := dX7_copy_23_b.2.2.2.2.2.2.1
theorem dX7_copy_38 : decode cX7_copy 38 = .ok (.aload_n 0, 1) := dX7_copy_23_b.2.2.2.2.2.2.2.1
theorem dX7_copy_39 : decode cX7_copy 39 = .ok (.iload 6, 2) := dX7_copy_23_b.2.2.2.2.2.2.2.2.1
theorem dX7_copy_41 : decode cX7_copy 41 = .ok (.invokevirtual 65, 3) := dX7_copy_23_b.2.2.2.2.2.2.2.2.2.1
theorem dX7_copy_44 : decode cX7_copy 44 = .ok (.ireturn, 1) := dX7_copy_23_b.2.2.2.2.2.2.2.2.2.2.1
theorem dX7_copy_45 : decode cX7_copy 45 = .ok (.aload_n 0, 1) := dX7_copy_23_b.2.2.2.2.2.2.2.2.2.2.2
theorem dX7_copy_46_b : (decode cX7_copy 46 = .ok (.getfield 10, 3)) ∧ (decode cX7_copy 49 = .ok (.iload_n 1, 1)) ∧ (decode cX7_copy 50 = .ok (.iload_n 2, 1)) ∧ (decode cX7_copy 51 = .ok (.iload_n 3, 1)) ∧ (decode cX7_copy 52 = .ok (.iload 4, 2)) ∧ (decode cX7_copy 54 = .ok (.iload 5, 2)) ∧ (decode cX7_copy 56 = .ok (.invokevirtual 87, 3)) ∧ (decode cX7_copy 59 = .ok (.aload_n 0, 1)) ∧ (decode cX7_copy 60 = .ok (.iload 5, 2)) ∧ (decode cX7_copy 62 = .ok (.invokevirtual 73, 3)) ∧ (decode cX7_copy 65 = .ok (.ireturn, 1)) := by decide +kernel
theorem dX7_copy_46 : decode cX7_copy 46 = .ok (.getfield 10, 3) := dX7_copy_46_b.1
theorem dX7_copy_49 : decode cX7_copy 49 = .ok (.iload_n 1, 1) := dX7_copy_46_b.2.1
theorem dX7_copy_50 : decode cX7_copy 50 = .ok (.iload_n 2, 1) := dX7_copy_46_b.2.2.1
theorem dX7_copy_51 : decode cX7_copy 51 = .ok (.iload_n 3, 1) := dX7_copy_46_b.2.2.2.1
theorem dX7_copy_52 : decode cX7_copy 52 = .ok (.iload 4, 2) := dX7_copy_46_b.2.2.2.2.1
theorem dX7_copy_54 : decode cX7_copy 54 = .ok (.iload 5, 2) := dX7_copy_46_b.2.2.2.2.2.1
theorem dX7_copy_56 : decode cX7_copy 56 = .ok (.invokevirtual 87, 3) := dX7_copy_46_b.2.2.2.2.2.2.1
theorem dX7_copy_59 : decode cX7_copy 59 = .ok (.aload_n 0, 1) := dX7_copy_46_b.2.2.2.2.2.2.2.1
theorem dX7_copy_60 : decode cX7_copy 60 = .ok (.iload 5, 2) := dX7_copy_46_b.2.2.2.2.2.2.2.2.1
theorem dX7_copy_62 : decode cX7_copy 62 = .ok (.invokevirtual 73, 3) := dX7_copy_46_b.2.2.2.2.2.2.2.2.2.1
theorem dX7_copy_65 : decode cX7_copy 65 = .ok (.ireturn, 1) := dX7_copy_46_b.2.2.2.2.2.2.2.2.2.2
theorem dX7_drop_0_b : (decode cX7_drop 0 = .ok (.iload_n 1, 1)) ∧ (decode cX7_drop 1 = .ok (.invokestatic 57, 3)) ∧ (decode cX7_drop 4 = .ok (.ifCond .ne 6, 3)) ∧ (decode cX7_drop 7 = .ok (.ldc 64, 2)) ∧ (decode cX7_drop 9 = .ok (.ireturn, 1)) ∧ (decode cX7_drop 10 = .ok (.aload_n 0, 1)) ∧ (decode cX7_drop 11 = .ok (.getfield 10, 3)) ∧ (decode cX7_drop 14 = .ok (.iload_n 1, 1)) ∧ (decode cX7_drop 15 = .ok (.invokevirtual 91, 3)) ∧ (decode cX7_drop 18 = .ok (.ifCond .eq 9, 3)) ∧ (decode cX7_drop 21 = .ok (.aload_n 0, 1)) ∧ (decode cX7_drop 22 = .ok (.iconst 1, 1)) := by decide +kernel
theorem dX7_drop_0 : decode cX7_drop 0 = .ok (.iload_n 1, 1) := dX7_drop_0_b.1
theorem dX7_drop_1 : decode cX7_drop 1 = .ok (.invokestatic 57, 3) := dX7_drop_0_b.2.1
theorem dX7_drop_4 : decode cX7_drop 4 = .ok (.ifCond .ne 6, 3) := dX7_drop_0_b.2.2.1
theorem dX7_drop_7 : decode cX7_drop 7 = .ok (.ldc 64, 2) := dX7_drop_0_b.2.2.2.1
theorem dX7_drop_9 : decode cX7_drop 9 = .ok (.ireturn, 1) := dX7_drop_0_b.2.2.2.2.1
theorem dX7_drop_10 : decode cX7_drop 10 = .ok (.aload_n 0, 1) := dX7_drop_0_b.2.2.2.2.2.1
theorem dX7_drop_11 : decode cX7_drop 11 = .ok (.getfield 10, 3) := dX7_drop_0_b.2.2.2.2.2.2.1
theorem dX7_drop_14 : decode cX7_drop 14 = .ok (.iload_n 1, 1) := dX7_drop_0_b.2.2.2.2.2.2.2.1
theorem dX7_drop_15 : decode cX7_drop 15 = .ok (.invokevirtual 91, 3) := dX7_drop_0_b.2.2.2.2.2.2.2.2.1
theorem dX7_drop_18 : decode cX7_drop 18 = .ok (.ifCond .eq 9, 3) := dX7_drop_0_b.2.2.2.2.2.2.2.2.2.1
theorem dX7_drop_21 : decode cX7_drop 21 = .ok (.aload_n 0, 1) := dX7_drop_0_b.2.2.2.2.2.2.2.2.2.2.1
theorem dX7_drop_22 : decode cX7_drop 22 = .ok (.iconst 1, 1) := dX7_drop_0_b.2.2.2.2.2.2.2.2.2.2.2
theorem dX7_drop_23_b : (decode cX7_drop 23 = .ok (.invokevirtual 65, 3)) ∧ (decode cX7_drop 26 = .ok (.ireturn, 1)) ∧ (decode cX7_drop 27 = .ok (.aload_n 0, 1)) ∧ (decode cX7_drop 28 = .ok (.aload_n 0, 1)) ∧ (decode cX7_drop 29 = .ok (.getfield 10, 3)) ∧ (decode cX7_drop 32 = .ok (.iload_n 1, 1)) ∧ (decode cX7_drop 33 = .ok (.invokevirtual 94, 3)) ∧ (decode cX7_drop 36 = .ok (.invokevirtual 73, 3)) ∧ (decode cX7_drop 39 = .ok (.ireturn, 1)) := by decide +kernel
theorem dX7_drop_23 : decode cX7_drop 23 = .ok (.invokevirtual 65, 3) := dX7_drop_23_b.1
theorem dX7_drop_26 : decode cX7_drop 26 = .ok (.ireturn, 1) := dX7_drop_23_b.2.1
theorem dX7_drop_27 : decode cX7_drop 27 = .ok (.aload_n 0, 1) := dX7_drop_23_b.2.2.1
theorem dX7_drop_28 : decode cX7_drop 28 = .ok (.aload_n 0, 1) := dX7_drop_23_b.2.2.2.1
theorem dX7_drop_29 : decode cX7_drop 29 = .ok (.getfield 10, 3) := dX7_drop_23_b.2.2.2.2.1
theorem dX7_drop_32 : decode cX7_drop 32 = .ok (.iload_n 1, 1) := dX7_drop_23_b.2.2.2.2.2.1
theorem dX7_drop_33 : decode cX7_drop 33 = .ok (.invokevirtual 94, 3) := dX7_drop_23_b.2.2.2.2.2.2.1
theorem dX7_drop_36 : decode cX7_drop 36 = .ok (.invokevirtual 73, 3) := dX7_drop_23_b.2.2.2.2.2.2.2.1
theorem dX7_drop_39 : decode cX7_drop 39 = .ok (.ireturn, 1) := dX7_drop_23_b.2.2.2.2.2.2.2.2
theorem dX7_feed_0_b : (decode cX7_feed 0 = .ok (.iload_n 1, 1)) ∧ (decode cX7_feed 1 = .ok (.iconst 0, 1)) ∧ (decode cX7_feed 2 = .ok (.sipush 255, 3)) ∧ (decode cX7_feed 5 = .ok (.invokestatic 97, 3)) ∧ (decode cX7_feed 8 = .ok (.ifCond .ne 6, 3)) ∧ (decode cX7_feed 11 = .ok (.ldc 64, 2)) ∧ (decode cX7_feed 13 = .ok (.ireturn, 1)) ∧ (decode cX7_feed 14 = .ok (.aload_n 0, 1)) ∧ (decode cX7_feed 15 = .ok (.getfield 19, 3)) ∧ (decode cX7_feed 18 = .ok (.iload_n 1, 1)) ∧ (decode cX7_feed 19 = .ok (.invokevirtual 101, 3)) ∧ (decode cX7_feed 22 = .ok (.ireturn, 1)) := by decide +kernel
theorem dX7_feed_0 : decode cX7_feed 0 = .ok (.iload_n 1, 1) := dX7_feed_0_b.1
theorem dX7_feed_1 : decode cX7_feed 1 = .ok (.iconst 0, 1) := dX7_feed_0_b.2.1
theorem dX7_feed_2 : decode cX7_feed 2 = .ok (.sipush 255, 3) := dX7_feed_0_b.2.2.1
theorem dX7_feed_5 : decode cX7_feed 5 = .ok (.invokestatic 97, 3) := dX7_feed_0_b.2.2.2.1
theorem dX7_feed_8 : decode cX7_feed 8 = .ok (.ifCond .ne 6, 3) := dX7_feed_0_b.2.2.2.2.1
theorem dX7_feed_11 : decode cX7_feed 11 = .ok (.ldc 64, 2) := dX7_feed_0_b.2.2.2.2.2.1
theorem dX7_feed_13 : decode cX7_feed 13 = .ok (.ireturn, 1) := dX7_feed_0_b.2.2.2.2.2.2.1
theorem dX7_feed_14 : decode cX7_feed 14 = .ok (.aload_n 0, 1) := dX7_feed_0_b.2.2.2.2.2.2.2.1
theorem dX7_feed_15 : decode cX7_feed 15 = .ok (.getfield 19, 3) := dX7_feed_0_b.2.2.2.2.2.2.2.2.1
theorem dX7_feed_18 : decode cX7_feed 18 = .ok (.iload_n 1, 1) := dX7_feed_0_b.2.2.2.2.2.2.2.2.2.1
theorem dX7_feed_19 : decode cX7_feed 19 = .ok (.invokevirtual 101, 3) := dX7_feed_0_b.2.2.2.2.2.2.2.2.2.2.1
theorem dX7_feed_22 : decode cX7_feed 22 = .ok (.ireturn, 1) := dX7_feed_0_b.2.2.2.2.2.2.2.2.2.2.2
theorem dX7_house_0_b : (decode cX7_house 0 = .ok (.aload_n 0, 1)) ∧ (decode cX7_house 1 = .ok (.getfield 19, 3)) ∧ (decode cX7_house 4 = .ok (.invokevirtual 104, 3)) ∧ (decode cX7_house 7 = .ok (.istore_n 1, 1)) ∧ (decode cX7_house 8 = .ok (.iload_n 1, 1)) ∧ (decode cX7_house 9 = .ok (.ldc 108, 2)) ∧ (decode cX7_house 11 = .ok (.if_icmp .eq 19, 3)) ∧ (decode cX7_house 14 = .ok (.aload_n 0, 1)) ∧ (decode cX7_house 15 = .ok (.aload_n 0, 1)) ∧ (decode cX7_house 16 = .ok (.getfield 19, 3)) ∧ (decode cX7_house 19 = .ok (.getfield 109, 3)) ∧ (decode cX7_house 22 = .ok (.putfield 50, 3)) := by decide +kernel
theorem dX7_house_0 : decode cX7_house 0 = .ok (.aload_n 0, 1) := dX7_house_0_b.1
theorem dX7_house_1 : decode cX7_house 1 = .ok (.getfield 19, 3) := dX7_house_0_b.2.1
theorem dX7_house_4 : decode cX7_house 4 = .ok (.invokevirtual 104, 3) := dX7_house_0_b.2.2.1
theorem dX7_house_7 : decode cX7_house 7 = .ok (.istore_n 1, 1) := dX7_house_0_b.2.2.2.1
theorem dX7_house_8 : decode cX7_house 8 = .ok (.iload_n 1, 1) := dX7_house_0_b.2.2.2.2.1
theorem dX7_house_9 : decode cX7_house 9 = .ok (.ldc 108, 2) := dX7_house_0_b.2.2.2.2.2.1
theorem dX7_house_11 : decode cX7_house 11 = .ok (.if_icmp .eq 19, 3) := dX7_house_0_b.2.2.2.2.2.2.1
theorem dX7_house_14 : decode cX7_house 14 = .ok (.aload_n 0, 1) := dX7_house_0_b.2.2.2.2.2.2.2.1
theorem dX7_house_15 : decode cX7_house 15 = .ok (.aload_n 0, 1) := dX7_house_0_b.2.2.2.2.2.2.2.2.1
theorem dX7_house_16 : decode cX7_house 16 = .ok (.getfield 19, 3) := dX7_house_0_b.2.2.2.2.2.2.2.2.2.1
theorem dX7_house_19 : decode cX7_house 19 = .ok (.getfield 109, 3) := dX7_house_0_b.2.2.2.2.2.2.2.2.2.2.1
theorem dX7_house_22 : decode cX7_house 22 = .ok (.putfield 50, 3) := dX7_house_0_b.2.2.2.2.2.2.2.2.2.2.2
theorem dX7_house_25_b : (decode cX7_house 25 = .ok (.ldc 112, 2)) ∧ (decode cX7_house 27 = .ok (.iload_n 1, 1)) ∧ (decode cX7_house 28 = .ok (.isub, 1)) ∧ (decode cX7_house 29 = .ok (.ireturn, 1)) ∧ (decode cX7_house 30 = .ok (.aload_n 0, 1)) ∧ (decode cX7_house 31 = .ok (.getfield 26, 3)) ∧ (decode cX7_house 34 = .ok (.aload_n 0, 1)) ∧ (decode cX7_house 35 = .ok (.getfield 19, 3)) ∧ (decode cX7_house 38 = .ok (.invokevirtual 113, 3)) ∧ (decode cX7_house 41 = .ok (.aload_n 0, 1)) ∧ (decode cX7_house 42 = .ok (.getfield 39, 3)) ∧ (decode cX7_house 45 = .ok (.invokevirtual 117, 3)) := by decide +kernel
theorem dX7_house_25 : decode cX7_house 25 = .ok (.ldc 112, 2) := dX7_house_25_b.1
theorem dX7_house_27 : decode cX7_house 27 = .ok (.iload_n 1, 1) := dX7_house_25_b.2.1
theorem dX7_house_28 : decode cX7_house 28 = .ok (.isub, 1) := dX7_house_25_b.2.2.1
theorem dX7_house_29 : decode cX7_house 29 = .ok (.ireturn, 1) := dX7_house_25_b.2.2.2.1
theorem dX7_house_30 : decode cX7_house 30 = .ok (.aload_n 0, 1) := dX7_house_25_b.2.2.2.2.1
theorem dX7_house_31 : decode cX7_house 31 = .ok (.getfield 26, 3) := dX7_house_25_b.2.2.2.2.2.1
theorem dX7_house_34 : decode cX7_house 34 = .ok (.aload_n 0, 1) := dX7_house_25_b.2.2.2.2.2.2.1
theorem dX7_house_35 : decode cX7_house 35 = .ok (.getfield 19, 3) := dX7_house_25_b.2.2.2.2.2.2.2.1
theorem dX7_house_38 : decode cX7_house 38 = .ok (.invokevirtual 113, 3) := dX7_house_25_b.2.2.2.2.2.2.2.2.1
theorem dX7_house_41 : decode cX7_house 41 = .ok (.aload_n 0, 1) := dX7_house_25_b.2.2.2.2.2.2.2.2.2.1
theorem dX7_house_42 : decode cX7_house 42 = .ok (.getfield 39, 3) := dX7_house_25_b.2.2.2.2.2.2.2.2.2.2.1
theorem dX7_house_45 : decode cX7_house 45 = .ok (.invokevirtual 117, 3) := dX7_house_25_b.2.2.2.2.2.2.2.2.2.2.2
theorem dX7_house_48_b : (decode cX7_house 48 = .ok (.aload_n 0, 1)) ∧ (decode cX7_house 49 = .ok (.getfield 26, 3)) ∧ (decode cX7_house 52 = .ok (.getfield 120, 3)) ∧ (decode cX7_house 55 = .ok (.ireturn, 1)) := by decide +kernel
theorem dX7_house_48 : decode cX7_house 48 = .ok (.aload_n 0, 1) := dX7_house_48_b.1
theorem dX7_house_49 : decode cX7_house 49 = .ok (.getfield 26, 3) := dX7_house_48_b.2.1
theorem dX7_house_52 : decode cX7_house 52 = .ok (.getfield 120, 3) := dX7_house_48_b.2.2.1
theorem dX7_house_55 : decode cX7_house 55 = .ok (.ireturn, 1) := dX7_house_48_b.2.2.2
theorem dX7_fault_0_b : (decode cX7_fault 0 = .ok (.aload_n 0, 1)) ∧ (decode cX7_fault 1 = .ok (.getfield 50, 3)) ∧ (decode cX7_fault 4 = .ok (.ireturn, 1)) := by decide +kernel
theorem dX7_fault_0 : decode cX7_fault 0 = .ok (.aload_n 0, 1) := dX7_fault_0_b.1
theorem dX7_fault_1 : decode cX7_fault 1 = .ok (.getfield 50, 3) := dX7_fault_0_b.2.1
theorem dX7_fault_4 : decode cX7_fault 4 = .ok (.ireturn, 1) := dX7_fault_0_b.2.2
theorem dX7_quarters_0_b : (decode cX7_quarters 0 = .ok (.aload_n 0, 1)) ∧ (decode cX7_quarters 1 = .ok (.getfield 26, 3)) ∧ (decode cX7_quarters 4 = .ok (.getfield 123, 3)) ∧ (decode cX7_quarters 7 = .ok (.ifCond .ne 6, 3)) ∧ (decode cX7_quarters 10 = .ok (.ldc 127, 2)) ∧ (decode cX7_quarters 12 = .ok (.ireturn, 1)) ∧ (decode cX7_quarters 13 = .ok (.iload_n 1, 1)) ∧ (decode cX7_quarters 14 = .ok (.iconst 1, 1)) ∧ (decode cX7_quarters 15 = .ok (.bipush 20, 2)) ∧ (decode cX7_quarters 17 = .ok (.invokestatic 97, 3)) ∧ (decode cX7_quarters 20 = .ok (.ifCond .ne 6, 3)) ∧ (decode cX7_quarters 23 = .ok (.ldc 64, 2)) := by decide +kernel
theorem dX7_quarters_0 : decode cX7_quarters 0 = .ok (.aload_n 0, 1) := dX7_quarters_0_b.1
theorem dX7_quarters_1 : decode cX7_quarters 1 = .ok (.getfield 26, 3) := dX7_quarters_0_b.2.1
theorem dX7_quarters_4 : decode cX7_quarters 4 = .ok (.getfield 123, 3) := dX7_quarters_0_b.2.2.1
theorem dX7_quarters_7 : decode cX7_quarters 7 = .ok (.ifCond .ne 6, 3) := dX7_quarters_0_b.2.2.2.1
theorem dX7_quarters_10 : decode cX7_quarters 10 = .ok (.ldc 127, 2) := dX7_quarters_0_b.2.2.2.2.1
theorem dX7_quarters_12 : decode cX7_quarters 12 = .ok (.ireturn, 1) := dX7_quarters_0_b.2.2.2.2.2.1
theorem dX7_quarters_13 : decode cX7_quarters 13 = .ok (.iload_n 1, 1) := dX7_quarters_0_b.2.2.2.2.2.2.1
theorem dX7_quarters_14 : decode cX7_quarters 14 = .ok (.iconst 1, 1) := dX7_quarters_0_b.2.2.2.2.2.2.2.1
theorem dX7_quarters_15 : decode cX7_quarters 15 = .ok (.bipush 20, 2) := dX7_quarters_0_b.2.2.2.2.2.2.2.2.1
theorem dX7_quarters_17 : decode cX7_quarters 17 = .ok (.invokestatic 97, 3) := dX7_quarters_0_b.2.2.2.2.2.2.2.2.2.1
theorem dX7_quarters_20 : decode cX7_quarters 20 = .ok (.ifCond .ne 6, 3) := dX7_quarters_0_b.2.2.2.2.2.2.2.2.2.2.1
theorem dX7_quarters_23 : decode cX7_quarters 23 = .ok (.ldc 64, 2) := dX7_quarters_0_b.2.2.2.2.2.2.2.2.2.2.2
theorem dX7_quarters_25_b : (decode cX7_quarters 25 = .ok (.ireturn, 1)) ∧ (decode cX7_quarters 26 = .ok (.aload_n 0, 1)) ∧ (decode cX7_quarters 27 = .ok (.getfield 26, 3)) ∧ (decode cX7_quarters 30 = .ok (.getfield 128, 3)) ∧ (decode cX7_quarters 33 = .ok (.iload_n 1, 1)) ∧ (decode cX7_quarters 34 = .ok (.iadd, 1)) ∧ (decode cX7_quarters 35 = .ok (.sipush 999, 3)) ∧ (decode cX7_quarters 38 = .ok (.if_icmp .le 6, 3)) ∧ (decode cX7_quarters 41 = .ok (.ldc 131, 2)) ∧ (decode cX7_quarters 43 = .ok (.ireturn, 1)) ∧ (decode cX7_quarters 44 = .ok (.iconst 0, 1)) ∧ (decode cX7_quarters 45 = .ok (.istore_n 2, 1)) := by decide +kernel
theorem dX7_quarters_25 : decode cX7_quarters 25 = .ok (.ireturn, 1) := dX7_quarters_25_b.1
theorem dX7_quarters_26 : decode cX7_quarters 26 = .ok (.aload_n 0, 1) := dX7_quarters_25_b.2.1
theorem dX7_quarters_27 : decode cX7_quarters 27 = .ok (.getfield 26, 3) := dX7_quarters_25_b.2.2.1
theorem dX7_quarters_30 : decode cX7_quarters 30 = .ok (.getfield 128, 3) := dX7_quarters_25_b.2.2.2.1
theorem dX7_quarters_33 : decode cX7_quarters 33 = .ok (.iload_n 1, 1) := dX7_quarters_25_b.2.2.2.2.1
theorem dX7_quarters_34 : decode cX7_quarters 34 = .ok (.iadd, 1) := dX7_quarters_25_b.2.2.2.2.2.1
theorem dX7_quarters_35 : decode cX7_quarters 35 = .ok (.sipush 999, 3) := dX7_quarters_25_b.2.2.2.2.2.2.1
theorem dX7_quarters_38 : decode cX7_quarters 38 = .ok (.if_icmp .le 6, 3) := dX7_quarters_25_b.2.2.2.2.2.2.2.1
theorem dX7_quarters_41 : decode cX7_quarters 41 = .ok (.ldc 131, 2) := dX7_quarters_25_b.2.2.2.2.2.2.2.2.1
theorem dX7_quarters_43 : decode cX7_quarters 43 = .ok (.ireturn, 1) := dX7_quarters_25_b.2.2.2.2.2.2.2.2.2.1
theorem dX7_quarters_44 : decode cX7_quarters 44 = .ok (.iconst 0, 1) := dX7_quarters_25_b.2.2.2.2.2.2.2.2.2.2.1
theorem dX7_quarters_45 : decode cX7_quarters 45 = .ok (.istore_n 2, 1) := dX7_quarters_25_b.2.2.2.2.2.2.2.2.2.2.2
theorem dX7_quarters_46_b : (decode cX7_quarters 46 = .ok (.iload_n 2, 1)) ∧ (decode cX7_quarters 47 = .ok (.iload_n 1, 1)) ∧ (decode cX7_quarters 48 = .ok (.if_icmp .ge 26, 3)) ∧ (decode cX7_quarters 51 = .ok (.aload_n 0, 1)) ∧ (decode cX7_quarters 52 = .ok (.getfield 26, 3)) ∧ (decode cX7_quarters 55 = .ok (.invokevirtual 132, 3)) ∧ (decode cX7_quarters 58 = .ok (.aload_n 0, 1)) ∧ (decode cX7_quarters 59 = .ok (.getfield 39, 3)) ∧ (decode cX7_quarters 62 = .ok (.iconst 0, 1)) ∧ (decode cX7_quarters 63 = .ok (.iconst 0, 1)) ∧ (decode cX7_quarters 64 = .ok (.iconst 0, 1)) ∧ (decode cX7_quarters 65 = .ok (.invokevirtual 135, 3)) := by decide +kernel
theorem dX7_quarters_46 : decode cX7_quarters 46 = .ok (.iload_n 2, 1) := dX7_quarters_46_b.1
theorem dX7_quarters_47 : decode cX7_quarters 47 = .ok (.iload_n 1, 1) := dX7_quarters_46_b.2.1
theorem dX7_quarters_48 : decode cX7_quarters 48 = .ok (.if_icmp .ge 26, 3) := dX7_quarters_46_b.2.2.1
theorem dX7_quarters_51 : decode cX7_quarters 51 = .ok (.aload_n 0, 1) := dX7_quarters_46_b.2.2.2.1
theorem dX7_quarters_52 : decode cX7_quarters 52 = .ok (.getfield 26, 3) := dX7_quarters_46_b.2.2.2.2.1
theorem dX7_quarters_55 : decode cX7_quarters 55 = .ok (.invokevirtual 132, 3) := dX7_quarters_46_b.2.2.2.2.2.1
theorem dX7_quarters_58 : decode cX7_quarters 58 = .ok (.aload_n 0, 1) := dX7_quarters_46_b.2.2.2.2.2.2.1
theorem dX7_quarters_59 : decode cX7_quarters 59 = .ok (.getfield 39, 3) := dX7_quarters_46_b.2.2.2.2.2.2.2.1
theorem dX7_quarters_62 : decode cX7_quarters 62 = .ok (.iconst 0, 1) := dX7_quarters_46_b.2.2.2.2.2.2.2.2.1
theorem dX7_quarters_63 : decode cX7_quarters 63 = .ok (.iconst 0, 1) := dX7_quarters_46_b.2.2.2.2.2.2.2.2.2.1
theorem dX7_quarters_64 : decode cX7_quarters 64 = .ok (.iconst 0, 1) := dX7_quarters_46_b.2.2.2.2.2.2.2.2.2.2.1
theorem dX7_quarters_65 : decode cX7_quarters 65 = .ok (.invokevirtual 135, 3) := dX7_quarters_46_b.2.2.2.2.2.2.2.2.2.2.2
theorem dX7_quarters_68_b : (decode cX7_quarters 68 = .ok (.iinc 2 1, 3)) ∧ (decode cX7_quarters 71 = .ok (.goto (-25), 3)) ∧ (decode cX7_quarters 74 = .ok (.aload_n 0, 1)) ∧ (decode cX7_quarters 75 = .ok (.getfield 26, 3)) ∧ (decode cX7_quarters 78 = .ok (.getfield 138, 3)) ∧ (decode cX7_quarters 81 = .ok (.ireturn, 1)) := by decide +kernel
theorem dX7_quarters_68 : decode cX7_quarters 68 = .ok (.iinc 2 1, 3) := dX7_quarters_68_b.1
theorem dX7_quarters_71 : decode cX7_quarters 71 = .ok (.goto (-25), 3) := dX7_quarters_68_b.2.1
theorem dX7_quarters_74 : decode cX7_quarters 74 = .ok (.aload_n 0, 1) := dX7_quarters_68_b.2.2.1
theorem dX7_quarters_75 : decode cX7_quarters 75 = .ok (.getfield 26, 3) := dX7_quarters_68_b.2.2.2.1
theorem dX7_quarters_78 : decode cX7_quarters 78 = .ok (.getfield 138, 3) := dX7_quarters_68_b.2.2.2.2.1
theorem dX7_quarters_81 : decode cX7_quarters 81 = .ok (.ireturn, 1) := dX7_quarters_68_b.2.2.2.2.2
theorem dX7_go_0_b : (decode cX7_go 0 = .ok (.aload_n 0, 1)) ∧ (decode cX7_go 1 = .ok (.getfield 26, 3)) ∧ (decode cX7_go 4 = .ok (.iload_n 1, 1)) ∧ (decode cX7_go 5 = .ok (.invokevirtual 141, 3)) ∧ (decode cX7_go 8 = .ok (.ifCond .eq 12, 3)) ∧ (decode cX7_go 11 = .ok (.iload_n 2, 1)) ∧ (decode cX7_go 12 = .ok (.iconst 0, 1)) ∧ (decode cX7_go 13 = .ok (.iconst 3, 1)) ∧ (decode cX7_go 14 = .ok (.invokestatic 97, 3)) ∧ (decode cX7_go 17 = .ok (.ifCond .ne 6, 3)) ∧ (decode cX7_go 20 = .ok (.ldc 64, 2)) ∧ (decode cX7_go 22 = .ok (.ireturn, 1)) := by decide +kernel
theorem dX7_go_0 : decode cX7_go 0 = .ok (.aload_n 0, 1) := dX7_go_0_b.1
theorem dX7_go_1 : decode cX7_go 1 = .ok (.getfield 26, 3) := dX7_go_0_b.2.1
theorem dX7_go_4 : decode cX7_go 4 = .ok (.iload_n 1, 1) := dX7_go_0_b.2.2.1
theorem dX7_go_5 : decode cX7_go 5 = .ok (.invokevirtual 141, 3) := dX7_go_0_b.2.2.2.1
theorem dX7_go_8 : decode cX7_go 8 = .ok (.ifCond .eq 12, 3) := dX7_go_0_b.2.2.2.2.1
theorem dX7_go_11 : decode cX7_go 11 = .ok (.iload_n 2, 1) := dX7_go_0_b.2.2.2.2.2.1
theorem dX7_go_12 : decode cX7_go 12 = .ok (.iconst 0, 1) := dX7_go_0_b.2.2.2.2.2.2.1
theorem dX7_go_13 : decode cX7_go 13 = .ok (.iconst 3, 1) := dX7_go_0_b.2.2.2.2.2.2.2.1
theorem dX7_go_14 : decode cX7_go 14 = .ok (.invokestatic 97, 3) := dX7_go_0_b.2.2.2.2.2.2.2.2.1
theorem dX7_go_17 : decode cX7_go 17 = .ok (.ifCond .ne 6, 3) := dX7_go_0_b.2.2.2.2.2.2.2.2.2.1
theorem dX7_go_20 : decode cX7_go 20 = .ok (.ldc 64, 2) := dX7_go_0_b.2.2.2.2.2.2.2.2.2.2.1
theorem dX7_go_22 : decode cX7_go 22 = .ok (.ireturn, 1) := dX7_go_0_b.2.2.2.2.2.2.2.2.2.2.2
theorem dX7_go_23_b : (decode cX7_go 23 = .ok (.aload_n 0, 1)) ∧ (decode cX7_go 24 = .ok (.getfield 26, 3)) ∧ (decode cX7_go 27 = .ok (.getfield 144, 3)) ∧ (decode cX7_go 30 = .ok (.iload_n 1, 1)) ∧ (decode cX7_go 31 = .ok (.iaload, 1)) ∧ (decode cX7_go 32 = .ok (.istore_n 3, 1)) ∧ (decode cX7_go 33 = .ok (.iload_n 3, 1)) ∧ (decode cX7_go 34 = .ok (.iload_n 2, 1)) ∧ (decode cX7_go 35 = .ok (.if_icmp .ne 6, 3)) ∧ (decode cX7_go 38 = .ok (.ldc 127, 2)) ∧ (decode cX7_go 40 = .ok (.ireturn, 1)) ∧ (decode cX7_go 41 = .ok (.aload_n 0, 1)) := by decide +kernel
theorem dX7_go_23 : decode cX7_go 23 = .ok (.aload_n 0, 1) := dX7_go_23_b.1
theorem dX7_go_24 : decode cX7_go 24 = .ok (.getfield 26, 3) := dX7_go_23_b.2.1
theorem dX7_go_27 : decode cX7_go 27 = .ok (.getfield 144, 3) := dX7_go_23_b.2.2.1
theorem dX7_go_30 : decode cX7_go 30 = .ok (.iload_n 1, 1) := dX7_go_23_b.2.2.2.1
theorem dX7_go_31 : decode cX7_go 31 = .ok (.iaload, 1) := dX7_go_23_b.2.2.2.2.1
theorem dX7_go_32 : decode cX7_go 32 = .ok (.istore_n 3, 1) := dX7_go_23_b.2.2.2.2.2.1
theorem dX7_go_33 : decode cX7_go 33 = .ok (.iload_n 3, 1) := dX7_go_23_b.2.2.2.2.2.2.1
theorem dX7_go_34 : decode cX7_go 34 = .ok (.iload_n 2, 1) := dX7_go_23_b.2.2.2.2.2.2.2.1
theorem dX7_go_35 : decode cX7_go 35 = .ok (.if_icmp .ne 6, 3) := dX7_go_23_b.2.2.2.2.2.2.2.2.1
theorem dX7_go_38 : decode cX7_go 38 = .ok (.ldc 127, 2) := dX7_go_23_b.2.2.2.2.2.2.2.2.2.1
theorem dX7_go_40 : decode cX7_go 40 = .ok (.ireturn, 1) := dX7_go_23_b.2.2.2.2.2.2.2.2.2.2.1
theorem dX7_go_41 : decode cX7_go 41 = .ok (.aload_n 0, 1) := dX7_go_23_b.2.2.2.2.2.2.2.2.2.2.2
theorem dX7_go_42_b : (decode cX7_go 42 = .ok (.getfield 39, 3)) ∧ (decode cX7_go 45 = .ok (.iconst 1, 1)) ∧ (decode cX7_go 46 = .ok (.iload_n 1, 1)) ∧ (decode cX7_go 47 = .ok (.iload_n 3, 1)) ∧ (decode cX7_go 48 = .ok (.invokevirtual 135, 3)) ∧ (decode cX7_go 51 = .ok (.aload_n 0, 1)) ∧ (decode cX7_go 52 = .ok (.getfield 26, 3)) ∧ (decode cX7_go 55 = .ok (.getfield 144, 3)) ∧ (decode cX7_go 58 = .ok (.iload_n 1, 1)) ∧ (decode cX7_go 59 = .ok (.iload_n 2, 1)) ∧ (decode cX7_go 60 = .ok (.iastore, 1)) ∧ (decode cX7_go 61 = .ok (.iload_n 3, 1)) := by decide +kernel
theorem dX7_go_42 : decode cX7_go 42 = .ok (.getfield 39, 3) := dX7_go_42_b.1
theorem dX7_go_45 : decode cX7_go 45 = .ok (.iconst 1, 1) := dX7_go_42_b.2.1
theorem dX7_go_46 : decode cX7_go 46 = .ok (.iload_n 1, 1) := dX7_go_42_b.2.2.1
theorem dX7_go_47 : decode cX7_go 47 = .ok (.iload_n 3, 1) := dX7_go_42_b.2.2.2.1
theorem dX7_go_48 : decode cX7_go 48 = .ok (.invokevirtual 135, 3) := dX7_go_42_b.2.2.2.2.1
theorem dX7_go_51 : decode cX7_go 51 = .ok (.aload_n 0, 1) := dX7_go_42_b.2.2.2.2.2.1
theorem dX7_go_52 : decode cX7_go 52 = .ok (.getfield 26, 3) := dX7_go_42_b.2.2.2.2.2.2.1
theorem dX7_go_55 : decode cX7_go 55 = .ok (.getfield 144, 3) := dX7_go_42_b.2.2.2.2.2.2.2.1
theorem dX7_go_58 : decode cX7_go 58 = .ok (.iload_n 1, 1) := dX7_go_42_b.2.2.2.2.2.2.2.2.1
theorem dX7_go_59 : decode cX7_go 59 = .ok (.iload_n 2, 1) := dX7_go_42_b.2.2.2.2.2.2.2.2.2.1
theorem dX7_go_60 : decode cX7_go 60 = .ok (.iastore, 1) := dX7_go_42_b.2.2.2.2.2.2.2.2.2.2.1
theorem dX7_go_61 : decode cX7_go 61 = .ok (.iload_n 3, 1) := dX7_go_42_b.2.2.2.2.2.2.2.2.2.2.2
theorem dX7_go_62 : decode cX7_go 62 = .ok (.ireturn, 1) := by decide +kernel
theorem dX7_hush_0_b : (decode cX7_hush 0 = .ok (.aload_n 0, 1)) ∧ (decode cX7_hush 1 = .ok (.getfield 26, 3)) ∧ (decode cX7_hush 4 = .ok (.iload_n 1, 1)) ∧ (decode cX7_hush 5 = .ok (.invokevirtual 141, 3)) ∧ (decode cX7_hush 8 = .ok (.ifCond .eq 12, 3)) ∧ (decode cX7_hush 11 = .ok (.iload_n 2, 1)) ∧ (decode cX7_hush 12 = .ok (.iconst 0, 1)) ∧ (decode cX7_hush 13 = .ok (.iconst 1, 1)) ∧ (decode cX7_hush 14 = .ok (.invokestatic 97, 3)) ∧ (decode cX7_hush 17 = .ok (.ifCond .ne 6, 3)) ∧ (decode cX7_hush 20 = .ok (.ldc 64, 2)) ∧ (decode cX7_hush 22 = .ok (.ireturn, 1)) := by decide +kernel
theorem dX7_hush_0 : decode cX7_hush 0 = .ok (.aload_n 0, 1) := dX7_hush_0_b.1
theorem dX7_hush_1 : decode cX7_hush 1 = .ok (.getfield 26, 3) := dX7_hush_0_b.2.1
theorem dX7_hush_4 : decode cX7_hush 4 = .ok (.iload_n 1, 1) := dX7_hush_0_b.2.2.1
theorem dX7_hush_5 : decode cX7_hush 5 = .ok (.invokevirtual 141, 3) := dX7_hush_0_b.2.2.2.1
theorem dX7_hush_8 : decode cX7_hush 8 = .ok (.ifCond .eq 12, 3) := dX7_hush_0_b.2.2.2.2.1
theorem dX7_hush_11 : decode cX7_hush 11 = .ok (.iload_n 2, 1) := dX7_hush_0_b.2.2.2.2.2.1
theorem dX7_hush_12 : decode cX7_hush 12 = .ok (.iconst 0, 1) := dX7_hush_0_b.2.2.2.2.2.2.1
theorem dX7_hush_13 : decode cX7_hush 13 = .ok (.iconst 1, 1) := dX7_hush_0_b.2.2.2.2.2.2.2.1
theorem dX7_hush_14 : decode cX7_hush 14 = .ok (.invokestatic 97, 3) := dX7_hush_0_b.2.2.2.2.2.2.2.2.1
theorem dX7_hush_17 : decode cX7_hush 17 = .ok (.ifCond .ne 6, 3) := dX7_hush_0_b.2.2.2.2.2.2.2.2.2.1
theorem dX7_hush_20 : decode cX7_hush 20 = .ok (.ldc 64, 2) := dX7_hush_0_b.2.2.2.2.2.2.2.2.2.2.1
theorem dX7_hush_22 : decode cX7_hush 22 = .ok (.ireturn, 1) := dX7_hush_0_b.2.2.2.2.2.2.2.2.2.2.2
theorem dX7_hush_23_b : (decode cX7_hush 23 = .ok (.aload_n 0, 1)) ∧ (decode cX7_hush 24 = .ok (.getfield 26, 3)) ∧ (decode cX7_hush 27 = .ok (.iload_n 1, 1)) ∧ (decode cX7_hush 28 = .ok (.invokevirtual 148, 3)) ∧ (decode cX7_hush 31 = .ok (.iload_n 2, 1)) ∧ (decode cX7_hush 32 = .ok (.iconst 1, 1)) ∧ (decode cX7_hush 33 = .ok (.if_icmp .ne 7, 3)) ∧ (decode cX7_hush 36 = .ok (.iconst 1, 1)) ∧ (decode cX7_hush 37 = .ok (.goto 4, 3)) ∧ (decode cX7_hush 40 = .ok (.iconst 0, 1)) ∧ (decode cX7_hush 41 = .ok (.if_icmp .ne 6, 3)) ∧ (decode cX7_hush 44 = .ok (.ldc 127, 2)) := by decide +kernel
theorem dX7_hush_23 : decode cX7_hush 23 = .ok (.aload_n 0, 1) := dX7_hush_23_b.1
theorem dX7_hush_24 : decode cX7_hush 24 = .ok (.getfield 26, 3) := dX7_hush_23_b.2.1
theorem dX7_hush_27 : decode cX7_hush 27 = .ok (.iload_n 1, 1) := dX7_hush_23_b.2.2.1
theorem dX7_hush_28 : decode cX7_hush 28 = .ok (.invokevirtual 148, 3) := dX7_hush_23_b.2.2.2.1
theorem dX7_hush_31 : decode cX7_hush 31 = .ok (.iload_n 2, 1) := dX7_hush_23_b.2.2.2.2.1
theorem dX7_hush_32 : decode cX7_hush 32 = .ok (.iconst 1, 1) := dX7_hush_23_b.2.2.2.2.2.1
theorem dX7_hush_33 : decode cX7_hush 33 = .ok (.if_icmp .ne 7, 3) := dX7_hush_23_b.2.2.2.2.2.2.1
theorem dX7_hush_36 : decode cX7_hush 36 = .ok (.iconst 1, 1) := dX7_hush_23_b.2.2.2.2.2.2.2.1
theorem dX7_hush_37 : decode cX7_hush 37 = .ok (.goto 4, 3) := dX7_hush_23_b.2.2.2.2.2.2.2.2.1
theorem dX7_hush_40 : decode cX7_hush 40 = .ok (.iconst 0, 1) := dX7_hush_23_b.2.2.2.2.2.2.2.2.2.1
theorem dX7_hush_41 : decode cX7_hush 41 = .ok (.if_icmp .ne 6, 3) := dX7_hush_23_b.2.2.2.2.2.2.2.2.2.2.1
theorem dX7_hush_44 : decode cX7_hush 44 = .ok (.ldc 127, 2) := dX7_hush_23_b.2.2.2.2.2.2.2.2.2.2.2
theorem dX7_hush_46_b : (decode cX7_hush 46 = .ok (.ireturn, 1)) ∧ (decode cX7_hush 47 = .ok (.aload_n 0, 1)) ∧ (decode cX7_hush 48 = .ok (.getfield 39, 3)) ∧ (decode cX7_hush 51 = .ok (.iconst 2, 1)) ∧ (decode cX7_hush 52 = .ok (.iload_n 1, 1)) ∧ (decode cX7_hush 53 = .ok (.iconst 1, 1)) ∧ (decode cX7_hush 54 = .ok (.iload_n 2, 1)) ∧ (decode cX7_hush 55 = .ok (.isub, 1)) ∧ (decode cX7_hush 56 = .ok (.invokevirtual 135, 3)) ∧ (decode cX7_hush 59 = .ok (.aload_n 0, 1)) ∧ (decode cX7_hush 60 = .ok (.getfield 26, 3)) ∧ (decode cX7_hush 63 = .ok (.iload_n 1, 1)) := by decide +kernel
theorem dX7_hush_46 : decode cX7_hush 46 = .ok (.ireturn, 1) := dX7_hush_46_b.1
theorem dX7_hush_47 : decode cX7_hush 47 = .ok (.aload_n 0, 1) := dX7_hush_46_b.2.1
theorem dX7_hush_48 : decode cX7_hush 48 = .ok (.getfield 39, 3) := dX7_hush_46_b.2.2.1
theorem dX7_hush_51 : decode cX7_hush 51 = .ok (.iconst 2, 1) := dX7_hush_46_b.2.2.2.1
theorem dX7_hush_52 : decode cX7_hush 52 = .ok (.iload_n 1, 1) := dX7_hush_46_b.2.2.2.2.1
theorem dX7_hush_53 : decode cX7_hush 53 = .ok (.iconst 1, 1) := dX7_hush_46_b.2.2.2.2.2.1
theorem dX7_hush_54 : decode cX7_hush 54 = .ok (.iload_n 2, 1) := dX7_hush_46_b.2.2.2.2.2.2.1
theorem dX7_hush_55 : decode cX7_hush 55 = .ok (.isub, 1) := dX7_hush_46_b.2.2.2.2.2.2.2.1
theorem dX7_hush_56 : decode cX7_hush 56 = .ok (.invokevirtual 135, 3) := dX7_hush_46_b.2.2.2.2.2.2.2.2.1
theorem dX7_hush_59 : decode cX7_hush 59 = .ok (.aload_n 0, 1) := dX7_hush_46_b.2.2.2.2.2.2.2.2.2.1
theorem dX7_hush_60 : decode cX7_hush 60 = .ok (.getfield 26, 3) := dX7_hush_46_b.2.2.2.2.2.2.2.2.2.2.1
theorem dX7_hush_63 : decode cX7_hush 63 = .ok (.iload_n 1, 1) := dX7_hush_46_b.2.2.2.2.2.2.2.2.2.2.2
theorem dX7_hush_64_b : (decode cX7_hush 64 = .ok (.iload_n 2, 1)) ∧ (decode cX7_hush 65 = .ok (.iconst 1, 1)) ∧ (decode cX7_hush 66 = .ok (.if_icmp .ne 7, 3)) ∧ (decode cX7_hush 69 = .ok (.iconst 1, 1)) ∧ (decode cX7_hush 70 = .ok (.goto 4, 3)) ∧ (decode cX7_hush 73 = .ok (.iconst 0, 1)) ∧ (decode cX7_hush 74 = .ok (.invokevirtual 151, 3)) ∧ (decode cX7_hush 77 = .ok (.aload_n 0, 1)) ∧ (decode cX7_hush 78 = .ok (.getfield 26, 3)) ∧ (decode cX7_hush 81 = .ok (.getfield 155, 3)) ∧ (decode cX7_hush 84 = .ok (.invokestatic 158, 3)) ∧ (decode cX7_hush 87 = .ok (.ireturn, 1)) := by decide +kernel
theorem dX7_hush_64 : decode cX7_hush 64 = .ok (.iload_n 2, 1) := dX7_hush_64_b.1
theorem dX7_hush_65 : decode cX7_hush 65 = .ok (.iconst 1, 1) := dX7_hush_64_b.2.1
theorem dX7_hush_66 : decode cX7_hush 66 = .ok (.if_icmp .ne 7, 3) := dX7_hush_64_b.2.2.1
theorem dX7_hush_69 : decode cX7_hush 69 = .ok (.iconst 1, 1) := dX7_hush_64_b.2.2.2.1
theorem dX7_hush_70 : decode cX7_hush 70 = .ok (.goto 4, 3) := dX7_hush_64_b.2.2.2.2.1
theorem dX7_hush_73 : decode cX7_hush 73 = .ok (.iconst 0, 1) := dX7_hush_64_b.2.2.2.2.2.1
theorem dX7_hush_74 : decode cX7_hush 74 = .ok (.invokevirtual 151, 3) := dX7_hush_64_b.2.2.2.2.2.2.1
theorem dX7_hush_77 : decode cX7_hush 77 = .ok (.aload_n 0, 1) := dX7_hush_64_b.2.2.2.2.2.2.2.1
theorem dX7_hush_78 : decode cX7_hush 78 = .ok (.getfield 26, 3) := dX7_hush_64_b.2.2.2.2.2.2.2.2.1
theorem dX7_hush_81 : decode cX7_hush 81 = .ok (.getfield 155, 3) := dX7_hush_64_b.2.2.2.2.2.2.2.2.2.1
theorem dX7_hush_84 : decode cX7_hush 84 = .ok (.invokestatic 158, 3) := dX7_hush_64_b.2.2.2.2.2.2.2.2.2.2.1
theorem dX7_hush_87 : decode cX7_hush 87 = .ok (.ireturn, 1) := dX7_hush_64_b.2.2.2.2.2.2.2.2.2.2.2
theorem dX7_wool_0_b : (decode cX7_wool 0 = .ok (.aload_n 0, 1)) ∧ (decode cX7_wool 1 = .ok (.getfield 26, 3)) ∧ (decode cX7_wool 4 = .ok (.getfield 123, 3)) ∧ (decode cX7_wool 7 = .ok (.ifCond .ne 6, 3)) ∧ (decode cX7_wool 10 = .ok (.ldc 127, 2)) ∧ (decode cX7_wool 12 = .ok (.ireturn, 1)) ∧ (decode cX7_wool 13 = .ok (.iload_n 1, 1)) ∧ (decode cX7_wool 14 = .ok (.iconst 0, 1)) ∧ (decode cX7_wool 15 = .ok (.bipush 12, 2)) ∧ (decode cX7_wool 17 = .ok (.invokestatic 97, 3)) ∧ (decode cX7_wool 20 = .ok (.ifCond .ne 6, 3)) ∧ (decode cX7_wool 23 = .ok (.ldc 64, 2)) := by decide +kernel
theorem dX7_wool_0 : decode cX7_wool 0 = .ok (.aload_n 0, 1) := dX7_wool_0_b.1
theorem dX7_wool_1 : decode cX7_wool 1 = .ok (.getfield 26, 3) := dX7_wool_0_b.2.1
theorem dX7_wool_4 : decode cX7_wool 4 = .ok (.getfield 123, 3) := dX7_wool_0_b.2.2.1
theorem dX7_wool_7 : decode cX7_wool 7 = .ok (.ifCond .ne 6, 3) := dX7_wool_0_b.2.2.2.1
theorem dX7_wool_10 : decode cX7_wool 10 = .ok (.ldc 127, 2) := dX7_wool_0_b.2.2.2.2.1
theorem dX7_wool_12 : decode cX7_wool 12 = .ok (.ireturn, 1) := dX7_wool_0_b.2.2.2.2.2.1
theorem dX7_wool_13 : decode cX7_wool 13 = .ok (.iload_n 1, 1) := dX7_wool_0_b.2.2.2.2.2.2.1
theorem dX7_wool_14 : decode cX7_wool 14 = .ok (.iconst 0, 1) := dX7_wool_0_b.2.2.2.2.2.2.2.1
theorem dX7_wool_15 : decode cX7_wool 15 = .ok (.bipush 12, 2) := dX7_wool_0_b.2.2.2.2.2.2.2.2.1
theorem dX7_wool_17 : decode cX7_wool 17 = .ok (.invokestatic 97, 3) := dX7_wool_0_b.2.2.2.2.2.2.2.2.2.1
theorem dX7_wool_20 : decode cX7_wool 20 = .ok (.ifCond .ne 6, 3) := dX7_wool_0_b.2.2.2.2.2.2.2.2.2.2.1
theorem dX7_wool_23 : decode cX7_wool 23 = .ok (.ldc 64, 2) := dX7_wool_0_b.2.2.2.2.2.2.2.2.2.2.2
theorem dX7_wool_25_b : (decode cX7_wool 25 = .ok (.ireturn, 1)) ∧ (decode cX7_wool 26 = .ok (.aload_n 0, 1)) ∧ (decode cX7_wool 27 = .ok (.getfield 26, 3)) ∧ (decode cX7_wool 30 = .ok (.getfield 163, 3)) ∧ (decode cX7_wool 33 = .ok (.istore_n 2, 1)) ∧ (decode cX7_wool 34 = .ok (.aload_n 0, 1)) ∧ (decode cX7_wool 35 = .ok (.getfield 39, 3)) ∧ (decode cX7_wool 38 = .ok (.iconst 3, 1)) ∧ (decode cX7_wool 39 = .ok (.iconst 0, 1)) ∧ (decode cX7_wool 40 = .ok (.iload_n 2, 1)) ∧ (decode cX7_wool 41 = .ok (.invokevirtual 135, 3)) ∧ (decode cX7_wool 44 = .ok (.aload_n 0, 1)) := by decide +kernel
theorem dX7_wool_25 : decode cX7_wool 25 = .ok (.ireturn, 1) := dX7_wool_25_b.1
theorem dX7_wool_26 : decode cX7_wool 26 = .ok (.aload_n 0, 1) := dX7_wool_25_b.2.1
theorem dX7_wool_27 : decode cX7_wool 27 = .ok (.getfield 26, 3) := dX7_wool_25_b.2.2.1
theorem dX7_wool_30 : decode cX7_wool 30 = .ok (.getfield 163, 3) := dX7_wool_25_b.2.2.2.1
theorem dX7_wool_33 : decode cX7_wool 33 = .ok (.istore_n 2, 1) := dX7_wool_25_b.2.2.2.2.1
theorem dX7_wool_34 : decode cX7_wool 34 = .ok (.aload_n 0, 1) := dX7_wool_25_b.2.2.2.2.2.1
theorem dX7_wool_35 : decode cX7_wool 35 = .ok (.getfield 39, 3) := dX7_wool_25_b.2.2.2.2.2.2.1
theorem dX7_wool_38 : decode cX7_wool 38 = .ok (.iconst 3, 1) := dX7_wool_25_b.2.2.2.2.2.2.2.1
theorem dX7_wool_39 : decode cX7_wool 39 = .ok (.iconst 0, 1) := dX7_wool_25_b.2.2.2.2.2.2.2.2.1
theorem dX7_wool_40 : decode cX7_wool 40 = .ok (.iload_n 2, 1) := dX7_wool_25_b.2.2.2.2.2.2.2.2.2.1
theorem dX7_wool_41 : decode cX7_wool 41 = .ok (.invokevirtual 135, 3) := dX7_wool_25_b.2.2.2.2.2.2.2.2.2.2.1
theorem dX7_wool_44 : decode cX7_wool 44 = .ok (.aload_n 0, 1) := dX7_wool_25_b.2.2.2.2.2.2.2.2.2.2.2
theorem dX7_wool_45_b : (decode cX7_wool 45 = .ok (.getfield 26, 3)) ∧ (decode cX7_wool 48 = .ok (.iload_n 1, 1)) ∧ (decode cX7_wool 49 = .ok (.putfield 163, 3)) ∧ (decode cX7_wool 52 = .ok (.iload_n 2, 1)) ∧ (decode cX7_wool 53 = .ok (.ireturn, 1)) := by decide +kernel
theorem dX7_wool_45 : decode cX7_wool 45 = .ok (.getfield 26, 3) := dX7_wool_45_b.1
theorem dX7_wool_48 : decode cX7_wool 48 = .ok (.iload_n 1, 1) := dX7_wool_45_b.2.1
theorem dX7_wool_49 : decode cX7_wool 49 = .ok (.putfield 163, 3) := dX7_wool_45_b.2.2.1
theorem dX7_wool_52 : decode cX7_wool 52 = .ok (.iload_n 2, 1) := dX7_wool_45_b.2.2.2.1
theorem dX7_wool_53 : decode cX7_wool 53 = .ok (.ireturn, 1) := dX7_wool_45_b.2.2.2.2
theorem dX7_undo_0_b : (decode cX7_undo 0 = .ok (.aload_n 0, 1)) ∧ (decode cX7_undo 1 = .ok (.getfield 39, 3)) ∧ (decode cX7_undo 4 = .ok (.getfield 166, 3)) ∧ (decode cX7_undo 7 = .ok (.ifCond .ne 6, 3)) ∧ (decode cX7_undo 10 = .ok (.ldc 127, 2)) ∧ (decode cX7_undo 12 = .ok (.ireturn, 1)) ∧ (decode cX7_undo 13 = .ok (.aload_n 0, 1)) ∧ (decode cX7_undo 14 = .ok (.getfield 39, 3)) ∧ (decode cX7_undo 17 = .ok (.aload_n 0, 1)) ∧ (decode cX7_undo 18 = .ok (.getfield 26, 3)) ∧ (decode cX7_undo 21 = .ok (.invokevirtual 169, 3)) ∧ (decode cX7_undo 24 = .ok (.aload_n 0, 1)) := by decide +kernel
theorem dX7_undo_0 : decode cX7_undo 0 = .ok (.aload_n 0, 1) := dX7_undo_0_b.1
theorem dX7_undo_1 : decode cX7_undo 1 = .ok (.getfield 39, 3) := dX7_undo_0_b.2.1
theorem dX7_undo_4 : decode cX7_undo 4 = .ok (.getfield 166, 3) := dX7_undo_0_b.2.2.1
theorem dX7_undo_7 : decode cX7_undo 7 = .ok (.ifCond .ne 6, 3) := dX7_undo_0_b.2.2.2.1
theorem dX7_undo_10 : decode cX7_undo 10 = .ok (.ldc 127, 2) := dX7_undo_0_b.2.2.2.2.1
theorem dX7_undo_12 : decode cX7_undo 12 = .ok (.ireturn, 1) := dX7_undo_0_b.2.2.2.2.2.1
theorem dX7_undo_13 : decode cX7_undo 13 = .ok (.aload_n 0, 1) := dX7_undo_0_b.2.2.2.2.2.2.1
theorem dX7_undo_14 : decode cX7_undo 14 = .ok (.getfield 39, 3) := dX7_undo_0_b.2.2.2.2.2.2.2.1
theorem dX7_undo_17 : decode cX7_undo 17 = .ok (.aload_n 0, 1) := dX7_undo_0_b.2.2.2.2.2.2.2.2.1
theorem dX7_undo_18 : decode cX7_undo 18 = .ok (.getfield 26, 3) := dX7_undo_0_b.2.2.2.2.2.2.2.2.2.1
theorem dX7_undo_21 : decode cX7_undo 21 = .ok (.invokevirtual 169, 3) := dX7_undo_0_b.2.2.2.2.2.2.2.2.2.2.1
theorem dX7_undo_24 : decode cX7_undo 24 = .ok (.aload_n 0, 1) := dX7_undo_0_b.2.2.2.2.2.2.2.2.2.2.2
theorem dX7_undo_25_b : (decode cX7_undo 25 = .ok (.getfield 39, 3)) ∧ (decode cX7_undo 28 = .ok (.getfield 166, 3)) ∧ (decode cX7_undo 31 = .ok (.ireturn, 1)) := by decide +kernel
theorem dX7_undo_25 : decode cX7_undo 25 = .ok (.getfield 39, 3) := dX7_undo_25_b.1
theorem dX7_undo_28 : decode cX7_undo 28 = .ok (.getfield 166, 3) := dX7_undo_25_b.2.1
theorem dX7_undo_31 : decode cX7_undo 31 = .ok (.ireturn, 1) := dX7_undo_25_b.2.2
theorem dX7_ear_0_b : (decode cX7_ear 0 = .ok (.aload_n 0, 1)) ∧ (decode cX7_ear 1 = .ok (.getfield 26, 3)) ∧ (decode cX7_ear 4 = .ok (.iload_n 1, 1)) ∧ (decode cX7_ear 5 = .ok (.invokevirtual 141, 3)) ∧ (decode cX7_ear 8 = .ok (.ifCond .ne 6, 3)) ∧ (decode cX7_ear 11 = .ok (.ldc 64, 2)) ∧ (decode cX7_ear 13 = .ok (.ireturn, 1)) ∧ (decode cX7_ear 14 = .ok (.iload_n 2, 1)) ∧ (decode cX7_ear 15 = .ok (.tableswitch 110 0 5 #[37, 47, 57, 74, 91, 100], 37)) ∧ (decode cX7_ear 52 = .ok (.aload_n 0, 1)) ∧ (decode cX7_ear 53 = .ok (.getfield 26, 3)) ∧ (decode cX7_ear 56 = .ok (.getfield 173, 3)) := by decide +kernel
theorem dX7_ear_0 : decode cX7_ear 0 = .ok (.aload_n 0, 1) := dX7_ear_0_b.1
theorem dX7_ear_1 : decode cX7_ear 1 = .ok (.getfield 26, 3) := dX7_ear_0_b.2.1
theorem dX7_ear_4 : decode cX7_ear 4 = .ok (.iload_n 1, 1) := dX7_ear_0_b.2.2.1
theorem dX7_ear_5 : decode cX7_ear 5 = .ok (.invokevirtual 141, 3) := dX7_ear_0_b.2.2.2.1
theorem dX7_ear_8 : decode cX7_ear 8 = .ok (.ifCond .ne 6, 3) := dX7_ear_0_b.2.2.2.2.1
theorem dX7_ear_11 : decode cX7_ear 11 = .ok (.ldc 64, 2) := dX7_ear_0_b.2.2.2.2.2.1
theorem dX7_ear_13 : decode cX7_ear 13 = .ok (.ireturn, 1) := dX7_ear_0_b.2.2.2.2.2.2.1
theorem dX7_ear_14 : decode cX7_ear 14 = .ok (.iload_n 2, 1) := dX7_ear_0_b.2.2.2.2.2.2.2.1
theorem dX7_ear_15 : decode cX7_ear 15 = .ok (.tableswitch 110 0 5 #[37, 47, 57, 74, 91, 100], 37) := dX7_ear_0_b.2.2.2.2.2.2.2.2.1
theorem dX7_ear_52 : decode cX7_ear 52 = .ok (.aload_n 0, 1) := dX7_ear_0_b.2.2.2.2.2.2.2.2.2.1
theorem dX7_ear_53 : decode cX7_ear 53 = .ok (.getfield 26, 3) := dX7_ear_0_b.2.2.2.2.2.2.2.2.2.2.1
theorem dX7_ear_56 : decode cX7_ear 56 = .ok (.getfield 173, 3) := dX7_ear_0_b.2.2.2.2.2.2.2.2.2.2.2
theorem dX7_ear_59_b : (decode cX7_ear 59 = .ok (.iload_n 1, 1)) ∧ (decode cX7_ear 60 = .ok (.iaload, 1)) ∧ (decode cX7_ear 61 = .ok (.ireturn, 1)) ∧ (decode cX7_ear 62 = .ok (.aload_n 0, 1)) ∧ (decode cX7_ear 63 = .ok (.getfield 26, 3)) ∧ (decode cX7_ear 66 = .ok (.getfield 144, 3)) ∧ (decode cX7_ear 69 = .ok (.iload_n 1, 1)) ∧ (decode cX7_ear 70 = .ok (.iaload, 1)) ∧ (decode cX7_ear 71 = .ok (.ireturn, 1)) ∧ (decode cX7_ear 72 = .ok (.aload_n 0, 1)) ∧ (decode cX7_ear 73 = .ok (.getfield 26, 3)) ∧ (decode cX7_ear 76 = .ok (.iload_n 1, 1)) := by decide +kernel
theorem dX7_ear_59 : decode cX7_ear 59 = .ok (.iload_n 1, 1) := dX7_ear_59_b.1
theorem dX7_ear_60 : decode cX7_ear 60 = .ok (.iaload, 1) := dX7_ear_59_b.2.1
theorem dX7_ear_61 : decode cX7_ear 61 = .ok (.ireturn, 1) := dX7_ear_59_b.2.2.1
theorem dX7_ear_62 : decode cX7_ear 62 = .ok (.aload_n 0, 1) := dX7_ear_59_b.2.2.2.1
theorem dX7_ear_63 : decode cX7_ear 63 = .ok (.getfield 26, 3) := dX7_ear_59_b.2.2.2.2.1
theorem dX7_ear_66 : decode cX7_ear 66 = .ok (.getfield 144, 3) := dX7_ear_59_b.2.2.2.2.2.1
theorem dX7_ear_69 : decode cX7_ear 69 = .ok (.iload_n 1, 1) := dX7_ear_59_b.2.2.2.2.2.2.1
theorem dX7_ear_70 : decode cX7_ear 70 = .ok (.iaload, 1) := dX7_ear_59_b.2.2.2.2.2.2.2.1
theorem dX7_ear_71 : decode cX7_ear 71 = .ok (.ireturn, 1) := dX7_ear_59_b.2.2.2.2.2.2.2.2.1
theorem dX7_ear_72 : decode cX7_ear 72 = .ok (.aload_n 0, 1) := dX7_ear_59_b.2.2.2.2.2.2.2.2.2.1
theorem dX7_ear_73 : decode cX7_ear 73 = .ok (.getfield 26, 3) := dX7_ear_59_b.2.2.2.2.2.2.2.2.2.2.1
theorem dX7_ear_76 : decode cX7_ear 76 = .ok (.iload_n 1, 1) := dX7_ear_59_b.2.2.2.2.2.2.2.2.2.2.2
theorem dX7_ear_77_b : (decode cX7_ear 77 = .ok (.invokevirtual 148, 3)) ∧ (decode cX7_ear 80 = .ok (.ifCond .eq 7, 3)) ∧ (decode cX7_ear 83 = .ok (.iconst 1, 1)) ∧ (decode cX7_ear 84 = .ok (.goto 4, 3)) ∧ (decode cX7_ear 87 = .ok (.iconst 0, 1)) ∧ (decode cX7_ear 88 = .ok (.ireturn, 1)) ∧ (decode cX7_ear 89 = .ok (.aload_n 0, 1)) ∧ (decode cX7_ear 90 = .ok (.getfield 26, 3)) ∧ (decode cX7_ear 93 = .ok (.iload_n 1, 1)) ∧ (decode cX7_ear 94 = .ok (.invokevirtual 176, 3)) ∧ (decode cX7_ear 97 = .ok (.ifCond .eq 7, 3)) ∧ (decode cX7_ear 100 = .ok (.iconst 1, 1)) := by decide +kernel
theorem dX7_ear_77 : decode cX7_ear 77 = .ok (.invokevirtual 148, 3) := dX7_ear_77_b.1
theorem dX7_ear_80 : decode cX7_ear 80 = .ok (.ifCond .eq 7, 3) := dX7_ear_77_b.2.1
theorem dX7_ear_83 : decode cX7_ear 83 = .ok (.iconst 1, 1) := dX7_ear_77_b.2.2.1
theorem dX7_ear_84 : decode cX7_ear 84 = .ok (.goto 4, 3) := dX7_ear_77_b.2.2.2.1
theorem dX7_ear_87 : decode cX7_ear 87 = .ok (.iconst 0, 1) := dX7_ear_77_b.2.2.2.2.1
theorem dX7_ear_88 : decode cX7_ear 88 = .ok (.ireturn, 1) := dX7_ear_77_b.2.2.2.2.2.1
theorem dX7_ear_89 : decode cX7_ear 89 = .ok (.aload_n 0, 1) := dX7_ear_77_b.2.2.2.2.2.2.1
theorem dX7_ear_90 : decode cX7_ear 90 = .ok (.getfield 26, 3) := dX7_ear_77_b.2.2.2.2.2.2.2.1
theorem dX7_ear_93 : decode cX7_ear 93 = .ok (.iload_n 1, 1) := dX7_ear_77_b.2.2.2.2.2.2.2.2.1
theorem dX7_ear_94 : decode cX7_ear 94 = .ok (.invokevirtual 176, 3) := dX7_ear_77_b.2.2.2.2.2.2.2.2.2.1
theorem dX7_ear_97 : decode cX7_ear 97 = .ok (.ifCond .eq 7, 3) := dX7_ear_77_b.2.2.2.2.2.2.2.2.2.2.1
theorem dX7_ear_100 : decode cX7_ear 100 = .ok (.iconst 1, 1) := dX7_ear_77_b.2.2.2.2.2.2.2.2.2.2.2
theorem dX7_ear_101_b : (decode cX7_ear 101 = .ok (.goto 4, 3)) ∧ (decode cX7_ear 104 = .ok (.iconst 0, 1)) ∧ (decode cX7_ear 105 = .ok (.ireturn, 1)) ∧ (decode cX7_ear 106 = .ok (.aload_n 0, 1)) ∧ (decode cX7_ear 107 = .ok (.getfield 26, 3)) ∧ (decode cX7_ear 110 = .ok (.iload_n 1, 1)) ∧ (decode cX7_ear 111 = .ok (.invokevirtual 179, 3)) ∧ (decode cX7_ear 114 = .ok (.ireturn, 1)) ∧ (decode cX7_ear 115 = .ok (.aload_n 0, 1)) ∧ (decode cX7_ear 116 = .ok (.getfield 26, 3)) ∧ (decode cX7_ear 119 = .ok (.getfield 182, 3)) ∧ (decode cX7_ear 122 = .ok (.iload_n 1, 1)) := by decide +kernel
theorem dX7_ear_101 : decode cX7_ear 101 = .ok (.goto 4, 3) := dX7_ear_101_b.1
theorem dX7_ear_104 : decode cX7_ear 104 = .ok (.iconst 0, 1) := dX7_ear_101_b.2.1
theorem dX7_ear_105 : decode cX7_ear 105 = .ok (.ireturn, 1) := dX7_ear_101_b.2.2.1
theorem dX7_ear_106 : decode cX7_ear 106 = .ok (.aload_n 0, 1) := dX7_ear_101_b.2.2.2.1
theorem dX7_ear_107 : decode cX7_ear 107 = .ok (.getfield 26, 3) := dX7_ear_101_b.2.2.2.2.1
theorem dX7_ear_110 : decode cX7_ear 110 = .ok (.iload_n 1, 1) := dX7_ear_101_b.2.2.2.2.2.1
theorem dX7_ear_111 : decode cX7_ear 111 = .ok (.invokevirtual 179, 3) := dX7_ear_101_b.2.2.2.2.2.2.1
theorem dX7_ear_114 : decode cX7_ear 114 = .ok (.ireturn, 1) := dX7_ear_101_b.2.2.2.2.2.2.2.1
theorem dX7_ear_115 : decode cX7_ear 115 = .ok (.aload_n 0, 1) := dX7_ear_101_b.2.2.2.2.2.2.2.2.1
theorem dX7_ear_116 : decode cX7_ear 116 = .ok (.getfield 26, 3) := dX7_ear_101_b.2.2.2.2.2.2.2.2.2.1
theorem dX7_ear_119 : decode cX7_ear 119 = .ok (.getfield 182, 3) := dX7_ear_101_b.2.2.2.2.2.2.2.2.2.2.1
theorem dX7_ear_122 : decode cX7_ear 122 = .ok (.iload_n 1, 1) := dX7_ear_101_b.2.2.2.2.2.2.2.2.2.2.2
theorem dX7_ear_123_b : (decode cX7_ear 123 = .ok (.iaload, 1)) ∧ (decode cX7_ear 124 = .ok (.ireturn, 1)) ∧ (decode cX7_ear 125 = .ok (.ldc 64, 2)) ∧ (decode cX7_ear 127 = .ok (.ireturn, 1)) := by decide +kernel
theorem dX7_ear_123 : decode cX7_ear 123 = .ok (.iaload, 1) := dX7_ear_123_b.1
theorem dX7_ear_124 : decode cX7_ear 124 = .ok (.ireturn, 1) := dX7_ear_123_b.2.1
theorem dX7_ear_125 : decode cX7_ear 125 = .ok (.ldc 64, 2) := dX7_ear_123_b.2.2.1
theorem dX7_ear_127 : decode cX7_ear 127 = .ok (.ireturn, 1) := dX7_ear_123_b.2.2.2
theorem dX7_clock_0_b : (decode cX7_clock 0 = .ok (.aload_n 0, 1)) ∧ (decode cX7_clock 1 = .ok (.getfield 26, 3)) ∧ (decode cX7_clock 4 = .ok (.getfield 123, 3)) ∧ (decode cX7_clock 7 = .ok (.ifCond .ne 6, 3)) ∧ (decode cX7_clock 10 = .ok (.ldc 127, 2)) ∧ (decode cX7_clock 12 = .ok (.ireturn, 1)) ∧ (decode cX7_clock 13 = .ok (.iload_n 1, 1)) ∧ (decode cX7_clock 14 = .ok (.tableswitch 79 0 3 #[30, 38, 49, 71], 30)) ∧ (decode cX7_clock 44 = .ok (.aload_n 0, 1)) ∧ (decode cX7_clock 45 = .ok (.getfield 26, 3)) ∧ (decode cX7_clock 48 = .ok (.getfield 138, 3)) ∧ (decode cX7_clock 51 = .ok (.ireturn, 1)) := by decide +kernel
theorem dX7_clock_0 : decode cX7_clock 0 = .ok (.aload_n 0, 1) := dX7_clock_0_b.1
theorem dX7_clock_1 : decode cX7_clock 1 = .ok (.getfield 26, 3) := dX7_clock_0_b.2.1
theorem dX7_clock_4 : decode cX7_clock 4 = .ok (.getfield 123, 3) := dX7_clock_0_b.2.2.1
theorem dX7_clock_7 : decode cX7_clock 7 = .ok (.ifCond .ne 6, 3) := dX7_clock_0_b.2.2.2.1
theorem dX7_clock_10 : decode cX7_clock 10 = .ok (.ldc 127, 2) := dX7_clock_0_b.2.2.2.2.1
theorem dX7_clock_12 : decode cX7_clock 12 = .ok (.ireturn, 1) := dX7_clock_0_b.2.2.2.2.2.1
theorem dX7_clock_13 : decode cX7_clock 13 = .ok (.iload_n 1, 1) := dX7_clock_0_b.2.2.2.2.2.2.1
theorem dX7_clock_14 : decode cX7_clock 14 = .ok (.tableswitch 79 0 3 #[30, 38, 49, 71], 30) := dX7_clock_0_b.2.2.2.2.2.2.2.1
theorem dX7_clock_44 : decode cX7_clock 44 = .ok (.aload_n 0, 1) := dX7_clock_0_b.2.2.2.2.2.2.2.2.1
theorem dX7_clock_45 : decode cX7_clock 45 = .ok (.getfield 26, 3) := dX7_clock_0_b.2.2.2.2.2.2.2.2.2.1
theorem dX7_clock_48 : decode cX7_clock 48 = .ok (.getfield 138, 3) := dX7_clock_0_b.2.2.2.2.2.2.2.2.2.2.1
theorem dX7_clock_51 : decode cX7_clock 51 = .ok (.ireturn, 1) := dX7_clock_0_b.2.2.2.2.2.2.2.2.2.2.2
theorem dX7_clock_52_b : (decode cX7_clock 52 = .ok (.aload_n 0, 1)) ∧ (decode cX7_clock 53 = .ok (.getfield 26, 3)) ∧ (decode cX7_clock 56 = .ok (.getfield 138, 3)) ∧ (decode cX7_clock 59 = .ok (.bipush 12, 2)) ∧ (decode cX7_clock 61 = .ok (.idiv, 1)) ∧ (decode cX7_clock 62 = .ok (.ireturn, 1)) ∧ (decode cX7_clock 63 = .ok (.aload_n 0, 1)) ∧ (decode cX7_clock 64 = .ok (.getfield 26, 3)) ∧ (decode cX7_clock 67 = .ok (.aload_n 0, 1)) ∧ (decode cX7_clock 68 = .ok (.getfield 26, 3)) ∧ (decode cX7_clock 71 = .ok (.invokevirtual 185, 3)) ∧ (decode cX7_clock 74 = .ok (.aload_n 0, 1)) := by decide +kernel
theorem dX7_clock_52 : decode cX7_clock 52 = .ok (.aload_n 0, 1) := dX7_clock_52_b.1
theorem dX7_clock_53 : decode cX7_clock 53 = .ok (.getfield 26, 3) := dX7_clock_52_b.2.1
theorem dX7_clock_56 : decode cX7_clock 56 = .ok (.getfield 138, 3) := dX7_clock_52_b.2.2.1
theorem dX7_clock_59 : decode cX7_clock 59 = .ok (.bipush 12, 2) := dX7_clock_52_b.2.2.2.1
theorem dX7_clock_61 : decode cX7_clock 61 = .ok (.idiv, 1) := dX7_clock_52_b.2.2.2.2.1
theorem dX7_clock_62 : decode cX7_clock 62 = .ok (.ireturn, 1) := dX7_clock_52_b.2.2.2.2.2.1
theorem dX7_clock_63 : decode cX7_clock 63 = .ok (.aload_n 0, 1) := dX7_clock_52_b.2.2.2.2.2.2.1
theorem dX7_clock_64 : decode cX7_clock 64 = .ok (.getfield 26, 3) := dX7_clock_52_b.2.2.2.2.2.2.2.1
theorem dX7_clock_67 : decode cX7_clock 67 = .ok (.aload_n 0, 1) := dX7_clock_52_b.2.2.2.2.2.2.2.2.1
theorem dX7_clock_68 : decode cX7_clock 68 = .ok (.getfield 26, 3) := dX7_clock_52_b.2.2.2.2.2.2.2.2.2.1
theorem dX7_clock_71 : decode cX7_clock 71 = .ok (.invokevirtual 185, 3) := dX7_clock_52_b.2.2.2.2.2.2.2.2.2.2.1
theorem dX7_clock_74 : decode cX7_clock 74 = .ok (.aload_n 0, 1) := dX7_clock_52_b.2.2.2.2.2.2.2.2.2.2.2
theorem dX7_clock_75_b : (decode cX7_clock 75 = .ok (.getfield 26, 3)) ∧ (decode cX7_clock 78 = .ok (.getfield 128, 3)) ∧ (decode cX7_clock 81 = .ok (.invokevirtual 188, 3)) ∧ (decode cX7_clock 84 = .ok (.ireturn, 1)) ∧ (decode cX7_clock 85 = .ok (.aload_n 0, 1)) ∧ (decode cX7_clock 86 = .ok (.getfield 26, 3)) ∧ (decode cX7_clock 89 = .ok (.getfield 163, 3)) ∧ (decode cX7_clock 92 = .ok (.ireturn, 1)) ∧ (decode cX7_clock 93 = .ok (.ldc 64, 2)) ∧ (decode cX7_clock 95 = .ok (.ireturn, 1)) := by decide +kernel
theorem dX7_clock_75 : decode cX7_clock 75 = .ok (.getfield 26, 3) := dX7_clock_75_b.1
theorem dX7_clock_78 : decode cX7_clock 78 = .ok (.getfield 128, 3) := dX7_clock_75_b.2.1
theorem dX7_clock_81 : decode cX7_clock 81 = .ok (.invokevirtual 188, 3) := dX7_clock_75_b.2.2.1
theorem dX7_clock_84 : decode cX7_clock 84 = .ok (.ireturn, 1) := dX7_clock_75_b.2.2.2.1
theorem dX7_clock_85 : decode cX7_clock 85 = .ok (.aload_n 0, 1) := dX7_clock_75_b.2.2.2.2.1
theorem dX7_clock_86 : decode cX7_clock 86 = .ok (.getfield 26, 3) := dX7_clock_75_b.2.2.2.2.2.1
theorem dX7_clock_89 : decode cX7_clock 89 = .ok (.getfield 163, 3) := dX7_clock_75_b.2.2.2.2.2.2.1
theorem dX7_clock_92 : decode cX7_clock 92 = .ok (.ireturn, 1) := dX7_clock_75_b.2.2.2.2.2.2.2.1
theorem dX7_clock_93 : decode cX7_clock 93 = .ok (.ldc 64, 2) := dX7_clock_75_b.2.2.2.2.2.2.2.2.1
theorem dX7_clock_95 : decode cX7_clock 95 = .ok (.ireturn, 1) := dX7_clock_75_b.2.2.2.2.2.2.2.2.2
theorem dX7_ahead_0_b : (decode cX7_ahead 0 = .ok (.aload_n 0, 1)) ∧ (decode cX7_ahead 1 = .ok (.getfield 26, 3)) ∧ (decode cX7_ahead 4 = .ok (.getfield 123, 3)) ∧ (decode cX7_ahead 7 = .ok (.ifCond .ne 6, 3)) ∧ (decode cX7_ahead 10 = .ok (.ldc 127, 2)) ∧ (decode cX7_ahead 12 = .ok (.ireturn, 1)) ∧ (decode cX7_ahead 13 = .ok (.iload_n 1, 1)) ∧ (decode cX7_ahead 14 = .ok (.iconst 0, 1)) ∧ (decode cX7_ahead 15 = .ok (.bipush 99, 2)) ∧ (decode cX7_ahead 17 = .ok (.invokestatic 97, 3)) ∧ (decode cX7_ahead 20 = .ok (.ifCond .ne 6, 3)) ∧ (decode cX7_ahead 23 = .ok (.ldc 64, 2)) := by decide +kernel
theorem dX7_ahead_0 : decode cX7_ahead 0 = .ok (.aload_n 0, 1) := dX7_ahead_0_b.1
theorem dX7_ahead_1 : decode cX7_ahead 1 = .ok (.getfield 26, 3) := dX7_ahead_0_b.2.1
theorem dX7_ahead_4 : decode cX7_ahead 4 = .ok (.getfield 123, 3) := dX7_ahead_0_b.2.2.1
theorem dX7_ahead_7 : decode cX7_ahead 7 = .ok (.ifCond .ne 6, 3) := dX7_ahead_0_b.2.2.2.1
theorem dX7_ahead_10 : decode cX7_ahead 10 = .ok (.ldc 127, 2) := dX7_ahead_0_b.2.2.2.2.1
theorem dX7_ahead_12 : decode cX7_ahead 12 = .ok (.ireturn, 1) := dX7_ahead_0_b.2.2.2.2.2.1
theorem dX7_ahead_13 : decode cX7_ahead 13 = .ok (.iload_n 1, 1) := dX7_ahead_0_b.2.2.2.2.2.2.1
theorem dX7_ahead_14 : decode cX7_ahead 14 = .ok (.iconst 0, 1) := dX7_ahead_0_b.2.2.2.2.2.2.2.1
theorem dX7_ahead_15 : decode cX7_ahead 15 = .ok (.bipush 99, 2) := dX7_ahead_0_b.2.2.2.2.2.2.2.2.1
theorem dX7_ahead_17 : decode cX7_ahead 17 = .ok (.invokestatic 97, 3) := dX7_ahead_0_b.2.2.2.2.2.2.2.2.2.1
theorem dX7_ahead_20 : decode cX7_ahead 20 = .ok (.ifCond .ne 6, 3) := dX7_ahead_0_b.2.2.2.2.2.2.2.2.2.2.1
theorem dX7_ahead_23 : decode cX7_ahead 23 = .ok (.ldc 64, 2) := dX7_ahead_0_b.2.2.2.2.2.2.2.2.2.2.2
theorem dX7_ahead_25_b : (decode cX7_ahead 25 = .ok (.ireturn, 1)) ∧ (decode cX7_ahead 26 = .ok (.aload_n 0, 1)) ∧ (decode cX7_ahead 27 = .ok (.getfield 26, 3)) ∧ (decode cX7_ahead 30 = .ok (.aload_n 0, 1)) ∧ (decode cX7_ahead 31 = .ok (.getfield 26, 3)) ∧ (decode cX7_ahead 34 = .ok (.invokevirtual 185, 3)) ∧ (decode cX7_ahead 37 = .ok (.iload_n 1, 1)) ∧ (decode cX7_ahead 38 = .ok (.invokestatic 192, 3)) ∧ (decode cX7_ahead 41 = .ok (.ireturn, 1)) := by decide +kernel
theorem dX7_ahead_25 : decode cX7_ahead 25 = .ok (.ireturn, 1) := dX7_ahead_25_b.1
theorem dX7_ahead_26 : decode cX7_ahead 26 = .ok (.aload_n 0, 1) := dX7_ahead_25_b.2.1
theorem dX7_ahead_27 : decode cX7_ahead 27 = .ok (.getfield 26, 3) := dX7_ahead_25_b.2.2.1
theorem dX7_ahead_30 : decode cX7_ahead 30 = .ok (.aload_n 0, 1) := dX7_ahead_25_b.2.2.2.1
theorem dX7_ahead_31 : decode cX7_ahead 31 = .ok (.getfield 26, 3) := dX7_ahead_25_b.2.2.2.2.1
theorem dX7_ahead_34 : decode cX7_ahead 34 = .ok (.invokevirtual 185, 3) := dX7_ahead_25_b.2.2.2.2.2.1
theorem dX7_ahead_37 : decode cX7_ahead 37 = .ok (.iload_n 1, 1) := dX7_ahead_25_b.2.2.2.2.2.2.1
theorem dX7_ahead_38 : decode cX7_ahead 38 = .ok (.invokestatic 192, 3) := dX7_ahead_25_b.2.2.2.2.2.2.2.1
theorem dX7_ahead_41 : decode cX7_ahead 41 = .ok (.ireturn, 1) := dX7_ahead_25_b.2.2.2.2.2.2.2.2
theorem dX7_whenShows_0_b : (decode cX7_whenShows 0 = .ok (.aload_n 0, 1)) ∧ (decode cX7_whenShows 1 = .ok (.getfield 26, 3)) ∧ (decode cX7_whenShows 4 = .ok (.getfield 123, 3)) ∧ (decode cX7_whenShows 7 = .ok (.ifCond .ne 6, 3)) ∧ (decode cX7_whenShows 10 = .ok (.ldc 127, 2)) ∧ (decode cX7_whenShows 12 = .ok (.ireturn, 1)) ∧ (decode cX7_whenShows 13 = .ok (.iload_n 1, 1)) ∧ (decode cX7_whenShows 14 = .ok (.iconst 0, 1)) ∧ (decode cX7_whenShows 15 = .ok (.sipush 999, 3)) ∧ (decode cX7_whenShows 18 = .ok (.invokestatic 97, 3)) ∧ (decode cX7_whenShows 21 = .ok (.ifCond .ne 6, 3)) ∧ (decode cX7_whenShows 24 = .ok (.ldc 64, 2)) := by decide +kernel
theorem dX7_whenShows_0 : decode cX7_whenShows 0 = .ok (.aload_n 0, 1) := dX7_whenShows_0_b.1
theorem dX7_whenShows_1 : decode cX7_whenShows 1 = .ok (.getfield 26, 3) := dX7_whenShows_0_b.2.1
theorem dX7_whenShows_4 : decode cX7_whenShows 4 = .ok (.getfield 123, 3) := dX7_whenShows_0_b.2.2.1
theorem dX7_whenShows_7 : decode cX7_whenShows 7 = .ok (.ifCond .ne 6, 3) := dX7_whenShows_0_b.2.2.2.1
theorem dX7_whenShows_10 : decode cX7_whenShows 10 = .ok (.ldc 127, 2) := dX7_whenShows_0_b.2.2.2.2.1
theorem dX7_whenShows_12 : decode cX7_whenShows 12 = .ok (.ireturn, 1) := dX7_whenShows_0_b.2.2.2.2.2.1
theorem dX7_whenShows_13 : decode cX7_whenShows 13 = .ok (.iload_n 1, 1) := dX7_whenShows_0_b.2.2.2.2.2.2.1
theorem dX7_whenShows_14 : decode cX7_whenShows 14 = .ok (.iconst 0, 1) := dX7_whenShows_0_b.2.2.2.2.2.2.2.1
theorem dX7_whenShows_15 : decode cX7_whenShows 15 = .ok (.sipush 999, 3) := dX7_whenShows_0_b.2.2.2.2.2.2.2.2.1
theorem dX7_whenShows_18 : decode cX7_whenShows 18 = .ok (.invokestatic 97, 3) := dX7_whenShows_0_b.2.2.2.2.2.2.2.2.2.1
theorem dX7_whenShows_21 : decode cX7_whenShows 21 = .ok (.ifCond .ne 6, 3) := dX7_whenShows_0_b.2.2.2.2.2.2.2.2.2.2.1
theorem dX7_whenShows_24 : decode cX7_whenShows 24 = .ok (.ldc 64, 2) := dX7_whenShows_0_b.2.2.2.2.2.2.2.2.2.2.2
theorem dX7_whenShows_26_b : (decode cX7_whenShows 26 = .ok (.ireturn, 1)) ∧ (decode cX7_whenShows 27 = .ok (.aload_n 0, 1)) ∧ (decode cX7_whenShows 28 = .ok (.getfield 26, 3)) ∧ (decode cX7_whenShows 31 = .ok (.iload_n 1, 1)) ∧ (decode cX7_whenShows 32 = .ok (.invokestatic 198, 3)) ∧ (decode cX7_whenShows 35 = .ok (.ireturn, 1)) := by decide +kernel
theorem dX7_whenShows_26 : decode cX7_whenShows 26 = .ok (.ireturn, 1) := dX7_whenShows_26_b.1
theorem dX7_whenShows_27 : decode cX7_whenShows 27 = .ok (.aload_n 0, 1) := dX7_whenShows_26_b.2.1
theorem dX7_whenShows_28 : decode cX7_whenShows 28 = .ok (.getfield 26, 3) := dX7_whenShows_26_b.2.2.1
theorem dX7_whenShows_31 : decode cX7_whenShows 31 = .ok (.iload_n 1, 1) := dX7_whenShows_26_b.2.2.2.1
theorem dX7_whenShows_32 : decode cX7_whenShows 32 = .ok (.invokestatic 198, 3) := dX7_whenShows_26_b.2.2.2.2.1
theorem dX7_whenShows_35 : decode cX7_whenShows 35 = .ok (.ireturn, 1) := dX7_whenShows_26_b.2.2.2.2.2
theorem dX7_done_0_b : (decode cX7_done 0 = .ok (.aload_n 0, 1)) ∧ (decode cX7_done 1 = .ok (.getfield 26, 3)) ∧ (decode cX7_done 4 = .ok (.iload_n 1, 1)) ∧ (decode cX7_done 5 = .ok (.invokevirtual 202, 3)) ∧ (decode cX7_done 8 = .ok (.ifCond .ne 6, 3)) ∧ (decode cX7_done 11 = .ok (.ldc 64, 2)) ∧ (decode cX7_done 13 = .ok (.ireturn, 1)) ∧ (decode cX7_done 14 = .ok (.aload_n 0, 1)) ∧ (decode cX7_done 15 = .ok (.getfield 26, 3)) ∧ (decode cX7_done 18 = .ok (.iload_n 1, 1)) ∧ (decode cX7_done 19 = .ok (.invokestatic 205, 3)) ∧ (decode cX7_done 22 = .ok (.ireturn, 1)) := by decide +kernel
theorem dX7_done_0 : decode cX7_done 0 = .ok (.aload_n 0, 1) := dX7_done_0_b.1
theorem dX7_done_1 : decode cX7_done 1 = .ok (.getfield 26, 3) := dX7_done_0_b.2.1
theorem dX7_done_4 : decode cX7_done 4 = .ok (.iload_n 1, 1) := dX7_done_0_b.2.2.1
theorem dX7_done_5 : decode cX7_done 5 = .ok (.invokevirtual 202, 3) := dX7_done_0_b.2.2.2.1
theorem dX7_done_8 : decode cX7_done 8 = .ok (.ifCond .ne 6, 3) := dX7_done_0_b.2.2.2.2.1
theorem dX7_done_11 : decode cX7_done 11 = .ok (.ldc 64, 2) := dX7_done_0_b.2.2.2.2.2.1
theorem dX7_done_13 : decode cX7_done 13 = .ok (.ireturn, 1) := dX7_done_0_b.2.2.2.2.2.2.1
theorem dX7_done_14 : decode cX7_done 14 = .ok (.aload_n 0, 1) := dX7_done_0_b.2.2.2.2.2.2.2.1
theorem dX7_done_15 : decode cX7_done 15 = .ok (.getfield 26, 3) := dX7_done_0_b.2.2.2.2.2.2.2.2.1
theorem dX7_done_18 : decode cX7_done 18 = .ok (.iload_n 1, 1) := dX7_done_0_b.2.2.2.2.2.2.2.2.2.1
theorem dX7_done_19 : decode cX7_done 19 = .ok (.invokestatic 205, 3) := dX7_done_0_b.2.2.2.2.2.2.2.2.2.2.1
theorem dX7_done_22 : decode cX7_done 22 = .ok (.ireturn, 1) := dX7_done_0_b.2.2.2.2.2.2.2.2.2.2.2
theorem dX7_late_0_b : (decode cX7_late 0 = .ok (.aload_n 0, 1)) ∧ (decode cX7_late 1 = .ok (.getfield 26, 3)) ∧ (decode cX7_late 4 = .ok (.getfield 123, 3)) ∧ (decode cX7_late 7 = .ok (.ifCond .ne 6, 3)) ∧ (decode cX7_late 10 = .ok (.ldc 127, 2)) ∧ (decode cX7_late 12 = .ok (.ireturn, 1)) ∧ (decode cX7_late 13 = .ok (.aload_n 0, 1)) ∧ (decode cX7_late 14 = .ok (.getfield 26, 3)) ∧ (decode cX7_late 17 = .ok (.invokestatic 208, 3)) ∧ (decode cX7_late 20 = .ok (.ireturn, 1)) := by decide +kernel
theorem dX7_late_0 : decode cX7_late 0 = .ok (.aload_n 0, 1) := dX7_late_0_b.1
theorem dX7_late_1 : decode cX7_late 1 = .ok (.getfield 26, 3) := dX7_late_0_b.2.1
theorem dX7_late_4 : decode cX7_late 4 = .ok (.getfield 123, 3) := dX7_late_0_b.2.2.1
theorem dX7_late_7 : decode cX7_late 7 = .ok (.ifCond .ne 6, 3) := dX7_late_0_b.2.2.2.1
theorem dX7_late_10 : decode cX7_late 10 = .ok (.ldc 127, 2) := dX7_late_0_b.2.2.2.2.1
theorem dX7_late_12 : decode cX7_late 12 = .ok (.ireturn, 1) := dX7_late_0_b.2.2.2.2.2.1
theorem dX7_late_13 : decode cX7_late 13 = .ok (.aload_n 0, 1) := dX7_late_0_b.2.2.2.2.2.2.1
theorem dX7_late_14 : decode cX7_late 14 = .ok (.getfield 26, 3) := dX7_late_0_b.2.2.2.2.2.2.2.1
theorem dX7_late_17 : decode cX7_late 17 = .ok (.invokestatic 208, 3) := dX7_late_0_b.2.2.2.2.2.2.2.2.1
theorem dX7_late_20 : decode cX7_late 20 = .ok (.ireturn, 1) := dX7_late_0_b.2.2.2.2.2.2.2.2.2
theorem dX7_latest_0_b : (decode cX7_latest 0 = .ok (.aload_n 0, 1)) ∧ (decode cX7_latest 1 = .ok (.getfield 26, 3)) ∧ (decode cX7_latest 4 = .ok (.iload_n 1, 1)) ∧ (decode cX7_latest 5 = .ok (.invokevirtual 202, 3)) ∧ (decode cX7_latest 8 = .ok (.ifCond .ne 6, 3)) ∧ (decode cX7_latest 11 = .ok (.ldc 64, 2)) ∧ (decode cX7_latest 13 = .ok (.ireturn, 1)) ∧ (decode cX7_latest 14 = .ok (.aload_n 0, 1)) ∧ (decode cX7_latest 15 = .ok (.getfield 26, 3)) ∧ (decode cX7_latest 18 = .ok (.iload_n 1, 1)) ∧ (decode cX7_latest 19 = .ok (.invokestatic 212, 3)) ∧ (decode cX7_latest 22 = .ok (.ireturn, 1)) := by decide +kernel
theorem dX7_latest_0 : decode cX7_latest 0 = .ok (.aload_n 0, 1) := dX7_latest_0_b.1
theorem dX7_latest_1 : decode cX7_latest 1 = .ok (.getfield 26, 3) := dX7_latest_0_b.2.1
theorem dX7_latest_4 : decode cX7_latest 4 = .ok (.iload_n 1, 1) := dX7_latest_0_b.2.2.1
theorem dX7_latest_5 : decode cX7_latest 5 = .ok (.invokevirtual 202, 3) := dX7_latest_0_b.2.2.2.1
theorem dX7_latest_8 : decode cX7_latest 8 = .ok (.ifCond .ne 6, 3) := dX7_latest_0_b.2.2.2.2.1
theorem dX7_latest_11 : decode cX7_latest 11 = .ok (.ldc 64, 2) := dX7_latest_0_b.2.2.2.2.2.1
theorem dX7_latest_13 : decode cX7_latest 13 = .ok (.ireturn, 1) := dX7_latest_0_b.2.2.2.2.2.2.1
theorem dX7_latest_14 : decode cX7_latest 14 = .ok (.aload_n 0, 1) := dX7_latest_0_b.2.2.2.2.2.2.2.1
theorem dX7_latest_15 : decode cX7_latest 15 = .ok (.getfield 26, 3) := dX7_latest_0_b.2.2.2.2.2.2.2.2.1
theorem dX7_latest_18 : decode cX7_latest 18 = .ok (.iload_n 1, 1) := dX7_latest_0_b.2.2.2.2.2.2.2.2.2.1
theorem dX7_latest_19 : decode cX7_latest 19 = .ok (.invokestatic 212, 3) := dX7_latest_0_b.2.2.2.2.2.2.2.2.2.2.1
theorem dX7_latest_22 : decode cX7_latest 22 = .ok (.ireturn, 1) := dX7_latest_0_b.2.2.2.2.2.2.2.2.2.2.2
theorem dX7_toHush_0_b : (decode cX7_toHush 0 = .ok (.aload_n 0, 1)) ∧ (decode cX7_toHush 1 = .ok (.getfield 26, 3)) ∧ (decode cX7_toHush 4 = .ok (.getfield 123, 3)) ∧ (decode cX7_toHush 7 = .ok (.ifCond .ne 6, 3)) ∧ (decode cX7_toHush 10 = .ok (.ldc 127, 2)) ∧ (decode cX7_toHush 12 = .ok (.ireturn, 1)) ∧ (decode cX7_toHush 13 = .ok (.iload_n 1, 1)) ∧ (decode cX7_toHush 14 = .ok (.iload_n 2, 1)) ∧ (decode cX7_toHush 15 = .ok (.iload_n 3, 1)) ∧ (decode cX7_toHush 16 = .ok (.invokestatic 215, 3)) ∧ (decode cX7_toHush 19 = .ok (.ifCond .ne 6, 3)) ∧ (decode cX7_toHush 22 = .ok (.ldc 64, 2)) := by decide +kernel
theorem dX7_toHush_0 : decode cX7_toHush 0 = .ok (.aload_n 0, 1) := dX7_toHush_0_b.1
theorem dX7_toHush_1 : decode cX7_toHush 1 = .ok (.getfield 26, 3) := dX7_toHush_0_b.2.1
theorem dX7_toHush_4 : decode cX7_toHush 4 = .ok (.getfield 123, 3) := dX7_toHush_0_b.2.2.1
theorem dX7_toHush_7 : decode cX7_toHush 7 = .ok (.ifCond .ne 6, 3) := dX7_toHush_0_b.2.2.2.1
theorem dX7_toHush_10 : decode cX7_toHush 10 = .ok (.ldc 127, 2) := dX7_toHush_0_b.2.2.2.2.1
theorem dX7_toHush_12 : decode cX7_toHush 12 = .ok (.ireturn, 1) := dX7_toHush_0_b.2.2.2.2.2.1
theorem dX7_toHush_13 : decode cX7_toHush 13 = .ok (.iload_n 1, 1) := dX7_toHush_0_b.2.2.2.2.2.2.1
theorem dX7_toHush_14 : decode cX7_toHush 14 = .ok (.iload_n 2, 1) := dX7_toHush_0_b.2.2.2.2.2.2.2.1
theorem dX7_toHush_15 : decode cX7_toHush 15 = .ok (.iload_n 3, 1) := dX7_toHush_0_b.2.2.2.2.2.2.2.2.1
theorem dX7_toHush_16 : decode cX7_toHush 16 = .ok (.invokestatic 215, 3) := dX7_toHush_0_b.2.2.2.2.2.2.2.2.2.1
theorem dX7_toHush_19 : decode cX7_toHush 19 = .ok (.ifCond .ne 6, 3) := dX7_toHush_0_b.2.2.2.2.2.2.2.2.2.2.1
theorem dX7_toHush_22 : decode cX7_toHush 22 = .ok (.ldc 64, 2) := dX7_toHush_0_b.2.2.2.2.2.2.2.2.2.2.2
theorem dX7_toHush_24_b : (decode cX7_toHush 24 = .ok (.ireturn, 1)) ∧ (decode cX7_toHush 25 = .ok (.aload_n 0, 1)) ∧ (decode cX7_toHush 26 = .ok (.getfield 26, 3)) ∧ (decode cX7_toHush 29 = .ok (.iload_n 1, 1)) ∧ (decode cX7_toHush 30 = .ok (.iload_n 2, 1)) ∧ (decode cX7_toHush 31 = .ok (.invokestatic 218, 3)) ∧ (decode cX7_toHush 34 = .ok (.iload_n 3, 1)) ∧ (decode cX7_toHush 35 = .ok (.invokestatic 221, 3)) ∧ (decode cX7_toHush 38 = .ok (.ireturn, 1)) := by decide +kernel
theorem dX7_toHush_24 : decode cX7_toHush 24 = .ok (.ireturn, 1) := dX7_toHush_24_b.1
theorem dX7_toHush_25 : decode cX7_toHush 25 = .ok (.aload_n 0, 1) := dX7_toHush_24_b.2.1
theorem dX7_toHush_26 : decode cX7_toHush 26 = .ok (.getfield 26, 3) := dX7_toHush_24_b.2.2.1
theorem dX7_toHush_29 : decode cX7_toHush 29 = .ok (.iload_n 1, 1) := dX7_toHush_24_b.2.2.2.1
theorem dX7_toHush_30 : decode cX7_toHush 30 = .ok (.iload_n 2, 1) := dX7_toHush_24_b.2.2.2.2.1
theorem dX7_toHush_31 : decode cX7_toHush 31 = .ok (.invokestatic 218, 3) := dX7_toHush_24_b.2.2.2.2.2.1
theorem dX7_toHush_34 : decode cX7_toHush 34 = .ok (.iload_n 3, 1) := dX7_toHush_24_b.2.2.2.2.2.2.1
theorem dX7_toHush_35 : decode cX7_toHush 35 = .ok (.invokestatic 221, 3) := dX7_toHush_24_b.2.2.2.2.2.2.2.1
theorem dX7_toHush_38 : decode cX7_toHush 38 = .ok (.ireturn, 1) := dX7_toHush_24_b.2.2.2.2.2.2.2.2
theorem dX7_toCall_0_b : (decode cX7_toCall 0 = .ok (.aload_n 0, 1)) ∧ (decode cX7_toCall 1 = .ok (.getfield 26, 3)) ∧ (decode cX7_toCall 4 = .ok (.getfield 123, 3)) ∧ (decode cX7_toCall 7 = .ok (.ifCond .ne 6, 3)) ∧ (decode cX7_toCall 10 = .ok (.ldc 127, 2)) ∧ (decode cX7_toCall 12 = .ok (.ireturn, 1)) ∧ (decode cX7_toCall 13 = .ok (.iload_n 1, 1)) ∧ (decode cX7_toCall 14 = .ok (.iload_n 2, 1)) ∧ (decode cX7_toCall 15 = .ok (.iload_n 3, 1)) ∧ (decode cX7_toCall 16 = .ok (.invokestatic 215, 3)) ∧ (decode cX7_toCall 19 = .ok (.ifCond .ne 6, 3)) ∧ (decode cX7_toCall 22 = .ok (.ldc 64, 2)) := by decide +kernel
theorem dX7_toCall_0 : decode cX7_toCall 0 = .ok (.aload_n 0, 1) := dX7_toCall_0_b.1
theorem dX7_toCall_1 : decode cX7_toCall 1 = .ok (.getfield 26, 3) := dX7_toCall_0_b.2.1
theorem dX7_toCall_4 : decode cX7_toCall 4 = .ok (.getfield 123, 3) := dX7_toCall_0_b.2.2.1
theorem dX7_toCall_7 : decode cX7_toCall 7 = .ok (.ifCond .ne 6, 3) := dX7_toCall_0_b.2.2.2.1
theorem dX7_toCall_10 : decode cX7_toCall 10 = .ok (.ldc 127, 2) := dX7_toCall_0_b.2.2.2.2.1
theorem dX7_toCall_12 : decode cX7_toCall 12 = .ok (.ireturn, 1) := dX7_toCall_0_b.2.2.2.2.2.1
theorem dX7_toCall_13 : decode cX7_toCall 13 = .ok (.iload_n 1, 1) := dX7_toCall_0_b.2.2.2.2.2.2.1
theorem dX7_toCall_14 : decode cX7_toCall 14 = .ok (.iload_n 2, 1) := dX7_toCall_0_b.2.2.2.2.2.2.2.1
theorem dX7_toCall_15 : decode cX7_toCall 15 = .ok (.iload_n 3, 1) := dX7_toCall_0_b.2.2.2.2.2.2.2.2.1
theorem dX7_toCall_16 : decode cX7_toCall 16 = .ok (.invokestatic 215, 3) := dX7_toCall_0_b.2.2.2.2.2.2.2.2.2.1
theorem dX7_toCall_19 : decode cX7_toCall 19 = .ok (.ifCond .ne 6, 3) := dX7_toCall_0_b.2.2.2.2.2.2.2.2.2.2.1
theorem dX7_toCall_22 : decode cX7_toCall 22 = .ok (.ldc 64, 2) := dX7_toCall_0_b.2.2.2.2.2.2.2.2.2.2.2
theorem dX7_toCall_24_b : (decode cX7_toCall 24 = .ok (.ireturn, 1)) ∧ (decode cX7_toCall 25 = .ok (.aload_n 0, 1)) ∧ (decode cX7_toCall 26 = .ok (.getfield 26, 3)) ∧ (decode cX7_toCall 29 = .ok (.iload_n 1, 1)) ∧ (decode cX7_toCall 30 = .ok (.iload_n 2, 1)) ∧ (decode cX7_toCall 31 = .ok (.invokestatic 224, 3)) ∧ (decode cX7_toCall 34 = .ok (.iload_n 3, 1)) ∧ (decode cX7_toCall 35 = .ok (.invokestatic 221, 3)) ∧ (decode cX7_toCall 38 = .ok (.ireturn, 1)) := by decide +kernel
theorem dX7_toCall_24 : decode cX7_toCall 24 = .ok (.ireturn, 1) := dX7_toCall_24_b.1
theorem dX7_toCall_25 : decode cX7_toCall 25 = .ok (.aload_n 0, 1) := dX7_toCall_24_b.2.1
theorem dX7_toCall_26 : decode cX7_toCall 26 = .ok (.getfield 26, 3) := dX7_toCall_24_b.2.2.1
theorem dX7_toCall_29 : decode cX7_toCall 29 = .ok (.iload_n 1, 1) := dX7_toCall_24_b.2.2.2.1
theorem dX7_toCall_30 : decode cX7_toCall 30 = .ok (.iload_n 2, 1) := dX7_toCall_24_b.2.2.2.2.1
theorem dX7_toCall_31 : decode cX7_toCall 31 = .ok (.invokestatic 224, 3) := dX7_toCall_24_b.2.2.2.2.2.1
theorem dX7_toCall_34 : decode cX7_toCall 34 = .ok (.iload_n 3, 1) := dX7_toCall_24_b.2.2.2.2.2.2.1
theorem dX7_toCall_35 : decode cX7_toCall 35 = .ok (.invokestatic 221, 3) := dX7_toCall_24_b.2.2.2.2.2.2.2.1
theorem dX7_toCall_38 : decode cX7_toCall 38 = .ok (.ireturn, 1) := dX7_toCall_24_b.2.2.2.2.2.2.2.2
theorem dX7_who_0_b : (decode cX7_who 0 = .ok (.aload_n 0, 1)) ∧ (decode cX7_who 1 = .ok (.getfield 26, 3)) ∧ (decode cX7_who 4 = .ok (.getfield 123, 3)) ∧ (decode cX7_who 7 = .ok (.ifCond .ne 6, 3)) ∧ (decode cX7_who 10 = .ok (.ldc 127, 2)) ∧ (decode cX7_who 12 = .ok (.ireturn, 1)) ∧ (decode cX7_who 13 = .ok (.iload_n 1, 1)) ∧ (decode cX7_who 14 = .ok (.invokestatic 57, 3)) ∧ (decode cX7_who 17 = .ok (.ifCond .eq 23, 3)) ∧ (decode cX7_who 20 = .ok (.iload_n 3, 1)) ∧ (decode cX7_who 21 = .ok (.iconst 1, 1)) ∧ (decode cX7_who 22 = .ok (.bipush 16, 2)) := by decide +kernel
theorem dX7_who_0 : decode cX7_who 0 = .ok (.aload_n 0, 1) := dX7_who_0_b.1
theorem dX7_who_1 : decode cX7_who 1 = .ok (.getfield 26, 3) := dX7_who_0_b.2.1
theorem dX7_who_4 : decode cX7_who 4 = .ok (.getfield 123, 3) := dX7_who_0_b.2.2.1
theorem dX7_who_7 : decode cX7_who 7 = .ok (.ifCond .ne 6, 3) := dX7_who_0_b.2.2.2.1
theorem dX7_who_10 : decode cX7_who 10 = .ok (.ldc 127, 2) := dX7_who_0_b.2.2.2.2.1
theorem dX7_who_12 : decode cX7_who 12 = .ok (.ireturn, 1) := dX7_who_0_b.2.2.2.2.2.1
theorem dX7_who_13 : decode cX7_who 13 = .ok (.iload_n 1, 1) := dX7_who_0_b.2.2.2.2.2.2.1
theorem dX7_who_14 : decode cX7_who 14 = .ok (.invokestatic 57, 3) := dX7_who_0_b.2.2.2.2.2.2.2.1
theorem dX7_who_17 : decode cX7_who 17 = .ok (.ifCond .eq 23, 3) := dX7_who_0_b.2.2.2.2.2.2.2.2.1
theorem dX7_who_20 : decode cX7_who 20 = .ok (.iload_n 3, 1) := dX7_who_0_b.2.2.2.2.2.2.2.2.2.1
theorem dX7_who_21 : decode cX7_who 21 = .ok (.iconst 1, 1) := dX7_who_0_b.2.2.2.2.2.2.2.2.2.2.1
theorem dX7_who_22 : decode cX7_who 22 = .ok (.bipush 16, 2) := dX7_who_0_b.2.2.2.2.2.2.2.2.2.2.2
theorem dX7_who_24_b : (decode cX7_who 24 = .ok (.invokestatic 97, 3)) ∧ (decode cX7_who 27 = .ok (.ifCond .eq 13, 3)) ∧ (decode cX7_who 30 = .ok (.iload 4, 2)) ∧ (decode cX7_who 32 = .ok (.iconst 0, 1)) ∧ (decode cX7_who 33 = .ok (.iconst 1, 1)) ∧ (decode cX7_who 34 = .ok (.invokestatic 97, 3)) ∧ (decode cX7_who 37 = .ok (.ifCond .ne 6, 3)) ∧ (decode cX7_who 40 = .ok (.ldc 64, 2)) ∧ (decode cX7_who 42 = .ok (.ireturn, 1)) ∧ (decode cX7_who 43 = .ok (.aload_n 0, 1)) ∧ (decode cX7_who 44 = .ok (.getfield 10, 3)) ∧ (decode cX7_who 47 = .ok (.iload_n 1, 1)) := by decide +kernel
theorem dX7_who_24 : decode cX7_who 24 = .ok (.invokestatic 97, 3) := dX7_who_24_b.1
theorem dX7_who_27 : decode cX7_who 27 = .ok (.ifCond .eq 13, 3) := dX7_who_24_b.2.1
theorem dX7_who_30 : decode cX7_who 30 = .ok (.iload 4, 2) := dX7_who_24_b.2.2.1
theorem dX7_who_32 : decode cX7_who 32 = .ok (.iconst 0, 1) := dX7_who_24_b.2.2.2.1
theorem dX7_who_33 : decode cX7_who 33 = .ok (.iconst 1, 1) := dX7_who_24_b.2.2.2.2.1
theorem dX7_who_34 : decode cX7_who 34 = .ok (.invokestatic 97, 3) := dX7_who_24_b.2.2.2.2.2.1
theorem dX7_who_37 : decode cX7_who 37 = .ok (.ifCond .ne 6, 3) := dX7_who_24_b.2.2.2.2.2.2.1
theorem dX7_who_40 : decode cX7_who 40 = .ok (.ldc 64, 2) := dX7_who_24_b.2.2.2.2.2.2.2.1
theorem dX7_who_42 : decode cX7_who 42 = .ok (.ireturn, 1) := dX7_who_24_b.2.2.2.2.2.2.2.2.1
theorem dX7_who_43 : decode cX7_who 43 = .ok (.aload_n 0, 1) := dX7_who_24_b.2.2.2.2.2.2.2.2.2.1
theorem dX7_who_44 : decode cX7_who 44 = .ok (.getfield 10, 3) := dX7_who_24_b.2.2.2.2.2.2.2.2.2.2.1
theorem dX7_who_47 : decode cX7_who 47 = .ok (.iload_n 1, 1) := dX7_who_24_b.2.2.2.2.2.2.2.2.2.2.2
theorem dX7_who_48_b : (decode cX7_who 48 = .ok (.iload_n 2, 1)) ∧ (decode cX7_who 49 = .ok (.iload_n 3, 1)) ∧ (decode cX7_who 50 = .ok (.invokevirtual 76, 3)) ∧ (decode cX7_who 53 = .ok (.istore 5, 2)) ∧ (decode cX7_who 55 = .ok (.iload 5, 2)) ∧ (decode cX7_who 57 = .ok (.ifCond .eq 10, 3)) ∧ (decode cX7_who 60 = .ok (.aload_n 0, 1)) ∧ (decode cX7_who 61 = .ok (.iload 5, 2)) ∧ (decode cX7_who 63 = .ok (.invokevirtual 65, 3)) ∧ (decode cX7_who 66 = .ok (.ireturn, 1)) ∧ (decode cX7_who 67 = .ok (.aload_n 0, 1)) ∧ (decode cX7_who 68 = .ok (.getfield 26, 3)) := by decide +kernel
theorem dX7_who_48 : decode cX7_who 48 = .ok (.iload_n 2, 1) := dX7_who_48_b.1
theorem dX7_who_49 : decode cX7_who 49 = .ok (.iload_n 3, 1) := dX7_who_48_b.2.1
theorem dX7_who_50 : decode cX7_who 50 = .ok (.invokevirtual 76, 3) := dX7_who_48_b.2.2.1
theorem dX7_who_53 : decode cX7_who 53 = .ok (.istore 5, 2) := dX7_who_48_b.2.2.2.1
theorem dX7_who_55 : decode cX7_who 55 = .ok (.iload 5, 2) := dX7_who_48_b.2.2.2.2.1
theorem dX7_who_57 : decode cX7_who 57 = .ok (.ifCond .eq 10, 3) := dX7_who_48_b.2.2.2.2.2.1
theorem dX7_who_60 : decode cX7_who 60 = .ok (.aload_n 0, 1) := dX7_who_48_b.2.2.2.2.2.2.1
theorem dX7_who_61 : decode cX7_who 61 = .ok (.iload 5, 2) := dX7_who_48_b.2.2.2.2.2.2.2.1
theorem dX7_who_63 : decode cX7_who 63 = .ok (.invokevirtual 65, 3) := dX7_who_48_b.2.2.2.2.2.2.2.2.1
theorem dX7_who_66 : decode cX7_who 66 = .ok (.ireturn, 1) := dX7_who_48_b.2.2.2.2.2.2.2.2.2.1
theorem dX7_who_67 : decode cX7_who 67 = .ok (.aload_n 0, 1) := dX7_who_48_b.2.2.2.2.2.2.2.2.2.2.1
theorem dX7_who_68 : decode cX7_who 68 = .ok (.getfield 26, 3) := dX7_who_48_b.2.2.2.2.2.2.2.2.2.2.2
theorem dX7_who_71_b : (decode cX7_who 71 = .ok (.aload_n 0, 1)) ∧ (decode cX7_who 72 = .ok (.getfield 10, 3)) ∧ (decode cX7_who 75 = .ok (.iload_n 1, 1)) ∧ (decode cX7_who 76 = .ok (.iload_n 2, 1)) ∧ (decode cX7_who 77 = .ok (.iload_n 3, 1)) ∧ (decode cX7_who 78 = .ok (.invokestatic 227, 3)) ∧ (decode cX7_who 81 = .ok (.lstore 6, 2)) ∧ (decode cX7_who 83 = .ok (.iload 4, 2)) ∧ (decode cX7_who 85 = .ok (.ifCond .ne 13, 3)) ∧ (decode cX7_who 88 = .ok (.aload_n 0, 1)) ∧ (decode cX7_who 89 = .ok (.lload 6, 2)) ∧ (decode cX7_who 91 = .ok (.invokestatic 231, 3)) := by decide +kernel
theorem dX7_who_71 : decode cX7_who 71 = .ok (.aload_n 0, 1) := dX7_who_71_b.1
theorem dX7_who_72 : decode cX7_who 72 = .ok (.getfield 10, 3) := dX7_who_71_b.2.1
theorem dX7_who_75 : decode cX7_who 75 = .ok (.iload_n 1, 1) := dX7_who_71_b.2.2.1
theorem dX7_who_76 : decode cX7_who 76 = .ok (.iload_n 2, 1) := dX7_who_71_b.2.2.2.1
theorem dX7_who_77 : decode cX7_who 77 = .ok (.iload_n 3, 1) := dX7_who_71_b.2.2.2.2.1
theorem dX7_who_78 : decode cX7_who 78 = .ok (.invokestatic 227, 3) := dX7_who_71_b.2.2.2.2.2.1
theorem dX7_who_81 : decode cX7_who 81 = .ok (.lstore 6, 2) := dX7_who_71_b.2.2.2.2.2.2.1
theorem dX7_who_83 : decode cX7_who 83 = .ok (.iload 4, 2) := dX7_who_71_b.2.2.2.2.2.2.2.1
theorem dX7_who_85 : decode cX7_who 85 = .ok (.ifCond .ne 13, 3) := dX7_who_71_b.2.2.2.2.2.2.2.2.1
theorem dX7_who_88 : decode cX7_who 88 = .ok (.aload_n 0, 1) := dX7_who_71_b.2.2.2.2.2.2.2.2.2.1
theorem dX7_who_89 : decode cX7_who 89 = .ok (.lload 6, 2) := dX7_who_71_b.2.2.2.2.2.2.2.2.2.2.1
theorem dX7_who_91 : decode cX7_who 91 = .ok (.invokestatic 231, 3) := dX7_who_71_b.2.2.2.2.2.2.2.2.2.2.2
theorem dX7_who_94_b : (decode cX7_who 94 = .ok (.invokevirtual 73, 3)) ∧ (decode cX7_who 97 = .ok (.ireturn, 1)) ∧ (decode cX7_who 98 = .ok (.aload_n 0, 1)) ∧ (decode cX7_who 99 = .ok (.lload 6, 2)) ∧ (decode cX7_who 101 = .ok (.lconst 0, 1)) ∧ (decode cX7_who 102 = .ok (.lcmp, 1)) ∧ (decode cX7_who 103 = .ok (.ifCond .ne 8, 3)) ∧ (decode cX7_who 106 = .ok (.ldc 108, 2)) ∧ (decode cX7_who 108 = .ok (.goto 8, 3)) ∧ (decode cX7_who 111 = .ok (.lload 6, 2)) ∧ (decode cX7_who 113 = .ok (.invokestatic 236, 3)) ∧ (decode cX7_who 116 = .ok (.invokevirtual 73, 3)) := by decide +kernel
theorem dX7_who_94 : decode cX7_who 94 = .ok (.invokevirtual 73, 3) := dX7_who_94_b.1
theorem dX7_who_97 : decode cX7_who 97 = .ok (.ireturn, 1) := dX7_who_94_b.2.1
theorem dX7_who_98 : decode cX7_who 98 = .ok (.aload_n 0, 1) := dX7_who_94_b.2.2.1
theorem dX7_who_99 : decode cX7_who 99 = .ok (.lload 6, 2) := dX7_who_94_b.2.2.2.1
theorem dX7_who_101 : decode cX7_who 101 = .ok (.lconst 0, 1) := dX7_who_94_b.2.2.2.2.1
theorem dX7_who_102 : decode cX7_who 102 = .ok (.lcmp, 1) := dX7_who_94_b.2.2.2.2.2.1
theorem dX7_who_103 : decode cX7_who 103 = .ok (.ifCond .ne 8, 3) := dX7_who_94_b.2.2.2.2.2.2.1
theorem dX7_who_106 : decode cX7_who 106 = .ok (.ldc 108, 2) := dX7_who_94_b.2.2.2.2.2.2.2.1
theorem dX7_who_108 : decode cX7_who 108 = .ok (.goto 8, 3) := dX7_who_94_b.2.2.2.2.2.2.2.2.1
theorem dX7_who_111 : decode cX7_who 111 = .ok (.lload 6, 2) := dX7_who_94_b.2.2.2.2.2.2.2.2.2.1
theorem dX7_who_113 : decode cX7_who 113 = .ok (.invokestatic 236, 3) := dX7_who_94_b.2.2.2.2.2.2.2.2.2.2.1
theorem dX7_who_116 : decode cX7_who 116 = .ok (.invokevirtual 73, 3) := dX7_who_94_b.2.2.2.2.2.2.2.2.2.2.2
theorem dX7_who_119 : decode cX7_who 119 = .ok (.ireturn, 1) := by decide +kernel
theorem dX7_heed_0_b : (decode cX7_heed 0 = .ok (.aload_n 0, 1)) ∧ (decode cX7_heed 1 = .ok (.getfield 26, 3)) ∧ (decode cX7_heed 4 = .ok (.iload_n 1, 1)) ∧ (decode cX7_heed 5 = .ok (.invokevirtual 141, 3)) ∧ (decode cX7_heed 8 = .ok (.ifCond .eq 21, 3)) ∧ (decode cX7_heed 11 = .ok (.iload_n 2, 1)) ∧ (decode cX7_heed 12 = .ok (.invokestatic 57, 3)) ∧ (decode cX7_heed 15 = .ok (.ifCond .eq 14, 3)) ∧ (decode cX7_heed 18 = .ok (.iload 4, 2)) ∧ (decode cX7_heed 20 = .ok (.iconst 1, 1)) ∧ (decode cX7_heed 21 = .ok (.bipush 16, 2)) ∧ (decode cX7_heed 23 = .ok (.invokestatic 97, 3)) := by decide +kernel
theorem dX7_heed_0 : decode cX7_heed 0 = .ok (.aload_n 0, 1) := dX7_heed_0_b.1
theorem dX7_heed_1 : decode cX7_heed 1 = .ok (.getfield 26, 3) := dX7_heed_0_b.2.1
theorem dX7_heed_4 : decode cX7_heed 4 = .ok (.iload_n 1, 1) := dX7_heed_0_b.2.2.1
theorem dX7_heed_5 : decode cX7_heed 5 = .ok (.invokevirtual 141, 3) := dX7_heed_0_b.2.2.2.1
theorem dX7_heed_8 : decode cX7_heed 8 = .ok (.ifCond .eq 21, 3) := dX7_heed_0_b.2.2.2.2.1
theorem dX7_heed_11 : decode cX7_heed 11 = .ok (.iload_n 2, 1) := dX7_heed_0_b.2.2.2.2.2.1
theorem dX7_heed_12 : decode cX7_heed 12 = .ok (.invokestatic 57, 3) := dX7_heed_0_b.2.2.2.2.2.2.1
theorem dX7_heed_15 : decode cX7_heed 15 = .ok (.ifCond .eq 14, 3) := dX7_heed_0_b.2.2.2.2.2.2.2.1
theorem dX7_heed_18 : decode cX7_heed 18 = .ok (.iload 4, 2) := dX7_heed_0_b.2.2.2.2.2.2.2.2.1
theorem dX7_heed_20 : decode cX7_heed 20 = .ok (.iconst 1, 1) := dX7_heed_0_b.2.2.2.2.2.2.2.2.2.1
theorem dX7_heed_21 : decode cX7_heed 21 = .ok (.bipush 16, 2) := dX7_heed_0_b.2.2.2.2.2.2.2.2.2.2.1
theorem dX7_heed_23 : decode cX7_heed 23 = .ok (.invokestatic 97, 3) := dX7_heed_0_b.2.2.2.2.2.2.2.2.2.2.2
theorem dX7_heed_26_b : (decode cX7_heed 26 = .ok (.ifCond .ne 6, 3)) ∧ (decode cX7_heed 29 = .ok (.ldc 64, 2)) ∧ (decode cX7_heed 31 = .ok (.ireturn, 1)) ∧ (decode cX7_heed 32 = .ok (.aload_n 0, 1)) ∧ (decode cX7_heed 33 = .ok (.getfield 10, 3)) ∧ (decode cX7_heed 36 = .ok (.iload_n 2, 1)) ∧ (decode cX7_heed 37 = .ok (.iload_n 3, 1)) ∧ (decode cX7_heed 38 = .ok (.iload 4, 2)) ∧ (decode cX7_heed 40 = .ok (.invokevirtual 76, 3)) ∧ (decode cX7_heed 43 = .ok (.istore 5, 2)) ∧ (decode cX7_heed 45 = .ok (.iload 5, 2)) ∧ (decode cX7_heed 47 = .ok (.ifCond .eq 10, 3)) := by decide +kernel
theorem dX7_heed_26 : decode cX7_heed 26 = .ok (.ifCond .ne 6, 3) := dX7_heed_26_b.1
theorem dX7_heed_29 : decode cX7_heed 29 = .ok (.ldc 64, 2) := dX7_heed_26_b.2.1
theorem dX7_heed_31 : decode cX7_heed 31 = .ok (.ireturn, 1) := dX7_heed_26_b.2.2.1
theorem dX7_heed_32 : decode cX7_heed 32 = .ok (.aload_n 0, 1) := dX7_heed_26_b.2.2.2.1
theorem dX7_heed_33 : decode cX7_heed 33 = .ok (.getfield 10, 3) := dX7_heed_26_b.2.2.2.2.1
theorem dX7_heed_36 : decode cX7_heed 36 = .ok (.iload_n 2, 1) := dX7_heed_26_b.2.2.2.2.2.1
theorem dX7_heed_37 : decode cX7_heed 37 = .ok (.iload_n 3, 1) := dX7_heed_26_b.2.2.2.2.2.2.1
theorem dX7_heed_38 : decode cX7_heed 38 = .ok (.iload 4, 2) := dX7_heed_26_b.2.2.2.2.2.2.2.1
theorem dX7_heed_40 : decode cX7_heed 40 = .ok (.invokevirtual 76, 3) := dX7_heed_26_b.2.2.2.2.2.2.2.2.1
theorem dX7_heed_43 : decode cX7_heed 43 = .ok (.istore 5, 2) := dX7_heed_26_b.2.2.2.2.2.2.2.2.2.1
theorem dX7_heed_45 : decode cX7_heed 45 = .ok (.iload 5, 2) := dX7_heed_26_b.2.2.2.2.2.2.2.2.2.2.1
theorem dX7_heed_47 : decode cX7_heed 47 = .ok (.ifCond .eq 10, 3) := dX7_heed_26_b.2.2.2.2.2.2.2.2.2.2.2
theorem dX7_heed_50_b : (decode cX7_heed 50 = .ok (.aload_n 0, 1)) ∧ (decode cX7_heed 51 = .ok (.iload 5, 2)) ∧ (decode cX7_heed 53 = .ok (.invokevirtual 65, 3)) ∧ (decode cX7_heed 56 = .ok (.ireturn, 1)) ∧ (decode cX7_heed 57 = .ok (.aload_n 0, 1)) ∧ (decode cX7_heed 58 = .ok (.aload_n 0, 1)) ∧ (decode cX7_heed 59 = .ok (.getfield 26, 3)) ∧ (decode cX7_heed 62 = .ok (.iload_n 1, 1)) ∧ (decode cX7_heed 63 = .ok (.aload_n 0, 1)) ∧ (decode cX7_heed 64 = .ok (.getfield 10, 3)) ∧ (decode cX7_heed 67 = .ok (.iload_n 2, 1)) ∧ (decode cX7_heed 68 = .ok (.iload_n 3, 1)) := by decide +kernel
theorem dX7_heed_50 : decode cX7_heed 50 = .ok (.aload_n 0, 1) := dX7_heed_50_b.1
theorem dX7_heed_51 : decode cX7_heed 51 = .ok (.iload 5, 2) := dX7_heed_50_b.2.1
theorem dX7_heed_53 : decode cX7_heed 53 = .ok (.invokevirtual 65, 3) := dX7_heed_50_b.2.2.1
theorem dX7_heed_56 : decode cX7_heed 56 = .ok (.ireturn, 1) := dX7_heed_50_b.2.2.2.1
theorem dX7_heed_57 : decode cX7_heed 57 = .ok (.aload_n 0, 1) := dX7_heed_50_b.2.2.2.2.1
theorem dX7_heed_58 : decode cX7_heed 58 = .ok (.aload_n 0, 1) := dX7_heed_50_b.2.2.2.2.2.1
theorem dX7_heed_59 : decode cX7_heed 59 = .ok (.getfield 26, 3) := dX7_heed_50_b.2.2.2.2.2.2.1
theorem dX7_heed_62 : decode cX7_heed 62 = .ok (.iload_n 1, 1) := dX7_heed_50_b.2.2.2.2.2.2.2.1
theorem dX7_heed_63 : decode cX7_heed 63 = .ok (.aload_n 0, 1) := dX7_heed_50_b.2.2.2.2.2.2.2.2.1
theorem dX7_heed_64 : decode cX7_heed 64 = .ok (.getfield 10, 3) := dX7_heed_50_b.2.2.2.2.2.2.2.2.2.1
theorem dX7_heed_67 : decode cX7_heed 67 = .ok (.iload_n 2, 1) := dX7_heed_50_b.2.2.2.2.2.2.2.2.2.2.1
theorem dX7_heed_68 : decode cX7_heed 68 = .ok (.iload_n 3, 1) := dX7_heed_50_b.2.2.2.2.2.2.2.2.2.2.2
theorem dX7_heed_69_b : (decode cX7_heed 69 = .ok (.iload 4, 2)) ∧ (decode cX7_heed 71 = .ok (.invokestatic 239, 3)) ∧ (decode cX7_heed 74 = .ok (.invokevirtual 73, 3)) ∧ (decode cX7_heed 77 = .ok (.ireturn, 1)) := by decide +kernel
theorem dX7_heed_69 : decode cX7_heed 69 = .ok (.iload 4, 2) := dX7_heed_69_b.1
theorem dX7_heed_71 : decode cX7_heed 71 = .ok (.invokestatic 239, 3) := dX7_heed_69_b.2.1
theorem dX7_heed_74 : decode cX7_heed 74 = .ok (.invokevirtual 73, 3) := dX7_heed_69_b.2.2.1
theorem dX7_heed_77 : decode cX7_heed 77 = .ok (.ireturn, 1) := dX7_heed_69_b.2.2.2
theorem dX7_older_0_b : (decode cX7_older 0 = .ok (.aload_n 0, 1)) ∧ (decode cX7_older 1 = .ok (.getfield 26, 3)) ∧ (decode cX7_older 4 = .ok (.iload_n 1, 1)) ∧ (decode cX7_older 5 = .ok (.invokevirtual 141, 3)) ∧ (decode cX7_older 8 = .ok (.ifCond .eq 29, 3)) ∧ (decode cX7_older 11 = .ok (.aload_n 0, 1)) ∧ (decode cX7_older 12 = .ok (.getfield 26, 3)) ∧ (decode cX7_older 15 = .ok (.iload_n 2, 1)) ∧ (decode cX7_older 16 = .ok (.invokevirtual 141, 3)) ∧ (decode cX7_older 19 = .ok (.ifCond .eq 18, 3)) ∧ (decode cX7_older 22 = .ok (.iload_n 1, 1)) ∧ (decode cX7_older 23 = .ok (.iload_n 2, 1)) := by decide +kernel
theorem dX7_older_0 : decode cX7_older 0 = .ok (.aload_n 0, 1) := dX7_older_0_b.1
theorem dX7_older_1 : decode cX7_older 1 = .ok (.getfield 26, 3) := dX7_older_0_b.2.1
theorem dX7_older_4 : decode cX7_older 4 = .ok (.iload_n 1, 1) := dX7_older_0_b.2.2.1
theorem dX7_older_5 : decode cX7_older 5 = .ok (.invokevirtual 141, 3) := dX7_older_0_b.2.2.2.1
theorem dX7_older_8 : decode cX7_older 8 = .ok (.ifCond .eq 29, 3) := dX7_older_0_b.2.2.2.2.1
theorem dX7_older_11 : decode cX7_older 11 = .ok (.aload_n 0, 1) := dX7_older_0_b.2.2.2.2.2.1
theorem dX7_older_12 : decode cX7_older 12 = .ok (.getfield 26, 3) := dX7_older_0_b.2.2.2.2.2.2.1
theorem dX7_older_15 : decode cX7_older 15 = .ok (.iload_n 2, 1) := dX7_older_0_b.2.2.2.2.2.2.2.1
theorem dX7_older_16 : decode cX7_older 16 = .ok (.invokevirtual 141, 3) := dX7_older_0_b.2.2.2.2.2.2.2.2.1
theorem dX7_older_19 : decode cX7_older 19 = .ok (.ifCond .eq 18, 3) := dX7_older_0_b.2.2.2.2.2.2.2.2.2.1
theorem dX7_older_22 : decode cX7_older 22 = .ok (.iload_n 1, 1) := dX7_older_0_b.2.2.2.2.2.2.2.2.2.2.1
theorem dX7_older_23 : decode cX7_older 23 = .ok (.iload_n 2, 1) := dX7_older_0_b.2.2.2.2.2.2.2.2.2.2.2
theorem dX7_older_24_b : (decode cX7_older 24 = .ok (.if_icmp .eq 13, 3)) ∧ (decode cX7_older 27 = .ok (.iload_n 3, 1)) ∧ (decode cX7_older 28 = .ok (.iconst 0, 1)) ∧ (decode cX7_older 29 = .ok (.bipush 99, 2)) ∧ (decode cX7_older 31 = .ok (.invokestatic 97, 3)) ∧ (decode cX7_older 34 = .ok (.ifCond .ne 6, 3)) ∧ (decode cX7_older 37 = .ok (.ldc 64, 2)) ∧ (decode cX7_older 39 = .ok (.ireturn, 1)) ∧ (decode cX7_older 40 = .ok (.aload_n 0, 1)) ∧ (decode cX7_older 41 = .ok (.getfield 26, 3)) ∧ (decode cX7_older 44 = .ok (.iload_n 1, 1)) ∧ (decode cX7_older 45 = .ok (.iload_n 3, 1)) := by decide +kernel
theorem dX7_older_24 : decode cX7_older 24 = .ok (.if_icmp .eq 13, 3) := dX7_older_24_b.1
theorem dX7_older_27 : decode cX7_older 27 = .ok (.iload_n 3, 1) := dX7_older_24_b.2.1
theorem dX7_older_28 : decode cX7_older 28 = .ok (.iconst 0, 1) := dX7_older_24_b.2.2.1
theorem dX7_older_29 : decode cX7_older 29 = .ok (.bipush 99, 2) := dX7_older_24_b.2.2.2.1
theorem dX7_older_31 : decode cX7_older 31 = .ok (.invokestatic 97, 3) := dX7_older_24_b.2.2.2.2.1
theorem dX7_older_34 : decode cX7_older 34 = .ok (.ifCond .ne 6, 3) := dX7_older_24_b.2.2.2.2.2.1
theorem dX7_older_37 : decode cX7_older 37 = .ok (.ldc 64, 2) := dX7_older_24_b.2.2.2.2.2.2.1
theorem dX7_older_39 : decode cX7_older 39 = .ok (.ireturn, 1) := dX7_older_24_b.2.2.2.2.2.2.2.1
theorem dX7_older_40 : decode cX7_older 40 = .ok (.aload_n 0, 1) := dX7_older_24_b.2.2.2.2.2.2.2.2.1
theorem dX7_older_41 : decode cX7_older 41 = .ok (.getfield 26, 3) := dX7_older_24_b.2.2.2.2.2.2.2.2.2.1
theorem dX7_older_44 : decode cX7_older 44 = .ok (.iload_n 1, 1) := dX7_older_24_b.2.2.2.2.2.2.2.2.2.2.1
theorem dX7_older_45 : decode cX7_older 45 = .ok (.iload_n 3, 1) := dX7_older_24_b.2.2.2.2.2.2.2.2.2.2.2
theorem dX7_older_46_b : (decode cX7_older 46 = .ok (.invokestatic 243, 3)) ∧ (decode cX7_older 49 = .ok (.aload_n 0, 1)) ∧ (decode cX7_older 50 = .ok (.getfield 26, 3)) ∧ (decode cX7_older 53 = .ok (.iload_n 2, 1)) ∧ (decode cX7_older 54 = .ok (.iload_n 3, 1)) ∧ (decode cX7_older 55 = .ok (.invokestatic 243, 3)) ∧ (decode cX7_older 58 = .ok (.isub, 1)) ∧ (decode cX7_older 59 = .ok (.ireturn, 1)) := by decide +kernel
theorem dX7_older_46 : decode cX7_older 46 = .ok (.invokestatic 243, 3) := dX7_older_46_b.1
theorem dX7_older_49 : decode cX7_older 49 = .ok (.aload_n 0, 1) := dX7_older_46_b.2.1
theorem dX7_older_50 : decode cX7_older 50 = .ok (.getfield 26, 3) := dX7_older_46_b.2.2.1
theorem dX7_older_53 : decode cX7_older 53 = .ok (.iload_n 2, 1) := dX7_older_46_b.2.2.2.1
theorem dX7_older_54 : decode cX7_older 54 = .ok (.iload_n 3, 1) := dX7_older_46_b.2.2.2.2.1
theorem dX7_older_55 : decode cX7_older 55 = .ok (.invokestatic 243, 3) := dX7_older_46_b.2.2.2.2.2.1
theorem dX7_older_58 : decode cX7_older 58 = .ok (.isub, 1) := dX7_older_46_b.2.2.2.2.2.2.1
theorem dX7_older_59 : decode cX7_older 59 = .ok (.ireturn, 1) := dX7_older_46_b.2.2.2.2.2.2.2
theorem dX7_odds_0_b : (decode cX7_odds 0 = .ok (.aload_n 0, 1)) ∧ (decode cX7_odds 1 = .ok (.getfield 26, 3)) ∧ (decode cX7_odds 4 = .ok (.getfield 123, 3)) ∧ (decode cX7_odds 7 = .ok (.ifCond .ne 6, 3)) ∧ (decode cX7_odds 10 = .ok (.ldc 127, 2)) ∧ (decode cX7_odds 12 = .ok (.ireturn, 1)) ∧ (decode cX7_odds 13 = .ok (.iload_n 1, 1)) ∧ (decode cX7_odds 14 = .ok (.iconst 0, 1)) ∧ (decode cX7_odds 15 = .ok (.bipush 99, 2)) ∧ (decode cX7_odds 17 = .ok (.invokestatic 97, 3)) ∧ (decode cX7_odds 20 = .ok (.ifCond .eq 22, 3)) ∧ (decode cX7_odds 23 = .ok (.iload_n 2, 1)) := by decide +kernel
theorem dX7_odds_0 : decode cX7_odds 0 = .ok (.aload_n 0, 1) := dX7_odds_0_b.1
theorem dX7_odds_1 : decode cX7_odds 1 = .ok (.getfield 26, 3) := dX7_odds_0_b.2.1
theorem dX7_odds_4 : decode cX7_odds 4 = .ok (.getfield 123, 3) := dX7_odds_0_b.2.2.1
theorem dX7_odds_7 : decode cX7_odds 7 = .ok (.ifCond .ne 6, 3) := dX7_odds_0_b.2.2.2.1
theorem dX7_odds_10 : decode cX7_odds 10 = .ok (.ldc 127, 2) := dX7_odds_0_b.2.2.2.2.1
theorem dX7_odds_12 : decode cX7_odds 12 = .ok (.ireturn, 1) := dX7_odds_0_b.2.2.2.2.2.1
theorem dX7_odds_13 : decode cX7_odds 13 = .ok (.iload_n 1, 1) := dX7_odds_0_b.2.2.2.2.2.2.1
theorem dX7_odds_14 : decode cX7_odds 14 = .ok (.iconst 0, 1) := dX7_odds_0_b.2.2.2.2.2.2.2.1
theorem dX7_odds_15 : decode cX7_odds 15 = .ok (.bipush 99, 2) := dX7_odds_0_b.2.2.2.2.2.2.2.2.1
theorem dX7_odds_17 : decode cX7_odds 17 = .ok (.invokestatic 97, 3) := dX7_odds_0_b.2.2.2.2.2.2.2.2.2.1
theorem dX7_odds_20 : decode cX7_odds 20 = .ok (.ifCond .eq 22, 3) := dX7_odds_0_b.2.2.2.2.2.2.2.2.2.2.1
theorem dX7_odds_23 : decode cX7_odds 23 = .ok (.iload_n 2, 1) := dX7_odds_0_b.2.2.2.2.2.2.2.2.2.2.2
theorem dX7_odds_24_b : (decode cX7_odds 24 = .ok (.iconst 0, 1)) ∧ (decode cX7_odds 25 = .ok (.bipush 10, 2)) ∧ (decode cX7_odds 27 = .ok (.invokestatic 97, 3)) ∧ (decode cX7_odds 30 = .ok (.ifCond .eq 12, 3)) ∧ (decode cX7_odds 33 = .ok (.iload_n 3, 1)) ∧ (decode cX7_odds 34 = .ok (.iconst 0, 1)) ∧ (decode cX7_odds 35 = .ok (.iconst 1, 1)) ∧ (decode cX7_odds 36 = .ok (.invokestatic 97, 3)) ∧ (decode cX7_odds 39 = .ok (.ifCond .ne 6, 3)) ∧ (decode cX7_odds 42 = .ok (.ldc 64, 2)) ∧ (decode cX7_odds 44 = .ok (.ireturn, 1)) ∧ (decode cX7_odds 45 = .ok (.aload_n 0, 1)) := by decide +kernel
theorem dX7_odds_24 : decode cX7_odds 24 = .ok (.iconst 0, 1) := dX7_odds_24_b.1
theorem dX7_odds_25 : decode cX7_odds 25 = .ok (.bipush 10, 2) := dX7_odds_24_b.2.1
theorem dX7_odds_27 : decode cX7_odds 27 = .ok (.invokestatic 97, 3) := dX7_odds_24_b.2.2.1
theorem dX7_odds_30 : decode cX7_odds 30 = .ok (.ifCond .eq 12, 3) := dX7_odds_24_b.2.2.2.1
theorem dX7_odds_33 : decode cX7_odds 33 = .ok (.iload_n 3, 1) := dX7_odds_24_b.2.2.2.2.1
theorem dX7_odds_34 : decode cX7_odds 34 = .ok (.iconst 0, 1) := dX7_odds_24_b.2.2.2.2.2.1
theorem dX7_odds_35 : decode cX7_odds 35 = .ok (.iconst 1, 1) := dX7_odds_24_b.2.2.2.2.2.2.1
theorem dX7_odds_36 : decode cX7_odds 36 = .ok (.invokestatic 97, 3) := dX7_odds_24_b.2.2.2.2.2.2.2.1
theorem dX7_odds_39 : decode cX7_odds 39 = .ok (.ifCond .ne 6, 3) := dX7_odds_24_b.2.2.2.2.2.2.2.2.1
theorem dX7_odds_42 : decode cX7_odds 42 = .ok (.ldc 64, 2) := dX7_odds_24_b.2.2.2.2.2.2.2.2.2.1
theorem dX7_odds_44 : decode cX7_odds 44 = .ok (.ireturn, 1) := dX7_odds_24_b.2.2.2.2.2.2.2.2.2.2.1
theorem dX7_odds_45 : decode cX7_odds 45 = .ok (.aload_n 0, 1) := dX7_odds_24_b.2.2.2.2.2.2.2.2.2.2.2
theorem dX7_odds_46_b : (decode cX7_odds 46 = .ok (.getfield 26, 3)) ∧ (decode cX7_odds 49 = .ok (.iload_n 1, 1)) ∧ (decode cX7_odds 50 = .ok (.iload_n 2, 1)) ∧ (decode cX7_odds 51 = .ok (.invokestatic 246, 3)) ∧ (decode cX7_odds 54 = .ok (.istore 4, 2)) ∧ (decode cX7_odds 56 = .ok (.aload_n 0, 1)) ∧ (decode cX7_odds 57 = .ok (.getfield 26, 3)) ∧ (decode cX7_odds 60 = .ok (.invokestatic 249, 3)) ∧ (decode cX7_odds 63 = .ok (.istore 5, 2)) ∧ (decode cX7_odds 65 = .ok (.iload 4, 2)) ∧ (decode cX7_odds 67 = .ok (.iload 5, 2)) ∧ (decode cX7_odds 69 = .ok (.invokestatic 252, 3)) := by decide +kernel
theorem dX7_odds_46 : decode cX7_odds 46 = .ok (.getfield 26, 3) := dX7_odds_46_b.1
theorem dX7_odds_49 : decode cX7_odds 49 = .ok (.iload_n 1, 1) := dX7_odds_46_b.2.1
theorem dX7_odds_50 : decode cX7_odds 50 = .ok (.iload_n 2, 1) := dX7_odds_46_b.2.2.1
theorem dX7_odds_51 : decode cX7_odds 51 = .ok (.invokestatic 246, 3) := dX7_odds_46_b.2.2.2.1
theorem dX7_odds_54 : decode cX7_odds 54 = .ok (.istore 4, 2) := dX7_odds_46_b.2.2.2.2.1
theorem dX7_odds_56 : decode cX7_odds 56 = .ok (.aload_n 0, 1) := dX7_odds_46_b.2.2.2.2.2.1
theorem dX7_odds_57 : decode cX7_odds 57 = .ok (.getfield 26, 3) := dX7_odds_46_b.2.2.2.2.2.2.1
theorem dX7_odds_60 : decode cX7_odds 60 = .ok (.invokestatic 249, 3) := dX7_odds_46_b.2.2.2.2.2.2.2.1
theorem dX7_odds_63 : decode cX7_odds 63 = .ok (.istore 5, 2) := dX7_odds_46_b.2.2.2.2.2.2.2.2.1
theorem dX7_odds_65 : decode cX7_odds 65 = .ok (.iload 4, 2) := dX7_odds_46_b.2.2.2.2.2.2.2.2.2.1
theorem dX7_odds_67 : decode cX7_odds 67 = .ok (.iload 5, 2) := dX7_odds_46_b.2.2.2.2.2.2.2.2.2.2.1
theorem dX7_odds_69 : decode cX7_odds 69 = .ok (.invokestatic 252, 3) := dX7_odds_46_b.2.2.2.2.2.2.2.2.2.2.2
theorem dX7_odds_72_b : (decode cX7_odds 72 = .ok (.istore 6, 2)) ∧ (decode cX7_odds 74 = .ok (.iload_n 3, 1)) ∧ (decode cX7_odds 75 = .ok (.ifCond .ne 8, 3)) ∧ (decode cX7_odds 78 = .ok (.iload 4, 2)) ∧ (decode cX7_odds 80 = .ok (.goto 5, 3)) ∧ (decode cX7_odds 83 = .ok (.iload 5, 2)) ∧ (decode cX7_odds 85 = .ok (.iload 6, 2)) ∧ (decode cX7_odds 87 = .ok (.idiv, 1)) ∧ (decode cX7_odds 88 = .ok (.ireturn, 1)) := by decide +kernel
theorem dX7_odds_72 : decode cX7_odds 72 = .ok (.istore 6, 2) := dX7_odds_72_b.1
theorem dX7_odds_74 : decode cX7_odds 74 = .ok (.iload_n 3, 1) := dX7_odds_72_b.2.1
theorem dX7_odds_75 : decode cX7_odds 75 = .ok (.ifCond .ne 8, 3) := dX7_odds_72_b.2.2.1
theorem dX7_odds_78 : decode cX7_odds 78 = .ok (.iload 4, 2) := dX7_odds_72_b.2.2.2.1
theorem dX7_odds_80 : decode cX7_odds 80 = .ok (.goto 5, 3) := dX7_odds_72_b.2.2.2.2.1
theorem dX7_odds_83 : decode cX7_odds 83 = .ok (.iload 5, 2) := dX7_odds_72_b.2.2.2.2.2.1
theorem dX7_odds_85 : decode cX7_odds 85 = .ok (.iload 6, 2) := dX7_odds_72_b.2.2.2.2.2.2.1
theorem dX7_odds_87 : decode cX7_odds 87 = .ok (.idiv, 1) := dX7_odds_72_b.2.2.2.2.2.2.2.1
theorem dX7_odds_88 : decode cX7_odds 88 = .ok (.ireturn, 1) := dX7_odds_72_b.2.2.2.2.2.2.2.2
theorem dX7_image_0_b : (decode cX7_image 0 = .ok (.iload_n 1, 1)) ∧ (decode cX7_image 1 = .ok (.iconst 0, 1)) ∧ (decode cX7_image 2 = .ok (.iconst 1, 1)) ∧ (decode cX7_image 3 = .ok (.invokestatic 97, 3)) ∧ (decode cX7_image 6 = .ok (.ifCond .ne 6, 3)) ∧ (decode cX7_image 9 = .ok (.ldc 64, 2)) ∧ (decode cX7_image 11 = .ok (.ireturn, 1)) ∧ (decode cX7_image 12 = .ok (.aload_n 0, 1)) ∧ (decode cX7_image 13 = .ok (.getfield 26, 3)) ∧ (decode cX7_image 16 = .ok (.getfield 123, 3)) ∧ (decode cX7_image 19 = .ok (.ifCond .ne 6, 3)) ∧ (decode cX7_image 22 = .ok (.ldc 127, 2)) := by decide +kernel
theorem dX7_image_0 : decode cX7_image 0 = .ok (.iload_n 1, 1) := dX7_image_0_b.1
theorem dX7_image_1 : decode cX7_image 1 = .ok (.iconst 0, 1) := dX7_image_0_b.2.1
theorem dX7_image_2 : decode cX7_image 2 = .ok (.iconst 1, 1) := dX7_image_0_b.2.2.1
theorem dX7_image_3 : decode cX7_image 3 = .ok (.invokestatic 97, 3) := dX7_image_0_b.2.2.2.1
theorem dX7_image_6 : decode cX7_image 6 = .ok (.ifCond .ne 6, 3) := dX7_image_0_b.2.2.2.2.1
theorem dX7_image_9 : decode cX7_image 9 = .ok (.ldc 64, 2) := dX7_image_0_b.2.2.2.2.2.1
theorem dX7_image_11 : decode cX7_image 11 = .ok (.ireturn, 1) := dX7_image_0_b.2.2.2.2.2.2.1
theorem dX7_image_12 : decode cX7_image 12 = .ok (.aload_n 0, 1) := dX7_image_0_b.2.2.2.2.2.2.2.1
theorem dX7_image_13 : decode cX7_image 13 = .ok (.getfield 26, 3) := dX7_image_0_b.2.2.2.2.2.2.2.2.1
theorem dX7_image_16 : decode cX7_image 16 = .ok (.getfield 123, 3) := dX7_image_0_b.2.2.2.2.2.2.2.2.2.1
theorem dX7_image_19 : decode cX7_image 19 = .ok (.ifCond .ne 6, 3) := dX7_image_0_b.2.2.2.2.2.2.2.2.2.2.1
theorem dX7_image_22 : decode cX7_image 22 = .ok (.ldc 127, 2) := dX7_image_0_b.2.2.2.2.2.2.2.2.2.2.2
theorem dX7_image_24_b : (decode cX7_image 24 = .ok (.ireturn, 1)) ∧ (decode cX7_image 25 = .ok (.aload_n 0, 1)) ∧ (decode cX7_image 26 = .ok (.iload_n 1, 1)) ∧ (decode cX7_image 27 = .ok (.invokevirtual 255, 3)) ∧ (decode cX7_image 30 = .ok (.aload_n 0, 1)) ∧ (decode cX7_image 31 = .ok (.getfield 26, 3)) ∧ (decode cX7_image 34 = .ok (.invokevirtual 259, 3)) ∧ (decode cX7_image 37 = .ok (.iconst 1, 1)) ∧ (decode cX7_image 38 = .ok (.ireturn, 1)) := by decide +kernel
theorem dX7_image_24 : decode cX7_image 24 = .ok (.ireturn, 1) := dX7_image_24_b.1
theorem dX7_image_25 : decode cX7_image 25 = .ok (.aload_n 0, 1) := dX7_image_24_b.2.1
theorem dX7_image_26 : decode cX7_image 26 = .ok (.iload_n 1, 1) := dX7_image_24_b.2.2.1
theorem dX7_image_27 : decode cX7_image 27 = .ok (.invokevirtual 255, 3) := dX7_image_24_b.2.2.2.1
theorem dX7_image_30 : decode cX7_image 30 = .ok (.aload_n 0, 1) := dX7_image_24_b.2.2.2.2.1
theorem dX7_image_31 : decode cX7_image 31 = .ok (.getfield 26, 3) := dX7_image_24_b.2.2.2.2.2.1
theorem dX7_image_34 : decode cX7_image 34 = .ok (.invokevirtual 259, 3) := dX7_image_24_b.2.2.2.2.2.2.1
theorem dX7_image_37 : decode cX7_image 37 = .ok (.iconst 1, 1) := dX7_image_24_b.2.2.2.2.2.2.2.1
theorem dX7_image_38 : decode cX7_image 38 = .ok (.ireturn, 1) := dX7_image_24_b.2.2.2.2.2.2.2.2
theorem dX7_restore_0_b : (decode cX7_restore 0 = .ok (.iload_n 1, 1)) ∧ (decode cX7_restore 1 = .ok (.iconst 0, 1)) ∧ (decode cX7_restore 2 = .ok (.iconst 1, 1)) ∧ (decode cX7_restore 3 = .ok (.invokestatic 97, 3)) ∧ (decode cX7_restore 6 = .ok (.ifCond .ne 6, 3)) ∧ (decode cX7_restore 9 = .ok (.ldc 64, 2)) ∧ (decode cX7_restore 11 = .ok (.ireturn, 1)) ∧ (decode cX7_restore 12 = .ok (.aload_n 0, 1)) ∧ (decode cX7_restore 13 = .ok (.iload_n 1, 1)) ∧ (decode cX7_restore 14 = .ok (.invokevirtual 255, 3)) ∧ (decode cX7_restore 17 = .ok (.astore_n 2, 1)) ∧ (decode cX7_restore 18 = .ok (.aload_n 2, 1)) := by decide +kernel
theorem dX7_restore_0 : decode cX7_restore 0 = .ok (.iload_n 1, 1) := dX7_restore_0_b.1
theorem dX7_restore_1 : decode cX7_restore 1 = .ok (.iconst 0, 1) := dX7_restore_0_b.2.1
theorem dX7_restore_2 : decode cX7_restore 2 = .ok (.iconst 1, 1) := dX7_restore_0_b.2.2.1
theorem dX7_restore_3 : decode cX7_restore 3 = .ok (.invokestatic 97, 3) := dX7_restore_0_b.2.2.2.1
theorem dX7_restore_6 : decode cX7_restore 6 = .ok (.ifCond .ne 6, 3) := dX7_restore_0_b.2.2.2.2.1
theorem dX7_restore_9 : decode cX7_restore 9 = .ok (.ldc 64, 2) := dX7_restore_0_b.2.2.2.2.2.1
theorem dX7_restore_11 : decode cX7_restore 11 = .ok (.ireturn, 1) := dX7_restore_0_b.2.2.2.2.2.2.1
theorem dX7_restore_12 : decode cX7_restore 12 = .ok (.aload_n 0, 1) := dX7_restore_0_b.2.2.2.2.2.2.2.1
theorem dX7_restore_13 : decode cX7_restore 13 = .ok (.iload_n 1, 1) := dX7_restore_0_b.2.2.2.2.2.2.2.2.1
theorem dX7_restore_14 : decode cX7_restore 14 = .ok (.invokevirtual 255, 3) := dX7_restore_0_b.2.2.2.2.2.2.2.2.2.1
theorem dX7_restore_17 : decode cX7_restore 17 = .ok (.astore_n 2, 1) := dX7_restore_0_b.2.2.2.2.2.2.2.2.2.2.1
theorem dX7_restore_18 : decode cX7_restore 18 = .ok (.aload_n 2, 1) := dX7_restore_0_b.2.2.2.2.2.2.2.2.2.2.2
theorem dX7_restore_19_b : (decode cX7_restore 19 = .ok (.getfield 123, 3)) ∧ (decode cX7_restore 22 = .ok (.ifCond .ne 6, 3)) ∧ (decode cX7_restore 25 = .ok (.ldc 127, 2)) ∧ (decode cX7_restore 27 = .ok (.ireturn, 1)) ∧ (decode cX7_restore 28 = .ok (.aload_n 0, 1)) ∧ (decode cX7_restore 29 = .ok (.getfield 26, 3)) ∧ (decode cX7_restore 32 = .ok (.aload_n 2, 1)) ∧ (decode cX7_restore 33 = .ok (.invokevirtual 259, 3)) ∧ (decode cX7_restore 36 = .ok (.aload_n 0, 1)) ∧ (decode cX7_restore 37 = .ok (.getfield 39, 3)) ∧ (decode cX7_restore 40 = .ok (.invokevirtual 117, 3)) ∧ (decode cX7_restore 43 = .ok (.iconst 1, 1)) := by decide +kernel
theorem dX7_restore_19 : decode cX7_restore 19 = .ok (.getfield 123, 3) := dX7_restore_19_b.1
theorem dX7_restore_22 : decode cX7_restore 22 = .ok (.ifCond .ne 6, 3) := dX7_restore_19_b.2.1
theorem dX7_restore_25 : decode cX7_restore 25 = .ok (.ldc 127, 2) := dX7_restore_19_b.2.2.1
theorem dX7_restore_27 : decode cX7_restore 27 = .ok (.ireturn, 1) := dX7_restore_19_b.2.2.2.1
theorem dX7_restore_28 : decode cX7_restore 28 = .ok (.aload_n 0, 1) := dX7_restore_19_b.2.2.2.2.1
theorem dX7_restore_29 : decode cX7_restore 29 = .ok (.getfield 26, 3) := dX7_restore_19_b.2.2.2.2.2.1
theorem dX7_restore_32 : decode cX7_restore 32 = .ok (.aload_n 2, 1) := dX7_restore_19_b.2.2.2.2.2.2.1
theorem dX7_restore_33 : decode cX7_restore 33 = .ok (.invokevirtual 259, 3) := dX7_restore_19_b.2.2.2.2.2.2.2.1
theorem dX7_restore_36 : decode cX7_restore 36 = .ok (.aload_n 0, 1) := dX7_restore_19_b.2.2.2.2.2.2.2.2.1
theorem dX7_restore_37 : decode cX7_restore 37 = .ok (.getfield 39, 3) := dX7_restore_19_b.2.2.2.2.2.2.2.2.2.1
theorem dX7_restore_40 : decode cX7_restore 40 = .ok (.invokevirtual 117, 3) := dX7_restore_19_b.2.2.2.2.2.2.2.2.2.2.1
theorem dX7_restore_43 : decode cX7_restore 43 = .ok (.iconst 1, 1) := dX7_restore_19_b.2.2.2.2.2.2.2.2.2.2.2
theorem dX7_restore_44 : decode cX7_restore 44 = .ok (.ireturn, 1) := by decide +kernel
theorem dX7_kind_0_b : (decode cX7_kind 0 = .ok (.aload_n 0, 1)) ∧ (decode cX7_kind 1 = .ok (.getfield 26, 3)) ∧ (decode cX7_kind 4 = .ok (.iload_n 1, 1)) ∧ (decode cX7_kind 5 = .ok (.invokevirtual 141, 3)) ∧ (decode cX7_kind 8 = .ok (.ifCond .eq 15, 3)) ∧ (decode cX7_kind 11 = .ok (.aload_n 0, 1)) ∧ (decode cX7_kind 12 = .ok (.getfield 26, 3)) ∧ (decode cX7_kind 15 = .ok (.getfield 262, 3)) ∧ (decode cX7_kind 18 = .ok (.iload_n 1, 1)) ∧ (decode cX7_kind 19 = .ok (.iaload, 1)) ∧ (decode cX7_kind 20 = .ok (.goto 5, 3)) ∧ (decode cX7_kind 23 = .ok (.ldc 64, 2)) := by decide +kernel
theorem dX7_kind_0 : decode cX7_kind 0 = .ok (.aload_n 0, 1) := dX7_kind_0_b.1
theorem dX7_kind_1 : decode cX7_kind 1 = .ok (.getfield 26, 3) := dX7_kind_0_b.2.1
theorem dX7_kind_4 : decode cX7_kind 4 = .ok (.iload_n 1, 1) := dX7_kind_0_b.2.2.1
theorem dX7_kind_5 : decode cX7_kind 5 = .ok (.invokevirtual 141, 3) := dX7_kind_0_b.2.2.2.1
theorem dX7_kind_8 : decode cX7_kind 8 = .ok (.ifCond .eq 15, 3) := dX7_kind_0_b.2.2.2.2.1
theorem dX7_kind_11 : decode cX7_kind 11 = .ok (.aload_n 0, 1) := dX7_kind_0_b.2.2.2.2.2.1
theorem dX7_kind_12 : decode cX7_kind 12 = .ok (.getfield 26, 3) := dX7_kind_0_b.2.2.2.2.2.2.1
theorem dX7_kind_15 : decode cX7_kind 15 = .ok (.getfield 262, 3) := dX7_kind_0_b.2.2.2.2.2.2.2.1
theorem dX7_kind_18 : decode cX7_kind 18 = .ok (.iload_n 1, 1) := dX7_kind_0_b.2.2.2.2.2.2.2.2.1
theorem dX7_kind_19 : decode cX7_kind 19 = .ok (.iaload, 1) := dX7_kind_0_b.2.2.2.2.2.2.2.2.2.1
theorem dX7_kind_20 : decode cX7_kind 20 = .ok (.goto 5, 3) := dX7_kind_0_b.2.2.2.2.2.2.2.2.2.2.1
theorem dX7_kind_23 : decode cX7_kind 23 = .ok (.ldc 64, 2) := dX7_kind_0_b.2.2.2.2.2.2.2.2.2.2.2
theorem dX7_kind_25 : decode cX7_kind 25 = .ok (.ireturn, 1) := by decide +kernel
theorem dX7_as_0_b : (decode cX7_as 0 = .ok (.aload_n 0, 1)) ∧ (decode cX7_as 1 = .ok (.getfield 26, 3)) ∧ (decode cX7_as 4 = .ok (.iload_n 1, 1)) ∧ (decode cX7_as 5 = .ok (.invokevirtual 141, 3)) ∧ (decode cX7_as 8 = .ok (.ifCond .eq 10, 3)) ∧ (decode cX7_as 11 = .ok (.iload_n 2, 1)) ∧ (decode cX7_as 12 = .ok (.invokestatic 265, 3)) ∧ (decode cX7_as 15 = .ok (.ifCond .ne 6, 3)) ∧ (decode cX7_as 18 = .ok (.ldc 64, 2)) ∧ (decode cX7_as 20 = .ok (.ireturn, 1)) ∧ (decode cX7_as 21 = .ok (.aload_n 0, 1)) ∧ (decode cX7_as 22 = .ok (.getfield 26, 3)) := by decide +kernel
theorem dX7_as_0 : decode cX7_as 0 = .ok (.aload_n 0, 1) := dX7_as_0_b.1
theorem dX7_as_1 : decode cX7_as 1 = .ok (.getfield 26, 3) := dX7_as_0_b.2.1
theorem dX7_as_4 : decode cX7_as 4 = .ok (.iload_n 1, 1) := dX7_as_0_b.2.2.1
theorem dX7_as_5 : decode cX7_as 5 = .ok (.invokevirtual 141, 3) := dX7_as_0_b.2.2.2.1
theorem dX7_as_8 : decode cX7_as 8 = .ok (.ifCond .eq 10, 3) := dX7_as_0_b.2.2.2.2.1
theorem dX7_as_11 : decode cX7_as 11 = .ok (.iload_n 2, 1) := dX7_as_0_b.2.2.2.2.2.1
theorem dX7_as_12 : decode cX7_as 12 = .ok (.invokestatic 265, 3) := dX7_as_0_b.2.2.2.2.2.2.1
theorem dX7_as_15 : decode cX7_as 15 = .ok (.ifCond .ne 6, 3) := dX7_as_0_b.2.2.2.2.2.2.2.1
theorem dX7_as_18 : decode cX7_as 18 = .ok (.ldc 64, 2) := dX7_as_0_b.2.2.2.2.2.2.2.2.1
theorem dX7_as_20 : decode cX7_as 20 = .ok (.ireturn, 1) := dX7_as_0_b.2.2.2.2.2.2.2.2.2.1
theorem dX7_as_21 : decode cX7_as 21 = .ok (.aload_n 0, 1) := dX7_as_0_b.2.2.2.2.2.2.2.2.2.2.1
theorem dX7_as_22 : decode cX7_as 22 = .ok (.getfield 26, 3) := dX7_as_0_b.2.2.2.2.2.2.2.2.2.2.2
theorem dX7_as_25_b : (decode cX7_as 25 = .ok (.getfield 262, 3)) ∧ (decode cX7_as 28 = .ok (.iload_n 1, 1)) ∧ (decode cX7_as 29 = .ok (.iaload, 1)) ∧ (decode cX7_as 30 = .ok (.iload_n 2, 1)) ∧ (decode cX7_as 31 = .ok (.invokestatic 270, 3)) ∧ (decode cX7_as 34 = .ok (.ifCond .ne 9, 3)) ∧ (decode cX7_as 37 = .ok (.aload_n 0, 1)) ∧ (decode cX7_as 38 = .ok (.iconst 3, 1)) ∧ (decode cX7_as 39 = .ok (.invokevirtual 65, 3)) ∧ (decode cX7_as 42 = .ok (.ireturn, 1)) ∧ (decode cX7_as 43 = .ok (.aload_n 0, 1)) ∧ (decode cX7_as 44 = .ok (.iload_n 1, 1)) := by decide +kernel
theorem dX7_as_25 : decode cX7_as 25 = .ok (.getfield 262, 3) := dX7_as_25_b.1
theorem dX7_as_28 : decode cX7_as 28 = .ok (.iload_n 1, 1) := dX7_as_25_b.2.1
theorem dX7_as_29 : decode cX7_as 29 = .ok (.iaload, 1) := dX7_as_25_b.2.2.1
theorem dX7_as_30 : decode cX7_as 30 = .ok (.iload_n 2, 1) := dX7_as_25_b.2.2.2.1
theorem dX7_as_31 : decode cX7_as 31 = .ok (.invokestatic 270, 3) := dX7_as_25_b.2.2.2.2.1
theorem dX7_as_34 : decode cX7_as 34 = .ok (.ifCond .ne 9, 3) := dX7_as_25_b.2.2.2.2.2.1
theorem dX7_as_37 : decode cX7_as 37 = .ok (.aload_n 0, 1) := dX7_as_25_b.2.2.2.2.2.2.1
theorem dX7_as_38 : decode cX7_as 38 = .ok (.iconst 3, 1) := dX7_as_25_b.2.2.2.2.2.2.2.1
theorem dX7_as_39 : decode cX7_as 39 = .ok (.invokevirtual 65, 3) := dX7_as_25_b.2.2.2.2.2.2.2.2.1
theorem dX7_as_42 : decode cX7_as 42 = .ok (.ireturn, 1) := dX7_as_25_b.2.2.2.2.2.2.2.2.2.1
theorem dX7_as_43 : decode cX7_as 43 = .ok (.aload_n 0, 1) := dX7_as_25_b.2.2.2.2.2.2.2.2.2.2.1
theorem dX7_as_44 : decode cX7_as 44 = .ok (.iload_n 1, 1) := dX7_as_25_b.2.2.2.2.2.2.2.2.2.2.2
theorem dX7_as_45_b : (decode cX7_as 45 = .ok (.invokevirtual 73, 3)) ∧ (decode cX7_as 48 = .ok (.ireturn, 1)) := by decide +kernel
theorem dX7_as_45 : decode cX7_as 45 = .ok (.invokevirtual 73, 3) := dX7_as_45_b.1
theorem dX7_as_48 : decode cX7_as 48 = .ok (.ireturn, 1) := dX7_as_45_b.2
theorem dX7_ask_0_b : (decode cX7_ask 0 = .ok (.aload_n 0, 1)) ∧ (decode cX7_ask 1 = .ok (.getfield 26, 3)) ∧ (decode cX7_ask 4 = .ok (.iload_n 1, 1)) ∧ (decode cX7_ask 5 = .ok (.invokevirtual 141, 3)) ∧ (decode cX7_ask 8 = .ok (.ifCond .eq 12, 3)) ∧ (decode cX7_ask 11 = .ok (.iload_n 2, 1)) ∧ (decode cX7_ask 12 = .ok (.iconst 0, 1)) ∧ (decode cX7_ask 13 = .ok (.iconst 1, 1)) ∧ (decode cX7_ask 14 = .ok (.invokestatic 97, 3)) ∧ (decode cX7_ask 17 = .ok (.ifCond .ne 6, 3)) ∧ (decode cX7_ask 20 = .ok (.ldc 64, 2)) ∧ (decode cX7_ask 22 = .ok (.ireturn, 1)) := by decide +kernel
theorem dX7_ask_0 : decode cX7_ask 0 = .ok (.aload_n 0, 1) := dX7_ask_0_b.1
theorem dX7_ask_1 : decode cX7_ask 1 = .ok (.getfield 26, 3) := dX7_ask_0_b.2.1
theorem dX7_ask_4 : decode cX7_ask 4 = .ok (.iload_n 1, 1) := dX7_ask_0_b.2.2.1
theorem dX7_ask_5 : decode cX7_ask 5 = .ok (.invokevirtual 141, 3) := dX7_ask_0_b.2.2.2.1
theorem dX7_ask_8 : decode cX7_ask 8 = .ok (.ifCond .eq 12, 3) := dX7_ask_0_b.2.2.2.2.1
theorem dX7_ask_11 : decode cX7_ask 11 = .ok (.iload_n 2, 1) := dX7_ask_0_b.2.2.2.2.2.1
theorem dX7_ask_12 : decode cX7_ask 12 = .ok (.iconst 0, 1) := dX7_ask_0_b.2.2.2.2.2.2.1
theorem dX7_ask_13 : decode cX7_ask 13 = .ok (.iconst 1, 1) := dX7_ask_0_b.2.2.2.2.2.2.2.1
theorem dX7_ask_14 : decode cX7_ask 14 = .ok (.invokestatic 97, 3) := dX7_ask_0_b.2.2.2.2.2.2.2.2.1
theorem dX7_ask_17 : decode cX7_ask 17 = .ok (.ifCond .ne 6, 3) := dX7_ask_0_b.2.2.2.2.2.2.2.2.2.1
theorem dX7_ask_20 : decode cX7_ask 20 = .ok (.ldc 64, 2) := dX7_ask_0_b.2.2.2.2.2.2.2.2.2.2.1
theorem dX7_ask_22 : decode cX7_ask 22 = .ok (.ireturn, 1) := dX7_ask_0_b.2.2.2.2.2.2.2.2.2.2.2
theorem dX7_ask_23_b : (decode cX7_ask 23 = .ok (.aload_n 0, 1)) ∧ (decode cX7_ask 24 = .ok (.getfield 46, 3)) ∧ (decode cX7_ask 27 = .ok (.aload_n 0, 1)) ∧ (decode cX7_ask 28 = .ok (.getfield 26, 3)) ∧ (decode cX7_ask 31 = .ok (.iload_n 1, 1)) ∧ (decode cX7_ask 32 = .ok (.iload_n 2, 1)) ∧ (decode cX7_ask 33 = .ok (.invokevirtual 274, 3)) ∧ (decode cX7_ask 36 = .ok (.ireturn, 1)) := by decide +kernel
theorem dX7_ask_23 : decode cX7_ask 23 = .ok (.aload_n 0, 1) := dX7_ask_23_b.1
theorem dX7_ask_24 : decode cX7_ask 24 = .ok (.getfield 46, 3) := dX7_ask_23_b.2.1
theorem dX7_ask_27 : decode cX7_ask 27 = .ok (.aload_n 0, 1) := dX7_ask_23_b.2.2.1
theorem dX7_ask_28 : decode cX7_ask 28 = .ok (.getfield 26, 3) := dX7_ask_23_b.2.2.2.1
theorem dX7_ask_31 : decode cX7_ask 31 = .ok (.iload_n 1, 1) := dX7_ask_23_b.2.2.2.2.1
theorem dX7_ask_32 : decode cX7_ask 32 = .ok (.iload_n 2, 1) := dX7_ask_23_b.2.2.2.2.2.1
theorem dX7_ask_33 : decode cX7_ask 33 = .ok (.invokevirtual 274, 3) := dX7_ask_23_b.2.2.2.2.2.2.1
theorem dX7_ask_36 : decode cX7_ask 36 = .ok (.ireturn, 1) := dX7_ask_23_b.2.2.2.2.2.2.2
theorem dX7_trace_0_b : (decode cX7_trace 0 = .ok (.iload_n 1, 1)) ∧ (decode cX7_trace 1 = .ok (.ifCond .lt 26, 3)) ∧ (decode cX7_trace 4 = .ok (.iload_n 1, 1)) ∧ (decode cX7_trace 5 = .ok (.aload_n 0, 1)) ∧ (decode cX7_trace 6 = .ok (.getfield 46, 3)) ∧ (decode cX7_trace 9 = .ok (.getfield 277, 3)) ∧ (decode cX7_trace 12 = .ok (.if_icmp .ge 15, 3)) ∧ (decode cX7_trace 15 = .ok (.aload_n 0, 1)) ∧ (decode cX7_trace 16 = .ok (.getfield 46, 3)) ∧ (decode cX7_trace 19 = .ok (.getfield 280, 3)) ∧ (decode cX7_trace 22 = .ok (.iload_n 1, 1)) ∧ (decode cX7_trace 23 = .ok (.iaload, 1)) := by decide +kernel
theorem dX7_trace_0 : decode cX7_trace 0 = .ok (.iload_n 1, 1) := dX7_trace_0_b.1
theorem dX7_trace_1 : decode cX7_trace 1 = .ok (.ifCond .lt 26, 3) := dX7_trace_0_b.2.1
theorem dX7_trace_4 : decode cX7_trace 4 = .ok (.iload_n 1, 1) := dX7_trace_0_b.2.2.1
theorem dX7_trace_5 : decode cX7_trace 5 = .ok (.aload_n 0, 1) := dX7_trace_0_b.2.2.2.1
theorem dX7_trace_6 : decode cX7_trace 6 = .ok (.getfield 46, 3) := dX7_trace_0_b.2.2.2.2.1
theorem dX7_trace_9 : decode cX7_trace 9 = .ok (.getfield 277, 3) := dX7_trace_0_b.2.2.2.2.2.1
theorem dX7_trace_12 : decode cX7_trace 12 = .ok (.if_icmp .ge 15, 3) := dX7_trace_0_b.2.2.2.2.2.2.1
theorem dX7_trace_15 : decode cX7_trace 15 = .ok (.aload_n 0, 1) := dX7_trace_0_b.2.2.2.2.2.2.2.1
theorem dX7_trace_16 : decode cX7_trace 16 = .ok (.getfield 46, 3) := dX7_trace_0_b.2.2.2.2.2.2.2.2.1
theorem dX7_trace_19 : decode cX7_trace 19 = .ok (.getfield 280, 3) := dX7_trace_0_b.2.2.2.2.2.2.2.2.2.1
theorem dX7_trace_22 : decode cX7_trace 22 = .ok (.iload_n 1, 1) := dX7_trace_0_b.2.2.2.2.2.2.2.2.2.2.1
theorem dX7_trace_23 : decode cX7_trace 23 = .ok (.iaload, 1) := dX7_trace_0_b.2.2.2.2.2.2.2.2.2.2.2
theorem dX7_trace_24_b : (decode cX7_trace 24 = .ok (.goto 5, 3)) ∧ (decode cX7_trace 27 = .ok (.ldc 108, 2)) ∧ (decode cX7_trace 29 = .ok (.ireturn, 1)) := by decide +kernel
theorem dX7_trace_24 : decode cX7_trace 24 = .ok (.goto 5, 3) := dX7_trace_24_b.1
theorem dX7_trace_27 : decode cX7_trace 27 = .ok (.ldc 108, 2) := dX7_trace_24_b.2.1
theorem dX7_trace_29 : decode cX7_trace 29 = .ok (.ireturn, 1) := dX7_trace_24_b.2.2
theorem dX7_count_0_b : (decode cX7_count 0 = .ok (.iload_n 1, 1)) ∧ (decode cX7_count 1 = .ok (.tableswitch 117 0 7 #[47, 55, 63, 71, 79, 90, 101, 109], 47)) ∧ (decode cX7_count 48 = .ok (.aload_n 0, 1)) ∧ (decode cX7_count 49 = .ok (.getfield 10, 3)) ∧ (decode cX7_count 52 = .ok (.invokevirtual 283, 3)) ∧ (decode cX7_count 55 = .ok (.ireturn, 1)) ∧ (decode cX7_count 56 = .ok (.aload_n 0, 1)) ∧ (decode cX7_count 57 = .ok (.getfield 26, 3)) ∧ (decode cX7_count 60 = .ok (.getfield 120, 3)) ∧ (decode cX7_count 63 = .ok (.ireturn, 1)) ∧ (decode cX7_count 64 = .ok (.aload_n 0, 1)) ∧ (decode cX7_count 65 = .ok (.getfield 26, 3)) := by decide +kernel
theorem dX7_count_0 : decode cX7_count 0 = .ok (.iload_n 1, 1) := dX7_count_0_b.1
theorem dX7_count_1 : decode cX7_count 1 = .ok (.tableswitch 117 0 7 #[47, 55, 63, 71, 79, 90, 101, 109], 47) := dX7_count_0_b.2.1
theorem dX7_count_48 : decode cX7_count 48 = .ok (.aload_n 0, 1) := dX7_count_0_b.2.2.1
theorem dX7_count_49 : decode cX7_count 49 = .ok (.getfield 10, 3) := dX7_count_0_b.2.2.2.1
theorem dX7_count_52 : decode cX7_count 52 = .ok (.invokevirtual 283, 3) := dX7_count_0_b.2.2.2.2.1
theorem dX7_count_55 : decode cX7_count 55 = .ok (.ireturn, 1) := dX7_count_0_b.2.2.2.2.2.1
theorem dX7_count_56 : decode cX7_count 56 = .ok (.aload_n 0, 1) := dX7_count_0_b.2.2.2.2.2.2.1
theorem dX7_count_57 : decode cX7_count 57 = .ok (.getfield 26, 3) := dX7_count_0_b.2.2.2.2.2.2.2.1
theorem dX7_count_60 : decode cX7_count 60 = .ok (.getfield 120, 3) := dX7_count_0_b.2.2.2.2.2.2.2.2.1
theorem dX7_count_63 : decode cX7_count 63 = .ok (.ireturn, 1) := dX7_count_0_b.2.2.2.2.2.2.2.2.2.1
theorem dX7_count_64 : decode cX7_count 64 = .ok (.aload_n 0, 1) := dX7_count_0_b.2.2.2.2.2.2.2.2.2.2.1
theorem dX7_count_65 : decode cX7_count 65 = .ok (.getfield 26, 3) := dX7_count_0_b.2.2.2.2.2.2.2.2.2.2.2
theorem dX7_count_68_b : (decode cX7_count 68 = .ok (.getfield 286, 3)) ∧ (decode cX7_count 71 = .ok (.ireturn, 1)) ∧ (decode cX7_count 72 = .ok (.aload_n 0, 1)) ∧ (decode cX7_count 73 = .ok (.getfield 26, 3)) ∧ (decode cX7_count 76 = .ok (.getfield 128, 3)) ∧ (decode cX7_count 79 = .ok (.ireturn, 1)) ∧ (decode cX7_count 80 = .ok (.aload_n 0, 1)) ∧ (decode cX7_count 81 = .ok (.getfield 26, 3)) ∧ (decode cX7_count 84 = .ok (.getfield 155, 3)) ∧ (decode cX7_count 87 = .ok (.invokestatic 158, 3)) ∧ (decode cX7_count 90 = .ok (.ireturn, 1)) ∧ (decode cX7_count 91 = .ok (.aload_n 0, 1)) := by decide +kernel
theorem dX7_count_68 : decode cX7_count 68 = .ok (.getfield 286, 3) := dX7_count_68_b.1
theorem dX7_count_71 : decode cX7_count 71 = .ok (.ireturn, 1) := dX7_count_68_b.2.1
theorem dX7_count_72 : decode cX7_count 72 = .ok (.aload_n 0, 1) := dX7_count_68_b.2.2.1
theorem dX7_count_73 : decode cX7_count 73 = .ok (.getfield 26, 3) := dX7_count_68_b.2.2.2.1
theorem dX7_count_76 : decode cX7_count 76 = .ok (.getfield 128, 3) := dX7_count_68_b.2.2.2.2.1
theorem dX7_count_79 : decode cX7_count 79 = .ok (.ireturn, 1) := dX7_count_68_b.2.2.2.2.2.1
theorem dX7_count_80 : decode cX7_count 80 = .ok (.aload_n 0, 1) := dX7_count_68_b.2.2.2.2.2.2.1
theorem dX7_count_81 : decode cX7_count 81 = .ok (.getfield 26, 3) := dX7_count_68_b.2.2.2.2.2.2.2.1
theorem dX7_count_84 : decode cX7_count 84 = .ok (.getfield 155, 3) := dX7_count_68_b.2.2.2.2.2.2.2.2.1
theorem dX7_count_87 : decode cX7_count 87 = .ok (.invokestatic 158, 3) := dX7_count_68_b.2.2.2.2.2.2.2.2.2.1
theorem dX7_count_90 : decode cX7_count 90 = .ok (.ireturn, 1) := dX7_count_68_b.2.2.2.2.2.2.2.2.2.2.1
theorem dX7_count_91 : decode cX7_count 91 = .ok (.aload_n 0, 1) := dX7_count_68_b.2.2.2.2.2.2.2.2.2.2.2
theorem dX7_count_92_b : (decode cX7_count 92 = .ok (.getfield 26, 3)) ∧ (decode cX7_count 95 = .ok (.invokevirtual 289, 3)) ∧ (decode cX7_count 98 = .ok (.invokestatic 158, 3)) ∧ (decode cX7_count 101 = .ok (.ireturn, 1)) ∧ (decode cX7_count 102 = .ok (.aload_n 0, 1)) ∧ (decode cX7_count 103 = .ok (.getfield 39, 3)) ∧ (decode cX7_count 106 = .ok (.getfield 166, 3)) ∧ (decode cX7_count 109 = .ok (.ireturn, 1)) ∧ (decode cX7_count 110 = .ok (.aload_n 0, 1)) ∧ (decode cX7_count 111 = .ok (.getfield 19, 3)) ∧ (decode cX7_count 114 = .ok (.getfield 292, 3)) ∧ (decode cX7_count 117 = .ok (.ireturn, 1)) := by decide +kernel
theorem dX7_count_92 : decode cX7_count 92 = .ok (.getfield 26, 3) := dX7_count_92_b.1
theorem dX7_count_95 : decode cX7_count 95 = .ok (.invokevirtual 289, 3) := dX7_count_92_b.2.1
theorem dX7_count_98 : decode cX7_count 98 = .ok (.invokestatic 158, 3) := dX7_count_92_b.2.2.1
theorem dX7_count_101 : decode cX7_count 101 = .ok (.ireturn, 1) := dX7_count_92_b.2.2.2.1
theorem dX7_count_102 : decode cX7_count 102 = .ok (.aload_n 0, 1) := dX7_count_92_b.2.2.2.2.1
theorem dX7_count_103 : decode cX7_count 103 = .ok (.getfield 39, 3) := dX7_count_92_b.2.2.2.2.2.1
theorem dX7_count_106 : decode cX7_count 106 = .ok (.getfield 166, 3) := dX7_count_92_b.2.2.2.2.2.2.1
theorem dX7_count_109 : decode cX7_count 109 = .ok (.ireturn, 1) := dX7_count_92_b.2.2.2.2.2.2.2.1
theorem dX7_count_110 : decode cX7_count 110 = .ok (.aload_n 0, 1) := dX7_count_92_b.2.2.2.2.2.2.2.2.1
theorem dX7_count_111 : decode cX7_count 111 = .ok (.getfield 19, 3) := dX7_count_92_b.2.2.2.2.2.2.2.2.2.1
theorem dX7_count_114 : decode cX7_count 114 = .ok (.getfield 292, 3) := dX7_count_92_b.2.2.2.2.2.2.2.2.2.2.1
theorem dX7_count_117 : decode cX7_count 117 = .ok (.ireturn, 1) := dX7_count_92_b.2.2.2.2.2.2.2.2.2.2.2
theorem dX7_count_118_b : (decode cX7_count 118 = .ok (.ldc 64, 2)) ∧ (decode cX7_count 120 = .ok (.ireturn, 1)) := by decide +kernel
theorem dX7_count_118 : decode cX7_count 118 = .ok (.ldc 64, 2) := dX7_count_118_b.1
theorem dX7_count_120 : decode cX7_count 120 = .ok (.ireturn, 1) := dX7_count_118_b.2
theorem dX7_status_0_b : (decode cX7_status 0 = .ok (.aload_n 0, 1)) ∧ (decode cX7_status 1 = .ok (.getfield 54, 3)) ∧ (decode cX7_status 4 = .ok (.ireturn, 1)) := by decide +kernel
theorem dX7_status_0 : decode cX7_status 0 = .ok (.aload_n 0, 1) := dX7_status_0_b.1
theorem dX7_status_1 : decode cX7_status 1 = .ok (.getfield 54, 3) := dX7_status_0_b.2.1
theorem dX7_status_4 : decode cX7_status 4 = .ok (.ireturn, 1) := dX7_status_0_b.2.2
theorem dX7_found_0_b : (decode cX7_found 0 = .ok (.aload_n 0, 1)) ∧ (decode cX7_found 1 = .ok (.iload_n 1, 1)) ∧ (decode cX7_found 2 = .ok (.putfield 54, 3)) ∧ (decode cX7_found 5 = .ok (.ldc_w 295, 3)) ∧ (decode cX7_found 8 = .ok (.iload_n 1, 1)) ∧ (decode cX7_found 9 = .ok (.isub, 1)) ∧ (decode cX7_found 10 = .ok (.ireturn, 1)) := by decide +kernel
theorem dX7_found_0 : decode cX7_found 0 = .ok (.aload_n 0, 1) := dX7_found_0_b.1
theorem dX7_found_1 : decode cX7_found 1 = .ok (.iload_n 1, 1) := dX7_found_0_b.2.1
theorem dX7_found_2 : decode cX7_found 2 = .ok (.putfield 54, 3) := dX7_found_0_b.2.2.1
theorem dX7_found_5 : decode cX7_found 5 = .ok (.ldc_w 295, 3) := dX7_found_0_b.2.2.2.1
theorem dX7_found_8 : decode cX7_found 8 = .ok (.iload_n 1, 1) := dX7_found_0_b.2.2.2.2.1
theorem dX7_found_9 : decode cX7_found 9 = .ok (.isub, 1) := dX7_found_0_b.2.2.2.2.2.1
theorem dX7_found_10 : decode cX7_found 10 = .ok (.ireturn, 1) := dX7_found_0_b.2.2.2.2.2.2
theorem dX7_foundNothing_0_b : (decode cX7_foundNothing 0 = .ok (.aload_n 0, 1)) ∧ (decode cX7_foundNothing 1 = .ok (.iconst 0, 1)) ∧ (decode cX7_foundNothing 2 = .ok (.putfield 54, 3)) ∧ (decode cX7_foundNothing 5 = .ok (.iload_n 1, 1)) ∧ (decode cX7_foundNothing 6 = .ok (.ireturn, 1)) := by decide +kernel
theorem dX7_foundNothing_0 : decode cX7_foundNothing 0 = .ok (.aload_n 0, 1) := dX7_foundNothing_0_b.1
theorem dX7_foundNothing_1 : decode cX7_foundNothing 1 = .ok (.iconst 0, 1) := dX7_foundNothing_0_b.2.1
theorem dX7_foundNothing_2 : decode cX7_foundNothing 2 = .ok (.putfield 54, 3) := dX7_foundNothing_0_b.2.2.1
theorem dX7_foundNothing_5 : decode cX7_foundNothing 5 = .ok (.iload_n 1, 1) := dX7_foundNothing_0_b.2.2.2.1
theorem dX7_foundNothing_6 : decode cX7_foundNothing 6 = .ok (.ireturn, 1) := dX7_foundNothing_0_b.2.2.2.2
theorem dX7_imageAt_0_b : (decode cX7_imageAt 0 = .ok (.iload_n 1, 1)) ∧ (decode cX7_imageAt 1 = .ok (.ifCond .ne 10, 3)) ∧ (decode cX7_imageAt 4 = .ok (.aload_n 0, 1)) ∧ (decode cX7_imageAt 5 = .ok (.getfield 30, 3)) ∧ (decode cX7_imageAt 8 = .ok (.goto 7, 3)) ∧ (decode cX7_imageAt 11 = .ok (.aload_n 0, 1)) ∧ (decode cX7_imageAt 12 = .ok (.getfield 33, 3)) ∧ (decode cX7_imageAt 15 = .ok (.areturn, 1)) := by decide +kernel
theorem dX7_imageAt_0 : decode cX7_imageAt 0 = .ok (.iload_n 1, 1) := dX7_imageAt_0_b.1
theorem dX7_imageAt_1 : decode cX7_imageAt 1 = .ok (.ifCond .ne 10, 3) := dX7_imageAt_0_b.2.1
theorem dX7_imageAt_4 : decode cX7_imageAt 4 = .ok (.aload_n 0, 1) := dX7_imageAt_0_b.2.2.1
theorem dX7_imageAt_5 : decode cX7_imageAt 5 = .ok (.getfield 30, 3) := dX7_imageAt_0_b.2.2.2.1
theorem dX7_imageAt_8 : decode cX7_imageAt 8 = .ok (.goto 7, 3) := dX7_imageAt_0_b.2.2.2.2.1
theorem dX7_imageAt_11 : decode cX7_imageAt 11 = .ok (.aload_n 0, 1) := dX7_imageAt_0_b.2.2.2.2.2.1
theorem dX7_imageAt_12 : decode cX7_imageAt 12 = .ok (.getfield 33, 3) := dX7_imageAt_0_b.2.2.2.2.2.2.1
theorem dX7_imageAt_15 : decode cX7_imageAt 15 = .ok (.areturn, 1) := dX7_imageAt_0_b.2.2.2.2.2.2.2
theorem dX7_isWithin_0_b : (decode cX7_isWithin 0 = .ok (.iload_n 0, 1)) ∧ (decode cX7_isWithin 1 = .ok (.iload_n 1, 1)) ∧ (decode cX7_isWithin 2 = .ok (.if_icmp .lt 12, 3)) ∧ (decode cX7_isWithin 5 = .ok (.iload_n 0, 1)) ∧ (decode cX7_isWithin 6 = .ok (.iload_n 2, 1)) ∧ (decode cX7_isWithin 7 = .ok (.if_icmp .gt 7, 3)) ∧ (decode cX7_isWithin 10 = .ok (.iconst 1, 1)) ∧ (decode cX7_isWithin 11 = .ok (.goto 4, 3)) ∧ (decode cX7_isWithin 14 = .ok (.iconst 0, 1)) ∧ (decode cX7_isWithin 15 = .ok (.ireturn, 1)) := by decide +kernel
theorem dX7_isWithin_0 : decode cX7_isWithin 0 = .ok (.iload_n 0, 1) := dX7_isWithin_0_b.1
theorem dX7_isWithin_1 : decode cX7_isWithin 1 = .ok (.iload_n 1, 1) := dX7_isWithin_0_b.2.1
theorem dX7_isWithin_2 : decode cX7_isWithin 2 = .ok (.if_icmp .lt 12, 3) := dX7_isWithin_0_b.2.2.1
theorem dX7_isWithin_5 : decode cX7_isWithin 5 = .ok (.iload_n 0, 1) := dX7_isWithin_0_b.2.2.2.1
theorem dX7_isWithin_6 : decode cX7_isWithin 6 = .ok (.iload_n 2, 1) := dX7_isWithin_0_b.2.2.2.2.1
theorem dX7_isWithin_7 : decode cX7_isWithin 7 = .ok (.if_icmp .gt 7, 3) := dX7_isWithin_0_b.2.2.2.2.2.1
theorem dX7_isWithin_10 : decode cX7_isWithin 10 = .ok (.iconst 1, 1) := dX7_isWithin_0_b.2.2.2.2.2.2.1
theorem dX7_isWithin_11 : decode cX7_isWithin 11 = .ok (.goto 4, 3) := dX7_isWithin_0_b.2.2.2.2.2.2.2.1
theorem dX7_isWithin_14 : decode cX7_isWithin 14 = .ok (.iconst 0, 1) := dX7_isWithin_0_b.2.2.2.2.2.2.2.2.1
theorem dX7_isWithin_15 : decode cX7_isWithin 15 = .ok (.ireturn, 1) := dX7_isWithin_0_b.2.2.2.2.2.2.2.2.2
theorem dX7_isGoal_0_b : (decode cX7_isGoal 0 = .ok (.iload_n 0, 1)) ∧ (decode cX7_isGoal 1 = .ok (.iconst 0, 1)) ∧ (decode cX7_isGoal 2 = .ok (.sipush 999, 3)) ∧ (decode cX7_isGoal 5 = .ok (.invokestatic 97, 3)) ∧ (decode cX7_isGoal 8 = .ok (.ifCond .eq 26, 3)) ∧ (decode cX7_isGoal 11 = .ok (.iload_n 1, 1)) ∧ (decode cX7_isGoal 12 = .ok (.iconst 0, 1)) ∧ (decode cX7_isGoal 13 = .ok (.bipush 99, 2)) ∧ (decode cX7_isGoal 15 = .ok (.invokestatic 97, 3)) ∧ (decode cX7_isGoal 18 = .ok (.ifCond .eq 16, 3)) ∧ (decode cX7_isGoal 21 = .ok (.iload_n 2, 1)) ∧ (decode cX7_isGoal 22 = .ok (.iconst 0, 1)) := by decide +kernel
theorem dX7_isGoal_0 : decode cX7_isGoal 0 = .ok (.iload_n 0, 1) := dX7_isGoal_0_b.1
theorem dX7_isGoal_1 : decode cX7_isGoal 1 = .ok (.iconst 0, 1) := dX7_isGoal_0_b.2.1
theorem dX7_isGoal_2 : decode cX7_isGoal 2 = .ok (.sipush 999, 3) := dX7_isGoal_0_b.2.2.1
theorem dX7_isGoal_5 : decode cX7_isGoal 5 = .ok (.invokestatic 97, 3) := dX7_isGoal_0_b.2.2.2.1
theorem dX7_isGoal_8 : decode cX7_isGoal 8 = .ok (.ifCond .eq 26, 3) := dX7_isGoal_0_b.2.2.2.2.1
theorem dX7_isGoal_11 : decode cX7_isGoal 11 = .ok (.iload_n 1, 1) := dX7_isGoal_0_b.2.2.2.2.2.1
theorem dX7_isGoal_12 : decode cX7_isGoal 12 = .ok (.iconst 0, 1) := dX7_isGoal_0_b.2.2.2.2.2.2.1
theorem dX7_isGoal_13 : decode cX7_isGoal 13 = .ok (.bipush 99, 2) := dX7_isGoal_0_b.2.2.2.2.2.2.2.1
theorem dX7_isGoal_15 : decode cX7_isGoal 15 = .ok (.invokestatic 97, 3) := dX7_isGoal_0_b.2.2.2.2.2.2.2.2.1
theorem dX7_isGoal_18 : decode cX7_isGoal 18 = .ok (.ifCond .eq 16, 3) := dX7_isGoal_0_b.2.2.2.2.2.2.2.2.2.1
theorem dX7_isGoal_21 : decode cX7_isGoal 21 = .ok (.iload_n 2, 1) := dX7_isGoal_0_b.2.2.2.2.2.2.2.2.2.2.1
theorem dX7_isGoal_22 : decode cX7_isGoal 22 = .ok (.iconst 0, 1) := dX7_isGoal_0_b.2.2.2.2.2.2.2.2.2.2.2
theorem dX7_isGoal_23_b : (decode cX7_isGoal 23 = .ok (.iconst 1, 1)) ∧ (decode cX7_isGoal 24 = .ok (.invokestatic 97, 3)) ∧ (decode cX7_isGoal 27 = .ok (.ifCond .eq 7, 3)) ∧ (decode cX7_isGoal 30 = .ok (.iconst 1, 1)) ∧ (decode cX7_isGoal 31 = .ok (.goto 4, 3)) ∧ (decode cX7_isGoal 34 = .ok (.iconst 0, 1)) ∧ (decode cX7_isGoal 35 = .ok (.ireturn, 1)) := by decide +kernel
theorem dX7_isGoal_23 : decode cX7_isGoal 23 = .ok (.iconst 1, 1) := dX7_isGoal_23_b.1
theorem dX7_isGoal_24 : decode cX7_isGoal 24 = .ok (.invokestatic 97, 3) := dX7_isGoal_23_b.2.1
theorem dX7_isGoal_27 : decode cX7_isGoal 27 = .ok (.ifCond .eq 7, 3) := dX7_isGoal_23_b.2.2.1
theorem dX7_isGoal_30 : decode cX7_isGoal 30 = .ok (.iconst 1, 1) := dX7_isGoal_23_b.2.2.2.1
theorem dX7_isGoal_31 : decode cX7_isGoal 31 = .ok (.goto 4, 3) := dX7_isGoal_23_b.2.2.2.2.1
theorem dX7_isGoal_34 : decode cX7_isGoal 34 = .ok (.iconst 0, 1) := dX7_isGoal_23_b.2.2.2.2.2.1
theorem dX7_isGoal_35 : decode cX7_isGoal 35 = .ok (.ireturn, 1) := dX7_isGoal_23_b.2.2.2.2.2.2
theorem dX7_manyOrWhich_0_b : (decode cX7_manyOrWhich 0 = .ok (.iload_n 0, 1)) ∧ (decode cX7_manyOrWhich 1 = .ok (.ldc 108, 2)) ∧ (decode cX7_manyOrWhich 3 = .ok (.if_icmp .ne 6, 3)) ∧ (decode cX7_manyOrWhich 6 = .ok (.ldc 108, 2)) ∧ (decode cX7_manyOrWhich 8 = .ok (.ireturn, 1)) ∧ (decode cX7_manyOrWhich 9 = .ok (.iload_n 1, 1)) ∧ (decode cX7_manyOrWhich 10 = .ok (.ifCond .ne 10, 3)) ∧ (decode cX7_manyOrWhich 13 = .ok (.iload_n 0, 1)) ∧ (decode cX7_manyOrWhich 14 = .ok (.invokestatic 158, 3)) ∧ (decode cX7_manyOrWhich 17 = .ok (.goto 4, 3)) ∧ (decode cX7_manyOrWhich 20 = .ok (.iload_n 0, 1)) ∧ (decode cX7_manyOrWhich 21 = .ok (.ireturn, 1)) := by decide +kernel
theorem dX7_manyOrWhich_0 : decode cX7_manyOrWhich 0 = .ok (.iload_n 0, 1) := dX7_manyOrWhich_0_b.1
theorem dX7_manyOrWhich_1 : decode cX7_manyOrWhich 1 = .ok (.ldc 108, 2) := dX7_manyOrWhich_0_b.2.1
theorem dX7_manyOrWhich_3 : decode cX7_manyOrWhich 3 = .ok (.if_icmp .ne 6, 3) := dX7_manyOrWhich_0_b.2.2.1
theorem dX7_manyOrWhich_6 : decode cX7_manyOrWhich 6 = .ok (.ldc 108, 2) := dX7_manyOrWhich_0_b.2.2.2.1
theorem dX7_manyOrWhich_8 : decode cX7_manyOrWhich 8 = .ok (.ireturn, 1) := dX7_manyOrWhich_0_b.2.2.2.2.1
theorem dX7_manyOrWhich_9 : decode cX7_manyOrWhich 9 = .ok (.iload_n 1, 1) := dX7_manyOrWhich_0_b.2.2.2.2.2.1
theorem dX7_manyOrWhich_10 : decode cX7_manyOrWhich 10 = .ok (.ifCond .ne 10, 3) := dX7_manyOrWhich_0_b.2.2.2.2.2.2.1
theorem dX7_manyOrWhich_13 : decode cX7_manyOrWhich 13 = .ok (.iload_n 0, 1) := dX7_manyOrWhich_0_b.2.2.2.2.2.2.2.1
theorem dX7_manyOrWhich_14 : decode cX7_manyOrWhich 14 = .ok (.invokestatic 158, 3) := dX7_manyOrWhich_0_b.2.2.2.2.2.2.2.2.1
theorem dX7_manyOrWhich_17 : decode cX7_manyOrWhich 17 = .ok (.goto 4, 3) := dX7_manyOrWhich_0_b.2.2.2.2.2.2.2.2.2.1
theorem dX7_manyOrWhich_20 : decode cX7_manyOrWhich 20 = .ok (.iload_n 0, 1) := dX7_manyOrWhich_0_b.2.2.2.2.2.2.2.2.2.2.1
theorem dX7_manyOrWhich_21 : decode cX7_manyOrWhich 21 = .ok (.ireturn, 1) := dX7_manyOrWhich_0_b.2.2.2.2.2.2.2.2.2.2.2
theorem dX7_greatestDivisor_0_b : (decode cX7_greatestDivisor 0 = .ok (.iload_n 0, 1)) ∧ (decode cX7_greatestDivisor 1 = .ok (.istore_n 2, 1)) ∧ (decode cX7_greatestDivisor 2 = .ok (.iload_n 1, 1)) ∧ (decode cX7_greatestDivisor 3 = .ok (.istore_n 3, 1)) ∧ (decode cX7_greatestDivisor 4 = .ok (.iconst 0, 1)) ∧ (decode cX7_greatestDivisor 5 = .ok (.istore 4, 2)) ∧ (decode cX7_greatestDivisor 7 = .ok (.iload 4, 2)) ∧ (decode cX7_greatestDivisor 9 = .ok (.bipush 64, 2)) ∧ (decode cX7_greatestDivisor 11 = .ok (.if_icmp .ge 23, 3)) ∧ (decode cX7_greatestDivisor 14 = .ok (.iload_n 3, 1)) ∧ (decode cX7_greatestDivisor 15 = .ok (.ifCond .eq 19, 3)) ∧ (decode cX7_greatestDivisor 18 = .ok (.iload_n 2, 1)) := by decide +kernel
theorem dX7_greatestDivisor_0 : decode cX7_greatestDivisor 0 = .ok (.iload_n 0, 1) := dX7_greatestDivisor_0_b.1
theorem dX7_greatestDivisor_1 : decode cX7_greatestDivisor 1 = .ok (.istore_n 2, 1) := dX7_greatestDivisor_0_b.2.1
theorem dX7_greatestDivisor_2 : decode cX7_greatestDivisor 2 = .ok (.iload_n 1, 1) := dX7_greatestDivisor_0_b.2.2.1
theorem dX7_greatestDivisor_3 : decode cX7_greatestDivisor 3 = .ok (.istore_n 3, 1) := dX7_greatestDivisor_0_b.2.2.2.1
theorem dX7_greatestDivisor_4 : decode cX7_greatestDivisor 4 = .ok (.iconst 0, 1) := dX7_greatestDivisor_0_b.2.2.2.2.1
theorem dX7_greatestDivisor_5 : decode cX7_greatestDivisor 5 = .ok (.istore 4, 2) := dX7_greatestDivisor_0_b.2.2.2.2.2.1
theorem dX7_greatestDivisor_7 : decode cX7_greatestDivisor 7 = .ok (.iload 4, 2) := dX7_greatestDivisor_0_b.2.2.2.2.2.2.1
theorem dX7_greatestDivisor_9 : decode cX7_greatestDivisor 9 = .ok (.bipush 64, 2) := dX7_greatestDivisor_0_b.2.2.2.2.2.2.2.1
theorem dX7_greatestDivisor_11 : decode cX7_greatestDivisor 11 = .ok (.if_icmp .ge 23, 3) := dX7_greatestDivisor_0_b.2.2.2.2.2.2.2.2.1
theorem dX7_greatestDivisor_14 : decode cX7_greatestDivisor 14 = .ok (.iload_n 3, 1) := dX7_greatestDivisor_0_b.2.2.2.2.2.2.2.2.2.1
theorem dX7_greatestDivisor_15 : decode cX7_greatestDivisor 15 = .ok (.ifCond .eq 19, 3) := dX7_greatestDivisor_0_b.2.2.2.2.2.2.2.2.2.2.1
theorem dX7_greatestDivisor_18 : decode cX7_greatestDivisor 18 = .ok (.iload_n 2, 1) := dX7_greatestDivisor_0_b.2.2.2.2.2.2.2.2.2.2.2
theorem dX7_greatestDivisor_19_b : (decode cX7_greatestDivisor 19 = .ok (.iload_n 3, 1)) ∧ (decode cX7_greatestDivisor 20 = .ok (.irem, 1)) ∧ (decode cX7_greatestDivisor 21 = .ok (.istore 5, 2)) ∧ (decode cX7_greatestDivisor 23 = .ok (.iload_n 3, 1)) ∧ (decode cX7_greatestDivisor 24 = .ok (.istore_n 2, 1)) ∧ (decode cX7_greatestDivisor 25 = .ok (.iload 5, 2)) ∧ (decode cX7_greatestDivisor 27 = .ok (.istore_n 3, 1)) ∧ (decode cX7_greatestDivisor 28 = .ok (.iinc 4 1, 3)) ∧ (decode cX7_greatestDivisor 31 = .ok (.goto (-24), 3)) ∧ (decode cX7_greatestDivisor 34 = .ok (.iload_n 2, 1)) ∧ (decode cX7_greatestDivisor 35 = .ok (.iconst 1, 1)) ∧ (decode cX7_greatestDivisor 36 = .ok (.invokestatic 296, 3)) := by decide +kernel
theorem dX7_greatestDivisor_19 : decode cX7_greatestDivisor 19 = .ok (.iload_n 3, 1) := dX7_greatestDivisor_19_b.1
theorem dX7_greatestDivisor_20 : decode cX7_greatestDivisor 20 = .ok (.irem, 1) := dX7_greatestDivisor_19_b.2.1
theorem dX7_greatestDivisor_21 : decode cX7_greatestDivisor 21 = .ok (.istore 5, 2) := dX7_greatestDivisor_19_b.2.2.1
theorem dX7_greatestDivisor_23 : decode cX7_greatestDivisor 23 = .ok (.iload_n 3, 1) := dX7_greatestDivisor_19_b.2.2.2.1
theorem dX7_greatestDivisor_24 : decode cX7_greatestDivisor 24 = .ok (.istore_n 2, 1) := dX7_greatestDivisor_19_b.2.2.2.2.1
theorem dX7_greatestDivisor_25 : decode cX7_greatestDivisor 25 = .ok (.iload 5, 2) := dX7_greatestDivisor_19_b.2.2.2.2.2.1
theorem dX7_greatestDivisor_27 : decode cX7_greatestDivisor 27 = .ok (.istore_n 3, 1) := dX7_greatestDivisor_19_b.2.2.2.2.2.2.1
theorem dX7_greatestDivisor_28 : decode cX7_greatestDivisor 28 = .ok (.iinc 4 1, 3) := dX7_greatestDivisor_19_b.2.2.2.2.2.2.2.1
theorem dX7_greatestDivisor_31 : decode cX7_greatestDivisor 31 = .ok (.goto (-24), 3) := dX7_greatestDivisor_19_b.2.2.2.2.2.2.2.2.1
theorem dX7_greatestDivisor_34 : decode cX7_greatestDivisor 34 = .ok (.iload_n 2, 1) := dX7_greatestDivisor_19_b.2.2.2.2.2.2.2.2.2.1
theorem dX7_greatestDivisor_35 : decode cX7_greatestDivisor 35 = .ok (.iconst 1, 1) := dX7_greatestDivisor_19_b.2.2.2.2.2.2.2.2.2.2.1
theorem dX7_greatestDivisor_36 : decode cX7_greatestDivisor 36 = .ok (.invokestatic 296, 3) := dX7_greatestDivisor_19_b.2.2.2.2.2.2.2.2.2.2.2
theorem dX7_greatestDivisor_39 : decode cX7_greatestDivisor 39 = .ok (.ireturn, 1) := by decide +kernel
