theorem dX8_hush_46_b : (decode cX8_hush 46 = .ok (.getfield 25, 3)) ∧ (decode cX8_hush 49 = .ok (.bipush 6, 2)) ∧ (decode cX8_hush 51 = .ok (.bipush 7, 2)) ∧ (decode cX8_hush 53 = .ok (.iload_n 1, 1)) ∧ (decode cX8_hush 54 = .ok (.imul, 1)) ∧ (decode cX8_hush 55 = .ok (.iadd, 1)) ∧ (decode cX8_hush 56 = .ok (.iconst 5, 1)) ∧ (decode cX8_hush 57 = .ok (.iadd, 1)) ∧ (decode cX8_hush 58 = .ok (.iload_n 2, 1)) ∧ (decode cX8_hush 59 = .ok (.iastore, 1)) ∧ (decode cX8_hush 60 = .ok (.aload_n 0, 1)) ∧ (decode cX8_hush 61 = .ok (.invokevirtual 181, 3)) := by decide +kernel
theorem dX8_hush_46 : decode cX8_hush 46 = .ok (.getfield 25, 3) := dX8_hush_46_b.1
theorem dX8_hush_49 : decode cX8_hush 49 = .ok (.bipush 6, 2) := dX8_hush_46_b.2.1
theorem dX8_hush_51 : decode cX8_hush 51 = .ok (.bipush 7, 2) := dX8_hush_46_b.2.2.1
theorem dX8_hush_53 : decode cX8_hush 53 = .ok (.iload_n 1, 1) := dX8_hush_46_b.2.2.2.1
theorem dX8_hush_54 : decode cX8_hush 54 = .ok (.imul, 1) := dX8_hush_46_b.2.2.2.2.1
theorem dX8_hush_55 : decode cX8_hush 55 = .ok (.iadd, 1) := dX8_hush_46_b.2.2.2.2.2.1
theorem dX8_hush_56 : decode cX8_hush 56 = .ok (.iconst 5, 1) := dX8_hush_46_b.2.2.2.2.2.2.1
theorem dX8_hush_57 : decode cX8_hush 57 = .ok (.iadd, 1) := dX8_hush_46_b.2.2.2.2.2.2.2.1
theorem dX8_hush_58 : decode cX8_hush 58 = .ok (.iload_n 2, 1) := dX8_hush_46_b.2.2.2.2.2.2.2.2.1
theorem dX8_hush_59 : decode cX8_hush 59 = .ok (.iastore, 1) := dX8_hush_46_b.2.2.2.2.2.2.2.2.2.1
theorem dX8_hush_60 : decode cX8_hush 60 = .ok (.aload_n 0, 1) := dX8_hush_46_b.2.2.2.2.2.2.2.2.2.2.1
theorem dX8_hush_61 : decode cX8_hush 61 = .ok (.invokevirtual 181, 3) := dX8_hush_46_b.2.2.2.2.2.2.2.2.2.2.2
theorem dX8_hush_64 : decode cX8_hush 64 = .ok (.ireturn, 1) := by decide +kernel
theorem dX8_wool_0_b : (decode cX8_wool 0 = .ok (.aload_n 0, 1)) ∧ (decode cX8_wool 1 = .ok (.invokevirtual 171, 3)) ∧ (decode cX8_wool 4 = .ok (.ifCond .ne 6, 3)) ∧ (decode cX8_wool 7 = .ok (.ldc 174, 2)) ∧ (decode cX8_wool 9 = .ok (.ireturn, 1)) ∧ (decode cX8_wool 10 = .ok (.iload_n 1, 1)) ∧ (decode cX8_wool 11 = .ok (.iconst 0, 1)) ∧ (decode cX8_wool 12 = .ok (.bipush 12, 2)) ∧ (decode cX8_wool 14 = .ok (.invokestatic 56, 3)) ∧ (decode cX8_wool 17 = .ok (.ifCond .ne 6, 3)) ∧ (decode cX8_wool 20 = .ok (.ldc 64, 2)) ∧ (decode cX8_wool 22 = .ok (.ireturn, 1)) := by decide +kernel
theorem dX8_wool_0 : decode cX8_wool 0 = .ok (.aload_n 0, 1) := dX8_wool_0_b.1
theorem dX8_wool_1 : decode cX8_wool 1 = .ok (.invokevirtual 171, 3) := dX8_wool_0_b.2.1
theorem dX8_wool_4 : decode cX8_wool 4 = .ok (.ifCond .ne 6, 3) := dX8_wool_0_b.2.2.1
theorem dX8_wool_7 : decode cX8_wool 7 = .ok (.ldc 174, 2) := dX8_wool_0_b.2.2.2.1
theorem dX8_wool_9 : decode cX8_wool 9 = .ok (.ireturn, 1) := dX8_wool_0_b.2.2.2.2.1
theorem dX8_wool_10 : decode cX8_wool 10 = .ok (.iload_n 1, 1) := dX8_wool_0_b.2.2.2.2.2.1
theorem dX8_wool_11 : decode cX8_wool 11 = .ok (.iconst 0, 1) := dX8_wool_0_b.2.2.2.2.2.2.1
theorem dX8_wool_12 : decode cX8_wool 12 = .ok (.bipush 12, 2) := dX8_wool_0_b.2.2.2.2.2.2.2.1
theorem dX8_wool_14 : decode cX8_wool 14 = .ok (.invokestatic 56, 3) := dX8_wool_0_b.2.2.2.2.2.2.2.2.1
theorem dX8_wool_17 : decode cX8_wool 17 = .ok (.ifCond .ne 6, 3) := dX8_wool_0_b.2.2.2.2.2.2.2.2.2.1
theorem dX8_wool_20 : decode cX8_wool 20 = .ok (.ldc 64, 2) := dX8_wool_0_b.2.2.2.2.2.2.2.2.2.2.1
theorem dX8_wool_22 : decode cX8_wool 22 = .ok (.ireturn, 1) := dX8_wool_0_b.2.2.2.2.2.2.2.2.2.2.2
theorem dX8_wool_23_b : (decode cX8_wool 23 = .ok (.aload_n 0, 1)) ∧ (decode cX8_wool 24 = .ok (.invokevirtual 175, 3)) ∧ (decode cX8_wool 27 = .ok (.aload_n 0, 1)) ∧ (decode cX8_wool 28 = .ok (.getfield 25, 3)) ∧ (decode cX8_wool 31 = .ok (.iconst 1, 1)) ∧ (decode cX8_wool 32 = .ok (.iaload, 1)) ∧ (decode cX8_wool 33 = .ok (.istore_n 2, 1)) ∧ (decode cX8_wool 34 = .ok (.aload_n 0, 1)) ∧ (decode cX8_wool 35 = .ok (.getfield 25, 3)) ∧ (decode cX8_wool 38 = .ok (.iconst 1, 1)) ∧ (decode cX8_wool 39 = .ok (.iload_n 1, 1)) ∧ (decode cX8_wool 40 = .ok (.iastore, 1)) := by decide +kernel
theorem dX8_wool_23 : decode cX8_wool 23 = .ok (.aload_n 0, 1) := dX8_wool_23_b.1
theorem dX8_wool_24 : decode cX8_wool 24 = .ok (.invokevirtual 175, 3) := dX8_wool_23_b.2.1
theorem dX8_wool_27 : decode cX8_wool 27 = .ok (.aload_n 0, 1) := dX8_wool_23_b.2.2.1
theorem dX8_wool_28 : decode cX8_wool 28 = .ok (.getfield 25, 3) := dX8_wool_23_b.2.2.2.1
theorem dX8_wool_31 : decode cX8_wool 31 = .ok (.iconst 1, 1) := dX8_wool_23_b.2.2.2.2.1
theorem dX8_wool_32 : decode cX8_wool 32 = .ok (.iaload, 1) := dX8_wool_23_b.2.2.2.2.2.1
theorem dX8_wool_33 : decode cX8_wool 33 = .ok (.istore_n 2, 1) := dX8_wool_23_b.2.2.2.2.2.2.1
theorem dX8_wool_34 : decode cX8_wool 34 = .ok (.aload_n 0, 1) := dX8_wool_23_b.2.2.2.2.2.2.2.1
theorem dX8_wool_35 : decode cX8_wool 35 = .ok (.getfield 25, 3) := dX8_wool_23_b.2.2.2.2.2.2.2.2.1
theorem dX8_wool_38 : decode cX8_wool 38 = .ok (.iconst 1, 1) := dX8_wool_23_b.2.2.2.2.2.2.2.2.2.1
theorem dX8_wool_39 : decode cX8_wool 39 = .ok (.iload_n 1, 1) := dX8_wool_23_b.2.2.2.2.2.2.2.2.2.2.1
theorem dX8_wool_40 : decode cX8_wool 40 = .ok (.iastore, 1) := dX8_wool_23_b.2.2.2.2.2.2.2.2.2.2.2
theorem dX8_wool_41_b : (decode cX8_wool 41 = .ok (.iload_n 2, 1)) ∧ (decode cX8_wool 42 = .ok (.ireturn, 1)) := by decide +kernel
theorem dX8_wool_41 : decode cX8_wool 41 = .ok (.iload_n 2, 1) := dX8_wool_41_b.1
theorem dX8_wool_42 : decode cX8_wool 42 = .ok (.ireturn, 1) := dX8_wool_41_b.2
theorem dX8_undo_0_b : (decode cX8_undo 0 = .ok (.aload_n 0, 1)) ∧ (decode cX8_undo 1 = .ok (.getfield 138, 3)) ∧ (decode cX8_undo 4 = .ok (.ifCond .ne 6, 3)) ∧ (decode cX8_undo 7 = .ok (.ldc 174, 2)) ∧ (decode cX8_undo 9 = .ok (.ireturn, 1)) ∧ (decode cX8_undo 10 = .ok (.aload_n 0, 1)) ∧ (decode cX8_undo 11 = .ok (.dup, 1)) ∧ (decode cX8_undo 12 = .ok (.getfield 138, 3)) ∧ (decode cX8_undo 15 = .ok (.iconst 1, 1)) ∧ (decode cX8_undo 16 = .ok (.isub, 1)) ∧ (decode cX8_undo 17 = .ok (.putfield 138, 3)) ∧ (decode cX8_undo 20 = .ok (.aload_n 0, 1)) := by decide +kernel
theorem dX8_undo_0 : decode cX8_undo 0 = .ok (.aload_n 0, 1) := dX8_undo_0_b.1
theorem dX8_undo_1 : decode cX8_undo 1 = .ok (.getfield 138, 3) := dX8_undo_0_b.2.1
theorem dX8_undo_4 : decode cX8_undo 4 = .ok (.ifCond .ne 6, 3) := dX8_undo_0_b.2.2.1
theorem dX8_undo_7 : decode cX8_undo 7 = .ok (.ldc 174, 2) := dX8_undo_0_b.2.2.2.1
theorem dX8_undo_9 : decode cX8_undo 9 = .ok (.ireturn, 1) := dX8_undo_0_b.2.2.2.2.1
theorem dX8_undo_10 : decode cX8_undo 10 = .ok (.aload_n 0, 1) := dX8_undo_0_b.2.2.2.2.2.1
theorem dX8_undo_11 : decode cX8_undo 11 = .ok (.dup, 1) := dX8_undo_0_b.2.2.2.2.2.2.1
theorem dX8_undo_12 : decode cX8_undo 12 = .ok (.getfield 138, 3) := dX8_undo_0_b.2.2.2.2.2.2.2.1
theorem dX8_undo_15 : decode cX8_undo 15 = .ok (.iconst 1, 1) := dX8_undo_0_b.2.2.2.2.2.2.2.2.1
theorem dX8_undo_16 : decode cX8_undo 16 = .ok (.isub, 1) := dX8_undo_0_b.2.2.2.2.2.2.2.2.2.1
theorem dX8_undo_17 : decode cX8_undo 17 = .ok (.putfield 138, 3) := dX8_undo_0_b.2.2.2.2.2.2.2.2.2.2.1
theorem dX8_undo_20 : decode cX8_undo 20 = .ok (.aload_n 0, 1) := dX8_undo_0_b.2.2.2.2.2.2.2.2.2.2.2
theorem dX8_undo_21_b : (decode cX8_undo 21 = .ok (.getfield 31, 3)) ∧ (decode cX8_undo 24 = .ok (.bipush 68, 2)) ∧ (decode cX8_undo 26 = .ok (.aload_n 0, 1)) ∧ (decode cX8_undo 27 = .ok (.getfield 138, 3)) ∧ (decode cX8_undo 30 = .ok (.imul, 1)) ∧ (decode cX8_undo 31 = .ok (.aload_n 0, 1)) ∧ (decode cX8_undo 32 = .ok (.getfield 25, 3)) ∧ (decode cX8_undo 35 = .ok (.iconst 0, 1)) ∧ (decode cX8_undo 36 = .ok (.invokestatic 134, 3)) ∧ (decode cX8_undo 39 = .ok (.aload_n 0, 1)) ∧ (decode cX8_undo 40 = .ok (.getfield 138, 3)) ∧ (decode cX8_undo 43 = .ok (.ireturn, 1)) := by decide +kernel
theorem dX8_undo_21 : decode cX8_undo 21 = .ok (.getfield 31, 3) := dX8_undo_21_b.1
theorem dX8_undo_24 : decode cX8_undo 24 = .ok (.bipush 68, 2) := dX8_undo_21_b.2.1
theorem dX8_undo_26 : decode cX8_undo 26 = .ok (.aload_n 0, 1) := dX8_undo_21_b.2.2.1
theorem dX8_undo_27 : decode cX8_undo 27 = .ok (.getfield 138, 3) := dX8_undo_21_b.2.2.2.1
theorem dX8_undo_30 : decode cX8_undo 30 = .ok (.imul, 1) := dX8_undo_21_b.2.2.2.2.1
theorem dX8_undo_31 : decode cX8_undo 31 = .ok (.aload_n 0, 1) := dX8_undo_21_b.2.2.2.2.2.1
theorem dX8_undo_32 : decode cX8_undo 32 = .ok (.getfield 25, 3) := dX8_undo_21_b.2.2.2.2.2.2.1
theorem dX8_undo_35 : decode cX8_undo 35 = .ok (.iconst 0, 1) := dX8_undo_21_b.2.2.2.2.2.2.2.1
theorem dX8_undo_36 : decode cX8_undo 36 = .ok (.invokestatic 134, 3) := dX8_undo_21_b.2.2.2.2.2.2.2.2.1
theorem dX8_undo_39 : decode cX8_undo 39 = .ok (.aload_n 0, 1) := dX8_undo_21_b.2.2.2.2.2.2.2.2.2.1
theorem dX8_undo_40 : decode cX8_undo 40 = .ok (.getfield 138, 3) := dX8_undo_21_b.2.2.2.2.2.2.2.2.2.2.1
theorem dX8_undo_43 : decode cX8_undo 43 = .ok (.ireturn, 1) := dX8_undo_21_b.2.2.2.2.2.2.2.2.2.2.2
theorem dX8_givesNow_0_b : (decode cX8_givesNow 0 = .ok (.aload_n 0, 1)) ∧ (decode cX8_givesNow 1 = .ok (.getfield 25, 3)) ∧ (decode cX8_givesNow 4 = .ok (.iload_n 1, 1)) ∧ (decode cX8_givesNow 5 = .ok (.invokestatic 141, 3)) ∧ (decode cX8_givesNow 8 = .ok (.ifCond .ne 5, 3)) ∧ (decode cX8_givesNow 11 = .ok (.iconst 0, 1)) ∧ (decode cX8_givesNow 12 = .ok (.ireturn, 1)) ∧ (decode cX8_givesNow 13 = .ok (.aload_n 0, 1)) ∧ (decode cX8_givesNow 14 = .ok (.getfield 25, 3)) ∧ (decode cX8_givesNow 17 = .ok (.bipush 6, 2)) ∧ (decode cX8_givesNow 19 = .ok (.bipush 7, 2)) ∧ (decode cX8_givesNow 21 = .ok (.iload_n 1, 1)) := by decide +kernel
theorem dX8_givesNow_0 : decode cX8_givesNow 0 = .ok (.aload_n 0, 1) := dX8_givesNow_0_b.1
theorem dX8_givesNow_1 : decode cX8_givesNow 1 = .ok (.getfield 25, 3) := dX8_givesNow_0_b.2.1
theorem dX8_givesNow_4 : decode cX8_givesNow 4 = .ok (.iload_n 1, 1) := dX8_givesNow_0_b.2.2.1
theorem dX8_givesNow_5 : decode cX8_givesNow 5 = .ok (.invokestatic 141, 3) := dX8_givesNow_0_b.2.2.2.1
theorem dX8_givesNow_8 : decode cX8_givesNow 8 = .ok (.ifCond .ne 5, 3) := dX8_givesNow_0_b.2.2.2.2.1
theorem dX8_givesNow_11 : decode cX8_givesNow 11 = .ok (.iconst 0, 1) := dX8_givesNow_0_b.2.2.2.2.2.1
theorem dX8_givesNow_12 : decode cX8_givesNow 12 = .ok (.ireturn, 1) := dX8_givesNow_0_b.2.2.2.2.2.2.1
theorem dX8_givesNow_13 : decode cX8_givesNow 13 = .ok (.aload_n 0, 1) := dX8_givesNow_0_b.2.2.2.2.2.2.2.1
theorem dX8_givesNow_14 : decode cX8_givesNow 14 = .ok (.getfield 25, 3) := dX8_givesNow_0_b.2.2.2.2.2.2.2.2.1
theorem dX8_givesNow_17 : decode cX8_givesNow 17 = .ok (.bipush 6, 2) := dX8_givesNow_0_b.2.2.2.2.2.2.2.2.2.1
theorem dX8_givesNow_19 : decode cX8_givesNow 19 = .ok (.bipush 7, 2) := dX8_givesNow_0_b.2.2.2.2.2.2.2.2.2.2.1
theorem dX8_givesNow_21 : decode cX8_givesNow 21 = .ok (.iload_n 1, 1) := dX8_givesNow_0_b.2.2.2.2.2.2.2.2.2.2.2
theorem dX8_givesNow_22_b : (decode cX8_givesNow 22 = .ok (.imul, 1)) ∧ (decode cX8_givesNow 23 = .ok (.iadd, 1)) ∧ (decode cX8_givesNow 24 = .ok (.iaload, 1)) ∧ (decode cX8_givesNow 25 = .ok (.iconst 2, 1)) ∧ (decode cX8_givesNow 26 = .ok (.if_icmp .ne 27, 3)) ∧ (decode cX8_givesNow 29 = .ok (.aload_n 0, 1)) ∧ (decode cX8_givesNow 30 = .ok (.getfield 25, 3)) ∧ (decode cX8_givesNow 33 = .ok (.aload_n 0, 1)) ∧ (decode cX8_givesNow 34 = .ok (.getfield 25, 3)) ∧ (decode cX8_givesNow 37 = .ok (.invokestatic 157, 3)) ∧ (decode cX8_givesNow 40 = .ok (.iconst 0, 1)) ∧ (decode cX8_givesNow 41 = .ok (.invokestatic 153, 3)) := by decide +kernel
theorem dX8_givesNow_22 : decode cX8_givesNow 22 = .ok (.imul, 1) := dX8_givesNow_22_b.1
theorem dX8_givesNow_23 : decode cX8_givesNow 23 = .ok (.iadd, 1) := dX8_givesNow_22_b.2.1
theorem dX8_givesNow_24 : decode cX8_givesNow 24 = .ok (.iaload, 1) := dX8_givesNow_22_b.2.2.1
theorem dX8_givesNow_25 : decode cX8_givesNow 25 = .ok (.iconst 2, 1) := dX8_givesNow_22_b.2.2.2.1
theorem dX8_givesNow_26 : decode cX8_givesNow 26 = .ok (.if_icmp .ne 27, 3) := dX8_givesNow_22_b.2.2.2.2.1
theorem dX8_givesNow_29 : decode cX8_givesNow 29 = .ok (.aload_n 0, 1) := dX8_givesNow_22_b.2.2.2.2.2.1
theorem dX8_givesNow_30 : decode cX8_givesNow 30 = .ok (.getfield 25, 3) := dX8_givesNow_22_b.2.2.2.2.2.2.1
theorem dX8_givesNow_33 : decode cX8_givesNow 33 = .ok (.aload_n 0, 1) := dX8_givesNow_22_b.2.2.2.2.2.2.2.1
theorem dX8_givesNow_34 : decode cX8_givesNow 34 = .ok (.getfield 25, 3) := dX8_givesNow_22_b.2.2.2.2.2.2.2.2.1
theorem dX8_givesNow_37 : decode cX8_givesNow 37 = .ok (.invokestatic 157, 3) := dX8_givesNow_22_b.2.2.2.2.2.2.2.2.2.1
theorem dX8_givesNow_40 : decode cX8_givesNow 40 = .ok (.iconst 0, 1) := dX8_givesNow_22_b.2.2.2.2.2.2.2.2.2.2.1
theorem dX8_givesNow_41 : decode cX8_givesNow 41 = .ok (.invokestatic 153, 3) := dX8_givesNow_22_b.2.2.2.2.2.2.2.2.2.2.2
theorem dX8_givesNow_44_b : (decode cX8_givesNow 44 = .ok (.bipush 12, 2)) ∧ (decode cX8_givesNow 46 = .ok (.if_icmp .lt 7, 3)) ∧ (decode cX8_givesNow 49 = .ok (.iconst 1, 1)) ∧ (decode cX8_givesNow 50 = .ok (.goto 4, 3)) ∧ (decode cX8_givesNow 53 = .ok (.iconst 0, 1)) ∧ (decode cX8_givesNow 54 = .ok (.istore_n 2, 1)) ∧ (decode cX8_givesNow 55 = .ok (.iload_n 2, 1)) ∧ (decode cX8_givesNow 56 = .ok (.ifCond .eq 7, 3)) ∧ (decode cX8_givesNow 59 = .ok (.iconst 0, 1)) ∧ (decode cX8_givesNow 60 = .ok (.goto 11, 3)) ∧ (decode cX8_givesNow 63 = .ok (.aload_n 0, 1)) ∧ (decode cX8_givesNow 64 = .ok (.getfield 25, 3)) := by decide +kernel
theorem dX8_givesNow_44 : decode cX8_givesNow 44 = .ok (.bipush 12, 2) := dX8_givesNow_44_b.1
theorem dX8_givesNow_46 : decode cX8_givesNow 46 = .ok (.if_icmp .lt 7, 3) := dX8_givesNow_44_b.2.1
theorem dX8_givesNow_49 : decode cX8_givesNow 49 = .ok (.iconst 1, 1) := dX8_givesNow_44_b.2.2.1
theorem dX8_givesNow_50 : decode cX8_givesNow 50 = .ok (.goto 4, 3) := dX8_givesNow_44_b.2.2.2.1
theorem dX8_givesNow_53 : decode cX8_givesNow 53 = .ok (.iconst 0, 1) := dX8_givesNow_44_b.2.2.2.2.1
theorem dX8_givesNow_54 : decode cX8_givesNow 54 = .ok (.istore_n 2, 1) := dX8_givesNow_44_b.2.2.2.2.2.1
theorem dX8_givesNow_55 : decode cX8_givesNow 55 = .ok (.iload_n 2, 1) := dX8_givesNow_44_b.2.2.2.2.2.2.1
theorem dX8_givesNow_56 : decode cX8_givesNow 56 = .ok (.ifCond .eq 7, 3) := dX8_givesNow_44_b.2.2.2.2.2.2.2.1
theorem dX8_givesNow_59 : decode cX8_givesNow 59 = .ok (.iconst 0, 1) := dX8_givesNow_44_b.2.2.2.2.2.2.2.2.1
theorem dX8_givesNow_60 : decode cX8_givesNow 60 = .ok (.goto 11, 3) := dX8_givesNow_44_b.2.2.2.2.2.2.2.2.2.1
theorem dX8_givesNow_63 : decode cX8_givesNow 63 = .ok (.aload_n 0, 1) := dX8_givesNow_44_b.2.2.2.2.2.2.2.2.2.2.1
theorem dX8_givesNow_64 : decode cX8_givesNow 64 = .ok (.getfield 25, 3) := dX8_givesNow_44_b.2.2.2.2.2.2.2.2.2.2.2
theorem dX8_givesNow_67_b : (decode cX8_givesNow 67 = .ok (.iload_n 1, 1)) ∧ (decode cX8_givesNow 68 = .ok (.invokestatic 149, 3)) ∧ (decode cX8_givesNow 71 = .ok (.ireturn, 1)) := by decide +kernel
theorem dX8_givesNow_67 : decode cX8_givesNow 67 = .ok (.iload_n 1, 1) := dX8_givesNow_67_b.1
theorem dX8_givesNow_68 : decode cX8_givesNow 68 = .ok (.invokestatic 149, 3) := dX8_givesNow_67_b.2.1
theorem dX8_givesNow_71 : decode cX8_givesNow 71 = .ok (.ireturn, 1) := dX8_givesNow_67_b.2.2
theorem dX8_ear_0_b : (decode cX8_ear 0 = .ok (.aload_n 0, 1)) ∧ (decode cX8_ear 1 = .ok (.iload_n 1, 1)) ∧ (decode cX8_ear 2 = .ok (.invokevirtual 178, 3)) ∧ (decode cX8_ear 5 = .ok (.ifCond .ne 6, 3)) ∧ (decode cX8_ear 8 = .ok (.ldc 64, 2)) ∧ (decode cX8_ear 10 = .ok (.ireturn, 1)) ∧ (decode cX8_ear 11 = .ok (.bipush 6, 2)) ∧ (decode cX8_ear 13 = .ok (.bipush 7, 2)) ∧ (decode cX8_ear 15 = .ok (.iload_n 1, 1)) ∧ (decode cX8_ear 16 = .ok (.imul, 1)) ∧ (decode cX8_ear 17 = .ok (.iadd, 1)) ∧ (decode cX8_ear 18 = .ok (.istore_n 3, 1)) := by decide +kernel
theorem dX8_ear_0 : decode cX8_ear 0 = .ok (.aload_n 0, 1) := dX8_ear_0_b.1
theorem dX8_ear_1 : decode cX8_ear 1 = .ok (.iload_n 1, 1) := dX8_ear_0_b.2.1
theorem dX8_ear_2 : decode cX8_ear 2 = .ok (.invokevirtual 178, 3) := dX8_ear_0_b.2.2.1
theorem dX8_ear_5 : decode cX8_ear 5 = .ok (.ifCond .ne 6, 3) := dX8_ear_0_b.2.2.2.1
theorem dX8_ear_8 : decode cX8_ear 8 = .ok (.ldc 64, 2) := dX8_ear_0_b.2.2.2.2.1
theorem dX8_ear_10 : decode cX8_ear 10 = .ok (.ireturn, 1) := dX8_ear_0_b.2.2.2.2.2.1
theorem dX8_ear_11 : decode cX8_ear 11 = .ok (.bipush 6, 2) := dX8_ear_0_b.2.2.2.2.2.2.1
theorem dX8_ear_13 : decode cX8_ear 13 = .ok (.bipush 7, 2) := dX8_ear_0_b.2.2.2.2.2.2.2.1
theorem dX8_ear_15 : decode cX8_ear 15 = .ok (.iload_n 1, 1) := dX8_ear_0_b.2.2.2.2.2.2.2.2.1
theorem dX8_ear_16 : decode cX8_ear 16 = .ok (.imul, 1) := dX8_ear_0_b.2.2.2.2.2.2.2.2.2.1
theorem dX8_ear_17 : decode cX8_ear 17 = .ok (.iadd, 1) := dX8_ear_0_b.2.2.2.2.2.2.2.2.2.2.1
theorem dX8_ear_18 : decode cX8_ear 18 = .ok (.istore_n 3, 1) := dX8_ear_0_b.2.2.2.2.2.2.2.2.2.2.2
theorem dX8_ear_19_b : (decode cX8_ear 19 = .ok (.iload_n 2, 1)) ∧ (decode cX8_ear 20 = .ok (.tableswitch 100 0 5 #[40, 49, 58, 67, 84, 90], 40)) ∧ (decode cX8_ear 60 = .ok (.aload_n 0, 1)) ∧ (decode cX8_ear 61 = .ok (.getfield 25, 3)) ∧ (decode cX8_ear 64 = .ok (.iload_n 3, 1)) ∧ (decode cX8_ear 65 = .ok (.iconst 1, 1)) ∧ (decode cX8_ear 66 = .ok (.iadd, 1)) ∧ (decode cX8_ear 67 = .ok (.iaload, 1)) ∧ (decode cX8_ear 68 = .ok (.ireturn, 1)) ∧ (decode cX8_ear 69 = .ok (.aload_n 0, 1)) ∧ (decode cX8_ear 70 = .ok (.getfield 25, 3)) ∧ (decode cX8_ear 73 = .ok (.iload_n 3, 1)) := by decide +kernel
theorem dX8_ear_19 : decode cX8_ear 19 = .ok (.iload_n 2, 1) := dX8_ear_19_b.1
theorem dX8_ear_20 : decode cX8_ear 20 = .ok (.tableswitch 100 0 5 #[40, 49, 58, 67, 84, 90], 40) := dX8_ear_19_b.2.1
theorem dX8_ear_60 : decode cX8_ear 60 = .ok (.aload_n 0, 1) := dX8_ear_19_b.2.2.1
theorem dX8_ear_61 : decode cX8_ear 61 = .ok (.getfield 25, 3) := dX8_ear_19_b.2.2.2.1
theorem dX8_ear_64 : decode cX8_ear 64 = .ok (.iload_n 3, 1) := dX8_ear_19_b.2.2.2.2.1
theorem dX8_ear_65 : decode cX8_ear 65 = .ok (.iconst 1, 1) := dX8_ear_19_b.2.2.2.2.2.1
theorem dX8_ear_66 : decode cX8_ear 66 = .ok (.iadd, 1) := dX8_ear_19_b.2.2.2.2.2.2.1
theorem dX8_ear_67 : decode cX8_ear 67 = .ok (.iaload, 1) := dX8_ear_19_b.2.2.2.2.2.2.2.1
theorem dX8_ear_68 : decode cX8_ear 68 = .ok (.ireturn, 1) := dX8_ear_19_b.2.2.2.2.2.2.2.2.1
theorem dX8_ear_69 : decode cX8_ear 69 = .ok (.aload_n 0, 1) := dX8_ear_19_b.2.2.2.2.2.2.2.2.2.1
theorem dX8_ear_70 : decode cX8_ear 70 = .ok (.getfield 25, 3) := dX8_ear_19_b.2.2.2.2.2.2.2.2.2.2.1
theorem dX8_ear_73 : decode cX8_ear 73 = .ok (.iload_n 3, 1) := dX8_ear_19_b.2.2.2.2.2.2.2.2.2.2.2
theorem dX8_ear_74_b : (decode cX8_ear 74 = .ok (.iconst 2, 1)) ∧ (decode cX8_ear 75 = .ok (.iadd, 1)) ∧ (decode cX8_ear 76 = .ok (.iaload, 1)) ∧ (decode cX8_ear 77 = .ok (.ireturn, 1)) ∧ (decode cX8_ear 78 = .ok (.aload_n 0, 1)) ∧ (decode cX8_ear 79 = .ok (.getfield 25, 3)) ∧ (decode cX8_ear 82 = .ok (.iload_n 3, 1)) ∧ (decode cX8_ear 83 = .ok (.iconst 5, 1)) ∧ (decode cX8_ear 84 = .ok (.iadd, 1)) ∧ (decode cX8_ear 85 = .ok (.iaload, 1)) ∧ (decode cX8_ear 86 = .ok (.ireturn, 1)) ∧ (decode cX8_ear 87 = .ok (.aload_n 0, 1)) := by decide +kernel
theorem dX8_ear_74 : decode cX8_ear 74 = .ok (.iconst 2, 1) := dX8_ear_74_b.1
theorem dX8_ear_75 : decode cX8_ear 75 = .ok (.iadd, 1) := dX8_ear_74_b.2.1
theorem dX8_ear_76 : decode cX8_ear 76 = .ok (.iaload, 1) := dX8_ear_74_b.2.2.1
theorem dX8_ear_77 : decode cX8_ear 77 = .ok (.ireturn, 1) := dX8_ear_74_b.2.2.2.1
theorem dX8_ear_78 : decode cX8_ear 78 = .ok (.aload_n 0, 1) := dX8_ear_74_b.2.2.2.2.1
theorem dX8_ear_79 : decode cX8_ear 79 = .ok (.getfield 25, 3) := dX8_ear_74_b.2.2.2.2.2.1
theorem dX8_ear_82 : decode cX8_ear 82 = .ok (.iload_n 3, 1) := dX8_ear_74_b.2.2.2.2.2.2.1
theorem dX8_ear_83 : decode cX8_ear 83 = .ok (.iconst 5, 1) := dX8_ear_74_b.2.2.2.2.2.2.2.1
theorem dX8_ear_84 : decode cX8_ear 84 = .ok (.iadd, 1) := dX8_ear_74_b.2.2.2.2.2.2.2.2.1
theorem dX8_ear_85 : decode cX8_ear 85 = .ok (.iaload, 1) := dX8_ear_74_b.2.2.2.2.2.2.2.2.2.1
theorem dX8_ear_86 : decode cX8_ear 86 = .ok (.ireturn, 1) := dX8_ear_74_b.2.2.2.2.2.2.2.2.2.2.1
theorem dX8_ear_87 : decode cX8_ear 87 = .ok (.aload_n 0, 1) := dX8_ear_74_b.2.2.2.2.2.2.2.2.2.2.2
theorem dX8_ear_88_b : (decode cX8_ear 88 = .ok (.getfield 25, 3)) ∧ (decode cX8_ear 91 = .ok (.iload_n 1, 1)) ∧ (decode cX8_ear 92 = .ok (.invokestatic 141, 3)) ∧ (decode cX8_ear 95 = .ok (.ifCond .eq 7, 3)) ∧ (decode cX8_ear 98 = .ok (.iconst 1, 1)) ∧ (decode cX8_ear 99 = .ok (.goto 4, 3)) ∧ (decode cX8_ear 102 = .ok (.iconst 0, 1)) ∧ (decode cX8_ear 103 = .ok (.ireturn, 1)) ∧ (decode cX8_ear 104 = .ok (.aload_n 0, 1)) ∧ (decode cX8_ear 105 = .ok (.iload_n 1, 1)) ∧ (decode cX8_ear 106 = .ok (.invokevirtual 185, 3)) ∧ (decode cX8_ear 109 = .ok (.ireturn, 1)) := by decide +kernel
theorem dX8_ear_88 : decode cX8_ear 88 = .ok (.getfield 25, 3) := dX8_ear_88_b.1
theorem dX8_ear_91 : decode cX8_ear 91 = .ok (.iload_n 1, 1) := dX8_ear_88_b.2.1
theorem dX8_ear_92 : decode cX8_ear 92 = .ok (.invokestatic 141, 3) := dX8_ear_88_b.2.2.1
theorem dX8_ear_95 : decode cX8_ear 95 = .ok (.ifCond .eq 7, 3) := dX8_ear_88_b.2.2.2.1
theorem dX8_ear_98 : decode cX8_ear 98 = .ok (.iconst 1, 1) := dX8_ear_88_b.2.2.2.2.1
theorem dX8_ear_99 : decode cX8_ear 99 = .ok (.goto 4, 3) := dX8_ear_88_b.2.2.2.2.2.1
theorem dX8_ear_102 : decode cX8_ear 102 = .ok (.iconst 0, 1) := dX8_ear_88_b.2.2.2.2.2.2.1
theorem dX8_ear_103 : decode cX8_ear 103 = .ok (.ireturn, 1) := dX8_ear_88_b.2.2.2.2.2.2.2.1
theorem dX8_ear_104 : decode cX8_ear 104 = .ok (.aload_n 0, 1) := dX8_ear_88_b.2.2.2.2.2.2.2.2.1
theorem dX8_ear_105 : decode cX8_ear 105 = .ok (.iload_n 1, 1) := dX8_ear_88_b.2.2.2.2.2.2.2.2.2.1
theorem dX8_ear_106 : decode cX8_ear 106 = .ok (.invokevirtual 185, 3) := dX8_ear_88_b.2.2.2.2.2.2.2.2.2.2.1
theorem dX8_ear_109 : decode cX8_ear 109 = .ok (.ireturn, 1) := dX8_ear_88_b.2.2.2.2.2.2.2.2.2.2.2
theorem dX8_ear_110_b : (decode cX8_ear 110 = .ok (.aload_n 0, 1)) ∧ (decode cX8_ear 111 = .ok (.getfield 25, 3)) ∧ (decode cX8_ear 114 = .ok (.iload_n 3, 1)) ∧ (decode cX8_ear 115 = .ok (.bipush 6, 2)) ∧ (decode cX8_ear 117 = .ok (.iadd, 1)) ∧ (decode cX8_ear 118 = .ok (.iaload, 1)) ∧ (decode cX8_ear 119 = .ok (.ireturn, 1)) ∧ (decode cX8_ear 120 = .ok (.ldc 64, 2)) ∧ (decode cX8_ear 122 = .ok (.ireturn, 1)) := by decide +kernel
theorem dX8_ear_110 : decode cX8_ear 110 = .ok (.aload_n 0, 1) := dX8_ear_110_b.1
theorem dX8_ear_111 : decode cX8_ear 111 = .ok (.getfield 25, 3) := dX8_ear_110_b.2.1
theorem dX8_ear_114 : decode cX8_ear 114 = .ok (.iload_n 3, 1) := dX8_ear_110_b.2.2.1
theorem dX8_ear_115 : decode cX8_ear 115 = .ok (.bipush 6, 2) := dX8_ear_110_b.2.2.2.1
theorem dX8_ear_117 : decode cX8_ear 117 = .ok (.iadd, 1) := dX8_ear_110_b.2.2.2.2.1
theorem dX8_ear_118 : decode cX8_ear 118 = .ok (.iaload, 1) := dX8_ear_110_b.2.2.2.2.2.1
theorem dX8_ear_119 : decode cX8_ear 119 = .ok (.ireturn, 1) := dX8_ear_110_b.2.2.2.2.2.2.1
theorem dX8_ear_120 : decode cX8_ear 120 = .ok (.ldc 64, 2) := dX8_ear_110_b.2.2.2.2.2.2.2.1
theorem dX8_ear_122 : decode cX8_ear 122 = .ok (.ireturn, 1) := dX8_ear_110_b.2.2.2.2.2.2.2.2
theorem dX8_clock_0_b : (decode cX8_clock 0 = .ok (.aload_n 0, 1)) ∧ (decode cX8_clock 1 = .ok (.invokevirtual 171, 3)) ∧ (decode cX8_clock 4 = .ok (.ifCond .ne 6, 3)) ∧ (decode cX8_clock 7 = .ok (.ldc 174, 2)) ∧ (decode cX8_clock 9 = .ok (.ireturn, 1)) ∧ (decode cX8_clock 10 = .ok (.iload_n 1, 1)) ∧ (decode cX8_clock 11 = .ok (.tableswitch 61 0 3 #[29, 36, 46, 54], 29)) ∧ (decode cX8_clock 40 = .ok (.aload_n 0, 1)) ∧ (decode cX8_clock 41 = .ok (.getfield 25, 3)) ∧ (decode cX8_clock 44 = .ok (.iconst 3, 1)) ∧ (decode cX8_clock 45 = .ok (.iaload, 1)) ∧ (decode cX8_clock 46 = .ok (.ireturn, 1)) := by decide +kernel
theorem dX8_clock_0 : decode cX8_clock 0 = .ok (.aload_n 0, 1) := dX8_clock_0_b.1
theorem dX8_clock_1 : decode cX8_clock 1 = .ok (.invokevirtual 171, 3) := dX8_clock_0_b.2.1
theorem dX8_clock_4 : decode cX8_clock 4 = .ok (.ifCond .ne 6, 3) := dX8_clock_0_b.2.2.1
theorem dX8_clock_7 : decode cX8_clock 7 = .ok (.ldc 174, 2) := dX8_clock_0_b.2.2.2.1
theorem dX8_clock_9 : decode cX8_clock 9 = .ok (.ireturn, 1) := dX8_clock_0_b.2.2.2.2.1
theorem dX8_clock_10 : decode cX8_clock 10 = .ok (.iload_n 1, 1) := dX8_clock_0_b.2.2.2.2.2.1
theorem dX8_clock_11 : decode cX8_clock 11 = .ok (.tableswitch 61 0 3 #[29, 36, 46, 54], 29) := dX8_clock_0_b.2.2.2.2.2.2.1
theorem dX8_clock_40 : decode cX8_clock 40 = .ok (.aload_n 0, 1) := dX8_clock_0_b.2.2.2.2.2.2.2.1
theorem dX8_clock_41 : decode cX8_clock 41 = .ok (.getfield 25, 3) := dX8_clock_0_b.2.2.2.2.2.2.2.2.1
theorem dX8_clock_44 : decode cX8_clock 44 = .ok (.iconst 3, 1) := dX8_clock_0_b.2.2.2.2.2.2.2.2.2.1
theorem dX8_clock_45 : decode cX8_clock 45 = .ok (.iaload, 1) := dX8_clock_0_b.2.2.2.2.2.2.2.2.2.2.1
theorem dX8_clock_46 : decode cX8_clock 46 = .ok (.ireturn, 1) := dX8_clock_0_b.2.2.2.2.2.2.2.2.2.2.2
theorem dX8_clock_47_b : (decode cX8_clock 47 = .ok (.aload_n 0, 1)) ∧ (decode cX8_clock 48 = .ok (.getfield 25, 3)) ∧ (decode cX8_clock 51 = .ok (.iconst 3, 1)) ∧ (decode cX8_clock 52 = .ok (.iaload, 1)) ∧ (decode cX8_clock 53 = .ok (.bipush 12, 2)) ∧ (decode cX8_clock 55 = .ok (.idiv, 1)) ∧ (decode cX8_clock 56 = .ok (.ireturn, 1)) ∧ (decode cX8_clock 57 = .ok (.aload_n 0, 1)) ∧ (decode cX8_clock 58 = .ok (.getfield 25, 3)) ∧ (decode cX8_clock 61 = .ok (.invokestatic 164, 3)) ∧ (decode cX8_clock 64 = .ok (.ireturn, 1)) ∧ (decode cX8_clock 65 = .ok (.aload_n 0, 1)) := by decide +kernel
theorem dX8_clock_47 : decode cX8_clock 47 = .ok (.aload_n 0, 1) := dX8_clock_47_b.1
theorem dX8_clock_48 : decode cX8_clock 48 = .ok (.getfield 25, 3) := dX8_clock_47_b.2.1
theorem dX8_clock_51 : decode cX8_clock 51 = .ok (.iconst 3, 1) := dX8_clock_47_b.2.2.1
theorem dX8_clock_52 : decode cX8_clock 52 = .ok (.iaload, 1) := dX8_clock_47_b.2.2.2.1
theorem dX8_clock_53 : decode cX8_clock 53 = .ok (.bipush 12, 2) := dX8_clock_47_b.2.2.2.2.1
theorem dX8_clock_55 : decode cX8_clock 55 = .ok (.idiv, 1) := dX8_clock_47_b.2.2.2.2.2.1
theorem dX8_clock_56 : decode cX8_clock 56 = .ok (.ireturn, 1) := dX8_clock_47_b.2.2.2.2.2.2.1
theorem dX8_clock_57 : decode cX8_clock 57 = .ok (.aload_n 0, 1) := dX8_clock_47_b.2.2.2.2.2.2.2.1
theorem dX8_clock_58 : decode cX8_clock 58 = .ok (.getfield 25, 3) := dX8_clock_47_b.2.2.2.2.2.2.2.2.1
theorem dX8_clock_61 : decode cX8_clock 61 = .ok (.invokestatic 164, 3) := dX8_clock_47_b.2.2.2.2.2.2.2.2.2.1
theorem dX8_clock_64 : decode cX8_clock 64 = .ok (.ireturn, 1) := dX8_clock_47_b.2.2.2.2.2.2.2.2.2.2.1
theorem dX8_clock_65 : decode cX8_clock 65 = .ok (.aload_n 0, 1) := dX8_clock_47_b.2.2.2.2.2.2.2.2.2.2.2
theorem dX8_clock_66_b : (decode cX8_clock 66 = .ok (.getfield 25, 3)) ∧ (decode cX8_clock 69 = .ok (.iconst 1, 1)) ∧ (decode cX8_clock 70 = .ok (.iaload, 1)) ∧ (decode cX8_clock 71 = .ok (.ireturn, 1)) ∧ (decode cX8_clock 72 = .ok (.ldc 64, 2)) ∧ (decode cX8_clock 74 = .ok (.ireturn, 1)) := by decide +kernel
theorem dX8_clock_66 : decode cX8_clock 66 = .ok (.getfield 25, 3) := dX8_clock_66_b.1
theorem dX8_clock_69 : decode cX8_clock 69 = .ok (.iconst 1, 1) := dX8_clock_66_b.2.1
theorem dX8_clock_70 : decode cX8_clock 70 = .ok (.iaload, 1) := dX8_clock_66_b.2.2.1
theorem dX8_clock_71 : decode cX8_clock 71 = .ok (.ireturn, 1) := dX8_clock_66_b.2.2.2.1
theorem dX8_clock_72 : decode cX8_clock 72 = .ok (.ldc 64, 2) := dX8_clock_66_b.2.2.2.2.1
theorem dX8_clock_74 : decode cX8_clock 74 = .ok (.ireturn, 1) := dX8_clock_66_b.2.2.2.2.2
theorem dX8_ahead_0_b : (decode cX8_ahead 0 = .ok (.aload_n 0, 1)) ∧ (decode cX8_ahead 1 = .ok (.invokevirtual 171, 3)) ∧ (decode cX8_ahead 4 = .ok (.ifCond .ne 6, 3)) ∧ (decode cX8_ahead 7 = .ok (.ldc 174, 2)) ∧ (decode cX8_ahead 9 = .ok (.ireturn, 1)) ∧ (decode cX8_ahead 10 = .ok (.iload_n 1, 1)) ∧ (decode cX8_ahead 11 = .ok (.iconst 0, 1)) ∧ (decode cX8_ahead 12 = .ok (.bipush 99, 2)) ∧ (decode cX8_ahead 14 = .ok (.invokestatic 56, 3)) ∧ (decode cX8_ahead 17 = .ok (.ifCond .ne 6, 3)) ∧ (decode cX8_ahead 20 = .ok (.ldc 64, 2)) ∧ (decode cX8_ahead 22 = .ok (.ireturn, 1)) := by decide +kernel
theorem dX8_ahead_0 : decode cX8_ahead 0 = .ok (.aload_n 0, 1) := dX8_ahead_0_b.1
theorem dX8_ahead_1 : decode cX8_ahead 1 = .ok (.invokevirtual 171, 3) := dX8_ahead_0_b.2.1
theorem dX8_ahead_4 : decode cX8_ahead 4 = .ok (.ifCond .ne 6, 3) := dX8_ahead_0_b.2.2.1
theorem dX8_ahead_7 : decode cX8_ahead 7 = .ok (.ldc 174, 2) := dX8_ahead_0_b.2.2.2.1
theorem dX8_ahead_9 : decode cX8_ahead 9 = .ok (.ireturn, 1) := dX8_ahead_0_b.2.2.2.2.1
theorem dX8_ahead_10 : decode cX8_ahead 10 = .ok (.iload_n 1, 1) := dX8_ahead_0_b.2.2.2.2.2.1
theorem dX8_ahead_11 : decode cX8_ahead 11 = .ok (.iconst 0, 1) := dX8_ahead_0_b.2.2.2.2.2.2.1
theorem dX8_ahead_12 : decode cX8_ahead 12 = .ok (.bipush 99, 2) := dX8_ahead_0_b.2.2.2.2.2.2.2.1
theorem dX8_ahead_14 : decode cX8_ahead 14 = .ok (.invokestatic 56, 3) := dX8_ahead_0_b.2.2.2.2.2.2.2.2.1
theorem dX8_ahead_17 : decode cX8_ahead 17 = .ok (.ifCond .ne 6, 3) := dX8_ahead_0_b.2.2.2.2.2.2.2.2.2.1
theorem dX8_ahead_20 : decode cX8_ahead 20 = .ok (.ldc 64, 2) := dX8_ahead_0_b.2.2.2.2.2.2.2.2.2.2.1
theorem dX8_ahead_22 : decode cX8_ahead 22 = .ok (.ireturn, 1) := dX8_ahead_0_b.2.2.2.2.2.2.2.2.2.2.2
theorem dX8_ahead_23_b : (decode cX8_ahead 23 = .ok (.aload_n 0, 1)) ∧ (decode cX8_ahead 24 = .ok (.getfield 25, 3)) ∧ (decode cX8_ahead 27 = .ok (.iconst 0, 1)) ∧ (decode cX8_ahead 28 = .ok (.aload_n 0, 1)) ∧ (decode cX8_ahead 29 = .ok (.getfield 41, 3)) ∧ (decode cX8_ahead 32 = .ok (.iconst 0, 1)) ∧ (decode cX8_ahead 33 = .ok (.invokestatic 134, 3)) ∧ (decode cX8_ahead 36 = .ok (.aload_n 0, 1)) ∧ (decode cX8_ahead 37 = .ok (.iload_n 1, 1)) ∧ (decode cX8_ahead 38 = .ok (.invokevirtual 188, 3)) ∧ (decode cX8_ahead 41 = .ok (.ireturn, 1)) := by decide +kernel
theorem dX8_ahead_23 : decode cX8_ahead 23 = .ok (.aload_n 0, 1) := dX8_ahead_23_b.1
theorem dX8_ahead_24 : decode cX8_ahead 24 = .ok (.getfield 25, 3) := dX8_ahead_23_b.2.1
theorem dX8_ahead_27 : decode cX8_ahead 27 = .ok (.iconst 0, 1) := dX8_ahead_23_b.2.2.1
theorem dX8_ahead_28 : decode cX8_ahead 28 = .ok (.aload_n 0, 1) := dX8_ahead_23_b.2.2.2.1
theorem dX8_ahead_29 : decode cX8_ahead 29 = .ok (.getfield 41, 3) := dX8_ahead_23_b.2.2.2.2.1
theorem dX8_ahead_32 : decode cX8_ahead 32 = .ok (.iconst 0, 1) := dX8_ahead_23_b.2.2.2.2.2.1
theorem dX8_ahead_33 : decode cX8_ahead 33 = .ok (.invokestatic 134, 3) := dX8_ahead_23_b.2.2.2.2.2.2.1
theorem dX8_ahead_36 : decode cX8_ahead 36 = .ok (.aload_n 0, 1) := dX8_ahead_23_b.2.2.2.2.2.2.2.1
theorem dX8_ahead_37 : decode cX8_ahead 37 = .ok (.iload_n 1, 1) := dX8_ahead_23_b.2.2.2.2.2.2.2.2.1
theorem dX8_ahead_38 : decode cX8_ahead 38 = .ok (.invokevirtual 188, 3) := dX8_ahead_23_b.2.2.2.2.2.2.2.2.2.1
theorem dX8_ahead_41 : decode cX8_ahead 41 = .ok (.ireturn, 1) := dX8_ahead_23_b.2.2.2.2.2.2.2.2.2.2
theorem dX8_lays_0_b : (decode cX8_lays 0 = .ok (.aload_n 0, 1)) ∧ (decode cX8_lays 1 = .ok (.getfield 25, 3)) ∧ (decode cX8_lays 4 = .ok (.iconst 0, 1)) ∧ (decode cX8_lays 5 = .ok (.aload_n 0, 1)) ∧ (decode cX8_lays 6 = .ok (.getfield 41, 3)) ∧ (decode cX8_lays 9 = .ok (.iconst 0, 1)) ∧ (decode cX8_lays 10 = .ok (.invokestatic 134, 3)) ∧ (decode cX8_lays 13 = .ok (.aload_n 0, 1)) ∧ (decode cX8_lays 14 = .ok (.getfield 44, 3)) ∧ (decode cX8_lays 17 = .ok (.iconst 0, 1)) ∧ (decode cX8_lays 18 = .ok (.aload_n 0, 1)) ∧ (decode cX8_lays 19 = .ok (.getfield 25, 3)) := by decide +kernel
theorem dX8_lays_0 : decode cX8_lays 0 = .ok (.aload_n 0, 1) := dX8_lays_0_b.1
theorem dX8_lays_1 : decode cX8_lays 1 = .ok (.getfield 25, 3) := dX8_lays_0_b.2.1
theorem dX8_lays_4 : decode cX8_lays 4 = .ok (.iconst 0, 1) := dX8_lays_0_b.2.2.1
theorem dX8_lays_5 : decode cX8_lays 5 = .ok (.aload_n 0, 1) := dX8_lays_0_b.2.2.2.1
theorem dX8_lays_6 : decode cX8_lays 6 = .ok (.getfield 41, 3) := dX8_lays_0_b.2.2.2.2.1
theorem dX8_lays_9 : decode cX8_lays 9 = .ok (.iconst 0, 1) := dX8_lays_0_b.2.2.2.2.2.1
theorem dX8_lays_10 : decode cX8_lays 10 = .ok (.invokestatic 134, 3) := dX8_lays_0_b.2.2.2.2.2.2.1
theorem dX8_lays_13 : decode cX8_lays 13 = .ok (.aload_n 0, 1) := dX8_lays_0_b.2.2.2.2.2.2.2.1
theorem dX8_lays_14 : decode cX8_lays 14 = .ok (.getfield 44, 3) := dX8_lays_0_b.2.2.2.2.2.2.2.2.1
theorem dX8_lays_17 : decode cX8_lays 17 = .ok (.iconst 0, 1) := dX8_lays_0_b.2.2.2.2.2.2.2.2.2.1
theorem dX8_lays_18 : decode cX8_lays 18 = .ok (.aload_n 0, 1) := dX8_lays_0_b.2.2.2.2.2.2.2.2.2.2.1
theorem dX8_lays_19 : decode cX8_lays 19 = .ok (.getfield 25, 3) := dX8_lays_0_b.2.2.2.2.2.2.2.2.2.2.2
theorem dX8_lays_22_b : (decode cX8_lays 22 = .ok (.iconst 3, 1)) ∧ (decode cX8_lays 23 = .ok (.iaload, 1)) ∧ (decode cX8_lays 24 = .ok (.iastore, 1)) ∧ (decode cX8_lays 25 = .ok (.iconst 1, 1)) ∧ (decode cX8_lays 26 = .ok (.istore_n 1, 1)) ∧ (decode cX8_lays 27 = .ok (.iload_n 1, 1)) ∧ (decode cX8_lays 28 = .ok (.bipush 100, 2)) ∧ (decode cX8_lays 30 = .ok (.if_icmp .ge 20, 3)) ∧ (decode cX8_lays 33 = .ok (.aload_n 0, 1)) ∧ (decode cX8_lays 34 = .ok (.getfield 44, 3)) ∧ (decode cX8_lays 37 = .ok (.iload_n 1, 1)) ∧ (decode cX8_lays 38 = .ok (.aload_n 0, 1)) := by decide +kernel
theorem dX8_lays_22 : decode cX8_lays 22 = .ok (.iconst 3, 1) := dX8_lays_22_b.1
theorem dX8_lays_23 : decode cX8_lays 23 = .ok (.iaload, 1) := dX8_lays_22_b.2.1
theorem dX8_lays_24 : decode cX8_lays 24 = .ok (.iastore, 1) := dX8_lays_22_b.2.2.1
theorem dX8_lays_25 : decode cX8_lays 25 = .ok (.iconst 1, 1) := dX8_lays_22_b.2.2.2.1
theorem dX8_lays_26 : decode cX8_lays 26 = .ok (.istore_n 1, 1) := dX8_lays_22_b.2.2.2.2.1
theorem dX8_lays_27 : decode cX8_lays 27 = .ok (.iload_n 1, 1) := dX8_lays_22_b.2.2.2.2.2.1
theorem dX8_lays_28 : decode cX8_lays 28 = .ok (.bipush 100, 2) := dX8_lays_22_b.2.2.2.2.2.2.1
theorem dX8_lays_30 : decode cX8_lays 30 = .ok (.if_icmp .ge 20, 3) := dX8_lays_22_b.2.2.2.2.2.2.2.1
theorem dX8_lays_33 : decode cX8_lays 33 = .ok (.aload_n 0, 1) := dX8_lays_22_b.2.2.2.2.2.2.2.2.1
theorem dX8_lays_34 : decode cX8_lays 34 = .ok (.getfield 44, 3) := dX8_lays_22_b.2.2.2.2.2.2.2.2.2.1
theorem dX8_lays_37 : decode cX8_lays 37 = .ok (.iload_n 1, 1) := dX8_lays_22_b.2.2.2.2.2.2.2.2.2.2.1
theorem dX8_lays_38 : decode cX8_lays 38 = .ok (.aload_n 0, 1) := dX8_lays_22_b.2.2.2.2.2.2.2.2.2.2.2
theorem dX8_lays_39_b : (decode cX8_lays 39 = .ok (.iconst 1, 1)) ∧ (decode cX8_lays 40 = .ok (.invokevirtual 188, 3)) ∧ (decode cX8_lays 43 = .ok (.iastore, 1)) ∧ (decode cX8_lays 44 = .ok (.iinc 1 1, 3)) ∧ (decode cX8_lays 47 = .ok (.goto (-20), 3)) ∧ (decode cX8_lays 50 = .ok (.return_, 1)) := by decide +kernel
theorem dX8_lays_39 : decode cX8_lays 39 = .ok (.iconst 1, 1) := dX8_lays_39_b.1
theorem dX8_lays_40 : decode cX8_lays 40 = .ok (.invokevirtual 188, 3) := dX8_lays_39_b.2.1
theorem dX8_lays_43 : decode cX8_lays 43 = .ok (.iastore, 1) := dX8_lays_39_b.2.2.1
theorem dX8_lays_44 : decode cX8_lays 44 = .ok (.iinc 1 1, 3) := dX8_lays_39_b.2.2.2.1
theorem dX8_lays_47 : decode cX8_lays 47 = .ok (.goto (-20), 3) := dX8_lays_39_b.2.2.2.2.1
theorem dX8_lays_50 : decode cX8_lays 50 = .ok (.return_, 1) := dX8_lays_39_b.2.2.2.2.2
theorem dX8_whenShows_0_b : (decode cX8_whenShows 0 = .ok (.aload_n 0, 1)) ∧ (decode cX8_whenShows 1 = .ok (.invokevirtual 171, 3)) ∧ (decode cX8_whenShows 4 = .ok (.ifCond .ne 6, 3)) ∧ (decode cX8_whenShows 7 = .ok (.ldc 174, 2)) ∧ (decode cX8_whenShows 9 = .ok (.ireturn, 1)) ∧ (decode cX8_whenShows 10 = .ok (.iload_n 1, 1)) ∧ (decode cX8_whenShows 11 = .ok (.iconst 0, 1)) ∧ (decode cX8_whenShows 12 = .ok (.sipush 999, 3)) ∧ (decode cX8_whenShows 15 = .ok (.invokestatic 56, 3)) ∧ (decode cX8_whenShows 18 = .ok (.ifCond .ne 6, 3)) ∧ (decode cX8_whenShows 21 = .ok (.ldc 64, 2)) ∧ (decode cX8_whenShows 23 = .ok (.ireturn, 1)) := by decide +kernel
theorem dX8_whenShows_0 : decode cX8_whenShows 0 = .ok (.aload_n 0, 1) := dX8_whenShows_0_b.1
theorem dX8_whenShows_1 : decode cX8_whenShows 1 = .ok (.invokevirtual 171, 3) := dX8_whenShows_0_b.2.1
theorem dX8_whenShows_4 : decode cX8_whenShows 4 = .ok (.ifCond .ne 6, 3) := dX8_whenShows_0_b.2.2.1
theorem dX8_whenShows_7 : decode cX8_whenShows 7 = .ok (.ldc 174, 2) := dX8_whenShows_0_b.2.2.2.1
theorem dX8_whenShows_9 : decode cX8_whenShows 9 = .ok (.ireturn, 1) := dX8_whenShows_0_b.2.2.2.2.1
theorem dX8_whenShows_10 : decode cX8_whenShows 10 = .ok (.iload_n 1, 1) := dX8_whenShows_0_b.2.2.2.2.2.1
theorem dX8_whenShows_11 : decode cX8_whenShows 11 = .ok (.iconst 0, 1) := dX8_whenShows_0_b.2.2.2.2.2.2.1
theorem dX8_whenShows_12 : decode cX8_whenShows 12 = .ok (.sipush 999, 3) := dX8_whenShows_0_b.2.2.2.2.2.2.2.1
theorem dX8_whenShows_15 : decode cX8_whenShows 15 = .ok (.invokestatic 56, 3) := dX8_whenShows_0_b.2.2.2.2.2.2.2.2.1
theorem dX8_whenShows_18 : decode cX8_whenShows 18 = .ok (.ifCond .ne 6, 3) := dX8_whenShows_0_b.2.2.2.2.2.2.2.2.2.1
theorem dX8_whenShows_21 : decode cX8_whenShows 21 = .ok (.ldc 64, 2) := dX8_whenShows_0_b.2.2.2.2.2.2.2.2.2.2.1
theorem dX8_whenShows_23 : decode cX8_whenShows 23 = .ok (.ireturn, 1) := dX8_whenShows_0_b.2.2.2.2.2.2.2.2.2.2.2
theorem dX8_whenShows_24_b : (decode cX8_whenShows 24 = .ok (.aload_n 0, 1)) ∧ (decode cX8_whenShows 25 = .ok (.invokevirtual 191, 3)) ∧ (decode cX8_whenShows 28 = .ok (.iconst 0, 1)) ∧ (decode cX8_whenShows 29 = .ok (.istore_n 2, 1)) ∧ (decode cX8_whenShows 30 = .ok (.iload_n 2, 1)) ∧ (decode cX8_whenShows 31 = .ok (.bipush 100, 2)) ∧ (decode cX8_whenShows 33 = .ok (.if_icmp .ge 24, 3)) ∧ (decode cX8_whenShows 36 = .ok (.aload_n 0, 1)) ∧ (decode cX8_whenShows 37 = .ok (.getfield 44, 3)) ∧ (decode cX8_whenShows 40 = .ok (.iload_n 2, 1)) ∧ (decode cX8_whenShows 41 = .ok (.iaload, 1)) ∧ (decode cX8_whenShows 42 = .ok (.bipush 12, 2)) := by decide +kernel
theorem dX8_whenShows_24 : decode cX8_whenShows 24 = .ok (.aload_n 0, 1) := dX8_whenShows_24_b.1
theorem dX8_whenShows_25 : decode cX8_whenShows 25 = .ok (.invokevirtual 191, 3) := dX8_whenShows_24_b.2.1
theorem dX8_whenShows_28 : decode cX8_whenShows 28 = .ok (.iconst 0, 1) := dX8_whenShows_24_b.2.2.1
theorem dX8_whenShows_29 : decode cX8_whenShows 29 = .ok (.istore_n 2, 1) := dX8_whenShows_24_b.2.2.2.1
theorem dX8_whenShows_30 : decode cX8_whenShows 30 = .ok (.iload_n 2, 1) := dX8_whenShows_24_b.2.2.2.2.1
theorem dX8_whenShows_31 : decode cX8_whenShows 31 = .ok (.bipush 100, 2) := dX8_whenShows_24_b.2.2.2.2.2.1
theorem dX8_whenShows_33 : decode cX8_whenShows 33 = .ok (.if_icmp .ge 24, 3) := dX8_whenShows_24_b.2.2.2.2.2.2.1
theorem dX8_whenShows_36 : decode cX8_whenShows 36 = .ok (.aload_n 0, 1) := dX8_whenShows_24_b.2.2.2.2.2.2.2.1
theorem dX8_whenShows_37 : decode cX8_whenShows 37 = .ok (.getfield 44, 3) := dX8_whenShows_24_b.2.2.2.2.2.2.2.2.1
theorem dX8_whenShows_40 : decode cX8_whenShows 40 = .ok (.iload_n 2, 1) := dX8_whenShows_24_b.2.2.2.2.2.2.2.2.2.1
theorem dX8_whenShows_41 : decode cX8_whenShows 41 = .ok (.iaload, 1) := dX8_whenShows_24_b.2.2.2.2.2.2.2.2.2.2.1
theorem dX8_whenShows_42 : decode cX8_whenShows 42 = .ok (.bipush 12, 2) := dX8_whenShows_24_b.2.2.2.2.2.2.2.2.2.2.2
theorem dX8_whenShows_44_b : (decode cX8_whenShows 44 = .ok (.idiv, 1)) ∧ (decode cX8_whenShows 45 = .ok (.iload_n 1, 1)) ∧ (decode cX8_whenShows 46 = .ok (.if_icmp .lt 5, 3)) ∧ (decode cX8_whenShows 49 = .ok (.iload_n 2, 1)) ∧ (decode cX8_whenShows 50 = .ok (.ireturn, 1)) ∧ (decode cX8_whenShows 51 = .ok (.iinc 2 1, 3)) ∧ (decode cX8_whenShows 54 = .ok (.goto (-24), 3)) ∧ (decode cX8_whenShows 57 = .ok (.ldc 50, 2)) ∧ (decode cX8_whenShows 59 = .ok (.ireturn, 1)) := by decide +kernel
theorem dX8_whenShows_44 : decode cX8_whenShows 44 = .ok (.idiv, 1) := dX8_whenShows_44_b.1
theorem dX8_whenShows_45 : decode cX8_whenShows 45 = .ok (.iload_n 1, 1) := dX8_whenShows_44_b.2.1
theorem dX8_whenShows_46 : decode cX8_whenShows 46 = .ok (.if_icmp .lt 5, 3) := dX8_whenShows_44_b.2.2.1
theorem dX8_whenShows_49 : decode cX8_whenShows 49 = .ok (.iload_n 2, 1) := dX8_whenShows_44_b.2.2.2.1
theorem dX8_whenShows_50 : decode cX8_whenShows 50 = .ok (.ireturn, 1) := dX8_whenShows_44_b.2.2.2.2.1
theorem dX8_whenShows_51 : decode cX8_whenShows 51 = .ok (.iinc 2 1, 3) := dX8_whenShows_44_b.2.2.2.2.2.1
theorem dX8_whenShows_54 : decode cX8_whenShows 54 = .ok (.goto (-24), 3) := dX8_whenShows_44_b.2.2.2.2.2.2.1
theorem dX8_whenShows_57 : decode cX8_whenShows 57 = .ok (.ldc 50, 2) := dX8_whenShows_44_b.2.2.2.2.2.2.2.1
theorem dX8_whenShows_59 : decode cX8_whenShows 59 = .ok (.ireturn, 1) := dX8_whenShows_44_b.2.2.2.2.2.2.2.2
theorem dX8_done_0_b : (decode cX8_done 0 = .ok (.aload_n 0, 1)) ∧ (decode cX8_done 1 = .ok (.iload_n 1, 1)) ∧ (decode cX8_done 2 = .ok (.invokevirtual 194, 3)) ∧ (decode cX8_done 5 = .ok (.ifCond .ne 6, 3)) ∧ (decode cX8_done 8 = .ok (.ldc 64, 2)) ∧ (decode cX8_done 10 = .ok (.ireturn, 1)) ∧ (decode cX8_done 11 = .ok (.aload_n 0, 1)) ∧ (decode cX8_done 12 = .ok (.invokevirtual 191, 3)) ∧ (decode cX8_done 15 = .ok (.aload_n 0, 1)) ∧ (decode cX8_done 16 = .ok (.getfield 41, 3)) ∧ (decode cX8_done 19 = .ok (.bipush 48, 2)) ∧ (decode cX8_done 21 = .ok (.iconst 5, 1)) := by decide +kernel
theorem dX8_done_0 : decode cX8_done 0 = .ok (.aload_n 0, 1) := dX8_done_0_b.1
theorem dX8_done_1 : decode cX8_done 1 = .ok (.iload_n 1, 1) := dX8_done_0_b.2.1
theorem dX8_done_2 : decode cX8_done 2 = .ok (.invokevirtual 194, 3) := dX8_done_0_b.2.2.1
theorem dX8_done_5 : decode cX8_done 5 = .ok (.ifCond .ne 6, 3) := dX8_done_0_b.2.2.2.1
theorem dX8_done_8 : decode cX8_done 8 = .ok (.ldc 64, 2) := dX8_done_0_b.2.2.2.2.1
theorem dX8_done_10 : decode cX8_done 10 = .ok (.ireturn, 1) := dX8_done_0_b.2.2.2.2.2.1
theorem dX8_done_11 : decode cX8_done 11 = .ok (.aload_n 0, 1) := dX8_done_0_b.2.2.2.2.2.2.1
theorem dX8_done_12 : decode cX8_done 12 = .ok (.invokevirtual 191, 3) := dX8_done_0_b.2.2.2.2.2.2.2.1
theorem dX8_done_15 : decode cX8_done 15 = .ok (.aload_n 0, 1) := dX8_done_0_b.2.2.2.2.2.2.2.2.1
theorem dX8_done_16 : decode cX8_done 16 = .ok (.getfield 41, 3) := dX8_done_0_b.2.2.2.2.2.2.2.2.2.1
theorem dX8_done_19 : decode cX8_done 19 = .ok (.bipush 48, 2) := dX8_done_0_b.2.2.2.2.2.2.2.2.2.2.1
theorem dX8_done_21 : decode cX8_done 21 = .ok (.iconst 5, 1) := dX8_done_0_b.2.2.2.2.2.2.2.2.2.2.2
theorem dX8_done_22_b : (decode cX8_done 22 = .ok (.iload_n 1, 1)) ∧ (decode cX8_done 23 = .ok (.imul, 1)) ∧ (decode cX8_done 24 = .ok (.iadd, 1)) ∧ (decode cX8_done 25 = .ok (.iconst 4, 1)) ∧ (decode cX8_done 26 = .ok (.iadd, 1)) ∧ (decode cX8_done 27 = .ok (.iaload, 1)) ∧ (decode cX8_done 28 = .ok (.ireturn, 1)) := by decide +kernel
theorem dX8_done_22 : decode cX8_done 22 = .ok (.iload_n 1, 1) := dX8_done_22_b.1
theorem dX8_done_23 : decode cX8_done 23 = .ok (.imul, 1) := dX8_done_22_b.2.1
theorem dX8_done_24 : decode cX8_done 24 = .ok (.iadd, 1) := dX8_done_22_b.2.2.1
theorem dX8_done_25 : decode cX8_done 25 = .ok (.iconst 4, 1) := dX8_done_22_b.2.2.2.1
theorem dX8_done_26 : decode cX8_done 26 = .ok (.iadd, 1) := dX8_done_22_b.2.2.2.2.1
theorem dX8_done_27 : decode cX8_done 27 = .ok (.iaload, 1) := dX8_done_22_b.2.2.2.2.2.1
theorem dX8_done_28 : decode cX8_done 28 = .ok (.ireturn, 1) := dX8_done_22_b.2.2.2.2.2.2
theorem dX8_late_0_b : (decode cX8_late 0 = .ok (.aload_n 0, 1)) ∧ (decode cX8_late 1 = .ok (.invokevirtual 171, 3)) ∧ (decode cX8_late 4 = .ok (.ifCond .ne 6, 3)) ∧ (decode cX8_late 7 = .ok (.ldc 174, 2)) ∧ (decode cX8_late 9 = .ok (.ireturn, 1)) ∧ (decode cX8_late 10 = .ok (.aload_n 0, 1)) ∧ (decode cX8_late 11 = .ok (.invokevirtual 191, 3)) ∧ (decode cX8_late 14 = .ok (.iconst 0, 1)) ∧ (decode cX8_late 15 = .ok (.istore_n 1, 1)) ∧ (decode cX8_late 16 = .ok (.iconst 0, 1)) ∧ (decode cX8_late 17 = .ok (.istore_n 2, 1)) ∧ (decode cX8_late 18 = .ok (.iload_n 2, 1)) := by decide +kernel
theorem dX8_late_0 : decode cX8_late 0 = .ok (.aload_n 0, 1) := dX8_late_0_b.1
theorem dX8_late_1 : decode cX8_late 1 = .ok (.invokevirtual 171, 3) := dX8_late_0_b.2.1
theorem dX8_late_4 : decode cX8_late 4 = .ok (.ifCond .ne 6, 3) := dX8_late_0_b.2.2.1
theorem dX8_late_7 : decode cX8_late 7 = .ok (.ldc 174, 2) := dX8_late_0_b.2.2.2.1
theorem dX8_late_9 : decode cX8_late 9 = .ok (.ireturn, 1) := dX8_late_0_b.2.2.2.2.1
theorem dX8_late_10 : decode cX8_late 10 = .ok (.aload_n 0, 1) := dX8_late_0_b.2.2.2.2.2.1
theorem dX8_late_11 : decode cX8_late 11 = .ok (.invokevirtual 191, 3) := dX8_late_0_b.2.2.2.2.2.2.1
theorem dX8_late_14 : decode cX8_late 14 = .ok (.iconst 0, 1) := dX8_late_0_b.2.2.2.2.2.2.2.1
theorem dX8_late_15 : decode cX8_late 15 = .ok (.istore_n 1, 1) := dX8_late_0_b.2.2.2.2.2.2.2.2.1
theorem dX8_late_16 : decode cX8_late 16 = .ok (.iconst 0, 1) := dX8_late_0_b.2.2.2.2.2.2.2.2.2.1
theorem dX8_late_17 : decode cX8_late 17 = .ok (.istore_n 2, 1) := dX8_late_0_b.2.2.2.2.2.2.2.2.2.2.1
theorem dX8_late_18 : decode cX8_late 18 = .ok (.iload_n 2, 1) := dX8_late_0_b.2.2.2.2.2.2.2.2.2.2.2
theorem dX8_late_19_b : (decode cX8_late 19 = .ok (.aload_n 0, 1)) ∧ (decode cX8_late 20 = .ok (.getfield 25, 3)) ∧ (decode cX8_late 23 = .ok (.iconst 5, 1)) ∧ (decode cX8_late 24 = .ok (.iaload, 1)) ∧ (decode cX8_late 25 = .ok (.if_icmp .ge 56, 3)) ∧ (decode cX8_late 28 = .ok (.aload_n 0, 1)) ∧ (decode cX8_late 29 = .ok (.getfield 41, 3)) ∧ (decode cX8_late 32 = .ok (.bipush 48, 2)) ∧ (decode cX8_late 34 = .ok (.iconst 5, 1)) ∧ (decode cX8_late 35 = .ok (.iload_n 2, 1)) ∧ (decode cX8_late 36 = .ok (.imul, 1)) ∧ (decode cX8_late 37 = .ok (.iadd, 1)) := by decide +kernel
theorem dX8_late_19 : decode cX8_late 19 = .ok (.aload_n 0, 1) := dX8_late_19_b.1
theorem dX8_late_20 : decode cX8_late 20 = .ok (.getfield 25, 3) := dX8_late_19_b.2.1
theorem dX8_late_23 : decode cX8_late 23 = .ok (.iconst 5, 1) := dX8_late_19_b.2.2.1
theorem dX8_late_24 : decode cX8_late 24 = .ok (.iaload, 1) := dX8_late_19_b.2.2.2.1
theorem dX8_late_25 : decode cX8_late 25 = .ok (.if_icmp .ge 56, 3) := dX8_late_19_b.2.2.2.2.1
theorem dX8_late_28 : decode cX8_late 28 = .ok (.aload_n 0, 1) := dX8_late_19_b.2.2.2.2.2.1
theorem dX8_late_29 : decode cX8_late 29 = .ok (.getfield 41, 3) := dX8_late_19_b.2.2.2.2.2.2.1
theorem dX8_late_32 : decode cX8_late 32 = .ok (.bipush 48, 2) := dX8_late_19_b.2.2.2.2.2.2.2.1
theorem dX8_late_34 : decode cX8_late 34 = .ok (.iconst 5, 1) := dX8_late_19_b.2.2.2.2.2.2.2.2.1
theorem dX8_late_35 : decode cX8_late 35 = .ok (.iload_n 2, 1) := dX8_late_19_b.2.2.2.2.2.2.2.2.2.1
theorem dX8_late_36 : decode cX8_late 36 = .ok (.imul, 1) := dX8_late_19_b.2.2.2.2.2.2.2.2.2.2.1
theorem dX8_late_37 : decode cX8_late 37 = .ok (.iadd, 1) := dX8_late_19_b.2.2.2.2.2.2.2.2.2.2.2
theorem dX8_late_38_b : (decode cX8_late 38 = .ok (.iconst 4, 1)) ∧ (decode cX8_late 39 = .ok (.iadd, 1)) ∧ (decode cX8_late 40 = .ok (.iaload, 1)) ∧ (decode cX8_late 41 = .ok (.istore_n 3, 1)) ∧ (decode cX8_late 42 = .ok (.iload_n 1, 1)) ∧ (decode cX8_late 43 = .ok (.iload_n 3, 1)) ∧ (decode cX8_late 44 = .ok (.ldc 50, 2)) ∧ (decode cX8_late 46 = .ok (.if_icmp .eq 20, 3)) ∧ (decode cX8_late 49 = .ok (.iload_n 3, 1)) ∧ (decode cX8_late 50 = .ok (.aload_n 0, 1)) ∧ (decode cX8_late 51 = .ok (.getfield 25, 3)) ∧ (decode cX8_late 54 = .ok (.bipush 48, 2)) := by decide +kernel
theorem dX8_late_38 : decode cX8_late 38 = .ok (.iconst 4, 1) := dX8_late_38_b.1
theorem dX8_late_39 : decode cX8_late 39 = .ok (.iadd, 1) := dX8_late_38_b.2.1
theorem dX8_late_40 : decode cX8_late 40 = .ok (.iaload, 1) := dX8_late_38_b.2.2.1
theorem dX8_late_41 : decode cX8_late 41 = .ok (.istore_n 3, 1) := dX8_late_38_b.2.2.2.1
theorem dX8_late_42 : decode cX8_late 42 = .ok (.iload_n 1, 1) := dX8_late_38_b.2.2.2.2.1
theorem dX8_late_43 : decode cX8_late 43 = .ok (.iload_n 3, 1) := dX8_late_38_b.2.2.2.2.2.1
theorem dX8_late_44 : decode cX8_late 44 = .ok (.ldc 50, 2) := dX8_late_38_b.2.2.2.2.2.2.1
theorem dX8_late_46 : decode cX8_late 46 = .ok (.if_icmp .eq 20, 3) := dX8_late_38_b.2.2.2.2.2.2.2.1
theorem dX8_late_49 : decode cX8_late 49 = .ok (.iload_n 3, 1) := dX8_late_38_b.2.2.2.2.2.2.2.2.1
theorem dX8_late_50 : decode cX8_late 50 = .ok (.aload_n 0, 1) := dX8_late_38_b.2.2.2.2.2.2.2.2.2.1
theorem dX8_late_51 : decode cX8_late 51 = .ok (.getfield 25, 3) := dX8_late_38_b.2.2.2.2.2.2.2.2.2.2.1
theorem dX8_late_54 : decode cX8_late 54 = .ok (.bipush 48, 2) := dX8_late_38_b.2.2.2.2.2.2.2.2.2.2.2
theorem dX8_late_56_b : (decode cX8_late 56 = .ok (.iconst 5, 1)) ∧ (decode cX8_late 57 = .ok (.iload_n 2, 1)) ∧ (decode cX8_late 58 = .ok (.imul, 1)) ∧ (decode cX8_late 59 = .ok (.iadd, 1)) ∧ (decode cX8_late 60 = .ok (.iconst 2, 1)) ∧ (decode cX8_late 61 = .ok (.iadd, 1)) ∧ (decode cX8_late 62 = .ok (.iaload, 1)) ∧ (decode cX8_late 63 = .ok (.if_icmp .le 9, 3)) ∧ (decode cX8_late 66 = .ok (.iconst 1, 1)) ∧ (decode cX8_late 67 = .ok (.iload_n 2, 1)) ∧ (decode cX8_late 68 = .ok (.ishl, 1)) ∧ (decode cX8_late 69 = .ok (.goto 4, 3)) := by decide +kernel
theorem dX8_late_56 : decode cX8_late 56 = .ok (.iconst 5, 1) := dX8_late_56_b.1
theorem dX8_late_57 : decode cX8_late 57 = .ok (.iload_n 2, 1) := dX8_late_56_b.2.1
theorem dX8_late_58 : decode cX8_late 58 = .ok (.imul, 1) := dX8_late_56_b.2.2.1
theorem dX8_late_59 : decode cX8_late 59 = .ok (.iadd, 1) := dX8_late_56_b.2.2.2.1
theorem dX8_late_60 : decode cX8_late 60 = .ok (.iconst 2, 1) := dX8_late_56_b.2.2.2.2.1
theorem dX8_late_61 : decode cX8_late 61 = .ok (.iadd, 1) := dX8_late_56_b.2.2.2.2.2.1
theorem dX8_late_62 : decode cX8_late 62 = .ok (.iaload, 1) := dX8_late_56_b.2.2.2.2.2.2.1
theorem dX8_late_63 : decode cX8_late 63 = .ok (.if_icmp .le 9, 3) := dX8_late_56_b.2.2.2.2.2.2.2.1
theorem dX8_late_66 : decode cX8_late 66 = .ok (.iconst 1, 1) := dX8_late_56_b.2.2.2.2.2.2.2.2.1
theorem dX8_late_67 : decode cX8_late 67 = .ok (.iload_n 2, 1) := dX8_late_56_b.2.2.2.2.2.2.2.2.2.1
theorem dX8_late_68 : decode cX8_late 68 = .ok (.ishl, 1) := dX8_late_56_b.2.2.2.2.2.2.2.2.2.2.1
theorem dX8_late_69 : decode cX8_late 69 = .ok (.goto 4, 3) := dX8_late_56_b.2.2.2.2.2.2.2.2.2.2.2
theorem dX8_late_72_b : (decode cX8_late 72 = .ok (.iconst 0, 1)) ∧ (decode cX8_late 73 = .ok (.ior, 1)) ∧ (decode cX8_late 74 = .ok (.istore_n 1, 1)) ∧ (decode cX8_late 75 = .ok (.iinc 2 1, 3)) ∧ (decode cX8_late 78 = .ok (.goto (-60), 3)) ∧ (decode cX8_late 81 = .ok (.iload_n 1, 1)) ∧ (decode cX8_late 82 = .ok (.ireturn, 1)) := by decide +kernel
theorem dX8_late_72 : decode cX8_late 72 = .ok (.iconst 0, 1) := dX8_late_72_b.1
theorem dX8_late_73 : decode cX8_late 73 = .ok (.ior, 1) := dX8_late_72_b.2.1
theorem dX8_late_74 : decode cX8_late 74 = .ok (.istore_n 1, 1) := dX8_late_72_b.2.2.1
theorem dX8_late_75 : decode cX8_late 75 = .ok (.iinc 2 1, 3) := dX8_late_72_b.2.2.2.1
theorem dX8_late_78 : decode cX8_late 78 = .ok (.goto (-60), 3) := dX8_late_72_b.2.2.2.2.1
theorem dX8_late_81 : decode cX8_late 81 = .ok (.iload_n 1, 1) := dX8_late_72_b.2.2.2.2.2.1
theorem dX8_late_82 : decode cX8_late 82 = .ok (.ireturn, 1) := dX8_late_72_b.2.2.2.2.2.2
theorem dX8_latest_0_b : (decode cX8_latest 0 = .ok (.aload_n 0, 1)) ∧ (decode cX8_latest 1 = .ok (.iload_n 1, 1)) ∧ (decode cX8_latest 2 = .ok (.invokevirtual 194, 3)) ∧ (decode cX8_latest 5 = .ok (.ifCond .ne 6, 3)) ∧ (decode cX8_latest 8 = .ok (.ldc 64, 2)) ∧ (decode cX8_latest 10 = .ok (.ireturn, 1)) ∧ (decode cX8_latest 11 = .ok (.aload_n 0, 1)) ∧ (decode cX8_latest 12 = .ok (.invokevirtual 191, 3)) ∧ (decode cX8_latest 15 = .ok (.bipush 48, 2)) ∧ (decode cX8_latest 17 = .ok (.iconst 5, 1)) ∧ (decode cX8_latest 18 = .ok (.iload_n 1, 1)) ∧ (decode cX8_latest 19 = .ok (.imul, 1)) := by decide +kernel
theorem dX8_latest_0 : decode cX8_latest 0 = .ok (.aload_n 0, 1) := dX8_latest_0_b.1
theorem dX8_latest_1 : decode cX8_latest 1 = .ok (.iload_n 1, 1) := dX8_latest_0_b.2.1
theorem dX8_latest_2 : decode cX8_latest 2 = .ok (.invokevirtual 194, 3) := dX8_latest_0_b.2.2.1
theorem dX8_latest_5 : decode cX8_latest 5 = .ok (.ifCond .ne 6, 3) := dX8_latest_0_b.2.2.2.1
theorem dX8_latest_8 : decode cX8_latest 8 = .ok (.ldc 64, 2) := dX8_latest_0_b.2.2.2.2.1
theorem dX8_latest_10 : decode cX8_latest 10 = .ok (.ireturn, 1) := dX8_latest_0_b.2.2.2.2.2.1
theorem dX8_latest_11 : decode cX8_latest 11 = .ok (.aload_n 0, 1) := dX8_latest_0_b.2.2.2.2.2.2.1
theorem dX8_latest_12 : decode cX8_latest 12 = .ok (.invokevirtual 191, 3) := dX8_latest_0_b.2.2.2.2.2.2.2.1
theorem dX8_latest_15 : decode cX8_latest 15 = .ok (.bipush 48, 2) := dX8_latest_0_b.2.2.2.2.2.2.2.2.1
theorem dX8_latest_17 : decode cX8_latest 17 = .ok (.iconst 5, 1) := dX8_latest_0_b.2.2.2.2.2.2.2.2.2.1
theorem dX8_latest_18 : decode cX8_latest 18 = .ok (.iload_n 1, 1) := dX8_latest_0_b.2.2.2.2.2.2.2.2.2.2.1
theorem dX8_latest_19 : decode cX8_latest 19 = .ok (.imul, 1) := dX8_latest_0_b.2.2.2.2.2.2.2.2.2.2.2
theorem dX8_latest_20_b : (decode cX8_latest 20 = .ok (.iadd, 1)) ∧ (decode cX8_latest 21 = .ok (.istore_n 2, 1)) ∧ (decode cX8_latest 22 = .ok (.aload_n 0, 1)) ∧ (decode cX8_latest 23 = .ok (.getfield 25, 3)) ∧ (decode cX8_latest 26 = .ok (.iload_n 2, 1)) ∧ (decode cX8_latest 27 = .ok (.iconst 2, 1)) ∧ (decode cX8_latest 28 = .ok (.iadd, 1)) ∧ (decode cX8_latest 29 = .ok (.iaload, 1)) ∧ (decode cX8_latest 30 = .ok (.aload_n 0, 1)) ∧ (decode cX8_latest 31 = .ok (.getfield 25, 3)) ∧ (decode cX8_latest 34 = .ok (.iconst 2, 1)) ∧ (decode cX8_latest 35 = .ok (.iaload, 1)) := by decide +kernel
theorem dX8_latest_20 : decode cX8_latest 20 = .ok (.iadd, 1) := dX8_latest_20_b.1
theorem dX8_latest_21 : decode cX8_latest 21 = .ok (.istore_n 2, 1) := dX8_latest_20_b.2.1
theorem dX8_latest_22 : decode cX8_latest 22 = .ok (.aload_n 0, 1) := dX8_latest_20_b.2.2.1
theorem dX8_latest_23 : decode cX8_latest 23 = .ok (.getfield 25, 3) := dX8_latest_20_b.2.2.2.1
theorem dX8_latest_26 : decode cX8_latest 26 = .ok (.iload_n 2, 1) := dX8_latest_20_b.2.2.2.2.1
theorem dX8_latest_27 : decode cX8_latest 27 = .ok (.iconst 2, 1) := dX8_latest_20_b.2.2.2.2.2.1
theorem dX8_latest_28 : decode cX8_latest 28 = .ok (.iadd, 1) := dX8_latest_20_b.2.2.2.2.2.2.1
theorem dX8_latest_29 : decode cX8_latest 29 = .ok (.iaload, 1) := dX8_latest_20_b.2.2.2.2.2.2.2.1
theorem dX8_latest_30 : decode cX8_latest 30 = .ok (.aload_n 0, 1) := dX8_latest_20_b.2.2.2.2.2.2.2.2.1
theorem dX8_latest_31 : decode cX8_latest 31 = .ok (.getfield 25, 3) := dX8_latest_20_b.2.2.2.2.2.2.2.2.2.1
theorem dX8_latest_34 : decode cX8_latest 34 = .ok (.iconst 2, 1) := dX8_latest_20_b.2.2.2.2.2.2.2.2.2.2.1
theorem dX8_latest_35 : decode cX8_latest 35 = .ok (.iaload, 1) := dX8_latest_20_b.2.2.2.2.2.2.2.2.2.2.2
theorem dX8_latest_36_b : (decode cX8_latest 36 = .ok (.isub, 1)) ∧ (decode cX8_latest 37 = .ok (.istore_n 3, 1)) ∧ (decode cX8_latest 38 = .ok (.ldc 50, 2)) ∧ (decode cX8_latest 40 = .ok (.istore 4, 2)) ∧ (decode cX8_latest 42 = .ok (.iconst 0, 1)) ∧ (decode cX8_latest 43 = .ok (.istore 5, 2)) ∧ (decode cX8_latest 45 = .ok (.iload 5, 2)) ∧ (decode cX8_latest 47 = .ok (.iload_n 3, 1)) ∧ (decode cX8_latest 48 = .ok (.if_icmp .ge 59, 3)) ∧ (decode cX8_latest 51 = .ok (.iload 5, 2)) ∧ (decode cX8_latest 53 = .ok (.bipush 100, 2)) ∧ (decode cX8_latest 55 = .ok (.if_icmp .ge 52, 3)) := by decide +kernel
theorem dX8_latest_36 : decode cX8_latest 36 = .ok (.isub, 1) := dX8_latest_36_b.1
theorem dX8_latest_37 : decode cX8_latest 37 = .ok (.istore_n 3, 1) := dX8_latest_36_b.2.1
theorem dX8_latest_38 : decode cX8_latest 38 = .ok (.ldc 50, 2) := dX8_latest_36_b.2.2.1
theorem dX8_latest_40 : decode cX8_latest 40 = .ok (.istore 4, 2) := dX8_latest_36_b.2.2.2.1
theorem dX8_latest_42 : decode cX8_latest 42 = .ok (.iconst 0, 1) := dX8_latest_36_b.2.2.2.2.1
theorem dX8_latest_43 : decode cX8_latest 43 = .ok (.istore 5, 2) := dX8_latest_36_b.2.2.2.2.2.1
theorem dX8_latest_45 : decode cX8_latest 45 = .ok (.iload 5, 2) := dX8_latest_36_b.2.2.2.2.2.2.1
theorem dX8_latest_47 : decode cX8_latest 47 = .ok (.iload_n 3, 1) := dX8_latest_36_b.2.2.2.2.2.2.2.1
theorem dX8_latest_48 : decode cX8_latest 48 = .ok (.if_icmp .ge 59, 3) := dX8_latest_36_b.2.2.2.2.2.2.2.2.1
theorem dX8_latest_51 : decode cX8_latest 51 = .ok (.iload 5, 2) := dX8_latest_36_b.2.2.2.2.2.2.2.2.2.1
theorem dX8_latest_53 : decode cX8_latest 53 = .ok (.bipush 100, 2) := dX8_latest_36_b.2.2.2.2.2.2.2.2.2.2.1
theorem dX8_latest_55 : decode cX8_latest 55 = .ok (.if_icmp .ge 52, 3) := dX8_latest_36_b.2.2.2.2.2.2.2.2.2.2.2
theorem dX8_latest_58_b : (decode cX8_latest 58 = .ok (.iload_n 3, 1)) ∧ (decode cX8_latest 59 = .ok (.bipush 100, 2)) ∧ (decode cX8_latest 61 = .ok (.if_icmp .ge 36, 3)) ∧ (decode cX8_latest 64 = .ok (.aload_n 0, 1)) ∧ (decode cX8_latest 65 = .ok (.getfield 44, 3)) ∧ (decode cX8_latest 68 = .ok (.iload_n 3, 1)) ∧ (decode cX8_latest 69 = .ok (.iaload, 1)) ∧ (decode cX8_latest 70 = .ok (.aload_n 0, 1)) ∧ (decode cX8_latest 71 = .ok (.getfield 44, 3)) ∧ (decode cX8_latest 74 = .ok (.iload 5, 2)) ∧ (decode cX8_latest 76 = .ok (.iaload, 1)) ∧ (decode cX8_latest 77 = .ok (.bipush 12, 2)) := by decide +kernel
theorem dX8_latest_58 : decode cX8_latest 58 = .ok (.iload_n 3, 1) := dX8_latest_58_b.1
theorem dX8_latest_59 : decode cX8_latest 59 = .ok (.bipush 100, 2) := dX8_latest_58_b.2.1
theorem dX8_latest_61 : decode cX8_latest 61 = .ok (.if_icmp .ge 36, 3) := dX8_latest_58_b.2.2.1
theorem dX8_latest_64 : decode cX8_latest 64 = .ok (.aload_n 0, 1) := dX8_latest_58_b.2.2.2.1
theorem dX8_latest_65 : decode cX8_latest 65 = .ok (.getfield 44, 3) := dX8_latest_58_b.2.2.2.2.1
theorem dX8_latest_68 : decode cX8_latest 68 = .ok (.iload_n 3, 1) := dX8_latest_58_b.2.2.2.2.2.1
theorem dX8_latest_69 : decode cX8_latest 69 = .ok (.iaload, 1) := dX8_latest_58_b.2.2.2.2.2.2.1
theorem dX8_latest_70 : decode cX8_latest 70 = .ok (.aload_n 0, 1) := dX8_latest_58_b.2.2.2.2.2.2.2.1
theorem dX8_latest_71 : decode cX8_latest 71 = .ok (.getfield 44, 3) := dX8_latest_58_b.2.2.2.2.2.2.2.2.1
theorem dX8_latest_74 : decode cX8_latest 74 = .ok (.iload 5, 2) := dX8_latest_58_b.2.2.2.2.2.2.2.2.2.1
theorem dX8_latest_76 : decode cX8_latest 76 = .ok (.iaload, 1) := dX8_latest_58_b.2.2.2.2.2.2.2.2.2.2.1
theorem dX8_latest_77 : decode cX8_latest 77 = .ok (.bipush 12, 2) := dX8_latest_58_b.2.2.2.2.2.2.2.2.2.2.2
theorem dX8_latest_79_b : (decode cX8_latest 79 = .ok (.aload_n 0, 1)) ∧ (decode cX8_latest 80 = .ok (.getfield 25, 3)) ∧ (decode cX8_latest 83 = .ok (.iload_n 2, 1)) ∧ (decode cX8_latest 84 = .ok (.iconst 1, 1)) ∧ (decode cX8_latest 85 = .ok (.iadd, 1)) ∧ (decode cX8_latest 86 = .ok (.iaload, 1)) ∧ (decode cX8_latest 87 = .ok (.imul, 1)) ∧ (decode cX8_latest 88 = .ok (.iadd, 1)) ∧ (decode cX8_latest 89 = .ok (.if_icmp .lt 8, 3)) ∧ (decode cX8_latest 92 = .ok (.iload 5, 2)) ∧ (decode cX8_latest 94 = .ok (.goto 5, 3)) ∧ (decode cX8_latest 97 = .ok (.iload 4, 2)) := by decide +kernel
theorem dX8_latest_79 : decode cX8_latest 79 = .ok (.aload_n 0, 1) := dX8_latest_79_b.1
theorem dX8_latest_80 : decode cX8_latest 80 = .ok (.getfield 25, 3) := dX8_latest_79_b.2.1
theorem dX8_latest_83 : decode cX8_latest 83 = .ok (.iload_n 2, 1) := dX8_latest_79_b.2.2.1
theorem dX8_latest_84 : decode cX8_latest 84 = .ok (.iconst 1, 1) := dX8_latest_79_b.2.2.2.1
theorem dX8_latest_85 : decode cX8_latest 85 = .ok (.iadd, 1) := dX8_latest_79_b.2.2.2.2.1
theorem dX8_latest_86 : decode cX8_latest 86 = .ok (.iaload, 1) := dX8_latest_79_b.2.2.2.2.2.1
theorem dX8_latest_87 : decode cX8_latest 87 = .ok (.imul, 1) := dX8_latest_79_b.2.2.2.2.2.2.1
theorem dX8_latest_88 : decode cX8_latest 88 = .ok (.iadd, 1) := dX8_latest_79_b.2.2.2.2.2.2.2.1
theorem dX8_latest_89 : decode cX8_latest 89 = .ok (.if_icmp .lt 8, 3) := dX8_latest_79_b.2.2.2.2.2.2.2.2.1
theorem dX8_latest_92 : decode cX8_latest 92 = .ok (.iload 5, 2) := dX8_latest_79_b.2.2.2.2.2.2.2.2.2.1
theorem dX8_latest_94 : decode cX8_latest 94 = .ok (.goto 5, 3) := dX8_latest_79_b.2.2.2.2.2.2.2.2.2.2.1
theorem dX8_latest_97 : decode cX8_latest 97 = .ok (.iload 4, 2) := dX8_latest_79_b.2.2.2.2.2.2.2.2.2.2.2
theorem dX8_latest_99_b : (decode cX8_latest 99 = .ok (.istore 4, 2)) ∧ (decode cX8_latest 101 = .ok (.iinc 5 1, 3)) ∧ (decode cX8_latest 104 = .ok (.goto (-59), 3)) ∧ (decode cX8_latest 107 = .ok (.iload 4, 2)) ∧ (decode cX8_latest 109 = .ok (.ireturn, 1)) := by decide +kernel
theorem dX8_latest_99 : decode cX8_latest 99 = .ok (.istore 4, 2) := dX8_latest_99_b.1
theorem dX8_latest_101 : decode cX8_latest 101 = .ok (.iinc 5 1, 3) := dX8_latest_99_b.2.1
theorem dX8_latest_104 : decode cX8_latest 104 = .ok (.goto (-59), 3) := dX8_latest_99_b.2.2.1
theorem dX8_latest_107 : decode cX8_latest 107 = .ok (.iload 4, 2) := dX8_latest_99_b.2.2.2.1
theorem dX8_latest_109 : decode cX8_latest 109 = .ok (.ireturn, 1) := dX8_latest_99_b.2.2.2.2
theorem dX8_told_0_b : (decode cX8_told 0 = .ok (.iload_n 1, 1)) ∧ (decode cX8_told 1 = .ok (.ldc 50, 2)) ∧ (decode cX8_told 3 = .ok (.if_icmp .eq 8, 3)) ∧ (decode cX8_told 6 = .ok (.iload_n 2, 1)) ∧ (decode cX8_told 7 = .ok (.iconst 1, 1)) ∧ (decode cX8_told 8 = .ok (.if_icmp .ne 7, 3)) ∧ (decode cX8_told 11 = .ok (.iload_n 1, 1)) ∧ (decode cX8_told 12 = .ok (.goto 7, 3)) ∧ (decode cX8_told 15 = .ok (.iload_n 1, 1)) ∧ (decode cX8_told 16 = .ok (.invokestatic 197, 3)) ∧ (decode cX8_told 19 = .ok (.ireturn, 1)) := by decide +kernel
theorem dX8_told_0 : decode cX8_told 0 = .ok (.iload_n 1, 1) := dX8_told_0_b.1
theorem dX8_told_1 : decode cX8_told 1 = .ok (.ldc 50, 2) := dX8_told_0_b.2.1
theorem dX8_told_3 : decode cX8_told 3 = .ok (.if_icmp .eq 8, 3) := dX8_told_0_b.2.2.1
theorem dX8_told_6 : decode cX8_told 6 = .ok (.iload_n 2, 1) := dX8_told_0_b.2.2.2.1
theorem dX8_told_7 : decode cX8_told 7 = .ok (.iconst 1, 1) := dX8_told_0_b.2.2.2.2.1
theorem dX8_told_8 : decode cX8_told 8 = .ok (.if_icmp .ne 7, 3) := dX8_told_0_b.2.2.2.2.2.1
theorem dX8_told_11 : decode cX8_told 11 = .ok (.iload_n 1, 1) := dX8_told_0_b.2.2.2.2.2.2.1
theorem dX8_told_12 : decode cX8_told 12 = .ok (.goto 7, 3) := dX8_told_0_b.2.2.2.2.2.2.2.1
theorem dX8_told_15 : decode cX8_told 15 = .ok (.iload_n 1, 1) := dX8_told_0_b.2.2.2.2.2.2.2.2.1
theorem dX8_told_16 : decode cX8_told 16 = .ok (.invokestatic 197, 3) := dX8_told_0_b.2.2.2.2.2.2.2.2.2.1
theorem dX8_told_19 : decode cX8_told 19 = .ok (.ireturn, 1) := dX8_told_0_b.2.2.2.2.2.2.2.2.2.2
theorem dX8_toHush_0_b : (decode cX8_toHush 0 = .ok (.aload_n 0, 1)) ∧ (decode cX8_toHush 1 = .ok (.invokevirtual 171, 3)) ∧ (decode cX8_toHush 4 = .ok (.ifCond .ne 6, 3)) ∧ (decode cX8_toHush 7 = .ok (.ldc 174, 2)) ∧ (decode cX8_toHush 9 = .ok (.ireturn, 1)) ∧ (decode cX8_toHush 10 = .ok (.iload_n 1, 1)) ∧ (decode cX8_toHush 11 = .ok (.iconst 0, 1)) ∧ (decode cX8_toHush 12 = .ok (.sipush 999, 3)) ∧ (decode cX8_toHush 15 = .ok (.invokestatic 56, 3)) ∧ (decode cX8_toHush 18 = .ok (.ifCond .eq 22, 3)) ∧ (decode cX8_toHush 21 = .ok (.iload_n 2, 1)) ∧ (decode cX8_toHush 22 = .ok (.iconst 0, 1)) := by decide +kernel
theorem dX8_toHush_0 : decode cX8_toHush 0 = .ok (.aload_n 0, 1) := dX8_toHush_0_b.1
theorem dX8_toHush_1 : decode cX8_toHush 1 = .ok (.invokevirtual 171, 3) := dX8_toHush_0_b.2.1
theorem dX8_toHush_4 : decode cX8_toHush 4 = .ok (.ifCond .ne 6, 3) := dX8_toHush_0_b.2.2.1
theorem dX8_toHush_7 : decode cX8_toHush 7 = .ok (.ldc 174, 2) := dX8_toHush_0_b.2.2.2.1
theorem dX8_toHush_9 : decode cX8_toHush 9 = .ok (.ireturn, 1) := dX8_toHush_0_b.2.2.2.2.1
theorem dX8_toHush_10 : decode cX8_toHush 10 = .ok (.iload_n 1, 1) := dX8_toHush_0_b.2.2.2.2.2.1
theorem dX8_toHush_11 : decode cX8_toHush 11 = .ok (.iconst 0, 1) := dX8_toHush_0_b.2.2.2.2.2.2.1
theorem dX8_toHush_12 : decode cX8_toHush 12 = .ok (.sipush 999, 3) := dX8_toHush_0_b.2.2.2.2.2.2.2.1
theorem dX8_toHush_15 : decode cX8_toHush 15 = .ok (.invokestatic 56, 3) := dX8_toHush_0_b.2.2.2.2.2.2.2.2.1
theorem dX8_toHush_18 : decode cX8_toHush 18 = .ok (.ifCond .eq 22, 3) := dX8_toHush_0_b.2.2.2.2.2.2.2.2.2.1
theorem dX8_toHush_21 : decode cX8_toHush 21 = .ok (.iload_n 2, 1) := dX8_toHush_0_b.2.2.2.2.2.2.2.2.2.2.1
theorem dX8_toHush_22 : decode cX8_toHush 22 = .ok (.iconst 0, 1) := dX8_toHush_0_b.2.2.2.2.2.2.2.2.2.2.2
theorem dX8_toHush_23_b : (decode cX8_toHush 23 = .ok (.bipush 99, 2)) ∧ (decode cX8_toHush 25 = .ok (.invokestatic 56, 3)) ∧ (decode cX8_toHush 28 = .ok (.ifCond .eq 12, 3)) ∧ (decode cX8_toHush 31 = .ok (.iload_n 3, 1)) ∧ (decode cX8_toHush 32 = .ok (.iconst 0, 1)) ∧ (decode cX8_toHush 33 = .ok (.iconst 1, 1)) ∧ (decode cX8_toHush 34 = .ok (.invokestatic 56, 3)) ∧ (decode cX8_toHush 37 = .ok (.ifCond .ne 6, 3)) ∧ (decode cX8_toHush 40 = .ok (.ldc 64, 2)) ∧ (decode cX8_toHush 42 = .ok (.ireturn, 1)) ∧ (decode cX8_toHush 43 = .ok (.ldc 50, 2)) ∧ (decode cX8_toHush 45 = .ok (.istore 4, 2)) := by decide +kernel
theorem dX8_toHush_23 : decode cX8_toHush 23 = .ok (.bipush 99, 2) := dX8_toHush_23_b.1
theorem dX8_toHush_25 : decode cX8_toHush 25 = .ok (.invokestatic 56, 3) := dX8_toHush_23_b.2.1
theorem dX8_toHush_28 : decode cX8_toHush 28 = .ok (.ifCond .eq 12, 3) := dX8_toHush_23_b.2.2.1
theorem dX8_toHush_31 : decode cX8_toHush 31 = .ok (.iload_n 3, 1) := dX8_toHush_23_b.2.2.2.1
theorem dX8_toHush_32 : decode cX8_toHush 32 = .ok (.iconst 0, 1) := dX8_toHush_23_b.2.2.2.2.1
theorem dX8_toHush_33 : decode cX8_toHush 33 = .ok (.iconst 1, 1) := dX8_toHush_23_b.2.2.2.2.2.1
theorem dX8_toHush_34 : decode cX8_toHush 34 = .ok (.invokestatic 56, 3) := dX8_toHush_23_b.2.2.2.2.2.2.1
theorem dX8_toHush_37 : decode cX8_toHush 37 = .ok (.ifCond .ne 6, 3) := dX8_toHush_23_b.2.2.2.2.2.2.2.1
theorem dX8_toHush_40 : decode cX8_toHush 40 = .ok (.ldc 64, 2) := dX8_toHush_23_b.2.2.2.2.2.2.2.2.1
theorem dX8_toHush_42 : decode cX8_toHush 42 = .ok (.ireturn, 1) := dX8_toHush_23_b.2.2.2.2.2.2.2.2.2.1
theorem dX8_toHush_43 : decode cX8_toHush 43 = .ok (.ldc 50, 2) := dX8_toHush_23_b.2.2.2.2.2.2.2.2.2.2.1
theorem dX8_toHush_45 : decode cX8_toHush 45 = .ok (.istore 4, 2) := dX8_toHush_23_b.2.2.2.2.2.2.2.2.2.2.2
theorem dX8_toHush_47_b : (decode cX8_toHush 47 = .ok (.iconst 0, 1)) ∧ (decode cX8_toHush 48 = .ok (.istore 5, 2)) ∧ (decode cX8_toHush 50 = .ok (.iload 5, 2)) ∧ (decode cX8_toHush 52 = .ok (.iconst 1, 1)) ∧ (decode cX8_toHush 53 = .ok (.aload_n 0, 1)) ∧ (decode cX8_toHush 54 = .ok (.getfield 25, 3)) ∧ (decode cX8_toHush 57 = .ok (.iconst 4, 1)) ∧ (decode cX8_toHush 58 = .ok (.iaload, 1)) ∧ (decode cX8_toHush 59 = .ok (.ishl, 1)) ∧ (decode cX8_toHush 60 = .ok (.if_icmp .ge 179, 3)) ∧ (decode cX8_toHush 63 = .ok (.aload_n 0, 1)) ∧ (decode cX8_toHush 64 = .ok (.getfield 25, 3)) := by decide +kernel
theorem dX8_toHush_47 : decode cX8_toHush 47 = .ok (.iconst 0, 1) := dX8_toHush_47_b.1
theorem dX8_toHush_48 : decode cX8_toHush 48 = .ok (.istore 5, 2) := dX8_toHush_47_b.2.1
theorem dX8_toHush_50 : decode cX8_toHush 50 = .ok (.iload 5, 2) := dX8_toHush_47_b.2.2.1
theorem dX8_toHush_52 : decode cX8_toHush 52 = .ok (.iconst 1, 1) := dX8_toHush_47_b.2.2.2.1
theorem dX8_toHush_53 : decode cX8_toHush 53 = .ok (.aload_n 0, 1) := dX8_toHush_47_b.2.2.2.2.1
theorem dX8_toHush_54 : decode cX8_toHush 54 = .ok (.getfield 25, 3) := dX8_toHush_47_b.2.2.2.2.2.1
theorem dX8_toHush_57 : decode cX8_toHush 57 = .ok (.iconst 4, 1) := dX8_toHush_47_b.2.2.2.2.2.2.1
theorem dX8_toHush_58 : decode cX8_toHush 58 = .ok (.iaload, 1) := dX8_toHush_47_b.2.2.2.2.2.2.2.1
theorem dX8_toHush_59 : decode cX8_toHush 59 = .ok (.ishl, 1) := dX8_toHush_47_b.2.2.2.2.2.2.2.2.1
theorem dX8_toHush_60 : decode cX8_toHush 60 = .ok (.if_icmp .ge 179, 3) := dX8_toHush_47_b.2.2.2.2.2.2.2.2.2.1
theorem dX8_toHush_63 : decode cX8_toHush 63 = .ok (.aload_n 0, 1) := dX8_toHush_47_b.2.2.2.2.2.2.2.2.2.2.1
theorem dX8_toHush_64 : decode cX8_toHush 64 = .ok (.getfield 25, 3) := dX8_toHush_47_b.2.2.2.2.2.2.2.2.2.2.2
theorem dX8_toHush_67_b : (decode cX8_toHush 67 = .ok (.iconst 0, 1)) ∧ (decode cX8_toHush 68 = .ok (.aload_n 0, 1)) ∧ (decode cX8_toHush 69 = .ok (.getfield 41, 3)) ∧ (decode cX8_toHush 72 = .ok (.iconst 0, 1)) ∧ (decode cX8_toHush 73 = .ok (.invokestatic 134, 3)) ∧ (decode cX8_toHush 76 = .ok (.iload 4, 2)) ∧ (decode cX8_toHush 78 = .ok (.ldc 50, 2)) ∧ (decode cX8_toHush 80 = .ok (.if_icmp .eq 16, 3)) ∧ (decode cX8_toHush 83 = .ok (.iload 5, 2)) ∧ (decode cX8_toHush 85 = .ok (.invokestatic 197, 3)) ∧ (decode cX8_toHush 88 = .ok (.iload 4, 2)) ∧ (decode cX8_toHush 90 = .ok (.invokestatic 197, 3)) := by decide +kernel
theorem dX8_toHush_67 : decode cX8_toHush 67 = .ok (.iconst 0, 1) := dX8_toHush_67_b.1
theorem dX8_toHush_68 : decode cX8_toHush 68 = .ok (.aload_n 0, 1) := dX8_toHush_67_b.2.1
theorem dX8_toHush_69 : decode cX8_toHush 69 = .ok (.getfield 41, 3) := dX8_toHush_67_b.2.2.1
theorem dX8_toHush_72 : decode cX8_toHush 72 = .ok (.iconst 0, 1) := dX8_toHush_67_b.2.2.2.1
theorem dX8_toHush_73 : decode cX8_toHush 73 = .ok (.invokestatic 134, 3) := dX8_toHush_67_b.2.2.2.2.1
theorem dX8_toHush_76 : decode cX8_toHush 76 = .ok (.iload 4, 2) := dX8_toHush_67_b.2.2.2.2.2.1
theorem dX8_toHush_78 : decode cX8_toHush 78 = .ok (.ldc 50, 2) := dX8_toHush_67_b.2.2.2.2.2.2.1
theorem dX8_toHush_80 : decode cX8_toHush 80 = .ok (.if_icmp .eq 16, 3) := dX8_toHush_67_b.2.2.2.2.2.2.2.1
theorem dX8_toHush_83 : decode cX8_toHush 83 = .ok (.iload 5, 2) := dX8_toHush_67_b.2.2.2.2.2.2.2.2.1
theorem dX8_toHush_85 : decode cX8_toHush 85 = .ok (.invokestatic 197, 3) := dX8_toHush_67_b.2.2.2.2.2.2.2.2.2.1
theorem dX8_toHush_88 : decode cX8_toHush 88 = .ok (.iload 4, 2) := dX8_toHush_67_b.2.2.2.2.2.2.2.2.2.2.1
theorem dX8_toHush_90 : decode cX8_toHush 90 = .ok (.invokestatic 197, 3) := dX8_toHush_67_b.2.2.2.2.2.2.2.2.2.2.2
theorem dX8_toHush_93_b : (decode cX8_toHush 93 = .ok (.if_icmp .ge 7, 3)) ∧ (decode cX8_toHush 96 = .ok (.iconst 1, 1)) ∧ (decode cX8_toHush 97 = .ok (.goto 4, 3)) ∧ (decode cX8_toHush 100 = .ok (.iconst 0, 1)) ∧ (decode cX8_toHush 101 = .ok (.istore 6, 2)) ∧ (decode cX8_toHush 103 = .ok (.iconst 0, 1)) ∧ (decode cX8_toHush 104 = .ok (.istore 7, 2)) ∧ (decode cX8_toHush 106 = .ok (.iload 7, 2)) ∧ (decode cX8_toHush 108 = .ok (.aload_n 0, 1)) ∧ (decode cX8_toHush 109 = .ok (.getfield 25, 3)) ∧ (decode cX8_toHush 112 = .ok (.iconst 4, 1)) ∧ (decode cX8_toHush 113 = .ok (.iaload, 1)) := by decide +kernel
theorem dX8_toHush_93 : decode cX8_toHush 93 = .ok (.if_icmp .ge 7, 3) := dX8_toHush_93_b.1
theorem dX8_toHush_96 : decode cX8_toHush 96 = .ok (.iconst 1, 1) := dX8_toHush_93_b.2.1
theorem dX8_toHush_97 : decode cX8_toHush 97 = .ok (.goto 4, 3) := dX8_toHush_93_b.2.2.1
theorem dX8_toHush_100 : decode cX8_toHush 100 = .ok (.iconst 0, 1) := dX8_toHush_93_b.2.2.2.1
theorem dX8_toHush_101 : decode cX8_toHush 101 = .ok (.istore 6, 2) := dX8_toHush_93_b.2.2.2.2.1
theorem dX8_toHush_103 : decode cX8_toHush 103 = .ok (.iconst 0, 1) := dX8_toHush_93_b.2.2.2.2.2.1
theorem dX8_toHush_104 : decode cX8_toHush 104 = .ok (.istore 7, 2) := dX8_toHush_93_b.2.2.2.2.2.2.1
theorem dX8_toHush_106 : decode cX8_toHush 106 = .ok (.iload 7, 2) := dX8_toHush_93_b.2.2.2.2.2.2.2.1
theorem dX8_toHush_108 : decode cX8_toHush 108 = .ok (.aload_n 0, 1) := dX8_toHush_93_b.2.2.2.2.2.2.2.2.1
theorem dX8_toHush_109 : decode cX8_toHush 109 = .ok (.getfield 25, 3) := dX8_toHush_93_b.2.2.2.2.2.2.2.2.2.1
theorem dX8_toHush_112 : decode cX8_toHush 112 = .ok (.iconst 4, 1) := dX8_toHush_93_b.2.2.2.2.2.2.2.2.2.2.1
theorem dX8_toHush_113 : decode cX8_toHush 113 = .ok (.iaload, 1) := dX8_toHush_93_b.2.2.2.2.2.2.2.2.2.2.2
theorem dX8_toHush_114_b : (decode cX8_toHush 114 = .ok (.if_icmp .ge 93, 3)) ∧ (decode cX8_toHush 117 = .ok (.iload 6, 2)) ∧ (decode cX8_toHush 119 = .ok (.ifCond .eq 35, 3)) ∧ (decode cX8_toHush 122 = .ok (.iload 5, 2)) ∧ (decode cX8_toHush 124 = .ok (.iload 7, 2)) ∧ (decode cX8_toHush 126 = .ok (.invokestatic 145, 3)) ∧ (decode cX8_toHush 129 = .ok (.ifCond .eq 21, 3)) ∧ (decode cX8_toHush 132 = .ok (.aload_n 0, 1)) ∧ (decode cX8_toHush 133 = .ok (.getfield 25, 3)) ∧ (decode cX8_toHush 136 = .ok (.bipush 6, 2)) ∧ (decode cX8_toHush 138 = .ok (.bipush 7, 2)) ∧ (decode cX8_toHush 140 = .ok (.iload 7, 2)) := by decide +kernel
theorem dX8_toHush_114 : decode cX8_toHush 114 = .ok (.if_icmp .ge 93, 3) := dX8_toHush_114_b.1
theorem dX8_toHush_117 : decode cX8_toHush 117 = .ok (.iload 6, 2) := dX8_toHush_114_b.2.1
theorem dX8_toHush_119 : decode cX8_toHush 119 = .ok (.ifCond .eq 35, 3) := dX8_toHush_114_b.2.2.1
theorem dX8_toHush_122 : decode cX8_toHush 122 = .ok (.iload 5, 2) := dX8_toHush_114_b.2.2.2.1
theorem dX8_toHush_124 : decode cX8_toHush 124 = .ok (.iload 7, 2) := dX8_toHush_114_b.2.2.2.2.1
theorem dX8_toHush_126 : decode cX8_toHush 126 = .ok (.invokestatic 145, 3) := dX8_toHush_114_b.2.2.2.2.2.1
theorem dX8_toHush_129 : decode cX8_toHush 129 = .ok (.ifCond .eq 21, 3) := dX8_toHush_114_b.2.2.2.2.2.2.1
theorem dX8_toHush_132 : decode cX8_toHush 132 = .ok (.aload_n 0, 1) := dX8_toHush_114_b.2.2.2.2.2.2.2.1
theorem dX8_toHush_133 : decode cX8_toHush 133 = .ok (.getfield 25, 3) := dX8_toHush_114_b.2.2.2.2.2.2.2.2.1
theorem dX8_toHush_136 : decode cX8_toHush 136 = .ok (.bipush 6, 2) := dX8_toHush_114_b.2.2.2.2.2.2.2.2.2.1
theorem dX8_toHush_138 : decode cX8_toHush 138 = .ok (.bipush 7, 2) := dX8_toHush_114_b.2.2.2.2.2.2.2.2.2.2.1
theorem dX8_toHush_140 : decode cX8_toHush 140 = .ok (.iload 7, 2) := dX8_toHush_114_b.2.2.2.2.2.2.2.2.2.2.2
theorem dX8_toHush_142_b : (decode cX8_toHush 142 = .ok (.imul, 1)) ∧ (decode cX8_toHush 143 = .ok (.iadd, 1)) ∧ (decode cX8_toHush 144 = .ok (.iconst 5, 1)) ∧ (decode cX8_toHush 145 = .ok (.iadd, 1)) ∧ (decode cX8_toHush 146 = .ok (.iaload, 1)) ∧ (decode cX8_toHush 147 = .ok (.ifCond .ne 7, 3)) ∧ (decode cX8_toHush 150 = .ok (.iconst 1, 1)) ∧ (decode cX8_toHush 151 = .ok (.goto 4, 3)) ∧ (decode cX8_toHush 154 = .ok (.iconst 0, 1)) ∧ (decode cX8_toHush 155 = .ok (.istore 6, 2)) ∧ (decode cX8_toHush 157 = .ok (.aload_n 0, 1)) ∧ (decode cX8_toHush 158 = .ok (.getfield 41, 3)) := by decide +kernel
theorem dX8_toHush_142 : decode cX8_toHush 142 = .ok (.imul, 1) := dX8_toHush_142_b.1
theorem dX8_toHush_143 : decode cX8_toHush 143 = .ok (.iadd, 1) := dX8_toHush_142_b.2.1
theorem dX8_toHush_144 : decode cX8_toHush 144 = .ok (.iconst 5, 1) := dX8_toHush_142_b.2.2.1
theorem dX8_toHush_145 : decode cX8_toHush 145 = .ok (.iadd, 1) := dX8_toHush_142_b.2.2.2.1
theorem dX8_toHush_146 : decode cX8_toHush 146 = .ok (.iaload, 1) := dX8_toHush_142_b.2.2.2.2.1
theorem dX8_toHush_147 : decode cX8_toHush 147 = .ok (.ifCond .ne 7, 3) := dX8_toHush_142_b.2.2.2.2.2.1
theorem dX8_toHush_150 : decode cX8_toHush 150 = .ok (.iconst 1, 1) := dX8_toHush_142_b.2.2.2.2.2.2.1
theorem dX8_toHush_151 : decode cX8_toHush 151 = .ok (.goto 4, 3) := dX8_toHush_142_b.2.2.2.2.2.2.2.1
theorem dX8_toHush_154 : decode cX8_toHush 154 = .ok (.iconst 0, 1) := dX8_toHush_142_b.2.2.2.2.2.2.2.2.1
theorem dX8_toHush_155 : decode cX8_toHush 155 = .ok (.istore 6, 2) := dX8_toHush_142_b.2.2.2.2.2.2.2.2.2.1
theorem dX8_toHush_157 : decode cX8_toHush 157 = .ok (.aload_n 0, 1) := dX8_toHush_142_b.2.2.2.2.2.2.2.2.2.2.1
theorem dX8_toHush_158 : decode cX8_toHush 158 = .ok (.getfield 41, 3) := dX8_toHush_142_b.2.2.2.2.2.2.2.2.2.2.2
theorem dX8_toHush_161_b : (decode cX8_toHush 161 = .ok (.bipush 6, 2)) ∧ (decode cX8_toHush 163 = .ok (.bipush 7, 2)) ∧ (decode cX8_toHush 165 = .ok (.iload 7, 2)) ∧ (decode cX8_toHush 167 = .ok (.imul, 1)) ∧ (decode cX8_toHush 168 = .ok (.iadd, 1)) ∧ (decode cX8_toHush 169 = .ok (.iconst 5, 1)) ∧ (decode cX8_toHush 170 = .ok (.iadd, 1)) ∧ (decode cX8_toHush 171 = .ok (.iload 5, 2)) ∧ (decode cX8_toHush 173 = .ok (.iload 7, 2)) ∧ (decode cX8_toHush 175 = .ok (.invokestatic 145, 3)) ∧ (decode cX8_toHush 178 = .ok (.ifCond .eq 7, 3)) ∧ (decode cX8_toHush 181 = .ok (.iconst 1, 1)) := by decide +kernel
theorem dX8_toHush_161 : decode cX8_toHush 161 = .ok (.bipush 6, 2) := dX8_toHush_161_b.1
theorem dX8_toHush_163 : decode cX8_toHush 163 = .ok (.bipush 7, 2) := dX8_toHush_161_b.2.1
theorem dX8_toHush_165 : decode cX8_toHush 165 = .ok (.iload 7, 2) := dX8_toHush_161_b.2.2.1
theorem dX8_toHush_167 : decode cX8_toHush 167 = .ok (.imul, 1) := dX8_toHush_161_b.2.2.2.1
theorem dX8_toHush_168 : decode cX8_toHush 168 = .ok (.iadd, 1) := dX8_toHush_161_b.2.2.2.2.1
theorem dX8_toHush_169 : decode cX8_toHush 169 = .ok (.iconst 5, 1) := dX8_toHush_161_b.2.2.2.2.2.1
theorem dX8_toHush_170 : decode cX8_toHush 170 = .ok (.iadd, 1) := dX8_toHush_161_b.2.2.2.2.2.2.1
theorem dX8_toHush_171 : decode cX8_toHush 171 = .ok (.iload 5, 2) := dX8_toHush_161_b.2.2.2.2.2.2.2.1
theorem dX8_toHush_173 : decode cX8_toHush 173 = .ok (.iload 7, 2) := dX8_toHush_161_b.2.2.2.2.2.2.2.2.1
theorem dX8_toHush_175 : decode cX8_toHush 175 = .ok (.invokestatic 145, 3) := dX8_toHush_161_b.2.2.2.2.2.2.2.2.2.1
theorem dX8_toHush_178 : decode cX8_toHush 178 = .ok (.ifCond .eq 7, 3) := dX8_toHush_161_b.2.2.2.2.2.2.2.2.2.2.1
theorem dX8_toHush_181 : decode cX8_toHush 181 = .ok (.iconst 1, 1) := dX8_toHush_161_b.2.2.2.2.2.2.2.2.2.2.2
theorem dX8_toHush_182_b : (decode cX8_toHush 182 = .ok (.goto 18, 3)) ∧ (decode cX8_toHush 185 = .ok (.aload_n 0, 1)) ∧ (decode cX8_toHush 186 = .ok (.getfield 25, 3)) ∧ (decode cX8_toHush 189 = .ok (.bipush 6, 2)) ∧ (decode cX8_toHush 191 = .ok (.bipush 7, 2)) ∧ (decode cX8_toHush 193 = .ok (.iload 7, 2)) ∧ (decode cX8_toHush 195 = .ok (.imul, 1)) ∧ (decode cX8_toHush 196 = .ok (.iadd, 1)) ∧ (decode cX8_toHush 197 = .ok (.iconst 5, 1)) ∧ (decode cX8_toHush 198 = .ok (.iadd, 1)) ∧ (decode cX8_toHush 199 = .ok (.iaload, 1)) ∧ (decode cX8_toHush 200 = .ok (.iastore, 1)) := by decide +kernel
theorem dX8_toHush_182 : decode cX8_toHush 182 = .ok (.goto 18, 3) := dX8_toHush_182_b.1
theorem dX8_toHush_185 : decode cX8_toHush 185 = .ok (.aload_n 0, 1) := dX8_toHush_182_b.2.1
theorem dX8_toHush_186 : decode cX8_toHush 186 = .ok (.getfield 25, 3) := dX8_toHush_182_b.2.2.1
theorem dX8_toHush_189 : decode cX8_toHush 189 = .ok (.bipush 6, 2) := dX8_toHush_182_b.2.2.2.1
theorem dX8_toHush_191 : decode cX8_toHush 191 = .ok (.bipush 7, 2) := dX8_toHush_182_b.2.2.2.2.1
theorem dX8_toHush_193 : decode cX8_toHush 193 = .ok (.iload 7, 2) := dX8_toHush_182_b.2.2.2.2.2.1
theorem dX8_toHush_195 : decode cX8_toHush 195 = .ok (.imul, 1) := dX8_toHush_182_b.2.2.2.2.2.2.1
theorem dX8_toHush_196 : decode cX8_toHush 196 = .ok (.iadd, 1) := dX8_toHush_182_b.2.2.2.2.2.2.2.1
theorem dX8_toHush_197 : decode cX8_toHush 197 = .ok (.iconst 5, 1) := dX8_toHush_182_b.2.2.2.2.2.2.2.2.1
theorem dX8_toHush_198 : decode cX8_toHush 198 = .ok (.iadd, 1) := dX8_toHush_182_b.2.2.2.2.2.2.2.2.2.1
theorem dX8_toHush_199 : decode cX8_toHush 199 = .ok (.iaload, 1) := dX8_toHush_182_b.2.2.2.2.2.2.2.2.2.2.1
theorem dX8_toHush_200 : decode cX8_toHush 200 = .ok (.iastore, 1) := dX8_toHush_182_b.2.2.2.2.2.2.2.2.2.2.2
theorem dX8_toHush_201_b : (decode cX8_toHush 201 = .ok (.iinc 7 1, 3)) ∧ (decode cX8_toHush 204 = .ok (.goto (-98), 3)) ∧ (decode cX8_toHush 207 = .ok (.iload 6, 2)) ∧ (decode cX8_toHush 209 = .ok (.ifCond .eq 20, 3)) ∧ (decode cX8_toHush 212 = .ok (.aload_n 0, 1)) ∧ (decode cX8_toHush 213 = .ok (.iload_n 2, 1)) ∧ (decode cX8_toHush 214 = .ok (.invokevirtual 188, 3)) ∧ (decode cX8_toHush 217 = .ok (.bipush 12, 2)) ∧ (decode cX8_toHush 219 = .ok (.idiv, 1)) ∧ (decode cX8_toHush 220 = .ok (.iload_n 1, 1)) ∧ (decode cX8_toHush 221 = .ok (.if_icmp .gt 8, 3)) ∧ (decode cX8_toHush 224 = .ok (.iload 5, 2)) := by decide +kernel
theorem dX8_toHush_201 : decode cX8_toHush 201 = .ok (.iinc 7 1, 3) := dX8_toHush_201_b.1
theorem dX8_toHush_204 : decode cX8_toHush 204 = .ok (.goto (-98), 3) := dX8_toHush_201_b.2.1
theorem dX8_toHush_207 : decode cX8_toHush 207 = .ok (.iload 6, 2) := dX8_toHush_201_b.2.2.1
theorem dX8_toHush_209 : decode cX8_toHush 209 = .ok (.ifCond .eq 20, 3) := dX8_toHush_201_b.2.2.2.1
theorem dX8_toHush_212 : decode cX8_toHush 212 = .ok (.aload_n 0, 1) := dX8_toHush_201_b.2.2.2.2.1
theorem dX8_toHush_213 : decode cX8_toHush 213 = .ok (.iload_n 2, 1) := dX8_toHush_201_b.2.2.2.2.2.1
theorem dX8_toHush_214 : decode cX8_toHush 214 = .ok (.invokevirtual 188, 3) := dX8_toHush_201_b.2.2.2.2.2.2.1
theorem dX8_toHush_217 : decode cX8_toHush 217 = .ok (.bipush 12, 2) := dX8_toHush_201_b.2.2.2.2.2.2.2.1
theorem dX8_toHush_219 : decode cX8_toHush 219 = .ok (.idiv, 1) := dX8_toHush_201_b.2.2.2.2.2.2.2.2.1
theorem dX8_toHush_220 : decode cX8_toHush 220 = .ok (.iload_n 1, 1) := dX8_toHush_201_b.2.2.2.2.2.2.2.2.2.1
theorem dX8_toHush_221 : decode cX8_toHush 221 = .ok (.if_icmp .gt 8, 3) := dX8_toHush_201_b.2.2.2.2.2.2.2.2.2.2.1
theorem dX8_toHush_224 : decode cX8_toHush 224 = .ok (.iload 5, 2) := dX8_toHush_201_b.2.2.2.2.2.2.2.2.2.2.2
theorem dX8_toHush_226_b : (decode cX8_toHush 226 = .ok (.goto 5, 3)) ∧ (decode cX8_toHush 229 = .ok (.iload 4, 2)) ∧ (decode cX8_toHush 231 = .ok (.istore 4, 2)) ∧ (decode cX8_toHush 233 = .ok (.iinc 5 1, 3)) ∧ (decode cX8_toHush 236 = .ok (.goto (-186), 3)) ∧ (decode cX8_toHush 239 = .ok (.aload_n 0, 1)) ∧ (decode cX8_toHush 240 = .ok (.iload 4, 2)) ∧ (decode cX8_toHush 242 = .ok (.iload_n 3, 1)) ∧ (decode cX8_toHush 243 = .ok (.invokevirtual 200, 3)) ∧ (decode cX8_toHush 246 = .ok (.ireturn, 1)) := by decide +kernel
theorem dX8_toHush_226 : decode cX8_toHush 226 = .ok (.goto 5, 3) := dX8_toHush_226_b.1
theorem dX8_toHush_229 : decode cX8_toHush 229 = .ok (.iload 4, 2) := dX8_toHush_226_b.2.1
theorem dX8_toHush_231 : decode cX8_toHush 231 = .ok (.istore 4, 2) := dX8_toHush_226_b.2.2.1
theorem dX8_toHush_233 : decode cX8_toHush 233 = .ok (.iinc 5 1, 3) := dX8_toHush_226_b.2.2.2.1
theorem dX8_toHush_236 : decode cX8_toHush 236 = .ok (.goto (-186), 3) := dX8_toHush_226_b.2.2.2.2.1
theorem dX8_toHush_239 : decode cX8_toHush 239 = .ok (.aload_n 0, 1) := dX8_toHush_226_b.2.2.2.2.2.1
theorem dX8_toHush_240 : decode cX8_toHush 240 = .ok (.iload 4, 2) := dX8_toHush_226_b.2.2.2.2.2.2.1
theorem dX8_toHush_242 : decode cX8_toHush 242 = .ok (.iload_n 3, 1) := dX8_toHush_226_b.2.2.2.2.2.2.2.1
theorem dX8_toHush_243 : decode cX8_toHush 243 = .ok (.invokevirtual 200, 3) := dX8_toHush_226_b.2.2.2.2.2.2.2.2.1
theorem dX8_toHush_246 : decode cX8_toHush 246 = .ok (.ireturn, 1) := dX8_toHush_226_b.2.2.2.2.2.2.2.2.2
theorem dX8_toCall_0_b : (decode cX8_toCall 0 = .ok (.aload_n 0, 1)) ∧ (decode cX8_toCall 1 = .ok (.invokevirtual 171, 3)) ∧ (decode cX8_toCall 4 = .ok (.ifCond .ne 6, 3)) ∧ (decode cX8_toCall 7 = .ok (.ldc 174, 2)) ∧ (decode cX8_toCall 9 = .ok (.ireturn, 1)) ∧ (decode cX8_toCall 10 = .ok (.iload_n 1, 1)) ∧ (decode cX8_toCall 11 = .ok (.iconst 0, 1)) ∧ (decode cX8_toCall 12 = .ok (.sipush 999, 3)) ∧ (decode cX8_toCall 15 = .ok (.invokestatic 56, 3)) ∧ (decode cX8_toCall 18 = .ok (.ifCond .eq 22, 3)) ∧ (decode cX8_toCall 21 = .ok (.iload_n 2, 1)) ∧ (decode cX8_toCall 22 = .ok (.iconst 0, 1)) := by decide +kernel
theorem dX8_toCall_0 : decode cX8_toCall 0 = .ok (.aload_n 0, 1) := dX8_toCall_0_b.1
theorem dX8_toCall_1 : decode cX8_toCall 1 = .ok (.invokevirtual 171, 3) := dX8_toCall_0_b.2.1
theorem dX8_toCall_4 : decode cX8_toCall 4 = .ok (.ifCond .ne 6, 3) := dX8_toCall_0_b.2.2.1
theorem dX8_toCall_7 : decode cX8_toCall 7 = .ok (.ldc 174, 2) := dX8_toCall_0_b.2.2.2.1
theorem dX8_toCall_9 : decode cX8_toCall 9 = .ok (.ireturn, 1) := dX8_toCall_0_b.2.2.2.2.1
theorem dX8_toCall_10 : decode cX8_toCall 10 = .ok (.iload_n 1, 1) := dX8_toCall_0_b.2.2.2.2.2.1
theorem dX8_toCall_11 : decode cX8_toCall 11 = .ok (.iconst 0, 1) := dX8_toCall_0_b.2.2.2.2.2.2.1
theorem dX8_toCall_12 : decode cX8_toCall 12 = .ok (.sipush 999, 3) := dX8_toCall_0_b.2.2.2.2.2.2.2.1
theorem dX8_toCall_15 : decode cX8_toCall 15 = .ok (.invokestatic 56, 3) := dX8_toCall_0_b.2.2.2.2.2.2.2.2.1
theorem dX8_toCall_18 : decode cX8_toCall 18 = .ok (.ifCond .eq 22, 3) := dX8_toCall_0_b.2.2.2.2.2.2.2.2.2.1
theorem dX8_toCall_21 : decode cX8_toCall 21 = .ok (.iload_n 2, 1) := dX8_toCall_0_b.2.2.2.2.2.2.2.2.2.2.1
theorem dX8_toCall_22 : decode cX8_toCall 22 = .ok (.iconst 0, 1) := dX8_toCall_0_b.2.2.2.2.2.2.2.2.2.2.2
theorem dX8_toCall_23_b : (decode cX8_toCall 23 = .ok (.bipush 99, 2)) ∧ (decode cX8_toCall 25 = .ok (.invokestatic 56, 3)) ∧ (decode cX8_toCall 28 = .ok (.ifCond .eq 12, 3)) ∧ (decode cX8_toCall 31 = .ok (.iload_n 3, 1)) ∧ (decode cX8_toCall 32 = .ok (.iconst 0, 1)) ∧ (decode cX8_toCall 33 = .ok (.iconst 1, 1)) ∧ (decode cX8_toCall 34 = .ok (.invokestatic 56, 3)) ∧ (decode cX8_toCall 37 = .ok (.ifCond .ne 6, 3)) ∧ (decode cX8_toCall 40 = .ok (.ldc 64, 2)) ∧ (decode cX8_toCall 42 = .ok (.ireturn, 1)) ∧ (decode cX8_toCall 43 = .ok (.ldc 50, 2)) ∧ (decode cX8_toCall 45 = .ok (.istore 4, 2)) := by decide +kernel
theorem dX8_toCall_23 : decode cX8_toCall 23 = .ok (.bipush 99, 2) := dX8_toCall_23_b.1
theorem dX8_toCall_25 : decode cX8_toCall 25 = .ok (.invokestatic 56, 3) := dX8_toCall_23_b.2.1
theorem dX8_toCall_28 : decode cX8_toCall 28 = .ok (.ifCond .eq 12, 3) := dX8_toCall_23_b.2.2.1
theorem dX8_toCall_31 : decode cX8_toCall 31 = .ok (.iload_n 3, 1) := dX8_toCall_23_b.2.2.2.1
theorem dX8_toCall_32 : decode cX8_toCall 32 = .ok (.iconst 0, 1) := dX8_toCall_23_b.2.2.2.2.1
theorem dX8_toCall_33 : decode cX8_toCall 33 = .ok (.iconst 1, 1) := dX8_toCall_23_b.2.2.2.2.2.1
theorem dX8_toCall_34 : decode cX8_toCall 34 = .ok (.invokestatic 56, 3) := dX8_toCall_23_b.2.2.2.2.2.2.1
theorem dX8_toCall_37 : decode cX8_toCall 37 = .ok (.ifCond .ne 6, 3) := dX8_toCall_23_b.2.2.2.2.2.2.2.1
theorem dX8_toCall_40 : decode cX8_toCall 40 = .ok (.ldc 64, 2) := dX8_toCall_23_b.2.2.2.2.2.2.2.2.1
theorem dX8_toCall_42 : decode cX8_toCall 42 = .ok (.ireturn, 1) := dX8_toCall_23_b.2.2.2.2.2.2.2.2.2.1
theorem dX8_toCall_43 : decode cX8_toCall 43 = .ok (.ldc 50, 2) := dX8_toCall_23_b.2.2.2.2.2.2.2.2.2.2.1
theorem dX8_toCall_45 : decode cX8_toCall 45 = .ok (.istore 4, 2) := dX8_toCall_23_b.2.2.2.2.2.2.2.2.2.2.2
theorem dX8_toCall_47_b : (decode cX8_toCall 47 = .ok (.iconst 0, 1)) ∧ (decode cX8_toCall 48 = .ok (.istore 5, 2)) ∧ (decode cX8_toCall 50 = .ok (.iload 5, 2)) ∧ (decode cX8_toCall 52 = .ok (.iconst 1, 1)) ∧ (decode cX8_toCall 53 = .ok (.aload_n 0, 1)) ∧ (decode cX8_toCall 54 = .ok (.getfield 25, 3)) ∧ (decode cX8_toCall 57 = .ok (.iconst 4, 1)) ∧ (decode cX8_toCall 58 = .ok (.iaload, 1)) ∧ (decode cX8_toCall 59 = .ok (.ishl, 1)) ∧ (decode cX8_toCall 60 = .ok (.if_icmp .ge 183, 3)) ∧ (decode cX8_toCall 63 = .ok (.aload_n 0, 1)) ∧ (decode cX8_toCall 64 = .ok (.getfield 25, 3)) := by decide +kernel
theorem dX8_toCall_47 : decode cX8_toCall 47 = .ok (.iconst 0, 1) := dX8_toCall_47_b.1
theorem dX8_toCall_48 : decode cX8_toCall 48 = .ok (.istore 5, 2) := dX8_toCall_47_b.2.1
theorem dX8_toCall_50 : decode cX8_toCall 50 = .ok (.iload 5, 2) := dX8_toCall_47_b.2.2.1
theorem dX8_toCall_52 : decode cX8_toCall 52 = .ok (.iconst 1, 1) := dX8_toCall_47_b.2.2.2.1
theorem dX8_toCall_53 : decode cX8_toCall 53 = .ok (.aload_n 0, 1) := dX8_toCall_47_b.2.2.2.2.1
theorem dX8_toCall_54 : decode cX8_toCall 54 = .ok (.getfield 25, 3) := dX8_toCall_47_b.2.2.2.2.2.1
theorem dX8_toCall_57 : decode cX8_toCall 57 = .ok (.iconst 4, 1) := dX8_toCall_47_b.2.2.2.2.2.2.1
theorem dX8_toCall_58 : decode cX8_toCall 58 = .ok (.iaload, 1) := dX8_toCall_47_b.2.2.2.2.2.2.2.1
theorem dX8_toCall_59 : decode cX8_toCall 59 = .ok (.ishl, 1) := dX8_toCall_47_b.2.2.2.2.2.2.2.2.1
theorem dX8_toCall_60 : decode cX8_toCall 60 = .ok (.if_icmp .ge 183, 3) := dX8_toCall_47_b.2.2.2.2.2.2.2.2.2.1
theorem dX8_toCall_63 : decode cX8_toCall 63 = .ok (.aload_n 0, 1) := dX8_toCall_47_b.2.2.2.2.2.2.2.2.2.2.1
theorem dX8_toCall_64 : decode cX8_toCall 64 = .ok (.getfield 25, 3) := dX8_toCall_47_b.2.2.2.2.2.2.2.2.2.2.2
theorem dX8_toCall_67_b : (decode cX8_toCall 67 = .ok (.iconst 0, 1)) ∧ (decode cX8_toCall 68 = .ok (.aload_n 0, 1)) ∧ (decode cX8_toCall 69 = .ok (.getfield 41, 3)) ∧ (decode cX8_toCall 72 = .ok (.iconst 0, 1)) ∧ (decode cX8_toCall 73 = .ok (.invokestatic 134, 3)) ∧ (decode cX8_toCall 76 = .ok (.iconst 0, 1)) ∧ (decode cX8_toCall 77 = .ok (.istore 6, 2)) ∧ (decode cX8_toCall 79 = .ok (.iload 6, 2)) ∧ (decode cX8_toCall 81 = .ok (.aload_n 0, 1)) ∧ (decode cX8_toCall 82 = .ok (.getfield 25, 3)) ∧ (decode cX8_toCall 85 = .ok (.iconst 4, 1)) ∧ (decode cX8_toCall 86 = .ok (.iaload, 1)) := by decide +kernel
theorem dX8_toCall_67 : decode cX8_toCall 67 = .ok (.iconst 0, 1) := dX8_toCall_67_b.1
theorem dX8_toCall_68 : decode cX8_toCall 68 = .ok (.aload_n 0, 1) := dX8_toCall_67_b.2.1
theorem dX8_toCall_69 : decode cX8_toCall 69 = .ok (.getfield 41, 3) := dX8_toCall_67_b.2.2.1
theorem dX8_toCall_72 : decode cX8_toCall 72 = .ok (.iconst 0, 1) := dX8_toCall_67_b.2.2.2.1
theorem dX8_toCall_73 : decode cX8_toCall 73 = .ok (.invokestatic 134, 3) := dX8_toCall_67_b.2.2.2.2.1
theorem dX8_toCall_76 : decode cX8_toCall 76 = .ok (.iconst 0, 1) := dX8_toCall_67_b.2.2.2.2.2.1
theorem dX8_toCall_77 : decode cX8_toCall 77 = .ok (.istore 6, 2) := dX8_toCall_67_b.2.2.2.2.2.2.1
theorem dX8_toCall_79 : decode cX8_toCall 79 = .ok (.iload 6, 2) := dX8_toCall_67_b.2.2.2.2.2.2.2.1
theorem dX8_toCall_81 : decode cX8_toCall 81 = .ok (.aload_n 0, 1) := dX8_toCall_67_b.2.2.2.2.2.2.2.2.1
theorem dX8_toCall_82 : decode cX8_toCall 82 = .ok (.getfield 25, 3) := dX8_toCall_67_b.2.2.2.2.2.2.2.2.2.1
theorem dX8_toCall_85 : decode cX8_toCall 85 = .ok (.iconst 4, 1) := dX8_toCall_67_b.2.2.2.2.2.2.2.2.2.2.1
theorem dX8_toCall_86 : decode cX8_toCall 86 = .ok (.iaload, 1) := dX8_toCall_67_b.2.2.2.2.2.2.2.2.2.2.2
theorem dX8_toCall_87_b : (decode cX8_toCall 87 = .ok (.if_icmp .ge 97, 3)) ∧ (decode cX8_toCall 90 = .ok (.aload_n 0, 1)) ∧ (decode cX8_toCall 91 = .ok (.getfield 41, 3)) ∧ (decode cX8_toCall 94 = .ok (.bipush 6, 2)) ∧ (decode cX8_toCall 96 = .ok (.bipush 7, 2)) ∧ (decode cX8_toCall 98 = .ok (.iload 6, 2)) ∧ (decode cX8_toCall 100 = .ok (.imul, 1)) ∧ (decode cX8_toCall 101 = .ok (.iadd, 1)) ∧ (decode cX8_toCall 102 = .ok (.iconst 5, 1)) ∧ (decode cX8_toCall 103 = .ok (.iadd, 1)) ∧ (decode cX8_toCall 104 = .ok (.iload 5, 2)) ∧ (decode cX8_toCall 106 = .ok (.iload 6, 2)) := by decide +kernel
theorem dX8_toCall_87 : decode cX8_toCall 87 = .ok (.if_icmp .ge 97, 3) := dX8_toCall_87_b.1
theorem dX8_toCall_90 : decode cX8_toCall 90 = .ok (.aload_n 0, 1) := dX8_toCall_87_b.2.1
theorem dX8_toCall_91 : decode cX8_toCall 91 = .ok (.getfield 41, 3) := dX8_toCall_87_b.2.2.1
theorem dX8_toCall_94 : decode cX8_toCall 94 = .ok (.bipush 6, 2) := dX8_toCall_87_b.2.2.2.1
theorem dX8_toCall_96 : decode cX8_toCall 96 = .ok (.bipush 7, 2) := dX8_toCall_87_b.2.2.2.2.1
theorem dX8_toCall_98 : decode cX8_toCall 98 = .ok (.iload 6, 2) := dX8_toCall_87_b.2.2.2.2.2.1
theorem dX8_toCall_100 : decode cX8_toCall 100 = .ok (.imul, 1) := dX8_toCall_87_b.2.2.2.2.2.2.1
theorem dX8_toCall_101 : decode cX8_toCall 101 = .ok (.iadd, 1) := dX8_toCall_87_b.2.2.2.2.2.2.2.1
theorem dX8_toCall_102 : decode cX8_toCall 102 = .ok (.iconst 5, 1) := dX8_toCall_87_b.2.2.2.2.2.2.2.2.1
theorem dX8_toCall_103 : decode cX8_toCall 103 = .ok (.iadd, 1) := dX8_toCall_87_b.2.2.2.2.2.2.2.2.2.1
theorem dX8_toCall_104 : decode cX8_toCall 104 = .ok (.iload 5, 2) := dX8_toCall_87_b.2.2.2.2.2.2.2.2.2.2.1
theorem dX8_toCall_106 : decode cX8_toCall 106 = .ok (.iload 6, 2) := dX8_toCall_87_b.2.2.2.2.2.2.2.2.2.2.2
theorem dX8_toCall_108_b : (decode cX8_toCall 108 = .ok (.invokestatic 145, 3)) ∧ (decode cX8_toCall 111 = .ok (.ifCond .eq 7, 3)) ∧ (decode cX8_toCall 114 = .ok (.iconst 0, 1)) ∧ (decode cX8_toCall 115 = .ok (.goto 18, 3)) ∧ (decode cX8_toCall 118 = .ok (.aload_n 0, 1)) ∧ (decode cX8_toCall 119 = .ok (.getfield 25, 3)) ∧ (decode cX8_toCall 122 = .ok (.bipush 6, 2)) ∧ (decode cX8_toCall 124 = .ok (.bipush 7, 2)) ∧ (decode cX8_toCall 126 = .ok (.iload 6, 2)) ∧ (decode cX8_toCall 128 = .ok (.imul, 1)) ∧ (decode cX8_toCall 129 = .ok (.iadd, 1)) ∧ (decode cX8_toCall 130 = .ok (.iconst 5, 1)) := by decide +kernel
theorem dX8_toCall_108 : decode cX8_toCall 108 = .ok (.invokestatic 145, 3) := dX8_toCall_108_b.1
theorem dX8_toCall_111 : decode cX8_toCall 111 = .ok (.ifCond .eq 7, 3) := dX8_toCall_108_b.2.1
theorem dX8_toCall_114 : decode cX8_toCall 114 = .ok (.iconst 0, 1) := dX8_toCall_108_b.2.2.1
theorem dX8_toCall_115 : decode cX8_toCall 115 = .ok (.goto 18, 3) := dX8_toCall_108_b.2.2.2.1
theorem dX8_toCall_118 : decode cX8_toCall 118 = .ok (.aload_n 0, 1) := dX8_toCall_108_b.2.2.2.2.1
theorem dX8_toCall_119 : decode cX8_toCall 119 = .ok (.getfield 25, 3) := dX8_toCall_108_b.2.2.2.2.2.1
theorem dX8_toCall_122 : decode cX8_toCall 122 = .ok (.bipush 6, 2) := dX8_toCall_108_b.2.2.2.2.2.2.1
theorem dX8_toCall_124 : decode cX8_toCall 124 = .ok (.bipush 7, 2) := dX8_toCall_108_b.2.2.2.2.2.2.2.1
theorem dX8_toCall_126 : decode cX8_toCall 126 = .ok (.iload 6, 2) := dX8_toCall_108_b.2.2.2.2.2.2.2.2.1
theorem dX8_toCall_128 : decode cX8_toCall 128 = .ok (.imul, 1) := dX8_toCall_108_b.2.2.2.2.2.2.2.2.2.1
theorem dX8_toCall_129 : decode cX8_toCall 129 = .ok (.iadd, 1) := dX8_toCall_108_b.2.2.2.2.2.2.2.2.2.2.1
theorem dX8_toCall_130 : decode cX8_toCall 130 = .ok (.iconst 5, 1) := dX8_toCall_108_b.2.2.2.2.2.2.2.2.2.2.2
theorem dX8_toCall_131_b : (decode cX8_toCall 131 = .ok (.iadd, 1)) ∧ (decode cX8_toCall 132 = .ok (.iaload, 1)) ∧ (decode cX8_toCall 133 = .ok (.iastore, 1)) ∧ (decode cX8_toCall 134 = .ok (.aload_n 0, 1)) ∧ (decode cX8_toCall 135 = .ok (.getfield 41, 3)) ∧ (decode cX8_toCall 138 = .ok (.bipush 6, 2)) ∧ (decode cX8_toCall 140 = .ok (.bipush 7, 2)) ∧ (decode cX8_toCall 142 = .ok (.iload 6, 2)) ∧ (decode cX8_toCall 144 = .ok (.imul, 1)) ∧ (decode cX8_toCall 145 = .ok (.iadd, 1)) ∧ (decode cX8_toCall 146 = .ok (.iconst 2, 1)) ∧ (decode cX8_toCall 147 = .ok (.iadd, 1)) := by decide +kernel
theorem dX8_toCall_131 : decode cX8_toCall 131 = .ok (.iadd, 1) := dX8_toCall_131_b.1
theorem dX8_toCall_132 : decode cX8_toCall 132 = .ok (.iaload, 1) := dX8_toCall_131_b.2.1
theorem dX8_toCall_133 : decode cX8_toCall 133 = .ok (.iastore, 1) := dX8_toCall_131_b.2.2.1
theorem dX8_toCall_134 : decode cX8_toCall 134 = .ok (.aload_n 0, 1) := dX8_toCall_131_b.2.2.2.1
theorem dX8_toCall_135 : decode cX8_toCall 135 = .ok (.getfield 41, 3) := dX8_toCall_131_b.2.2.2.2.1
theorem dX8_toCall_138 : decode cX8_toCall 138 = .ok (.bipush 6, 2) := dX8_toCall_131_b.2.2.2.2.2.1
theorem dX8_toCall_140 : decode cX8_toCall 140 = .ok (.bipush 7, 2) := dX8_toCall_131_b.2.2.2.2.2.2.1
theorem dX8_toCall_142 : decode cX8_toCall 142 = .ok (.iload 6, 2) := dX8_toCall_131_b.2.2.2.2.2.2.2.1
theorem dX8_toCall_144 : decode cX8_toCall 144 = .ok (.imul, 1) := dX8_toCall_131_b.2.2.2.2.2.2.2.2.1
theorem dX8_toCall_145 : decode cX8_toCall 145 = .ok (.iadd, 1) := dX8_toCall_131_b.2.2.2.2.2.2.2.2.2.1
theorem dX8_toCall_146 : decode cX8_toCall 146 = .ok (.iconst 2, 1) := dX8_toCall_131_b.2.2.2.2.2.2.2.2.2.2.1
theorem dX8_toCall_147 : decode cX8_toCall 147 = .ok (.iadd, 1) := dX8_toCall_131_b.2.2.2.2.2.2.2.2.2.2.2
theorem dX8_toCall_148_b : (decode cX8_toCall 148 = .ok (.iload 5, 2)) ∧ (decode cX8_toCall 150 = .ok (.iload 6, 2)) ∧ (decode cX8_toCall 152 = .ok (.invokestatic 145, 3)) ∧ (decode cX8_toCall 155 = .ok (.ifCond .eq 7, 3)) ∧ (decode cX8_toCall 158 = .ok (.iconst 0, 1)) ∧ (decode cX8_toCall 159 = .ok (.goto 18, 3)) ∧ (decode cX8_toCall 162 = .ok (.aload_n 0, 1)) ∧ (decode cX8_toCall 163 = .ok (.getfield 25, 3)) ∧ (decode cX8_toCall 166 = .ok (.bipush 6, 2)) ∧ (decode cX8_toCall 168 = .ok (.bipush 7, 2)) ∧ (decode cX8_toCall 170 = .ok (.iload 6, 2)) ∧ (decode cX8_toCall 172 = .ok (.imul, 1)) := by decide +kernel
theorem dX8_toCall_148 : decode cX8_toCall 148 = .ok (.iload 5, 2) := dX8_toCall_148_b.1
theorem dX8_toCall_150 : decode cX8_toCall 150 = .ok (.iload 6, 2) := dX8_toCall_148_b.2.1
theorem dX8_toCall_152 : decode cX8_toCall 152 = .ok (.invokestatic 145, 3) := dX8_toCall_148_b.2.2.1
theorem dX8_toCall_155 : decode cX8_toCall 155 = .ok (.ifCond .eq 7, 3) := dX8_toCall_148_b.2.2.2.1
theorem dX8_toCall_158 : decode cX8_toCall 158 = .ok (.iconst 0, 1) := dX8_toCall_148_b.2.2.2.2.1
theorem dX8_toCall_159 : decode cX8_toCall 159 = .ok (.goto 18, 3) := dX8_toCall_148_b.2.2.2.2.2.1
theorem dX8_toCall_162 : decode cX8_toCall 162 = .ok (.aload_n 0, 1) := dX8_toCall_148_b.2.2.2.2.2.2.1
theorem dX8_toCall_163 : decode cX8_toCall 163 = .ok (.getfield 25, 3) := dX8_toCall_148_b.2.2.2.2.2.2.2.1
theorem dX8_toCall_166 : decode cX8_toCall 166 = .ok (.bipush 6, 2) := dX8_toCall_148_b.2.2.2.2.2.2.2.2.1
theorem dX8_toCall_168 : decode cX8_toCall 168 = .ok (.bipush 7, 2) := dX8_toCall_148_b.2.2.2.2.2.2.2.2.2.1
theorem dX8_toCall_170 : decode cX8_toCall 170 = .ok (.iload 6, 2) := dX8_toCall_148_b.2.2.2.2.2.2.2.2.2.2.1
theorem dX8_toCall_172 : decode cX8_toCall 172 = .ok (.imul, 1) := dX8_toCall_148_b.2.2.2.2.2.2.2.2.2.2.2
theorem dX8_toCall_173_b : (decode cX8_toCall 173 = .ok (.iadd, 1)) ∧ (decode cX8_toCall 174 = .ok (.iconst 2, 1)) ∧ (decode cX8_toCall 175 = .ok (.iadd, 1)) ∧ (decode cX8_toCall 176 = .ok (.iaload, 1)) ∧ (decode cX8_toCall 177 = .ok (.iastore, 1)) ∧ (decode cX8_toCall 178 = .ok (.iinc 6 1, 3)) ∧ (decode cX8_toCall 181 = .ok (.goto (-102), 3)) ∧ (decode cX8_toCall 184 = .ok (.iload 4, 2)) ∧ (decode cX8_toCall 186 = .ok (.ldc 50, 2)) ∧ (decode cX8_toCall 188 = .ok (.if_icmp .eq 16, 3)) ∧ (decode cX8_toCall 191 = .ok (.iload 5, 2)) ∧ (decode cX8_toCall 193 = .ok (.invokestatic 197, 3)) := by decide +kernel
theorem dX8_toCall_173 : decode cX8_toCall 173 = .ok (.iadd, 1) := dX8_toCall_173_b.1
theorem dX8_toCall_174 : decode cX8_toCall 174 = .ok (.iconst 2, 1) := dX8_toCall_173_b.2.1
theorem dX8_toCall_175 : decode cX8_toCall 175 = .ok (.iadd, 1) := dX8_toCall_173_b.2.2.1
theorem dX8_toCall_176 : decode cX8_toCall 176 = .ok (.iaload, 1) := dX8_toCall_173_b.2.2.2.1
theorem dX8_toCall_177 : decode cX8_toCall 177 = .ok (.iastore, 1) := dX8_toCall_173_b.2.2.2.2.1
theorem dX8_toCall_178 : decode cX8_toCall 178 = .ok (.iinc 6 1, 3) := dX8_toCall_173_b.2.2.2.2.2.1
theorem dX8_toCall_181 : decode cX8_toCall 181 = .ok (.goto (-102), 3) := dX8_toCall_173_b.2.2.2.2.2.2.1
theorem dX8_toCall_184 : decode cX8_toCall 184 = .ok (.iload 4, 2) := dX8_toCall_173_b.2.2.2.2.2.2.2.1
theorem dX8_toCall_186 : decode cX8_toCall 186 = .ok (.ldc 50, 2) := dX8_toCall_173_b.2.2.2.2.2.2.2.2.1
theorem dX8_toCall_188 : decode cX8_toCall 188 = .ok (.if_icmp .eq 16, 3) := dX8_toCall_173_b.2.2.2.2.2.2.2.2.2.1
theorem dX8_toCall_191 : decode cX8_toCall 191 = .ok (.iload 5, 2) := dX8_toCall_173_b.2.2.2.2.2.2.2.2.2.2.1
theorem dX8_toCall_193 : decode cX8_toCall 193 = .ok (.invokestatic 197, 3) := dX8_toCall_173_b.2.2.2.2.2.2.2.2.2.2.2
theorem dX8_toCall_196_b : (decode cX8_toCall 196 = .ok (.iload 4, 2)) ∧ (decode cX8_toCall 198 = .ok (.invokestatic 197, 3)) ∧ (decode cX8_toCall 201 = .ok (.if_icmp .ge 7, 3)) ∧ (decode cX8_toCall 204 = .ok (.iconst 1, 1)) ∧ (decode cX8_toCall 205 = .ok (.goto 4, 3)) ∧ (decode cX8_toCall 208 = .ok (.iconst 0, 1)) ∧ (decode cX8_toCall 209 = .ok (.istore 6, 2)) ∧ (decode cX8_toCall 211 = .ok (.iload 6, 2)) ∧ (decode cX8_toCall 213 = .ok (.ifCond .eq 20, 3)) ∧ (decode cX8_toCall 216 = .ok (.aload_n 0, 1)) ∧ (decode cX8_toCall 217 = .ok (.iload_n 2, 1)) ∧ (decode cX8_toCall 218 = .ok (.invokevirtual 188, 3)) := by decide +kernel
theorem dX8_toCall_196 : decode cX8_toCall 196 = .ok (.iload 4, 2) := dX8_toCall_196_b.1
theorem dX8_toCall_198 : decode cX8_toCall 198 = .ok (.invokestatic 197, 3) := dX8_toCall_196_b.2.1
theorem dX8_toCall_201 : decode cX8_toCall 201 = .ok (.if_icmp .ge 7, 3) := dX8_toCall_196_b.2.2.1
theorem dX8_toCall_204 : decode cX8_toCall 204 = .ok (.iconst 1, 1) := dX8_toCall_196_b.2.2.2.1
theorem dX8_toCall_205 : decode cX8_toCall 205 = .ok (.goto 4, 3) := dX8_toCall_196_b.2.2.2.2.1
theorem dX8_toCall_208 : decode cX8_toCall 208 = .ok (.iconst 0, 1) := dX8_toCall_196_b.2.2.2.2.2.1
theorem dX8_toCall_209 : decode cX8_toCall 209 = .ok (.istore 6, 2) := dX8_toCall_196_b.2.2.2.2.2.2.1
theorem dX8_toCall_211 : decode cX8_toCall 211 = .ok (.iload 6, 2) := dX8_toCall_196_b.2.2.2.2.2.2.2.1
theorem dX8_toCall_213 : decode cX8_toCall 213 = .ok (.ifCond .eq 20, 3) := dX8_toCall_196_b.2.2.2.2.2.2.2.2.1
theorem dX8_toCall_216 : decode cX8_toCall 216 = .ok (.aload_n 0, 1) := dX8_toCall_196_b.2.2.2.2.2.2.2.2.2.1
theorem dX8_toCall_217 : decode cX8_toCall 217 = .ok (.iload_n 2, 1) := dX8_toCall_196_b.2.2.2.2.2.2.2.2.2.2.1
theorem dX8_toCall_218 : decode cX8_toCall 218 = .ok (.invokevirtual 188, 3) := dX8_toCall_196_b.2.2.2.2.2.2.2.2.2.2.2
theorem dX8_toCall_221_b : (decode cX8_toCall 221 = .ok (.bipush 12, 2)) ∧ (decode cX8_toCall 223 = .ok (.idiv, 1)) ∧ (decode cX8_toCall 224 = .ok (.iload_n 1, 1)) ∧ (decode cX8_toCall 225 = .ok (.if_icmp .lt 8, 3)) ∧ (decode cX8_toCall 228 = .ok (.iload 5, 2)) ∧ (decode cX8_toCall 230 = .ok (.goto 5, 3)) ∧ (decode cX8_toCall 233 = .ok (.iload 4, 2)) ∧ (decode cX8_toCall 235 = .ok (.istore 4, 2)) ∧ (decode cX8_toCall 237 = .ok (.iinc 5 1, 3)) ∧ (decode cX8_toCall 240 = .ok (.goto (-190), 3)) ∧ (decode cX8_toCall 243 = .ok (.aload_n 0, 1)) ∧ (decode cX8_toCall 244 = .ok (.iload 4, 2)) := by decide +kernel
theorem dX8_toCall_221 : decode cX8_toCall 221 = .ok (.bipush 12, 2) := dX8_toCall_221_b.1
theorem dX8_toCall_223 : decode cX8_toCall 223 = .ok (.idiv, 1) := dX8_toCall_221_b.2.1
theorem dX8_toCall_224 : decode cX8_toCall 224 = .ok (.iload_n 1, 1) := dX8_toCall_221_b.2.2.1
theorem dX8_toCall_225 : decode cX8_toCall 225 = .ok (.if_icmp .lt 8, 3) := dX8_toCall_221_b.2.2.2.1
theorem dX8_toCall_228 : decode cX8_toCall 228 = .ok (.iload 5, 2) := dX8_toCall_221_b.2.2.2.2.1
theorem dX8_toCall_230 : decode cX8_toCall 230 = .ok (.goto 5, 3) := dX8_toCall_221_b.2.2.2.2.2.1
theorem dX8_toCall_233 : decode cX8_toCall 233 = .ok (.iload 4, 2) := dX8_toCall_221_b.2.2.2.2.2.2.1
theorem dX8_toCall_235 : decode cX8_toCall 235 = .ok (.istore 4, 2) := dX8_toCall_221_b.2.2.2.2.2.2.2.1
theorem dX8_toCall_237 : decode cX8_toCall 237 = .ok (.iinc 5 1, 3) := dX8_toCall_221_b.2.2.2.2.2.2.2.2.1
theorem dX8_toCall_240 : decode cX8_toCall 240 = .ok (.goto (-190), 3) := dX8_toCall_221_b.2.2.2.2.2.2.2.2.2.1
theorem dX8_toCall_243 : decode cX8_toCall 243 = .ok (.aload_n 0, 1) := dX8_toCall_221_b.2.2.2.2.2.2.2.2.2.2.1
theorem dX8_toCall_244 : decode cX8_toCall 244 = .ok (.iload 4, 2) := dX8_toCall_221_b.2.2.2.2.2.2.2.2.2.2.2
theorem dX8_toCall_246_b : (decode cX8_toCall 246 = .ok (.iload_n 3, 1)) ∧ (decode cX8_toCall 247 = .ok (.invokevirtual 200, 3)) ∧ (decode cX8_toCall 250 = .ok (.ireturn, 1)) := by decide +kernel
theorem dX8_toCall_246 : decode cX8_toCall 246 = .ok (.iload_n 3, 1) := dX8_toCall_246_b.1
theorem dX8_toCall_247 : decode cX8_toCall 247 = .ok (.invokevirtual 200, 3) := dX8_toCall_246_b.2.1
theorem dX8_toCall_250 : decode cX8_toCall 250 = .ok (.ireturn, 1) := dX8_toCall_246_b.2.2
theorem dX8_goesSo_0_b : (decode cX8_goesSo 0 = .ok (.iconst 1, 1)) ∧ (decode cX8_goesSo 1 = .ok (.istore_n 3, 1)) ∧ (decode cX8_goesSo 2 = .ok (.iconst 0, 1)) ∧ (decode cX8_goesSo 3 = .ok (.istore 4, 2)) ∧ (decode cX8_goesSo 5 = .ok (.iload 4, 2)) ∧ (decode cX8_goesSo 7 = .ok (.iload_n 2, 1)) ∧ (decode cX8_goesSo 8 = .ok (.if_icmp .ge 45, 3)) ∧ (decode cX8_goesSo 11 = .ok (.iload_n 3, 1)) ∧ (decode cX8_goesSo 12 = .ok (.ifCond .eq 41, 3)) ∧ (decode cX8_goesSo 15 = .ok (.aload_n 0, 1)) ∧ (decode cX8_goesSo 16 = .ok (.getfield 41, 3)) ∧ (decode cX8_goesSo 19 = .ok (.invokestatic 164, 3)) := by decide +kernel
theorem dX8_goesSo_0 : decode cX8_goesSo 0 = .ok (.iconst 1, 1) := dX8_goesSo_0_b.1
theorem dX8_goesSo_1 : decode cX8_goesSo 1 = .ok (.istore_n 3, 1) := dX8_goesSo_0_b.2.1
theorem dX8_goesSo_2 : decode cX8_goesSo 2 = .ok (.iconst 0, 1) := dX8_goesSo_0_b.2.2.1
theorem dX8_goesSo_3 : decode cX8_goesSo 3 = .ok (.istore 4, 2) := dX8_goesSo_0_b.2.2.2.1
theorem dX8_goesSo_5 : decode cX8_goesSo 5 = .ok (.iload 4, 2) := dX8_goesSo_0_b.2.2.2.2.1
theorem dX8_goesSo_7 : decode cX8_goesSo 7 = .ok (.iload_n 2, 1) := dX8_goesSo_0_b.2.2.2.2.2.1
theorem dX8_goesSo_8 : decode cX8_goesSo 8 = .ok (.if_icmp .ge 45, 3) := dX8_goesSo_0_b.2.2.2.2.2.2.1
theorem dX8_goesSo_11 : decode cX8_goesSo 11 = .ok (.iload_n 3, 1) := dX8_goesSo_0_b.2.2.2.2.2.2.2.1
theorem dX8_goesSo_12 : decode cX8_goesSo 12 = .ok (.ifCond .eq 41, 3) := dX8_goesSo_0_b.2.2.2.2.2.2.2.2.1
theorem dX8_goesSo_15 : decode cX8_goesSo 15 = .ok (.aload_n 0, 1) := dX8_goesSo_0_b.2.2.2.2.2.2.2.2.2.1
theorem dX8_goesSo_16 : decode cX8_goesSo 16 = .ok (.getfield 41, 3) := dX8_goesSo_0_b.2.2.2.2.2.2.2.2.2.2.1
theorem dX8_goesSo_19 : decode cX8_goesSo 19 = .ok (.invokestatic 164, 3) := dX8_goesSo_0_b.2.2.2.2.2.2.2.2.2.2.2
theorem dX8_goesSo_22_b : (decode cX8_goesSo 22 = .ok (.aload_n 0, 1)) ∧ (decode cX8_goesSo 23 = .ok (.getfield 16, 3)) ∧ (decode cX8_goesSo 26 = .ok (.iload_n 1, 1)) ∧ (decode cX8_goesSo 27 = .ok (.iload 4, 2)) ∧ (decode cX8_goesSo 29 = .ok (.iadd, 1)) ∧ (decode cX8_goesSo 30 = .ok (.iaload, 1)) ∧ (decode cX8_goesSo 31 = .ok (.if_icmp .ne 7, 3)) ∧ (decode cX8_goesSo 34 = .ok (.iconst 1, 1)) ∧ (decode cX8_goesSo 35 = .ok (.goto 4, 3)) ∧ (decode cX8_goesSo 38 = .ok (.iconst 0, 1)) ∧ (decode cX8_goesSo 39 = .ok (.istore_n 3, 1)) ∧ (decode cX8_goesSo 40 = .ok (.aload_n 0, 1)) := by decide +kernel
theorem dX8_goesSo_22 : decode cX8_goesSo 22 = .ok (.aload_n 0, 1) := dX8_goesSo_22_b.1
theorem dX8_goesSo_23 : decode cX8_goesSo 23 = .ok (.getfield 16, 3) := dX8_goesSo_22_b.2.1
theorem dX8_goesSo_26 : decode cX8_goesSo 26 = .ok (.iload_n 1, 1) := dX8_goesSo_22_b.2.2.1
theorem dX8_goesSo_27 : decode cX8_goesSo 27 = .ok (.iload 4, 2) := dX8_goesSo_22_b.2.2.2.1
theorem dX8_goesSo_29 : decode cX8_goesSo 29 = .ok (.iadd, 1) := dX8_goesSo_22_b.2.2.2.2.1
theorem dX8_goesSo_30 : decode cX8_goesSo 30 = .ok (.iaload, 1) := dX8_goesSo_22_b.2.2.2.2.2.1
theorem dX8_goesSo_31 : decode cX8_goesSo 31 = .ok (.if_icmp .ne 7, 3) := dX8_goesSo_22_b.2.2.2.2.2.2.1
theorem dX8_goesSo_34 : decode cX8_goesSo 34 = .ok (.iconst 1, 1) := dX8_goesSo_22_b.2.2.2.2.2.2.2.1
theorem dX8_goesSo_35 : decode cX8_goesSo 35 = .ok (.goto 4, 3) := dX8_goesSo_22_b.2.2.2.2.2.2.2.2.1
theorem dX8_goesSo_38 : decode cX8_goesSo 38 = .ok (.iconst 0, 1) := dX8_goesSo_22_b.2.2.2.2.2.2.2.2.2.1
theorem dX8_goesSo_39 : decode cX8_goesSo 39 = .ok (.istore_n 3, 1) := dX8_goesSo_22_b.2.2.2.2.2.2.2.2.2.2.1
theorem dX8_goesSo_40 : decode cX8_goesSo 40 = .ok (.aload_n 0, 1) := dX8_goesSo_22_b.2.2.2.2.2.2.2.2.2.2.2
theorem dX8_goesSo_41_b : (decode cX8_goesSo 41 = .ok (.getfield 41, 3)) ∧ (decode cX8_goesSo 44 = .ok (.invokestatic 167, 3)) ∧ (decode cX8_goesSo 47 = .ok (.iinc 4 1, 3)) ∧ (decode cX8_goesSo 50 = .ok (.goto (-45), 3)) ∧ (decode cX8_goesSo 53 = .ok (.iload_n 3, 1)) ∧ (decode cX8_goesSo 54 = .ok (.ireturn, 1)) := by decide +kernel
theorem dX8_goesSo_41 : decode cX8_goesSo 41 = .ok (.getfield 41, 3) := dX8_goesSo_41_b.1
theorem dX8_goesSo_44 : decode cX8_goesSo 44 = .ok (.invokestatic 167, 3) := dX8_goesSo_41_b.2.1
theorem dX8_goesSo_47 : decode cX8_goesSo 47 = .ok (.iinc 4 1, 3) := dX8_goesSo_41_b.2.2.1
theorem dX8_goesSo_50 : decode cX8_goesSo 50 = .ok (.goto (-45), 3) := dX8_goesSo_41_b.2.2.2.1
theorem dX8_goesSo_53 : decode cX8_goesSo 53 = .ok (.iload_n 3, 1) := dX8_goesSo_41_b.2.2.2.2.1
theorem dX8_goesSo_54 : decode cX8_goesSo 54 = .ok (.ireturn, 1) := dX8_goesSo_41_b.2.2.2.2.2
theorem dX8_who_0_b : (decode cX8_who 0 = .ok (.aload_n 0, 1)) ∧ (decode cX8_who 1 = .ok (.invokevirtual 171, 3)) ∧ (decode cX8_who 4 = .ok (.ifCond .ne 6, 3)) ∧ (decode cX8_who 7 = .ok (.ldc 174, 2)) ∧ (decode cX8_who 9 = .ok (.ireturn, 1)) ∧ (decode cX8_who 10 = .ok (.iload_n 1, 1)) ∧ (decode cX8_who 11 = .ok (.invokestatic 60, 3)) ∧ (decode cX8_who 14 = .ok (.ifCond .eq 23, 3)) ∧ (decode cX8_who 17 = .ok (.iload_n 3, 1)) ∧ (decode cX8_who 18 = .ok (.iconst 1, 1)) ∧ (decode cX8_who 19 = .ok (.bipush 16, 2)) ∧ (decode cX8_who 21 = .ok (.invokestatic 56, 3)) := by decide +kernel
theorem dX8_who_0 : decode cX8_who 0 = .ok (.aload_n 0, 1) := dX8_who_0_b.1
theorem dX8_who_1 : decode cX8_who 1 = .ok (.invokevirtual 171, 3) := dX8_who_0_b.2.1
theorem dX8_who_4 : decode cX8_who 4 = .ok (.ifCond .ne 6, 3) := dX8_who_0_b.2.2.1
theorem dX8_who_7 : decode cX8_who 7 = .ok (.ldc 174, 2) := dX8_who_0_b.2.2.2.1
theorem dX8_who_9 : decode cX8_who 9 = .ok (.ireturn, 1) := dX8_who_0_b.2.2.2.2.1
theorem dX8_who_10 : decode cX8_who 10 = .ok (.iload_n 1, 1) := dX8_who_0_b.2.2.2.2.2.1
theorem dX8_who_11 : decode cX8_who 11 = .ok (.invokestatic 60, 3) := dX8_who_0_b.2.2.2.2.2.2.1
theorem dX8_who_14 : decode cX8_who 14 = .ok (.ifCond .eq 23, 3) := dX8_who_0_b.2.2.2.2.2.2.2.1
theorem dX8_who_17 : decode cX8_who 17 = .ok (.iload_n 3, 1) := dX8_who_0_b.2.2.2.2.2.2.2.2.1
theorem dX8_who_18 : decode cX8_who 18 = .ok (.iconst 1, 1) := dX8_who_0_b.2.2.2.2.2.2.2.2.2.1
theorem dX8_who_19 : decode cX8_who 19 = .ok (.bipush 16, 2) := dX8_who_0_b.2.2.2.2.2.2.2.2.2.2.1
theorem dX8_who_21 : decode cX8_who 21 = .ok (.invokestatic 56, 3) := dX8_who_0_b.2.2.2.2.2.2.2.2.2.2.2
theorem dX8_who_24_b : (decode cX8_who 24 = .ok (.ifCond .eq 13, 3)) ∧ (decode cX8_who 27 = .ok (.iload 4, 2)) ∧ (decode cX8_who 29 = .ok (.iconst 0, 1)) ∧ (decode cX8_who 30 = .ok (.iconst 1, 1)) ∧ (decode cX8_who 31 = .ok (.invokestatic 56, 3)) ∧ (decode cX8_who 34 = .ok (.ifCond .ne 6, 3)) ∧ (decode cX8_who 37 = .ok (.ldc 64, 2)) ∧ (decode cX8_who 39 = .ok (.ireturn, 1)) ∧ (decode cX8_who 40 = .ok (.aload_n 0, 1)) ∧ (decode cX8_who 41 = .ok (.iload_n 1, 1)) ∧ (decode cX8_who 42 = .ok (.invokevirtual 72, 3)) ∧ (decode cX8_who 45 = .ok (.ifCond .eq 9, 3)) := by decide +kernel
theorem dX8_who_24 : decode cX8_who 24 = .ok (.ifCond .eq 13, 3) := dX8_who_24_b.1
theorem dX8_who_27 : decode cX8_who 27 = .ok (.iload 4, 2) := dX8_who_24_b.2.1
theorem dX8_who_29 : decode cX8_who 29 = .ok (.iconst 0, 1) := dX8_who_24_b.2.2.1
theorem dX8_who_30 : decode cX8_who 30 = .ok (.iconst 1, 1) := dX8_who_24_b.2.2.2.1
theorem dX8_who_31 : decode cX8_who 31 = .ok (.invokestatic 56, 3) := dX8_who_24_b.2.2.2.2.1
theorem dX8_who_34 : decode cX8_who 34 = .ok (.ifCond .ne 6, 3) := dX8_who_24_b.2.2.2.2.2.1
theorem dX8_who_37 : decode cX8_who 37 = .ok (.ldc 64, 2) := dX8_who_24_b.2.2.2.2.2.2.1
theorem dX8_who_39 : decode cX8_who 39 = .ok (.ireturn, 1) := dX8_who_24_b.2.2.2.2.2.2.2.1
theorem dX8_who_40 : decode cX8_who 40 = .ok (.aload_n 0, 1) := dX8_who_24_b.2.2.2.2.2.2.2.2.1
theorem dX8_who_41 : decode cX8_who 41 = .ok (.iload_n 1, 1) := dX8_who_24_b.2.2.2.2.2.2.2.2.2.1
theorem dX8_who_42 : decode cX8_who 42 = .ok (.invokevirtual 72, 3) := dX8_who_24_b.2.2.2.2.2.2.2.2.2.2.1
theorem dX8_who_45 : decode cX8_who 45 = .ok (.ifCond .eq 9, 3) := dX8_who_24_b.2.2.2.2.2.2.2.2.2.2.2
theorem dX8_who_48_b : (decode cX8_who 48 = .ok (.aload_n 0, 1)) ∧ (decode cX8_who 49 = .ok (.iconst 1, 1)) ∧ (decode cX8_who 50 = .ok (.invokevirtual 65, 3)) ∧ (decode cX8_who 53 = .ok (.ireturn, 1)) ∧ (decode cX8_who 54 = .ok (.aload_n 0, 1)) ∧ (decode cX8_who 55 = .ok (.iload_n 1, 1)) ∧ (decode cX8_who 56 = .ok (.iload_n 2, 1)) ∧ (decode cX8_who 57 = .ok (.iload_n 3, 1)) ∧ (decode cX8_who 58 = .ok (.invokevirtual 79, 3)) ∧ (decode cX8_who 61 = .ok (.ifCond .ne 9, 3)) ∧ (decode cX8_who 64 = .ok (.aload_n 0, 1)) ∧ (decode cX8_who 65 = .ok (.iconst 2, 1)) := by decide +kernel
theorem dX8_who_48 : decode cX8_who 48 = .ok (.aload_n 0, 1) := dX8_who_48_b.1
theorem dX8_who_49 : decode cX8_who 49 = .ok (.iconst 1, 1) := dX8_who_48_b.2.1
theorem dX8_who_50 : decode cX8_who 50 = .ok (.invokevirtual 65, 3) := dX8_who_48_b.2.2.1
theorem dX8_who_53 : decode cX8_who 53 = .ok (.ireturn, 1) := dX8_who_48_b.2.2.2.1
theorem dX8_who_54 : decode cX8_who 54 = .ok (.aload_n 0, 1) := dX8_who_48_b.2.2.2.2.1
theorem dX8_who_55 : decode cX8_who 55 = .ok (.iload_n 1, 1) := dX8_who_48_b.2.2.2.2.2.1
theorem dX8_who_56 : decode cX8_who 56 = .ok (.iload_n 2, 1) := dX8_who_48_b.2.2.2.2.2.2.1
theorem dX8_who_57 : decode cX8_who 57 = .ok (.iload_n 3, 1) := dX8_who_48_b.2.2.2.2.2.2.2.1
theorem dX8_who_58 : decode cX8_who 58 = .ok (.invokevirtual 79, 3) := dX8_who_48_b.2.2.2.2.2.2.2.2.1
theorem dX8_who_61 : decode cX8_who 61 = .ok (.ifCond .ne 9, 3) := dX8_who_48_b.2.2.2.2.2.2.2.2.2.1
theorem dX8_who_64 : decode cX8_who 64 = .ok (.aload_n 0, 1) := dX8_who_48_b.2.2.2.2.2.2.2.2.2.2.1
theorem dX8_who_65 : decode cX8_who 65 = .ok (.iconst 2, 1) := dX8_who_48_b.2.2.2.2.2.2.2.2.2.2.2
theorem dX8_who_66_b : (decode cX8_who 66 = .ok (.invokevirtual 65, 3)) ∧ (decode cX8_who 69 = .ok (.ireturn, 1)) ∧ (decode cX8_who 70 = .ok (.iconst 0, 1)) ∧ (decode cX8_who 71 = .ok (.istore 5, 2)) ∧ (decode cX8_who 73 = .ok (.ldc 50, 2)) ∧ (decode cX8_who 75 = .ok (.istore 6, 2)) ∧ (decode cX8_who 77 = .ok (.iconst 0, 1)) ∧ (decode cX8_who 78 = .ok (.istore 7, 2)) ∧ (decode cX8_who 80 = .ok (.iload 7, 2)) ∧ (decode cX8_who 82 = .ok (.iconst 1, 1)) ∧ (decode cX8_who 83 = .ok (.aload_n 0, 1)) ∧ (decode cX8_who 84 = .ok (.getfield 25, 3)) := by decide +kernel
theorem dX8_who_66 : decode cX8_who 66 = .ok (.invokevirtual 65, 3) := dX8_who_66_b.1
theorem dX8_who_69 : decode cX8_who 69 = .ok (.ireturn, 1) := dX8_who_66_b.2.1
theorem dX8_who_70 : decode cX8_who 70 = .ok (.iconst 0, 1) := dX8_who_66_b.2.2.1
theorem dX8_who_71 : decode cX8_who 71 = .ok (.istore 5, 2) := dX8_who_66_b.2.2.2.1
theorem dX8_who_73 : decode cX8_who 73 = .ok (.ldc 50, 2) := dX8_who_66_b.2.2.2.2.1
theorem dX8_who_75 : decode cX8_who 75 = .ok (.istore 6, 2) := dX8_who_66_b.2.2.2.2.2.1
theorem dX8_who_77 : decode cX8_who 77 = .ok (.iconst 0, 1) := dX8_who_66_b.2.2.2.2.2.2.1
theorem dX8_who_78 : decode cX8_who 78 = .ok (.istore 7, 2) := dX8_who_66_b.2.2.2.2.2.2.2.1
theorem dX8_who_80 : decode cX8_who 80 = .ok (.iload 7, 2) := dX8_who_66_b.2.2.2.2.2.2.2.2.1
theorem dX8_who_82 : decode cX8_who 82 = .ok (.iconst 1, 1) := dX8_who_66_b.2.2.2.2.2.2.2.2.2.1
theorem dX8_who_83 : decode cX8_who 83 = .ok (.aload_n 0, 1) := dX8_who_66_b.2.2.2.2.2.2.2.2.2.2.1
theorem dX8_who_84 : decode cX8_who 84 = .ok (.getfield 25, 3) := dX8_who_66_b.2.2.2.2.2.2.2.2.2.2.2
theorem dX8_who_87_b : (decode cX8_who 87 = .ok (.iconst 4, 1)) ∧ (decode cX8_who 88 = .ok (.iaload, 1)) ∧ (decode cX8_who 89 = .ok (.ishl, 1)) ∧ (decode cX8_who 90 = .ok (.if_icmp .ge 135, 3)) ∧ (decode cX8_who 93 = .ok (.aload_n 0, 1)) ∧ (decode cX8_who 94 = .ok (.getfield 25, 3)) ∧ (decode cX8_who 97 = .ok (.iconst 0, 1)) ∧ (decode cX8_who 98 = .ok (.aload_n 0, 1)) ∧ (decode cX8_who 99 = .ok (.getfield 41, 3)) ∧ (decode cX8_who 102 = .ok (.iconst 0, 1)) ∧ (decode cX8_who 103 = .ok (.invokestatic 134, 3)) ∧ (decode cX8_who 106 = .ok (.iconst 0, 1)) := by decide +kernel
theorem dX8_who_87 : decode cX8_who 87 = .ok (.iconst 4, 1) := dX8_who_87_b.1
theorem dX8_who_88 : decode cX8_who 88 = .ok (.iaload, 1) := dX8_who_87_b.2.1
theorem dX8_who_89 : decode cX8_who 89 = .ok (.ishl, 1) := dX8_who_87_b.2.2.1
theorem dX8_who_90 : decode cX8_who 90 = .ok (.if_icmp .ge 135, 3) := dX8_who_87_b.2.2.2.1
theorem dX8_who_93 : decode cX8_who 93 = .ok (.aload_n 0, 1) := dX8_who_87_b.2.2.2.2.1
theorem dX8_who_94 : decode cX8_who 94 = .ok (.getfield 25, 3) := dX8_who_87_b.2.2.2.2.2.1
theorem dX8_who_97 : decode cX8_who 97 = .ok (.iconst 0, 1) := dX8_who_87_b.2.2.2.2.2.2.1
theorem dX8_who_98 : decode cX8_who 98 = .ok (.aload_n 0, 1) := dX8_who_87_b.2.2.2.2.2.2.2.1
theorem dX8_who_99 : decode cX8_who 99 = .ok (.getfield 41, 3) := dX8_who_87_b.2.2.2.2.2.2.2.2.1
theorem dX8_who_102 : decode cX8_who 102 = .ok (.iconst 0, 1) := dX8_who_87_b.2.2.2.2.2.2.2.2.2.1
theorem dX8_who_103 : decode cX8_who 103 = .ok (.invokestatic 134, 3) := dX8_who_87_b.2.2.2.2.2.2.2.2.2.2.1
theorem dX8_who_106 : decode cX8_who 106 = .ok (.iconst 0, 1) := dX8_who_87_b.2.2.2.2.2.2.2.2.2.2.2
theorem dX8_who_107_b : (decode cX8_who 107 = .ok (.istore 8, 2)) ∧ (decode cX8_who 109 = .ok (.iload 8, 2)) ∧ (decode cX8_who 111 = .ok (.aload_n 0, 1)) ∧ (decode cX8_who 112 = .ok (.getfield 25, 3)) ∧ (decode cX8_who 115 = .ok (.iconst 4, 1)) ∧ (decode cX8_who 116 = .ok (.iaload, 1)) ∧ (decode cX8_who 117 = .ok (.if_icmp .ge 55, 3)) ∧ (decode cX8_who 120 = .ok (.aload_n 0, 1)) ∧ (decode cX8_who 121 = .ok (.getfield 41, 3)) ∧ (decode cX8_who 124 = .ok (.bipush 6, 2)) ∧ (decode cX8_who 126 = .ok (.bipush 7, 2)) ∧ (decode cX8_who 128 = .ok (.iload 8, 2)) := by decide +kernel
theorem dX8_who_107 : decode cX8_who 107 = .ok (.istore 8, 2) := dX8_who_107_b.1
theorem dX8_who_109 : decode cX8_who 109 = .ok (.iload 8, 2) := dX8_who_107_b.2.1
theorem dX8_who_111 : decode cX8_who 111 = .ok (.aload_n 0, 1) := dX8_who_107_b.2.2.1
theorem dX8_who_112 : decode cX8_who 112 = .ok (.getfield 25, 3) := dX8_who_107_b.2.2.2.1
theorem dX8_who_115 : decode cX8_who 115 = .ok (.iconst 4, 1) := dX8_who_107_b.2.2.2.2.1
theorem dX8_who_116 : decode cX8_who 116 = .ok (.iaload, 1) := dX8_who_107_b.2.2.2.2.2.1
theorem dX8_who_117 : decode cX8_who 117 = .ok (.if_icmp .ge 55, 3) := dX8_who_107_b.2.2.2.2.2.2.1
theorem dX8_who_120 : decode cX8_who 120 = .ok (.aload_n 0, 1) := dX8_who_107_b.2.2.2.2.2.2.2.1
theorem dX8_who_121 : decode cX8_who 121 = .ok (.getfield 41, 3) := dX8_who_107_b.2.2.2.2.2.2.2.2.1
theorem dX8_who_124 : decode cX8_who 124 = .ok (.bipush 6, 2) := dX8_who_107_b.2.2.2.2.2.2.2.2.2.1
theorem dX8_who_126 : decode cX8_who 126 = .ok (.bipush 7, 2) := dX8_who_107_b.2.2.2.2.2.2.2.2.2.2.1
theorem dX8_who_128 : decode cX8_who 128 = .ok (.iload 8, 2) := dX8_who_107_b.2.2.2.2.2.2.2.2.2.2.2
theorem dX8_who_130_b : (decode cX8_who 130 = .ok (.imul, 1)) ∧ (decode cX8_who 131 = .ok (.iadd, 1)) ∧ (decode cX8_who 132 = .ok (.iconst 5, 1)) ∧ (decode cX8_who 133 = .ok (.iadd, 1)) ∧ (decode cX8_who 134 = .ok (.iconst 0, 1)) ∧ (decode cX8_who 135 = .ok (.iastore, 1)) ∧ (decode cX8_who 136 = .ok (.aload_n 0, 1)) ∧ (decode cX8_who 137 = .ok (.getfield 41, 3)) ∧ (decode cX8_who 140 = .ok (.bipush 6, 2)) ∧ (decode cX8_who 142 = .ok (.bipush 7, 2)) ∧ (decode cX8_who 144 = .ok (.iload 8, 2)) ∧ (decode cX8_who 146 = .ok (.imul, 1)) := by decide +kernel
theorem dX8_who_130 : decode cX8_who 130 = .ok (.imul, 1) := dX8_who_130_b.1
theorem dX8_who_131 : decode cX8_who 131 = .ok (.iadd, 1) := dX8_who_130_b.2.1
theorem dX8_who_132 : decode cX8_who 132 = .ok (.iconst 5, 1) := dX8_who_130_b.2.2.1
theorem dX8_who_133 : decode cX8_who 133 = .ok (.iadd, 1) := dX8_who_130_b.2.2.2.1
theorem dX8_who_134 : decode cX8_who 134 = .ok (.iconst 0, 1) := dX8_who_130_b.2.2.2.2.1
theorem dX8_who_135 : decode cX8_who 135 = .ok (.iastore, 1) := dX8_who_130_b.2.2.2.2.2.1
theorem dX8_who_136 : decode cX8_who 136 = .ok (.aload_n 0, 1) := dX8_who_130_b.2.2.2.2.2.2.1
theorem dX8_who_137 : decode cX8_who 137 = .ok (.getfield 41, 3) := dX8_who_130_b.2.2.2.2.2.2.2.1
theorem dX8_who_140 : decode cX8_who 140 = .ok (.bipush 6, 2) := dX8_who_130_b.2.2.2.2.2.2.2.2.1
theorem dX8_who_142 : decode cX8_who 142 = .ok (.bipush 7, 2) := dX8_who_130_b.2.2.2.2.2.2.2.2.2.1
theorem dX8_who_144 : decode cX8_who 144 = .ok (.iload 8, 2) := dX8_who_130_b.2.2.2.2.2.2.2.2.2.2.1
theorem dX8_who_146 : decode cX8_who 146 = .ok (.imul, 1) := dX8_who_130_b.2.2.2.2.2.2.2.2.2.2.2
theorem dX8_who_147_b : (decode cX8_who 147 = .ok (.iadd, 1)) ∧ (decode cX8_who 148 = .ok (.iconst 2, 1)) ∧ (decode cX8_who 149 = .ok (.iadd, 1)) ∧ (decode cX8_who 150 = .ok (.iload 7, 2)) ∧ (decode cX8_who 152 = .ok (.iload 8, 2)) ∧ (decode cX8_who 154 = .ok (.invokestatic 145, 3)) ∧ (decode cX8_who 157 = .ok (.ifCond .eq 7, 3)) ∧ (decode cX8_who 160 = .ok (.iconst 0, 1)) ∧ (decode cX8_who 161 = .ok (.goto 4, 3)) ∧ (decode cX8_who 164 = .ok (.iconst 1, 1)) ∧ (decode cX8_who 165 = .ok (.iastore, 1)) ∧ (decode cX8_who 166 = .ok (.iinc 8 1, 3)) := by decide +kernel
theorem dX8_who_147 : decode cX8_who 147 = .ok (.iadd, 1) := dX8_who_147_b.1
theorem dX8_who_148 : decode cX8_who 148 = .ok (.iconst 2, 1) := dX8_who_147_b.2.1
theorem dX8_who_149 : decode cX8_who 149 = .ok (.iadd, 1) := dX8_who_147_b.2.2.1
theorem dX8_who_150 : decode cX8_who 150 = .ok (.iload 7, 2) := dX8_who_147_b.2.2.2.1
theorem dX8_who_152 : decode cX8_who 152 = .ok (.iload 8, 2) := dX8_who_147_b.2.2.2.2.1
theorem dX8_who_154 : decode cX8_who 154 = .ok (.invokestatic 145, 3) := dX8_who_147_b.2.2.2.2.2.1
theorem dX8_who_157 : decode cX8_who 157 = .ok (.ifCond .eq 7, 3) := dX8_who_147_b.2.2.2.2.2.2.1
theorem dX8_who_160 : decode cX8_who 160 = .ok (.iconst 0, 1) := dX8_who_147_b.2.2.2.2.2.2.2.1
theorem dX8_who_161 : decode cX8_who 161 = .ok (.goto 4, 3) := dX8_who_147_b.2.2.2.2.2.2.2.2.1
theorem dX8_who_164 : decode cX8_who 164 = .ok (.iconst 1, 1) := dX8_who_147_b.2.2.2.2.2.2.2.2.2.1
theorem dX8_who_165 : decode cX8_who 165 = .ok (.iastore, 1) := dX8_who_147_b.2.2.2.2.2.2.2.2.2.2.1
theorem dX8_who_166 : decode cX8_who 166 = .ok (.iinc 8 1, 3) := dX8_who_147_b.2.2.2.2.2.2.2.2.2.2.2
theorem dX8_who_169_b : (decode cX8_who 169 = .ok (.goto (-60), 3)) ∧ (decode cX8_who 172 = .ok (.aload_n 0, 1)) ∧ (decode cX8_who 173 = .ok (.bipush 40, 2)) ∧ (decode cX8_who 175 = .ok (.iload_n 1, 1)) ∧ (decode cX8_who 176 = .ok (.imul, 1)) ∧ (decode cX8_who 177 = .ok (.iload_n 2, 1)) ∧ (decode cX8_who 178 = .ok (.iadd, 1)) ∧ (decode cX8_who 179 = .ok (.iload_n 3, 1)) ∧ (decode cX8_who 180 = .ok (.invokevirtual 203, 3)) ∧ (decode cX8_who 183 = .ok (.istore 8, 2)) ∧ (decode cX8_who 185 = .ok (.iload 8, 2)) ∧ (decode cX8_who 187 = .ok (.ifCond .eq 13, 3)) := by decide +kernel
theorem dX8_who_169 : decode cX8_who 169 = .ok (.goto (-60), 3) := dX8_who_169_b.1
theorem dX8_who_172 : decode cX8_who 172 = .ok (.aload_n 0, 1) := dX8_who_169_b.2.1
theorem dX8_who_173 : decode cX8_who 173 = .ok (.bipush 40, 2) := dX8_who_169_b.2.2.1
theorem dX8_who_175 : decode cX8_who 175 = .ok (.iload_n 1, 1) := dX8_who_169_b.2.2.2.1
theorem dX8_who_176 : decode cX8_who 176 = .ok (.imul, 1) := dX8_who_169_b.2.2.2.2.1
theorem dX8_who_177 : decode cX8_who 177 = .ok (.iload_n 2, 1) := dX8_who_169_b.2.2.2.2.2.1
theorem dX8_who_178 : decode cX8_who 178 = .ok (.iadd, 1) := dX8_who_169_b.2.2.2.2.2.2.1
theorem dX8_who_179 : decode cX8_who 179 = .ok (.iload_n 3, 1) := dX8_who_169_b.2.2.2.2.2.2.2.1
theorem dX8_who_180 : decode cX8_who 180 = .ok (.invokevirtual 203, 3) := dX8_who_169_b.2.2.2.2.2.2.2.2.1
theorem dX8_who_183 : decode cX8_who 183 = .ok (.istore 8, 2) := dX8_who_169_b.2.2.2.2.2.2.2.2.2.1
theorem dX8_who_185 : decode cX8_who 185 = .ok (.iload 8, 2) := dX8_who_169_b.2.2.2.2.2.2.2.2.2.2.1
theorem dX8_who_187 : decode cX8_who 187 = .ok (.ifCond .eq 13, 3) := dX8_who_169_b.2.2.2.2.2.2.2.2.2.2.2
theorem dX8_who_190_b : (decode cX8_who 190 = .ok (.iload 5, 2)) ∧ (decode cX8_who 192 = .ok (.ifCond .ne 8, 3)) ∧ (decode cX8_who 195 = .ok (.iload 7, 2)) ∧ (decode cX8_who 197 = .ok (.goto 5, 3)) ∧ (decode cX8_who 200 = .ok (.iload 6, 2)) ∧ (decode cX8_who 202 = .ok (.istore 6, 2)) ∧ (decode cX8_who 204 = .ok (.iload 5, 2)) ∧ (decode cX8_who 206 = .ok (.iload 8, 2)) ∧ (decode cX8_who 208 = .ok (.ifCond .eq 7, 3)) ∧ (decode cX8_who 211 = .ok (.iconst 1, 1)) ∧ (decode cX8_who 212 = .ok (.goto 4, 3)) ∧ (decode cX8_who 215 = .ok (.iconst 0, 1)) := by decide +kernel
theorem dX8_who_190 : decode cX8_who 190 = .ok (.iload 5, 2) := dX8_who_190_b.1
theorem dX8_who_192 : decode cX8_who 192 = .ok (.ifCond .ne 8, 3) := dX8_who_190_b.2.1
theorem dX8_who_195 : decode cX8_who 195 = .ok (.iload 7, 2) := dX8_who_190_b.2.2.1
theorem dX8_who_197 : decode cX8_who 197 = .ok (.goto 5, 3) := dX8_who_190_b.2.2.2.1
theorem dX8_who_200 : decode cX8_who 200 = .ok (.iload 6, 2) := dX8_who_190_b.2.2.2.2.1
theorem dX8_who_202 : decode cX8_who 202 = .ok (.istore 6, 2) := dX8_who_190_b.2.2.2.2.2.1
theorem dX8_who_204 : decode cX8_who 204 = .ok (.iload 5, 2) := dX8_who_190_b.2.2.2.2.2.2.1
theorem dX8_who_206 : decode cX8_who 206 = .ok (.iload 8, 2) := dX8_who_190_b.2.2.2.2.2.2.2.1
theorem dX8_who_208 : decode cX8_who 208 = .ok (.ifCond .eq 7, 3) := dX8_who_190_b.2.2.2.2.2.2.2.2.1
theorem dX8_who_211 : decode cX8_who 211 = .ok (.iconst 1, 1) := dX8_who_190_b.2.2.2.2.2.2.2.2.2.1
theorem dX8_who_212 : decode cX8_who 212 = .ok (.goto 4, 3) := dX8_who_190_b.2.2.2.2.2.2.2.2.2.2.1
theorem dX8_who_215 : decode cX8_who 215 = .ok (.iconst 0, 1) := dX8_who_190_b.2.2.2.2.2.2.2.2.2.2.2
theorem dX8_who_216_b : (decode cX8_who 216 = .ok (.iadd, 1)) ∧ (decode cX8_who 217 = .ok (.istore 5, 2)) ∧ (decode cX8_who 219 = .ok (.iinc 7 1, 3)) ∧ (decode cX8_who 222 = .ok (.goto (-142), 3)) ∧ (decode cX8_who 225 = .ok (.aload_n 0, 1)) ∧ (decode cX8_who 226 = .ok (.iload 4, 2)) ∧ (decode cX8_who 228 = .ok (.ifCond .ne 8, 3)) ∧ (decode cX8_who 231 = .ok (.iload 5, 2)) ∧ (decode cX8_who 233 = .ok (.goto 5, 3)) ∧ (decode cX8_who 236 = .ok (.iload 6, 2)) ∧ (decode cX8_who 238 = .ok (.invokevirtual 69, 3)) ∧ (decode cX8_who 241 = .ok (.ireturn, 1)) := by decide +kernel
theorem dX8_who_216 : decode cX8_who 216 = .ok (.iadd, 1) := dX8_who_216_b.1
theorem dX8_who_217 : decode cX8_who 217 = .ok (.istore 5, 2) := dX8_who_216_b.2.1
theorem dX8_who_219 : decode cX8_who 219 = .ok (.iinc 7 1, 3) := dX8_who_216_b.2.2.1
theorem dX8_who_222 : decode cX8_who 222 = .ok (.goto (-142), 3) := dX8_who_216_b.2.2.2.1
theorem dX8_who_225 : decode cX8_who 225 = .ok (.aload_n 0, 1) := dX8_who_216_b.2.2.2.2.1
theorem dX8_who_226 : decode cX8_who 226 = .ok (.iload 4, 2) := dX8_who_216_b.2.2.2.2.2.1
theorem dX8_who_228 : decode cX8_who 228 = .ok (.ifCond .ne 8, 3) := dX8_who_216_b.2.2.2.2.2.2.1
theorem dX8_who_231 : decode cX8_who 231 = .ok (.iload 5, 2) := dX8_who_216_b.2.2.2.2.2.2.2.1
theorem dX8_who_233 : decode cX8_who 233 = .ok (.goto 5, 3) := dX8_who_216_b.2.2.2.2.2.2.2.2.1
theorem dX8_who_236 : decode cX8_who 236 = .ok (.iload 6, 2) := dX8_who_216_b.2.2.2.2.2.2.2.2.2.1
theorem dX8_who_238 : decode cX8_who 238 = .ok (.invokevirtual 69, 3) := dX8_who_216_b.2.2.2.2.2.2.2.2.2.2.1
theorem dX8_who_241 : decode cX8_who 241 = .ok (.ireturn, 1) := dX8_who_216_b.2.2.2.2.2.2.2.2.2.2.2
theorem dX8_heed_0_b : (decode cX8_heed 0 = .ok (.aload_n 0, 1)) ∧ (decode cX8_heed 1 = .ok (.iload_n 1, 1)) ∧ (decode cX8_heed 2 = .ok (.invokevirtual 178, 3)) ∧ (decode cX8_heed 5 = .ok (.ifCond .eq 21, 3)) ∧ (decode cX8_heed 8 = .ok (.iload_n 2, 1)) ∧ (decode cX8_heed 9 = .ok (.invokestatic 60, 3)) ∧ (decode cX8_heed 12 = .ok (.ifCond .eq 14, 3)) ∧ (decode cX8_heed 15 = .ok (.iload 4, 2)) ∧ (decode cX8_heed 17 = .ok (.iconst 1, 1)) ∧ (decode cX8_heed 18 = .ok (.bipush 16, 2)) ∧ (decode cX8_heed 20 = .ok (.invokestatic 56, 3)) ∧ (decode cX8_heed 23 = .ok (.ifCond .ne 6, 3)) := by decide +kernel
theorem dX8_heed_0 : decode cX8_heed 0 = .ok (.aload_n 0, 1) := dX8_heed_0_b.1
theorem dX8_heed_1 : decode cX8_heed 1 = .ok (.iload_n 1, 1) := dX8_heed_0_b.2.1
theorem dX8_heed_2 : decode cX8_heed 2 = .ok (.invokevirtual 178, 3) := dX8_heed_0_b.2.2.1
theorem dX8_heed_5 : decode cX8_heed 5 = .ok (.ifCond .eq 21, 3) := dX8_heed_0_b.2.2.2.1
theorem dX8_heed_8 : decode cX8_heed 8 = .ok (.iload_n 2, 1) := dX8_heed_0_b.2.2.2.2.1
theorem dX8_heed_9 : decode cX8_heed 9 = .ok (.invokestatic 60, 3) := dX8_heed_0_b.2.2.2.2.2.1
theorem dX8_heed_12 : decode cX8_heed 12 = .ok (.ifCond .eq 14, 3) := dX8_heed_0_b.2.2.2.2.2.2.1
theorem dX8_heed_15 : decode cX8_heed 15 = .ok (.iload 4, 2) := dX8_heed_0_b.2.2.2.2.2.2.2.1
theorem dX8_heed_17 : decode cX8_heed 17 = .ok (.iconst 1, 1) := dX8_heed_0_b.2.2.2.2.2.2.2.2.1
theorem dX8_heed_18 : decode cX8_heed 18 = .ok (.bipush 16, 2) := dX8_heed_0_b.2.2.2.2.2.2.2.2.2.1
theorem dX8_heed_20 : decode cX8_heed 20 = .ok (.invokestatic 56, 3) := dX8_heed_0_b.2.2.2.2.2.2.2.2.2.2.1
theorem dX8_heed_23 : decode cX8_heed 23 = .ok (.ifCond .ne 6, 3) := dX8_heed_0_b.2.2.2.2.2.2.2.2.2.2.2
theorem dX8_heed_26_b : (decode cX8_heed 26 = .ok (.ldc 64, 2)) ∧ (decode cX8_heed 28 = .ok (.ireturn, 1)) ∧ (decode cX8_heed 29 = .ok (.aload_n 0, 1)) ∧ (decode cX8_heed 30 = .ok (.iload_n 2, 1)) ∧ (decode cX8_heed 31 = .ok (.invokevirtual 72, 3)) ∧ (decode cX8_heed 34 = .ok (.ifCond .eq 9, 3)) ∧ (decode cX8_heed 37 = .ok (.aload_n 0, 1)) ∧ (decode cX8_heed 38 = .ok (.iconst 1, 1)) ∧ (decode cX8_heed 39 = .ok (.invokevirtual 65, 3)) ∧ (decode cX8_heed 42 = .ok (.ireturn, 1)) ∧ (decode cX8_heed 43 = .ok (.aload_n 0, 1)) ∧ (decode cX8_heed 44 = .ok (.iload_n 2, 1)) := by decide +kernel
theorem dX8_heed_26 : decode cX8_heed 26 = .ok (.ldc 64, 2) := dX8_heed_26_b.1
theorem dX8_heed_28 : decode cX8_heed 28 = .ok (.ireturn, 1) := dX8_heed_26_b.2.1
theorem dX8_heed_29 : decode cX8_heed 29 = .ok (.aload_n 0, 1) := dX8_heed_26_b.2.2.1
theorem dX8_heed_30 : decode cX8_heed 30 = .ok (.iload_n 2, 1) := dX8_heed_26_b.2.2.2.1
theorem dX8_heed_31 : decode cX8_heed 31 = .ok (.invokevirtual 72, 3) := dX8_heed_26_b.2.2.2.2.1
theorem dX8_heed_34 : decode cX8_heed 34 = .ok (.ifCond .eq 9, 3) := dX8_heed_26_b.2.2.2.2.2.1
theorem dX8_heed_37 : decode cX8_heed 37 = .ok (.aload_n 0, 1) := dX8_heed_26_b.2.2.2.2.2.2.1
theorem dX8_heed_38 : decode cX8_heed 38 = .ok (.iconst 1, 1) := dX8_heed_26_b.2.2.2.2.2.2.2.1
theorem dX8_heed_39 : decode cX8_heed 39 = .ok (.invokevirtual 65, 3) := dX8_heed_26_b.2.2.2.2.2.2.2.2.1
theorem dX8_heed_42 : decode cX8_heed 42 = .ok (.ireturn, 1) := dX8_heed_26_b.2.2.2.2.2.2.2.2.2.1
theorem dX8_heed_43 : decode cX8_heed 43 = .ok (.aload_n 0, 1) := dX8_heed_26_b.2.2.2.2.2.2.2.2.2.2.1
theorem dX8_heed_44 : decode cX8_heed 44 = .ok (.iload_n 2, 1) := dX8_heed_26_b.2.2.2.2.2.2.2.2.2.2.2
theorem dX8_heed_45_b : (decode cX8_heed 45 = .ok (.iload_n 3, 1)) ∧ (decode cX8_heed 46 = .ok (.iload 4, 2)) ∧ (decode cX8_heed 48 = .ok (.invokevirtual 79, 3)) ∧ (decode cX8_heed 51 = .ok (.ifCond .ne 9, 3)) ∧ (decode cX8_heed 54 = .ok (.aload_n 0, 1)) ∧ (decode cX8_heed 55 = .ok (.iconst 2, 1)) ∧ (decode cX8_heed 56 = .ok (.invokevirtual 65, 3)) ∧ (decode cX8_heed 59 = .ok (.ireturn, 1)) ∧ (decode cX8_heed 60 = .ok (.iconst 0, 1)) ∧ (decode cX8_heed 61 = .ok (.istore 5, 2)) ∧ (decode cX8_heed 63 = .ok (.iconst 1, 1)) ∧ (decode cX8_heed 64 = .ok (.istore 6, 2)) := by decide +kernel
theorem dX8_heed_45 : decode cX8_heed 45 = .ok (.iload_n 3, 1) := dX8_heed_45_b.1
theorem dX8_heed_46 : decode cX8_heed 46 = .ok (.iload 4, 2) := dX8_heed_45_b.2.1
theorem dX8_heed_48 : decode cX8_heed 48 = .ok (.invokevirtual 79, 3) := dX8_heed_45_b.2.2.1
theorem dX8_heed_51 : decode cX8_heed 51 = .ok (.ifCond .ne 9, 3) := dX8_heed_45_b.2.2.2.1
theorem dX8_heed_54 : decode cX8_heed 54 = .ok (.aload_n 0, 1) := dX8_heed_45_b.2.2.2.2.1
theorem dX8_heed_55 : decode cX8_heed 55 = .ok (.iconst 2, 1) := dX8_heed_45_b.2.2.2.2.2.1
theorem dX8_heed_56 : decode cX8_heed 56 = .ok (.invokevirtual 65, 3) := dX8_heed_45_b.2.2.2.2.2.2.1
theorem dX8_heed_59 : decode cX8_heed 59 = .ok (.ireturn, 1) := dX8_heed_45_b.2.2.2.2.2.2.2.1
theorem dX8_heed_60 : decode cX8_heed 60 = .ok (.iconst 0, 1) := dX8_heed_45_b.2.2.2.2.2.2.2.2.1
theorem dX8_heed_61 : decode cX8_heed 61 = .ok (.istore 5, 2) := dX8_heed_45_b.2.2.2.2.2.2.2.2.2.1
theorem dX8_heed_63 : decode cX8_heed 63 = .ok (.iconst 1, 1) := dX8_heed_45_b.2.2.2.2.2.2.2.2.2.2.1
theorem dX8_heed_64 : decode cX8_heed 64 = .ok (.istore 6, 2) := dX8_heed_45_b.2.2.2.2.2.2.2.2.2.2.2
theorem dX8_heed_66_b : (decode cX8_heed 66 = .ok (.iload 6, 2)) ∧ (decode cX8_heed 68 = .ok (.bipush 13, 2)) ∧ (decode cX8_heed 70 = .ok (.if_icmp .ge 68, 3)) ∧ (decode cX8_heed 73 = .ok (.aload_n 0, 1)) ∧ (decode cX8_heed 74 = .ok (.getfield 25, 3)) ∧ (decode cX8_heed 77 = .ok (.iconst 0, 1)) ∧ (decode cX8_heed 78 = .ok (.aload_n 0, 1)) ∧ (decode cX8_heed 79 = .ok (.getfield 41, 3)) ∧ (decode cX8_heed 82 = .ok (.iconst 0, 1)) ∧ (decode cX8_heed 83 = .ok (.invokestatic 134, 3)) ∧ (decode cX8_heed 86 = .ok (.aload_n 0, 1)) ∧ (decode cX8_heed 87 = .ok (.getfield 41, 3)) := by decide +kernel
theorem dX8_heed_66 : decode cX8_heed 66 = .ok (.iload 6, 2) := dX8_heed_66_b.1
theorem dX8_heed_68 : decode cX8_heed 68 = .ok (.bipush 13, 2) := dX8_heed_66_b.2.1
theorem dX8_heed_70 : decode cX8_heed 70 = .ok (.if_icmp .ge 68, 3) := dX8_heed_66_b.2.2.1
theorem dX8_heed_73 : decode cX8_heed 73 = .ok (.aload_n 0, 1) := dX8_heed_66_b.2.2.2.1
theorem dX8_heed_74 : decode cX8_heed 74 = .ok (.getfield 25, 3) := dX8_heed_66_b.2.2.2.2.1
theorem dX8_heed_77 : decode cX8_heed 77 = .ok (.iconst 0, 1) := dX8_heed_66_b.2.2.2.2.2.1
theorem dX8_heed_78 : decode cX8_heed 78 = .ok (.aload_n 0, 1) := dX8_heed_66_b.2.2.2.2.2.2.1
theorem dX8_heed_79 : decode cX8_heed 79 = .ok (.getfield 41, 3) := dX8_heed_66_b.2.2.2.2.2.2.2.1
theorem dX8_heed_82 : decode cX8_heed 82 = .ok (.iconst 0, 1) := dX8_heed_66_b.2.2.2.2.2.2.2.2.1
theorem dX8_heed_83 : decode cX8_heed 83 = .ok (.invokestatic 134, 3) := dX8_heed_66_b.2.2.2.2.2.2.2.2.2.1
theorem dX8_heed_86 : decode cX8_heed 86 = .ok (.aload_n 0, 1) := dX8_heed_66_b.2.2.2.2.2.2.2.2.2.2.1
theorem dX8_heed_87 : decode cX8_heed 87 = .ok (.getfield 41, 3) := dX8_heed_66_b.2.2.2.2.2.2.2.2.2.2.2
theorem dX8_heed_90_b : (decode cX8_heed 90 = .ok (.bipush 6, 2)) ∧ (decode cX8_heed 92 = .ok (.bipush 7, 2)) ∧ (decode cX8_heed 94 = .ok (.iload_n 1, 1)) ∧ (decode cX8_heed 95 = .ok (.imul, 1)) ∧ (decode cX8_heed 96 = .ok (.iadd, 1)) ∧ (decode cX8_heed 97 = .ok (.iconst 1, 1)) ∧ (decode cX8_heed 98 = .ok (.iadd, 1)) ∧ (decode cX8_heed 99 = .ok (.iload 6, 2)) ∧ (decode cX8_heed 101 = .ok (.iastore, 1)) ∧ (decode cX8_heed 102 = .ok (.iload 5, 2)) ∧ (decode cX8_heed 104 = .ok (.aload_n 0, 1)) ∧ (decode cX8_heed 105 = .ok (.bipush 40, 2)) := by decide +kernel
theorem dX8_heed_90 : decode cX8_heed 90 = .ok (.bipush 6, 2) := dX8_heed_90_b.1
theorem dX8_heed_92 : decode cX8_heed 92 = .ok (.bipush 7, 2) := dX8_heed_90_b.2.1
theorem dX8_heed_94 : decode cX8_heed 94 = .ok (.iload_n 1, 1) := dX8_heed_90_b.2.2.1
theorem dX8_heed_95 : decode cX8_heed 95 = .ok (.imul, 1) := dX8_heed_90_b.2.2.2.1
theorem dX8_heed_96 : decode cX8_heed 96 = .ok (.iadd, 1) := dX8_heed_90_b.2.2.2.2.1
theorem dX8_heed_97 : decode cX8_heed 97 = .ok (.iconst 1, 1) := dX8_heed_90_b.2.2.2.2.2.1
theorem dX8_heed_98 : decode cX8_heed 98 = .ok (.iadd, 1) := dX8_heed_90_b.2.2.2.2.2.2.1
theorem dX8_heed_99 : decode cX8_heed 99 = .ok (.iload 6, 2) := dX8_heed_90_b.2.2.2.2.2.2.2.1
theorem dX8_heed_101 : decode cX8_heed 101 = .ok (.iastore, 1) := dX8_heed_90_b.2.2.2.2.2.2.2.2.1
theorem dX8_heed_102 : decode cX8_heed 102 = .ok (.iload 5, 2) := dX8_heed_90_b.2.2.2.2.2.2.2.2.2.1
theorem dX8_heed_104 : decode cX8_heed 104 = .ok (.aload_n 0, 1) := dX8_heed_90_b.2.2.2.2.2.2.2.2.2.2.1
theorem dX8_heed_105 : decode cX8_heed 105 = .ok (.bipush 40, 2) := dX8_heed_90_b.2.2.2.2.2.2.2.2.2.2.2
theorem dX8_heed_107_b : (decode cX8_heed 107 = .ok (.iload_n 2, 1)) ∧ (decode cX8_heed 108 = .ok (.imul, 1)) ∧ (decode cX8_heed 109 = .ok (.iload_n 3, 1)) ∧ (decode cX8_heed 110 = .ok (.iadd, 1)) ∧ (decode cX8_heed 111 = .ok (.iload 4, 2)) ∧ (decode cX8_heed 113 = .ok (.invokevirtual 203, 3)) ∧ (decode cX8_heed 116 = .ok (.ifCond .eq 12, 3)) ∧ (decode cX8_heed 119 = .ok (.iconst 1, 1)) ∧ (decode cX8_heed 120 = .ok (.iload 6, 2)) ∧ (decode cX8_heed 122 = .ok (.iconst 1, 1)) ∧ (decode cX8_heed 123 = .ok (.isub, 1)) ∧ (decode cX8_heed 124 = .ok (.ishl, 1)) := by decide +kernel
theorem dX8_heed_107 : decode cX8_heed 107 = .ok (.iload_n 2, 1) := dX8_heed_107_b.1
theorem dX8_heed_108 : decode cX8_heed 108 = .ok (.imul, 1) := dX8_heed_107_b.2.1
theorem dX8_heed_109 : decode cX8_heed 109 = .ok (.iload_n 3, 1) := dX8_heed_107_b.2.2.1
theorem dX8_heed_110 : decode cX8_heed 110 = .ok (.iadd, 1) := dX8_heed_107_b.2.2.2.1
theorem dX8_heed_111 : decode cX8_heed 111 = .ok (.iload 4, 2) := dX8_heed_107_b.2.2.2.2.1
theorem dX8_heed_113 : decode cX8_heed 113 = .ok (.invokevirtual 203, 3) := dX8_heed_107_b.2.2.2.2.2.1
theorem dX8_heed_116 : decode cX8_heed 116 = .ok (.ifCond .eq 12, 3) := dX8_heed_107_b.2.2.2.2.2.2.1
theorem dX8_heed_119 : decode cX8_heed 119 = .ok (.iconst 1, 1) := dX8_heed_107_b.2.2.2.2.2.2.2.1
theorem dX8_heed_120 : decode cX8_heed 120 = .ok (.iload 6, 2) := dX8_heed_107_b.2.2.2.2.2.2.2.2.1
theorem dX8_heed_122 : decode cX8_heed 122 = .ok (.iconst 1, 1) := dX8_heed_107_b.2.2.2.2.2.2.2.2.2.1
theorem dX8_heed_123 : decode cX8_heed 123 = .ok (.isub, 1) := dX8_heed_107_b.2.2.2.2.2.2.2.2.2.2.1
theorem dX8_heed_124 : decode cX8_heed 124 = .ok (.ishl, 1) := dX8_heed_107_b.2.2.2.2.2.2.2.2.2.2.2
theorem dX8_heed_125_b : (decode cX8_heed 125 = .ok (.goto 4, 3)) ∧ (decode cX8_heed 128 = .ok (.iconst 0, 1)) ∧ (decode cX8_heed 129 = .ok (.ior, 1)) ∧ (decode cX8_heed 130 = .ok (.istore 5, 2)) ∧ (decode cX8_heed 132 = .ok (.iinc 6 1, 3)) ∧ (decode cX8_heed 135 = .ok (.goto (-69), 3)) ∧ (decode cX8_heed 138 = .ok (.aload_n 0, 1)) ∧ (decode cX8_heed 139 = .ok (.iload 5, 2)) ∧ (decode cX8_heed 141 = .ok (.invokevirtual 69, 3)) ∧ (decode cX8_heed 144 = .ok (.ireturn, 1)) := by decide +kernel
theorem dX8_heed_125 : decode cX8_heed 125 = .ok (.goto 4, 3) := dX8_heed_125_b.1
theorem dX8_heed_128 : decode cX8_heed 128 = .ok (.iconst 0, 1) := dX8_heed_125_b.2.1
theorem dX8_heed_129 : decode cX8_heed 129 = .ok (.ior, 1) := dX8_heed_125_b.2.2.1
theorem dX8_heed_130 : decode cX8_heed 130 = .ok (.istore 5, 2) := dX8_heed_125_b.2.2.2.1
theorem dX8_heed_132 : decode cX8_heed 132 = .ok (.iinc 6 1, 3) := dX8_heed_125_b.2.2.2.2.1
theorem dX8_heed_135 : decode cX8_heed 135 = .ok (.goto (-69), 3) := dX8_heed_125_b.2.2.2.2.2.1
theorem dX8_heed_138 : decode cX8_heed 138 = .ok (.aload_n 0, 1) := dX8_heed_125_b.2.2.2.2.2.2.1
theorem dX8_heed_139 : decode cX8_heed 139 = .ok (.iload 5, 2) := dX8_heed_125_b.2.2.2.2.2.2.2.1
theorem dX8_heed_141 : decode cX8_heed 141 = .ok (.invokevirtual 69, 3) := dX8_heed_125_b.2.2.2.2.2.2.2.2.1
theorem dX8_heed_144 : decode cX8_heed 144 = .ok (.ireturn, 1) := dX8_heed_125_b.2.2.2.2.2.2.2.2.2
theorem dX8_older_0_b : (decode cX8_older 0 = .ok (.aload_n 0, 1)) ∧ (decode cX8_older 1 = .ok (.iload_n 1, 1)) ∧ (decode cX8_older 2 = .ok (.invokevirtual 178, 3)) ∧ (decode cX8_older 5 = .ok (.ifCond .eq 26, 3)) ∧ (decode cX8_older 8 = .ok (.aload_n 0, 1)) ∧ (decode cX8_older 9 = .ok (.iload_n 2, 1)) ∧ (decode cX8_older 10 = .ok (.invokevirtual 178, 3)) ∧ (decode cX8_older 13 = .ok (.ifCond .eq 18, 3)) ∧ (decode cX8_older 16 = .ok (.iload_n 1, 1)) ∧ (decode cX8_older 17 = .ok (.iload_n 2, 1)) ∧ (decode cX8_older 18 = .ok (.if_icmp .eq 13, 3)) ∧ (decode cX8_older 21 = .ok (.iload_n 3, 1)) := by decide +kernel
theorem dX8_older_0 : decode cX8_older 0 = .ok (.aload_n 0, 1) := dX8_older_0_b.1
theorem dX8_older_1 : decode cX8_older 1 = .ok (.iload_n 1, 1) := dX8_older_0_b.2.1
theorem dX8_older_2 : decode cX8_older 2 = .ok (.invokevirtual 178, 3) := dX8_older_0_b.2.2.1
theorem dX8_older_5 : decode cX8_older 5 = .ok (.ifCond .eq 26, 3) := dX8_older_0_b.2.2.2.1
theorem dX8_older_8 : decode cX8_older 8 = .ok (.aload_n 0, 1) := dX8_older_0_b.2.2.2.2.1
theorem dX8_older_9 : decode cX8_older 9 = .ok (.iload_n 2, 1) := dX8_older_0_b.2.2.2.2.2.1
theorem dX8_older_10 : decode cX8_older 10 = .ok (.invokevirtual 178, 3) := dX8_older_0_b.2.2.2.2.2.2.1
theorem dX8_older_13 : decode cX8_older 13 = .ok (.ifCond .eq 18, 3) := dX8_older_0_b.2.2.2.2.2.2.2.1
theorem dX8_older_16 : decode cX8_older 16 = .ok (.iload_n 1, 1) := dX8_older_0_b.2.2.2.2.2.2.2.2.1
theorem dX8_older_17 : decode cX8_older 17 = .ok (.iload_n 2, 1) := dX8_older_0_b.2.2.2.2.2.2.2.2.2.1
theorem dX8_older_18 : decode cX8_older 18 = .ok (.if_icmp .eq 13, 3) := dX8_older_0_b.2.2.2.2.2.2.2.2.2.2.1
theorem dX8_older_21 : decode cX8_older 21 = .ok (.iload_n 3, 1) := dX8_older_0_b.2.2.2.2.2.2.2.2.2.2.2
theorem dX8_older_22_b : (decode cX8_older 22 = .ok (.iconst 0, 1)) ∧ (decode cX8_older 23 = .ok (.bipush 99, 2)) ∧ (decode cX8_older 25 = .ok (.invokestatic 56, 3)) ∧ (decode cX8_older 28 = .ok (.ifCond .ne 6, 3)) ∧ (decode cX8_older 31 = .ok (.ldc 64, 2)) ∧ (decode cX8_older 33 = .ok (.ireturn, 1)) ∧ (decode cX8_older 34 = .ok (.aload_n 0, 1)) ∧ (decode cX8_older 35 = .ok (.getfield 25, 3)) ∧ (decode cX8_older 38 = .ok (.iconst 0, 1)) ∧ (decode cX8_older 39 = .ok (.aload_n 0, 1)) ∧ (decode cX8_older 40 = .ok (.getfield 41, 3)) ∧ (decode cX8_older 43 = .ok (.iconst 0, 1)) := by decide +kernel
theorem dX8_older_22 : decode cX8_older 22 = .ok (.iconst 0, 1) := dX8_older_22_b.1
theorem dX8_older_23 : decode cX8_older 23 = .ok (.bipush 99, 2) := dX8_older_22_b.2.1
theorem dX8_older_25 : decode cX8_older 25 = .ok (.invokestatic 56, 3) := dX8_older_22_b.2.2.1
theorem dX8_older_28 : decode cX8_older 28 = .ok (.ifCond .ne 6, 3) := dX8_older_22_b.2.2.2.1
theorem dX8_older_31 : decode cX8_older 31 = .ok (.ldc 64, 2) := dX8_older_22_b.2.2.2.2.1
theorem dX8_older_33 : decode cX8_older 33 = .ok (.ireturn, 1) := dX8_older_22_b.2.2.2.2.2.1
theorem dX8_older_34 : decode cX8_older 34 = .ok (.aload_n 0, 1) := dX8_older_22_b.2.2.2.2.2.2.1
theorem dX8_older_35 : decode cX8_older 35 = .ok (.getfield 25, 3) := dX8_older_22_b.2.2.2.2.2.2.2.1
theorem dX8_older_38 : decode cX8_older 38 = .ok (.iconst 0, 1) := dX8_older_22_b.2.2.2.2.2.2.2.2.1
theorem dX8_older_39 : decode cX8_older 39 = .ok (.aload_n 0, 1) := dX8_older_22_b.2.2.2.2.2.2.2.2.2.1
theorem dX8_older_40 : decode cX8_older 40 = .ok (.getfield 41, 3) := dX8_older_22_b.2.2.2.2.2.2.2.2.2.2.1
theorem dX8_older_43 : decode cX8_older 43 = .ok (.iconst 0, 1) := dX8_older_22_b.2.2.2.2.2.2.2.2.2.2.2
theorem dX8_older_44_b : (decode cX8_older 44 = .ok (.invokestatic 134, 3)) ∧ (decode cX8_older 47 = .ok (.aload_n 0, 1)) ∧ (decode cX8_older 48 = .ok (.iload_n 3, 1)) ∧ (decode cX8_older 49 = .ok (.invokevirtual 188, 3)) ∧ (decode cX8_older 52 = .ok (.pop, 1)) ∧ (decode cX8_older 53 = .ok (.aload_n 0, 1)) ∧ (decode cX8_older 54 = .ok (.getfield 41, 3)) ∧ (decode cX8_older 57 = .ok (.bipush 6, 2)) ∧ (decode cX8_older 59 = .ok (.bipush 7, 2)) ∧ (decode cX8_older 61 = .ok (.iload_n 1, 1)) ∧ (decode cX8_older 62 = .ok (.imul, 1)) ∧ (decode cX8_older 63 = .ok (.iadd, 1)) := by decide +kernel
theorem dX8_older_44 : decode cX8_older 44 = .ok (.invokestatic 134, 3) := dX8_older_44_b.1
theorem dX8_older_47 : decode cX8_older 47 = .ok (.aload_n 0, 1) := dX8_older_44_b.2.1
theorem dX8_older_48 : decode cX8_older 48 = .ok (.iload_n 3, 1) := dX8_older_44_b.2.2.1
theorem dX8_older_49 : decode cX8_older 49 = .ok (.invokevirtual 188, 3) := dX8_older_44_b.2.2.2.1
theorem dX8_older_52 : decode cX8_older 52 = .ok (.pop, 1) := dX8_older_44_b.2.2.2.2.1
theorem dX8_older_53 : decode cX8_older 53 = .ok (.aload_n 0, 1) := dX8_older_44_b.2.2.2.2.2.1
theorem dX8_older_54 : decode cX8_older 54 = .ok (.getfield 41, 3) := dX8_older_44_b.2.2.2.2.2.2.1
theorem dX8_older_57 : decode cX8_older 57 = .ok (.bipush 6, 2) := dX8_older_44_b.2.2.2.2.2.2.2.1
theorem dX8_older_59 : decode cX8_older 59 = .ok (.bipush 7, 2) := dX8_older_44_b.2.2.2.2.2.2.2.2.1
theorem dX8_older_61 : decode cX8_older 61 = .ok (.iload_n 1, 1) := dX8_older_44_b.2.2.2.2.2.2.2.2.2.1
theorem dX8_older_62 : decode cX8_older 62 = .ok (.imul, 1) := dX8_older_44_b.2.2.2.2.2.2.2.2.2.2.1
theorem dX8_older_63 : decode cX8_older 63 = .ok (.iadd, 1) := dX8_older_44_b.2.2.2.2.2.2.2.2.2.2.2
theorem dX8_older_64_b : (decode cX8_older 64 = .ok (.bipush 6, 2)) ∧ (decode cX8_older 66 = .ok (.iadd, 1)) ∧ (decode cX8_older 67 = .ok (.iaload, 1)) ∧ (decode cX8_older 68 = .ok (.aload_n 0, 1)) ∧ (decode cX8_older 69 = .ok (.getfield 41, 3)) ∧ (decode cX8_older 72 = .ok (.bipush 6, 2)) ∧ (decode cX8_older 74 = .ok (.bipush 7, 2)) ∧ (decode cX8_older 76 = .ok (.iload_n 2, 1)) ∧ (decode cX8_older 77 = .ok (.imul, 1)) ∧ (decode cX8_older 78 = .ok (.iadd, 1)) ∧ (decode cX8_older 79 = .ok (.bipush 6, 2)) ∧ (decode cX8_older 81 = .ok (.iadd, 1)) := by decide +kernel
theorem dX8_older_64 : decode cX8_older 64 = .ok (.bipush 6, 2) := dX8_older_64_b.1
theorem dX8_older_66 : decode cX8_older 66 = .ok (.iadd, 1) := dX8_older_64_b.2.1
theorem dX8_older_67 : decode cX8_older 67 = .ok (.iaload, 1) := dX8_older_64_b.2.2.1
theorem dX8_older_68 : decode cX8_older 68 = .ok (.aload_n 0, 1) := dX8_older_64_b.2.2.2.1
theorem dX8_older_69 : decode cX8_older 69 = .ok (.getfield 41, 3) := dX8_older_64_b.2.2.2.2.1
theorem dX8_older_72 : decode cX8_older 72 = .ok (.bipush 6, 2) := dX8_older_64_b.2.2.2.2.2.1
theorem dX8_older_74 : decode cX8_older 74 = .ok (.bipush 7, 2) := dX8_older_64_b.2.2.2.2.2.2.1
theorem dX8_older_76 : decode cX8_older 76 = .ok (.iload_n 2, 1) := dX8_older_64_b.2.2.2.2.2.2.2.1
theorem dX8_older_77 : decode cX8_older 77 = .ok (.imul, 1) := dX8_older_64_b.2.2.2.2.2.2.2.2.1
theorem dX8_older_78 : decode cX8_older 78 = .ok (.iadd, 1) := dX8_older_64_b.2.2.2.2.2.2.2.2.2.1
theorem dX8_older_79 : decode cX8_older 79 = .ok (.bipush 6, 2) := dX8_older_64_b.2.2.2.2.2.2.2.2.2.2.1
theorem dX8_older_81 : decode cX8_older 81 = .ok (.iadd, 1) := dX8_older_64_b.2.2.2.2.2.2.2.2.2.2.2
theorem dX8_older_82_b : (decode cX8_older 82 = .ok (.iaload, 1)) ∧ (decode cX8_older 83 = .ok (.isub, 1)) ∧ (decode cX8_older 84 = .ok (.ireturn, 1)) := by decide +kernel
theorem dX8_older_82 : decode cX8_older 82 = .ok (.iaload, 1) := dX8_older_82_b.1
theorem dX8_older_83 : decode cX8_older 83 = .ok (.isub, 1) := dX8_older_82_b.2.1
theorem dX8_older_84 : decode cX8_older 84 = .ok (.ireturn, 1) := dX8_older_82_b.2.2
theorem dX8_odds_0_b : (decode cX8_odds 0 = .ok (.aload_n 0, 1)) ∧ (decode cX8_odds 1 = .ok (.invokevirtual 171, 3)) ∧ (decode cX8_odds 4 = .ok (.ifCond .ne 6, 3)) ∧ (decode cX8_odds 7 = .ok (.ldc 174, 2)) ∧ (decode cX8_odds 9 = .ok (.ireturn, 1)) ∧ (decode cX8_odds 10 = .ok (.iload_n 1, 1)) ∧ (decode cX8_odds 11 = .ok (.iconst 0, 1)) ∧ (decode cX8_odds 12 = .ok (.bipush 99, 2)) ∧ (decode cX8_odds 14 = .ok (.invokestatic 56, 3)) ∧ (decode cX8_odds 17 = .ok (.ifCond .eq 22, 3)) ∧ (decode cX8_odds 20 = .ok (.iload_n 2, 1)) ∧ (decode cX8_odds 21 = .ok (.iconst 0, 1)) := by decide +kernel
theorem dX8_odds_0 : decode cX8_odds 0 = .ok (.aload_n 0, 1) := dX8_odds_0_b.1
theorem dX8_odds_1 : decode cX8_odds 1 = .ok (.invokevirtual 171, 3) := dX8_odds_0_b.2.1
theorem dX8_odds_4 : decode cX8_odds 4 = .ok (.ifCond .ne 6, 3) := dX8_odds_0_b.2.2.1
theorem dX8_odds_7 : decode cX8_odds 7 = .ok (.ldc 174, 2) := dX8_odds_0_b.2.2.2.1
theorem dX8_odds_9 : decode cX8_odds 9 = .ok (.ireturn, 1) := dX8_odds_0_b.2.2.2.2.1
theorem dX8_odds_10 : decode cX8_odds 10 = .ok (.iload_n 1, 1) := dX8_odds_0_b.2.2.2.2.2.1
theorem dX8_odds_11 : decode cX8_odds 11 = .ok (.iconst 0, 1) := dX8_odds_0_b.2.2.2.2.2.2.1
theorem dX8_odds_12 : decode cX8_odds 12 = .ok (.bipush 99, 2) := dX8_odds_0_b.2.2.2.2.2.2.2.1
theorem dX8_odds_14 : decode cX8_odds 14 = .ok (.invokestatic 56, 3) := dX8_odds_0_b.2.2.2.2.2.2.2.2.1
theorem dX8_odds_17 : decode cX8_odds 17 = .ok (.ifCond .eq 22, 3) := dX8_odds_0_b.2.2.2.2.2.2.2.2.2.1
theorem dX8_odds_20 : decode cX8_odds 20 = .ok (.iload_n 2, 1) := dX8_odds_0_b.2.2.2.2.2.2.2.2.2.2.1
theorem dX8_odds_21 : decode cX8_odds 21 = .ok (.iconst 0, 1) := dX8_odds_0_b.2.2.2.2.2.2.2.2.2.2.2
theorem dX8_odds_22_b : (decode cX8_odds 22 = .ok (.bipush 10, 2)) ∧ (decode cX8_odds 24 = .ok (.invokestatic 56, 3)) ∧ (decode cX8_odds 27 = .ok (.ifCond .eq 12, 3)) ∧ (decode cX8_odds 30 = .ok (.iload_n 3, 1)) ∧ (decode cX8_odds 31 = .ok (.iconst 0, 1)) ∧ (decode cX8_odds 32 = .ok (.iconst 1, 1)) ∧ (decode cX8_odds 33 = .ok (.invokestatic 56, 3)) ∧ (decode cX8_odds 36 = .ok (.ifCond .ne 6, 3)) ∧ (decode cX8_odds 39 = .ok (.ldc 64, 2)) ∧ (decode cX8_odds 41 = .ok (.ireturn, 1)) ∧ (decode cX8_odds 42 = .ok (.aload_n 0, 1)) ∧ (decode cX8_odds 43 = .ok (.getfield 25, 3)) := by decide +kernel
theorem dX8_odds_22 : decode cX8_odds 22 = .ok (.bipush 10, 2) := dX8_odds_22_b.1
theorem dX8_odds_24 : decode cX8_odds 24 = .ok (.invokestatic 56, 3) := dX8_odds_22_b.2.1
theorem dX8_odds_27 : decode cX8_odds 27 = .ok (.ifCond .eq 12, 3) := dX8_odds_22_b.2.2.1
theorem dX8_odds_30 : decode cX8_odds 30 = .ok (.iload_n 3, 1) := dX8_odds_22_b.2.2.2.1
theorem dX8_odds_31 : decode cX8_odds 31 = .ok (.iconst 0, 1) := dX8_odds_22_b.2.2.2.2.1
theorem dX8_odds_32 : decode cX8_odds 32 = .ok (.iconst 1, 1) := dX8_odds_22_b.2.2.2.2.2.1
theorem dX8_odds_33 : decode cX8_odds 33 = .ok (.invokestatic 56, 3) := dX8_odds_22_b.2.2.2.2.2.2.1
theorem dX8_odds_36 : decode cX8_odds 36 = .ok (.ifCond .ne 6, 3) := dX8_odds_22_b.2.2.2.2.2.2.2.1
theorem dX8_odds_39 : decode cX8_odds 39 = .ok (.ldc 64, 2) := dX8_odds_22_b.2.2.2.2.2.2.2.2.1
theorem dX8_odds_41 : decode cX8_odds 41 = .ok (.ireturn, 1) := dX8_odds_22_b.2.2.2.2.2.2.2.2.2.1
theorem dX8_odds_42 : decode cX8_odds 42 = .ok (.aload_n 0, 1) := dX8_odds_22_b.2.2.2.2.2.2.2.2.2.2.1
theorem dX8_odds_43 : decode cX8_odds 43 = .ok (.getfield 25, 3) := dX8_odds_22_b.2.2.2.2.2.2.2.2.2.2.2
theorem dX8_odds_46_b : (decode cX8_odds 46 = .ok (.invokestatic 157, 3)) ∧ (decode cX8_odds 49 = .ok (.istore 4, 2)) ∧ (decode cX8_odds 51 = .ok (.iconst 0, 1)) ∧ (decode cX8_odds 52 = .ok (.istore 5, 2)) ∧ (decode cX8_odds 54 = .ok (.iconst 1, 1)) ∧ (decode cX8_odds 55 = .ok (.istore 6, 2)) ∧ (decode cX8_odds 57 = .ok (.iconst 0, 1)) ∧ (decode cX8_odds 58 = .ok (.istore 7, 2)) ∧ (decode cX8_odds 60 = .ok (.iload 7, 2)) ∧ (decode cX8_odds 62 = .ok (.aload_n 0, 1)) ∧ (decode cX8_odds 63 = .ok (.getfield 25, 3)) ∧ (decode cX8_odds 66 = .ok (.iconst 4, 1)) := by decide +kernel
theorem dX8_odds_46 : decode cX8_odds 46 = .ok (.invokestatic 157, 3) := dX8_odds_46_b.1
theorem dX8_odds_49 : decode cX8_odds 49 = .ok (.istore 4, 2) := dX8_odds_46_b.2.1
theorem dX8_odds_51 : decode cX8_odds 51 = .ok (.iconst 0, 1) := dX8_odds_46_b.2.2.1
theorem dX8_odds_52 : decode cX8_odds 52 = .ok (.istore 5, 2) := dX8_odds_46_b.2.2.2.1
theorem dX8_odds_54 : decode cX8_odds 54 = .ok (.iconst 1, 1) := dX8_odds_46_b.2.2.2.2.1
theorem dX8_odds_55 : decode cX8_odds 55 = .ok (.istore 6, 2) := dX8_odds_46_b.2.2.2.2.2.1
theorem dX8_odds_57 : decode cX8_odds 57 = .ok (.iconst 0, 1) := dX8_odds_46_b.2.2.2.2.2.2.1
theorem dX8_odds_58 : decode cX8_odds 58 = .ok (.istore 7, 2) := dX8_odds_46_b.2.2.2.2.2.2.2.1
theorem dX8_odds_60 : decode cX8_odds 60 = .ok (.iload 7, 2) := dX8_odds_46_b.2.2.2.2.2.2.2.2.1
theorem dX8_odds_62 : decode cX8_odds 62 = .ok (.aload_n 0, 1) := dX8_odds_46_b.2.2.2.2.2.2.2.2.2.1
theorem dX8_odds_63 : decode cX8_odds 63 = .ok (.getfield 25, 3) := dX8_odds_46_b.2.2.2.2.2.2.2.2.2.2.1
theorem dX8_odds_66 : decode cX8_odds 66 = .ok (.iconst 4, 1) := dX8_odds_46_b.2.2.2.2.2.2.2.2.2.2.2
theorem dX8_odds_67_b : (decode cX8_odds 67 = .ok (.iaload, 1)) ∧ (decode cX8_odds 68 = .ok (.if_icmp .ge 30, 3)) ∧ (decode cX8_odds 71 = .ok (.iload 6, 2)) ∧ (decode cX8_odds 73 = .ok (.iload 4, 2)) ∧ (decode cX8_odds 75 = .ok (.iload 7, 2)) ∧ (decode cX8_odds 77 = .ok (.invokestatic 145, 3)) ∧ (decode cX8_odds 80 = .ok (.ifCond .eq 8, 3)) ∧ (decode cX8_odds 83 = .ok (.bipush 10, 2)) ∧ (decode cX8_odds 85 = .ok (.goto 4, 3)) ∧ (decode cX8_odds 88 = .ok (.iconst 1, 1)) ∧ (decode cX8_odds 89 = .ok (.imul, 1)) ∧ (decode cX8_odds 90 = .ok (.istore 6, 2)) := by decide +kernel
theorem dX8_odds_67 : decode cX8_odds 67 = .ok (.iaload, 1) := dX8_odds_67_b.1
theorem dX8_odds_68 : decode cX8_odds 68 = .ok (.if_icmp .ge 30, 3) := dX8_odds_67_b.2.1
theorem dX8_odds_71 : decode cX8_odds 71 = .ok (.iload 6, 2) := dX8_odds_67_b.2.2.1
theorem dX8_odds_73 : decode cX8_odds 73 = .ok (.iload 4, 2) := dX8_odds_67_b.2.2.2.1
theorem dX8_odds_75 : decode cX8_odds 75 = .ok (.iload 7, 2) := dX8_odds_67_b.2.2.2.2.1
theorem dX8_odds_77 : decode cX8_odds 77 = .ok (.invokestatic 145, 3) := dX8_odds_67_b.2.2.2.2.2.1
theorem dX8_odds_80 : decode cX8_odds 80 = .ok (.ifCond .eq 8, 3) := dX8_odds_67_b.2.2.2.2.2.2.1
theorem dX8_odds_83 : decode cX8_odds 83 = .ok (.bipush 10, 2) := dX8_odds_67_b.2.2.2.2.2.2.2.1
theorem dX8_odds_85 : decode cX8_odds 85 = .ok (.goto 4, 3) := dX8_odds_67_b.2.2.2.2.2.2.2.2.1
theorem dX8_odds_88 : decode cX8_odds 88 = .ok (.iconst 1, 1) := dX8_odds_67_b.2.2.2.2.2.2.2.2.2.1
theorem dX8_odds_89 : decode cX8_odds 89 = .ok (.imul, 1) := dX8_odds_67_b.2.2.2.2.2.2.2.2.2.2.1
theorem dX8_odds_90 : decode cX8_odds 90 = .ok (.istore 6, 2) := dX8_odds_67_b.2.2.2.2.2.2.2.2.2.2.2
theorem dX8_odds_92_b : (decode cX8_odds 92 = .ok (.iinc 7 1, 3)) ∧ (decode cX8_odds 95 = .ok (.goto (-35), 3)) ∧ (decode cX8_odds 98 = .ok (.iconst 0, 1)) ∧ (decode cX8_odds 99 = .ok (.istore 7, 2)) ∧ (decode cX8_odds 101 = .ok (.iload 7, 2)) ∧ (decode cX8_odds 103 = .ok (.iload 4, 2)) ∧ (decode cX8_odds 105 = .ok (.if_icmp .gt 110, 3)) ∧ (decode cX8_odds 108 = .ok (.iload 7, 2)) ∧ (decode cX8_odds 110 = .ok (.iload 4, 2)) ∧ (decode cX8_odds 112 = .ok (.iconst (-1), 1)) ∧ (decode cX8_odds 113 = .ok (.ixor, 1)) ∧ (decode cX8_odds 114 = .ok (.iand, 1)) := by decide +kernel
theorem dX8_odds_92 : decode cX8_odds 92 = .ok (.iinc 7 1, 3) := dX8_odds_92_b.1
theorem dX8_odds_95 : decode cX8_odds 95 = .ok (.goto (-35), 3) := dX8_odds_92_b.2.1
theorem dX8_odds_98 : decode cX8_odds 98 = .ok (.iconst 0, 1) := dX8_odds_92_b.2.2.1
theorem dX8_odds_99 : decode cX8_odds 99 = .ok (.istore 7, 2) := dX8_odds_92_b.2.2.2.1
theorem dX8_odds_101 : decode cX8_odds 101 = .ok (.iload 7, 2) := dX8_odds_92_b.2.2.2.2.1
theorem dX8_odds_103 : decode cX8_odds 103 = .ok (.iload 4, 2) := dX8_odds_92_b.2.2.2.2.2.1
theorem dX8_odds_105 : decode cX8_odds 105 = .ok (.if_icmp .gt 110, 3) := dX8_odds_92_b.2.2.2.2.2.2.1
theorem dX8_odds_108 : decode cX8_odds 108 = .ok (.iload 7, 2) := dX8_odds_92_b.2.2.2.2.2.2.2.1
theorem dX8_odds_110 : decode cX8_odds 110 = .ok (.iload 4, 2) := dX8_odds_92_b.2.2.2.2.2.2.2.2.1
theorem dX8_odds_112 : decode cX8_odds 112 = .ok (.iconst (-1), 1) := dX8_odds_92_b.2.2.2.2.2.2.2.2.2.1
theorem dX8_odds_113 : decode cX8_odds 113 = .ok (.ixor, 1) := dX8_odds_92_b.2.2.2.2.2.2.2.2.2.2.1
theorem dX8_odds_114 : decode cX8_odds 114 = .ok (.iand, 1) := dX8_odds_92_b.2.2.2.2.2.2.2.2.2.2.2
theorem dX8_odds_115_b : (decode cX8_odds 115 = .ok (.ifCond .ne 7, 3)) ∧ (decode cX8_odds 118 = .ok (.iconst 1, 1)) ∧ (decode cX8_odds 119 = .ok (.goto 4, 3)) ∧ (decode cX8_odds 122 = .ok (.iconst 0, 1)) ∧ (decode cX8_odds 123 = .ok (.istore 8, 2)) ∧ (decode cX8_odds 125 = .ok (.iconst 0, 1)) ∧ (decode cX8_odds 126 = .ok (.istore 9, 2)) ∧ (decode cX8_odds 128 = .ok (.iload 9, 2)) ∧ (decode cX8_odds 130 = .ok (.aload_n 0, 1)) ∧ (decode cX8_odds 131 = .ok (.getfield 25, 3)) ∧ (decode cX8_odds 134 = .ok (.iconst 4, 1)) ∧ (decode cX8_odds 135 = .ok (.iaload, 1)) := by decide +kernel
theorem dX8_odds_115 : decode cX8_odds 115 = .ok (.ifCond .ne 7, 3) := dX8_odds_115_b.1
theorem dX8_odds_118 : decode cX8_odds 118 = .ok (.iconst 1, 1) := dX8_odds_115_b.2.1
theorem dX8_odds_119 : decode cX8_odds 119 = .ok (.goto 4, 3) := dX8_odds_115_b.2.2.1
theorem dX8_odds_122 : decode cX8_odds 122 = .ok (.iconst 0, 1) := dX8_odds_115_b.2.2.2.1
theorem dX8_odds_123 : decode cX8_odds 123 = .ok (.istore 8, 2) := dX8_odds_115_b.2.2.2.2.1
theorem dX8_odds_125 : decode cX8_odds 125 = .ok (.iconst 0, 1) := dX8_odds_115_b.2.2.2.2.2.1
theorem dX8_odds_126 : decode cX8_odds 126 = .ok (.istore 9, 2) := dX8_odds_115_b.2.2.2.2.2.2.1
theorem dX8_odds_128 : decode cX8_odds 128 = .ok (.iload 9, 2) := dX8_odds_115_b.2.2.2.2.2.2.2.1
theorem dX8_odds_130 : decode cX8_odds 130 = .ok (.aload_n 0, 1) := dX8_odds_115_b.2.2.2.2.2.2.2.2.1
theorem dX8_odds_131 : decode cX8_odds 131 = .ok (.getfield 25, 3) := dX8_odds_115_b.2.2.2.2.2.2.2.2.2.1
theorem dX8_odds_134 : decode cX8_odds 134 = .ok (.iconst 4, 1) := dX8_odds_115_b.2.2.2.2.2.2.2.2.2.2.1
theorem dX8_odds_135 : decode cX8_odds 135 = .ok (.iaload, 1) := dX8_odds_115_b.2.2.2.2.2.2.2.2.2.2.2
theorem dX8_odds_136_b : (decode cX8_odds 136 = .ok (.if_icmp .ge 46, 3)) ∧ (decode cX8_odds 139 = .ok (.iload 8, 2)) ∧ (decode cX8_odds 141 = .ok (.iload 4, 2)) ∧ (decode cX8_odds 143 = .ok (.iload 9, 2)) ∧ (decode cX8_odds 145 = .ok (.invokestatic 145, 3)) ∧ (decode cX8_odds 148 = .ok (.ifCond .ne 7, 3)) ∧ (decode cX8_odds 151 = .ok (.iconst 1, 1)) ∧ (decode cX8_odds 152 = .ok (.goto 21, 3)) ∧ (decode cX8_odds 155 = .ok (.iload 7, 2)) ∧ (decode cX8_odds 157 = .ok (.iload 9, 2)) ∧ (decode cX8_odds 159 = .ok (.invokestatic 145, 3)) ∧ (decode cX8_odds 162 = .ok (.ifCond .eq 10, 3)) := by decide +kernel
theorem dX8_odds_136 : decode cX8_odds 136 = .ok (.if_icmp .ge 46, 3) := dX8_odds_136_b.1
theorem dX8_odds_139 : decode cX8_odds 139 = .ok (.iload 8, 2) := dX8_odds_136_b.2.1
theorem dX8_odds_141 : decode cX8_odds 141 = .ok (.iload 4, 2) := dX8_odds_136_b.2.2.1
theorem dX8_odds_143 : decode cX8_odds 143 = .ok (.iload 9, 2) := dX8_odds_136_b.2.2.2.1
theorem dX8_odds_145 : decode cX8_odds 145 = .ok (.invokestatic 145, 3) := dX8_odds_136_b.2.2.2.2.1
theorem dX8_odds_148 : decode cX8_odds 148 = .ok (.ifCond .ne 7, 3) := dX8_odds_136_b.2.2.2.2.2.1
theorem dX8_odds_151 : decode cX8_odds 151 = .ok (.iconst 1, 1) := dX8_odds_136_b.2.2.2.2.2.2.1
theorem dX8_odds_152 : decode cX8_odds 152 = .ok (.goto 21, 3) := dX8_odds_136_b.2.2.2.2.2.2.2.1
theorem dX8_odds_155 : decode cX8_odds 155 = .ok (.iload 7, 2) := dX8_odds_136_b.2.2.2.2.2.2.2.2.1
theorem dX8_odds_157 : decode cX8_odds 157 = .ok (.iload 9, 2) := dX8_odds_136_b.2.2.2.2.2.2.2.2.2.1
theorem dX8_odds_159 : decode cX8_odds 159 = .ok (.invokestatic 145, 3) := dX8_odds_136_b.2.2.2.2.2.2.2.2.2.2.1
theorem dX8_odds_162 : decode cX8_odds 162 = .ok (.ifCond .eq 10, 3) := dX8_odds_136_b.2.2.2.2.2.2.2.2.2.2.2
theorem dX8_odds_165_b : (decode cX8_odds 165 = .ok (.bipush 10, 2)) ∧ (decode cX8_odds 167 = .ok (.iload_n 2, 1)) ∧ (decode cX8_odds 168 = .ok (.isub, 1)) ∧ (decode cX8_odds 169 = .ok (.goto 4, 3)) ∧ (decode cX8_odds 172 = .ok (.iload_n 2, 1)) ∧ (decode cX8_odds 173 = .ok (.imul, 1)) ∧ (decode cX8_odds 174 = .ok (.istore 8, 2)) ∧ (decode cX8_odds 176 = .ok (.iinc 9 1, 3)) ∧ (decode cX8_odds 179 = .ok (.goto (-51), 3)) ∧ (decode cX8_odds 182 = .ok (.iload 5, 2)) ∧ (decode cX8_odds 184 = .ok (.aload_n 0, 1)) ∧ (decode cX8_odds 185 = .ok (.getfield 25, 3)) := by decide +kernel
theorem dX8_odds_165 : decode cX8_odds 165 = .ok (.bipush 10, 2) := dX8_odds_165_b.1
theorem dX8_odds_167 : decode cX8_odds 167 = .ok (.iload_n 2, 1) := dX8_odds_165_b.2.1
theorem dX8_odds_168 : decode cX8_odds 168 = .ok (.isub, 1) := dX8_odds_165_b.2.2.1
theorem dX8_odds_169 : decode cX8_odds 169 = .ok (.goto 4, 3) := dX8_odds_165_b.2.2.2.1
theorem dX8_odds_172 : decode cX8_odds 172 = .ok (.iload_n 2, 1) := dX8_odds_165_b.2.2.2.2.1
theorem dX8_odds_173 : decode cX8_odds 173 = .ok (.imul, 1) := dX8_odds_165_b.2.2.2.2.2.1
theorem dX8_odds_174 : decode cX8_odds 174 = .ok (.istore 8, 2) := dX8_odds_165_b.2.2.2.2.2.2.1
theorem dX8_odds_176 : decode cX8_odds 176 = .ok (.iinc 9 1, 3) := dX8_odds_165_b.2.2.2.2.2.2.2.1
theorem dX8_odds_179 : decode cX8_odds 179 = .ok (.goto (-51), 3) := dX8_odds_165_b.2.2.2.2.2.2.2.2.1
theorem dX8_odds_182 : decode cX8_odds 182 = .ok (.iload 5, 2) := dX8_odds_165_b.2.2.2.2.2.2.2.2.2.1
theorem dX8_odds_184 : decode cX8_odds 184 = .ok (.aload_n 0, 1) := dX8_odds_165_b.2.2.2.2.2.2.2.2.2.2.1
theorem dX8_odds_185 : decode cX8_odds 185 = .ok (.getfield 25, 3) := dX8_odds_165_b.2.2.2.2.2.2.2.2.2.2.2
theorem dX8_odds_188_b : (decode cX8_odds 188 = .ok (.iload 7, 2)) ∧ (decode cX8_odds 190 = .ok (.iload 4, 2)) ∧ (decode cX8_odds 192 = .ok (.iand, 1)) ∧ (decode cX8_odds 193 = .ok (.invokestatic 161, 3)) ∧ (decode cX8_odds 196 = .ok (.iload_n 1, 1)) ∧ (decode cX8_odds 197 = .ok (.if_icmp .lt 8, 3)) ∧ (decode cX8_odds 200 = .ok (.iload 8, 2)) ∧ (decode cX8_odds 202 = .ok (.goto 4, 3)) ∧ (decode cX8_odds 205 = .ok (.iconst 0, 1)) ∧ (decode cX8_odds 206 = .ok (.iadd, 1)) ∧ (decode cX8_odds 207 = .ok (.istore 5, 2)) ∧ (decode cX8_odds 209 = .ok (.iinc 7 1, 3)) := by decide +kernel
theorem dX8_odds_188 : decode cX8_odds 188 = .ok (.iload 7, 2) := dX8_odds_188_b.1
theorem dX8_odds_190 : decode cX8_odds 190 = .ok (.iload 4, 2) := dX8_odds_188_b.2.1
theorem dX8_odds_192 : decode cX8_odds 192 = .ok (.iand, 1) := dX8_odds_188_b.2.2.1
theorem dX8_odds_193 : decode cX8_odds 193 = .ok (.invokestatic 161, 3) := dX8_odds_188_b.2.2.2.1
theorem dX8_odds_196 : decode cX8_odds 196 = .ok (.iload_n 1, 1) := dX8_odds_188_b.2.2.2.2.1
theorem dX8_odds_197 : decode cX8_odds 197 = .ok (.if_icmp .lt 8, 3) := dX8_odds_188_b.2.2.2.2.2.1
theorem dX8_odds_200 : decode cX8_odds 200 = .ok (.iload 8, 2) := dX8_odds_188_b.2.2.2.2.2.2.1
theorem dX8_odds_202 : decode cX8_odds 202 = .ok (.goto 4, 3) := dX8_odds_188_b.2.2.2.2.2.2.2.1
theorem dX8_odds_205 : decode cX8_odds 205 = .ok (.iconst 0, 1) := dX8_odds_188_b.2.2.2.2.2.2.2.2.1
theorem dX8_odds_206 : decode cX8_odds 206 = .ok (.iadd, 1) := dX8_odds_188_b.2.2.2.2.2.2.2.2.2.1
theorem dX8_odds_207 : decode cX8_odds 207 = .ok (.istore 5, 2) := dX8_odds_188_b.2.2.2.2.2.2.2.2.2.2.1
theorem dX8_odds_209 : decode cX8_odds 209 = .ok (.iinc 7 1, 3) := dX8_odds_188_b.2.2.2.2.2.2.2.2.2.2.2
theorem dX8_odds_212_b : (decode cX8_odds 212 = .ok (.goto (-111), 3)) ∧ (decode cX8_odds 215 = .ok (.iload 5, 2)) ∧ (decode cX8_odds 217 = .ok (.istore 7, 2)) ∧ (decode cX8_odds 219 = .ok (.iload 6, 2)) ∧ (decode cX8_odds 221 = .ok (.istore 8, 2)) ∧ (decode cX8_odds 223 = .ok (.iload 8, 2)) ∧ (decode cX8_odds 225 = .ok (.ifCond .eq 21, 3)) ∧ (decode cX8_odds 228 = .ok (.iload 7, 2)) ∧ (decode cX8_odds 230 = .ok (.iload 8, 2)) ∧ (decode cX8_odds 232 = .ok (.irem, 1)) ∧ (decode cX8_odds 233 = .ok (.istore 9, 2)) ∧ (decode cX8_odds 235 = .ok (.iload 8, 2)) := by decide +kernel
theorem dX8_odds_212 : decode cX8_odds 212 = .ok (.goto (-111), 3) := dX8_odds_212_b.1
theorem dX8_odds_215 : decode cX8_odds 215 = .ok (.iload 5, 2) := dX8_odds_212_b.2.1
theorem dX8_odds_217 : decode cX8_odds 217 = .ok (.istore 7, 2) := dX8_odds_212_b.2.2.1
theorem dX8_odds_219 : decode cX8_odds 219 = .ok (.iload 6, 2) := dX8_odds_212_b.2.2.2.1
theorem dX8_odds_221 : decode cX8_odds 221 = .ok (.istore 8, 2) := dX8_odds_212_b.2.2.2.2.1
theorem dX8_odds_223 : decode cX8_odds 223 = .ok (.iload 8, 2) := dX8_odds_212_b.2.2.2.2.2.1
theorem dX8_odds_225 : decode cX8_odds 225 = .ok (.ifCond .eq 21, 3) := dX8_odds_212_b.2.2.2.2.2.2.1
theorem dX8_odds_228 : decode cX8_odds 228 = .ok (.iload 7, 2) := dX8_odds_212_b.2.2.2.2.2.2.2.1
theorem dX8_odds_230 : decode cX8_odds 230 = .ok (.iload 8, 2) := dX8_odds_212_b.2.2.2.2.2.2.2.2.1
theorem dX8_odds_232 : decode cX8_odds 232 = .ok (.irem, 1) := dX8_odds_212_b.2.2.2.2.2.2.2.2.2.1
theorem dX8_odds_233 : decode cX8_odds 233 = .ok (.istore 9, 2) := dX8_odds_212_b.2.2.2.2.2.2.2.2.2.2.1
theorem dX8_odds_235 : decode cX8_odds 235 = .ok (.iload 8, 2) := dX8_odds_212_b.2.2.2.2.2.2.2.2.2.2.2
theorem dX8_odds_237_b : (decode cX8_odds 237 = .ok (.istore 7, 2)) ∧ (decode cX8_odds 239 = .ok (.iload 9, 2)) ∧ (decode cX8_odds 241 = .ok (.istore 8, 2)) ∧ (decode cX8_odds 243 = .ok (.goto (-20), 3)) ∧ (decode cX8_odds 246 = .ok (.iload_n 3, 1)) ∧ (decode cX8_odds 247 = .ok (.ifCond .ne 8, 3)) ∧ (decode cX8_odds 250 = .ok (.iload 5, 2)) ∧ (decode cX8_odds 252 = .ok (.goto 5, 3)) ∧ (decode cX8_odds 255 = .ok (.iload 6, 2)) ∧ (decode cX8_odds 257 = .ok (.iload 7, 2)) ∧ (decode cX8_odds 259 = .ok (.idiv, 1)) ∧ (decode cX8_odds 260 = .ok (.ireturn, 1)) := by decide +kernel
theorem dX8_odds_237 : decode cX8_odds 237 = .ok (.istore 7, 2) := dX8_odds_237_b.1
theorem dX8_odds_239 : decode cX8_odds 239 = .ok (.iload 9, 2) := dX8_odds_237_b.2.1
theorem dX8_odds_241 : decode cX8_odds 241 = .ok (.istore 8, 2) := dX8_odds_237_b.2.2.1
theorem dX8_odds_243 : decode cX8_odds 243 = .ok (.goto (-20), 3) := dX8_odds_237_b.2.2.2.1
theorem dX8_odds_246 : decode cX8_odds 246 = .ok (.iload_n 3, 1) := dX8_odds_237_b.2.2.2.2.1
theorem dX8_odds_247 : decode cX8_odds 247 = .ok (.ifCond .ne 8, 3) := dX8_odds_237_b.2.2.2.2.2.1
theorem dX8_odds_250 : decode cX8_odds 250 = .ok (.iload 5, 2) := dX8_odds_237_b.2.2.2.2.2.2.1
theorem dX8_odds_252 : decode cX8_odds 252 = .ok (.goto 5, 3) := dX8_odds_237_b.2.2.2.2.2.2.2.1
theorem dX8_odds_255 : decode cX8_odds 255 = .ok (.iload 6, 2) := dX8_odds_237_b.2.2.2.2.2.2.2.2.1
theorem dX8_odds_257 : decode cX8_odds 257 = .ok (.iload 7, 2) := dX8_odds_237_b.2.2.2.2.2.2.2.2.2.1
theorem dX8_odds_259 : decode cX8_odds 259 = .ok (.idiv, 1) := dX8_odds_237_b.2.2.2.2.2.2.2.2.2.2.1
theorem dX8_odds_260 : decode cX8_odds 260 = .ok (.ireturn, 1) := dX8_odds_237_b.2.2.2.2.2.2.2.2.2.2.2
theorem dX8_image_0_b : (decode cX8_image 0 = .ok (.iload_n 1, 1)) ∧ (decode cX8_image 1 = .ok (.iconst 0, 1)) ∧ (decode cX8_image 2 = .ok (.iconst 1, 1)) ∧ (decode cX8_image 3 = .ok (.invokestatic 56, 3)) ∧ (decode cX8_image 6 = .ok (.ifCond .ne 6, 3)) ∧ (decode cX8_image 9 = .ok (.ldc 64, 2)) ∧ (decode cX8_image 11 = .ok (.ireturn, 1)) ∧ (decode cX8_image 12 = .ok (.aload_n 0, 1)) ∧ (decode cX8_image 13 = .ok (.invokevirtual 171, 3)) ∧ (decode cX8_image 16 = .ok (.ifCond .ne 6, 3)) ∧ (decode cX8_image 19 = .ok (.ldc 174, 2)) ∧ (decode cX8_image 21 = .ok (.ireturn, 1)) := by decide +kernel
theorem dX8_image_0 : decode cX8_image 0 = .ok (.iload_n 1, 1) := dX8_image_0_b.1
theorem dX8_image_1 : decode cX8_image 1 = .ok (.iconst 0, 1) := dX8_image_0_b.2.1
theorem dX8_image_2 : decode cX8_image 2 = .ok (.iconst 1, 1) := dX8_image_0_b.2.2.1
theorem dX8_image_3 : decode cX8_image 3 = .ok (.invokestatic 56, 3) := dX8_image_0_b.2.2.2.1
theorem dX8_image_6 : decode cX8_image 6 = .ok (.ifCond .ne 6, 3) := dX8_image_0_b.2.2.2.2.1
theorem dX8_image_9 : decode cX8_image 9 = .ok (.ldc 64, 2) := dX8_image_0_b.2.2.2.2.2.1
theorem dX8_image_11 : decode cX8_image 11 = .ok (.ireturn, 1) := dX8_image_0_b.2.2.2.2.2.2.1
theorem dX8_image_12 : decode cX8_image 12 = .ok (.aload_n 0, 1) := dX8_image_0_b.2.2.2.2.2.2.2.1
theorem dX8_image_13 : decode cX8_image 13 = .ok (.invokevirtual 171, 3) := dX8_image_0_b.2.2.2.2.2.2.2.2.1
theorem dX8_image_16 : decode cX8_image 16 = .ok (.ifCond .ne 6, 3) := dX8_image_0_b.2.2.2.2.2.2.2.2.2.1
theorem dX8_image_19 : decode cX8_image 19 = .ok (.ldc 174, 2) := dX8_image_0_b.2.2.2.2.2.2.2.2.2.2.1
theorem dX8_image_21 : decode cX8_image 21 = .ok (.ireturn, 1) := dX8_image_0_b.2.2.2.2.2.2.2.2.2.2.2
theorem dX8_image_22_b : (decode cX8_image 22 = .ok (.aload_n 0, 1)) ∧ (decode cX8_image 23 = .ok (.getfield 25, 3)) ∧ (decode cX8_image 26 = .ok (.iconst 0, 1)) ∧ (decode cX8_image 27 = .ok (.aload_n 0, 1)) ∧ (decode cX8_image 28 = .ok (.getfield 34, 3)) ∧ (decode cX8_image 31 = .ok (.bipush 68, 2)) ∧ (decode cX8_image 33 = .ok (.iload_n 1, 1)) ∧ (decode cX8_image 34 = .ok (.imul, 1)) ∧ (decode cX8_image 35 = .ok (.invokestatic 134, 3)) ∧ (decode cX8_image 38 = .ok (.aload_n 0, 1)) ∧ (decode cX8_image 39 = .ok (.getfield 37, 3)) ∧ (decode cX8_image 42 = .ok (.iload_n 1, 1)) := by decide +kernel
theorem dX8_image_22 : decode cX8_image 22 = .ok (.aload_n 0, 1) := dX8_image_22_b.1
theorem dX8_image_23 : decode cX8_image 23 = .ok (.getfield 25, 3) := dX8_image_22_b.2.1
theorem dX8_image_26 : decode cX8_image 26 = .ok (.iconst 0, 1) := dX8_image_22_b.2.2.1
theorem dX8_image_27 : decode cX8_image 27 = .ok (.aload_n 0, 1) := dX8_image_22_b.2.2.2.1
theorem dX8_image_28 : decode cX8_image 28 = .ok (.getfield 34, 3) := dX8_image_22_b.2.2.2.2.1
theorem dX8_image_31 : decode cX8_image 31 = .ok (.bipush 68, 2) := dX8_image_22_b.2.2.2.2.2.1
theorem dX8_image_33 : decode cX8_image 33 = .ok (.iload_n 1, 1) := dX8_image_22_b.2.2.2.2.2.2.1
theorem dX8_image_34 : decode cX8_image 34 = .ok (.imul, 1) := dX8_image_22_b.2.2.2.2.2.2.2.1
theorem dX8_image_35 : decode cX8_image 35 = .ok (.invokestatic 134, 3) := dX8_image_22_b.2.2.2.2.2.2.2.2.1
theorem dX8_image_38 : decode cX8_image 38 = .ok (.aload_n 0, 1) := dX8_image_22_b.2.2.2.2.2.2.2.2.2.1
theorem dX8_image_39 : decode cX8_image 39 = .ok (.getfield 37, 3) := dX8_image_22_b.2.2.2.2.2.2.2.2.2.2.1
theorem dX8_image_42 : decode cX8_image 42 = .ok (.iload_n 1, 1) := dX8_image_22_b.2.2.2.2.2.2.2.2.2.2.2
theorem dX8_image_43_b : (decode cX8_image 43 = .ok (.iconst 1, 1)) ∧ (decode cX8_image 44 = .ok (.bastore, 1)) ∧ (decode cX8_image 45 = .ok (.iconst 1, 1)) ∧ (decode cX8_image 46 = .ok (.ireturn, 1)) := by decide +kernel
theorem dX8_image_43 : decode cX8_image 43 = .ok (.iconst 1, 1) := dX8_image_43_b.1
theorem dX8_image_44 : decode cX8_image 44 = .ok (.bastore, 1) := dX8_image_43_b.2.1
theorem dX8_image_45 : decode cX8_image 45 = .ok (.iconst 1, 1) := dX8_image_43_b.2.2.1
theorem dX8_image_46 : decode cX8_image 46 = .ok (.ireturn, 1) := dX8_image_43_b.2.2.2
theorem dX8_restore_0_b : (decode cX8_restore 0 = .ok (.iload_n 1, 1)) ∧ (decode cX8_restore 1 = .ok (.iconst 0, 1)) ∧ (decode cX8_restore 2 = .ok (.iconst 1, 1)) ∧ (decode cX8_restore 3 = .ok (.invokestatic 56, 3)) ∧ (decode cX8_restore 6 = .ok (.ifCond .ne 6, 3)) ∧ (decode cX8_restore 9 = .ok (.ldc 64, 2)) ∧ (decode cX8_restore 11 = .ok (.ireturn, 1)) ∧ (decode cX8_restore 12 = .ok (.aload_n 0, 1)) ∧ (decode cX8_restore 13 = .ok (.getfield 37, 3)) ∧ (decode cX8_restore 16 = .ok (.iload_n 1, 1)) ∧ (decode cX8_restore 17 = .ok (.baload, 1)) ∧ (decode cX8_restore 18 = .ok (.ifCond .ne 6, 3)) := by decide +kernel
theorem dX8_restore_0 : decode cX8_restore 0 = .ok (.iload_n 1, 1) := dX8_restore_0_b.1
theorem dX8_restore_1 : decode cX8_restore 1 = .ok (.iconst 0, 1) := dX8_restore_0_b.2.1
theorem dX8_restore_2 : decode cX8_restore 2 = .ok (.iconst 1, 1) := dX8_restore_0_b.2.2.1
theorem dX8_restore_3 : decode cX8_restore 3 = .ok (.invokestatic 56, 3) := dX8_restore_0_b.2.2.2.1
theorem dX8_restore_6 : decode cX8_restore 6 = .ok (.ifCond .ne 6, 3) := dX8_restore_0_b.2.2.2.2.1
theorem dX8_restore_9 : decode cX8_restore 9 = .ok (.ldc 64, 2) := dX8_restore_0_b.2.2.2.2.2.1
theorem dX8_restore_11 : decode cX8_restore 11 = .ok (.ireturn, 1) := dX8_restore_0_b.2.2.2.2.2.2.1
theorem dX8_restore_12 : decode cX8_restore 12 = .ok (.aload_n 0, 1) := dX8_restore_0_b.2.2.2.2.2.2.2.1
theorem dX8_restore_13 : decode cX8_restore 13 = .ok (.getfield 37, 3) := dX8_restore_0_b.2.2.2.2.2.2.2.2.1
theorem dX8_restore_16 : decode cX8_restore 16 = .ok (.iload_n 1, 1) := dX8_restore_0_b.2.2.2.2.2.2.2.2.2.1
theorem dX8_restore_17 : decode cX8_restore 17 = .ok (.baload, 1) := dX8_restore_0_b.2.2.2.2.2.2.2.2.2.2.1
theorem dX8_restore_18 : decode cX8_restore 18 = .ok (.ifCond .ne 6, 3) := dX8_restore_0_b.2.2.2.2.2.2.2.2.2.2.2
theorem dX8_restore_21_b : (decode cX8_restore 21 = .ok (.ldc 174, 2)) ∧ (decode cX8_restore 23 = .ok (.ireturn, 1)) ∧ (decode cX8_restore 24 = .ok (.aload_n 0, 1)) ∧ (decode cX8_restore 25 = .ok (.getfield 34, 3)) ∧ (decode cX8_restore 28 = .ok (.bipush 68, 2)) ∧ (decode cX8_restore 30 = .ok (.iload_n 1, 1)) ∧ (decode cX8_restore 31 = .ok (.imul, 1)) ∧ (decode cX8_restore 32 = .ok (.aload_n 0, 1)) ∧ (decode cX8_restore 33 = .ok (.getfield 25, 3)) ∧ (decode cX8_restore 36 = .ok (.iconst 0, 1)) ∧ (decode cX8_restore 37 = .ok (.invokestatic 134, 3)) ∧ (decode cX8_restore 40 = .ok (.aload_n 0, 1)) := by decide +kernel
theorem dX8_restore_21 : decode cX8_restore 21 = .ok (.ldc 174, 2) := dX8_restore_21_b.1
theorem dX8_restore_23 : decode cX8_restore 23 = .ok (.ireturn, 1) := dX8_restore_21_b.2.1
theorem dX8_restore_24 : decode cX8_restore 24 = .ok (.aload_n 0, 1) := dX8_restore_21_b.2.2.1
theorem dX8_restore_25 : decode cX8_restore 25 = .ok (.getfield 34, 3) := dX8_restore_21_b.2.2.2.1
theorem dX8_restore_28 : decode cX8_restore 28 = .ok (.bipush 68, 2) := dX8_restore_21_b.2.2.2.2.1
theorem dX8_restore_30 : decode cX8_restore 30 = .ok (.iload_n 1, 1) := dX8_restore_21_b.2.2.2.2.2.1
theorem dX8_restore_31 : decode cX8_restore 31 = .ok (.imul, 1) := dX8_restore_21_b.2.2.2.2.2.2.1
theorem dX8_restore_32 : decode cX8_restore 32 = .ok (.aload_n 0, 1) := dX8_restore_21_b.2.2.2.2.2.2.2.1
theorem dX8_restore_33 : decode cX8_restore 33 = .ok (.getfield 25, 3) := dX8_restore_21_b.2.2.2.2.2.2.2.2.1
theorem dX8_restore_36 : decode cX8_restore 36 = .ok (.iconst 0, 1) := dX8_restore_21_b.2.2.2.2.2.2.2.2.2.1
theorem dX8_restore_37 : decode cX8_restore 37 = .ok (.invokestatic 134, 3) := dX8_restore_21_b.2.2.2.2.2.2.2.2.2.2.1
theorem dX8_restore_40 : decode cX8_restore 40 = .ok (.aload_n 0, 1) := dX8_restore_21_b.2.2.2.2.2.2.2.2.2.2.2
theorem dX8_restore_41_b : (decode cX8_restore 41 = .ok (.iconst 0, 1)) ∧ (decode cX8_restore 42 = .ok (.putfield 138, 3)) ∧ (decode cX8_restore 45 = .ok (.iconst 1, 1)) ∧ (decode cX8_restore 46 = .ok (.ireturn, 1)) := by decide +kernel
theorem dX8_restore_41 : decode cX8_restore 41 = .ok (.iconst 0, 1) := dX8_restore_41_b.1
theorem dX8_restore_42 : decode cX8_restore 42 = .ok (.putfield 138, 3) := dX8_restore_41_b.2.1
theorem dX8_restore_45 : decode cX8_restore 45 = .ok (.iconst 1, 1) := dX8_restore_41_b.2.2.1
theorem dX8_restore_46 : decode cX8_restore 46 = .ok (.ireturn, 1) := dX8_restore_41_b.2.2.2
theorem dX8_kindIn_0_b : (decode cX8_kindIn 0 = .ok (.aload_n 0, 1)) ∧ (decode cX8_kindIn 1 = .ok (.getfield 25, 3)) ∧ (decode cX8_kindIn 4 = .ok (.bipush 6, 2)) ∧ (decode cX8_kindIn 6 = .ok (.bipush 7, 2)) ∧ (decode cX8_kindIn 8 = .ok (.iload_n 1, 1)) ∧ (decode cX8_kindIn 9 = .ok (.imul, 1)) ∧ (decode cX8_kindIn 10 = .ok (.iadd, 1)) ∧ (decode cX8_kindIn 11 = .ok (.iaload, 1)) ∧ (decode cX8_kindIn 12 = .ok (.ireturn, 1)) := by decide +kernel
theorem dX8_kindIn_0 : decode cX8_kindIn 0 = .ok (.aload_n 0, 1) := dX8_kindIn_0_b.1
theorem dX8_kindIn_1 : decode cX8_kindIn 1 = .ok (.getfield 25, 3) := dX8_kindIn_0_b.2.1
theorem dX8_kindIn_4 : decode cX8_kindIn 4 = .ok (.bipush 6, 2) := dX8_kindIn_0_b.2.2.1
theorem dX8_kindIn_6 : decode cX8_kindIn 6 = .ok (.bipush 7, 2) := dX8_kindIn_0_b.2.2.2.1
theorem dX8_kindIn_8 : decode cX8_kindIn 8 = .ok (.iload_n 1, 1) := dX8_kindIn_0_b.2.2.2.2.1
theorem dX8_kindIn_9 : decode cX8_kindIn 9 = .ok (.imul, 1) := dX8_kindIn_0_b.2.2.2.2.2.1
theorem dX8_kindIn_10 : decode cX8_kindIn 10 = .ok (.iadd, 1) := dX8_kindIn_0_b.2.2.2.2.2.2.1
theorem dX8_kindIn_11 : decode cX8_kindIn 11 = .ok (.iaload, 1) := dX8_kindIn_0_b.2.2.2.2.2.2.2.1
theorem dX8_kindIn_12 : decode cX8_kindIn 12 = .ok (.ireturn, 1) := dX8_kindIn_0_b.2.2.2.2.2.2.2.2
theorem dX8_kind_0_b : (decode cX8_kind 0 = .ok (.aload_n 0, 1)) ∧ (decode cX8_kind 1 = .ok (.iload_n 1, 1)) ∧ (decode cX8_kind 2 = .ok (.invokevirtual 178, 3)) ∧ (decode cX8_kind 5 = .ok (.ifCond .eq 11, 3)) ∧ (decode cX8_kind 8 = .ok (.aload_n 0, 1)) ∧ (decode cX8_kind 9 = .ok (.iload_n 1, 1)) ∧ (decode cX8_kind 10 = .ok (.invokevirtual 206, 3)) ∧ (decode cX8_kind 13 = .ok (.goto 5, 3)) ∧ (decode cX8_kind 16 = .ok (.ldc 64, 2)) ∧ (decode cX8_kind 18 = .ok (.ireturn, 1)) := by decide +kernel
theorem dX8_kind_0 : decode cX8_kind 0 = .ok (.aload_n 0, 1) := dX8_kind_0_b.1
theorem dX8_kind_1 : decode cX8_kind 1 = .ok (.iload_n 1, 1) := dX8_kind_0_b.2.1
theorem dX8_kind_2 : decode cX8_kind 2 = .ok (.invokevirtual 178, 3) := dX8_kind_0_b.2.2.1
theorem dX8_kind_5 : decode cX8_kind 5 = .ok (.ifCond .eq 11, 3) := dX8_kind_0_b.2.2.2.1
theorem dX8_kind_8 : decode cX8_kind 8 = .ok (.aload_n 0, 1) := dX8_kind_0_b.2.2.2.2.1
theorem dX8_kind_9 : decode cX8_kind 9 = .ok (.iload_n 1, 1) := dX8_kind_0_b.2.2.2.2.2.1
theorem dX8_kind_10 : decode cX8_kind 10 = .ok (.invokevirtual 206, 3) := dX8_kind_0_b.2.2.2.2.2.2.1
theorem dX8_kind_13 : decode cX8_kind 13 = .ok (.goto 5, 3) := dX8_kind_0_b.2.2.2.2.2.2.2.1
theorem dX8_kind_16 : decode cX8_kind 16 = .ok (.ldc 64, 2) := dX8_kind_0_b.2.2.2.2.2.2.2.2.1
theorem dX8_kind_18 : decode cX8_kind 18 = .ok (.ireturn, 1) := dX8_kind_0_b.2.2.2.2.2.2.2.2.2
theorem dX8_as_0_b : (decode cX8_as 0 = .ok (.aload_n 0, 1)) ∧ (decode cX8_as 1 = .ok (.iload_n 1, 1)) ∧ (decode cX8_as 2 = .ok (.invokevirtual 178, 3)) ∧ (decode cX8_as 5 = .ok (.ifCond .eq 12, 3)) ∧ (decode cX8_as 8 = .ok (.iload_n 2, 1)) ∧ (decode cX8_as 9 = .ok (.iconst 0, 1)) ∧ (decode cX8_as 10 = .ok (.iconst 5, 1)) ∧ (decode cX8_as 11 = .ok (.invokestatic 56, 3)) ∧ (decode cX8_as 14 = .ok (.ifCond .ne 6, 3)) ∧ (decode cX8_as 17 = .ok (.ldc 64, 2)) ∧ (decode cX8_as 19 = .ok (.ireturn, 1)) ∧ (decode cX8_as 20 = .ok (.aload_n 0, 1)) := by decide +kernel
theorem dX8_as_0 : decode cX8_as 0 = .ok (.aload_n 0, 1) := dX8_as_0_b.1
theorem dX8_as_1 : decode cX8_as 1 = .ok (.iload_n 1, 1) := dX8_as_0_b.2.1
theorem dX8_as_2 : decode cX8_as 2 = .ok (.invokevirtual 178, 3) := dX8_as_0_b.2.2.1
theorem dX8_as_5 : decode cX8_as 5 = .ok (.ifCond .eq 12, 3) := dX8_as_0_b.2.2.2.1
theorem dX8_as_8 : decode cX8_as 8 = .ok (.iload_n 2, 1) := dX8_as_0_b.2.2.2.2.1
theorem dX8_as_9 : decode cX8_as 9 = .ok (.iconst 0, 1) := dX8_as_0_b.2.2.2.2.2.1
theorem dX8_as_10 : decode cX8_as 10 = .ok (.iconst 5, 1) := dX8_as_0_b.2.2.2.2.2.2.1
theorem dX8_as_11 : decode cX8_as 11 = .ok (.invokestatic 56, 3) := dX8_as_0_b.2.2.2.2.2.2.2.1
theorem dX8_as_14 : decode cX8_as 14 = .ok (.ifCond .ne 6, 3) := dX8_as_0_b.2.2.2.2.2.2.2.2.1
theorem dX8_as_17 : decode cX8_as 17 = .ok (.ldc 64, 2) := dX8_as_0_b.2.2.2.2.2.2.2.2.2.1
theorem dX8_as_19 : decode cX8_as 19 = .ok (.ireturn, 1) := dX8_as_0_b.2.2.2.2.2.2.2.2.2.2.1
theorem dX8_as_20 : decode cX8_as 20 = .ok (.aload_n 0, 1) := dX8_as_0_b.2.2.2.2.2.2.2.2.2.2.2
theorem dX8_as_21_b : (decode cX8_as 21 = .ok (.iload_n 1, 1)) ∧ (decode cX8_as 22 = .ok (.invokevirtual 206, 3)) ∧ (decode cX8_as 25 = .ok (.istore_n 3, 1)) ∧ (decode cX8_as 26 = .ok (.iload_n 2, 1)) ∧ (decode cX8_as 27 = .ok (.ifCond .eq 28, 3)) ∧ (decode cX8_as 30 = .ok (.iload_n 2, 1)) ∧ (decode cX8_as 31 = .ok (.iload_n 3, 1)) ∧ (decode cX8_as 32 = .ok (.if_icmp .eq 23, 3)) ∧ (decode cX8_as 35 = .ok (.iload_n 2, 1)) ∧ (decode cX8_as 36 = .ok (.iconst 1, 1)) ∧ (decode cX8_as 37 = .ok (.if_icmp .ne 8, 3)) ∧ (decode cX8_as 40 = .ok (.iload_n 3, 1)) := by decide +kernel
theorem dX8_as_21 : decode cX8_as 21 = .ok (.iload_n 1, 1) := dX8_as_21_b.1
theorem dX8_as_22 : decode cX8_as 22 = .ok (.invokevirtual 206, 3) := dX8_as_21_b.2.1
theorem dX8_as_25 : decode cX8_as 25 = .ok (.istore_n 3, 1) := dX8_as_21_b.2.2.1
theorem dX8_as_26 : decode cX8_as 26 = .ok (.iload_n 2, 1) := dX8_as_21_b.2.2.2.1
theorem dX8_as_27 : decode cX8_as 27 = .ok (.ifCond .eq 28, 3) := dX8_as_21_b.2.2.2.2.1
theorem dX8_as_30 : decode cX8_as 30 = .ok (.iload_n 2, 1) := dX8_as_21_b.2.2.2.2.2.1
theorem dX8_as_31 : decode cX8_as 31 = .ok (.iload_n 3, 1) := dX8_as_21_b.2.2.2.2.2.2.1
theorem dX8_as_32 : decode cX8_as 32 = .ok (.if_icmp .eq 23, 3) := dX8_as_21_b.2.2.2.2.2.2.2.1
theorem dX8_as_35 : decode cX8_as 35 = .ok (.iload_n 2, 1) := dX8_as_21_b.2.2.2.2.2.2.2.2.1
theorem dX8_as_36 : decode cX8_as 36 = .ok (.iconst 1, 1) := dX8_as_21_b.2.2.2.2.2.2.2.2.2.1
theorem dX8_as_37 : decode cX8_as 37 = .ok (.if_icmp .ne 8, 3) := dX8_as_21_b.2.2.2.2.2.2.2.2.2.2.1
theorem dX8_as_40 : decode cX8_as 40 = .ok (.iload_n 3, 1) := dX8_as_21_b.2.2.2.2.2.2.2.2.2.2.2
theorem dX8_as_41_b : (decode cX8_as 41 = .ok (.iconst 4, 1)) ∧ (decode cX8_as 42 = .ok (.if_icmp .lt 13, 3)) ∧ (decode cX8_as 45 = .ok (.iload_n 2, 1)) ∧ (decode cX8_as 46 = .ok (.iconst 4, 1)) ∧ (decode cX8_as 47 = .ok (.if_icmp .ne 12, 3)) ∧ (decode cX8_as 50 = .ok (.iload_n 3, 1)) ∧ (decode cX8_as 51 = .ok (.iconst 5, 1)) ∧ (decode cX8_as 52 = .ok (.if_icmp .ne 7, 3)) ∧ (decode cX8_as 55 = .ok (.iconst 1, 1)) ∧ (decode cX8_as 56 = .ok (.goto 4, 3)) ∧ (decode cX8_as 59 = .ok (.iconst 0, 1)) ∧ (decode cX8_as 60 = .ok (.istore 4, 2)) := by decide +kernel
theorem dX8_as_41 : decode cX8_as 41 = .ok (.iconst 4, 1) := dX8_as_41_b.1
theorem dX8_as_42 : decode cX8_as 42 = .ok (.if_icmp .lt 13, 3) := dX8_as_41_b.2.1
theorem dX8_as_45 : decode cX8_as 45 = .ok (.iload_n 2, 1) := dX8_as_41_b.2.2.1
theorem dX8_as_46 : decode cX8_as 46 = .ok (.iconst 4, 1) := dX8_as_41_b.2.2.2.1
theorem dX8_as_47 : decode cX8_as 47 = .ok (.if_icmp .ne 12, 3) := dX8_as_41_b.2.2.2.2.1
theorem dX8_as_50 : decode cX8_as 50 = .ok (.iload_n 3, 1) := dX8_as_41_b.2.2.2.2.2.1
theorem dX8_as_51 : decode cX8_as 51 = .ok (.iconst 5, 1) := dX8_as_41_b.2.2.2.2.2.2.1
theorem dX8_as_52 : decode cX8_as 52 = .ok (.if_icmp .ne 7, 3) := dX8_as_41_b.2.2.2.2.2.2.2.1
theorem dX8_as_55 : decode cX8_as 55 = .ok (.iconst 1, 1) := dX8_as_41_b.2.2.2.2.2.2.2.2.1
theorem dX8_as_56 : decode cX8_as 56 = .ok (.goto 4, 3) := dX8_as_41_b.2.2.2.2.2.2.2.2.2.1
theorem dX8_as_59 : decode cX8_as 59 = .ok (.iconst 0, 1) := dX8_as_41_b.2.2.2.2.2.2.2.2.2.2.1
theorem dX8_as_60 : decode cX8_as 60 = .ok (.istore 4, 2) := dX8_as_41_b.2.2.2.2.2.2.2.2.2.2.2
theorem dX8_as_62_b : (decode cX8_as 62 = .ok (.iload 4, 2)) ∧ (decode cX8_as 64 = .ok (.ifCond .eq 11, 3)) ∧ (decode cX8_as 67 = .ok (.aload_n 0, 1)) ∧ (decode cX8_as 68 = .ok (.iload_n 1, 1)) ∧ (decode cX8_as 69 = .ok (.invokevirtual 69, 3)) ∧ (decode cX8_as 72 = .ok (.goto 8, 3)) ∧ (decode cX8_as 75 = .ok (.aload_n 0, 1)) ∧ (decode cX8_as 76 = .ok (.iconst 3, 1)) ∧ (decode cX8_as 77 = .ok (.invokevirtual 65, 3)) ∧ (decode cX8_as 80 = .ok (.ireturn, 1)) := by decide +kernel
theorem dX8_as_62 : decode cX8_as 62 = .ok (.iload 4, 2) := dX8_as_62_b.1
theorem dX8_as_64 : decode cX8_as 64 = .ok (.ifCond .eq 11, 3) := dX8_as_62_b.2.1
theorem dX8_as_67 : decode cX8_as 67 = .ok (.aload_n 0, 1) := dX8_as_62_b.2.2.1
theorem dX8_as_68 : decode cX8_as 68 = .ok (.iload_n 1, 1) := dX8_as_62_b.2.2.2.1
theorem dX8_as_69 : decode cX8_as 69 = .ok (.invokevirtual 69, 3) := dX8_as_62_b.2.2.2.2.1
theorem dX8_as_72 : decode cX8_as 72 = .ok (.goto 8, 3) := dX8_as_62_b.2.2.2.2.2.1
theorem dX8_as_75 : decode cX8_as 75 = .ok (.aload_n 0, 1) := dX8_as_62_b.2.2.2.2.2.2.1
theorem dX8_as_76 : decode cX8_as 76 = .ok (.iconst 3, 1) := dX8_as_62_b.2.2.2.2.2.2.2.1
theorem dX8_as_77 : decode cX8_as 77 = .ok (.invokevirtual 65, 3) := dX8_as_62_b.2.2.2.2.2.2.2.2.1
theorem dX8_as_80 : decode cX8_as 80 = .ok (.ireturn, 1) := dX8_as_62_b.2.2.2.2.2.2.2.2.2
theorem dX8_begins_0_b : (decode cX8_begins 0 = .ok (.aload_n 0, 1)) ∧ (decode cX8_begins 1 = .ok (.getfield 209, 3)) ∧ (decode cX8_begins 4 = .ok (.bipush 16, 2)) ∧ (decode cX8_begins 6 = .ok (.if_icmp .ge 23, 3)) ∧ (decode cX8_begins 9 = .ok (.aload_n 0, 1)) ∧ (decode cX8_begins 10 = .ok (.getfield 47, 3)) ∧ (decode cX8_begins 13 = .ok (.aload_n 0, 1)) ∧ (decode cX8_begins 14 = .ok (.getfield 209, 3)) ∧ (decode cX8_begins 17 = .ok (.iload_n 1, 1)) ∧ (decode cX8_begins 18 = .ok (.iastore, 1)) ∧ (decode cX8_begins 19 = .ok (.aload_n 0, 1)) ∧ (decode cX8_begins 20 = .ok (.dup, 1)) := by decide +kernel
theorem dX8_begins_0 : decode cX8_begins 0 = .ok (.aload_n 0, 1) := dX8_begins_0_b.1
theorem dX8_begins_1 : decode cX8_begins 1 = .ok (.getfield 209, 3) := dX8_begins_0_b.2.1
theorem dX8_begins_4 : decode cX8_begins 4 = .ok (.bipush 16, 2) := dX8_begins_0_b.2.2.1
theorem dX8_begins_6 : decode cX8_begins 6 = .ok (.if_icmp .ge 23, 3) := dX8_begins_0_b.2.2.2.1
theorem dX8_begins_9 : decode cX8_begins 9 = .ok (.aload_n 0, 1) := dX8_begins_0_b.2.2.2.2.1
theorem dX8_begins_10 : decode cX8_begins 10 = .ok (.getfield 47, 3) := dX8_begins_0_b.2.2.2.2.2.1
theorem dX8_begins_13 : decode cX8_begins 13 = .ok (.aload_n 0, 1) := dX8_begins_0_b.2.2.2.2.2.2.1
theorem dX8_begins_14 : decode cX8_begins 14 = .ok (.getfield 209, 3) := dX8_begins_0_b.2.2.2.2.2.2.2.1
theorem dX8_begins_17 : decode cX8_begins 17 = .ok (.iload_n 1, 1) := dX8_begins_0_b.2.2.2.2.2.2.2.2.1
theorem dX8_begins_18 : decode cX8_begins 18 = .ok (.iastore, 1) := dX8_begins_0_b.2.2.2.2.2.2.2.2.2.1
theorem dX8_begins_19 : decode cX8_begins 19 = .ok (.aload_n 0, 1) := dX8_begins_0_b.2.2.2.2.2.2.2.2.2.2.1
theorem dX8_begins_20 : decode cX8_begins 20 = .ok (.dup, 1) := dX8_begins_0_b.2.2.2.2.2.2.2.2.2.2.2
theorem dX8_begins_21_b : (decode cX8_begins 21 = .ok (.getfield 209, 3)) ∧ (decode cX8_begins 24 = .ok (.iconst 1, 1)) ∧ (decode cX8_begins 25 = .ok (.iadd, 1)) ∧ (decode cX8_begins 26 = .ok (.putfield 209, 3)) ∧ (decode cX8_begins 29 = .ok (.return_, 1)) := by decide +kernel
theorem dX8_begins_21 : decode cX8_begins 21 = .ok (.getfield 209, 3) := dX8_begins_21_b.1
theorem dX8_begins_24 : decode cX8_begins 24 = .ok (.iconst 1, 1) := dX8_begins_21_b.2.1
theorem dX8_begins_25 : decode cX8_begins 25 = .ok (.iadd, 1) := dX8_begins_21_b.2.2.1
theorem dX8_begins_26 : decode cX8_begins 26 = .ok (.putfield 209, 3) := dX8_begins_21_b.2.2.2.1
theorem dX8_begins_29 : decode cX8_begins 29 = .ok (.return_, 1) := dX8_begins_21_b.2.2.2.2
theorem dX8_personMark_0_b : (decode cX8_personMark 0 = .ok (.aload_n 0, 1)) ∧ (decode cX8_personMark 1 = .ok (.iload_n 1, 1)) ∧ (decode cX8_personMark 2 = .ok (.invokevirtual 206, 3)) ∧ (decode cX8_personMark 5 = .ok (.istore_n 2, 1)) ∧ (decode cX8_personMark 6 = .ok (.iload_n 2, 1)) ∧ (decode cX8_personMark 7 = .ok (.iconst 1, 1)) ∧ (decode cX8_personMark 8 = .ok (.if_icmp .eq 19, 3)) ∧ (decode cX8_personMark 11 = .ok (.aload_n 0, 1)) ∧ (decode cX8_personMark 12 = .ok (.iload_n 2, 1)) ∧ (decode cX8_personMark 13 = .ok (.iconst 2, 1)) ∧ (decode cX8_personMark 14 = .ok (.if_icmp .ne 8, 3)) ∧ (decode cX8_personMark 17 = .ok (.bipush 24, 2)) := by decide +kernel
theorem dX8_personMark_0 : decode cX8_personMark 0 = .ok (.aload_n 0, 1) := dX8_personMark_0_b.1
theorem dX8_personMark_1 : decode cX8_personMark 1 = .ok (.iload_n 1, 1) := dX8_personMark_0_b.2.1
theorem dX8_personMark_2 : decode cX8_personMark 2 = .ok (.invokevirtual 206, 3) := dX8_personMark_0_b.2.2.1
theorem dX8_personMark_5 : decode cX8_personMark 5 = .ok (.istore_n 2, 1) := dX8_personMark_0_b.2.2.2.1
theorem dX8_personMark_6 : decode cX8_personMark 6 = .ok (.iload_n 2, 1) := dX8_personMark_0_b.2.2.2.2.1
theorem dX8_personMark_7 : decode cX8_personMark 7 = .ok (.iconst 1, 1) := dX8_personMark_0_b.2.2.2.2.2.1
theorem dX8_personMark_8 : decode cX8_personMark 8 = .ok (.if_icmp .eq 19, 3) := dX8_personMark_0_b.2.2.2.2.2.2.1
theorem dX8_personMark_11 : decode cX8_personMark 11 = .ok (.aload_n 0, 1) := dX8_personMark_0_b.2.2.2.2.2.2.2.1
theorem dX8_personMark_12 : decode cX8_personMark 12 = .ok (.iload_n 2, 1) := dX8_personMark_0_b.2.2.2.2.2.2.2.2.1
theorem dX8_personMark_13 : decode cX8_personMark 13 = .ok (.iconst 2, 1) := dX8_personMark_0_b.2.2.2.2.2.2.2.2.2.1
theorem dX8_personMark_14 : decode cX8_personMark 14 = .ok (.if_icmp .ne 8, 3) := dX8_personMark_0_b.2.2.2.2.2.2.2.2.2.2.1
theorem dX8_personMark_17 : decode cX8_personMark 17 = .ok (.bipush 24, 2) := dX8_personMark_0_b.2.2.2.2.2.2.2.2.2.2.2
theorem dX8_personMark_19_b : (decode cX8_personMark 19 = .ok (.goto 5, 3)) ∧ (decode cX8_personMark 22 = .ok (.bipush 22, 2)) ∧ (decode cX8_personMark 24 = .ok (.invokevirtual 212, 3)) ∧ (decode cX8_personMark 27 = .ok (.aload_n 0, 1)) ∧ (decode cX8_personMark 28 = .ok (.bipush 21, 2)) ∧ (decode cX8_personMark 30 = .ok (.invokevirtual 212, 3)) ∧ (decode cX8_personMark 33 = .ok (.aload_n 0, 1)) ∧ (decode cX8_personMark 34 = .ok (.bipush 20, 2)) ∧ (decode cX8_personMark 36 = .ok (.invokevirtual 212, 3)) ∧ (decode cX8_personMark 39 = .ok (.iload_n 1, 1)) ∧ (decode cX8_personMark 40 = .ok (.aload_n 0, 1)) ∧ (decode cX8_personMark 41 = .ok (.getfield 25, 3)) := by decide +kernel
theorem dX8_personMark_19 : decode cX8_personMark 19 = .ok (.goto 5, 3) := dX8_personMark_19_b.1
theorem dX8_personMark_22 : decode cX8_personMark 22 = .ok (.bipush 22, 2) := dX8_personMark_19_b.2.1
theorem dX8_personMark_24 : decode cX8_personMark 24 = .ok (.invokevirtual 212, 3) := dX8_personMark_19_b.2.2.1
theorem dX8_personMark_27 : decode cX8_personMark 27 = .ok (.aload_n 0, 1) := dX8_personMark_19_b.2.2.2.1
theorem dX8_personMark_28 : decode cX8_personMark 28 = .ok (.bipush 21, 2) := dX8_personMark_19_b.2.2.2.2.1
theorem dX8_personMark_30 : decode cX8_personMark 30 = .ok (.invokevirtual 212, 3) := dX8_personMark_19_b.2.2.2.2.2.1
theorem dX8_personMark_33 : decode cX8_personMark 33 = .ok (.aload_n 0, 1) := dX8_personMark_19_b.2.2.2.2.2.2.1
theorem dX8_personMark_34 : decode cX8_personMark 34 = .ok (.bipush 20, 2) := dX8_personMark_19_b.2.2.2.2.2.2.2.1
theorem dX8_personMark_36 : decode cX8_personMark 36 = .ok (.invokevirtual 212, 3) := dX8_personMark_19_b.2.2.2.2.2.2.2.2.1
theorem dX8_personMark_39 : decode cX8_personMark 39 = .ok (.iload_n 1, 1) := dX8_personMark_19_b.2.2.2.2.2.2.2.2.2.1
theorem dX8_personMark_40 : decode cX8_personMark 40 = .ok (.aload_n 0, 1) := dX8_personMark_19_b.2.2.2.2.2.2.2.2.2.2.1
theorem dX8_personMark_41 : decode cX8_personMark 41 = .ok (.getfield 25, 3) := dX8_personMark_19_b.2.2.2.2.2.2.2.2.2.2.2
theorem dX8_personMark_44_b : (decode cX8_personMark 44 = .ok (.bipush 6, 2)) ∧ (decode cX8_personMark 46 = .ok (.bipush 7, 2)) ∧ (decode cX8_personMark 48 = .ok (.iload_n 1, 1)) ∧ (decode cX8_personMark 49 = .ok (.imul, 1)) ∧ (decode cX8_personMark 50 = .ok (.iadd, 1)) ∧ (decode cX8_personMark 51 = .ok (.bipush 6, 2)) ∧ (decode cX8_personMark 53 = .ok (.iadd, 1)) ∧ (decode cX8_personMark 54 = .ok (.iaload, 1)) ∧ (decode cX8_personMark 55 = .ok (.iadd, 1)) ∧ (decode cX8_personMark 56 = .ok (.istore_n 3, 1)) ∧ (decode cX8_personMark 57 = .ok (.iload_n 2, 1)) ∧ (decode cX8_personMark 58 = .ok (.iconst 2, 1)) := by decide +kernel
theorem dX8_personMark_44 : decode cX8_personMark 44 = .ok (.bipush 6, 2) := dX8_personMark_44_b.1
theorem dX8_personMark_46 : decode cX8_personMark 46 = .ok (.bipush 7, 2) := dX8_personMark_44_b.2.1
theorem dX8_personMark_48 : decode cX8_personMark 48 = .ok (.iload_n 1, 1) := dX8_personMark_44_b.2.2.1
theorem dX8_personMark_49 : decode cX8_personMark 49 = .ok (.imul, 1) := dX8_personMark_44_b.2.2.2.1
theorem dX8_personMark_50 : decode cX8_personMark 50 = .ok (.iadd, 1) := dX8_personMark_44_b.2.2.2.2.1
theorem dX8_personMark_51 : decode cX8_personMark 51 = .ok (.bipush 6, 2) := dX8_personMark_44_b.2.2.2.2.2.1
theorem dX8_personMark_53 : decode cX8_personMark 53 = .ok (.iadd, 1) := dX8_personMark_44_b.2.2.2.2.2.2.1
theorem dX8_personMark_54 : decode cX8_personMark 54 = .ok (.iaload, 1) := dX8_personMark_44_b.2.2.2.2.2.2.2.1
theorem dX8_personMark_55 : decode cX8_personMark 55 = .ok (.iadd, 1) := dX8_personMark_44_b.2.2.2.2.2.2.2.2.1
theorem dX8_personMark_56 : decode cX8_personMark 56 = .ok (.istore_n 3, 1) := dX8_personMark_44_b.2.2.2.2.2.2.2.2.2.1
theorem dX8_personMark_57 : decode cX8_personMark 57 = .ok (.iload_n 2, 1) := dX8_personMark_44_b.2.2.2.2.2.2.2.2.2.2.1
theorem dX8_personMark_58 : decode cX8_personMark 58 = .ok (.iconst 2, 1) := dX8_personMark_44_b.2.2.2.2.2.2.2.2.2.2.2
theorem dX8_personMark_59_b : (decode cX8_personMark 59 = .ok (.if_icmp .ne 9, 3)) ∧ (decode cX8_personMark 62 = .ok (.iconst 2, 1)) ∧ (decode cX8_personMark 63 = .ok (.iload_n 3, 1)) ∧ (decode cX8_personMark 64 = .ok (.imul, 1)) ∧ (decode cX8_personMark 65 = .ok (.goto 17, 3)) ∧ (decode cX8_personMark 68 = .ok (.iload_n 2, 1)) ∧ (decode cX8_personMark 69 = .ok (.iconst 3, 1)) ∧ (decode cX8_personMark 70 = .ok (.if_icmp .ne 11, 3)) ∧ (decode cX8_personMark 73 = .ok (.iload_n 3, 1)) ∧ (decode cX8_personMark 74 = .ok (.sipush 1000, 3)) ∧ (decode cX8_personMark 77 = .ok (.isub, 1)) ∧ (decode cX8_personMark 78 = .ok (.goto 4, 3)) := by decide +kernel
theorem dX8_personMark_59 : decode cX8_personMark 59 = .ok (.if_icmp .ne 9, 3) := dX8_personMark_59_b.1
theorem dX8_personMark_62 : decode cX8_personMark 62 = .ok (.iconst 2, 1) := dX8_personMark_59_b.2.1
theorem dX8_personMark_63 : decode cX8_personMark 63 = .ok (.iload_n 3, 1) := dX8_personMark_59_b.2.2.1
theorem dX8_personMark_64 : decode cX8_personMark 64 = .ok (.imul, 1) := dX8_personMark_59_b.2.2.2.1
theorem dX8_personMark_65 : decode cX8_personMark 65 = .ok (.goto 17, 3) := dX8_personMark_59_b.2.2.2.2.1
theorem dX8_personMark_68 : decode cX8_personMark 68 = .ok (.iload_n 2, 1) := dX8_personMark_59_b.2.2.2.2.2.1
theorem dX8_personMark_69 : decode cX8_personMark 69 = .ok (.iconst 3, 1) := dX8_personMark_59_b.2.2.2.2.2.2.1
theorem dX8_personMark_70 : decode cX8_personMark 70 = .ok (.if_icmp .ne 11, 3) := dX8_personMark_59_b.2.2.2.2.2.2.2.1
theorem dX8_personMark_73 : decode cX8_personMark 73 = .ok (.iload_n 3, 1) := dX8_personMark_59_b.2.2.2.2.2.2.2.2.1
theorem dX8_personMark_74 : decode cX8_personMark 74 = .ok (.sipush 1000, 3) := dX8_personMark_59_b.2.2.2.2.2.2.2.2.2.1
theorem dX8_personMark_77 : decode cX8_personMark 77 = .ok (.isub, 1) := dX8_personMark_59_b.2.2.2.2.2.2.2.2.2.2.1
theorem dX8_personMark_78 : decode cX8_personMark 78 = .ok (.goto 4, 3) := dX8_personMark_59_b.2.2.2.2.2.2.2.2.2.2.2
theorem dX8_personMark_81_b : (decode cX8_personMark 81 = .ok (.iload_n 3, 1)) ∧ (decode cX8_personMark 82 = .ok (.ireturn, 1)) := by decide +kernel
theorem dX8_personMark_81 : decode cX8_personMark 81 = .ok (.iload_n 3, 1) := dX8_personMark_81_b.1
theorem dX8_personMark_82 : decode cX8_personMark 82 = .ok (.ireturn, 1) := dX8_personMark_81_b.2
theorem dX8_catSize_0_b : (decode cX8_catSize 0 = .ok (.aload_n 0, 1)) ∧ (decode cX8_catSize 1 = .ok (.iload_n 1, 1)) ∧ (decode cX8_catSize 2 = .ok (.invokevirtual 206, 3)) ∧ (decode cX8_catSize 5 = .ok (.iconst 5, 1)) ∧ (decode cX8_catSize 6 = .ok (.if_icmp .ne 7, 3)) ∧ (decode cX8_catSize 9 = .ok (.iconst 1, 1)) ∧ (decode cX8_catSize 10 = .ok (.goto 4, 3)) ∧ (decode cX8_catSize 13 = .ok (.iconst 0, 1)) ∧ (decode cX8_catSize 14 = .ok (.istore_n 2, 1)) ∧ (decode cX8_catSize 15 = .ok (.iload_n 2, 1)) ∧ (decode cX8_catSize 16 = .ok (.ifCond .eq 9, 3)) ∧ (decode cX8_catSize 19 = .ok (.aload_n 0, 1)) := by decide +kernel
theorem dX8_catSize_0 : decode cX8_catSize 0 = .ok (.aload_n 0, 1) := dX8_catSize_0_b.1
theorem dX8_catSize_1 : decode cX8_catSize 1 = .ok (.iload_n 1, 1) := dX8_catSize_0_b.2.1
theorem dX8_catSize_2 : decode cX8_catSize 2 = .ok (.invokevirtual 206, 3) := dX8_catSize_0_b.2.2.1
theorem dX8_catSize_5 : decode cX8_catSize 5 = .ok (.iconst 5, 1) := dX8_catSize_0_b.2.2.2.1
theorem dX8_catSize_6 : decode cX8_catSize 6 = .ok (.if_icmp .ne 7, 3) := dX8_catSize_0_b.2.2.2.2.1
theorem dX8_catSize_9 : decode cX8_catSize 9 = .ok (.iconst 1, 1) := dX8_catSize_0_b.2.2.2.2.2.1
theorem dX8_catSize_10 : decode cX8_catSize 10 = .ok (.goto 4, 3) := dX8_catSize_0_b.2.2.2.2.2.2.1
theorem dX8_catSize_13 : decode cX8_catSize 13 = .ok (.iconst 0, 1) := dX8_catSize_0_b.2.2.2.2.2.2.2.1
theorem dX8_catSize_14 : decode cX8_catSize 14 = .ok (.istore_n 2, 1) := dX8_catSize_0_b.2.2.2.2.2.2.2.2.1
theorem dX8_catSize_15 : decode cX8_catSize 15 = .ok (.iload_n 2, 1) := dX8_catSize_0_b.2.2.2.2.2.2.2.2.2.1
theorem dX8_catSize_16 : decode cX8_catSize 16 = .ok (.ifCond .eq 9, 3) := dX8_catSize_0_b.2.2.2.2.2.2.2.2.2.2.1
theorem dX8_catSize_19 : decode cX8_catSize 19 = .ok (.aload_n 0, 1) := dX8_catSize_0_b.2.2.2.2.2.2.2.2.2.2.2
theorem dX8_catSize_20_b : (decode cX8_catSize 20 = .ok (.bipush 14, 2)) ∧ (decode cX8_catSize 22 = .ok (.invokevirtual 212, 3)) ∧ (decode cX8_catSize 25 = .ok (.aload_n 0, 1)) ∧ (decode cX8_catSize 26 = .ok (.bipush 13, 2)) ∧ (decode cX8_catSize 28 = .ok (.invokevirtual 212, 3)) ∧ (decode cX8_catSize 31 = .ok (.aload_n 0, 1)) ∧ (decode cX8_catSize 32 = .ok (.bipush 10, 2)) ∧ (decode cX8_catSize 34 = .ok (.invokevirtual 212, 3)) ∧ (decode cX8_catSize 37 = .ok (.aload_n 0, 1)) ∧ (decode cX8_catSize 38 = .ok (.getfield 25, 3)) ∧ (decode cX8_catSize 41 = .ok (.bipush 6, 2)) ∧ (decode cX8_catSize 43 = .ok (.bipush 7, 2)) := by decide +kernel
theorem dX8_catSize_20 : decode cX8_catSize 20 = .ok (.bipush 14, 2) := dX8_catSize_20_b.1
theorem dX8_catSize_22 : decode cX8_catSize 22 = .ok (.invokevirtual 212, 3) := dX8_catSize_20_b.2.1
theorem dX8_catSize_25 : decode cX8_catSize 25 = .ok (.aload_n 0, 1) := dX8_catSize_20_b.2.2.1
theorem dX8_catSize_26 : decode cX8_catSize 26 = .ok (.bipush 13, 2) := dX8_catSize_20_b.2.2.2.1
theorem dX8_catSize_28 : decode cX8_catSize 28 = .ok (.invokevirtual 212, 3) := dX8_catSize_20_b.2.2.2.2.1
theorem dX8_catSize_31 : decode cX8_catSize 31 = .ok (.aload_n 0, 1) := dX8_catSize_20_b.2.2.2.2.2.1
theorem dX8_catSize_32 : decode cX8_catSize 32 = .ok (.bipush 10, 2) := dX8_catSize_20_b.2.2.2.2.2.2.1
theorem dX8_catSize_34 : decode cX8_catSize 34 = .ok (.invokevirtual 212, 3) := dX8_catSize_20_b.2.2.2.2.2.2.2.1
theorem dX8_catSize_37 : decode cX8_catSize 37 = .ok (.aload_n 0, 1) := dX8_catSize_20_b.2.2.2.2.2.2.2.2.1
theorem dX8_catSize_38 : decode cX8_catSize 38 = .ok (.getfield 25, 3) := dX8_catSize_20_b.2.2.2.2.2.2.2.2.2.1
theorem dX8_catSize_41 : decode cX8_catSize 41 = .ok (.bipush 6, 2) := dX8_catSize_20_b.2.2.2.2.2.2.2.2.2.2.1
theorem dX8_catSize_43 : decode cX8_catSize 43 = .ok (.bipush 7, 2) := dX8_catSize_20_b.2.2.2.2.2.2.2.2.2.2.2
theorem dX8_catSize_45_b : (decode cX8_catSize 45 = .ok (.iload_n 1, 1)) ∧ (decode cX8_catSize 46 = .ok (.imul, 1)) ∧ (decode cX8_catSize 47 = .ok (.iadd, 1)) ∧ (decode cX8_catSize 48 = .ok (.iconst 1, 1)) ∧ (decode cX8_catSize 49 = .ok (.iadd, 1)) ∧ (decode cX8_catSize 50 = .ok (.iaload, 1)) ∧ (decode cX8_catSize 51 = .ok (.bipush 100, 2)) ∧ (decode cX8_catSize 53 = .ok (.isub, 1)) ∧ (decode cX8_catSize 54 = .ok (.istore_n 3, 1)) ∧ (decode cX8_catSize 55 = .ok (.iload_n 2, 1)) ∧ (decode cX8_catSize 56 = .ok (.ifCond .eq 9, 3)) ∧ (decode cX8_catSize 59 = .ok (.iconst 2, 1)) := by decide +kernel
theorem dX8_catSize_45 : decode cX8_catSize 45 = .ok (.iload_n 1, 1) := dX8_catSize_45_b.1
theorem dX8_catSize_46 : decode cX8_catSize 46 = .ok (.imul, 1) := dX8_catSize_45_b.2.1
theorem dX8_catSize_47 : decode cX8_catSize 47 = .ok (.iadd, 1) := dX8_catSize_45_b.2.2.1
theorem dX8_catSize_48 : decode cX8_catSize 48 = .ok (.iconst 1, 1) := dX8_catSize_45_b.2.2.2.1
theorem dX8_catSize_49 : decode cX8_catSize 49 = .ok (.iadd, 1) := dX8_catSize_45_b.2.2.2.2.1
theorem dX8_catSize_50 : decode cX8_catSize 50 = .ok (.iaload, 1) := dX8_catSize_45_b.2.2.2.2.2.1
theorem dX8_catSize_51 : decode cX8_catSize 51 = .ok (.bipush 100, 2) := dX8_catSize_45_b.2.2.2.2.2.2.1
theorem dX8_catSize_53 : decode cX8_catSize 53 = .ok (.isub, 1) := dX8_catSize_45_b.2.2.2.2.2.2.2.1
theorem dX8_catSize_54 : decode cX8_catSize 54 = .ok (.istore_n 3, 1) := dX8_catSize_45_b.2.2.2.2.2.2.2.2.1
theorem dX8_catSize_55 : decode cX8_catSize 55 = .ok (.iload_n 2, 1) := dX8_catSize_45_b.2.2.2.2.2.2.2.2.2.1
theorem dX8_catSize_56 : decode cX8_catSize 56 = .ok (.ifCond .eq 9, 3) := dX8_catSize_45_b.2.2.2.2.2.2.2.2.2.2.1
theorem dX8_catSize_59 : decode cX8_catSize 59 = .ok (.iconst 2, 1) := dX8_catSize_45_b.2.2.2.2.2.2.2.2.2.2.2
theorem dX8_catSize_60_b : (decode cX8_catSize 60 = .ok (.iload_n 3, 1)) ∧ (decode cX8_catSize 61 = .ok (.imul, 1)) ∧ (decode cX8_catSize 62 = .ok (.goto 4, 3)) ∧ (decode cX8_catSize 65 = .ok (.iload_n 3, 1)) ∧ (decode cX8_catSize 66 = .ok (.ireturn, 1)) := by decide +kernel
theorem dX8_catSize_60 : decode cX8_catSize 60 = .ok (.iload_n 3, 1) := dX8_catSize_60_b.1
theorem dX8_catSize_61 : decode cX8_catSize 61 = .ok (.imul, 1) := dX8_catSize_60_b.2.1
theorem dX8_catSize_62 : decode cX8_catSize 62 = .ok (.goto 4, 3) := dX8_catSize_60_b.2.2.1
theorem dX8_catSize_65 : decode cX8_catSize 65 = .ok (.iload_n 3, 1) := dX8_catSize_60_b.2.2.2.1
theorem dX8_catSize_66 : decode cX8_catSize 66 = .ok (.ireturn, 1) := dX8_catSize_60_b.2.2.2.2
theorem dX8_personSize_0_b : (decode cX8_personSize 0 = .ok (.aload_n 0, 1)) ∧ (decode cX8_personSize 1 = .ok (.iload_n 1, 1)) ∧ (decode cX8_personSize 2 = .ok (.invokevirtual 206, 3)) ∧ (decode cX8_personSize 5 = .ok (.iconst 2, 1)) ∧ (decode cX8_personSize 6 = .ok (.if_icmp .ne 7, 3)) ∧ (decode cX8_personSize 9 = .ok (.iconst 1, 1)) ∧ (decode cX8_personSize 10 = .ok (.goto 4, 3)) ∧ (decode cX8_personSize 13 = .ok (.iconst 0, 1)) ∧ (decode cX8_personSize 14 = .ok (.istore_n 2, 1)) ∧ (decode cX8_personSize 15 = .ok (.iload_n 2, 1)) ∧ (decode cX8_personSize 16 = .ok (.ifCond .eq 9, 3)) ∧ (decode cX8_personSize 19 = .ok (.aload_n 0, 1)) := by decide +kernel
theorem dX8_personSize_0 : decode cX8_personSize 0 = .ok (.aload_n 0, 1) := dX8_personSize_0_b.1
theorem dX8_personSize_1 : decode cX8_personSize 1 = .ok (.iload_n 1, 1) := dX8_personSize_0_b.2.1
theorem dX8_personSize_2 : decode cX8_personSize 2 = .ok (.invokevirtual 206, 3) := dX8_personSize_0_b.2.2.1
theorem dX8_personSize_5 : decode cX8_personSize 5 = .ok (.iconst 2, 1) := dX8_personSize_0_b.2.2.2.1
theorem dX8_personSize_6 : decode cX8_personSize 6 = .ok (.if_icmp .ne 7, 3) := dX8_personSize_0_b.2.2.2.2.1
theorem dX8_personSize_9 : decode cX8_personSize 9 = .ok (.iconst 1, 1) := dX8_personSize_0_b.2.2.2.2.2.1
theorem dX8_personSize_10 : decode cX8_personSize 10 = .ok (.goto 4, 3) := dX8_personSize_0_b.2.2.2.2.2.2.1
theorem dX8_personSize_13 : decode cX8_personSize 13 = .ok (.iconst 0, 1) := dX8_personSize_0_b.2.2.2.2.2.2.2.1
theorem dX8_personSize_14 : decode cX8_personSize 14 = .ok (.istore_n 2, 1) := dX8_personSize_0_b.2.2.2.2.2.2.2.2.1
theorem dX8_personSize_15 : decode cX8_personSize 15 = .ok (.iload_n 2, 1) := dX8_personSize_0_b.2.2.2.2.2.2.2.2.2.1
theorem dX8_personSize_16 : decode cX8_personSize 16 = .ok (.ifCond .eq 9, 3) := dX8_personSize_0_b.2.2.2.2.2.2.2.2.2.2.1
theorem dX8_personSize_19 : decode cX8_personSize 19 = .ok (.aload_n 0, 1) := dX8_personSize_0_b.2.2.2.2.2.2.2.2.2.2.2
theorem dX8_personSize_20_b : (decode cX8_personSize 20 = .ok (.bipush 12, 2)) ∧ (decode cX8_personSize 22 = .ok (.invokevirtual 212, 3)) ∧ (decode cX8_personSize 25 = .ok (.aload_n 0, 1)) ∧ (decode cX8_personSize 26 = .ok (.bipush 11, 2)) ∧ (decode cX8_personSize 28 = .ok (.invokevirtual 212, 3)) ∧ (decode cX8_personSize 31 = .ok (.aload_n 0, 1)) ∧ (decode cX8_personSize 32 = .ok (.bipush 10, 2)) ∧ (decode cX8_personSize 34 = .ok (.invokevirtual 212, 3)) ∧ (decode cX8_personSize 37 = .ok (.aload_n 0, 1)) ∧ (decode cX8_personSize 38 = .ok (.getfield 25, 3)) ∧ (decode cX8_personSize 41 = .ok (.bipush 6, 2)) ∧ (decode cX8_personSize 43 = .ok (.bipush 7, 2)) := by decide +kernel
theorem dX8_personSize_20 : decode cX8_personSize 20 = .ok (.bipush 12, 2) := dX8_personSize_20_b.1
theorem dX8_personSize_22 : decode cX8_personSize 22 = .ok (.invokevirtual 212, 3) := dX8_personSize_20_b.2.1
theorem dX8_personSize_25 : decode cX8_personSize 25 = .ok (.aload_n 0, 1) := dX8_personSize_20_b.2.2.1
theorem dX8_personSize_26 : decode cX8_personSize 26 = .ok (.bipush 11, 2) := dX8_personSize_20_b.2.2.2.1
theorem dX8_personSize_28 : decode cX8_personSize 28 = .ok (.invokevirtual 212, 3) := dX8_personSize_20_b.2.2.2.2.1
theorem dX8_personSize_31 : decode cX8_personSize 31 = .ok (.aload_n 0, 1) := dX8_personSize_20_b.2.2.2.2.2.1
theorem dX8_personSize_32 : decode cX8_personSize 32 = .ok (.bipush 10, 2) := dX8_personSize_20_b.2.2.2.2.2.2.1
theorem dX8_personSize_34 : decode cX8_personSize 34 = .ok (.invokevirtual 212, 3) := dX8_personSize_20_b.2.2.2.2.2.2.2.1
theorem dX8_personSize_37 : decode cX8_personSize 37 = .ok (.aload_n 0, 1) := dX8_personSize_20_b.2.2.2.2.2.2.2.2.1
theorem dX8_personSize_38 : decode cX8_personSize 38 = .ok (.getfield 25, 3) := dX8_personSize_20_b.2.2.2.2.2.2.2.2.2.1
theorem dX8_personSize_41 : decode cX8_personSize 41 = .ok (.bipush 6, 2) := dX8_personSize_20_b.2.2.2.2.2.2.2.2.2.2.1
theorem dX8_personSize_43 : decode cX8_personSize 43 = .ok (.bipush 7, 2) := dX8_personSize_20_b.2.2.2.2.2.2.2.2.2.2.2
theorem dX8_personSize_45_b : (decode cX8_personSize 45 = .ok (.iload_n 1, 1)) ∧ (decode cX8_personSize 46 = .ok (.imul, 1)) ∧ (decode cX8_personSize 47 = .ok (.iadd, 1)) ∧ (decode cX8_personSize 48 = .ok (.iconst 1, 1)) ∧ (decode cX8_personSize 49 = .ok (.iadd, 1)) ∧ (decode cX8_personSize 50 = .ok (.iaload, 1)) ∧ (decode cX8_personSize 51 = .ok (.aload_n 0, 1)) ∧ (decode cX8_personSize 52 = .ok (.iload_n 1, 1)) ∧ (decode cX8_personSize 53 = .ok (.invokevirtual 216, 3)) ∧ (decode cX8_personSize 56 = .ok (.iadd, 1)) ∧ (decode cX8_personSize 57 = .ok (.istore_n 3, 1)) ∧ (decode cX8_personSize 58 = .ok (.iload_n 2, 1)) := by decide +kernel
theorem dX8_personSize_45 : decode cX8_personSize 45 = .ok (.iload_n 1, 1) := dX8_personSize_45_b.1
theorem dX8_personSize_46 : decode cX8_personSize 46 = .ok (.imul, 1) := dX8_personSize_45_b.2.1
theorem dX8_personSize_47 : decode cX8_personSize 47 = .ok (.iadd, 1) := dX8_personSize_45_b.2.2.1
theorem dX8_personSize_48 : decode cX8_personSize 48 = .ok (.iconst 1, 1) := dX8_personSize_45_b.2.2.2.1
theorem dX8_personSize_49 : decode cX8_personSize 49 = .ok (.iadd, 1) := dX8_personSize_45_b.2.2.2.2.1
theorem dX8_personSize_50 : decode cX8_personSize 50 = .ok (.iaload, 1) := dX8_personSize_45_b.2.2.2.2.2.1
theorem dX8_personSize_51 : decode cX8_personSize 51 = .ok (.aload_n 0, 1) := dX8_personSize_45_b.2.2.2.2.2.2.1
theorem dX8_personSize_52 : decode cX8_personSize 52 = .ok (.iload_n 1, 1) := dX8_personSize_45_b.2.2.2.2.2.2.2.1
theorem dX8_personSize_53 : decode cX8_personSize 53 = .ok (.invokevirtual 216, 3) := dX8_personSize_45_b.2.2.2.2.2.2.2.2.1
theorem dX8_personSize_56 : decode cX8_personSize 56 = .ok (.iadd, 1) := dX8_personSize_45_b.2.2.2.2.2.2.2.2.2.1
theorem dX8_personSize_57 : decode cX8_personSize 57 = .ok (.istore_n 3, 1) := dX8_personSize_45_b.2.2.2.2.2.2.2.2.2.2.1
theorem dX8_personSize_58 : decode cX8_personSize 58 = .ok (.iload_n 2, 1) := dX8_personSize_45_b.2.2.2.2.2.2.2.2.2.2.2
theorem dX8_personSize_59_b : (decode cX8_personSize 59 = .ok (.ifCond .eq 8, 3)) ∧ (decode cX8_personSize 62 = .ok (.iload_n 3, 1)) ∧ (decode cX8_personSize 63 = .ok (.ineg, 1)) ∧ (decode cX8_personSize 64 = .ok (.goto 4, 3)) ∧ (decode cX8_personSize 67 = .ok (.iload_n 3, 1)) ∧ (decode cX8_personSize 68 = .ok (.ireturn, 1)) := by decide +kernel
theorem dX8_personSize_59 : decode cX8_personSize 59 = .ok (.ifCond .eq 8, 3) := dX8_personSize_59_b.1
theorem dX8_personSize_62 : decode cX8_personSize 62 = .ok (.iload_n 3, 1) := dX8_personSize_59_b.2.1
theorem dX8_personSize_63 : decode cX8_personSize 63 = .ok (.ineg, 1) := dX8_personSize_59_b.2.2.1
theorem dX8_personSize_64 : decode cX8_personSize 64 = .ok (.goto 4, 3) := dX8_personSize_59_b.2.2.2.1
theorem dX8_personSize_67 : decode cX8_personSize 67 = .ok (.iload_n 3, 1) := dX8_personSize_59_b.2.2.2.2.1
theorem dX8_personSize_68 : decode cX8_personSize 68 = .ok (.ireturn, 1) := dX8_personSize_59_b.2.2.2.2.2
theorem dX8_catMark_0_b : (decode cX8_catMark 0 = .ok (.aload_n 0, 1)) ∧ (decode cX8_catMark 1 = .ok (.bipush 23, 2)) ∧ (decode cX8_catMark 3 = .ok (.invokevirtual 212, 3)) ∧ (decode cX8_catMark 6 = .ok (.aload_n 0, 1)) ∧ (decode cX8_catMark 7 = .ok (.bipush 20, 2)) ∧ (decode cX8_catMark 9 = .ok (.invokevirtual 212, 3)) ∧ (decode cX8_catMark 12 = .ok (.iload_n 1, 1)) ∧ (decode cX8_catMark 13 = .ok (.aload_n 0, 1)) ∧ (decode cX8_catMark 14 = .ok (.iload_n 1, 1)) ∧ (decode cX8_catMark 15 = .ok (.invokevirtual 219, 3)) ∧ (decode cX8_catMark 18 = .ok (.isub, 1)) ∧ (decode cX8_catMark 19 = .ok (.ireturn, 1)) := by decide +kernel
theorem dX8_catMark_0 : decode cX8_catMark 0 = .ok (.aload_n 0, 1) := dX8_catMark_0_b.1
theorem dX8_catMark_1 : decode cX8_catMark 1 = .ok (.bipush 23, 2) := dX8_catMark_0_b.2.1
theorem dX8_catMark_3 : decode cX8_catMark 3 = .ok (.invokevirtual 212, 3) := dX8_catMark_0_b.2.2.1
theorem dX8_catMark_6 : decode cX8_catMark 6 = .ok (.aload_n 0, 1) := dX8_catMark_0_b.2.2.2.1
theorem dX8_catMark_7 : decode cX8_catMark 7 = .ok (.bipush 20, 2) := dX8_catMark_0_b.2.2.2.2.1
theorem dX8_catMark_9 : decode cX8_catMark 9 = .ok (.invokevirtual 212, 3) := dX8_catMark_0_b.2.2.2.2.2.1
theorem dX8_catMark_12 : decode cX8_catMark 12 = .ok (.iload_n 1, 1) := dX8_catMark_0_b.2.2.2.2.2.2.1
theorem dX8_catMark_13 : decode cX8_catMark 13 = .ok (.aload_n 0, 1) := dX8_catMark_0_b.2.2.2.2.2.2.2.1
theorem dX8_catMark_14 : decode cX8_catMark 14 = .ok (.iload_n 1, 1) := dX8_catMark_0_b.2.2.2.2.2.2.2.2.1
theorem dX8_catMark_15 : decode cX8_catMark 15 = .ok (.invokevirtual 219, 3) := dX8_catMark_0_b.2.2.2.2.2.2.2.2.2.1
theorem dX8_catMark_18 : decode cX8_catMark 18 = .ok (.isub, 1) := dX8_catMark_0_b.2.2.2.2.2.2.2.2.2.2.1
theorem dX8_catMark_19 : decode cX8_catMark 19 = .ok (.ireturn, 1) := dX8_catMark_0_b.2.2.2.2.2.2.2.2.2.2.2
theorem dX8_ask_0_b : (decode cX8_ask 0 = .ok (.aload_n 0, 1)) ∧ (decode cX8_ask 1 = .ok (.iload_n 1, 1)) ∧ (decode cX8_ask 2 = .ok (.invokevirtual 178, 3)) ∧ (decode cX8_ask 5 = .ok (.ifCond .eq 12, 3)) ∧ (decode cX8_ask 8 = .ok (.iload_n 2, 1)) ∧ (decode cX8_ask 9 = .ok (.iconst 0, 1)) ∧ (decode cX8_ask 10 = .ok (.iconst 1, 1)) ∧ (decode cX8_ask 11 = .ok (.invokestatic 56, 3)) ∧ (decode cX8_ask 14 = .ok (.ifCond .ne 6, 3)) ∧ (decode cX8_ask 17 = .ok (.ldc 64, 2)) ∧ (decode cX8_ask 19 = .ok (.ireturn, 1)) ∧ (decode cX8_ask 20 = .ok (.aload_n 0, 1)) := by decide +kernel
theorem dX8_ask_0 : decode cX8_ask 0 = .ok (.aload_n 0, 1) := dX8_ask_0_b.1
theorem dX8_ask_1 : decode cX8_ask 1 = .ok (.iload_n 1, 1) := dX8_ask_0_b.2.1
theorem dX8_ask_2 : decode cX8_ask 2 = .ok (.invokevirtual 178, 3) := dX8_ask_0_b.2.2.1
theorem dX8_ask_5 : decode cX8_ask 5 = .ok (.ifCond .eq 12, 3) := dX8_ask_0_b.2.2.2.1
theorem dX8_ask_8 : decode cX8_ask 8 = .ok (.iload_n 2, 1) := dX8_ask_0_b.2.2.2.2.1
theorem dX8_ask_9 : decode cX8_ask 9 = .ok (.iconst 0, 1) := dX8_ask_0_b.2.2.2.2.2.1
theorem dX8_ask_10 : decode cX8_ask 10 = .ok (.iconst 1, 1) := dX8_ask_0_b.2.2.2.2.2.2.1
theorem dX8_ask_11 : decode cX8_ask 11 = .ok (.invokestatic 56, 3) := dX8_ask_0_b.2.2.2.2.2.2.2.1
theorem dX8_ask_14 : decode cX8_ask 14 = .ok (.ifCond .ne 6, 3) := dX8_ask_0_b.2.2.2.2.2.2.2.2.1
theorem dX8_ask_17 : decode cX8_ask 17 = .ok (.ldc 64, 2) := dX8_ask_0_b.2.2.2.2.2.2.2.2.2.1
theorem dX8_ask_19 : decode cX8_ask 19 = .ok (.ireturn, 1) := dX8_ask_0_b.2.2.2.2.2.2.2.2.2.2.1
theorem dX8_ask_20 : decode cX8_ask 20 = .ok (.aload_n 0, 1) := dX8_ask_0_b.2.2.2.2.2.2.2.2.2.2.2
theorem dX8_ask_21_b : (decode cX8_ask 21 = .ok (.iconst 0, 1)) ∧ (decode cX8_ask 22 = .ok (.putfield 209, 3)) ∧ (decode cX8_ask 25 = .ok (.aload_n 0, 1)) ∧ (decode cX8_ask 26 = .ok (.iload_n 1, 1)) ∧ (decode cX8_ask 27 = .ok (.invokevirtual 206, 3)) ∧ (decode cX8_ask 30 = .ok (.iconst 4, 1)) ∧ (decode cX8_ask 31 = .ok (.if_icmp .lt 7, 3)) ∧ (decode cX8_ask 34 = .ok (.iconst 1, 1)) ∧ (decode cX8_ask 35 = .ok (.goto 4, 3)) ∧ (decode cX8_ask 38 = .ok (.iconst 0, 1)) ∧ (decode cX8_ask 39 = .ok (.istore_n 3, 1)) ∧ (decode cX8_ask 40 = .ok (.iload_n 2, 1)) := by decide +kernel
theorem dX8_ask_21 : decode cX8_ask 21 = .ok (.iconst 0, 1) := dX8_ask_21_b.1
theorem dX8_ask_22 : decode cX8_ask 22 = .ok (.putfield 209, 3) := dX8_ask_21_b.2.1
theorem dX8_ask_25 : decode cX8_ask 25 = .ok (.aload_n 0, 1) := dX8_ask_21_b.2.2.1
theorem dX8_ask_26 : decode cX8_ask 26 = .ok (.iload_n 1, 1) := dX8_ask_21_b.2.2.2.1
theorem dX8_ask_27 : decode cX8_ask 27 = .ok (.invokevirtual 206, 3) := dX8_ask_21_b.2.2.2.2.1
theorem dX8_ask_30 : decode cX8_ask 30 = .ok (.iconst 4, 1) := dX8_ask_21_b.2.2.2.2.2.1
theorem dX8_ask_31 : decode cX8_ask 31 = .ok (.if_icmp .lt 7, 3) := dX8_ask_21_b.2.2.2.2.2.2.1
theorem dX8_ask_34 : decode cX8_ask 34 = .ok (.iconst 1, 1) := dX8_ask_21_b.2.2.2.2.2.2.2.1
theorem dX8_ask_35 : decode cX8_ask 35 = .ok (.goto 4, 3) := dX8_ask_21_b.2.2.2.2.2.2.2.2.1
theorem dX8_ask_38 : decode cX8_ask 38 = .ok (.iconst 0, 1) := dX8_ask_21_b.2.2.2.2.2.2.2.2.2.1
theorem dX8_ask_39 : decode cX8_ask 39 = .ok (.istore_n 3, 1) := dX8_ask_21_b.2.2.2.2.2.2.2.2.2.2.1
theorem dX8_ask_40 : decode cX8_ask 40 = .ok (.iload_n 2, 1) := dX8_ask_21_b.2.2.2.2.2.2.2.2.2.2.2
theorem dX8_ask_41_b : (decode cX8_ask 41 = .ok (.ifCond .ne 21, 3)) ∧ (decode cX8_ask 44 = .ok (.iload_n 3, 1)) ∧ (decode cX8_ask 45 = .ok (.ifCond .eq 11, 3)) ∧ (decode cX8_ask 48 = .ok (.aload_n 0, 1)) ∧ (decode cX8_ask 49 = .ok (.iload_n 1, 1)) ∧ (decode cX8_ask 50 = .ok (.invokevirtual 219, 3)) ∧ (decode cX8_ask 53 = .ok (.goto 8, 3)) ∧ (decode cX8_ask 56 = .ok (.aload_n 0, 1)) ∧ (decode cX8_ask 57 = .ok (.iload_n 1, 1)) ∧ (decode cX8_ask 58 = .ok (.invokevirtual 222, 3)) ∧ (decode cX8_ask 61 = .ok (.ireturn, 1)) ∧ (decode cX8_ask 62 = .ok (.iload_n 3, 1)) := by decide +kernel
theorem dX8_ask_41 : decode cX8_ask 41 = .ok (.ifCond .ne 21, 3) := dX8_ask_41_b.1
theorem dX8_ask_44 : decode cX8_ask 44 = .ok (.iload_n 3, 1) := dX8_ask_41_b.2.1
theorem dX8_ask_45 : decode cX8_ask 45 = .ok (.ifCond .eq 11, 3) := dX8_ask_41_b.2.2.1
theorem dX8_ask_48 : decode cX8_ask 48 = .ok (.aload_n 0, 1) := dX8_ask_41_b.2.2.2.1
theorem dX8_ask_49 : decode cX8_ask 49 = .ok (.iload_n 1, 1) := dX8_ask_41_b.2.2.2.2.1
theorem dX8_ask_50 : decode cX8_ask 50 = .ok (.invokevirtual 219, 3) := dX8_ask_41_b.2.2.2.2.2.1
theorem dX8_ask_53 : decode cX8_ask 53 = .ok (.goto 8, 3) := dX8_ask_41_b.2.2.2.2.2.2.1
theorem dX8_ask_56 : decode cX8_ask 56 = .ok (.aload_n 0, 1) := dX8_ask_41_b.2.2.2.2.2.2.2.1
theorem dX8_ask_57 : decode cX8_ask 57 = .ok (.iload_n 1, 1) := dX8_ask_41_b.2.2.2.2.2.2.2.2.1
theorem dX8_ask_58 : decode cX8_ask 58 = .ok (.invokevirtual 222, 3) := dX8_ask_41_b.2.2.2.2.2.2.2.2.2.1
theorem dX8_ask_61 : decode cX8_ask 61 = .ok (.ireturn, 1) := dX8_ask_41_b.2.2.2.2.2.2.2.2.2.2.1
theorem dX8_ask_62 : decode cX8_ask 62 = .ok (.iload_n 3, 1) := dX8_ask_41_b.2.2.2.2.2.2.2.2.2.2.2
theorem dX8_ask_63_b : (decode cX8_ask 63 = .ok (.ifCond .eq 11, 3)) ∧ (decode cX8_ask 66 = .ok (.aload_n 0, 1)) ∧ (decode cX8_ask 67 = .ok (.iload_n 1, 1)) ∧ (decode cX8_ask 68 = .ok (.invokevirtual 225, 3)) ∧ (decode cX8_ask 71 = .ok (.goto 8, 3)) ∧ (decode cX8_ask 74 = .ok (.aload_n 0, 1)) ∧ (decode cX8_ask 75 = .ok (.iload_n 1, 1)) ∧ (decode cX8_ask 76 = .ok (.invokevirtual 216, 3)) ∧ (decode cX8_ask 79 = .ok (.ireturn, 1)) := by decide +kernel
theorem dX8_ask_63 : decode cX8_ask 63 = .ok (.ifCond .eq 11, 3) := dX8_ask_63_b.1
theorem dX8_ask_66 : decode cX8_ask 66 = .ok (.aload_n 0, 1) := dX8_ask_63_b.2.1
theorem dX8_ask_67 : decode cX8_ask 67 = .ok (.iload_n 1, 1) := dX8_ask_63_b.2.2.1
theorem dX8_ask_68 : decode cX8_ask 68 = .ok (.invokevirtual 225, 3) := dX8_ask_63_b.2.2.2.1
theorem dX8_ask_71 : decode cX8_ask 71 = .ok (.goto 8, 3) := dX8_ask_63_b.2.2.2.2.1
theorem dX8_ask_74 : decode cX8_ask 74 = .ok (.aload_n 0, 1) := dX8_ask_63_b.2.2.2.2.2.1
theorem dX8_ask_75 : decode cX8_ask 75 = .ok (.iload_n 1, 1) := dX8_ask_63_b.2.2.2.2.2.2.1
theorem dX8_ask_76 : decode cX8_ask 76 = .ok (.invokevirtual 216, 3) := dX8_ask_63_b.2.2.2.2.2.2.2.1
theorem dX8_ask_79 : decode cX8_ask 79 = .ok (.ireturn, 1) := dX8_ask_63_b.2.2.2.2.2.2.2.2
theorem dX8_trace_0_b : (decode cX8_trace 0 = .ok (.iload_n 1, 1)) ∧ (decode cX8_trace 1 = .ok (.iconst 0, 1)) ∧ (decode cX8_trace 2 = .ok (.aload_n 0, 1)) ∧ (decode cX8_trace 3 = .ok (.getfield 209, 3)) ∧ (decode cX8_trace 6 = .ok (.iconst 1, 1)) ∧ (decode cX8_trace 7 = .ok (.isub, 1)) ∧ (decode cX8_trace 8 = .ok (.invokestatic 56, 3)) ∧ (decode cX8_trace 11 = .ok (.ifCond .eq 12, 3)) ∧ (decode cX8_trace 14 = .ok (.aload_n 0, 1)) ∧ (decode cX8_trace 15 = .ok (.getfield 47, 3)) ∧ (decode cX8_trace 18 = .ok (.iload_n 1, 1)) ∧ (decode cX8_trace 19 = .ok (.iaload, 1)) := by decide +kernel
theorem dX8_trace_0 : decode cX8_trace 0 = .ok (.iload_n 1, 1) := dX8_trace_0_b.1
theorem dX8_trace_1 : decode cX8_trace 1 = .ok (.iconst 0, 1) := dX8_trace_0_b.2.1
theorem dX8_trace_2 : decode cX8_trace 2 = .ok (.aload_n 0, 1) := dX8_trace_0_b.2.2.1
theorem dX8_trace_3 : decode cX8_trace 3 = .ok (.getfield 209, 3) := dX8_trace_0_b.2.2.2.1
theorem dX8_trace_6 : decode cX8_trace 6 = .ok (.iconst 1, 1) := dX8_trace_0_b.2.2.2.2.1
theorem dX8_trace_7 : decode cX8_trace 7 = .ok (.isub, 1) := dX8_trace_0_b.2.2.2.2.2.1
theorem dX8_trace_8 : decode cX8_trace 8 = .ok (.invokestatic 56, 3) := dX8_trace_0_b.2.2.2.2.2.2.1
theorem dX8_trace_11 : decode cX8_trace 11 = .ok (.ifCond .eq 12, 3) := dX8_trace_0_b.2.2.2.2.2.2.2.1
theorem dX8_trace_14 : decode cX8_trace 14 = .ok (.aload_n 0, 1) := dX8_trace_0_b.2.2.2.2.2.2.2.2.1
theorem dX8_trace_15 : decode cX8_trace 15 = .ok (.getfield 47, 3) := dX8_trace_0_b.2.2.2.2.2.2.2.2.2.1
theorem dX8_trace_18 : decode cX8_trace 18 = .ok (.iload_n 1, 1) := dX8_trace_0_b.2.2.2.2.2.2.2.2.2.2.1
theorem dX8_trace_19 : decode cX8_trace 19 = .ok (.iaload, 1) := dX8_trace_0_b.2.2.2.2.2.2.2.2.2.2.2
theorem dX8_trace_20_b : (decode cX8_trace 20 = .ok (.goto 5, 3)) ∧ (decode cX8_trace 23 = .ok (.ldc 50, 2)) ∧ (decode cX8_trace 25 = .ok (.ireturn, 1)) := by decide +kernel
theorem dX8_trace_20 : decode cX8_trace 20 = .ok (.goto 5, 3) := dX8_trace_20_b.1
theorem dX8_trace_23 : decode cX8_trace 23 = .ok (.ldc 50, 2) := dX8_trace_20_b.2.1
theorem dX8_trace_25 : decode cX8_trace 25 = .ok (.ireturn, 1) := dX8_trace_20_b.2.2
theorem dX8_count_0_b : (decode cX8_count 0 = .ok (.iconst 0, 1)) ∧ (decode cX8_count 1 = .ok (.istore_n 2, 1)) ∧ (decode cX8_count 2 = .ok (.iload_n 1, 1)) ∧ (decode cX8_count 3 = .ok (.tableswitch 158 0 7 #[45, 77, 84, 91, 98, 103, 148, 153], 45)) ∧ (decode cX8_count 48 = .ok (.iconst 0, 1)) ∧ (decode cX8_count 49 = .ok (.istore_n 3, 1)) ∧ (decode cX8_count 50 = .ok (.iload_n 3, 1)) ∧ (decode cX8_count 51 = .ok (.bipush 8, 2)) ∧ (decode cX8_count 53 = .ok (.if_icmp .ge 25, 3)) ∧ (decode cX8_count 56 = .ok (.iload_n 2, 1)) ∧ (decode cX8_count 57 = .ok (.aload_n 0, 1)) ∧ (decode cX8_count 58 = .ok (.iload_n 3, 1)) := by decide +kernel
theorem dX8_count_0 : decode cX8_count 0 = .ok (.iconst 0, 1) := dX8_count_0_b.1
theorem dX8_count_1 : decode cX8_count 1 = .ok (.istore_n 2, 1) := dX8_count_0_b.2.1
theorem dX8_count_2 : decode cX8_count 2 = .ok (.iload_n 1, 1) := dX8_count_0_b.2.2.1
theorem dX8_count_3 : decode cX8_count 3 = .ok (.tableswitch 158 0 7 #[45, 77, 84, 91, 98, 103, 148, 153], 45) := dX8_count_0_b.2.2.2.1
theorem dX8_count_48 : decode cX8_count 48 = .ok (.iconst 0, 1) := dX8_count_0_b.2.2.2.2.1
theorem dX8_count_49 : decode cX8_count 49 = .ok (.istore_n 3, 1) := dX8_count_0_b.2.2.2.2.2.1
theorem dX8_count_50 : decode cX8_count 50 = .ok (.iload_n 3, 1) := dX8_count_0_b.2.2.2.2.2.2.1
theorem dX8_count_51 : decode cX8_count 51 = .ok (.bipush 8, 2) := dX8_count_0_b.2.2.2.2.2.2.2.1
theorem dX8_count_53 : decode cX8_count 53 = .ok (.if_icmp .ge 25, 3) := dX8_count_0_b.2.2.2.2.2.2.2.2.1
theorem dX8_count_56 : decode cX8_count 56 = .ok (.iload_n 2, 1) := dX8_count_0_b.2.2.2.2.2.2.2.2.2.1
theorem dX8_count_57 : decode cX8_count 57 = .ok (.aload_n 0, 1) := dX8_count_0_b.2.2.2.2.2.2.2.2.2.2.1
theorem dX8_count_58 : decode cX8_count 58 = .ok (.iload_n 3, 1) := dX8_count_0_b.2.2.2.2.2.2.2.2.2.2.2
theorem dX8_count_59_b : (decode cX8_count 59 = .ok (.invokevirtual 72, 3)) ∧ (decode cX8_count 62 = .ok (.ifCond .eq 7, 3)) ∧ (decode cX8_count 65 = .ok (.iconst 0, 1)) ∧ (decode cX8_count 66 = .ok (.goto 4, 3)) ∧ (decode cX8_count 69 = .ok (.iconst 1, 1)) ∧ (decode cX8_count 70 = .ok (.iadd, 1)) ∧ (decode cX8_count 71 = .ok (.istore_n 2, 1)) ∧ (decode cX8_count 72 = .ok (.iinc 3 1, 3)) ∧ (decode cX8_count 75 = .ok (.goto (-25), 3)) ∧ (decode cX8_count 78 = .ok (.iload_n 2, 1)) ∧ (decode cX8_count 79 = .ok (.ireturn, 1)) ∧ (decode cX8_count 80 = .ok (.aload_n 0, 1)) := by decide +kernel
theorem dX8_count_59 : decode cX8_count 59 = .ok (.invokevirtual 72, 3) := dX8_count_59_b.1
theorem dX8_count_62 : decode cX8_count 62 = .ok (.ifCond .eq 7, 3) := dX8_count_59_b.2.1
theorem dX8_count_65 : decode cX8_count 65 = .ok (.iconst 0, 1) := dX8_count_59_b.2.2.1
theorem dX8_count_66 : decode cX8_count 66 = .ok (.goto 4, 3) := dX8_count_59_b.2.2.2.1
theorem dX8_count_69 : decode cX8_count 69 = .ok (.iconst 1, 1) := dX8_count_59_b.2.2.2.2.1
theorem dX8_count_70 : decode cX8_count 70 = .ok (.iadd, 1) := dX8_count_59_b.2.2.2.2.2.1
theorem dX8_count_71 : decode cX8_count 71 = .ok (.istore_n 2, 1) := dX8_count_59_b.2.2.2.2.2.2.1
theorem dX8_count_72 : decode cX8_count 72 = .ok (.iinc 3 1, 3) := dX8_count_59_b.2.2.2.2.2.2.2.1
theorem dX8_count_75 : decode cX8_count 75 = .ok (.goto (-25), 3) := dX8_count_59_b.2.2.2.2.2.2.2.2.1
theorem dX8_count_78 : decode cX8_count 78 = .ok (.iload_n 2, 1) := dX8_count_59_b.2.2.2.2.2.2.2.2.2.1
theorem dX8_count_79 : decode cX8_count 79 = .ok (.ireturn, 1) := dX8_count_59_b.2.2.2.2.2.2.2.2.2.2.1
theorem dX8_count_80 : decode cX8_count 80 = .ok (.aload_n 0, 1) := dX8_count_59_b.2.2.2.2.2.2.2.2.2.2.2
theorem dX8_count_81_b : (decode cX8_count 81 = .ok (.getfield 25, 3)) ∧ (decode cX8_count 84 = .ok (.iconst 4, 1)) ∧ (decode cX8_count 85 = .ok (.iaload, 1)) ∧ (decode cX8_count 86 = .ok (.ireturn, 1)) ∧ (decode cX8_count 87 = .ok (.aload_n 0, 1)) ∧ (decode cX8_count 88 = .ok (.getfield 25, 3)) ∧ (decode cX8_count 91 = .ok (.iconst 5, 1)) ∧ (decode cX8_count 92 = .ok (.iaload, 1)) ∧ (decode cX8_count 93 = .ok (.ireturn, 1)) ∧ (decode cX8_count 94 = .ok (.aload_n 0, 1)) ∧ (decode cX8_count 95 = .ok (.getfield 25, 3)) ∧ (decode cX8_count 98 = .ok (.iconst 2, 1)) := by decide +kernel
theorem dX8_count_81 : decode cX8_count 81 = .ok (.getfield 25, 3) := dX8_count_81_b.1
theorem dX8_count_84 : decode cX8_count 84 = .ok (.iconst 4, 1) := dX8_count_81_b.2.1
theorem dX8_count_85 : decode cX8_count 85 = .ok (.iaload, 1) := dX8_count_81_b.2.2.1
theorem dX8_count_86 : decode cX8_count 86 = .ok (.ireturn, 1) := dX8_count_81_b.2.2.2.1
theorem dX8_count_87 : decode cX8_count 87 = .ok (.aload_n 0, 1) := dX8_count_81_b.2.2.2.2.1
theorem dX8_count_88 : decode cX8_count 88 = .ok (.getfield 25, 3) := dX8_count_81_b.2.2.2.2.2.1
theorem dX8_count_91 : decode cX8_count 91 = .ok (.iconst 5, 1) := dX8_count_81_b.2.2.2.2.2.2.1
theorem dX8_count_92 : decode cX8_count 92 = .ok (.iaload, 1) := dX8_count_81_b.2.2.2.2.2.2.2.1
theorem dX8_count_93 : decode cX8_count 93 = .ok (.ireturn, 1) := dX8_count_81_b.2.2.2.2.2.2.2.2.1
theorem dX8_count_94 : decode cX8_count 94 = .ok (.aload_n 0, 1) := dX8_count_81_b.2.2.2.2.2.2.2.2.2.1
theorem dX8_count_95 : decode cX8_count 95 = .ok (.getfield 25, 3) := dX8_count_81_b.2.2.2.2.2.2.2.2.2.2.1
theorem dX8_count_98 : decode cX8_count 98 = .ok (.iconst 2, 1) := dX8_count_81_b.2.2.2.2.2.2.2.2.2.2.2
theorem dX8_count_99_b : (decode cX8_count 99 = .ok (.iaload, 1)) ∧ (decode cX8_count 100 = .ok (.ireturn, 1)) ∧ (decode cX8_count 101 = .ok (.aload_n 0, 1)) ∧ (decode cX8_count 102 = .ok (.invokevirtual 181, 3)) ∧ (decode cX8_count 105 = .ok (.ireturn, 1)) ∧ (decode cX8_count 106 = .ok (.iconst 0, 1)) ∧ (decode cX8_count 107 = .ok (.istore_n 3, 1)) ∧ (decode cX8_count 108 = .ok (.iload_n 3, 1)) ∧ (decode cX8_count 109 = .ok (.aload_n 0, 1)) ∧ (decode cX8_count 110 = .ok (.getfield 25, 3)) ∧ (decode cX8_count 113 = .ok (.iconst 4, 1)) ∧ (decode cX8_count 114 = .ok (.iaload, 1)) := by decide +kernel
theorem dX8_count_99 : decode cX8_count 99 = .ok (.iaload, 1) := dX8_count_99_b.1
theorem dX8_count_100 : decode cX8_count 100 = .ok (.ireturn, 1) := dX8_count_99_b.2.1
theorem dX8_count_101 : decode cX8_count 101 = .ok (.aload_n 0, 1) := dX8_count_99_b.2.2.1
theorem dX8_count_102 : decode cX8_count 102 = .ok (.invokevirtual 181, 3) := dX8_count_99_b.2.2.2.1
theorem dX8_count_105 : decode cX8_count 105 = .ok (.ireturn, 1) := dX8_count_99_b.2.2.2.2.1
theorem dX8_count_106 : decode cX8_count 106 = .ok (.iconst 0, 1) := dX8_count_99_b.2.2.2.2.2.1
theorem dX8_count_107 : decode cX8_count 107 = .ok (.istore_n 3, 1) := dX8_count_99_b.2.2.2.2.2.2.1
theorem dX8_count_108 : decode cX8_count 108 = .ok (.iload_n 3, 1) := dX8_count_99_b.2.2.2.2.2.2.2.1
theorem dX8_count_109 : decode cX8_count 109 = .ok (.aload_n 0, 1) := dX8_count_99_b.2.2.2.2.2.2.2.2.1
theorem dX8_count_110 : decode cX8_count 110 = .ok (.getfield 25, 3) := dX8_count_99_b.2.2.2.2.2.2.2.2.2.1
theorem dX8_count_113 : decode cX8_count 113 = .ok (.iconst 4, 1) := dX8_count_99_b.2.2.2.2.2.2.2.2.2.2.1
theorem dX8_count_114 : decode cX8_count 114 = .ok (.iaload, 1) := dX8_count_99_b.2.2.2.2.2.2.2.2.2.2.2
theorem dX8_count_115_b : (decode cX8_count 115 = .ok (.if_icmp .ge 34, 3)) ∧ (decode cX8_count 118 = .ok (.iload_n 2, 1)) ∧ (decode cX8_count 119 = .ok (.aload_n 0, 1)) ∧ (decode cX8_count 120 = .ok (.getfield 25, 3)) ∧ (decode cX8_count 123 = .ok (.bipush 6, 2)) ∧ (decode cX8_count 125 = .ok (.bipush 7, 2)) ∧ (decode cX8_count 127 = .ok (.iload_n 3, 1)) ∧ (decode cX8_count 128 = .ok (.imul, 1)) ∧ (decode cX8_count 129 = .ok (.iadd, 1)) ∧ (decode cX8_count 130 = .ok (.iconst 2, 1)) ∧ (decode cX8_count 131 = .ok (.iadd, 1)) ∧ (decode cX8_count 132 = .ok (.iaload, 1)) := by decide +kernel
theorem dX8_count_115 : decode cX8_count 115 = .ok (.if_icmp .ge 34, 3) := dX8_count_115_b.1
theorem dX8_count_118 : decode cX8_count 118 = .ok (.iload_n 2, 1) := dX8_count_115_b.2.1
theorem dX8_count_119 : decode cX8_count 119 = .ok (.aload_n 0, 1) := dX8_count_115_b.2.2.1
theorem dX8_count_120 : decode cX8_count 120 = .ok (.getfield 25, 3) := dX8_count_115_b.2.2.2.1
theorem dX8_count_123 : decode cX8_count 123 = .ok (.bipush 6, 2) := dX8_count_115_b.2.2.2.2.1
theorem dX8_count_125 : decode cX8_count 125 = .ok (.bipush 7, 2) := dX8_count_115_b.2.2.2.2.2.1
theorem dX8_count_127 : decode cX8_count 127 = .ok (.iload_n 3, 1) := dX8_count_115_b.2.2.2.2.2.2.1
theorem dX8_count_128 : decode cX8_count 128 = .ok (.imul, 1) := dX8_count_115_b.2.2.2.2.2.2.2.1
theorem dX8_count_129 : decode cX8_count 129 = .ok (.iadd, 1) := dX8_count_115_b.2.2.2.2.2.2.2.2.1
theorem dX8_count_130 : decode cX8_count 130 = .ok (.iconst 2, 1) := dX8_count_115_b.2.2.2.2.2.2.2.2.2.1
theorem dX8_count_131 : decode cX8_count 131 = .ok (.iadd, 1) := dX8_count_115_b.2.2.2.2.2.2.2.2.2.2.1
theorem dX8_count_132 : decode cX8_count 132 = .ok (.iaload, 1) := dX8_count_115_b.2.2.2.2.2.2.2.2.2.2.2
theorem dX8_count_133_b : (decode cX8_count 133 = .ok (.ifCond .ne 7, 3)) ∧ (decode cX8_count 136 = .ok (.iconst 1, 1)) ∧ (decode cX8_count 137 = .ok (.goto 4, 3)) ∧ (decode cX8_count 140 = .ok (.iconst 0, 1)) ∧ (decode cX8_count 141 = .ok (.iadd, 1)) ∧ (decode cX8_count 142 = .ok (.istore_n 2, 1)) ∧ (decode cX8_count 143 = .ok (.iinc 3 1, 3)) ∧ (decode cX8_count 146 = .ok (.goto (-38), 3)) ∧ (decode cX8_count 149 = .ok (.iload_n 2, 1)) ∧ (decode cX8_count 150 = .ok (.ireturn, 1)) ∧ (decode cX8_count 151 = .ok (.aload_n 0, 1)) ∧ (decode cX8_count 152 = .ok (.getfield 138, 3)) := by decide +kernel
theorem dX8_count_133 : decode cX8_count 133 = .ok (.ifCond .ne 7, 3) := dX8_count_133_b.1
theorem dX8_count_136 : decode cX8_count 136 = .ok (.iconst 1, 1) := dX8_count_133_b.2.1
theorem dX8_count_137 : decode cX8_count 137 = .ok (.goto 4, 3) := dX8_count_133_b.2.2.1
theorem dX8_count_140 : decode cX8_count 140 = .ok (.iconst 0, 1) := dX8_count_133_b.2.2.2.1
theorem dX8_count_141 : decode cX8_count 141 = .ok (.iadd, 1) := dX8_count_133_b.2.2.2.2.1
theorem dX8_count_142 : decode cX8_count 142 = .ok (.istore_n 2, 1) := dX8_count_133_b.2.2.2.2.2.1
theorem dX8_count_143 : decode cX8_count 143 = .ok (.iinc 3 1, 3) := dX8_count_133_b.2.2.2.2.2.2.1
theorem dX8_count_146 : decode cX8_count 146 = .ok (.goto (-38), 3) := dX8_count_133_b.2.2.2.2.2.2.2.1
theorem dX8_count_149 : decode cX8_count 149 = .ok (.iload_n 2, 1) := dX8_count_133_b.2.2.2.2.2.2.2.2.1
theorem dX8_count_150 : decode cX8_count 150 = .ok (.ireturn, 1) := dX8_count_133_b.2.2.2.2.2.2.2.2.2.1
theorem dX8_count_151 : decode cX8_count 151 = .ok (.aload_n 0, 1) := dX8_count_133_b.2.2.2.2.2.2.2.2.2.2.1
theorem dX8_count_152 : decode cX8_count 152 = .ok (.getfield 138, 3) := dX8_count_133_b.2.2.2.2.2.2.2.2.2.2.2
theorem dX8_count_155_b : (decode cX8_count 155 = .ok (.ireturn, 1)) ∧ (decode cX8_count 156 = .ok (.aload_n 0, 1)) ∧ (decode cX8_count 157 = .ok (.getfield 82, 3)) ∧ (decode cX8_count 160 = .ok (.ireturn, 1)) ∧ (decode cX8_count 161 = .ok (.ldc 64, 2)) ∧ (decode cX8_count 163 = .ok (.ireturn, 1)) := by decide +kernel
theorem dX8_count_155 : decode cX8_count 155 = .ok (.ireturn, 1) := dX8_count_155_b.1
theorem dX8_count_156 : decode cX8_count 156 = .ok (.aload_n 0, 1) := dX8_count_155_b.2.1
theorem dX8_count_157 : decode cX8_count 157 = .ok (.getfield 82, 3) := dX8_count_155_b.2.2.1
theorem dX8_count_160 : decode cX8_count 160 = .ok (.ireturn, 1) := dX8_count_155_b.2.2.2.1
theorem dX8_count_161 : decode cX8_count 161 = .ok (.ldc 64, 2) := dX8_count_155_b.2.2.2.2.1
theorem dX8_count_163 : decode cX8_count 163 = .ok (.ireturn, 1) := dX8_count_155_b.2.2.2.2.2
theorem dX8_status_0_b : (decode cX8_status 0 = .ok (.aload_n 0, 1)) ∧ (decode cX8_status 1 = .ok (.getfield 51, 3)) ∧ (decode cX8_status 4 = .ok (.ireturn, 1)) := by decide +kernel
theorem dX8_status_0 : decode cX8_status 0 = .ok (.aload_n 0, 1) := dX8_status_0_b.1
theorem dX8_status_1 : decode cX8_status 1 = .ok (.getfield 51, 3) := dX8_status_0_b.2.1
theorem dX8_status_4 : decode cX8_status 4 = .ok (.ireturn, 1) := dX8_status_0_b.2.2
