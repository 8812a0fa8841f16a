theorem dX0_init_0_b : (decode cX0_init 0 = .ok (.aload_n 0, 1)) ∧ (decode cX0_init 1 = .ok (.invokespecial 1, 3)) ∧ (decode cX0_init 4 = .ok (.aload_n 0, 1)) ∧ (decode cX0_init 5 = .ok (.bipush 24, 2)) ∧ (decode cX0_init 7 = .ok (.newarray .int, 2)) ∧ (decode cX0_init 9 = .ok (.putfield 9, 3)) ∧ (decode cX0_init 12 = .ok (.aload_n 0, 1)) ∧ (decode cX0_init 13 = .ok (.bipush 24, 2)) ∧ (decode cX0_init 15 = .ok (.newarray .int, 2)) ∧ (decode cX0_init 17 = .ok (.putfield 13, 3)) ∧ (decode cX0_init 20 = .ok (.aload_n 0, 1)) ∧ (decode cX0_init 21 = .ok (.bipush 24, 2)) := by decide +kernel
theorem dX0_init_0 : decode cX0_init 0 = .ok (.aload_n 0, 1) := dX0_init_0_b.1
theorem dX0_init_1 : decode cX0_init 1 = .ok (.invokespecial 1, 3) := dX0_init_0_b.2.1
theorem dX0_init_4 : decode cX0_init 4 = .ok (.aload_n 0, 1) := dX0_init_0_b.2.2.1
theorem dX0_init_5 : decode cX0_init 5 = .ok (.bipush 24, 2) := dX0_init_0_b.2.2.2.1
theorem dX0_init_7 : decode cX0_init 7 = .ok (.newarray .int, 2) := dX0_init_0_b.2.2.2.2.1
theorem dX0_init_9 : decode cX0_init 9 = .ok (.putfield 9, 3) := dX0_init_0_b.2.2.2.2.2.1
theorem dX0_init_12 : decode cX0_init 12 = .ok (.aload_n 0, 1) := dX0_init_0_b.2.2.2.2.2.2.1
theorem dX0_init_13 : decode cX0_init 13 = .ok (.bipush 24, 2) := dX0_init_0_b.2.2.2.2.2.2.2.1
theorem dX0_init_15 : decode cX0_init 15 = .ok (.newarray .int, 2) := dX0_init_0_b.2.2.2.2.2.2.2.2.1
theorem dX0_init_17 : decode cX0_init 17 = .ok (.putfield 13, 3) := dX0_init_0_b.2.2.2.2.2.2.2.2.2.1
theorem dX0_init_20 : decode cX0_init 20 = .ok (.aload_n 0, 1) := dX0_init_0_b.2.2.2.2.2.2.2.2.2.2.1
theorem dX0_init_21 : decode cX0_init 21 = .ok (.bipush 24, 2) := dX0_init_0_b.2.2.2.2.2.2.2.2.2.2.2
theorem dX0_init_23_b : (decode cX0_init 23 = .ok (.newarray .int, 2)) ∧ (decode cX0_init 25 = .ok (.putfield 16, 3)) ∧ (decode cX0_init 28 = .ok (.aload_n 0, 1)) ∧ (decode cX0_init 29 = .ok (.iconst 0, 1)) ∧ (decode cX0_init 30 = .ok (.putfield 19, 3)) ∧ (decode cX0_init 33 = .ok (.return_, 1)) := by decide +kernel
theorem dX0_init_23 : decode cX0_init 23 = .ok (.newarray .int, 2) := dX0_init_23_b.1
theorem dX0_init_25 : decode cX0_init 25 = .ok (.putfield 16, 3) := dX0_init_23_b.2.1
theorem dX0_init_28 : decode cX0_init 28 = .ok (.aload_n 0, 1) := dX0_init_23_b.2.2.1
theorem dX0_init_29 : decode cX0_init 29 = .ok (.iconst 0, 1) := dX0_init_23_b.2.2.2.1
theorem dX0_init_30 : decode cX0_init 30 = .ok (.putfield 19, 3) := dX0_init_23_b.2.2.2.2.1
theorem dX0_init_33 : decode cX0_init 33 = .ok (.return_, 1) := dX0_init_23_b.2.2.2.2.2
theorem dX0_forgetAll_0_b : (decode cX0_forgetAll 0 = .ok (.aload_n 0, 1)) ∧ (decode cX0_forgetAll 1 = .ok (.iconst 0, 1)) ∧ (decode cX0_forgetAll 2 = .ok (.putfield 19, 3)) ∧ (decode cX0_forgetAll 5 = .ok (.return_, 1)) := by decide +kernel
theorem dX0_forgetAll_0 : decode cX0_forgetAll 0 = .ok (.aload_n 0, 1) := dX0_forgetAll_0_b.1
theorem dX0_forgetAll_1 : decode cX0_forgetAll 1 = .ok (.iconst 0, 1) := dX0_forgetAll_0_b.2.1
theorem dX0_forgetAll_2 : decode cX0_forgetAll 2 = .ok (.putfield 19, 3) := dX0_forgetAll_0_b.2.2.1
theorem dX0_forgetAll_5 : decode cX0_forgetAll 5 = .ok (.return_, 1) := dX0_forgetAll_0_b.2.2.2
theorem dX0_keep_0_b : (decode cX0_keep 0 = .ok (.aload_n 0, 1)) ∧ (decode cX0_keep 1 = .ok (.getfield 19, 3)) ∧ (decode cX0_keep 4 = .ok (.bipush 24, 2)) ∧ (decode cX0_keep 6 = .ok (.if_icmp .lt 7, 3)) ∧ (decode cX0_keep 9 = .ok (.aload_n 0, 1)) ∧ (decode cX0_keep 10 = .ok (.invokevirtual 23, 3)) ∧ (decode cX0_keep 13 = .ok (.aload_n 0, 1)) ∧ (decode cX0_keep 14 = .ok (.getfield 9, 3)) ∧ (decode cX0_keep 17 = .ok (.aload_n 0, 1)) ∧ (decode cX0_keep 18 = .ok (.getfield 19, 3)) ∧ (decode cX0_keep 21 = .ok (.iload_n 1, 1)) ∧ (decode cX0_keep 22 = .ok (.iastore, 1)) := by decide +kernel
theorem dX0_keep_0 : decode cX0_keep 0 = .ok (.aload_n 0, 1) := dX0_keep_0_b.1
theorem dX0_keep_1 : decode cX0_keep 1 = .ok (.getfield 19, 3) := dX0_keep_0_b.2.1
theorem dX0_keep_4 : decode cX0_keep 4 = .ok (.bipush 24, 2) := dX0_keep_0_b.2.2.1
theorem dX0_keep_6 : decode cX0_keep 6 = .ok (.if_icmp .lt 7, 3) := dX0_keep_0_b.2.2.2.1
theorem dX0_keep_9 : decode cX0_keep 9 = .ok (.aload_n 0, 1) := dX0_keep_0_b.2.2.2.2.1
theorem dX0_keep_10 : decode cX0_keep 10 = .ok (.invokevirtual 23, 3) := dX0_keep_0_b.2.2.2.2.2.1
theorem dX0_keep_13 : decode cX0_keep 13 = .ok (.aload_n 0, 1) := dX0_keep_0_b.2.2.2.2.2.2.1
theorem dX0_keep_14 : decode cX0_keep 14 = .ok (.getfield 9, 3) := dX0_keep_0_b.2.2.2.2.2.2.2.1
theorem dX0_keep_17 : decode cX0_keep 17 = .ok (.aload_n 0, 1) := dX0_keep_0_b.2.2.2.2.2.2.2.2.1
theorem dX0_keep_18 : decode cX0_keep 18 = .ok (.getfield 19, 3) := dX0_keep_0_b.2.2.2.2.2.2.2.2.2.1
theorem dX0_keep_21 : decode cX0_keep 21 = .ok (.iload_n 1, 1) := dX0_keep_0_b.2.2.2.2.2.2.2.2.2.2.1
theorem dX0_keep_22 : decode cX0_keep 22 = .ok (.iastore, 1) := dX0_keep_0_b.2.2.2.2.2.2.2.2.2.2.2
theorem dX0_keep_23_b : (decode cX0_keep 23 = .ok (.aload_n 0, 1)) ∧ (decode cX0_keep 24 = .ok (.getfield 13, 3)) ∧ (decode cX0_keep 27 = .ok (.aload_n 0, 1)) ∧ (decode cX0_keep 28 = .ok (.getfield 19, 3)) ∧ (decode cX0_keep 31 = .ok (.iload_n 2, 1)) ∧ (decode cX0_keep 32 = .ok (.iastore, 1)) ∧ (decode cX0_keep 33 = .ok (.aload_n 0, 1)) ∧ (decode cX0_keep 34 = .ok (.getfield 16, 3)) ∧ (decode cX0_keep 37 = .ok (.aload_n 0, 1)) ∧ (decode cX0_keep 38 = .ok (.getfield 19, 3)) ∧ (decode cX0_keep 41 = .ok (.iload_n 3, 1)) ∧ (decode cX0_keep 42 = .ok (.iastore, 1)) := by decide +kernel
theorem dX0_keep_23 : decode cX0_keep 23 = .ok (.aload_n 0, 1) := dX0_keep_23_b.1
theorem dX0_keep_24 : decode cX0_keep 24 = .ok (.getfield 13, 3) := dX0_keep_23_b.2.1
theorem dX0_keep_27 : decode cX0_keep 27 = .ok (.aload_n 0, 1) := dX0_keep_23_b.2.2.1
theorem dX0_keep_28 : decode cX0_keep 28 = .ok (.getfield 19, 3) := dX0_keep_23_b.2.2.2.1
theorem dX0_keep_31 : decode cX0_keep 31 = .ok (.iload_n 2, 1) := dX0_keep_23_b.2.2.2.2.1
theorem dX0_keep_32 : decode cX0_keep 32 = .ok (.iastore, 1) := dX0_keep_23_b.2.2.2.2.2.1
theorem dX0_keep_33 : decode cX0_keep 33 = .ok (.aload_n 0, 1) := dX0_keep_23_b.2.2.2.2.2.2.1
theorem dX0_keep_34 : decode cX0_keep 34 = .ok (.getfield 16, 3) := dX0_keep_23_b.2.2.2.2.2.2.2.1
theorem dX0_keep_37 : decode cX0_keep 37 = .ok (.aload_n 0, 1) := dX0_keep_23_b.2.2.2.2.2.2.2.2.1
theorem dX0_keep_38 : decode cX0_keep 38 = .ok (.getfield 19, 3) := dX0_keep_23_b.2.2.2.2.2.2.2.2.2.1
theorem dX0_keep_41 : decode cX0_keep 41 = .ok (.iload_n 3, 1) := dX0_keep_23_b.2.2.2.2.2.2.2.2.2.2.1
theorem dX0_keep_42 : decode cX0_keep 42 = .ok (.iastore, 1) := dX0_keep_23_b.2.2.2.2.2.2.2.2.2.2.2
theorem dX0_keep_43_b : (decode cX0_keep 43 = .ok (.aload_n 0, 1)) ∧ (decode cX0_keep 44 = .ok (.dup, 1)) ∧ (decode cX0_keep 45 = .ok (.getfield 19, 3)) ∧ (decode cX0_keep 48 = .ok (.iconst 1, 1)) ∧ (decode cX0_keep 49 = .ok (.iadd, 1)) ∧ (decode cX0_keep 50 = .ok (.putfield 19, 3)) ∧ (decode cX0_keep 53 = .ok (.return_, 1)) := by decide +kernel
theorem dX0_keep_43 : decode cX0_keep 43 = .ok (.aload_n 0, 1) := dX0_keep_43_b.1
theorem dX0_keep_44 : decode cX0_keep 44 = .ok (.dup, 1) := dX0_keep_43_b.2.1
theorem dX0_keep_45 : decode cX0_keep 45 = .ok (.getfield 19, 3) := dX0_keep_43_b.2.2.1
theorem dX0_keep_48 : decode cX0_keep 48 = .ok (.iconst 1, 1) := dX0_keep_43_b.2.2.2.1
theorem dX0_keep_49 : decode cX0_keep 49 = .ok (.iadd, 1) := dX0_keep_43_b.2.2.2.2.1
theorem dX0_keep_50 : decode cX0_keep 50 = .ok (.putfield 19, 3) := dX0_keep_43_b.2.2.2.2.2.1
theorem dX0_keep_53 : decode cX0_keep 53 = .ok (.return_, 1) := dX0_keep_43_b.2.2.2.2.2.2
theorem dX0_forgetOldest_0_b : (decode cX0_forgetOldest 0 = .ok (.aload_n 0, 1)) ∧ (decode cX0_forgetOldest 1 = .ok (.bipush 23, 2)) ∧ (decode cX0_forgetOldest 3 = .ok (.putfield 19, 3)) ∧ (decode cX0_forgetOldest 6 = .ok (.aload_n 0, 1)) ∧ (decode cX0_forgetOldest 7 = .ok (.getfield 9, 3)) ∧ (decode cX0_forgetOldest 10 = .ok (.iconst 1, 1)) ∧ (decode cX0_forgetOldest 11 = .ok (.aload_n 0, 1)) ∧ (decode cX0_forgetOldest 12 = .ok (.getfield 9, 3)) ∧ (decode cX0_forgetOldest 15 = .ok (.iconst 0, 1)) ∧ (decode cX0_forgetOldest 16 = .ok (.aload_n 0, 1)) ∧ (decode cX0_forgetOldest 17 = .ok (.getfield 19, 3)) ∧ (decode cX0_forgetOldest 20 = .ok (.invokestatic 26, 3)) := by decide +kernel
theorem dX0_forgetOldest_0 : decode cX0_forgetOldest 0 = .ok (.aload_n 0, 1) := dX0_forgetOldest_0_b.1
theorem dX0_forgetOldest_1 : decode cX0_forgetOldest 1 = .ok (.bipush 23, 2) := dX0_forgetOldest_0_b.2.1
theorem dX0_forgetOldest_3 : decode cX0_forgetOldest 3 = .ok (.putfield 19, 3) := dX0_forgetOldest_0_b.2.2.1
theorem dX0_forgetOldest_6 : decode cX0_forgetOldest 6 = .ok (.aload_n 0, 1) := dX0_forgetOldest_0_b.2.2.2.1
theorem dX0_forgetOldest_7 : decode cX0_forgetOldest 7 = .ok (.getfield 9, 3) := dX0_forgetOldest_0_b.2.2.2.2.1
theorem dX0_forgetOldest_10 : decode cX0_forgetOldest 10 = .ok (.iconst 1, 1) := dX0_forgetOldest_0_b.2.2.2.2.2.1
theorem dX0_forgetOldest_11 : decode cX0_forgetOldest 11 = .ok (.aload_n 0, 1) := dX0_forgetOldest_0_b.2.2.2.2.2.2.1
theorem dX0_forgetOldest_12 : decode cX0_forgetOldest 12 = .ok (.getfield 9, 3) := dX0_forgetOldest_0_b.2.2.2.2.2.2.2.1
theorem dX0_forgetOldest_15 : decode cX0_forgetOldest 15 = .ok (.iconst 0, 1) := dX0_forgetOldest_0_b.2.2.2.2.2.2.2.2.1
theorem dX0_forgetOldest_16 : decode cX0_forgetOldest 16 = .ok (.aload_n 0, 1) := dX0_forgetOldest_0_b.2.2.2.2.2.2.2.2.2.1
theorem dX0_forgetOldest_17 : decode cX0_forgetOldest 17 = .ok (.getfield 19, 3) := dX0_forgetOldest_0_b.2.2.2.2.2.2.2.2.2.2.1
theorem dX0_forgetOldest_20 : decode cX0_forgetOldest 20 = .ok (.invokestatic 26, 3) := dX0_forgetOldest_0_b.2.2.2.2.2.2.2.2.2.2.2
theorem dX0_forgetOldest_23_b : (decode cX0_forgetOldest 23 = .ok (.aload_n 0, 1)) ∧ (decode cX0_forgetOldest 24 = .ok (.getfield 13, 3)) ∧ (decode cX0_forgetOldest 27 = .ok (.iconst 1, 1)) ∧ (decode cX0_forgetOldest 28 = .ok (.aload_n 0, 1)) ∧ (decode cX0_forgetOldest 29 = .ok (.getfield 13, 3)) ∧ (decode cX0_forgetOldest 32 = .ok (.iconst 0, 1)) ∧ (decode cX0_forgetOldest 33 = .ok (.aload_n 0, 1)) ∧ (decode cX0_forgetOldest 34 = .ok (.getfield 19, 3)) ∧ (decode cX0_forgetOldest 37 = .ok (.invokestatic 26, 3)) ∧ (decode cX0_forgetOldest 40 = .ok (.aload_n 0, 1)) ∧ (decode cX0_forgetOldest 41 = .ok (.getfield 16, 3)) ∧ (decode cX0_forgetOldest 44 = .ok (.iconst 1, 1)) := by decide +kernel
theorem dX0_forgetOldest_23 : decode cX0_forgetOldest 23 = .ok (.aload_n 0, 1) := dX0_forgetOldest_23_b.1
theorem dX0_forgetOldest_24 : decode cX0_forgetOldest 24 = .ok (.getfield 13, 3) := dX0_forgetOldest_23_b.2.1
theorem dX0_forgetOldest_27 : decode cX0_forgetOldest 27 = .ok (.iconst 1, 1) := dX0_forgetOldest_23_b.2.2.1
theorem dX0_forgetOldest_28 : decode cX0_forgetOldest 28 = .ok (.aload_n 0, 1) := dX0_forgetOldest_23_b.2.2.2.1
theorem dX0_forgetOldest_29 : decode cX0_forgetOldest 29 = .ok (.getfield 13, 3) := dX0_forgetOldest_23_b.2.2.2.2.1
theorem dX0_forgetOldest_32 : decode cX0_forgetOldest 32 = .ok (.iconst 0, 1) := dX0_forgetOldest_23_b.2.2.2.2.2.1
theorem dX0_forgetOldest_33 : decode cX0_forgetOldest 33 = .ok (.aload_n 0, 1) := dX0_forgetOldest_23_b.2.2.2.2.2.2.1
theorem dX0_forgetOldest_34 : decode cX0_forgetOldest 34 = .ok (.getfield 19, 3) := dX0_forgetOldest_23_b.2.2.2.2.2.2.2.1
theorem dX0_forgetOldest_37 : decode cX0_forgetOldest 37 = .ok (.invokestatic 26, 3) := dX0_forgetOldest_23_b.2.2.2.2.2.2.2.2.1
theorem dX0_forgetOldest_40 : decode cX0_forgetOldest 40 = .ok (.aload_n 0, 1) := dX0_forgetOldest_23_b.2.2.2.2.2.2.2.2.2.1
theorem dX0_forgetOldest_41 : decode cX0_forgetOldest 41 = .ok (.getfield 16, 3) := dX0_forgetOldest_23_b.2.2.2.2.2.2.2.2.2.2.1
theorem dX0_forgetOldest_44 : decode cX0_forgetOldest 44 = .ok (.iconst 1, 1) := dX0_forgetOldest_23_b.2.2.2.2.2.2.2.2.2.2.2
theorem dX0_forgetOldest_45_b : (decode cX0_forgetOldest 45 = .ok (.aload_n 0, 1)) ∧ (decode cX0_forgetOldest 46 = .ok (.getfield 16, 3)) ∧ (decode cX0_forgetOldest 49 = .ok (.iconst 0, 1)) ∧ (decode cX0_forgetOldest 50 = .ok (.aload_n 0, 1)) ∧ (decode cX0_forgetOldest 51 = .ok (.getfield 19, 3)) ∧ (decode cX0_forgetOldest 54 = .ok (.invokestatic 26, 3)) ∧ (decode cX0_forgetOldest 57 = .ok (.return_, 1)) := by decide +kernel
theorem dX0_forgetOldest_45 : decode cX0_forgetOldest 45 = .ok (.aload_n 0, 1) := dX0_forgetOldest_45_b.1
theorem dX0_forgetOldest_46 : decode cX0_forgetOldest 46 = .ok (.getfield 16, 3) := dX0_forgetOldest_45_b.2.1
theorem dX0_forgetOldest_49 : decode cX0_forgetOldest 49 = .ok (.iconst 0, 1) := dX0_forgetOldest_45_b.2.2.1
theorem dX0_forgetOldest_50 : decode cX0_forgetOldest 50 = .ok (.aload_n 0, 1) := dX0_forgetOldest_45_b.2.2.2.1
theorem dX0_forgetOldest_51 : decode cX0_forgetOldest 51 = .ok (.getfield 19, 3) := dX0_forgetOldest_45_b.2.2.2.2.1
theorem dX0_forgetOldest_54 : decode cX0_forgetOldest 54 = .ok (.invokestatic 26, 3) := dX0_forgetOldest_45_b.2.2.2.2.2.1
theorem dX0_forgetOldest_57 : decode cX0_forgetOldest 57 = .ok (.return_, 1) := dX0_forgetOldest_45_b.2.2.2.2.2.2
theorem dX0_takeBackLatest_0_b : (decode cX0_takeBackLatest 0 = .ok (.aload_n 0, 1)) ∧ (decode cX0_takeBackLatest 1 = .ok (.getfield 19, 3)) ∧ (decode cX0_takeBackLatest 4 = .ok (.ifCond .gt 4, 3)) ∧ (decode cX0_takeBackLatest 7 = .ok (.return_, 1)) ∧ (decode cX0_takeBackLatest 8 = .ok (.aload_n 0, 1)) ∧ (decode cX0_takeBackLatest 9 = .ok (.dup, 1)) ∧ (decode cX0_takeBackLatest 10 = .ok (.getfield 19, 3)) ∧ (decode cX0_takeBackLatest 13 = .ok (.iconst 1, 1)) ∧ (decode cX0_takeBackLatest 14 = .ok (.isub, 1)) ∧ (decode cX0_takeBackLatest 15 = .ok (.putfield 19, 3)) ∧ (decode cX0_takeBackLatest 18 = .ok (.aload_n 0, 1)) ∧ (decode cX0_takeBackLatest 19 = .ok (.getfield 16, 3)) := by decide +kernel
theorem dX0_takeBackLatest_0 : decode cX0_takeBackLatest 0 = .ok (.aload_n 0, 1) := dX0_takeBackLatest_0_b.1
theorem dX0_takeBackLatest_1 : decode cX0_takeBackLatest 1 = .ok (.getfield 19, 3) := dX0_takeBackLatest_0_b.2.1
theorem dX0_takeBackLatest_4 : decode cX0_takeBackLatest 4 = .ok (.ifCond .gt 4, 3) := dX0_takeBackLatest_0_b.2.2.1
theorem dX0_takeBackLatest_7 : decode cX0_takeBackLatest 7 = .ok (.return_, 1) := dX0_takeBackLatest_0_b.2.2.2.1
theorem dX0_takeBackLatest_8 : decode cX0_takeBackLatest 8 = .ok (.aload_n 0, 1) := dX0_takeBackLatest_0_b.2.2.2.2.1
theorem dX0_takeBackLatest_9 : decode cX0_takeBackLatest 9 = .ok (.dup, 1) := dX0_takeBackLatest_0_b.2.2.2.2.2.1
theorem dX0_takeBackLatest_10 : decode cX0_takeBackLatest 10 = .ok (.getfield 19, 3) := dX0_takeBackLatest_0_b.2.2.2.2.2.2.1
theorem dX0_takeBackLatest_13 : decode cX0_takeBackLatest 13 = .ok (.iconst 1, 1) := dX0_takeBackLatest_0_b.2.2.2.2.2.2.2.1
theorem dX0_takeBackLatest_14 : decode cX0_takeBackLatest 14 = .ok (.isub, 1) := dX0_takeBackLatest_0_b.2.2.2.2.2.2.2.2.1
theorem dX0_takeBackLatest_15 : decode cX0_takeBackLatest 15 = .ok (.putfield 19, 3) := dX0_takeBackLatest_0_b.2.2.2.2.2.2.2.2.2.1
theorem dX0_takeBackLatest_18 : decode cX0_takeBackLatest 18 = .ok (.aload_n 0, 1) := dX0_takeBackLatest_0_b.2.2.2.2.2.2.2.2.2.2.1
theorem dX0_takeBackLatest_19 : decode cX0_takeBackLatest 19 = .ok (.getfield 16, 3) := dX0_takeBackLatest_0_b.2.2.2.2.2.2.2.2.2.2.2
theorem dX0_takeBackLatest_22_b : (decode cX0_takeBackLatest 22 = .ok (.aload_n 0, 1)) ∧ (decode cX0_takeBackLatest 23 = .ok (.getfield 19, 3)) ∧ (decode cX0_takeBackLatest 26 = .ok (.iaload, 1)) ∧ (decode cX0_takeBackLatest 27 = .ok (.istore_n 2, 1)) ∧ (decode cX0_takeBackLatest 28 = .ok (.aload_n 0, 1)) ∧ (decode cX0_takeBackLatest 29 = .ok (.getfield 9, 3)) ∧ (decode cX0_takeBackLatest 32 = .ok (.aload_n 0, 1)) ∧ (decode cX0_takeBackLatest 33 = .ok (.getfield 19, 3)) ∧ (decode cX0_takeBackLatest 36 = .ok (.iaload, 1)) ∧ (decode cX0_takeBackLatest 37 = .ok (.tableswitch 79 1 3 #[27, 45, 71], 27)) ∧ (decode cX0_takeBackLatest 64 = .ok (.aload_n 1, 1)) ∧ (decode cX0_takeBackLatest 65 = .ok (.getfield 32, 3)) := by decide +kernel
theorem dX0_takeBackLatest_22 : decode cX0_takeBackLatest 22 = .ok (.aload_n 0, 1) := dX0_takeBackLatest_22_b.1
theorem dX0_takeBackLatest_23 : decode cX0_takeBackLatest 23 = .ok (.getfield 19, 3) := dX0_takeBackLatest_22_b.2.1
theorem dX0_takeBackLatest_26 : decode cX0_takeBackLatest 26 = .ok (.iaload, 1) := dX0_takeBackLatest_22_b.2.2.1
theorem dX0_takeBackLatest_27 : decode cX0_takeBackLatest 27 = .ok (.istore_n 2, 1) := dX0_takeBackLatest_22_b.2.2.2.1
theorem dX0_takeBackLatest_28 : decode cX0_takeBackLatest 28 = .ok (.aload_n 0, 1) := dX0_takeBackLatest_22_b.2.2.2.2.1
theorem dX0_takeBackLatest_29 : decode cX0_takeBackLatest 29 = .ok (.getfield 9, 3) := dX0_takeBackLatest_22_b.2.2.2.2.2.1
theorem dX0_takeBackLatest_32 : decode cX0_takeBackLatest 32 = .ok (.aload_n 0, 1) := dX0_takeBackLatest_22_b.2.2.2.2.2.2.1
theorem dX0_takeBackLatest_33 : decode cX0_takeBackLatest 33 = .ok (.getfield 19, 3) := dX0_takeBackLatest_22_b.2.2.2.2.2.2.2.1
theorem dX0_takeBackLatest_36 : decode cX0_takeBackLatest 36 = .ok (.iaload, 1) := dX0_takeBackLatest_22_b.2.2.2.2.2.2.2.2.1
theorem dX0_takeBackLatest_37 : decode cX0_takeBackLatest 37 = .ok (.tableswitch 79 1 3 #[27, 45, 71], 27) := dX0_takeBackLatest_22_b.2.2.2.2.2.2.2.2.2.1
theorem dX0_takeBackLatest_64 : decode cX0_takeBackLatest 64 = .ok (.aload_n 1, 1) := dX0_takeBackLatest_22_b.2.2.2.2.2.2.2.2.2.2.1
theorem dX0_takeBackLatest_65 : decode cX0_takeBackLatest 65 = .ok (.getfield 32, 3) := dX0_takeBackLatest_22_b.2.2.2.2.2.2.2.2.2.2.2
theorem dX0_takeBackLatest_68_b : (decode cX0_takeBackLatest 68 = .ok (.aload_n 0, 1)) ∧ (decode cX0_takeBackLatest 69 = .ok (.getfield 13, 3)) ∧ (decode cX0_takeBackLatest 72 = .ok (.aload_n 0, 1)) ∧ (decode cX0_takeBackLatest 73 = .ok (.getfield 19, 3)) ∧ (decode cX0_takeBackLatest 76 = .ok (.iaload, 1)) ∧ (decode cX0_takeBackLatest 77 = .ok (.iload_n 2, 1)) ∧ (decode cX0_takeBackLatest 78 = .ok (.iastore, 1)) ∧ (decode cX0_takeBackLatest 79 = .ok (.goto 41, 3)) ∧ (decode cX0_takeBackLatest 82 = .ok (.aload_n 1, 1)) ∧ (decode cX0_takeBackLatest 83 = .ok (.aload_n 0, 1)) ∧ (decode cX0_takeBackLatest 84 = .ok (.getfield 13, 3)) ∧ (decode cX0_takeBackLatest 87 = .ok (.aload_n 0, 1)) := by decide +kernel
theorem dX0_takeBackLatest_68 : decode cX0_takeBackLatest 68 = .ok (.aload_n 0, 1) := dX0_takeBackLatest_68_b.1
theorem dX0_takeBackLatest_69 : decode cX0_takeBackLatest 69 = .ok (.getfield 13, 3) := dX0_takeBackLatest_68_b.2.1
theorem dX0_takeBackLatest_72 : decode cX0_takeBackLatest 72 = .ok (.aload_n 0, 1) := dX0_takeBackLatest_68_b.2.2.1
theorem dX0_takeBackLatest_73 : decode cX0_takeBackLatest 73 = .ok (.getfield 19, 3) := dX0_takeBackLatest_68_b.2.2.2.1
theorem dX0_takeBackLatest_76 : decode cX0_takeBackLatest 76 = .ok (.iaload, 1) := dX0_takeBackLatest_68_b.2.2.2.2.1
theorem dX0_takeBackLatest_77 : decode cX0_takeBackLatest 77 = .ok (.iload_n 2, 1) := dX0_takeBackLatest_68_b.2.2.2.2.2.1
theorem dX0_takeBackLatest_78 : decode cX0_takeBackLatest 78 = .ok (.iastore, 1) := dX0_takeBackLatest_68_b.2.2.2.2.2.2.1
theorem dX0_takeBackLatest_79 : decode cX0_takeBackLatest 79 = .ok (.goto 41, 3) := dX0_takeBackLatest_68_b.2.2.2.2.2.2.2.1
theorem dX0_takeBackLatest_82 : decode cX0_takeBackLatest 82 = .ok (.aload_n 1, 1) := dX0_takeBackLatest_68_b.2.2.2.2.2.2.2.2.1
theorem dX0_takeBackLatest_83 : decode cX0_takeBackLatest 83 = .ok (.aload_n 0, 1) := dX0_takeBackLatest_68_b.2.2.2.2.2.2.2.2.2.1
theorem dX0_takeBackLatest_84 : decode cX0_takeBackLatest 84 = .ok (.getfield 13, 3) := dX0_takeBackLatest_68_b.2.2.2.2.2.2.2.2.2.2.1
theorem dX0_takeBackLatest_87 : decode cX0_takeBackLatest 87 = .ok (.aload_n 0, 1) := dX0_takeBackLatest_68_b.2.2.2.2.2.2.2.2.2.2.2
theorem dX0_takeBackLatest_88_b : (decode cX0_takeBackLatest 88 = .ok (.getfield 19, 3)) ∧ (decode cX0_takeBackLatest 91 = .ok (.iaload, 1)) ∧ (decode cX0_takeBackLatest 92 = .ok (.iload_n 2, 1)) ∧ (decode cX0_takeBackLatest 93 = .ok (.iconst 1, 1)) ∧ (decode cX0_takeBackLatest 94 = .ok (.if_icmp .ne 7, 3)) ∧ (decode cX0_takeBackLatest 97 = .ok (.iconst 1, 1)) ∧ (decode cX0_takeBackLatest 98 = .ok (.goto 4, 3)) ∧ (decode cX0_takeBackLatest 101 = .ok (.iconst 0, 1)) ∧ (decode cX0_takeBackLatest 102 = .ok (.invokevirtual 37, 3)) ∧ (decode cX0_takeBackLatest 105 = .ok (.goto 15, 3)) ∧ (decode cX0_takeBackLatest 108 = .ok (.aload_n 1, 1)) ∧ (decode cX0_takeBackLatest 109 = .ok (.iload_n 2, 1)) := by decide +kernel
theorem dX0_takeBackLatest_88 : decode cX0_takeBackLatest 88 = .ok (.getfield 19, 3) := dX0_takeBackLatest_88_b.1
theorem dX0_takeBackLatest_91 : decode cX0_takeBackLatest 91 = .ok (.iaload, 1) := dX0_takeBackLatest_88_b.2.1
theorem dX0_takeBackLatest_92 : decode cX0_takeBackLatest 92 = .ok (.iload_n 2, 1) := dX0_takeBackLatest_88_b.2.2.1
theorem dX0_takeBackLatest_93 : decode cX0_takeBackLatest 93 = .ok (.iconst 1, 1) := dX0_takeBackLatest_88_b.2.2.2.1
theorem dX0_takeBackLatest_94 : decode cX0_takeBackLatest 94 = .ok (.if_icmp .ne 7, 3) := dX0_takeBackLatest_88_b.2.2.2.2.1
theorem dX0_takeBackLatest_97 : decode cX0_takeBackLatest 97 = .ok (.iconst 1, 1) := dX0_takeBackLatest_88_b.2.2.2.2.2.1
theorem dX0_takeBackLatest_98 : decode cX0_takeBackLatest 98 = .ok (.goto 4, 3) := dX0_takeBackLatest_88_b.2.2.2.2.2.2.1
theorem dX0_takeBackLatest_101 : decode cX0_takeBackLatest 101 = .ok (.iconst 0, 1) := dX0_takeBackLatest_88_b.2.2.2.2.2.2.2.1
theorem dX0_takeBackLatest_102 : decode cX0_takeBackLatest 102 = .ok (.invokevirtual 37, 3) := dX0_takeBackLatest_88_b.2.2.2.2.2.2.2.2.1
theorem dX0_takeBackLatest_105 : decode cX0_takeBackLatest 105 = .ok (.goto 15, 3) := dX0_takeBackLatest_88_b.2.2.2.2.2.2.2.2.2.1
theorem dX0_takeBackLatest_108 : decode cX0_takeBackLatest 108 = .ok (.aload_n 1, 1) := dX0_takeBackLatest_88_b.2.2.2.2.2.2.2.2.2.2.1
theorem dX0_takeBackLatest_109 : decode cX0_takeBackLatest 109 = .ok (.iload_n 2, 1) := dX0_takeBackLatest_88_b.2.2.2.2.2.2.2.2.2.2.2
theorem dX0_takeBackLatest_110_b : (decode cX0_takeBackLatest 110 = .ok (.putfield 41, 3)) ∧ (decode cX0_takeBackLatest 113 = .ok (.goto 7, 3)) ∧ (decode cX0_takeBackLatest 116 = .ok (.aload_n 1, 1)) ∧ (decode cX0_takeBackLatest 117 = .ok (.invokevirtual 44, 3)) ∧ (decode cX0_takeBackLatest 120 = .ok (.return_, 1)) := by decide +kernel
theorem dX0_takeBackLatest_110 : decode cX0_takeBackLatest 110 = .ok (.putfield 41, 3) := dX0_takeBackLatest_110_b.1
theorem dX0_takeBackLatest_113 : decode cX0_takeBackLatest 113 = .ok (.goto 7, 3) := dX0_takeBackLatest_110_b.2.1
theorem dX0_takeBackLatest_116 : decode cX0_takeBackLatest 116 = .ok (.aload_n 1, 1) := dX0_takeBackLatest_110_b.2.2.1
theorem dX0_takeBackLatest_117 : decode cX0_takeBackLatest 117 = .ok (.invokevirtual 44, 3) := dX0_takeBackLatest_110_b.2.2.2.1
theorem dX0_takeBackLatest_120 : decode cX0_takeBackLatest 120 = .ok (.return_, 1) := dX0_takeBackLatest_110_b.2.2.2.2
theorem dX1_init_0_b : (decode cX1_init 0 = .ok (.aload_n 0, 1)) ∧ (decode cX1_init 1 = .ok (.invokespecial 1, 3)) ∧ (decode cX1_init 4 = .ok (.aload_n 0, 1)) ∧ (decode cX1_init 5 = .ok (.bipush 16, 2)) ∧ (decode cX1_init 7 = .ok (.newarray .int, 2)) ∧ (decode cX1_init 9 = .ok (.putfield 9, 3)) ∧ (decode cX1_init 12 = .ok (.aload_n 0, 1)) ∧ (decode cX1_init 13 = .ok (.iconst 0, 1)) ∧ (decode cX1_init 14 = .ok (.putfield 13, 3)) ∧ (decode cX1_init 17 = .ok (.aload_n 0, 1)) ∧ (decode cX1_init 18 = .ok (.iconst 0, 1)) ∧ (decode cX1_init 19 = .ok (.putfield 17, 3)) := by decide +kernel
theorem dX1_init_0 : decode cX1_init 0 = .ok (.aload_n 0, 1) := dX1_init_0_b.1
theorem dX1_init_1 : decode cX1_init 1 = .ok (.invokespecial 1, 3) := dX1_init_0_b.2.1
theorem dX1_init_4 : decode cX1_init 4 = .ok (.aload_n 0, 1) := dX1_init_0_b.2.2.1
theorem dX1_init_5 : decode cX1_init 5 = .ok (.bipush 16, 2) := dX1_init_0_b.2.2.2.1
theorem dX1_init_7 : decode cX1_init 7 = .ok (.newarray .int, 2) := dX1_init_0_b.2.2.2.2.1
theorem dX1_init_9 : decode cX1_init 9 = .ok (.putfield 9, 3) := dX1_init_0_b.2.2.2.2.2.1
theorem dX1_init_12 : decode cX1_init 12 = .ok (.aload_n 0, 1) := dX1_init_0_b.2.2.2.2.2.2.1
theorem dX1_init_13 : decode cX1_init 13 = .ok (.iconst 0, 1) := dX1_init_0_b.2.2.2.2.2.2.2.1
theorem dX1_init_14 : decode cX1_init 14 = .ok (.putfield 13, 3) := dX1_init_0_b.2.2.2.2.2.2.2.2.1
theorem dX1_init_17 : decode cX1_init 17 = .ok (.aload_n 0, 1) := dX1_init_0_b.2.2.2.2.2.2.2.2.2.1
theorem dX1_init_18 : decode cX1_init 18 = .ok (.iconst 0, 1) := dX1_init_0_b.2.2.2.2.2.2.2.2.2.2.1
theorem dX1_init_19 : decode cX1_init 19 = .ok (.putfield 17, 3) := dX1_init_0_b.2.2.2.2.2.2.2.2.2.2.2
theorem dX1_init_22_b : (decode cX1_init 22 = .ok (.aload_n 0, 1)) ∧ (decode cX1_init 23 = .ok (.iconst 0, 1)) ∧ (decode cX1_init 24 = .ok (.putfield 20, 3)) ∧ (decode cX1_init 27 = .ok (.aload_n 0, 1)) ∧ (decode cX1_init 28 = .ok (.iconst 0, 1)) ∧ (decode cX1_init 29 = .ok (.putfield 23, 3)) ∧ (decode cX1_init 32 = .ok (.aload_n 0, 1)) ∧ (decode cX1_init 33 = .ok (.iconst 0, 1)) ∧ (decode cX1_init 34 = .ok (.putfield 26, 3)) ∧ (decode cX1_init 37 = .ok (.return_, 1)) := by decide +kernel
theorem dX1_init_22 : decode cX1_init 22 = .ok (.aload_n 0, 1) := dX1_init_22_b.1
theorem dX1_init_23 : decode cX1_init 23 = .ok (.iconst 0, 1) := dX1_init_22_b.2.1
theorem dX1_init_24 : decode cX1_init 24 = .ok (.putfield 20, 3) := dX1_init_22_b.2.2.1
theorem dX1_init_27 : decode cX1_init 27 = .ok (.aload_n 0, 1) := dX1_init_22_b.2.2.2.1
theorem dX1_init_28 : decode cX1_init 28 = .ok (.iconst 0, 1) := dX1_init_22_b.2.2.2.2.1
theorem dX1_init_29 : decode cX1_init 29 = .ok (.putfield 23, 3) := dX1_init_22_b.2.2.2.2.2.1
theorem dX1_init_32 : decode cX1_init 32 = .ok (.aload_n 0, 1) := dX1_init_22_b.2.2.2.2.2.2.1
theorem dX1_init_33 : decode cX1_init 33 = .ok (.iconst 0, 1) := dX1_init_22_b.2.2.2.2.2.2.2.1
theorem dX1_init_34 : decode cX1_init 34 = .ok (.putfield 26, 3) := dX1_init_22_b.2.2.2.2.2.2.2.2.1
theorem dX1_init_37 : decode cX1_init 37 = .ok (.return_, 1) := dX1_init_22_b.2.2.2.2.2.2.2.2.2
theorem dX1_answer_0_b : (decode cX1_answer 0 = .ok (.aload_n 0, 1)) ∧ (decode cX1_answer 1 = .ok (.iconst 0, 1)) ∧ (decode cX1_answer 2 = .ok (.putfield 13, 3)) ∧ (decode cX1_answer 5 = .ok (.aload_n 0, 1)) ∧ (decode cX1_answer 6 = .ok (.iload_n 2, 1)) ∧ (decode cX1_answer 7 = .ok (.putfield 17, 3)) ∧ (decode cX1_answer 10 = .ok (.aload_n 0, 1)) ∧ (decode cX1_answer 11 = .ok (.aload_n 1, 1)) ∧ (decode cX1_answer 12 = .ok (.getfield 29, 3)) ∧ (decode cX1_answer 15 = .ok (.iload_n 2, 1)) ∧ (decode cX1_answer 16 = .ok (.iaload, 1)) ∧ (decode cX1_answer 17 = .ok (.putfield 20, 3)) := by decide +kernel
theorem dX1_answer_0 : decode cX1_answer 0 = .ok (.aload_n 0, 1) := dX1_answer_0_b.1
theorem dX1_answer_1 : decode cX1_answer 1 = .ok (.iconst 0, 1) := dX1_answer_0_b.2.1
theorem dX1_answer_2 : decode cX1_answer 2 = .ok (.putfield 13, 3) := dX1_answer_0_b.2.2.1
theorem dX1_answer_5 : decode cX1_answer 5 = .ok (.aload_n 0, 1) := dX1_answer_0_b.2.2.2.1
theorem dX1_answer_6 : decode cX1_answer 6 = .ok (.iload_n 2, 1) := dX1_answer_0_b.2.2.2.2.1
theorem dX1_answer_7 : decode cX1_answer 7 = .ok (.putfield 17, 3) := dX1_answer_0_b.2.2.2.2.2.1
theorem dX1_answer_10 : decode cX1_answer 10 = .ok (.aload_n 0, 1) := dX1_answer_0_b.2.2.2.2.2.2.1
theorem dX1_answer_11 : decode cX1_answer 11 = .ok (.aload_n 1, 1) := dX1_answer_0_b.2.2.2.2.2.2.2.1
theorem dX1_answer_12 : decode cX1_answer 12 = .ok (.getfield 29, 3) := dX1_answer_0_b.2.2.2.2.2.2.2.2.1
theorem dX1_answer_15 : decode cX1_answer 15 = .ok (.iload_n 2, 1) := dX1_answer_0_b.2.2.2.2.2.2.2.2.2.1
theorem dX1_answer_16 : decode cX1_answer 16 = .ok (.iaload, 1) := dX1_answer_0_b.2.2.2.2.2.2.2.2.2.2.1
theorem dX1_answer_17 : decode cX1_answer 17 = .ok (.putfield 20, 3) := dX1_answer_0_b.2.2.2.2.2.2.2.2.2.2.2
theorem dX1_answer_20_b : (decode cX1_answer 20 = .ok (.aload_n 0, 1)) ∧ (decode cX1_answer 21 = .ok (.aload_n 1, 1)) ∧ (decode cX1_answer 22 = .ok (.getfield 34, 3)) ∧ (decode cX1_answer 25 = .ok (.iload_n 2, 1)) ∧ (decode cX1_answer 26 = .ok (.iaload, 1)) ∧ (decode cX1_answer 27 = .ok (.putfield 23, 3)) ∧ (decode cX1_answer 30 = .ok (.aload_n 0, 1)) ∧ (decode cX1_answer 31 = .ok (.aload_n 1, 1)) ∧ (decode cX1_answer 32 = .ok (.getfield 37, 3)) ∧ (decode cX1_answer 35 = .ok (.iload_n 2, 1)) ∧ (decode cX1_answer 36 = .ok (.iaload, 1)) ∧ (decode cX1_answer 37 = .ok (.putfield 26, 3)) := by decide +kernel
theorem dX1_answer_20 : decode cX1_answer 20 = .ok (.aload_n 0, 1) := dX1_answer_20_b.1
theorem dX1_answer_21 : decode cX1_answer 21 = .ok (.aload_n 1, 1) := dX1_answer_20_b.2.1
theorem dX1_answer_22 : decode cX1_answer 22 = .ok (.getfield 34, 3) := dX1_answer_20_b.2.2.1
theorem dX1_answer_25 : decode cX1_answer 25 = .ok (.iload_n 2, 1) := dX1_answer_20_b.2.2.2.1
theorem dX1_answer_26 : decode cX1_answer 26 = .ok (.iaload, 1) := dX1_answer_20_b.2.2.2.2.1
theorem dX1_answer_27 : decode cX1_answer 27 = .ok (.putfield 23, 3) := dX1_answer_20_b.2.2.2.2.2.1
theorem dX1_answer_30 : decode cX1_answer 30 = .ok (.aload_n 0, 1) := dX1_answer_20_b.2.2.2.2.2.2.1
theorem dX1_answer_31 : decode cX1_answer 31 = .ok (.aload_n 1, 1) := dX1_answer_20_b.2.2.2.2.2.2.2.1
theorem dX1_answer_32 : decode cX1_answer 32 = .ok (.getfield 37, 3) := dX1_answer_20_b.2.2.2.2.2.2.2.2.1
theorem dX1_answer_35 : decode cX1_answer 35 = .ok (.iload_n 2, 1) := dX1_answer_20_b.2.2.2.2.2.2.2.2.2.1
theorem dX1_answer_36 : decode cX1_answer 36 = .ok (.iaload, 1) := dX1_answer_20_b.2.2.2.2.2.2.2.2.2.2.1
theorem dX1_answer_37 : decode cX1_answer 37 = .ok (.putfield 26, 3) := dX1_answer_20_b.2.2.2.2.2.2.2.2.2.2.2
theorem dX1_answer_40_b : (decode cX1_answer 40 = .ok (.aload_n 0, 1)) ∧ (decode cX1_answer 41 = .ok (.iload_n 3, 1)) ∧ (decode cX1_answer 42 = .ok (.iconst 0, 1)) ∧ (decode cX1_answer 43 = .ok (.invokevirtual 40, 3)) ∧ (decode cX1_answer 46 = .ok (.ireturn, 1)) := by decide +kernel
theorem dX1_answer_40 : decode cX1_answer 40 = .ok (.aload_n 0, 1) := dX1_answer_40_b.1
theorem dX1_answer_41 : decode cX1_answer 41 = .ok (.iload_n 3, 1) := dX1_answer_40_b.2.1
theorem dX1_answer_42 : decode cX1_answer 42 = .ok (.iconst 0, 1) := dX1_answer_40_b.2.2.1
theorem dX1_answer_43 : decode cX1_answer 43 = .ok (.invokevirtual 40, 3) := dX1_answer_40_b.2.2.2.1
theorem dX1_answer_46 : decode cX1_answer 46 = .ok (.ireturn, 1) := dX1_answer_40_b.2.2.2.2
theorem dX1_begin_0_b : (decode cX1_begin 0 = .ok (.aload_n 0, 1)) ∧ (decode cX1_begin 1 = .ok (.getfield 20, 3)) ∧ (decode cX1_begin 4 = .ok (.iload_n 1, 1)) ∧ (decode cX1_begin 5 = .ok (.invokestatic 44, 3)) ∧ (decode cX1_begin 8 = .ok (.istore_n 3, 1)) ∧ (decode cX1_begin 9 = .ok (.iload_n 3, 1)) ∧ (decode cX1_begin 10 = .ok (.ifCond .ne 15, 3)) ∧ (decode cX1_begin 13 = .ok (.aload_n 0, 1)) ∧ (decode cX1_begin 14 = .ok (.getfield 20, 3)) ∧ (decode cX1_begin 17 = .ok (.invokestatic 47, 3)) ∧ (decode cX1_begin 20 = .ok (.iload_n 1, 1)) ∧ (decode cX1_begin 21 = .ok (.invokestatic 44, 3)) := by decide +kernel
theorem dX1_begin_0 : decode cX1_begin 0 = .ok (.aload_n 0, 1) := dX1_begin_0_b.1
theorem dX1_begin_1 : decode cX1_begin 1 = .ok (.getfield 20, 3) := dX1_begin_0_b.2.1
theorem dX1_begin_4 : decode cX1_begin 4 = .ok (.iload_n 1, 1) := dX1_begin_0_b.2.2.1
theorem dX1_begin_5 : decode cX1_begin 5 = .ok (.invokestatic 44, 3) := dX1_begin_0_b.2.2.2.1
theorem dX1_begin_8 : decode cX1_begin 8 = .ok (.istore_n 3, 1) := dX1_begin_0_b.2.2.2.2.1
theorem dX1_begin_9 : decode cX1_begin 9 = .ok (.iload_n 3, 1) := dX1_begin_0_b.2.2.2.2.2.1
theorem dX1_begin_10 : decode cX1_begin 10 = .ok (.ifCond .ne 15, 3) := dX1_begin_0_b.2.2.2.2.2.2.1
theorem dX1_begin_13 : decode cX1_begin 13 = .ok (.aload_n 0, 1) := dX1_begin_0_b.2.2.2.2.2.2.2.1
theorem dX1_begin_14 : decode cX1_begin 14 = .ok (.getfield 20, 3) := dX1_begin_0_b.2.2.2.2.2.2.2.2.1
theorem dX1_begin_17 : decode cX1_begin 17 = .ok (.invokestatic 47, 3) := dX1_begin_0_b.2.2.2.2.2.2.2.2.2.1
theorem dX1_begin_20 : decode cX1_begin 20 = .ok (.iload_n 1, 1) := dX1_begin_0_b.2.2.2.2.2.2.2.2.2.2.1
theorem dX1_begin_21 : decode cX1_begin 21 = .ok (.invokestatic 44, 3) := dX1_begin_0_b.2.2.2.2.2.2.2.2.2.2.2
theorem dX1_begin_24_b : (decode cX1_begin 24 = .ok (.istore_n 3, 1)) ∧ (decode cX1_begin 25 = .ok (.aload_n 0, 1)) ∧ (decode cX1_begin 26 = .ok (.iload_n 3, 1)) ∧ (decode cX1_begin 27 = .ok (.iload_n 2, 1)) ∧ (decode cX1_begin 28 = .ok (.invokevirtual 53, 3)) ∧ (decode cX1_begin 31 = .ok (.ireturn, 1)) := by decide +kernel
theorem dX1_begin_24 : decode cX1_begin 24 = .ok (.istore_n 3, 1) := dX1_begin_24_b.1
theorem dX1_begin_25 : decode cX1_begin 25 = .ok (.aload_n 0, 1) := dX1_begin_24_b.2.1
theorem dX1_begin_26 : decode cX1_begin 26 = .ok (.iload_n 3, 1) := dX1_begin_24_b.2.2.1
theorem dX1_begin_27 : decode cX1_begin 27 = .ok (.iload_n 2, 1) := dX1_begin_24_b.2.2.2.1
theorem dX1_begin_28 : decode cX1_begin 28 = .ok (.invokevirtual 53, 3) := dX1_begin_24_b.2.2.2.2.1
theorem dX1_begin_31 : decode cX1_begin 31 = .ok (.ireturn, 1) := dX1_begin_24_b.2.2.2.2.2
theorem dX1_bodyFor_0_b : (decode cX1_bodyFor 0 = .ok (.iload_n 0, 1)) ∧ (decode cX1_bodyFor 1 = .ok (.invokestatic 56, 3)) ∧ (decode cX1_bodyFor 4 = .ok (.ifCond .ne 5, 3)) ∧ (decode cX1_bodyFor 7 = .ok (.iconst 0, 1)) ∧ (decode cX1_bodyFor 8 = .ok (.ireturn, 1)) ∧ (decode cX1_bodyFor 9 = .ok (.iload_n 1, 1)) ∧ (decode cX1_bodyFor 10 = .ok (.ifCond .ne 11, 3)) ∧ (decode cX1_bodyFor 13 = .ok (.getstatic 60, 3)) ∧ (decode cX1_bodyFor 16 = .ok (.iload_n 0, 1)) ∧ (decode cX1_bodyFor 17 = .ok (.iaload, 1)) ∧ (decode cX1_bodyFor 18 = .ok (.goto 8, 3)) ∧ (decode cX1_bodyFor 21 = .ok (.getstatic 63, 3)) := by decide +kernel
theorem dX1_bodyFor_0 : decode cX1_bodyFor 0 = .ok (.iload_n 0, 1) := dX1_bodyFor_0_b.1
theorem dX1_bodyFor_1 : decode cX1_bodyFor 1 = .ok (.invokestatic 56, 3) := dX1_bodyFor_0_b.2.1
theorem dX1_bodyFor_4 : decode cX1_bodyFor 4 = .ok (.ifCond .ne 5, 3) := dX1_bodyFor_0_b.2.2.1
theorem dX1_bodyFor_7 : decode cX1_bodyFor 7 = .ok (.iconst 0, 1) := dX1_bodyFor_0_b.2.2.2.1
theorem dX1_bodyFor_8 : decode cX1_bodyFor 8 = .ok (.ireturn, 1) := dX1_bodyFor_0_b.2.2.2.2.1
theorem dX1_bodyFor_9 : decode cX1_bodyFor 9 = .ok (.iload_n 1, 1) := dX1_bodyFor_0_b.2.2.2.2.2.1
theorem dX1_bodyFor_10 : decode cX1_bodyFor 10 = .ok (.ifCond .ne 11, 3) := dX1_bodyFor_0_b.2.2.2.2.2.2.1
theorem dX1_bodyFor_13 : decode cX1_bodyFor 13 = .ok (.getstatic 60, 3) := dX1_bodyFor_0_b.2.2.2.2.2.2.2.1
theorem dX1_bodyFor_16 : decode cX1_bodyFor 16 = .ok (.iload_n 0, 1) := dX1_bodyFor_0_b.2.2.2.2.2.2.2.2.1
theorem dX1_bodyFor_17 : decode cX1_bodyFor 17 = .ok (.iaload, 1) := dX1_bodyFor_0_b.2.2.2.2.2.2.2.2.2.1
theorem dX1_bodyFor_18 : decode cX1_bodyFor 18 = .ok (.goto 8, 3) := dX1_bodyFor_0_b.2.2.2.2.2.2.2.2.2.2.1
theorem dX1_bodyFor_21 : decode cX1_bodyFor 21 = .ok (.getstatic 63, 3) := dX1_bodyFor_0_b.2.2.2.2.2.2.2.2.2.2.2
theorem dX1_bodyFor_24_b : (decode cX1_bodyFor 24 = .ok (.iload_n 0, 1)) ∧ (decode cX1_bodyFor 25 = .ok (.iaload, 1)) ∧ (decode cX1_bodyFor 26 = .ok (.ireturn, 1)) := by decide +kernel
theorem dX1_bodyFor_24 : decode cX1_bodyFor 24 = .ok (.iload_n 0, 1) := dX1_bodyFor_24_b.1
theorem dX1_bodyFor_25 : decode cX1_bodyFor 25 = .ok (.iaload, 1) := dX1_bodyFor_24_b.2.1
theorem dX1_bodyFor_26 : decode cX1_bodyFor 26 = .ok (.ireturn, 1) := dX1_bodyFor_24_b.2.2
theorem dX1_run_0_b : (decode cX1_run 0 = .ok (.iload_n 2, 1)) ∧ (decode cX1_run 1 = .ok (.bipush 16, 2)) ∧ (decode cX1_run 3 = .ok (.if_icmp .lt 5, 3)) ∧ (decode cX1_run 6 = .ok (.iconst 0, 1)) ∧ (decode cX1_run 7 = .ok (.ireturn, 1)) ∧ (decode cX1_run 8 = .ok (.aload_n 0, 1)) ∧ (decode cX1_run 9 = .ok (.iload_n 1, 1)) ∧ (decode cX1_run 10 = .ok (.invokevirtual 66, 3)) ∧ (decode cX1_run 13 = .ok (.iload_n 2, 1)) ∧ (decode cX1_run 14 = .ok (.iconst 1, 1)) ∧ (decode cX1_run 15 = .ok (.iadd, 1)) ∧ (decode cX1_run 16 = .ok (.istore_n 3, 1)) := by decide +kernel
theorem dX1_run_0 : decode cX1_run 0 = .ok (.iload_n 2, 1) := dX1_run_0_b.1
theorem dX1_run_1 : decode cX1_run 1 = .ok (.bipush 16, 2) := dX1_run_0_b.2.1
theorem dX1_run_3 : decode cX1_run 3 = .ok (.if_icmp .lt 5, 3) := dX1_run_0_b.2.2.1
theorem dX1_run_6 : decode cX1_run 6 = .ok (.iconst 0, 1) := dX1_run_0_b.2.2.2.1
theorem dX1_run_7 : decode cX1_run 7 = .ok (.ireturn, 1) := dX1_run_0_b.2.2.2.2.1
theorem dX1_run_8 : decode cX1_run 8 = .ok (.aload_n 0, 1) := dX1_run_0_b.2.2.2.2.2.1
theorem dX1_run_9 : decode cX1_run 9 = .ok (.iload_n 1, 1) := dX1_run_0_b.2.2.2.2.2.2.1
theorem dX1_run_10 : decode cX1_run 10 = .ok (.invokevirtual 66, 3) := dX1_run_0_b.2.2.2.2.2.2.2.1
theorem dX1_run_13 : decode cX1_run 13 = .ok (.iload_n 2, 1) := dX1_run_0_b.2.2.2.2.2.2.2.2.1
theorem dX1_run_14 : decode cX1_run 14 = .ok (.iconst 1, 1) := dX1_run_0_b.2.2.2.2.2.2.2.2.2.1
theorem dX1_run_15 : decode cX1_run 15 = .ok (.iadd, 1) := dX1_run_0_b.2.2.2.2.2.2.2.2.2.2.1
theorem dX1_run_16 : decode cX1_run 16 = .ok (.istore_n 3, 1) := dX1_run_0_b.2.2.2.2.2.2.2.2.2.2.2
theorem dX1_run_17_b : (decode cX1_run 17 = .ok (.iload_n 1, 1)) ∧ (decode cX1_run 18 = .ok (.tableswitch 179 10 24 #[74, 79, 94, 103, 114, 179, 179, 179, 179, 179, 124, 129, 142, 154, 169], 74)) ∧ (decode cX1_run 92 = .ok (.aload_n 0, 1)) ∧ (decode cX1_run 93 = .ok (.getfield 23, 3)) ∧ (decode cX1_run 96 = .ok (.ireturn, 1)) ∧ (decode cX1_run 97 = .ok (.aload_n 0, 1)) ∧ (decode cX1_run 98 = .ok (.bipush 10, 2)) ∧ (decode cX1_run 100 = .ok (.iload_n 3, 1)) ∧ (decode cX1_run 101 = .ok (.invokevirtual 53, 3)) ∧ (decode cX1_run 104 = .ok (.aload_n 0, 1)) ∧ (decode cX1_run 105 = .ok (.iconst 1, 1)) ∧ (decode cX1_run 106 = .ok (.iload_n 3, 1)) := by decide +kernel
theorem dX1_run_17 : decode cX1_run 17 = .ok (.iload_n 1, 1) := dX1_run_17_b.1
theorem dX1_run_18 : decode cX1_run 18 = .ok (.tableswitch 179 10 24 #[74, 79, 94, 103, 114, 179, 179, 179, 179, 179, 124, 129, 142, 154, 169], 74) := dX1_run_17_b.2.1
theorem dX1_run_92 : decode cX1_run 92 = .ok (.aload_n 0, 1) := dX1_run_17_b.2.2.1
theorem dX1_run_93 : decode cX1_run 93 = .ok (.getfield 23, 3) := dX1_run_17_b.2.2.2.1
theorem dX1_run_96 : decode cX1_run 96 = .ok (.ireturn, 1) := dX1_run_17_b.2.2.2.2.1
theorem dX1_run_97 : decode cX1_run 97 = .ok (.aload_n 0, 1) := dX1_run_17_b.2.2.2.2.2.1
theorem dX1_run_98 : decode cX1_run 98 = .ok (.bipush 10, 2) := dX1_run_17_b.2.2.2.2.2.2.1
theorem dX1_run_100 : decode cX1_run 100 = .ok (.iload_n 3, 1) := dX1_run_17_b.2.2.2.2.2.2.2.1
theorem dX1_run_101 : decode cX1_run 101 = .ok (.invokevirtual 53, 3) := dX1_run_17_b.2.2.2.2.2.2.2.2.1
theorem dX1_run_104 : decode cX1_run 104 = .ok (.aload_n 0, 1) := dX1_run_17_b.2.2.2.2.2.2.2.2.2.1
theorem dX1_run_105 : decode cX1_run 105 = .ok (.iconst 1, 1) := dX1_run_17_b.2.2.2.2.2.2.2.2.2.2.1
theorem dX1_run_106 : decode cX1_run 106 = .ok (.iload_n 3, 1) := dX1_run_17_b.2.2.2.2.2.2.2.2.2.2.2
theorem dX1_run_107_b : (decode cX1_run 107 = .ok (.invokevirtual 40, 3)) ∧ (decode cX1_run 110 = .ok (.iadd, 1)) ∧ (decode cX1_run 111 = .ok (.ireturn, 1)) ∧ (decode cX1_run 112 = .ok (.aload_n 0, 1)) ∧ (decode cX1_run 113 = .ok (.bipush 11, 2)) ∧ (decode cX1_run 115 = .ok (.iload_n 3, 1)) ∧ (decode cX1_run 116 = .ok (.invokevirtual 53, 3)) ∧ (decode cX1_run 119 = .ok (.ineg, 1)) ∧ (decode cX1_run 120 = .ok (.ireturn, 1)) ∧ (decode cX1_run 121 = .ok (.aload_n 0, 1)) ∧ (decode cX1_run 122 = .ok (.bipush 10, 2)) ∧ (decode cX1_run 124 = .ok (.iload_n 3, 1)) := by decide +kernel
theorem dX1_run_107 : decode cX1_run 107 = .ok (.invokevirtual 40, 3) := dX1_run_107_b.1
theorem dX1_run_110 : decode cX1_run 110 = .ok (.iadd, 1) := dX1_run_107_b.2.1
theorem dX1_run_111 : decode cX1_run 111 = .ok (.ireturn, 1) := dX1_run_107_b.2.2.1
theorem dX1_run_112 : decode cX1_run 112 = .ok (.aload_n 0, 1) := dX1_run_107_b.2.2.2.1
theorem dX1_run_113 : decode cX1_run 113 = .ok (.bipush 11, 2) := dX1_run_107_b.2.2.2.2.1
theorem dX1_run_115 : decode cX1_run 115 = .ok (.iload_n 3, 1) := dX1_run_107_b.2.2.2.2.2.1
theorem dX1_run_116 : decode cX1_run 116 = .ok (.invokevirtual 53, 3) := dX1_run_107_b.2.2.2.2.2.2.1
theorem dX1_run_119 : decode cX1_run 119 = .ok (.ineg, 1) := dX1_run_107_b.2.2.2.2.2.2.2.1
theorem dX1_run_120 : decode cX1_run 120 = .ok (.ireturn, 1) := dX1_run_107_b.2.2.2.2.2.2.2.2.1
theorem dX1_run_121 : decode cX1_run 121 = .ok (.aload_n 0, 1) := dX1_run_107_b.2.2.2.2.2.2.2.2.2.1
theorem dX1_run_122 : decode cX1_run 122 = .ok (.bipush 10, 2) := dX1_run_107_b.2.2.2.2.2.2.2.2.2.2.1
theorem dX1_run_124 : decode cX1_run 124 = .ok (.iload_n 3, 1) := dX1_run_107_b.2.2.2.2.2.2.2.2.2.2.2
theorem dX1_run_125_b : (decode cX1_run 125 = .ok (.invokevirtual 53, 3)) ∧ (decode cX1_run 128 = .ok (.bipush 100, 2)) ∧ (decode cX1_run 130 = .ok (.isub, 1)) ∧ (decode cX1_run 131 = .ok (.ireturn, 1)) ∧ (decode cX1_run 132 = .ok (.iconst 2, 1)) ∧ (decode cX1_run 133 = .ok (.aload_n 0, 1)) ∧ (decode cX1_run 134 = .ok (.bipush 13, 2)) ∧ (decode cX1_run 136 = .ok (.iload_n 3, 1)) ∧ (decode cX1_run 137 = .ok (.invokevirtual 53, 3)) ∧ (decode cX1_run 140 = .ok (.imul, 1)) ∧ (decode cX1_run 141 = .ok (.ireturn, 1)) ∧ (decode cX1_run 142 = .ok (.aload_n 0, 1)) := by decide +kernel
theorem dX1_run_125 : decode cX1_run 125 = .ok (.invokevirtual 53, 3) := dX1_run_125_b.1
theorem dX1_run_128 : decode cX1_run 128 = .ok (.bipush 100, 2) := dX1_run_125_b.2.1
theorem dX1_run_130 : decode cX1_run 130 = .ok (.isub, 1) := dX1_run_125_b.2.2.1
theorem dX1_run_131 : decode cX1_run 131 = .ok (.ireturn, 1) := dX1_run_125_b.2.2.2.1
theorem dX1_run_132 : decode cX1_run 132 = .ok (.iconst 2, 1) := dX1_run_125_b.2.2.2.2.1
theorem dX1_run_133 : decode cX1_run 133 = .ok (.aload_n 0, 1) := dX1_run_125_b.2.2.2.2.2.1
theorem dX1_run_134 : decode cX1_run 134 = .ok (.bipush 13, 2) := dX1_run_125_b.2.2.2.2.2.2.1
theorem dX1_run_136 : decode cX1_run 136 = .ok (.iload_n 3, 1) := dX1_run_125_b.2.2.2.2.2.2.2.1
theorem dX1_run_137 : decode cX1_run 137 = .ok (.invokevirtual 53, 3) := dX1_run_125_b.2.2.2.2.2.2.2.2.1
theorem dX1_run_140 : decode cX1_run 140 = .ok (.imul, 1) := dX1_run_125_b.2.2.2.2.2.2.2.2.2.1
theorem dX1_run_141 : decode cX1_run 141 = .ok (.ireturn, 1) := dX1_run_125_b.2.2.2.2.2.2.2.2.2.2.1
theorem dX1_run_142 : decode cX1_run 142 = .ok (.aload_n 0, 1) := dX1_run_125_b.2.2.2.2.2.2.2.2.2.2.2
theorem dX1_run_143_b : (decode cX1_run 143 = .ok (.getfield 17, 3)) ∧ (decode cX1_run 146 = .ok (.ireturn, 1)) ∧ (decode cX1_run 147 = .ok (.aload_n 0, 1)) ∧ (decode cX1_run 148 = .ok (.bipush 20, 2)) ∧ (decode cX1_run 150 = .ok (.iload_n 3, 1)) ∧ (decode cX1_run 151 = .ok (.invokevirtual 53, 3)) ∧ (decode cX1_run 154 = .ok (.aload_n 0, 1)) ∧ (decode cX1_run 155 = .ok (.getfield 26, 3)) ∧ (decode cX1_run 158 = .ok (.iadd, 1)) ∧ (decode cX1_run 159 = .ok (.ireturn, 1)) ∧ (decode cX1_run 160 = .ok (.aload_n 0, 1)) ∧ (decode cX1_run 161 = .ok (.bipush 21, 2)) := by decide +kernel
theorem dX1_run_143 : decode cX1_run 143 = .ok (.getfield 17, 3) := dX1_run_143_b.1
theorem dX1_run_146 : decode cX1_run 146 = .ok (.ireturn, 1) := dX1_run_143_b.2.1
theorem dX1_run_147 : decode cX1_run 147 = .ok (.aload_n 0, 1) := dX1_run_143_b.2.2.1
theorem dX1_run_148 : decode cX1_run 148 = .ok (.bipush 20, 2) := dX1_run_143_b.2.2.2.1
theorem dX1_run_150 : decode cX1_run 150 = .ok (.iload_n 3, 1) := dX1_run_143_b.2.2.2.2.1
theorem dX1_run_151 : decode cX1_run 151 = .ok (.invokevirtual 53, 3) := dX1_run_143_b.2.2.2.2.2.1
theorem dX1_run_154 : decode cX1_run 154 = .ok (.aload_n 0, 1) := dX1_run_143_b.2.2.2.2.2.2.1
theorem dX1_run_155 : decode cX1_run 155 = .ok (.getfield 26, 3) := dX1_run_143_b.2.2.2.2.2.2.2.1
theorem dX1_run_158 : decode cX1_run 158 = .ok (.iadd, 1) := dX1_run_143_b.2.2.2.2.2.2.2.2.1
theorem dX1_run_159 : decode cX1_run 159 = .ok (.ireturn, 1) := dX1_run_143_b.2.2.2.2.2.2.2.2.2.1
theorem dX1_run_160 : decode cX1_run 160 = .ok (.aload_n 0, 1) := dX1_run_143_b.2.2.2.2.2.2.2.2.2.2.1
theorem dX1_run_161 : decode cX1_run 161 = .ok (.bipush 21, 2) := dX1_run_143_b.2.2.2.2.2.2.2.2.2.2.2
theorem dX1_run_163_b : (decode cX1_run 163 = .ok (.iload_n 3, 1)) ∧ (decode cX1_run 164 = .ok (.invokevirtual 53, 3)) ∧ (decode cX1_run 167 = .ok (.sipush 1000, 3)) ∧ (decode cX1_run 170 = .ok (.isub, 1)) ∧ (decode cX1_run 171 = .ok (.ireturn, 1)) ∧ (decode cX1_run 172 = .ok (.aload_n 0, 1)) ∧ (decode cX1_run 173 = .ok (.bipush 20, 2)) ∧ (decode cX1_run 175 = .ok (.iload_n 3, 1)) ∧ (decode cX1_run 176 = .ok (.invokevirtual 53, 3)) ∧ (decode cX1_run 179 = .ok (.aload_n 0, 1)) ∧ (decode cX1_run 180 = .ok (.iconst 0, 1)) ∧ (decode cX1_run 181 = .ok (.iload_n 3, 1)) := by decide +kernel
theorem dX1_run_163 : decode cX1_run 163 = .ok (.iload_n 3, 1) := dX1_run_163_b.1
theorem dX1_run_164 : decode cX1_run 164 = .ok (.invokevirtual 53, 3) := dX1_run_163_b.2.1
theorem dX1_run_167 : decode cX1_run 167 = .ok (.sipush 1000, 3) := dX1_run_163_b.2.2.1
theorem dX1_run_170 : decode cX1_run 170 = .ok (.isub, 1) := dX1_run_163_b.2.2.2.1
theorem dX1_run_171 : decode cX1_run 171 = .ok (.ireturn, 1) := dX1_run_163_b.2.2.2.2.1
theorem dX1_run_172 : decode cX1_run 172 = .ok (.aload_n 0, 1) := dX1_run_163_b.2.2.2.2.2.1
theorem dX1_run_173 : decode cX1_run 173 = .ok (.bipush 20, 2) := dX1_run_163_b.2.2.2.2.2.2.1
theorem dX1_run_175 : decode cX1_run 175 = .ok (.iload_n 3, 1) := dX1_run_163_b.2.2.2.2.2.2.2.1
theorem dX1_run_176 : decode cX1_run 176 = .ok (.invokevirtual 53, 3) := dX1_run_163_b.2.2.2.2.2.2.2.2.1
theorem dX1_run_179 : decode cX1_run 179 = .ok (.aload_n 0, 1) := dX1_run_163_b.2.2.2.2.2.2.2.2.2.1
theorem dX1_run_180 : decode cX1_run 180 = .ok (.iconst 0, 1) := dX1_run_163_b.2.2.2.2.2.2.2.2.2.2.1
theorem dX1_run_181 : decode cX1_run 181 = .ok (.iload_n 3, 1) := dX1_run_163_b.2.2.2.2.2.2.2.2.2.2.2
theorem dX1_run_182_b : (decode cX1_run 182 = .ok (.invokevirtual 40, 3)) ∧ (decode cX1_run 185 = .ok (.isub, 1)) ∧ (decode cX1_run 186 = .ok (.ireturn, 1)) ∧ (decode cX1_run 187 = .ok (.iconst 2, 1)) ∧ (decode cX1_run 188 = .ok (.aload_n 0, 1)) ∧ (decode cX1_run 189 = .ok (.bipush 21, 2)) ∧ (decode cX1_run 191 = .ok (.iload_n 3, 1)) ∧ (decode cX1_run 192 = .ok (.invokevirtual 53, 3)) ∧ (decode cX1_run 195 = .ok (.imul, 1)) ∧ (decode cX1_run 196 = .ok (.ireturn, 1)) ∧ (decode cX1_run 197 = .ok (.iconst 0, 1)) ∧ (decode cX1_run 198 = .ok (.ireturn, 1)) := by decide +kernel
theorem dX1_run_182 : decode cX1_run 182 = .ok (.invokevirtual 40, 3) := dX1_run_182_b.1
theorem dX1_run_185 : decode cX1_run 185 = .ok (.isub, 1) := dX1_run_182_b.2.1
theorem dX1_run_186 : decode cX1_run 186 = .ok (.ireturn, 1) := dX1_run_182_b.2.2.1
theorem dX1_run_187 : decode cX1_run 187 = .ok (.iconst 2, 1) := dX1_run_182_b.2.2.2.1
theorem dX1_run_188 : decode cX1_run 188 = .ok (.aload_n 0, 1) := dX1_run_182_b.2.2.2.2.1
theorem dX1_run_189 : decode cX1_run 189 = .ok (.bipush 21, 2) := dX1_run_182_b.2.2.2.2.2.1
theorem dX1_run_191 : decode cX1_run 191 = .ok (.iload_n 3, 1) := dX1_run_182_b.2.2.2.2.2.2.1
theorem dX1_run_192 : decode cX1_run 192 = .ok (.invokevirtual 53, 3) := dX1_run_182_b.2.2.2.2.2.2.2.1
theorem dX1_run_195 : decode cX1_run 195 = .ok (.imul, 1) := dX1_run_182_b.2.2.2.2.2.2.2.2.1
theorem dX1_run_196 : decode cX1_run 196 = .ok (.ireturn, 1) := dX1_run_182_b.2.2.2.2.2.2.2.2.2.1
theorem dX1_run_197 : decode cX1_run 197 = .ok (.iconst 0, 1) := dX1_run_182_b.2.2.2.2.2.2.2.2.2.2.1
theorem dX1_run_198 : decode cX1_run 198 = .ok (.ireturn, 1) := dX1_run_182_b.2.2.2.2.2.2.2.2.2.2.2
theorem dX1_leaveTrace_0_b : (decode cX1_leaveTrace 0 = .ok (.aload_n 0, 1)) ∧ (decode cX1_leaveTrace 1 = .ok (.getfield 13, 3)) ∧ (decode cX1_leaveTrace 4 = .ok (.bipush 16, 2)) ∧ (decode cX1_leaveTrace 6 = .ok (.if_icmp .ge 23, 3)) ∧ (decode cX1_leaveTrace 9 = .ok (.aload_n 0, 1)) ∧ (decode cX1_leaveTrace 10 = .ok (.getfield 9, 3)) ∧ (decode cX1_leaveTrace 13 = .ok (.aload_n 0, 1)) ∧ (decode cX1_leaveTrace 14 = .ok (.getfield 13, 3)) ∧ (decode cX1_leaveTrace 17 = .ok (.iload_n 1, 1)) ∧ (decode cX1_leaveTrace 18 = .ok (.iastore, 1)) ∧ (decode cX1_leaveTrace 19 = .ok (.aload_n 0, 1)) ∧ (decode cX1_leaveTrace 20 = .ok (.dup, 1)) := by decide +kernel
theorem dX1_leaveTrace_0 : decode cX1_leaveTrace 0 = .ok (.aload_n 0, 1) := dX1_leaveTrace_0_b.1
theorem dX1_leaveTrace_1 : decode cX1_leaveTrace 1 = .ok (.getfield 13, 3) := dX1_leaveTrace_0_b.2.1
theorem dX1_leaveTrace_4 : decode cX1_leaveTrace 4 = .ok (.bipush 16, 2) := dX1_leaveTrace_0_b.2.2.1
theorem dX1_leaveTrace_6 : decode cX1_leaveTrace 6 = .ok (.if_icmp .ge 23, 3) := dX1_leaveTrace_0_b.2.2.2.1
theorem dX1_leaveTrace_9 : decode cX1_leaveTrace 9 = .ok (.aload_n 0, 1) := dX1_leaveTrace_0_b.2.2.2.2.1
theorem dX1_leaveTrace_10 : decode cX1_leaveTrace 10 = .ok (.getfield 9, 3) := dX1_leaveTrace_0_b.2.2.2.2.2.1
theorem dX1_leaveTrace_13 : decode cX1_leaveTrace 13 = .ok (.aload_n 0, 1) := dX1_leaveTrace_0_b.2.2.2.2.2.2.1
theorem dX1_leaveTrace_14 : decode cX1_leaveTrace 14 = .ok (.getfield 13, 3) := dX1_leaveTrace_0_b.2.2.2.2.2.2.2.1
theorem dX1_leaveTrace_17 : decode cX1_leaveTrace 17 = .ok (.iload_n 1, 1) := dX1_leaveTrace_0_b.2.2.2.2.2.2.2.2.1
theorem dX1_leaveTrace_18 : decode cX1_leaveTrace 18 = .ok (.iastore, 1) := dX1_leaveTrace_0_b.2.2.2.2.2.2.2.2.2.1
theorem dX1_leaveTrace_19 : decode cX1_leaveTrace 19 = .ok (.aload_n 0, 1) := dX1_leaveTrace_0_b.2.2.2.2.2.2.2.2.2.2.1
theorem dX1_leaveTrace_20 : decode cX1_leaveTrace 20 = .ok (.dup, 1) := dX1_leaveTrace_0_b.2.2.2.2.2.2.2.2.2.2.2
theorem dX1_leaveTrace_21_b : (decode cX1_leaveTrace 21 = .ok (.getfield 13, 3)) ∧ (decode cX1_leaveTrace 24 = .ok (.iconst 1, 1)) ∧ (decode cX1_leaveTrace 25 = .ok (.iadd, 1)) ∧ (decode cX1_leaveTrace 26 = .ok (.putfield 13, 3)) ∧ (decode cX1_leaveTrace 29 = .ok (.return_, 1)) := by decide +kernel
theorem dX1_leaveTrace_21 : decode cX1_leaveTrace 21 = .ok (.getfield 13, 3) := dX1_leaveTrace_21_b.1
theorem dX1_leaveTrace_24 : decode cX1_leaveTrace 24 = .ok (.iconst 1, 1) := dX1_leaveTrace_21_b.2.1
theorem dX1_leaveTrace_25 : decode cX1_leaveTrace 25 = .ok (.iadd, 1) := dX1_leaveTrace_21_b.2.2.1
theorem dX1_leaveTrace_26 : decode cX1_leaveTrace 26 = .ok (.putfield 13, 3) := dX1_leaveTrace_21_b.2.2.2.1
theorem dX1_leaveTrace_29 : decode cX1_leaveTrace 29 = .ok (.return_, 1) := dX1_leaveTrace_21_b.2.2.2.2
theorem dX2_partsAfter_0_b : (decode cX2_partsAfter 0 = .ok (.aload_n 0, 1)) ∧ (decode cX2_partsAfter 1 = .ok (.getfield 9, 3)) ∧ (decode cX2_partsAfter 4 = .ok (.istore_n 3, 1)) ∧ (decode cX2_partsAfter 5 = .ok (.iconst 0, 1)) ∧ (decode cX2_partsAfter 6 = .ok (.istore 4, 2)) ∧ (decode cX2_partsAfter 8 = .ok (.iload 4, 2)) ∧ (decode cX2_partsAfter 10 = .ok (.bipush 8, 2)) ∧ (decode cX2_partsAfter 12 = .ok (.if_icmp .ge 46, 3)) ∧ (decode cX2_partsAfter 15 = .ok (.iload 4, 2)) ∧ (decode cX2_partsAfter 17 = .ok (.iload_n 2, 1)) ∧ (decode cX2_partsAfter 18 = .ok (.if_icmp .ge 40, 3)) ∧ (decode cX2_partsAfter 21 = .ok (.iload_n 2, 1)) := by decide +kernel
theorem dX2_partsAfter_0 : decode cX2_partsAfter 0 = .ok (.aload_n 0, 1) := dX2_partsAfter_0_b.1
theorem dX2_partsAfter_1 : decode cX2_partsAfter 1 = .ok (.getfield 9, 3) := dX2_partsAfter_0_b.2.1
theorem dX2_partsAfter_4 : decode cX2_partsAfter 4 = .ok (.istore_n 3, 1) := dX2_partsAfter_0_b.2.2.1
theorem dX2_partsAfter_5 : decode cX2_partsAfter 5 = .ok (.iconst 0, 1) := dX2_partsAfter_0_b.2.2.2.1
theorem dX2_partsAfter_6 : decode cX2_partsAfter 6 = .ok (.istore 4, 2) := dX2_partsAfter_0_b.2.2.2.2.1
theorem dX2_partsAfter_8 : decode cX2_partsAfter 8 = .ok (.iload 4, 2) := dX2_partsAfter_0_b.2.2.2.2.2.1
theorem dX2_partsAfter_10 : decode cX2_partsAfter 10 = .ok (.bipush 8, 2) := dX2_partsAfter_0_b.2.2.2.2.2.2.1
theorem dX2_partsAfter_12 : decode cX2_partsAfter 12 = .ok (.if_icmp .ge 46, 3) := dX2_partsAfter_0_b.2.2.2.2.2.2.2.1
theorem dX2_partsAfter_15 : decode cX2_partsAfter 15 = .ok (.iload 4, 2) := dX2_partsAfter_0_b.2.2.2.2.2.2.2.2.1
theorem dX2_partsAfter_17 : decode cX2_partsAfter 17 = .ok (.iload_n 2, 1) := dX2_partsAfter_0_b.2.2.2.2.2.2.2.2.2.1
theorem dX2_partsAfter_18 : decode cX2_partsAfter 18 = .ok (.if_icmp .ge 40, 3) := dX2_partsAfter_0_b.2.2.2.2.2.2.2.2.2.2.1
theorem dX2_partsAfter_21 : decode cX2_partsAfter 21 = .ok (.iload_n 2, 1) := dX2_partsAfter_0_b.2.2.2.2.2.2.2.2.2.2.2
theorem dX2_partsAfter_22_b : (decode cX2_partsAfter 22 = .ok (.iconst 1, 1)) ∧ (decode cX2_partsAfter 23 = .ok (.isub, 1)) ∧ (decode cX2_partsAfter 24 = .ok (.iload 4, 2)) ∧ (decode cX2_partsAfter 26 = .ok (.isub, 1)) ∧ (decode cX2_partsAfter 27 = .ok (.bipush 8, 2)) ∧ (decode cX2_partsAfter 29 = .ok (.idiv, 1)) ∧ (decode cX2_partsAfter 30 = .ok (.iconst 1, 1)) ∧ (decode cX2_partsAfter 31 = .ok (.iadd, 1)) ∧ (decode cX2_partsAfter 32 = .ok (.istore 5, 2)) ∧ (decode cX2_partsAfter 34 = .ok (.iload_n 3, 1)) ∧ (decode cX2_partsAfter 35 = .ok (.iload 5, 2)) ∧ (decode cX2_partsAfter 37 = .ok (.aload_n 0, 1)) := by decide +kernel
theorem dX2_partsAfter_22 : decode cX2_partsAfter 22 = .ok (.iconst 1, 1) := dX2_partsAfter_22_b.1
theorem dX2_partsAfter_23 : decode cX2_partsAfter 23 = .ok (.isub, 1) := dX2_partsAfter_22_b.2.1
theorem dX2_partsAfter_24 : decode cX2_partsAfter 24 = .ok (.iload 4, 2) := dX2_partsAfter_22_b.2.2.1
theorem dX2_partsAfter_26 : decode cX2_partsAfter 26 = .ok (.isub, 1) := dX2_partsAfter_22_b.2.2.2.1
theorem dX2_partsAfter_27 : decode cX2_partsAfter 27 = .ok (.bipush 8, 2) := dX2_partsAfter_22_b.2.2.2.2.1
theorem dX2_partsAfter_29 : decode cX2_partsAfter 29 = .ok (.idiv, 1) := dX2_partsAfter_22_b.2.2.2.2.2.1
theorem dX2_partsAfter_30 : decode cX2_partsAfter 30 = .ok (.iconst 1, 1) := dX2_partsAfter_22_b.2.2.2.2.2.2.1
theorem dX2_partsAfter_31 : decode cX2_partsAfter 31 = .ok (.iadd, 1) := dX2_partsAfter_22_b.2.2.2.2.2.2.2.1
theorem dX2_partsAfter_32 : decode cX2_partsAfter 32 = .ok (.istore 5, 2) := dX2_partsAfter_22_b.2.2.2.2.2.2.2.2.1
theorem dX2_partsAfter_34 : decode cX2_partsAfter 34 = .ok (.iload_n 3, 1) := dX2_partsAfter_22_b.2.2.2.2.2.2.2.2.2.1
theorem dX2_partsAfter_35 : decode cX2_partsAfter 35 = .ok (.iload 5, 2) := dX2_partsAfter_22_b.2.2.2.2.2.2.2.2.2.2.1
theorem dX2_partsAfter_37 : decode cX2_partsAfter 37 = .ok (.aload_n 0, 1) := dX2_partsAfter_22_b.2.2.2.2.2.2.2.2.2.2.2
theorem dX2_partsAfter_38_b : (decode cX2_partsAfter 38 = .ok (.iload_n 1, 1)) ∧ (decode cX2_partsAfter 39 = .ok (.aload_n 0, 1)) ∧ (decode cX2_partsAfter 40 = .ok (.getfield 15, 3)) ∧ (decode cX2_partsAfter 43 = .ok (.iload 4, 2)) ∧ (decode cX2_partsAfter 45 = .ok (.iadd, 1)) ∧ (decode cX2_partsAfter 46 = .ok (.invokevirtual 18, 3)) ∧ (decode cX2_partsAfter 49 = .ok (.imul, 1)) ∧ (decode cX2_partsAfter 50 = .ok (.iadd, 1)) ∧ (decode cX2_partsAfter 51 = .ok (.istore_n 3, 1)) ∧ (decode cX2_partsAfter 52 = .ok (.iinc 4 1, 3)) ∧ (decode cX2_partsAfter 55 = .ok (.goto (-47), 3)) ∧ (decode cX2_partsAfter 58 = .ok (.iload_n 3, 1)) := by decide +kernel
theorem dX2_partsAfter_38 : decode cX2_partsAfter 38 = .ok (.iload_n 1, 1) := dX2_partsAfter_38_b.1
theorem dX2_partsAfter_39 : decode cX2_partsAfter 39 = .ok (.aload_n 0, 1) := dX2_partsAfter_38_b.2.1
theorem dX2_partsAfter_40 : decode cX2_partsAfter 40 = .ok (.getfield 15, 3) := dX2_partsAfter_38_b.2.2.1
theorem dX2_partsAfter_43 : decode cX2_partsAfter 43 = .ok (.iload 4, 2) := dX2_partsAfter_38_b.2.2.2.1
theorem dX2_partsAfter_45 : decode cX2_partsAfter 45 = .ok (.iadd, 1) := dX2_partsAfter_38_b.2.2.2.2.1
theorem dX2_partsAfter_46 : decode cX2_partsAfter 46 = .ok (.invokevirtual 18, 3) := dX2_partsAfter_38_b.2.2.2.2.2.1
theorem dX2_partsAfter_49 : decode cX2_partsAfter 49 = .ok (.imul, 1) := dX2_partsAfter_38_b.2.2.2.2.2.2.1
theorem dX2_partsAfter_50 : decode cX2_partsAfter 50 = .ok (.iadd, 1) := dX2_partsAfter_38_b.2.2.2.2.2.2.2.1
theorem dX2_partsAfter_51 : decode cX2_partsAfter 51 = .ok (.istore_n 3, 1) := dX2_partsAfter_38_b.2.2.2.2.2.2.2.2.1
theorem dX2_partsAfter_52 : decode cX2_partsAfter 52 = .ok (.iinc 4 1, 3) := dX2_partsAfter_38_b.2.2.2.2.2.2.2.2.2.1
theorem dX2_partsAfter_55 : decode cX2_partsAfter 55 = .ok (.goto (-47), 3) := dX2_partsAfter_38_b.2.2.2.2.2.2.2.2.2.2.1
theorem dX2_partsAfter_58 : decode cX2_partsAfter 58 = .ok (.iload_n 3, 1) := dX2_partsAfter_38_b.2.2.2.2.2.2.2.2.2.2.2
theorem dX2_partsAfter_59 : decode cX2_partsAfter 59 = .ok (.ireturn, 1) := by decide +kernel
theorem dX2_shownAfter_0_b : (decode cX2_shownAfter 0 = .ok (.aload_n 0, 1)) ∧ (decode cX2_shownAfter 1 = .ok (.iload_n 1, 1)) ∧ (decode cX2_shownAfter 2 = .ok (.iload_n 2, 1)) ∧ (decode cX2_shownAfter 3 = .ok (.invokestatic 22, 3)) ∧ (decode cX2_shownAfter 6 = .ok (.bipush 12, 2)) ∧ (decode cX2_shownAfter 8 = .ok (.idiv, 1)) ∧ (decode cX2_shownAfter 9 = .ok (.ireturn, 1)) := by decide +kernel
theorem dX2_shownAfter_0 : decode cX2_shownAfter 0 = .ok (.aload_n 0, 1) := dX2_shownAfter_0_b.1
theorem dX2_shownAfter_1 : decode cX2_shownAfter 1 = .ok (.iload_n 1, 1) := dX2_shownAfter_0_b.2.1
theorem dX2_shownAfter_2 : decode cX2_shownAfter 2 = .ok (.iload_n 2, 1) := dX2_shownAfter_0_b.2.2.1
theorem dX2_shownAfter_3 : decode cX2_shownAfter 3 = .ok (.invokestatic 22, 3) := dX2_shownAfter_0_b.2.2.2.1
theorem dX2_shownAfter_6 : decode cX2_shownAfter 6 = .ok (.bipush 12, 2) := dX2_shownAfter_0_b.2.2.2.2.1
theorem dX2_shownAfter_8 : decode cX2_shownAfter 8 = .ok (.idiv, 1) := dX2_shownAfter_0_b.2.2.2.2.2.1
theorem dX2_shownAfter_9 : decode cX2_shownAfter 9 = .ok (.ireturn, 1) := dX2_shownAfter_0_b.2.2.2.2.2.2
theorem dX2_quartersTillShown_0_b : (decode cX2_quartersTillShown 0 = .ok (.aload_n 0, 1)) ∧ (decode cX2_quartersTillShown 1 = .ok (.invokevirtual 28, 3)) ∧ (decode cX2_quartersTillShown 4 = .ok (.istore_n 2, 1)) ∧ (decode cX2_quartersTillShown 5 = .ok (.aload_n 0, 1)) ∧ (decode cX2_quartersTillShown 6 = .ok (.getfield 9, 3)) ∧ (decode cX2_quartersTillShown 9 = .ok (.istore_n 3, 1)) ∧ (decode cX2_quartersTillShown 10 = .ok (.iconst 0, 1)) ∧ (decode cX2_quartersTillShown 11 = .ok (.istore 4, 2)) ∧ (decode cX2_quartersTillShown 13 = .ok (.iload 4, 2)) ∧ (decode cX2_quartersTillShown 15 = .ok (.bipush 99, 2)) ∧ (decode cX2_quartersTillShown 17 = .ok (.if_icmp .gt 35, 3)) ∧ (decode cX2_quartersTillShown 20 = .ok (.iload_n 3, 1)) := by decide +kernel
theorem dX2_quartersTillShown_0 : decode cX2_quartersTillShown 0 = .ok (.aload_n 0, 1) := dX2_quartersTillShown_0_b.1
theorem dX2_quartersTillShown_1 : decode cX2_quartersTillShown 1 = .ok (.invokevirtual 28, 3) := dX2_quartersTillShown_0_b.2.1
theorem dX2_quartersTillShown_4 : decode cX2_quartersTillShown 4 = .ok (.istore_n 2, 1) := dX2_quartersTillShown_0_b.2.2.1
theorem dX2_quartersTillShown_5 : decode cX2_quartersTillShown 5 = .ok (.aload_n 0, 1) := dX2_quartersTillShown_0_b.2.2.2.1
theorem dX2_quartersTillShown_6 : decode cX2_quartersTillShown 6 = .ok (.getfield 9, 3) := dX2_quartersTillShown_0_b.2.2.2.2.1
theorem dX2_quartersTillShown_9 : decode cX2_quartersTillShown 9 = .ok (.istore_n 3, 1) := dX2_quartersTillShown_0_b.2.2.2.2.2.1
theorem dX2_quartersTillShown_10 : decode cX2_quartersTillShown 10 = .ok (.iconst 0, 1) := dX2_quartersTillShown_0_b.2.2.2.2.2.2.1
theorem dX2_quartersTillShown_11 : decode cX2_quartersTillShown 11 = .ok (.istore 4, 2) := dX2_quartersTillShown_0_b.2.2.2.2.2.2.2.1
theorem dX2_quartersTillShown_13 : decode cX2_quartersTillShown 13 = .ok (.iload 4, 2) := dX2_quartersTillShown_0_b.2.2.2.2.2.2.2.2.1
theorem dX2_quartersTillShown_15 : decode cX2_quartersTillShown 15 = .ok (.bipush 99, 2) := dX2_quartersTillShown_0_b.2.2.2.2.2.2.2.2.2.1
theorem dX2_quartersTillShown_17 : decode cX2_quartersTillShown 17 = .ok (.if_icmp .gt 35, 3) := dX2_quartersTillShown_0_b.2.2.2.2.2.2.2.2.2.2.1
theorem dX2_quartersTillShown_20 : decode cX2_quartersTillShown 20 = .ok (.iload_n 3, 1) := dX2_quartersTillShown_0_b.2.2.2.2.2.2.2.2.2.2.2
theorem dX2_quartersTillShown_21_b : (decode cX2_quartersTillShown 21 = .ok (.bipush 12, 2)) ∧ (decode cX2_quartersTillShown 23 = .ok (.idiv, 1)) ∧ (decode cX2_quartersTillShown 24 = .ok (.iload_n 1, 1)) ∧ (decode cX2_quartersTillShown 25 = .ok (.if_icmp .lt 6, 3)) ∧ (decode cX2_quartersTillShown 28 = .ok (.iload 4, 2)) ∧ (decode cX2_quartersTillShown 30 = .ok (.ireturn, 1)) ∧ (decode cX2_quartersTillShown 31 = .ok (.iload_n 3, 1)) ∧ (decode cX2_quartersTillShown 32 = .ok (.aload_n 0, 1)) ∧ (decode cX2_quartersTillShown 33 = .ok (.iload_n 2, 1)) ∧ (decode cX2_quartersTillShown 34 = .ok (.aload_n 0, 1)) ∧ (decode cX2_quartersTillShown 35 = .ok (.getfield 15, 3)) ∧ (decode cX2_quartersTillShown 38 = .ok (.iload 4, 2)) := by decide +kernel
theorem dX2_quartersTillShown_21 : decode cX2_quartersTillShown 21 = .ok (.bipush 12, 2) := dX2_quartersTillShown_21_b.1
theorem dX2_quartersTillShown_23 : decode cX2_quartersTillShown 23 = .ok (.idiv, 1) := dX2_quartersTillShown_21_b.2.1
theorem dX2_quartersTillShown_24 : decode cX2_quartersTillShown 24 = .ok (.iload_n 1, 1) := dX2_quartersTillShown_21_b.2.2.1
theorem dX2_quartersTillShown_25 : decode cX2_quartersTillShown 25 = .ok (.if_icmp .lt 6, 3) := dX2_quartersTillShown_21_b.2.2.2.1
theorem dX2_quartersTillShown_28 : decode cX2_quartersTillShown 28 = .ok (.iload 4, 2) := dX2_quartersTillShown_21_b.2.2.2.2.1
theorem dX2_quartersTillShown_30 : decode cX2_quartersTillShown 30 = .ok (.ireturn, 1) := dX2_quartersTillShown_21_b.2.2.2.2.2.1
theorem dX2_quartersTillShown_31 : decode cX2_quartersTillShown 31 = .ok (.iload_n 3, 1) := dX2_quartersTillShown_21_b.2.2.2.2.2.2.1
theorem dX2_quartersTillShown_32 : decode cX2_quartersTillShown 32 = .ok (.aload_n 0, 1) := dX2_quartersTillShown_21_b.2.2.2.2.2.2.2.1
theorem dX2_quartersTillShown_33 : decode cX2_quartersTillShown 33 = .ok (.iload_n 2, 1) := dX2_quartersTillShown_21_b.2.2.2.2.2.2.2.2.1
theorem dX2_quartersTillShown_34 : decode cX2_quartersTillShown 34 = .ok (.aload_n 0, 1) := dX2_quartersTillShown_21_b.2.2.2.2.2.2.2.2.2.1
theorem dX2_quartersTillShown_35 : decode cX2_quartersTillShown 35 = .ok (.getfield 15, 3) := dX2_quartersTillShown_21_b.2.2.2.2.2.2.2.2.2.2.1
theorem dX2_quartersTillShown_38 : decode cX2_quartersTillShown 38 = .ok (.iload 4, 2) := dX2_quartersTillShown_21_b.2.2.2.2.2.2.2.2.2.2.2
theorem dX2_quartersTillShown_40_b : (decode cX2_quartersTillShown 40 = .ok (.iadd, 1)) ∧ (decode cX2_quartersTillShown 41 = .ok (.invokevirtual 18, 3)) ∧ (decode cX2_quartersTillShown 44 = .ok (.iadd, 1)) ∧ (decode cX2_quartersTillShown 45 = .ok (.istore_n 3, 1)) ∧ (decode cX2_quartersTillShown 46 = .ok (.iinc 4 1, 3)) ∧ (decode cX2_quartersTillShown 49 = .ok (.goto (-36), 3)) ∧ (decode cX2_quartersTillShown 52 = .ok (.ldc 32, 2)) ∧ (decode cX2_quartersTillShown 54 = .ok (.ireturn, 1)) := by decide +kernel
theorem dX2_quartersTillShown_40 : decode cX2_quartersTillShown 40 = .ok (.iadd, 1) := dX2_quartersTillShown_40_b.1
theorem dX2_quartersTillShown_41 : decode cX2_quartersTillShown 41 = .ok (.invokevirtual 18, 3) := dX2_quartersTillShown_40_b.2.1
theorem dX2_quartersTillShown_44 : decode cX2_quartersTillShown 44 = .ok (.iadd, 1) := dX2_quartersTillShown_40_b.2.2.1
theorem dX2_quartersTillShown_45 : decode cX2_quartersTillShown 45 = .ok (.istore_n 3, 1) := dX2_quartersTillShown_40_b.2.2.2.1
theorem dX2_quartersTillShown_46 : decode cX2_quartersTillShown 46 = .ok (.iinc 4 1, 3) := dX2_quartersTillShown_40_b.2.2.2.2.1
theorem dX2_quartersTillShown_49 : decode cX2_quartersTillShown 49 = .ok (.goto (-36), 3) := dX2_quartersTillShown_40_b.2.2.2.2.2.1
theorem dX2_quartersTillShown_52 : decode cX2_quartersTillShown 52 = .ok (.ldc 32, 2) := dX2_quartersTillShown_40_b.2.2.2.2.2.2.1
theorem dX2_quartersTillShown_54 : decode cX2_quartersTillShown 54 = .ok (.ireturn, 1) := dX2_quartersTillShown_40_b.2.2.2.2.2.2.2
theorem dX2_partsNeeded_0_b : (decode cX2_partsNeeded 0 = .ok (.bipush 12, 2)) ∧ (decode cX2_partsNeeded 2 = .ok (.aload_n 0, 1)) ∧ (decode cX2_partsNeeded 3 = .ok (.getfield 33, 3)) ∧ (decode cX2_partsNeeded 6 = .ok (.iload_n 1, 1)) ∧ (decode cX2_partsNeeded 7 = .ok (.iaload, 1)) ∧ (decode cX2_partsNeeded 8 = .ok (.imul, 1)) ∧ (decode cX2_partsNeeded 9 = .ok (.ireturn, 1)) := by decide +kernel
theorem dX2_partsNeeded_0 : decode cX2_partsNeeded 0 = .ok (.bipush 12, 2) := dX2_partsNeeded_0_b.1
theorem dX2_partsNeeded_2 : decode cX2_partsNeeded 2 = .ok (.aload_n 0, 1) := dX2_partsNeeded_0_b.2.1
theorem dX2_partsNeeded_3 : decode cX2_partsNeeded 3 = .ok (.getfield 33, 3) := dX2_partsNeeded_0_b.2.2.1
theorem dX2_partsNeeded_6 : decode cX2_partsNeeded 6 = .ok (.iload_n 1, 1) := dX2_partsNeeded_0_b.2.2.2.1
theorem dX2_partsNeeded_7 : decode cX2_partsNeeded 7 = .ok (.iaload, 1) := dX2_partsNeeded_0_b.2.2.2.2.1
theorem dX2_partsNeeded_8 : decode cX2_partsNeeded 8 = .ok (.imul, 1) := dX2_partsNeeded_0_b.2.2.2.2.2.1
theorem dX2_partsNeeded_9 : decode cX2_partsNeeded 9 = .ok (.ireturn, 1) := dX2_partsNeeded_0_b.2.2.2.2.2.2
theorem dX2_doneOn_0_b : (decode cX2_doneOn 0 = .ok (.aload_n 0, 1)) ∧ (decode cX2_doneOn 1 = .ok (.invokevirtual 28, 3)) ∧ (decode cX2_doneOn 4 = .ok (.istore_n 2, 1)) ∧ (decode cX2_doneOn 5 = .ok (.aload_n 0, 1)) ∧ (decode cX2_doneOn 6 = .ok (.iload_n 1, 1)) ∧ (decode cX2_doneOn 7 = .ok (.invokestatic 37, 3)) ∧ (decode cX2_doneOn 10 = .ok (.istore_n 3, 1)) ∧ (decode cX2_doneOn 11 = .ok (.iconst 0, 1)) ∧ (decode cX2_doneOn 12 = .ok (.istore 4, 2)) ∧ (decode cX2_doneOn 14 = .ok (.aload_n 0, 1)) ∧ (decode cX2_doneOn 15 = .ok (.getfield 41, 3)) ∧ (decode cX2_doneOn 18 = .ok (.iload_n 1, 1)) := by decide +kernel
theorem dX2_doneOn_0 : decode cX2_doneOn 0 = .ok (.aload_n 0, 1) := dX2_doneOn_0_b.1
theorem dX2_doneOn_1 : decode cX2_doneOn 1 = .ok (.invokevirtual 28, 3) := dX2_doneOn_0_b.2.1
theorem dX2_doneOn_4 : decode cX2_doneOn 4 = .ok (.istore_n 2, 1) := dX2_doneOn_0_b.2.2.1
theorem dX2_doneOn_5 : decode cX2_doneOn 5 = .ok (.aload_n 0, 1) := dX2_doneOn_0_b.2.2.2.1
theorem dX2_doneOn_6 : decode cX2_doneOn 6 = .ok (.iload_n 1, 1) := dX2_doneOn_0_b.2.2.2.2.1
theorem dX2_doneOn_7 : decode cX2_doneOn 7 = .ok (.invokestatic 37, 3) := dX2_doneOn_0_b.2.2.2.2.2.1
theorem dX2_doneOn_10 : decode cX2_doneOn 10 = .ok (.istore_n 3, 1) := dX2_doneOn_0_b.2.2.2.2.2.2.1
theorem dX2_doneOn_11 : decode cX2_doneOn 11 = .ok (.iconst 0, 1) := dX2_doneOn_0_b.2.2.2.2.2.2.2.1
theorem dX2_doneOn_12 : decode cX2_doneOn 12 = .ok (.istore 4, 2) := dX2_doneOn_0_b.2.2.2.2.2.2.2.2.1
theorem dX2_doneOn_14 : decode cX2_doneOn 14 = .ok (.aload_n 0, 1) := dX2_doneOn_0_b.2.2.2.2.2.2.2.2.2.1
theorem dX2_doneOn_15 : decode cX2_doneOn 15 = .ok (.getfield 41, 3) := dX2_doneOn_0_b.2.2.2.2.2.2.2.2.2.2.1
theorem dX2_doneOn_18 : decode cX2_doneOn 18 = .ok (.iload_n 1, 1) := dX2_doneOn_0_b.2.2.2.2.2.2.2.2.2.2.2
theorem dX2_doneOn_19_b : (decode cX2_doneOn 19 = .ok (.iaload, 1)) ∧ (decode cX2_doneOn 20 = .ok (.istore 5, 2)) ∧ (decode cX2_doneOn 22 = .ok (.iload 5, 2)) ∧ (decode cX2_doneOn 24 = .ok (.aload_n 0, 1)) ∧ (decode cX2_doneOn 25 = .ok (.getfield 15, 3)) ∧ (decode cX2_doneOn 28 = .ok (.bipush 99, 2)) ∧ (decode cX2_doneOn 30 = .ok (.iadd, 1)) ∧ (decode cX2_doneOn 31 = .ok (.if_icmp .gt 48, 3)) ∧ (decode cX2_doneOn 34 = .ok (.iload 4, 2)) ∧ (decode cX2_doneOn 36 = .ok (.iload_n 3, 1)) ∧ (decode cX2_doneOn 37 = .ok (.if_icmp .lt 6, 3)) ∧ (decode cX2_doneOn 40 = .ok (.iload 5, 2)) := by decide +kernel
theorem dX2_doneOn_19 : decode cX2_doneOn 19 = .ok (.iaload, 1) := dX2_doneOn_19_b.1
theorem dX2_doneOn_20 : decode cX2_doneOn 20 = .ok (.istore 5, 2) := dX2_doneOn_19_b.2.1
theorem dX2_doneOn_22 : decode cX2_doneOn 22 = .ok (.iload 5, 2) := dX2_doneOn_19_b.2.2.1
theorem dX2_doneOn_24 : decode cX2_doneOn 24 = .ok (.aload_n 0, 1) := dX2_doneOn_19_b.2.2.2.1
theorem dX2_doneOn_25 : decode cX2_doneOn 25 = .ok (.getfield 15, 3) := dX2_doneOn_19_b.2.2.2.2.1
theorem dX2_doneOn_28 : decode cX2_doneOn 28 = .ok (.bipush 99, 2) := dX2_doneOn_19_b.2.2.2.2.2.1
theorem dX2_doneOn_30 : decode cX2_doneOn 30 = .ok (.iadd, 1) := dX2_doneOn_19_b.2.2.2.2.2.2.1
theorem dX2_doneOn_31 : decode cX2_doneOn 31 = .ok (.if_icmp .gt 48, 3) := dX2_doneOn_19_b.2.2.2.2.2.2.2.1
theorem dX2_doneOn_34 : decode cX2_doneOn 34 = .ok (.iload 4, 2) := dX2_doneOn_19_b.2.2.2.2.2.2.2.2.1
theorem dX2_doneOn_36 : decode cX2_doneOn 36 = .ok (.iload_n 3, 1) := dX2_doneOn_19_b.2.2.2.2.2.2.2.2.2.1
theorem dX2_doneOn_37 : decode cX2_doneOn 37 = .ok (.if_icmp .lt 6, 3) := dX2_doneOn_19_b.2.2.2.2.2.2.2.2.2.2.1
theorem dX2_doneOn_40 : decode cX2_doneOn 40 = .ok (.iload 5, 2) := dX2_doneOn_19_b.2.2.2.2.2.2.2.2.2.2.2
theorem dX2_doneOn_42_b : (decode cX2_doneOn 42 = .ok (.ireturn, 1)) ∧ (decode cX2_doneOn 43 = .ok (.iload 4, 2)) ∧ (decode cX2_doneOn 45 = .ok (.aload_n 0, 1)) ∧ (decode cX2_doneOn 46 = .ok (.iload 5, 2)) ∧ (decode cX2_doneOn 48 = .ok (.invokevirtual 44, 3)) ∧ (decode cX2_doneOn 51 = .ok (.ifCond .eq 12, 3)) ∧ (decode cX2_doneOn 54 = .ok (.aload_n 0, 1)) ∧ (decode cX2_doneOn 55 = .ok (.iload 5, 2)) ∧ (decode cX2_doneOn 57 = .ok (.invokevirtual 48, 3)) ∧ (decode cX2_doneOn 60 = .ok (.goto 10, 3)) ∧ (decode cX2_doneOn 63 = .ok (.aload_n 0, 1)) ∧ (decode cX2_doneOn 64 = .ok (.iload_n 2, 1)) := by decide +kernel
theorem dX2_doneOn_42 : decode cX2_doneOn 42 = .ok (.ireturn, 1) := dX2_doneOn_42_b.1
theorem dX2_doneOn_43 : decode cX2_doneOn 43 = .ok (.iload 4, 2) := dX2_doneOn_42_b.2.1
theorem dX2_doneOn_45 : decode cX2_doneOn 45 = .ok (.aload_n 0, 1) := dX2_doneOn_42_b.2.2.1
theorem dX2_doneOn_46 : decode cX2_doneOn 46 = .ok (.iload 5, 2) := dX2_doneOn_42_b.2.2.2.1
theorem dX2_doneOn_48 : decode cX2_doneOn 48 = .ok (.invokevirtual 44, 3) := dX2_doneOn_42_b.2.2.2.2.1
theorem dX2_doneOn_51 : decode cX2_doneOn 51 = .ok (.ifCond .eq 12, 3) := dX2_doneOn_42_b.2.2.2.2.2.1
theorem dX2_doneOn_54 : decode cX2_doneOn 54 = .ok (.aload_n 0, 1) := dX2_doneOn_42_b.2.2.2.2.2.2.1
theorem dX2_doneOn_55 : decode cX2_doneOn 55 = .ok (.iload 5, 2) := dX2_doneOn_42_b.2.2.2.2.2.2.2.1
theorem dX2_doneOn_57 : decode cX2_doneOn 57 = .ok (.invokevirtual 48, 3) := dX2_doneOn_42_b.2.2.2.2.2.2.2.2.1
theorem dX2_doneOn_60 : decode cX2_doneOn 60 = .ok (.goto 10, 3) := dX2_doneOn_42_b.2.2.2.2.2.2.2.2.2.1
theorem dX2_doneOn_63 : decode cX2_doneOn 63 = .ok (.aload_n 0, 1) := dX2_doneOn_42_b.2.2.2.2.2.2.2.2.2.2.1
theorem dX2_doneOn_64 : decode cX2_doneOn 64 = .ok (.iload_n 2, 1) := dX2_doneOn_42_b.2.2.2.2.2.2.2.2.2.2.2
theorem dX2_doneOn_65_b : (decode cX2_doneOn 65 = .ok (.iload 5, 2)) ∧ (decode cX2_doneOn 67 = .ok (.invokevirtual 18, 3)) ∧ (decode cX2_doneOn 70 = .ok (.iadd, 1)) ∧ (decode cX2_doneOn 71 = .ok (.istore 4, 2)) ∧ (decode cX2_doneOn 73 = .ok (.iinc 5 1, 3)) ∧ (decode cX2_doneOn 76 = .ok (.goto (-54), 3)) ∧ (decode cX2_doneOn 79 = .ok (.ldc 32, 2)) ∧ (decode cX2_doneOn 81 = .ok (.ireturn, 1)) := by decide +kernel
theorem dX2_doneOn_65 : decode cX2_doneOn 65 = .ok (.iload 5, 2) := dX2_doneOn_65_b.1
theorem dX2_doneOn_67 : decode cX2_doneOn 67 = .ok (.invokevirtual 18, 3) := dX2_doneOn_65_b.2.1
theorem dX2_doneOn_70 : decode cX2_doneOn 70 = .ok (.iadd, 1) := dX2_doneOn_65_b.2.2.1
theorem dX2_doneOn_71 : decode cX2_doneOn 71 = .ok (.istore 4, 2) := dX2_doneOn_65_b.2.2.2.1
theorem dX2_doneOn_73 : decode cX2_doneOn 73 = .ok (.iinc 5 1, 3) := dX2_doneOn_65_b.2.2.2.2.1
theorem dX2_doneOn_76 : decode cX2_doneOn 76 = .ok (.goto (-54), 3) := dX2_doneOn_65_b.2.2.2.2.2.1
theorem dX2_doneOn_79 : decode cX2_doneOn 79 = .ok (.ldc 32, 2) := dX2_doneOn_65_b.2.2.2.2.2.2.1
theorem dX2_doneOn_81 : decode cX2_doneOn 81 = .ok (.ireturn, 1) := dX2_doneOn_65_b.2.2.2.2.2.2.2
theorem dX2_lateDoings_0_b : (decode cX2_lateDoings 0 = .ok (.iconst 0, 1)) ∧ (decode cX2_lateDoings 1 = .ok (.istore_n 1, 1)) ∧ (decode cX2_lateDoings 2 = .ok (.iconst 0, 1)) ∧ (decode cX2_lateDoings 3 = .ok (.istore_n 2, 1)) ∧ (decode cX2_lateDoings 4 = .ok (.iload_n 2, 1)) ∧ (decode cX2_lateDoings 5 = .ok (.aload_n 0, 1)) ∧ (decode cX2_lateDoings 6 = .ok (.getfield 52, 3)) ∧ (decode cX2_lateDoings 9 = .ok (.if_icmp .ge 37, 3)) ∧ (decode cX2_lateDoings 12 = .ok (.aload_n 0, 1)) ∧ (decode cX2_lateDoings 13 = .ok (.iload_n 2, 1)) ∧ (decode cX2_lateDoings 14 = .ok (.invokestatic 55, 3)) ∧ (decode cX2_lateDoings 17 = .ok (.istore_n 3, 1)) := by decide +kernel
theorem dX2_lateDoings_0 : decode cX2_lateDoings 0 = .ok (.iconst 0, 1) := dX2_lateDoings_0_b.1
theorem dX2_lateDoings_1 : decode cX2_lateDoings 1 = .ok (.istore_n 1, 1) := dX2_lateDoings_0_b.2.1
theorem dX2_lateDoings_2 : decode cX2_lateDoings 2 = .ok (.iconst 0, 1) := dX2_lateDoings_0_b.2.2.1
theorem dX2_lateDoings_3 : decode cX2_lateDoings 3 = .ok (.istore_n 2, 1) := dX2_lateDoings_0_b.2.2.2.1
theorem dX2_lateDoings_4 : decode cX2_lateDoings 4 = .ok (.iload_n 2, 1) := dX2_lateDoings_0_b.2.2.2.2.1
theorem dX2_lateDoings_5 : decode cX2_lateDoings 5 = .ok (.aload_n 0, 1) := dX2_lateDoings_0_b.2.2.2.2.2.1
theorem dX2_lateDoings_6 : decode cX2_lateDoings 6 = .ok (.getfield 52, 3) := dX2_lateDoings_0_b.2.2.2.2.2.2.1
theorem dX2_lateDoings_9 : decode cX2_lateDoings 9 = .ok (.if_icmp .ge 37, 3) := dX2_lateDoings_0_b.2.2.2.2.2.2.2.1
theorem dX2_lateDoings_12 : decode cX2_lateDoings 12 = .ok (.aload_n 0, 1) := dX2_lateDoings_0_b.2.2.2.2.2.2.2.2.1
theorem dX2_lateDoings_13 : decode cX2_lateDoings 13 = .ok (.iload_n 2, 1) := dX2_lateDoings_0_b.2.2.2.2.2.2.2.2.2.1
theorem dX2_lateDoings_14 : decode cX2_lateDoings 14 = .ok (.invokestatic 55, 3) := dX2_lateDoings_0_b.2.2.2.2.2.2.2.2.2.2.1
theorem dX2_lateDoings_17 : decode cX2_lateDoings 17 = .ok (.istore_n 3, 1) := dX2_lateDoings_0_b.2.2.2.2.2.2.2.2.2.2.2
theorem dX2_lateDoings_18_b : (decode cX2_lateDoings 18 = .ok (.iload_n 3, 1)) ∧ (decode cX2_lateDoings 19 = .ok (.ldc 32, 2)) ∧ (decode cX2_lateDoings 21 = .ok (.if_icmp .eq 13, 3)) ∧ (decode cX2_lateDoings 24 = .ok (.iload_n 3, 1)) ∧ (decode cX2_lateDoings 25 = .ok (.aload_n 0, 1)) ∧ (decode cX2_lateDoings 26 = .ok (.getfield 58, 3)) ∧ (decode cX2_lateDoings 29 = .ok (.iload_n 2, 1)) ∧ (decode cX2_lateDoings 30 = .ok (.iaload, 1)) ∧ (decode cX2_lateDoings 31 = .ok (.if_icmp .le 9, 3)) ∧ (decode cX2_lateDoings 34 = .ok (.iload_n 1, 1)) ∧ (decode cX2_lateDoings 35 = .ok (.iconst 1, 1)) ∧ (decode cX2_lateDoings 36 = .ok (.iload_n 2, 1)) := by decide +kernel
theorem dX2_lateDoings_18 : decode cX2_lateDoings 18 = .ok (.iload_n 3, 1) := dX2_lateDoings_18_b.1
theorem dX2_lateDoings_19 : decode cX2_lateDoings 19 = .ok (.ldc 32, 2) := dX2_lateDoings_18_b.2.1
theorem dX2_lateDoings_21 : decode cX2_lateDoings 21 = .ok (.if_icmp .eq 13, 3) := dX2_lateDoings_18_b.2.2.1
theorem dX2_lateDoings_24 : decode cX2_lateDoings 24 = .ok (.iload_n 3, 1) := dX2_lateDoings_18_b.2.2.2.1
theorem dX2_lateDoings_25 : decode cX2_lateDoings 25 = .ok (.aload_n 0, 1) := dX2_lateDoings_18_b.2.2.2.2.1
theorem dX2_lateDoings_26 : decode cX2_lateDoings 26 = .ok (.getfield 58, 3) := dX2_lateDoings_18_b.2.2.2.2.2.1
theorem dX2_lateDoings_29 : decode cX2_lateDoings 29 = .ok (.iload_n 2, 1) := dX2_lateDoings_18_b.2.2.2.2.2.2.1
theorem dX2_lateDoings_30 : decode cX2_lateDoings 30 = .ok (.iaload, 1) := dX2_lateDoings_18_b.2.2.2.2.2.2.2.1
theorem dX2_lateDoings_31 : decode cX2_lateDoings 31 = .ok (.if_icmp .le 9, 3) := dX2_lateDoings_18_b.2.2.2.2.2.2.2.2.1
theorem dX2_lateDoings_34 : decode cX2_lateDoings 34 = .ok (.iload_n 1, 1) := dX2_lateDoings_18_b.2.2.2.2.2.2.2.2.2.1
theorem dX2_lateDoings_35 : decode cX2_lateDoings 35 = .ok (.iconst 1, 1) := dX2_lateDoings_18_b.2.2.2.2.2.2.2.2.2.2.1
theorem dX2_lateDoings_36 : decode cX2_lateDoings 36 = .ok (.iload_n 2, 1) := dX2_lateDoings_18_b.2.2.2.2.2.2.2.2.2.2.2
theorem dX2_lateDoings_37_b : (decode cX2_lateDoings 37 = .ok (.ishl, 1)) ∧ (decode cX2_lateDoings 38 = .ok (.ior, 1)) ∧ (decode cX2_lateDoings 39 = .ok (.istore_n 1, 1)) ∧ (decode cX2_lateDoings 40 = .ok (.iinc 2 1, 3)) ∧ (decode cX2_lateDoings 43 = .ok (.goto (-39), 3)) ∧ (decode cX2_lateDoings 46 = .ok (.iload_n 1, 1)) ∧ (decode cX2_lateDoings 47 = .ok (.ireturn, 1)) := by decide +kernel
theorem dX2_lateDoings_37 : decode cX2_lateDoings 37 = .ok (.ishl, 1) := dX2_lateDoings_37_b.1
theorem dX2_lateDoings_38 : decode cX2_lateDoings 38 = .ok (.ior, 1) := dX2_lateDoings_37_b.2.1
theorem dX2_lateDoings_39 : decode cX2_lateDoings 39 = .ok (.istore_n 1, 1) := dX2_lateDoings_37_b.2.2.1
theorem dX2_lateDoings_40 : decode cX2_lateDoings 40 = .ok (.iinc 2 1, 3) := dX2_lateDoings_37_b.2.2.2.1
theorem dX2_lateDoings_43 : decode cX2_lateDoings 43 = .ok (.goto (-39), 3) := dX2_lateDoings_37_b.2.2.2.2.1
theorem dX2_lateDoings_46 : decode cX2_lateDoings 46 = .ok (.iload_n 1, 1) := dX2_lateDoings_37_b.2.2.2.2.2.1
theorem dX2_lateDoings_47 : decode cX2_lateDoings 47 = .ok (.ireturn, 1) := dX2_lateDoings_37_b.2.2.2.2.2.2
theorem dX2_latestBegin_0_b : (decode cX2_latestBegin 0 = .ok (.aload_n 0, 1)) ∧ (decode cX2_latestBegin 1 = .ok (.invokevirtual 28, 3)) ∧ (decode cX2_latestBegin 4 = .ok (.istore_n 2, 1)) ∧ (decode cX2_latestBegin 5 = .ok (.aload_n 0, 1)) ∧ (decode cX2_latestBegin 6 = .ok (.iload_n 1, 1)) ∧ (decode cX2_latestBegin 7 = .ok (.invokestatic 37, 3)) ∧ (decode cX2_latestBegin 10 = .ok (.istore_n 3, 1)) ∧ (decode cX2_latestBegin 11 = .ok (.iconst 0, 1)) ∧ (decode cX2_latestBegin 12 = .ok (.istore 4, 2)) ∧ (decode cX2_latestBegin 14 = .ok (.aload_n 0, 1)) ∧ (decode cX2_latestBegin 15 = .ok (.getfield 58, 3)) ∧ (decode cX2_latestBegin 18 = .ok (.iload_n 1, 1)) := by decide +kernel
theorem dX2_latestBegin_0 : decode cX2_latestBegin 0 = .ok (.aload_n 0, 1) := dX2_latestBegin_0_b.1
theorem dX2_latestBegin_1 : decode cX2_latestBegin 1 = .ok (.invokevirtual 28, 3) := dX2_latestBegin_0_b.2.1
theorem dX2_latestBegin_4 : decode cX2_latestBegin 4 = .ok (.istore_n 2, 1) := dX2_latestBegin_0_b.2.2.1
theorem dX2_latestBegin_5 : decode cX2_latestBegin 5 = .ok (.aload_n 0, 1) := dX2_latestBegin_0_b.2.2.2.1
theorem dX2_latestBegin_6 : decode cX2_latestBegin 6 = .ok (.iload_n 1, 1) := dX2_latestBegin_0_b.2.2.2.2.1
theorem dX2_latestBegin_7 : decode cX2_latestBegin 7 = .ok (.invokestatic 37, 3) := dX2_latestBegin_0_b.2.2.2.2.2.1
theorem dX2_latestBegin_10 : decode cX2_latestBegin 10 = .ok (.istore_n 3, 1) := dX2_latestBegin_0_b.2.2.2.2.2.2.1
theorem dX2_latestBegin_11 : decode cX2_latestBegin 11 = .ok (.iconst 0, 1) := dX2_latestBegin_0_b.2.2.2.2.2.2.2.1
theorem dX2_latestBegin_12 : decode cX2_latestBegin 12 = .ok (.istore 4, 2) := dX2_latestBegin_0_b.2.2.2.2.2.2.2.2.1
theorem dX2_latestBegin_14 : decode cX2_latestBegin 14 = .ok (.aload_n 0, 1) := dX2_latestBegin_0_b.2.2.2.2.2.2.2.2.2.1
theorem dX2_latestBegin_15 : decode cX2_latestBegin 15 = .ok (.getfield 58, 3) := dX2_latestBegin_0_b.2.2.2.2.2.2.2.2.2.2.1
theorem dX2_latestBegin_18 : decode cX2_latestBegin 18 = .ok (.iload_n 1, 1) := dX2_latestBegin_0_b.2.2.2.2.2.2.2.2.2.2.2
theorem dX2_latestBegin_19_b : (decode cX2_latestBegin 19 = .ok (.iaload, 1)) ∧ (decode cX2_latestBegin 20 = .ok (.iconst 1, 1)) ∧ (decode cX2_latestBegin 21 = .ok (.isub, 1)) ∧ (decode cX2_latestBegin 22 = .ok (.istore 5, 2)) ∧ (decode cX2_latestBegin 24 = .ok (.iload 5, 2)) ∧ (decode cX2_latestBegin 26 = .ok (.aload_n 0, 1)) ∧ (decode cX2_latestBegin 27 = .ok (.getfield 15, 3)) ∧ (decode cX2_latestBegin 30 = .ok (.if_icmp .lt 35, 3)) ∧ (decode cX2_latestBegin 33 = .ok (.iload 4, 2)) ∧ (decode cX2_latestBegin 35 = .ok (.aload_n 0, 1)) ∧ (decode cX2_latestBegin 36 = .ok (.iload_n 2, 1)) ∧ (decode cX2_latestBegin 37 = .ok (.iload 5, 2)) := by decide +kernel
theorem dX2_latestBegin_19 : decode cX2_latestBegin 19 = .ok (.iaload, 1) := dX2_latestBegin_19_b.1
theorem dX2_latestBegin_20 : decode cX2_latestBegin 20 = .ok (.iconst 1, 1) := dX2_latestBegin_19_b.2.1
theorem dX2_latestBegin_21 : decode cX2_latestBegin 21 = .ok (.isub, 1) := dX2_latestBegin_19_b.2.2.1
theorem dX2_latestBegin_22 : decode cX2_latestBegin 22 = .ok (.istore 5, 2) := dX2_latestBegin_19_b.2.2.2.1
theorem dX2_latestBegin_24 : decode cX2_latestBegin 24 = .ok (.iload 5, 2) := dX2_latestBegin_19_b.2.2.2.2.1
theorem dX2_latestBegin_26 : decode cX2_latestBegin 26 = .ok (.aload_n 0, 1) := dX2_latestBegin_19_b.2.2.2.2.2.1
theorem dX2_latestBegin_27 : decode cX2_latestBegin 27 = .ok (.getfield 15, 3) := dX2_latestBegin_19_b.2.2.2.2.2.2.1
theorem dX2_latestBegin_30 : decode cX2_latestBegin 30 = .ok (.if_icmp .lt 35, 3) := dX2_latestBegin_19_b.2.2.2.2.2.2.2.1
theorem dX2_latestBegin_33 : decode cX2_latestBegin 33 = .ok (.iload 4, 2) := dX2_latestBegin_19_b.2.2.2.2.2.2.2.2.1
theorem dX2_latestBegin_35 : decode cX2_latestBegin 35 = .ok (.aload_n 0, 1) := dX2_latestBegin_19_b.2.2.2.2.2.2.2.2.2.1
theorem dX2_latestBegin_36 : decode cX2_latestBegin 36 = .ok (.iload_n 2, 1) := dX2_latestBegin_19_b.2.2.2.2.2.2.2.2.2.2.1
theorem dX2_latestBegin_37 : decode cX2_latestBegin 37 = .ok (.iload 5, 2) := dX2_latestBegin_19_b.2.2.2.2.2.2.2.2.2.2.2
theorem dX2_latestBegin_39_b : (decode cX2_latestBegin 39 = .ok (.invokevirtual 18, 3)) ∧ (decode cX2_latestBegin 42 = .ok (.iadd, 1)) ∧ (decode cX2_latestBegin 43 = .ok (.istore 4, 2)) ∧ (decode cX2_latestBegin 45 = .ok (.iload 4, 2)) ∧ (decode cX2_latestBegin 47 = .ok (.iload_n 3, 1)) ∧ (decode cX2_latestBegin 48 = .ok (.if_icmp .lt 11, 3)) ∧ (decode cX2_latestBegin 51 = .ok (.iload 5, 2)) ∧ (decode cX2_latestBegin 53 = .ok (.aload_n 0, 1)) ∧ (decode cX2_latestBegin 54 = .ok (.getfield 15, 3)) ∧ (decode cX2_latestBegin 57 = .ok (.isub, 1)) ∧ (decode cX2_latestBegin 58 = .ok (.ireturn, 1)) ∧ (decode cX2_latestBegin 59 = .ok (.iinc 5 (-1), 3)) := by decide +kernel
theorem dX2_latestBegin_39 : decode cX2_latestBegin 39 = .ok (.invokevirtual 18, 3) := dX2_latestBegin_39_b.1
theorem dX2_latestBegin_42 : decode cX2_latestBegin 42 = .ok (.iadd, 1) := dX2_latestBegin_39_b.2.1
theorem dX2_latestBegin_43 : decode cX2_latestBegin 43 = .ok (.istore 4, 2) := dX2_latestBegin_39_b.2.2.1
theorem dX2_latestBegin_45 : decode cX2_latestBegin 45 = .ok (.iload 4, 2) := dX2_latestBegin_39_b.2.2.2.1
theorem dX2_latestBegin_47 : decode cX2_latestBegin 47 = .ok (.iload_n 3, 1) := dX2_latestBegin_39_b.2.2.2.2.1
theorem dX2_latestBegin_48 : decode cX2_latestBegin 48 = .ok (.if_icmp .lt 11, 3) := dX2_latestBegin_39_b.2.2.2.2.2.1
theorem dX2_latestBegin_51 : decode cX2_latestBegin 51 = .ok (.iload 5, 2) := dX2_latestBegin_39_b.2.2.2.2.2.2.1
theorem dX2_latestBegin_53 : decode cX2_latestBegin 53 = .ok (.aload_n 0, 1) := dX2_latestBegin_39_b.2.2.2.2.2.2.2.1
theorem dX2_latestBegin_54 : decode cX2_latestBegin 54 = .ok (.getfield 15, 3) := dX2_latestBegin_39_b.2.2.2.2.2.2.2.2.1
theorem dX2_latestBegin_57 : decode cX2_latestBegin 57 = .ok (.isub, 1) := dX2_latestBegin_39_b.2.2.2.2.2.2.2.2.2.1
theorem dX2_latestBegin_58 : decode cX2_latestBegin 58 = .ok (.ireturn, 1) := dX2_latestBegin_39_b.2.2.2.2.2.2.2.2.2.2.1
theorem dX2_latestBegin_59 : decode cX2_latestBegin 59 = .ok (.iinc 5 (-1), 3) := dX2_latestBegin_39_b.2.2.2.2.2.2.2.2.2.2.2
theorem dX2_latestBegin_62_b : (decode cX2_latestBegin 62 = .ok (.goto (-38), 3)) ∧ (decode cX2_latestBegin 65 = .ok (.ldc 32, 2)) ∧ (decode cX2_latestBegin 67 = .ok (.ireturn, 1)) := by decide +kernel
theorem dX2_latestBegin_62 : decode cX2_latestBegin 62 = .ok (.goto (-38), 3) := dX2_latestBegin_62_b.1
theorem dX2_latestBegin_65 : decode cX2_latestBegin 65 = .ok (.ldc 32, 2) := dX2_latestBegin_62_b.2.1
theorem dX2_latestBegin_67 : decode cX2_latestBegin 67 = .ok (.ireturn, 1) := dX2_latestBegin_62_b.2.2
theorem dX2_fewestToBeHushed_0_b : (decode cX2_fewestToBeHushed 0 = .ok (.aload_n 0, 1)) ∧ (decode cX2_fewestToBeHushed 1 = .ok (.invokevirtual 28, 3)) ∧ (decode cX2_fewestToBeHushed 4 = .ok (.istore_n 3, 1)) ∧ (decode cX2_fewestToBeHushed 5 = .ok (.ldc 32, 2)) ∧ (decode cX2_fewestToBeHushed 7 = .ok (.istore 4, 2)) ∧ (decode cX2_fewestToBeHushed 9 = .ok (.iconst 0, 1)) ∧ (decode cX2_fewestToBeHushed 10 = .ok (.istore 5, 2)) ∧ (decode cX2_fewestToBeHushed 12 = .ok (.iload 5, 2)) ∧ (decode cX2_fewestToBeHushed 14 = .ok (.aload_n 0, 1)) ∧ (decode cX2_fewestToBeHushed 15 = .ok (.invokevirtual 61, 3)) ∧ (decode cX2_fewestToBeHushed 18 = .ok (.if_icmp .ge 48, 3)) ∧ (decode cX2_fewestToBeHushed 21 = .ok (.iload 5, 2)) := by decide +kernel
theorem dX2_fewestToBeHushed_0 : decode cX2_fewestToBeHushed 0 = .ok (.aload_n 0, 1) := dX2_fewestToBeHushed_0_b.1
theorem dX2_fewestToBeHushed_1 : decode cX2_fewestToBeHushed 1 = .ok (.invokevirtual 28, 3) := dX2_fewestToBeHushed_0_b.2.1
theorem dX2_fewestToBeHushed_4 : decode cX2_fewestToBeHushed 4 = .ok (.istore_n 3, 1) := dX2_fewestToBeHushed_0_b.2.2.1
theorem dX2_fewestToBeHushed_5 : decode cX2_fewestToBeHushed 5 = .ok (.ldc 32, 2) := dX2_fewestToBeHushed_0_b.2.2.2.1
theorem dX2_fewestToBeHushed_7 : decode cX2_fewestToBeHushed 7 = .ok (.istore 4, 2) := dX2_fewestToBeHushed_0_b.2.2.2.2.1
theorem dX2_fewestToBeHushed_9 : decode cX2_fewestToBeHushed 9 = .ok (.iconst 0, 1) := dX2_fewestToBeHushed_0_b.2.2.2.2.2.1
theorem dX2_fewestToBeHushed_10 : decode cX2_fewestToBeHushed 10 = .ok (.istore 5, 2) := dX2_fewestToBeHushed_0_b.2.2.2.2.2.2.1
theorem dX2_fewestToBeHushed_12 : decode cX2_fewestToBeHushed 12 = .ok (.iload 5, 2) := dX2_fewestToBeHushed_0_b.2.2.2.2.2.2.2.1
theorem dX2_fewestToBeHushed_14 : decode cX2_fewestToBeHushed 14 = .ok (.aload_n 0, 1) := dX2_fewestToBeHushed_0_b.2.2.2.2.2.2.2.2.1
theorem dX2_fewestToBeHushed_15 : decode cX2_fewestToBeHushed 15 = .ok (.invokevirtual 61, 3) := dX2_fewestToBeHushed_0_b.2.2.2.2.2.2.2.2.2.1
theorem dX2_fewestToBeHushed_18 : decode cX2_fewestToBeHushed 18 = .ok (.if_icmp .ge 48, 3) := dX2_fewestToBeHushed_0_b.2.2.2.2.2.2.2.2.2.2.1
theorem dX2_fewestToBeHushed_21 : decode cX2_fewestToBeHushed 21 = .ok (.iload 5, 2) := dX2_fewestToBeHushed_0_b.2.2.2.2.2.2.2.2.2.2.2
theorem dX2_fewestToBeHushed_23_b : (decode cX2_fewestToBeHushed 23 = .ok (.aload_n 0, 1)) ∧ (decode cX2_fewestToBeHushed 24 = .ok (.getfield 64, 3)) ∧ (decode cX2_fewestToBeHushed 27 = .ok (.iand, 1)) ∧ (decode cX2_fewestToBeHushed 28 = .ok (.ifCond .ne 32, 3)) ∧ (decode cX2_fewestToBeHushed 31 = .ok (.iload 5, 2)) ∧ (decode cX2_fewestToBeHushed 33 = .ok (.iload 4, 2)) ∧ (decode cX2_fewestToBeHushed 35 = .ok (.invokestatic 67, 3)) ∧ (decode cX2_fewestToBeHushed 38 = .ok (.ifCond .eq 22, 3)) ∧ (decode cX2_fewestToBeHushed 41 = .ok (.aload_n 0, 1)) ∧ (decode cX2_fewestToBeHushed 42 = .ok (.iload_n 3, 1)) ∧ (decode cX2_fewestToBeHushed 43 = .ok (.iload 5, 2)) ∧ (decode cX2_fewestToBeHushed 45 = .ok (.iconst (-1), 1)) := by decide +kernel
theorem dX2_fewestToBeHushed_23 : decode cX2_fewestToBeHushed 23 = .ok (.aload_n 0, 1) := dX2_fewestToBeHushed_23_b.1
theorem dX2_fewestToBeHushed_24 : decode cX2_fewestToBeHushed 24 = .ok (.getfield 64, 3) := dX2_fewestToBeHushed_23_b.2.1
theorem dX2_fewestToBeHushed_27 : decode cX2_fewestToBeHushed 27 = .ok (.iand, 1) := dX2_fewestToBeHushed_23_b.2.2.1
theorem dX2_fewestToBeHushed_28 : decode cX2_fewestToBeHushed 28 = .ok (.ifCond .ne 32, 3) := dX2_fewestToBeHushed_23_b.2.2.2.1
theorem dX2_fewestToBeHushed_31 : decode cX2_fewestToBeHushed 31 = .ok (.iload 5, 2) := dX2_fewestToBeHushed_23_b.2.2.2.2.1
theorem dX2_fewestToBeHushed_33 : decode cX2_fewestToBeHushed 33 = .ok (.iload 4, 2) := dX2_fewestToBeHushed_23_b.2.2.2.2.2.1
theorem dX2_fewestToBeHushed_35 : decode cX2_fewestToBeHushed 35 = .ok (.invokestatic 67, 3) := dX2_fewestToBeHushed_23_b.2.2.2.2.2.2.1
theorem dX2_fewestToBeHushed_38 : decode cX2_fewestToBeHushed 38 = .ok (.ifCond .eq 22, 3) := dX2_fewestToBeHushed_23_b.2.2.2.2.2.2.2.1
theorem dX2_fewestToBeHushed_41 : decode cX2_fewestToBeHushed 41 = .ok (.aload_n 0, 1) := dX2_fewestToBeHushed_23_b.2.2.2.2.2.2.2.2.1
theorem dX2_fewestToBeHushed_42 : decode cX2_fewestToBeHushed 42 = .ok (.iload_n 3, 1) := dX2_fewestToBeHushed_23_b.2.2.2.2.2.2.2.2.2.1
theorem dX2_fewestToBeHushed_43 : decode cX2_fewestToBeHushed 43 = .ok (.iload 5, 2) := dX2_fewestToBeHushed_23_b.2.2.2.2.2.2.2.2.2.2.1
theorem dX2_fewestToBeHushed_45 : decode cX2_fewestToBeHushed 45 = .ok (.iconst (-1), 1) := dX2_fewestToBeHushed_23_b.2.2.2.2.2.2.2.2.2.2.2
theorem dX2_fewestToBeHushed_46_b : (decode cX2_fewestToBeHushed 46 = .ok (.ixor, 1)) ∧ (decode cX2_fewestToBeHushed 47 = .ok (.iand, 1)) ∧ (decode cX2_fewestToBeHushed 48 = .ok (.iload_n 2, 1)) ∧ (decode cX2_fewestToBeHushed 49 = .ok (.invokestatic 71, 3)) ∧ (decode cX2_fewestToBeHushed 52 = .ok (.iload_n 1, 1)) ∧ (decode cX2_fewestToBeHushed 53 = .ok (.if_icmp .gt 7, 3)) ∧ (decode cX2_fewestToBeHushed 56 = .ok (.iload 5, 2)) ∧ (decode cX2_fewestToBeHushed 58 = .ok (.istore 4, 2)) ∧ (decode cX2_fewestToBeHushed 60 = .ok (.iinc 5 1, 3)) ∧ (decode cX2_fewestToBeHushed 63 = .ok (.goto (-51), 3)) ∧ (decode cX2_fewestToBeHushed 66 = .ok (.iload 4, 2)) ∧ (decode cX2_fewestToBeHushed 68 = .ok (.ireturn, 1)) := by decide +kernel
theorem dX2_fewestToBeHushed_46 : decode cX2_fewestToBeHushed 46 = .ok (.ixor, 1) := dX2_fewestToBeHushed_46_b.1
theorem dX2_fewestToBeHushed_47 : decode cX2_fewestToBeHushed 47 = .ok (.iand, 1) := dX2_fewestToBeHushed_46_b.2.1
theorem dX2_fewestToBeHushed_48 : decode cX2_fewestToBeHushed 48 = .ok (.iload_n 2, 1) := dX2_fewestToBeHushed_46_b.2.2.1
theorem dX2_fewestToBeHushed_49 : decode cX2_fewestToBeHushed 49 = .ok (.invokestatic 71, 3) := dX2_fewestToBeHushed_46_b.2.2.2.1
theorem dX2_fewestToBeHushed_52 : decode cX2_fewestToBeHushed 52 = .ok (.iload_n 1, 1) := dX2_fewestToBeHushed_46_b.2.2.2.2.1
theorem dX2_fewestToBeHushed_53 : decode cX2_fewestToBeHushed 53 = .ok (.if_icmp .gt 7, 3) := dX2_fewestToBeHushed_46_b.2.2.2.2.2.1
theorem dX2_fewestToBeHushed_56 : decode cX2_fewestToBeHushed 56 = .ok (.iload 5, 2) := dX2_fewestToBeHushed_46_b.2.2.2.2.2.2.1
theorem dX2_fewestToBeHushed_58 : decode cX2_fewestToBeHushed 58 = .ok (.istore 4, 2) := dX2_fewestToBeHushed_46_b.2.2.2.2.2.2.2.1
theorem dX2_fewestToBeHushed_60 : decode cX2_fewestToBeHushed 60 = .ok (.iinc 5 1, 3) := dX2_fewestToBeHushed_46_b.2.2.2.2.2.2.2.2.1
theorem dX2_fewestToBeHushed_63 : decode cX2_fewestToBeHushed 63 = .ok (.goto (-51), 3) := dX2_fewestToBeHushed_46_b.2.2.2.2.2.2.2.2.2.1
theorem dX2_fewestToBeHushed_66 : decode cX2_fewestToBeHushed 66 = .ok (.iload 4, 2) := dX2_fewestToBeHushed_46_b.2.2.2.2.2.2.2.2.2.2.1
theorem dX2_fewestToBeHushed_68 : decode cX2_fewestToBeHushed 68 = .ok (.ireturn, 1) := dX2_fewestToBeHushed_46_b.2.2.2.2.2.2.2.2.2.2.2
theorem dX2_fewestToBeCalled_0_b : (decode cX2_fewestToBeCalled 0 = .ok (.aload_n 0, 1)) ∧ (decode cX2_fewestToBeCalled 1 = .ok (.invokevirtual 28, 3)) ∧ (decode cX2_fewestToBeCalled 4 = .ok (.istore_n 3, 1)) ∧ (decode cX2_fewestToBeCalled 5 = .ok (.aload_n 0, 1)) ∧ (decode cX2_fewestToBeCalled 6 = .ok (.invokevirtual 74, 3)) ∧ (decode cX2_fewestToBeCalled 9 = .ok (.istore 4, 2)) ∧ (decode cX2_fewestToBeCalled 11 = .ok (.ldc 32, 2)) ∧ (decode cX2_fewestToBeCalled 13 = .ok (.istore 5, 2)) ∧ (decode cX2_fewestToBeCalled 15 = .ok (.iconst 0, 1)) ∧ (decode cX2_fewestToBeCalled 16 = .ok (.istore 6, 2)) ∧ (decode cX2_fewestToBeCalled 18 = .ok (.iload 6, 2)) ∧ (decode cX2_fewestToBeCalled 20 = .ok (.aload_n 0, 1)) := by decide +kernel
theorem dX2_fewestToBeCalled_0 : decode cX2_fewestToBeCalled 0 = .ok (.aload_n 0, 1) := dX2_fewestToBeCalled_0_b.1
theorem dX2_fewestToBeCalled_1 : decode cX2_fewestToBeCalled 1 = .ok (.invokevirtual 28, 3) := dX2_fewestToBeCalled_0_b.2.1
theorem dX2_fewestToBeCalled_4 : decode cX2_fewestToBeCalled 4 = .ok (.istore_n 3, 1) := dX2_fewestToBeCalled_0_b.2.2.1
theorem dX2_fewestToBeCalled_5 : decode cX2_fewestToBeCalled 5 = .ok (.aload_n 0, 1) := dX2_fewestToBeCalled_0_b.2.2.2.1
theorem dX2_fewestToBeCalled_6 : decode cX2_fewestToBeCalled 6 = .ok (.invokevirtual 74, 3) := dX2_fewestToBeCalled_0_b.2.2.2.2.1
theorem dX2_fewestToBeCalled_9 : decode cX2_fewestToBeCalled 9 = .ok (.istore 4, 2) := dX2_fewestToBeCalled_0_b.2.2.2.2.2.1
theorem dX2_fewestToBeCalled_11 : decode cX2_fewestToBeCalled 11 = .ok (.ldc 32, 2) := dX2_fewestToBeCalled_0_b.2.2.2.2.2.2.1
theorem dX2_fewestToBeCalled_13 : decode cX2_fewestToBeCalled 13 = .ok (.istore 5, 2) := dX2_fewestToBeCalled_0_b.2.2.2.2.2.2.2.1
theorem dX2_fewestToBeCalled_15 : decode cX2_fewestToBeCalled 15 = .ok (.iconst 0, 1) := dX2_fewestToBeCalled_0_b.2.2.2.2.2.2.2.2.1
theorem dX2_fewestToBeCalled_16 : decode cX2_fewestToBeCalled 16 = .ok (.istore 6, 2) := dX2_fewestToBeCalled_0_b.2.2.2.2.2.2.2.2.2.1
theorem dX2_fewestToBeCalled_18 : decode cX2_fewestToBeCalled 18 = .ok (.iload 6, 2) := dX2_fewestToBeCalled_0_b.2.2.2.2.2.2.2.2.2.2.1
theorem dX2_fewestToBeCalled_20 : decode cX2_fewestToBeCalled 20 = .ok (.aload_n 0, 1) := dX2_fewestToBeCalled_0_b.2.2.2.2.2.2.2.2.2.2.2
theorem dX2_fewestToBeCalled_21_b : (decode cX2_fewestToBeCalled 21 = .ok (.invokevirtual 61, 3)) ∧ (decode cX2_fewestToBeCalled 24 = .ok (.if_icmp .ge 44, 3)) ∧ (decode cX2_fewestToBeCalled 27 = .ok (.iload 6, 2)) ∧ (decode cX2_fewestToBeCalled 29 = .ok (.iload 4, 2)) ∧ (decode cX2_fewestToBeCalled 31 = .ok (.iand, 1)) ∧ (decode cX2_fewestToBeCalled 32 = .ok (.ifCond .ne 30, 3)) ∧ (decode cX2_fewestToBeCalled 35 = .ok (.iload 6, 2)) ∧ (decode cX2_fewestToBeCalled 37 = .ok (.iload 5, 2)) ∧ (decode cX2_fewestToBeCalled 39 = .ok (.invokestatic 67, 3)) ∧ (decode cX2_fewestToBeCalled 42 = .ok (.ifCond .eq 20, 3)) ∧ (decode cX2_fewestToBeCalled 45 = .ok (.aload_n 0, 1)) ∧ (decode cX2_fewestToBeCalled 46 = .ok (.iload_n 3, 1)) := by decide +kernel
theorem dX2_fewestToBeCalled_21 : decode cX2_fewestToBeCalled 21 = .ok (.invokevirtual 61, 3) := dX2_fewestToBeCalled_21_b.1
theorem dX2_fewestToBeCalled_24 : decode cX2_fewestToBeCalled 24 = .ok (.if_icmp .ge 44, 3) := dX2_fewestToBeCalled_21_b.2.1
theorem dX2_fewestToBeCalled_27 : decode cX2_fewestToBeCalled 27 = .ok (.iload 6, 2) := dX2_fewestToBeCalled_21_b.2.2.1
theorem dX2_fewestToBeCalled_29 : decode cX2_fewestToBeCalled 29 = .ok (.iload 4, 2) := dX2_fewestToBeCalled_21_b.2.2.2.1
theorem dX2_fewestToBeCalled_31 : decode cX2_fewestToBeCalled 31 = .ok (.iand, 1) := dX2_fewestToBeCalled_21_b.2.2.2.2.1
theorem dX2_fewestToBeCalled_32 : decode cX2_fewestToBeCalled 32 = .ok (.ifCond .ne 30, 3) := dX2_fewestToBeCalled_21_b.2.2.2.2.2.1
theorem dX2_fewestToBeCalled_35 : decode cX2_fewestToBeCalled 35 = .ok (.iload 6, 2) := dX2_fewestToBeCalled_21_b.2.2.2.2.2.2.1
theorem dX2_fewestToBeCalled_37 : decode cX2_fewestToBeCalled 37 = .ok (.iload 5, 2) := dX2_fewestToBeCalled_21_b.2.2.2.2.2.2.2.1
theorem dX2_fewestToBeCalled_39 : decode cX2_fewestToBeCalled 39 = .ok (.invokestatic 67, 3) := dX2_fewestToBeCalled_21_b.2.2.2.2.2.2.2.2.1
theorem dX2_fewestToBeCalled_42 : decode cX2_fewestToBeCalled 42 = .ok (.ifCond .eq 20, 3) := dX2_fewestToBeCalled_21_b.2.2.2.2.2.2.2.2.2.1
theorem dX2_fewestToBeCalled_45 : decode cX2_fewestToBeCalled 45 = .ok (.aload_n 0, 1) := dX2_fewestToBeCalled_21_b.2.2.2.2.2.2.2.2.2.2.1
theorem dX2_fewestToBeCalled_46 : decode cX2_fewestToBeCalled 46 = .ok (.iload_n 3, 1) := dX2_fewestToBeCalled_21_b.2.2.2.2.2.2.2.2.2.2.2
theorem dX2_fewestToBeCalled_47_b : (decode cX2_fewestToBeCalled 47 = .ok (.iload 6, 2)) ∧ (decode cX2_fewestToBeCalled 49 = .ok (.ior, 1)) ∧ (decode cX2_fewestToBeCalled 50 = .ok (.iload_n 2, 1)) ∧ (decode cX2_fewestToBeCalled 51 = .ok (.invokestatic 71, 3)) ∧ (decode cX2_fewestToBeCalled 54 = .ok (.iload_n 1, 1)) ∧ (decode cX2_fewestToBeCalled 55 = .ok (.if_icmp .lt 7, 3)) ∧ (decode cX2_fewestToBeCalled 58 = .ok (.iload 6, 2)) ∧ (decode cX2_fewestToBeCalled 60 = .ok (.istore 5, 2)) ∧ (decode cX2_fewestToBeCalled 62 = .ok (.iinc 6 1, 3)) ∧ (decode cX2_fewestToBeCalled 65 = .ok (.goto (-47), 3)) ∧ (decode cX2_fewestToBeCalled 68 = .ok (.iload 5, 2)) ∧ (decode cX2_fewestToBeCalled 70 = .ok (.ireturn, 1)) := by decide +kernel
theorem dX2_fewestToBeCalled_47 : decode cX2_fewestToBeCalled 47 = .ok (.iload 6, 2) := dX2_fewestToBeCalled_47_b.1
theorem dX2_fewestToBeCalled_49 : decode cX2_fewestToBeCalled 49 = .ok (.ior, 1) := dX2_fewestToBeCalled_47_b.2.1
theorem dX2_fewestToBeCalled_50 : decode cX2_fewestToBeCalled 50 = .ok (.iload_n 2, 1) := dX2_fewestToBeCalled_47_b.2.2.1
theorem dX2_fewestToBeCalled_51 : decode cX2_fewestToBeCalled 51 = .ok (.invokestatic 71, 3) := dX2_fewestToBeCalled_47_b.2.2.2.1
theorem dX2_fewestToBeCalled_54 : decode cX2_fewestToBeCalled 54 = .ok (.iload_n 1, 1) := dX2_fewestToBeCalled_47_b.2.2.2.2.1
theorem dX2_fewestToBeCalled_55 : decode cX2_fewestToBeCalled 55 = .ok (.if_icmp .lt 7, 3) := dX2_fewestToBeCalled_47_b.2.2.2.2.2.1
theorem dX2_fewestToBeCalled_58 : decode cX2_fewestToBeCalled 58 = .ok (.iload 6, 2) := dX2_fewestToBeCalled_47_b.2.2.2.2.2.2.1
theorem dX2_fewestToBeCalled_60 : decode cX2_fewestToBeCalled 60 = .ok (.istore 5, 2) := dX2_fewestToBeCalled_47_b.2.2.2.2.2.2.2.1
theorem dX2_fewestToBeCalled_62 : decode cX2_fewestToBeCalled 62 = .ok (.iinc 6 1, 3) := dX2_fewestToBeCalled_47_b.2.2.2.2.2.2.2.2.1
theorem dX2_fewestToBeCalled_65 : decode cX2_fewestToBeCalled 65 = .ok (.goto (-47), 3) := dX2_fewestToBeCalled_47_b.2.2.2.2.2.2.2.2.2.1
theorem dX2_fewestToBeCalled_68 : decode cX2_fewestToBeCalled 68 = .ok (.iload 5, 2) := dX2_fewestToBeCalled_47_b.2.2.2.2.2.2.2.2.2.2.1
theorem dX2_fewestToBeCalled_70 : decode cX2_fewestToBeCalled 70 = .ok (.ireturn, 1) := dX2_fewestToBeCalled_47_b.2.2.2.2.2.2.2.2.2.2.2
theorem dX2_isFewer_0_b : (decode cX2_isFewer 0 = .ok (.iload_n 1, 1)) ∧ (decode cX2_isFewer 1 = .ok (.ldc 32, 2)) ∧ (decode cX2_isFewer 3 = .ok (.if_icmp .eq 14, 3)) ∧ (decode cX2_isFewer 6 = .ok (.iload_n 0, 1)) ∧ (decode cX2_isFewer 7 = .ok (.invokestatic 77, 3)) ∧ (decode cX2_isFewer 10 = .ok (.iload_n 1, 1)) ∧ (decode cX2_isFewer 11 = .ok (.invokestatic 77, 3)) ∧ (decode cX2_isFewer 14 = .ok (.if_icmp .ge 7, 3)) ∧ (decode cX2_isFewer 17 = .ok (.iconst 1, 1)) ∧ (decode cX2_isFewer 18 = .ok (.goto 4, 3)) ∧ (decode cX2_isFewer 21 = .ok (.iconst 0, 1)) ∧ (decode cX2_isFewer 22 = .ok (.ireturn, 1)) := by decide +kernel
theorem dX2_isFewer_0 : decode cX2_isFewer 0 = .ok (.iload_n 1, 1) := dX2_isFewer_0_b.1
theorem dX2_isFewer_1 : decode cX2_isFewer 1 = .ok (.ldc 32, 2) := dX2_isFewer_0_b.2.1
theorem dX2_isFewer_3 : decode cX2_isFewer 3 = .ok (.if_icmp .eq 14, 3) := dX2_isFewer_0_b.2.2.1
theorem dX2_isFewer_6 : decode cX2_isFewer 6 = .ok (.iload_n 0, 1) := dX2_isFewer_0_b.2.2.2.1
theorem dX2_isFewer_7 : decode cX2_isFewer 7 = .ok (.invokestatic 77, 3) := dX2_isFewer_0_b.2.2.2.2.1
theorem dX2_isFewer_10 : decode cX2_isFewer 10 = .ok (.iload_n 1, 1) := dX2_isFewer_0_b.2.2.2.2.2.1
theorem dX2_isFewer_11 : decode cX2_isFewer 11 = .ok (.invokestatic 77, 3) := dX2_isFewer_0_b.2.2.2.2.2.2.1
theorem dX2_isFewer_14 : decode cX2_isFewer 14 = .ok (.if_icmp .ge 7, 3) := dX2_isFewer_0_b.2.2.2.2.2.2.2.1
theorem dX2_isFewer_17 : decode cX2_isFewer 17 = .ok (.iconst 1, 1) := dX2_isFewer_0_b.2.2.2.2.2.2.2.2.1
theorem dX2_isFewer_18 : decode cX2_isFewer 18 = .ok (.goto 4, 3) := dX2_isFewer_0_b.2.2.2.2.2.2.2.2.2.1
theorem dX2_isFewer_21 : decode cX2_isFewer 21 = .ok (.iconst 0, 1) := dX2_isFewer_0_b.2.2.2.2.2.2.2.2.2.2.1
theorem dX2_isFewer_22 : decode cX2_isFewer 22 = .ok (.ireturn, 1) := dX2_isFewer_0_b.2.2.2.2.2.2.2.2.2.2.2
theorem dX2_goesSo_0_b : (decode cX2_goesSo 0 = .ok (.iconst 0, 1)) ∧ (decode cX2_goesSo 1 = .ok (.istore 6, 2)) ∧ (decode cX2_goesSo 3 = .ok (.iload 6, 2)) ∧ (decode cX2_goesSo 5 = .ok (.iload 5, 2)) ∧ (decode cX2_goesSo 7 = .ok (.if_icmp .ge 36, 3)) ∧ (decode cX2_goesSo 10 = .ok (.aload_n 0, 1)) ∧ (decode cX2_goesSo 11 = .ok (.iload_n 1, 1)) ∧ (decode cX2_goesSo 12 = .ok (.aload_n 0, 1)) ∧ (decode cX2_goesSo 13 = .ok (.getfield 15, 3)) ∧ (decode cX2_goesSo 16 = .ok (.iload 6, 2)) ∧ (decode cX2_goesSo 18 = .ok (.iadd, 1)) ∧ (decode cX2_goesSo 19 = .ok (.invokevirtual 18, 3)) := by decide +kernel
theorem dX2_goesSo_0 : decode cX2_goesSo 0 = .ok (.iconst 0, 1) := dX2_goesSo_0_b.1
theorem dX2_goesSo_1 : decode cX2_goesSo 1 = .ok (.istore 6, 2) := dX2_goesSo_0_b.2.1
theorem dX2_goesSo_3 : decode cX2_goesSo 3 = .ok (.iload 6, 2) := dX2_goesSo_0_b.2.2.1
theorem dX2_goesSo_5 : decode cX2_goesSo 5 = .ok (.iload 5, 2) := dX2_goesSo_0_b.2.2.2.1
theorem dX2_goesSo_7 : decode cX2_goesSo 7 = .ok (.if_icmp .ge 36, 3) := dX2_goesSo_0_b.2.2.2.2.1
theorem dX2_goesSo_10 : decode cX2_goesSo 10 = .ok (.aload_n 0, 1) := dX2_goesSo_0_b.2.2.2.2.2.1
theorem dX2_goesSo_11 : decode cX2_goesSo 11 = .ok (.iload_n 1, 1) := dX2_goesSo_0_b.2.2.2.2.2.2.1
theorem dX2_goesSo_12 : decode cX2_goesSo 12 = .ok (.aload_n 0, 1) := dX2_goesSo_0_b.2.2.2.2.2.2.2.1
theorem dX2_goesSo_13 : decode cX2_goesSo 13 = .ok (.getfield 15, 3) := dX2_goesSo_0_b.2.2.2.2.2.2.2.2.1
theorem dX2_goesSo_16 : decode cX2_goesSo 16 = .ok (.iload 6, 2) := dX2_goesSo_0_b.2.2.2.2.2.2.2.2.2.1
theorem dX2_goesSo_18 : decode cX2_goesSo 18 = .ok (.iadd, 1) := dX2_goesSo_0_b.2.2.2.2.2.2.2.2.2.2.1
theorem dX2_goesSo_19 : decode cX2_goesSo 19 = .ok (.invokevirtual 18, 3) := dX2_goesSo_0_b.2.2.2.2.2.2.2.2.2.2.2
theorem dX2_goesSo_22_b : (decode cX2_goesSo 22 = .ok (.aload_n 2, 1)) ∧ (decode cX2_goesSo 23 = .ok (.iload_n 3, 1)) ∧ (decode cX2_goesSo 24 = .ok (.iload 4, 2)) ∧ (decode cX2_goesSo 26 = .ok (.iload 6, 2)) ∧ (decode cX2_goesSo 28 = .ok (.iadd, 1)) ∧ (decode cX2_goesSo 29 = .ok (.invokevirtual 82, 3)) ∧ (decode cX2_goesSo 32 = .ok (.if_icmp .eq 5, 3)) ∧ (decode cX2_goesSo 35 = .ok (.iconst 0, 1)) ∧ (decode cX2_goesSo 36 = .ok (.ireturn, 1)) ∧ (decode cX2_goesSo 37 = .ok (.iinc 6 1, 3)) ∧ (decode cX2_goesSo 40 = .ok (.goto (-37), 3)) ∧ (decode cX2_goesSo 43 = .ok (.iconst 1, 1)) := by decide +kernel
theorem dX2_goesSo_22 : decode cX2_goesSo 22 = .ok (.aload_n 2, 1) := dX2_goesSo_22_b.1
theorem dX2_goesSo_23 : decode cX2_goesSo 23 = .ok (.iload_n 3, 1) := dX2_goesSo_22_b.2.1
theorem dX2_goesSo_24 : decode cX2_goesSo 24 = .ok (.iload 4, 2) := dX2_goesSo_22_b.2.2.1
theorem dX2_goesSo_26 : decode cX2_goesSo 26 = .ok (.iload 6, 2) := dX2_goesSo_22_b.2.2.2.1
theorem dX2_goesSo_28 : decode cX2_goesSo 28 = .ok (.iadd, 1) := dX2_goesSo_22_b.2.2.2.2.1
theorem dX2_goesSo_29 : decode cX2_goesSo 29 = .ok (.invokevirtual 82, 3) := dX2_goesSo_22_b.2.2.2.2.2.1
theorem dX2_goesSo_32 : decode cX2_goesSo 32 = .ok (.if_icmp .eq 5, 3) := dX2_goesSo_22_b.2.2.2.2.2.2.1
theorem dX2_goesSo_35 : decode cX2_goesSo 35 = .ok (.iconst 0, 1) := dX2_goesSo_22_b.2.2.2.2.2.2.2.1
theorem dX2_goesSo_36 : decode cX2_goesSo 36 = .ok (.ireturn, 1) := dX2_goesSo_22_b.2.2.2.2.2.2.2.2.1
theorem dX2_goesSo_37 : decode cX2_goesSo 37 = .ok (.iinc 6 1, 3) := dX2_goesSo_22_b.2.2.2.2.2.2.2.2.2.1
theorem dX2_goesSo_40 : decode cX2_goesSo 40 = .ok (.goto (-37), 3) := dX2_goesSo_22_b.2.2.2.2.2.2.2.2.2.2.1
theorem dX2_goesSo_43 : decode cX2_goesSo 43 = .ok (.iconst 1, 1) := dX2_goesSo_22_b.2.2.2.2.2.2.2.2.2.2.2
theorem dX2_goesSo_44 : decode cX2_goesSo 44 = .ok (.ireturn, 1) := by decide +kernel
theorem dX2_setsThatGoSo_0_b : (decode cX2_setsThatGoSo 0 = .ok (.lconst 0, 1)) ∧ (decode cX2_setsThatGoSo 1 = .ok (.lstore 5, 2)) ∧ (decode cX2_setsThatGoSo 3 = .ok (.iconst 0, 1)) ∧ (decode cX2_setsThatGoSo 4 = .ok (.istore 7, 2)) ∧ (decode cX2_setsThatGoSo 6 = .ok (.iload 7, 2)) ∧ (decode cX2_setsThatGoSo 8 = .ok (.aload_n 0, 1)) ∧ (decode cX2_setsThatGoSo 9 = .ok (.invokevirtual 61, 3)) ∧ (decode cX2_setsThatGoSo 12 = .ok (.if_icmp .ge 32, 3)) ∧ (decode cX2_setsThatGoSo 15 = .ok (.aload_n 0, 1)) ∧ (decode cX2_setsThatGoSo 16 = .ok (.iload 7, 2)) ∧ (decode cX2_setsThatGoSo 18 = .ok (.aload_n 1, 1)) ∧ (decode cX2_setsThatGoSo 19 = .ok (.iload_n 2, 1)) := by decide +kernel
theorem dX2_setsThatGoSo_0 : decode cX2_setsThatGoSo 0 = .ok (.lconst 0, 1) := dX2_setsThatGoSo_0_b.1
theorem dX2_setsThatGoSo_1 : decode cX2_setsThatGoSo 1 = .ok (.lstore 5, 2) := dX2_setsThatGoSo_0_b.2.1
theorem dX2_setsThatGoSo_3 : decode cX2_setsThatGoSo 3 = .ok (.iconst 0, 1) := dX2_setsThatGoSo_0_b.2.2.1
theorem dX2_setsThatGoSo_4 : decode cX2_setsThatGoSo 4 = .ok (.istore 7, 2) := dX2_setsThatGoSo_0_b.2.2.2.1
theorem dX2_setsThatGoSo_6 : decode cX2_setsThatGoSo 6 = .ok (.iload 7, 2) := dX2_setsThatGoSo_0_b.2.2.2.2.1
theorem dX2_setsThatGoSo_8 : decode cX2_setsThatGoSo 8 = .ok (.aload_n 0, 1) := dX2_setsThatGoSo_0_b.2.2.2.2.2.1
theorem dX2_setsThatGoSo_9 : decode cX2_setsThatGoSo 9 = .ok (.invokevirtual 61, 3) := dX2_setsThatGoSo_0_b.2.2.2.2.2.2.1
theorem dX2_setsThatGoSo_12 : decode cX2_setsThatGoSo 12 = .ok (.if_icmp .ge 32, 3) := dX2_setsThatGoSo_0_b.2.2.2.2.2.2.2.1
theorem dX2_setsThatGoSo_15 : decode cX2_setsThatGoSo 15 = .ok (.aload_n 0, 1) := dX2_setsThatGoSo_0_b.2.2.2.2.2.2.2.2.1
theorem dX2_setsThatGoSo_16 : decode cX2_setsThatGoSo 16 = .ok (.iload 7, 2) := dX2_setsThatGoSo_0_b.2.2.2.2.2.2.2.2.2.1
theorem dX2_setsThatGoSo_18 : decode cX2_setsThatGoSo 18 = .ok (.aload_n 1, 1) := dX2_setsThatGoSo_0_b.2.2.2.2.2.2.2.2.2.2.1
theorem dX2_setsThatGoSo_19 : decode cX2_setsThatGoSo 19 = .ok (.iload_n 2, 1) := dX2_setsThatGoSo_0_b.2.2.2.2.2.2.2.2.2.2.2
theorem dX2_setsThatGoSo_20_b : (decode cX2_setsThatGoSo 20 = .ok (.iload_n 3, 1)) ∧ (decode cX2_setsThatGoSo 21 = .ok (.iload 4, 2)) ∧ (decode cX2_setsThatGoSo 23 = .ok (.invokestatic 87, 3)) ∧ (decode cX2_setsThatGoSo 26 = .ok (.ifCond .eq 12, 3)) ∧ (decode cX2_setsThatGoSo 29 = .ok (.lload 5, 2)) ∧ (decode cX2_setsThatGoSo 31 = .ok (.lconst 1, 1)) ∧ (decode cX2_setsThatGoSo 32 = .ok (.iload 7, 2)) ∧ (decode cX2_setsThatGoSo 34 = .ok (.lshl, 1)) ∧ (decode cX2_setsThatGoSo 35 = .ok (.lor, 1)) ∧ (decode cX2_setsThatGoSo 36 = .ok (.lstore 5, 2)) ∧ (decode cX2_setsThatGoSo 38 = .ok (.iinc 7 1, 3)) ∧ (decode cX2_setsThatGoSo 41 = .ok (.goto (-35), 3)) := by decide +kernel
theorem dX2_setsThatGoSo_20 : decode cX2_setsThatGoSo 20 = .ok (.iload_n 3, 1) := dX2_setsThatGoSo_20_b.1
theorem dX2_setsThatGoSo_21 : decode cX2_setsThatGoSo 21 = .ok (.iload 4, 2) := dX2_setsThatGoSo_20_b.2.1
theorem dX2_setsThatGoSo_23 : decode cX2_setsThatGoSo 23 = .ok (.invokestatic 87, 3) := dX2_setsThatGoSo_20_b.2.2.1
theorem dX2_setsThatGoSo_26 : decode cX2_setsThatGoSo 26 = .ok (.ifCond .eq 12, 3) := dX2_setsThatGoSo_20_b.2.2.2.1
theorem dX2_setsThatGoSo_29 : decode cX2_setsThatGoSo 29 = .ok (.lload 5, 2) := dX2_setsThatGoSo_20_b.2.2.2.2.1
theorem dX2_setsThatGoSo_31 : decode cX2_setsThatGoSo 31 = .ok (.lconst 1, 1) := dX2_setsThatGoSo_20_b.2.2.2.2.2.1
theorem dX2_setsThatGoSo_32 : decode cX2_setsThatGoSo 32 = .ok (.iload 7, 2) := dX2_setsThatGoSo_20_b.2.2.2.2.2.2.1
theorem dX2_setsThatGoSo_34 : decode cX2_setsThatGoSo 34 = .ok (.lshl, 1) := dX2_setsThatGoSo_20_b.2.2.2.2.2.2.2.1
theorem dX2_setsThatGoSo_35 : decode cX2_setsThatGoSo 35 = .ok (.lor, 1) := dX2_setsThatGoSo_20_b.2.2.2.2.2.2.2.2.1
theorem dX2_setsThatGoSo_36 : decode cX2_setsThatGoSo 36 = .ok (.lstore 5, 2) := dX2_setsThatGoSo_20_b.2.2.2.2.2.2.2.2.2.1
theorem dX2_setsThatGoSo_38 : decode cX2_setsThatGoSo 38 = .ok (.iinc 7 1, 3) := dX2_setsThatGoSo_20_b.2.2.2.2.2.2.2.2.2.2.1
theorem dX2_setsThatGoSo_41 : decode cX2_setsThatGoSo 41 = .ok (.goto (-35), 3) := dX2_setsThatGoSo_20_b.2.2.2.2.2.2.2.2.2.2.2
theorem dX2_setsThatGoSo_44_b : (decode cX2_setsThatGoSo 44 = .ok (.lload 5, 2)) ∧ (decode cX2_setsThatGoSo 46 = .ok (.lreturn, 1)) := by decide +kernel
theorem dX2_setsThatGoSo_44 : decode cX2_setsThatGoSo 44 = .ok (.lload 5, 2) := dX2_setsThatGoSo_44_b.1
theorem dX2_setsThatGoSo_46 : decode cX2_setsThatGoSo 46 = .ok (.lreturn, 1) := dX2_setsThatGoSo_44_b.2
theorem dX2_heedsThatGoSo_0_b : (decode cX2_heedsThatGoSo 0 = .ok (.aload_n 0, 1)) ∧ (decode cX2_heedsThatGoSo 1 = .ok (.invokevirtual 28, 3)) ∧ (decode cX2_heedsThatGoSo 4 = .ok (.istore 6, 2)) ∧ (decode cX2_heedsThatGoSo 6 = .ok (.aload_n 0, 1)) ∧ (decode cX2_heedsThatGoSo 7 = .ok (.getfield 91, 3)) ∧ (decode cX2_heedsThatGoSo 10 = .ok (.iload_n 1, 1)) ∧ (decode cX2_heedsThatGoSo 11 = .ok (.iaload, 1)) ∧ (decode cX2_heedsThatGoSo 12 = .ok (.istore 7, 2)) ∧ (decode cX2_heedsThatGoSo 14 = .ok (.iconst 0, 1)) ∧ (decode cX2_heedsThatGoSo 15 = .ok (.istore 8, 2)) ∧ (decode cX2_heedsThatGoSo 17 = .ok (.iconst 1, 1)) ∧ (decode cX2_heedsThatGoSo 18 = .ok (.istore 9, 2)) := by decide +kernel
theorem dX2_heedsThatGoSo_0 : decode cX2_heedsThatGoSo 0 = .ok (.aload_n 0, 1) := dX2_heedsThatGoSo_0_b.1
theorem dX2_heedsThatGoSo_1 : decode cX2_heedsThatGoSo 1 = .ok (.invokevirtual 28, 3) := dX2_heedsThatGoSo_0_b.2.1
theorem dX2_heedsThatGoSo_4 : decode cX2_heedsThatGoSo 4 = .ok (.istore 6, 2) := dX2_heedsThatGoSo_0_b.2.2.1
theorem dX2_heedsThatGoSo_6 : decode cX2_heedsThatGoSo 6 = .ok (.aload_n 0, 1) := dX2_heedsThatGoSo_0_b.2.2.2.1
theorem dX2_heedsThatGoSo_7 : decode cX2_heedsThatGoSo 7 = .ok (.getfield 91, 3) := dX2_heedsThatGoSo_0_b.2.2.2.2.1
theorem dX2_heedsThatGoSo_10 : decode cX2_heedsThatGoSo 10 = .ok (.iload_n 1, 1) := dX2_heedsThatGoSo_0_b.2.2.2.2.2.1
theorem dX2_heedsThatGoSo_11 : decode cX2_heedsThatGoSo 11 = .ok (.iaload, 1) := dX2_heedsThatGoSo_0_b.2.2.2.2.2.2.1
theorem dX2_heedsThatGoSo_12 : decode cX2_heedsThatGoSo 12 = .ok (.istore 7, 2) := dX2_heedsThatGoSo_0_b.2.2.2.2.2.2.2.1
theorem dX2_heedsThatGoSo_14 : decode cX2_heedsThatGoSo 14 = .ok (.iconst 0, 1) := dX2_heedsThatGoSo_0_b.2.2.2.2.2.2.2.2.1
theorem dX2_heedsThatGoSo_15 : decode cX2_heedsThatGoSo 15 = .ok (.istore 8, 2) := dX2_heedsThatGoSo_0_b.2.2.2.2.2.2.2.2.2.1
theorem dX2_heedsThatGoSo_17 : decode cX2_heedsThatGoSo 17 = .ok (.iconst 1, 1) := dX2_heedsThatGoSo_0_b.2.2.2.2.2.2.2.2.2.2.1
theorem dX2_heedsThatGoSo_18 : decode cX2_heedsThatGoSo 18 = .ok (.istore 9, 2) := dX2_heedsThatGoSo_0_b.2.2.2.2.2.2.2.2.2.2.2
theorem dX2_heedsThatGoSo_20_b : (decode cX2_heedsThatGoSo 20 = .ok (.iload 9, 2)) ∧ (decode cX2_heedsThatGoSo 22 = .ok (.bipush 12, 2)) ∧ (decode cX2_heedsThatGoSo 24 = .ok (.if_icmp .gt 43, 3)) ∧ (decode cX2_heedsThatGoSo 27 = .ok (.aload_n 0, 1)) ∧ (decode cX2_heedsThatGoSo 28 = .ok (.getfield 91, 3)) ∧ (decode cX2_heedsThatGoSo 31 = .ok (.iload_n 1, 1)) ∧ (decode cX2_heedsThatGoSo 32 = .ok (.iload 9, 2)) ∧ (decode cX2_heedsThatGoSo 34 = .ok (.iastore, 1)) ∧ (decode cX2_heedsThatGoSo 35 = .ok (.aload_n 0, 1)) ∧ (decode cX2_heedsThatGoSo 36 = .ok (.iload 6, 2)) ∧ (decode cX2_heedsThatGoSo 38 = .ok (.aload_n 2, 1)) ∧ (decode cX2_heedsThatGoSo 39 = .ok (.iload_n 3, 1)) := by decide +kernel
theorem dX2_heedsThatGoSo_20 : decode cX2_heedsThatGoSo 20 = .ok (.iload 9, 2) := dX2_heedsThatGoSo_20_b.1
theorem dX2_heedsThatGoSo_22 : decode cX2_heedsThatGoSo 22 = .ok (.bipush 12, 2) := dX2_heedsThatGoSo_20_b.2.1
theorem dX2_heedsThatGoSo_24 : decode cX2_heedsThatGoSo 24 = .ok (.if_icmp .gt 43, 3) := dX2_heedsThatGoSo_20_b.2.2.1
theorem dX2_heedsThatGoSo_27 : decode cX2_heedsThatGoSo 27 = .ok (.aload_n 0, 1) := dX2_heedsThatGoSo_20_b.2.2.2.1
theorem dX2_heedsThatGoSo_28 : decode cX2_heedsThatGoSo 28 = .ok (.getfield 91, 3) := dX2_heedsThatGoSo_20_b.2.2.2.2.1
theorem dX2_heedsThatGoSo_31 : decode cX2_heedsThatGoSo 31 = .ok (.iload_n 1, 1) := dX2_heedsThatGoSo_20_b.2.2.2.2.2.1
theorem dX2_heedsThatGoSo_32 : decode cX2_heedsThatGoSo 32 = .ok (.iload 9, 2) := dX2_heedsThatGoSo_20_b.2.2.2.2.2.2.1
theorem dX2_heedsThatGoSo_34 : decode cX2_heedsThatGoSo 34 = .ok (.iastore, 1) := dX2_heedsThatGoSo_20_b.2.2.2.2.2.2.2.1
theorem dX2_heedsThatGoSo_35 : decode cX2_heedsThatGoSo 35 = .ok (.aload_n 0, 1) := dX2_heedsThatGoSo_20_b.2.2.2.2.2.2.2.2.1
theorem dX2_heedsThatGoSo_36 : decode cX2_heedsThatGoSo 36 = .ok (.iload 6, 2) := dX2_heedsThatGoSo_20_b.2.2.2.2.2.2.2.2.2.1
theorem dX2_heedsThatGoSo_38 : decode cX2_heedsThatGoSo 38 = .ok (.aload_n 2, 1) := dX2_heedsThatGoSo_20_b.2.2.2.2.2.2.2.2.2.2.1
theorem dX2_heedsThatGoSo_39 : decode cX2_heedsThatGoSo 39 = .ok (.iload_n 3, 1) := dX2_heedsThatGoSo_20_b.2.2.2.2.2.2.2.2.2.2.2
theorem dX2_heedsThatGoSo_40_b : (decode cX2_heedsThatGoSo 40 = .ok (.iload 4, 2)) ∧ (decode cX2_heedsThatGoSo 42 = .ok (.iload 5, 2)) ∧ (decode cX2_heedsThatGoSo 44 = .ok (.invokestatic 87, 3)) ∧ (decode cX2_heedsThatGoSo 47 = .ok (.ifCond .eq 14, 3)) ∧ (decode cX2_heedsThatGoSo 50 = .ok (.iload 8, 2)) ∧ (decode cX2_heedsThatGoSo 52 = .ok (.iconst 1, 1)) ∧ (decode cX2_heedsThatGoSo 53 = .ok (.iload 9, 2)) ∧ (decode cX2_heedsThatGoSo 55 = .ok (.iconst 1, 1)) ∧ (decode cX2_heedsThatGoSo 56 = .ok (.isub, 1)) ∧ (decode cX2_heedsThatGoSo 57 = .ok (.ishl, 1)) ∧ (decode cX2_heedsThatGoSo 58 = .ok (.ior, 1)) ∧ (decode cX2_heedsThatGoSo 59 = .ok (.istore 8, 2)) := by decide +kernel
theorem dX2_heedsThatGoSo_40 : decode cX2_heedsThatGoSo 40 = .ok (.iload 4, 2) := dX2_heedsThatGoSo_40_b.1
theorem dX2_heedsThatGoSo_42 : decode cX2_heedsThatGoSo 42 = .ok (.iload 5, 2) := dX2_heedsThatGoSo_40_b.2.1
theorem dX2_heedsThatGoSo_44 : decode cX2_heedsThatGoSo 44 = .ok (.invokestatic 87, 3) := dX2_heedsThatGoSo_40_b.2.2.1
theorem dX2_heedsThatGoSo_47 : decode cX2_heedsThatGoSo 47 = .ok (.ifCond .eq 14, 3) := dX2_heedsThatGoSo_40_b.2.2.2.1
theorem dX2_heedsThatGoSo_50 : decode cX2_heedsThatGoSo 50 = .ok (.iload 8, 2) := dX2_heedsThatGoSo_40_b.2.2.2.2.1
theorem dX2_heedsThatGoSo_52 : decode cX2_heedsThatGoSo 52 = .ok (.iconst 1, 1) := dX2_heedsThatGoSo_40_b.2.2.2.2.2.1
theorem dX2_heedsThatGoSo_53 : decode cX2_heedsThatGoSo 53 = .ok (.iload 9, 2) := dX2_heedsThatGoSo_40_b.2.2.2.2.2.2.1
theorem dX2_heedsThatGoSo_55 : decode cX2_heedsThatGoSo 55 = .ok (.iconst 1, 1) := dX2_heedsThatGoSo_40_b.2.2.2.2.2.2.2.1
theorem dX2_heedsThatGoSo_56 : decode cX2_heedsThatGoSo 56 = .ok (.isub, 1) := dX2_heedsThatGoSo_40_b.2.2.2.2.2.2.2.2.1
theorem dX2_heedsThatGoSo_57 : decode cX2_heedsThatGoSo 57 = .ok (.ishl, 1) := dX2_heedsThatGoSo_40_b.2.2.2.2.2.2.2.2.2.1
theorem dX2_heedsThatGoSo_58 : decode cX2_heedsThatGoSo 58 = .ok (.ior, 1) := dX2_heedsThatGoSo_40_b.2.2.2.2.2.2.2.2.2.2.1
theorem dX2_heedsThatGoSo_59 : decode cX2_heedsThatGoSo 59 = .ok (.istore 8, 2) := dX2_heedsThatGoSo_40_b.2.2.2.2.2.2.2.2.2.2.2
theorem dX2_heedsThatGoSo_61_b : (decode cX2_heedsThatGoSo 61 = .ok (.iinc 9 1, 3)) ∧ (decode cX2_heedsThatGoSo 64 = .ok (.goto (-44), 3)) ∧ (decode cX2_heedsThatGoSo 67 = .ok (.aload_n 0, 1)) ∧ (decode cX2_heedsThatGoSo 68 = .ok (.getfield 91, 3)) ∧ (decode cX2_heedsThatGoSo 71 = .ok (.iload_n 1, 1)) ∧ (decode cX2_heedsThatGoSo 72 = .ok (.iload 7, 2)) ∧ (decode cX2_heedsThatGoSo 74 = .ok (.iastore, 1)) ∧ (decode cX2_heedsThatGoSo 75 = .ok (.iload 8, 2)) ∧ (decode cX2_heedsThatGoSo 77 = .ok (.ireturn, 1)) := by decide +kernel
theorem dX2_heedsThatGoSo_61 : decode cX2_heedsThatGoSo 61 = .ok (.iinc 9 1, 3) := dX2_heedsThatGoSo_61_b.1
theorem dX2_heedsThatGoSo_64 : decode cX2_heedsThatGoSo 64 = .ok (.goto (-44), 3) := dX2_heedsThatGoSo_61_b.2.1
theorem dX2_heedsThatGoSo_67 : decode cX2_heedsThatGoSo 67 = .ok (.aload_n 0, 1) := dX2_heedsThatGoSo_61_b.2.2.1
theorem dX2_heedsThatGoSo_68 : decode cX2_heedsThatGoSo 68 = .ok (.getfield 91, 3) := dX2_heedsThatGoSo_61_b.2.2.2.1
theorem dX2_heedsThatGoSo_71 : decode cX2_heedsThatGoSo 71 = .ok (.iload_n 1, 1) := dX2_heedsThatGoSo_61_b.2.2.2.2.1
theorem dX2_heedsThatGoSo_72 : decode cX2_heedsThatGoSo 72 = .ok (.iload 7, 2) := dX2_heedsThatGoSo_61_b.2.2.2.2.2.1
theorem dX2_heedsThatGoSo_74 : decode cX2_heedsThatGoSo 74 = .ok (.iastore, 1) := dX2_heedsThatGoSo_61_b.2.2.2.2.2.2.1
theorem dX2_heedsThatGoSo_75 : decode cX2_heedsThatGoSo 75 = .ok (.iload 8, 2) := dX2_heedsThatGoSo_61_b.2.2.2.2.2.2.2.1
theorem dX2_heedsThatGoSo_77 : decode cX2_heedsThatGoSo 77 = .ok (.ireturn, 1) := dX2_heedsThatGoSo_61_b.2.2.2.2.2.2.2.2
theorem dX2_livedAfter_0_b : (decode cX2_livedAfter 0 = .ok (.aload_n 0, 1)) ∧ (decode cX2_livedAfter 1 = .ok (.aload_n 0, 1)) ∧ (decode cX2_livedAfter 2 = .ok (.invokevirtual 28, 3)) ∧ (decode cX2_livedAfter 5 = .ok (.iload_n 2, 1)) ∧ (decode cX2_livedAfter 6 = .ok (.invokestatic 22, 3)) ∧ (decode cX2_livedAfter 9 = .ok (.aload_n 0, 1)) ∧ (decode cX2_livedAfter 10 = .ok (.getfield 9, 3)) ∧ (decode cX2_livedAfter 13 = .ok (.isub, 1)) ∧ (decode cX2_livedAfter 14 = .ok (.istore_n 3, 1)) ∧ (decode cX2_livedAfter 15 = .ok (.aload_n 0, 1)) ∧ (decode cX2_livedAfter 16 = .ok (.getfield 94, 3)) ∧ (decode cX2_livedAfter 19 = .ok (.iload_n 1, 1)) := by decide +kernel
theorem dX2_livedAfter_0 : decode cX2_livedAfter 0 = .ok (.aload_n 0, 1) := dX2_livedAfter_0_b.1
theorem dX2_livedAfter_1 : decode cX2_livedAfter 1 = .ok (.aload_n 0, 1) := dX2_livedAfter_0_b.2.1
theorem dX2_livedAfter_2 : decode cX2_livedAfter 2 = .ok (.invokevirtual 28, 3) := dX2_livedAfter_0_b.2.2.1
theorem dX2_livedAfter_5 : decode cX2_livedAfter 5 = .ok (.iload_n 2, 1) := dX2_livedAfter_0_b.2.2.2.1
theorem dX2_livedAfter_6 : decode cX2_livedAfter 6 = .ok (.invokestatic 22, 3) := dX2_livedAfter_0_b.2.2.2.2.1
theorem dX2_livedAfter_9 : decode cX2_livedAfter 9 = .ok (.aload_n 0, 1) := dX2_livedAfter_0_b.2.2.2.2.2.1
theorem dX2_livedAfter_10 : decode cX2_livedAfter 10 = .ok (.getfield 9, 3) := dX2_livedAfter_0_b.2.2.2.2.2.2.1
theorem dX2_livedAfter_13 : decode cX2_livedAfter 13 = .ok (.isub, 1) := dX2_livedAfter_0_b.2.2.2.2.2.2.2.1
theorem dX2_livedAfter_14 : decode cX2_livedAfter 14 = .ok (.istore_n 3, 1) := dX2_livedAfter_0_b.2.2.2.2.2.2.2.2.1
theorem dX2_livedAfter_15 : decode cX2_livedAfter 15 = .ok (.aload_n 0, 1) := dX2_livedAfter_0_b.2.2.2.2.2.2.2.2.2.1
theorem dX2_livedAfter_16 : decode cX2_livedAfter 16 = .ok (.getfield 94, 3) := dX2_livedAfter_0_b.2.2.2.2.2.2.2.2.2.2.1
theorem dX2_livedAfter_19 : decode cX2_livedAfter 19 = .ok (.iload_n 1, 1) := dX2_livedAfter_0_b.2.2.2.2.2.2.2.2.2.2.2
theorem dX2_livedAfter_20_b : (decode cX2_livedAfter 20 = .ok (.iaload, 1)) ∧ (decode cX2_livedAfter 21 = .ok (.aload_n 0, 1)) ∧ (decode cX2_livedAfter 22 = .ok (.iload_n 1, 1)) ∧ (decode cX2_livedAfter 23 = .ok (.invokevirtual 97, 3)) ∧ (decode cX2_livedAfter 26 = .ok (.ifCond .eq 7, 3)) ∧ (decode cX2_livedAfter 29 = .ok (.iload_n 3, 1)) ∧ (decode cX2_livedAfter 30 = .ok (.goto 7, 3)) ∧ (decode cX2_livedAfter 33 = .ok (.bipush 12, 2)) ∧ (decode cX2_livedAfter 35 = .ok (.iload_n 2, 1)) ∧ (decode cX2_livedAfter 36 = .ok (.imul, 1)) ∧ (decode cX2_livedAfter 37 = .ok (.iadd, 1)) ∧ (decode cX2_livedAfter 38 = .ok (.ireturn, 1)) := by decide +kernel
theorem dX2_livedAfter_20 : decode cX2_livedAfter 20 = .ok (.iaload, 1) := dX2_livedAfter_20_b.1
theorem dX2_livedAfter_21 : decode cX2_livedAfter 21 = .ok (.aload_n 0, 1) := dX2_livedAfter_20_b.2.1
theorem dX2_livedAfter_22 : decode cX2_livedAfter 22 = .ok (.iload_n 1, 1) := dX2_livedAfter_20_b.2.2.1
theorem dX2_livedAfter_23 : decode cX2_livedAfter 23 = .ok (.invokevirtual 97, 3) := dX2_livedAfter_20_b.2.2.2.1
theorem dX2_livedAfter_26 : decode cX2_livedAfter 26 = .ok (.ifCond .eq 7, 3) := dX2_livedAfter_20_b.2.2.2.2.1
theorem dX2_livedAfter_29 : decode cX2_livedAfter 29 = .ok (.iload_n 3, 1) := dX2_livedAfter_20_b.2.2.2.2.2.1
theorem dX2_livedAfter_30 : decode cX2_livedAfter 30 = .ok (.goto 7, 3) := dX2_livedAfter_20_b.2.2.2.2.2.2.1
theorem dX2_livedAfter_33 : decode cX2_livedAfter 33 = .ok (.bipush 12, 2) := dX2_livedAfter_20_b.2.2.2.2.2.2.2.1
theorem dX2_livedAfter_35 : decode cX2_livedAfter 35 = .ok (.iload_n 2, 1) := dX2_livedAfter_20_b.2.2.2.2.2.2.2.2.1
theorem dX2_livedAfter_36 : decode cX2_livedAfter 36 = .ok (.imul, 1) := dX2_livedAfter_20_b.2.2.2.2.2.2.2.2.2.1
theorem dX2_livedAfter_37 : decode cX2_livedAfter 37 = .ok (.iadd, 1) := dX2_livedAfter_20_b.2.2.2.2.2.2.2.2.2.2.1
theorem dX2_livedAfter_38 : decode cX2_livedAfter 38 = .ok (.ireturn, 1) := dX2_livedAfter_20_b.2.2.2.2.2.2.2.2.2.2.2
theorem dX2_chancesToGo_0_b : (decode cX2_chancesToGo 0 = .ok (.aload_n 0, 1)) ∧ (decode cX2_chancesToGo 1 = .ok (.invokevirtual 100, 3)) ∧ (decode cX2_chancesToGo 4 = .ok (.istore_n 3, 1)) ∧ (decode cX2_chancesToGo 5 = .ok (.iconst 0, 1)) ∧ (decode cX2_chancesToGo 6 = .ok (.istore 4, 2)) ∧ (decode cX2_chancesToGo 8 = .ok (.iconst 0, 1)) ∧ (decode cX2_chancesToGo 9 = .ok (.istore 5, 2)) ∧ (decode cX2_chancesToGo 11 = .ok (.iload 5, 2)) ∧ (decode cX2_chancesToGo 13 = .ok (.aload_n 0, 1)) ∧ (decode cX2_chancesToGo 14 = .ok (.invokevirtual 61, 3)) ∧ (decode cX2_chancesToGo 17 = .ok (.if_icmp .ge 67, 3)) ∧ (decode cX2_chancesToGo 20 = .ok (.iload 5, 2)) := by decide +kernel
theorem dX2_chancesToGo_0 : decode cX2_chancesToGo 0 = .ok (.aload_n 0, 1) := dX2_chancesToGo_0_b.1
theorem dX2_chancesToGo_1 : decode cX2_chancesToGo 1 = .ok (.invokevirtual 100, 3) := dX2_chancesToGo_0_b.2.1
theorem dX2_chancesToGo_4 : decode cX2_chancesToGo 4 = .ok (.istore_n 3, 1) := dX2_chancesToGo_0_b.2.2.1
theorem dX2_chancesToGo_5 : decode cX2_chancesToGo 5 = .ok (.iconst 0, 1) := dX2_chancesToGo_0_b.2.2.2.1
theorem dX2_chancesToGo_6 : decode cX2_chancesToGo 6 = .ok (.istore 4, 2) := dX2_chancesToGo_0_b.2.2.2.2.1
theorem dX2_chancesToGo_8 : decode cX2_chancesToGo 8 = .ok (.iconst 0, 1) := dX2_chancesToGo_0_b.2.2.2.2.2.1
theorem dX2_chancesToGo_9 : decode cX2_chancesToGo 9 = .ok (.istore 5, 2) := dX2_chancesToGo_0_b.2.2.2.2.2.2.1
theorem dX2_chancesToGo_11 : decode cX2_chancesToGo 11 = .ok (.iload 5, 2) := dX2_chancesToGo_0_b.2.2.2.2.2.2.2.1
theorem dX2_chancesToGo_13 : decode cX2_chancesToGo 13 = .ok (.aload_n 0, 1) := dX2_chancesToGo_0_b.2.2.2.2.2.2.2.2.1
theorem dX2_chancesToGo_14 : decode cX2_chancesToGo 14 = .ok (.invokevirtual 61, 3) := dX2_chancesToGo_0_b.2.2.2.2.2.2.2.2.2.1
theorem dX2_chancesToGo_17 : decode cX2_chancesToGo 17 = .ok (.if_icmp .ge 67, 3) := dX2_chancesToGo_0_b.2.2.2.2.2.2.2.2.2.2.1
theorem dX2_chancesToGo_20 : decode cX2_chancesToGo 20 = .ok (.iload 5, 2) := dX2_chancesToGo_0_b.2.2.2.2.2.2.2.2.2.2.2
theorem dX2_chancesToGo_22_b : (decode cX2_chancesToGo 22 = .ok (.iload_n 3, 1)) ∧ (decode cX2_chancesToGo 23 = .ok (.iconst (-1), 1)) ∧ (decode cX2_chancesToGo 24 = .ok (.ixor, 1)) ∧ (decode cX2_chancesToGo 25 = .ok (.iand, 1)) ∧ (decode cX2_chancesToGo 26 = .ok (.ifCond .ne 52, 3)) ∧ (decode cX2_chancesToGo 29 = .ok (.aload_n 0, 1)) ∧ (decode cX2_chancesToGo 30 = .ok (.iload 5, 2)) ∧ (decode cX2_chancesToGo 32 = .ok (.aload_n 0, 1)) ∧ (decode cX2_chancesToGo 33 = .ok (.getfield 15, 3)) ∧ (decode cX2_chancesToGo 36 = .ok (.invokevirtual 18, 3)) ∧ (decode cX2_chancesToGo 39 = .ok (.iload_n 1, 1)) ∧ (decode cX2_chancesToGo 40 = .ok (.if_icmp .lt 38, 3)) := by decide +kernel
theorem dX2_chancesToGo_22 : decode cX2_chancesToGo 22 = .ok (.iload_n 3, 1) := dX2_chancesToGo_22_b.1
theorem dX2_chancesToGo_23 : decode cX2_chancesToGo 23 = .ok (.iconst (-1), 1) := dX2_chancesToGo_22_b.2.1
theorem dX2_chancesToGo_24 : decode cX2_chancesToGo 24 = .ok (.ixor, 1) := dX2_chancesToGo_22_b.2.2.1
theorem dX2_chancesToGo_25 : decode cX2_chancesToGo 25 = .ok (.iand, 1) := dX2_chancesToGo_22_b.2.2.2.1
theorem dX2_chancesToGo_26 : decode cX2_chancesToGo 26 = .ok (.ifCond .ne 52, 3) := dX2_chancesToGo_22_b.2.2.2.2.1
theorem dX2_chancesToGo_29 : decode cX2_chancesToGo 29 = .ok (.aload_n 0, 1) := dX2_chancesToGo_22_b.2.2.2.2.2.1
theorem dX2_chancesToGo_30 : decode cX2_chancesToGo 30 = .ok (.iload 5, 2) := dX2_chancesToGo_22_b.2.2.2.2.2.2.1
theorem dX2_chancesToGo_32 : decode cX2_chancesToGo 32 = .ok (.aload_n 0, 1) := dX2_chancesToGo_22_b.2.2.2.2.2.2.2.1
theorem dX2_chancesToGo_33 : decode cX2_chancesToGo 33 = .ok (.getfield 15, 3) := dX2_chancesToGo_22_b.2.2.2.2.2.2.2.2.1
theorem dX2_chancesToGo_36 : decode cX2_chancesToGo 36 = .ok (.invokevirtual 18, 3) := dX2_chancesToGo_22_b.2.2.2.2.2.2.2.2.2.1
theorem dX2_chancesToGo_39 : decode cX2_chancesToGo 39 = .ok (.iload_n 1, 1) := dX2_chancesToGo_22_b.2.2.2.2.2.2.2.2.2.2.1
theorem dX2_chancesToGo_40 : decode cX2_chancesToGo 40 = .ok (.if_icmp .lt 38, 3) := dX2_chancesToGo_22_b.2.2.2.2.2.2.2.2.2.2.2
theorem dX2_chancesToGo_43_b : (decode cX2_chancesToGo 43 = .ok (.bipush 10, 2)) ∧ (decode cX2_chancesToGo 45 = .ok (.iload_n 2, 1)) ∧ (decode cX2_chancesToGo 46 = .ok (.isub, 1)) ∧ (decode cX2_chancesToGo 47 = .ok (.iload 5, 2)) ∧ (decode cX2_chancesToGo 49 = .ok (.invokestatic 77, 3)) ∧ (decode cX2_chancesToGo 52 = .ok (.invokestatic 103, 3)) ∧ (decode cX2_chancesToGo 55 = .ok (.istore 6, 2)) ∧ (decode cX2_chancesToGo 57 = .ok (.iload 4, 2)) ∧ (decode cX2_chancesToGo 59 = .ok (.iload 6, 2)) ∧ (decode cX2_chancesToGo 61 = .ok (.iload_n 2, 1)) ∧ (decode cX2_chancesToGo 62 = .ok (.iload_n 3, 1)) ∧ (decode cX2_chancesToGo 63 = .ok (.iload 5, 2)) := by decide +kernel
theorem dX2_chancesToGo_43 : decode cX2_chancesToGo 43 = .ok (.bipush 10, 2) := dX2_chancesToGo_43_b.1
theorem dX2_chancesToGo_45 : decode cX2_chancesToGo 45 = .ok (.iload_n 2, 1) := dX2_chancesToGo_43_b.2.1
theorem dX2_chancesToGo_46 : decode cX2_chancesToGo 46 = .ok (.isub, 1) := dX2_chancesToGo_43_b.2.2.1
theorem dX2_chancesToGo_47 : decode cX2_chancesToGo 47 = .ok (.iload 5, 2) := dX2_chancesToGo_43_b.2.2.2.1
theorem dX2_chancesToGo_49 : decode cX2_chancesToGo 49 = .ok (.invokestatic 77, 3) := dX2_chancesToGo_43_b.2.2.2.2.1
theorem dX2_chancesToGo_52 : decode cX2_chancesToGo 52 = .ok (.invokestatic 103, 3) := dX2_chancesToGo_43_b.2.2.2.2.2.1
theorem dX2_chancesToGo_55 : decode cX2_chancesToGo 55 = .ok (.istore 6, 2) := dX2_chancesToGo_43_b.2.2.2.2.2.2.1
theorem dX2_chancesToGo_57 : decode cX2_chancesToGo 57 = .ok (.iload 4, 2) := dX2_chancesToGo_43_b.2.2.2.2.2.2.2.1
theorem dX2_chancesToGo_59 : decode cX2_chancesToGo 59 = .ok (.iload 6, 2) := dX2_chancesToGo_43_b.2.2.2.2.2.2.2.2.1
theorem dX2_chancesToGo_61 : decode cX2_chancesToGo 61 = .ok (.iload_n 2, 1) := dX2_chancesToGo_43_b.2.2.2.2.2.2.2.2.2.1
theorem dX2_chancesToGo_62 : decode cX2_chancesToGo 62 = .ok (.iload_n 3, 1) := dX2_chancesToGo_43_b.2.2.2.2.2.2.2.2.2.2.1
theorem dX2_chancesToGo_63 : decode cX2_chancesToGo 63 = .ok (.iload 5, 2) := dX2_chancesToGo_43_b.2.2.2.2.2.2.2.2.2.2.2
theorem dX2_chancesToGo_65_b : (decode cX2_chancesToGo 65 = .ok (.iconst (-1), 1)) ∧ (decode cX2_chancesToGo 66 = .ok (.ixor, 1)) ∧ (decode cX2_chancesToGo 67 = .ok (.iand, 1)) ∧ (decode cX2_chancesToGo 68 = .ok (.invokestatic 77, 3)) ∧ (decode cX2_chancesToGo 71 = .ok (.invokestatic 103, 3)) ∧ (decode cX2_chancesToGo 74 = .ok (.imul, 1)) ∧ (decode cX2_chancesToGo 75 = .ok (.iadd, 1)) ∧ (decode cX2_chancesToGo 76 = .ok (.istore 4, 2)) ∧ (decode cX2_chancesToGo 78 = .ok (.iinc 5 1, 3)) ∧ (decode cX2_chancesToGo 81 = .ok (.goto (-70), 3)) ∧ (decode cX2_chancesToGo 84 = .ok (.iload 4, 2)) ∧ (decode cX2_chancesToGo 86 = .ok (.ireturn, 1)) := by decide +kernel
theorem dX2_chancesToGo_65 : decode cX2_chancesToGo 65 = .ok (.iconst (-1), 1) := dX2_chancesToGo_65_b.1
theorem dX2_chancesToGo_66 : decode cX2_chancesToGo 66 = .ok (.ixor, 1) := dX2_chancesToGo_65_b.2.1
theorem dX2_chancesToGo_67 : decode cX2_chancesToGo 67 = .ok (.iand, 1) := dX2_chancesToGo_65_b.2.2.1
theorem dX2_chancesToGo_68 : decode cX2_chancesToGo 68 = .ok (.invokestatic 77, 3) := dX2_chancesToGo_65_b.2.2.2.1
theorem dX2_chancesToGo_71 : decode cX2_chancesToGo 71 = .ok (.invokestatic 103, 3) := dX2_chancesToGo_65_b.2.2.2.2.1
theorem dX2_chancesToGo_74 : decode cX2_chancesToGo 74 = .ok (.imul, 1) := dX2_chancesToGo_65_b.2.2.2.2.2.1
theorem dX2_chancesToGo_75 : decode cX2_chancesToGo 75 = .ok (.iadd, 1) := dX2_chancesToGo_65_b.2.2.2.2.2.2.1
theorem dX2_chancesToGo_76 : decode cX2_chancesToGo 76 = .ok (.istore 4, 2) := dX2_chancesToGo_65_b.2.2.2.2.2.2.2.1
theorem dX2_chancesToGo_78 : decode cX2_chancesToGo 78 = .ok (.iinc 5 1, 3) := dX2_chancesToGo_65_b.2.2.2.2.2.2.2.2.1
theorem dX2_chancesToGo_81 : decode cX2_chancesToGo 81 = .ok (.goto (-70), 3) := dX2_chancesToGo_65_b.2.2.2.2.2.2.2.2.2.1
theorem dX2_chancesToGo_84 : decode cX2_chancesToGo 84 = .ok (.iload 4, 2) := dX2_chancesToGo_65_b.2.2.2.2.2.2.2.2.2.2.1
theorem dX2_chancesToGo_86 : decode cX2_chancesToGo 86 = .ok (.ireturn, 1) := dX2_chancesToGo_65_b.2.2.2.2.2.2.2.2.2.2.2
theorem dX2_chancesInAll_0_b : (decode cX2_chancesInAll 0 = .ok (.bipush 10, 2)) ∧ (decode cX2_chancesInAll 2 = .ok (.aload_n 0, 1)) ∧ (decode cX2_chancesInAll 3 = .ok (.invokevirtual 100, 3)) ∧ (decode cX2_chancesInAll 6 = .ok (.invokestatic 77, 3)) ∧ (decode cX2_chancesInAll 9 = .ok (.invokestatic 103, 3)) ∧ (decode cX2_chancesInAll 12 = .ok (.ireturn, 1)) := by decide +kernel
theorem dX2_chancesInAll_0 : decode cX2_chancesInAll 0 = .ok (.bipush 10, 2) := dX2_chancesInAll_0_b.1
theorem dX2_chancesInAll_2 : decode cX2_chancesInAll 2 = .ok (.aload_n 0, 1) := dX2_chancesInAll_0_b.2.1
theorem dX2_chancesInAll_3 : decode cX2_chancesInAll 3 = .ok (.invokevirtual 100, 3) := dX2_chancesInAll_0_b.2.2.1
theorem dX2_chancesInAll_6 : decode cX2_chancesInAll 6 = .ok (.invokestatic 77, 3) := dX2_chancesInAll_0_b.2.2.2.1
theorem dX2_chancesInAll_9 : decode cX2_chancesInAll 9 = .ok (.invokestatic 103, 3) := dX2_chancesInAll_0_b.2.2.2.2.1
theorem dX2_chancesInAll_12 : decode cX2_chancesInAll 12 = .ok (.ireturn, 1) := dX2_chancesInAll_0_b.2.2.2.2.2
theorem dX2_power_0_b : (decode cX2_power 0 = .ok (.iconst 1, 1)) ∧ (decode cX2_power 1 = .ok (.istore_n 2, 1)) ∧ (decode cX2_power 2 = .ok (.iconst 0, 1)) ∧ (decode cX2_power 3 = .ok (.istore_n 3, 1)) ∧ (decode cX2_power 4 = .ok (.iload_n 3, 1)) ∧ (decode cX2_power 5 = .ok (.iload_n 1, 1)) ∧ (decode cX2_power 6 = .ok (.if_icmp .ge 13, 3)) ∧ (decode cX2_power 9 = .ok (.iload_n 2, 1)) ∧ (decode cX2_power 10 = .ok (.iload_n 0, 1)) ∧ (decode cX2_power 11 = .ok (.imul, 1)) ∧ (decode cX2_power 12 = .ok (.istore_n 2, 1)) ∧ (decode cX2_power 13 = .ok (.iinc 3 1, 3)) := by decide +kernel
theorem dX2_power_0 : decode cX2_power 0 = .ok (.iconst 1, 1) := dX2_power_0_b.1
theorem dX2_power_1 : decode cX2_power 1 = .ok (.istore_n 2, 1) := dX2_power_0_b.2.1
theorem dX2_power_2 : decode cX2_power 2 = .ok (.iconst 0, 1) := dX2_power_0_b.2.2.1
theorem dX2_power_3 : decode cX2_power 3 = .ok (.istore_n 3, 1) := dX2_power_0_b.2.2.2.1
theorem dX2_power_4 : decode cX2_power 4 = .ok (.iload_n 3, 1) := dX2_power_0_b.2.2.2.2.1
theorem dX2_power_5 : decode cX2_power 5 = .ok (.iload_n 1, 1) := dX2_power_0_b.2.2.2.2.2.1
theorem dX2_power_6 : decode cX2_power 6 = .ok (.if_icmp .ge 13, 3) := dX2_power_0_b.2.2.2.2.2.2.1
theorem dX2_power_9 : decode cX2_power 9 = .ok (.iload_n 2, 1) := dX2_power_0_b.2.2.2.2.2.2.2.1
theorem dX2_power_10 : decode cX2_power 10 = .ok (.iload_n 0, 1) := dX2_power_0_b.2.2.2.2.2.2.2.2.1
theorem dX2_power_11 : decode cX2_power 11 = .ok (.imul, 1) := dX2_power_0_b.2.2.2.2.2.2.2.2.2.1
theorem dX2_power_12 : decode cX2_power 12 = .ok (.istore_n 2, 1) := dX2_power_0_b.2.2.2.2.2.2.2.2.2.2.1
theorem dX2_power_13 : decode cX2_power 13 = .ok (.iinc 3 1, 3) := dX2_power_0_b.2.2.2.2.2.2.2.2.2.2.2
theorem dX2_power_16_b : (decode cX2_power 16 = .ok (.goto (-12), 3)) ∧ (decode cX2_power 19 = .ok (.iload_n 2, 1)) ∧ (decode cX2_power 20 = .ok (.ireturn, 1)) := by decide +kernel
theorem dX2_power_16 : decode cX2_power 16 = .ok (.goto (-12), 3) := dX2_power_16_b.1
theorem dX2_power_19 : decode cX2_power 19 = .ok (.iload_n 2, 1) := dX2_power_16_b.2.1
theorem dX2_power_20 : decode cX2_power 20 = .ok (.ireturn, 1) := dX2_power_16_b.2.2
theorem dX4_isKind_0_b : (decode cX4_isKind 0 = .ok (.iload_n 0, 1)) ∧ (decode cX4_isKind 1 = .ok (.ifCond .lt 12, 3)) ∧ (decode cX4_isKind 4 = .ok (.iload_n 0, 1)) ∧ (decode cX4_isKind 5 = .ok (.iconst 5, 1)) ∧ (decode cX4_isKind 6 = .ok (.if_icmp .gt 7, 3)) ∧ (decode cX4_isKind 9 = .ok (.iconst 1, 1)) ∧ (decode cX4_isKind 10 = .ok (.goto 4, 3)) ∧ (decode cX4_isKind 13 = .ok (.iconst 0, 1)) ∧ (decode cX4_isKind 14 = .ok (.ireturn, 1)) := by decide +kernel
theorem dX4_isKind_0 : decode cX4_isKind 0 = .ok (.iload_n 0, 1) := dX4_isKind_0_b.1
theorem dX4_isKind_1 : decode cX4_isKind 1 = .ok (.ifCond .lt 12, 3) := dX4_isKind_0_b.2.1
theorem dX4_isKind_4 : decode cX4_isKind 4 = .ok (.iload_n 0, 1) := dX4_isKind_0_b.2.2.1
theorem dX4_isKind_5 : decode cX4_isKind 5 = .ok (.iconst 5, 1) := dX4_isKind_0_b.2.2.2.1
theorem dX4_isKind_6 : decode cX4_isKind 6 = .ok (.if_icmp .gt 7, 3) := dX4_isKind_0_b.2.2.2.2.1
theorem dX4_isKind_9 : decode cX4_isKind 9 = .ok (.iconst 1, 1) := dX4_isKind_0_b.2.2.2.2.2.1
theorem dX4_isKind_10 : decode cX4_isKind 10 = .ok (.goto 4, 3) := dX4_isKind_0_b.2.2.2.2.2.2.1
theorem dX4_isKind_13 : decode cX4_isKind 13 = .ok (.iconst 0, 1) := dX4_isKind_0_b.2.2.2.2.2.2.2.1
theorem dX4_isKind_14 : decode cX4_isKind 14 = .ok (.ireturn, 1) := dX4_isKind_0_b.2.2.2.2.2.2.2.2
theorem dX4_ofLetter_0_b : (decode cX4_ofLetter 0 = .ok (.iload_n 0, 1)) ∧ (decode cX4_ofLetter 1 = .ok (.lookupswitch 61 #[(100, 59), (107, 57), (112, 51), (116, 55), (119, 53)], 51)) ∧ (decode cX4_ofLetter 52 = .ok (.iconst 1, 1)) ∧ (decode cX4_ofLetter 53 = .ok (.ireturn, 1)) ∧ (decode cX4_ofLetter 54 = .ok (.iconst 2, 1)) ∧ (decode cX4_ofLetter 55 = .ok (.ireturn, 1)) ∧ (decode cX4_ofLetter 56 = .ok (.iconst 3, 1)) ∧ (decode cX4_ofLetter 57 = .ok (.ireturn, 1)) ∧ (decode cX4_ofLetter 58 = .ok (.iconst 4, 1)) ∧ (decode cX4_ofLetter 59 = .ok (.ireturn, 1)) ∧ (decode cX4_ofLetter 60 = .ok (.iconst 5, 1)) ∧ (decode cX4_ofLetter 61 = .ok (.ireturn, 1)) := by decide +kernel
theorem dX4_ofLetter_0 : decode cX4_ofLetter 0 = .ok (.iload_n 0, 1) := dX4_ofLetter_0_b.1
theorem dX4_ofLetter_1 : decode cX4_ofLetter 1 = .ok (.lookupswitch 61 #[(100, 59), (107, 57), (112, 51), (116, 55), (119, 53)], 51) := dX4_ofLetter_0_b.2.1
theorem dX4_ofLetter_52 : decode cX4_ofLetter 52 = .ok (.iconst 1, 1) := dX4_ofLetter_0_b.2.2.1
theorem dX4_ofLetter_53 : decode cX4_ofLetter 53 = .ok (.ireturn, 1) := dX4_ofLetter_0_b.2.2.2.1
theorem dX4_ofLetter_54 : decode cX4_ofLetter 54 = .ok (.iconst 2, 1) := dX4_ofLetter_0_b.2.2.2.2.1
theorem dX4_ofLetter_55 : decode cX4_ofLetter 55 = .ok (.ireturn, 1) := dX4_ofLetter_0_b.2.2.2.2.2.1
theorem dX4_ofLetter_56 : decode cX4_ofLetter 56 = .ok (.iconst 3, 1) := dX4_ofLetter_0_b.2.2.2.2.2.2.1
theorem dX4_ofLetter_57 : decode cX4_ofLetter 57 = .ok (.ireturn, 1) := dX4_ofLetter_0_b.2.2.2.2.2.2.2.1
theorem dX4_ofLetter_58 : decode cX4_ofLetter 58 = .ok (.iconst 4, 1) := dX4_ofLetter_0_b.2.2.2.2.2.2.2.2.1
theorem dX4_ofLetter_59 : decode cX4_ofLetter 59 = .ok (.ireturn, 1) := dX4_ofLetter_0_b.2.2.2.2.2.2.2.2.2.1
theorem dX4_ofLetter_60 : decode cX4_ofLetter 60 = .ok (.iconst 5, 1) := dX4_ofLetter_0_b.2.2.2.2.2.2.2.2.2.2.1
theorem dX4_ofLetter_61 : decode cX4_ofLetter 61 = .ok (.ireturn, 1) := dX4_ofLetter_0_b.2.2.2.2.2.2.2.2.2.2.2
theorem dX4_ofLetter_62_b : (decode cX4_ofLetter 62 = .ok (.iconst 0, 1)) ∧ (decode cX4_ofLetter 63 = .ok (.ireturn, 1)) := by decide +kernel
theorem dX4_ofLetter_62 : decode cX4_ofLetter 62 = .ok (.iconst 0, 1) := dX4_ofLetter_62_b.1
theorem dX4_ofLetter_63 : decode cX4_ofLetter 63 = .ok (.ireturn, 1) := dX4_ofLetter_62_b.2
theorem dX4_nearest_0_b : (decode cX4_nearest 0 = .ok (.iload_n 0, 1)) ∧ (decode cX4_nearest 1 = .ok (.invokestatic 9, 3)) ∧ (decode cX4_nearest 4 = .ok (.ifCond .eq 11, 3)) ∧ (decode cX4_nearest 7 = .ok (.getstatic 13, 3)) ∧ (decode cX4_nearest 10 = .ok (.iload_n 0, 1)) ∧ (decode cX4_nearest 11 = .ok (.iaload, 1)) ∧ (decode cX4_nearest 12 = .ok (.goto 4, 3)) ∧ (decode cX4_nearest 15 = .ok (.iconst (-1), 1)) ∧ (decode cX4_nearest 16 = .ok (.ireturn, 1)) := by decide +kernel
theorem dX4_nearest_0 : decode cX4_nearest 0 = .ok (.iload_n 0, 1) := dX4_nearest_0_b.1
theorem dX4_nearest_1 : decode cX4_nearest 1 = .ok (.invokestatic 9, 3) := dX4_nearest_0_b.2.1
theorem dX4_nearest_4 : decode cX4_nearest 4 = .ok (.ifCond .eq 11, 3) := dX4_nearest_0_b.2.2.1
theorem dX4_nearest_7 : decode cX4_nearest 7 = .ok (.getstatic 13, 3) := dX4_nearest_0_b.2.2.2.1
theorem dX4_nearest_10 : decode cX4_nearest 10 = .ok (.iload_n 0, 1) := dX4_nearest_0_b.2.2.2.2.1
theorem dX4_nearest_11 : decode cX4_nearest 11 = .ok (.iaload, 1) := dX4_nearest_0_b.2.2.2.2.2.1
theorem dX4_nearest_12 : decode cX4_nearest 12 = .ok (.goto 4, 3) := dX4_nearest_0_b.2.2.2.2.2.2.1
theorem dX4_nearest_15 : decode cX4_nearest 15 = .ok (.iconst (-1), 1) := dX4_nearest_0_b.2.2.2.2.2.2.2.1
theorem dX4_nearest_16 : decode cX4_nearest 16 = .ok (.ireturn, 1) := dX4_nearest_0_b.2.2.2.2.2.2.2.2
theorem dX4_isOneOf_0_b : (decode cX4_isOneOf 0 = .ok (.iload_n 0, 1)) ∧ (decode cX4_isOneOf 1 = .ok (.istore_n 2, 1)) ∧ (decode cX4_isOneOf 2 = .ok (.iconst 0, 1)) ∧ (decode cX4_isOneOf 3 = .ok (.istore_n 3, 1)) ∧ (decode cX4_isOneOf 4 = .ok (.iload_n 3, 1)) ∧ (decode cX4_isOneOf 5 = .ok (.iconst 3, 1)) ∧ (decode cX4_isOneOf 6 = .ok (.if_icmp .ge 19, 3)) ∧ (decode cX4_isOneOf 9 = .ok (.iload_n 2, 1)) ∧ (decode cX4_isOneOf 10 = .ok (.iload_n 1, 1)) ∧ (decode cX4_isOneOf 11 = .ok (.if_icmp .eq 14, 3)) ∧ (decode cX4_isOneOf 14 = .ok (.iload_n 2, 1)) ∧ (decode cX4_isOneOf 15 = .ok (.invokestatic 17, 3)) := by decide +kernel
theorem dX4_isOneOf_0 : decode cX4_isOneOf 0 = .ok (.iload_n 0, 1) := dX4_isOneOf_0_b.1
theorem dX4_isOneOf_1 : decode cX4_isOneOf 1 = .ok (.istore_n 2, 1) := dX4_isOneOf_0_b.2.1
theorem dX4_isOneOf_2 : decode cX4_isOneOf 2 = .ok (.iconst 0, 1) := dX4_isOneOf_0_b.2.2.1
theorem dX4_isOneOf_3 : decode cX4_isOneOf 3 = .ok (.istore_n 3, 1) := dX4_isOneOf_0_b.2.2.2.1
theorem dX4_isOneOf_4 : decode cX4_isOneOf 4 = .ok (.iload_n 3, 1) := dX4_isOneOf_0_b.2.2.2.2.1
theorem dX4_isOneOf_5 : decode cX4_isOneOf 5 = .ok (.iconst 3, 1) := dX4_isOneOf_0_b.2.2.2.2.2.1
theorem dX4_isOneOf_6 : decode cX4_isOneOf 6 = .ok (.if_icmp .ge 19, 3) := dX4_isOneOf_0_b.2.2.2.2.2.2.1
theorem dX4_isOneOf_9 : decode cX4_isOneOf 9 = .ok (.iload_n 2, 1) := dX4_isOneOf_0_b.2.2.2.2.2.2.2.1
theorem dX4_isOneOf_10 : decode cX4_isOneOf 10 = .ok (.iload_n 1, 1) := dX4_isOneOf_0_b.2.2.2.2.2.2.2.2.1
theorem dX4_isOneOf_11 : decode cX4_isOneOf 11 = .ok (.if_icmp .eq 14, 3) := dX4_isOneOf_0_b.2.2.2.2.2.2.2.2.2.1
theorem dX4_isOneOf_14 : decode cX4_isOneOf 14 = .ok (.iload_n 2, 1) := dX4_isOneOf_0_b.2.2.2.2.2.2.2.2.2.2.1
theorem dX4_isOneOf_15 : decode cX4_isOneOf 15 = .ok (.invokestatic 17, 3) := dX4_isOneOf_0_b.2.2.2.2.2.2.2.2.2.2.2
theorem dX4_isOneOf_18_b : (decode cX4_isOneOf 18 = .ok (.istore_n 2, 1)) ∧ (decode cX4_isOneOf 19 = .ok (.iinc 3 1, 3)) ∧ (decode cX4_isOneOf 22 = .ok (.goto (-18), 3)) ∧ (decode cX4_isOneOf 25 = .ok (.iload_n 2, 1)) ∧ (decode cX4_isOneOf 26 = .ok (.iload_n 1, 1)) ∧ (decode cX4_isOneOf 27 = .ok (.if_icmp .ne 7, 3)) ∧ (decode cX4_isOneOf 30 = .ok (.iconst 1, 1)) ∧ (decode cX4_isOneOf 31 = .ok (.goto 4, 3)) ∧ (decode cX4_isOneOf 34 = .ok (.iconst 0, 1)) ∧ (decode cX4_isOneOf 35 = .ok (.ireturn, 1)) := by decide +kernel
theorem dX4_isOneOf_18 : decode cX4_isOneOf 18 = .ok (.istore_n 2, 1) := dX4_isOneOf_18_b.1
theorem dX4_isOneOf_19 : decode cX4_isOneOf 19 = .ok (.iinc 3 1, 3) := dX4_isOneOf_18_b.2.1
theorem dX4_isOneOf_22 : decode cX4_isOneOf 22 = .ok (.goto (-18), 3) := dX4_isOneOf_18_b.2.2.1
theorem dX4_isOneOf_25 : decode cX4_isOneOf 25 = .ok (.iload_n 2, 1) := dX4_isOneOf_18_b.2.2.2.1
theorem dX4_isOneOf_26 : decode cX4_isOneOf 26 = .ok (.iload_n 1, 1) := dX4_isOneOf_18_b.2.2.2.2.1
theorem dX4_isOneOf_27 : decode cX4_isOneOf 27 = .ok (.if_icmp .ne 7, 3) := dX4_isOneOf_18_b.2.2.2.2.2.1
theorem dX4_isOneOf_30 : decode cX4_isOneOf 30 = .ok (.iconst 1, 1) := dX4_isOneOf_18_b.2.2.2.2.2.2.1
theorem dX4_isOneOf_31 : decode cX4_isOneOf 31 = .ok (.goto 4, 3) := dX4_isOneOf_18_b.2.2.2.2.2.2.2.1
theorem dX4_isOneOf_34 : decode cX4_isOneOf 34 = .ok (.iconst 0, 1) := dX4_isOneOf_18_b.2.2.2.2.2.2.2.2.1
theorem dX4_isOneOf_35 : decode cX4_isOneOf 35 = .ok (.ireturn, 1) := dX4_isOneOf_18_b.2.2.2.2.2.2.2.2.2
theorem dX5_init_0_b : (decode cX5_init 0 = .ok (.aload_n 0, 1)) ∧ (decode cX5_init 1 = .ok (.invokespecial 3, 3)) ∧ (decode cX5_init 4 = .ok (.aload_n 0, 1)) ∧ (decode cX5_init 5 = .ok (.bipush 8, 2)) ∧ (decode cX5_init 7 = .ok (.newarray .int, 2)) ∧ (decode cX5_init 9 = .ok (.putfield 11, 3)) ∧ (decode cX5_init 12 = .ok (.aload_n 0, 1)) ∧ (decode cX5_init 13 = .ok (.bipush 8, 2)) ∧ (decode cX5_init 15 = .ok (.newarray .int, 2)) ∧ (decode cX5_init 17 = .ok (.putfield 15, 3)) ∧ (decode cX5_init 20 = .ok (.aload_n 0, 1)) ∧ (decode cX5_init 21 = .ok (.sipush 320, 3)) := by decide +kernel
theorem dX5_init_0 : decode cX5_init 0 = .ok (.aload_n 0, 1) := dX5_init_0_b.1
theorem dX5_init_1 : decode cX5_init 1 = .ok (.invokespecial 3, 3) := dX5_init_0_b.2.1
theorem dX5_init_4 : decode cX5_init 4 = .ok (.aload_n 0, 1) := dX5_init_0_b.2.2.1
theorem dX5_init_5 : decode cX5_init 5 = .ok (.bipush 8, 2) := dX5_init_0_b.2.2.2.1
theorem dX5_init_7 : decode cX5_init 7 = .ok (.newarray .int, 2) := dX5_init_0_b.2.2.2.2.1
theorem dX5_init_9 : decode cX5_init 9 = .ok (.putfield 11, 3) := dX5_init_0_b.2.2.2.2.2.1
theorem dX5_init_12 : decode cX5_init 12 = .ok (.aload_n 0, 1) := dX5_init_0_b.2.2.2.2.2.2.1
theorem dX5_init_13 : decode cX5_init 13 = .ok (.bipush 8, 2) := dX5_init_0_b.2.2.2.2.2.2.2.1
theorem dX5_init_15 : decode cX5_init 15 = .ok (.newarray .int, 2) := dX5_init_0_b.2.2.2.2.2.2.2.2.1
theorem dX5_init_17 : decode cX5_init 17 = .ok (.putfield 15, 3) := dX5_init_0_b.2.2.2.2.2.2.2.2.2.1
theorem dX5_init_20 : decode cX5_init 20 = .ok (.aload_n 0, 1) := dX5_init_0_b.2.2.2.2.2.2.2.2.2.2.1
theorem dX5_init_21 : decode cX5_init 21 = .ok (.sipush 320, 3) := dX5_init_0_b.2.2.2.2.2.2.2.2.2.2.2
theorem dX5_init_24_b : (decode cX5_init 24 = .ok (.newarray .int, 2)) ∧ (decode cX5_init 26 = .ok (.putfield 18, 3)) ∧ (decode cX5_init 29 = .ok (.aload_n 0, 1)) ∧ (decode cX5_init 30 = .ok (.getfield 11, 3)) ∧ (decode cX5_init 33 = .ok (.iconst (-1), 1)) ∧ (decode cX5_init 34 = .ok (.invokestatic 21, 3)) ∧ (decode cX5_init 37 = .ok (.return_, 1)) := by decide +kernel
theorem dX5_init_24 : decode cX5_init 24 = .ok (.newarray .int, 2) := dX5_init_24_b.1
theorem dX5_init_26 : decode cX5_init 26 = .ok (.putfield 18, 3) := dX5_init_24_b.2.1
theorem dX5_init_29 : decode cX5_init 29 = .ok (.aload_n 0, 1) := dX5_init_24_b.2.2.1
theorem dX5_init_30 : decode cX5_init 30 = .ok (.getfield 11, 3) := dX5_init_24_b.2.2.2.1
theorem dX5_init_33 : decode cX5_init 33 = .ok (.iconst (-1), 1) := dX5_init_24_b.2.2.2.2.1
theorem dX5_init_34 : decode cX5_init 34 = .ok (.invokestatic 21, 3) := dX5_init_24_b.2.2.2.2.2.1
theorem dX5_init_37 : decode cX5_init 37 = .ok (.return_, 1) := dX5_init_24_b.2.2.2.2.2.2
theorem dX5_isRow_0_b : (decode cX5_isRow 0 = .ok (.iload_n 0, 1)) ∧ (decode cX5_isRow 1 = .ok (.ifCond .lt 13, 3)) ∧ (decode cX5_isRow 4 = .ok (.iload_n 0, 1)) ∧ (decode cX5_isRow 5 = .ok (.bipush 8, 2)) ∧ (decode cX5_isRow 7 = .ok (.if_icmp .ge 7, 3)) ∧ (decode cX5_isRow 10 = .ok (.iconst 1, 1)) ∧ (decode cX5_isRow 11 = .ok (.goto 4, 3)) ∧ (decode cX5_isRow 14 = .ok (.iconst 0, 1)) ∧ (decode cX5_isRow 15 = .ok (.ireturn, 1)) := by decide +kernel
theorem dX5_isRow_0 : decode cX5_isRow 0 = .ok (.iload_n 0, 1) := dX5_isRow_0_b.1
theorem dX5_isRow_1 : decode cX5_isRow 1 = .ok (.ifCond .lt 13, 3) := dX5_isRow_0_b.2.1
theorem dX5_isRow_4 : decode cX5_isRow 4 = .ok (.iload_n 0, 1) := dX5_isRow_0_b.2.2.1
theorem dX5_isRow_5 : decode cX5_isRow 5 = .ok (.bipush 8, 2) := dX5_isRow_0_b.2.2.2.1
theorem dX5_isRow_7 : decode cX5_isRow 7 = .ok (.if_icmp .ge 7, 3) := dX5_isRow_0_b.2.2.2.2.1
theorem dX5_isRow_10 : decode cX5_isRow 10 = .ok (.iconst 1, 1) := dX5_isRow_0_b.2.2.2.2.2.1
theorem dX5_isRow_11 : decode cX5_isRow 11 = .ok (.goto 4, 3) := dX5_isRow_0_b.2.2.2.2.2.2.1
theorem dX5_isRow_14 : decode cX5_isRow 14 = .ok (.iconst 0, 1) := dX5_isRow_0_b.2.2.2.2.2.2.2.1
theorem dX5_isRow_15 : decode cX5_isRow 15 = .ok (.ireturn, 1) := dX5_isRow_0_b.2.2.2.2.2.2.2.2
theorem dX5_isLane_0_b : (decode cX5_isLane 0 = .ok (.iload_n 0, 1)) ∧ (decode cX5_isLane 1 = .ok (.ifCond .lt 12, 3)) ∧ (decode cX5_isLane 4 = .ok (.iload_n 0, 1)) ∧ (decode cX5_isLane 5 = .ok (.iconst 2, 1)) ∧ (decode cX5_isLane 6 = .ok (.if_icmp .gt 7, 3)) ∧ (decode cX5_isLane 9 = .ok (.iconst 1, 1)) ∧ (decode cX5_isLane 10 = .ok (.goto 4, 3)) ∧ (decode cX5_isLane 13 = .ok (.iconst 0, 1)) ∧ (decode cX5_isLane 14 = .ok (.ireturn, 1)) := by decide +kernel
theorem dX5_isLane_0 : decode cX5_isLane 0 = .ok (.iload_n 0, 1) := dX5_isLane_0_b.1
theorem dX5_isLane_1 : decode cX5_isLane 1 = .ok (.ifCond .lt 12, 3) := dX5_isLane_0_b.2.1
theorem dX5_isLane_4 : decode cX5_isLane 4 = .ok (.iload_n 0, 1) := dX5_isLane_0_b.2.2.1
theorem dX5_isLane_5 : decode cX5_isLane 5 = .ok (.iconst 2, 1) := dX5_isLane_0_b.2.2.2.1
theorem dX5_isLane_6 : decode cX5_isLane 6 = .ok (.if_icmp .gt 7, 3) := dX5_isLane_0_b.2.2.2.2.1
theorem dX5_isLane_9 : decode cX5_isLane 9 = .ok (.iconst 1, 1) := dX5_isLane_0_b.2.2.2.2.2.1
theorem dX5_isLane_10 : decode cX5_isLane 10 = .ok (.goto 4, 3) := dX5_isLane_0_b.2.2.2.2.2.2.1
theorem dX5_isLane_13 : decode cX5_isLane 13 = .ok (.iconst 0, 1) := dX5_isLane_0_b.2.2.2.2.2.2.2.1
theorem dX5_isLane_14 : decode cX5_isLane 14 = .ok (.ireturn, 1) := dX5_isLane_0_b.2.2.2.2.2.2.2.2
theorem dX5_isMissing_0_b : (decode cX5_isMissing 0 = .ok (.aload_n 0, 1)) ∧ (decode cX5_isMissing 1 = .ok (.getfield 11, 3)) ∧ (decode cX5_isMissing 4 = .ok (.iload_n 1, 1)) ∧ (decode cX5_isMissing 5 = .ok (.iaload, 1)) ∧ (decode cX5_isMissing 6 = .ok (.iconst (-1), 1)) ∧ (decode cX5_isMissing 7 = .ok (.if_icmp .ne 7, 3)) ∧ (decode cX5_isMissing 10 = .ok (.iconst 1, 1)) ∧ (decode cX5_isMissing 11 = .ok (.goto 4, 3)) ∧ (decode cX5_isMissing 14 = .ok (.iconst 0, 1)) ∧ (decode cX5_isMissing 15 = .ok (.ireturn, 1)) := by decide +kernel
theorem dX5_isMissing_0 : decode cX5_isMissing 0 = .ok (.aload_n 0, 1) := dX5_isMissing_0_b.1
theorem dX5_isMissing_1 : decode cX5_isMissing 1 = .ok (.getfield 11, 3) := dX5_isMissing_0_b.2.1
theorem dX5_isMissing_4 : decode cX5_isMissing 4 = .ok (.iload_n 1, 1) := dX5_isMissing_0_b.2.2.1
theorem dX5_isMissing_5 : decode cX5_isMissing 5 = .ok (.iaload, 1) := dX5_isMissing_0_b.2.2.2.1
theorem dX5_isMissing_6 : decode cX5_isMissing 6 = .ok (.iconst (-1), 1) := dX5_isMissing_0_b.2.2.2.2.1
theorem dX5_isMissing_7 : decode cX5_isMissing 7 = .ok (.if_icmp .ne 7, 3) := dX5_isMissing_0_b.2.2.2.2.2.1
theorem dX5_isMissing_10 : decode cX5_isMissing 10 = .ok (.iconst 1, 1) := dX5_isMissing_0_b.2.2.2.2.2.2.1
theorem dX5_isMissing_11 : decode cX5_isMissing 11 = .ok (.goto 4, 3) := dX5_isMissing_0_b.2.2.2.2.2.2.2.1
theorem dX5_isMissing_14 : decode cX5_isMissing 14 = .ok (.iconst 0, 1) := dX5_isMissing_0_b.2.2.2.2.2.2.2.2.1
theorem dX5_isMissing_15 : decode cX5_isMissing 15 = .ok (.ireturn, 1) := dX5_isMissing_0_b.2.2.2.2.2.2.2.2.2
theorem dX5_findingOf_0_b : (decode cX5_findingOf 0 = .ok (.aload_n 0, 1)) ∧ (decode cX5_findingOf 1 = .ok (.iload_n 1, 1)) ∧ (decode cX5_findingOf 2 = .ok (.invokevirtual 27, 3)) ∧ (decode cX5_findingOf 5 = .ok (.ifCond .eq 5, 3)) ∧ (decode cX5_findingOf 8 = .ok (.iconst 1, 1)) ∧ (decode cX5_findingOf 9 = .ok (.ireturn, 1)) ∧ (decode cX5_findingOf 10 = .ok (.aload_n 0, 1)) ∧ (decode cX5_findingOf 11 = .ok (.iload_n 1, 1)) ∧ (decode cX5_findingOf 12 = .ok (.iload_n 2, 1)) ∧ (decode cX5_findingOf 13 = .ok (.iload_n 3, 1)) ∧ (decode cX5_findingOf 14 = .ok (.invokevirtual 31, 3)) ∧ (decode cX5_findingOf 17 = .ok (.ifCond .eq 7, 3)) := by decide +kernel
theorem dX5_findingOf_0 : decode cX5_findingOf 0 = .ok (.aload_n 0, 1) := dX5_findingOf_0_b.1
theorem dX5_findingOf_1 : decode cX5_findingOf 1 = .ok (.iload_n 1, 1) := dX5_findingOf_0_b.2.1
theorem dX5_findingOf_2 : decode cX5_findingOf 2 = .ok (.invokevirtual 27, 3) := dX5_findingOf_0_b.2.2.1
theorem dX5_findingOf_5 : decode cX5_findingOf 5 = .ok (.ifCond .eq 5, 3) := dX5_findingOf_0_b.2.2.2.1
theorem dX5_findingOf_8 : decode cX5_findingOf 8 = .ok (.iconst 1, 1) := dX5_findingOf_0_b.2.2.2.2.1
theorem dX5_findingOf_9 : decode cX5_findingOf 9 = .ok (.ireturn, 1) := dX5_findingOf_0_b.2.2.2.2.2.1
theorem dX5_findingOf_10 : decode cX5_findingOf 10 = .ok (.aload_n 0, 1) := dX5_findingOf_0_b.2.2.2.2.2.2.1
theorem dX5_findingOf_11 : decode cX5_findingOf 11 = .ok (.iload_n 1, 1) := dX5_findingOf_0_b.2.2.2.2.2.2.2.1
theorem dX5_findingOf_12 : decode cX5_findingOf 12 = .ok (.iload_n 2, 1) := dX5_findingOf_0_b.2.2.2.2.2.2.2.2.1
theorem dX5_findingOf_13 : decode cX5_findingOf 13 = .ok (.iload_n 3, 1) := dX5_findingOf_0_b.2.2.2.2.2.2.2.2.2.1
theorem dX5_findingOf_14 : decode cX5_findingOf 14 = .ok (.invokevirtual 31, 3) := dX5_findingOf_0_b.2.2.2.2.2.2.2.2.2.2.1
theorem dX5_findingOf_17 : decode cX5_findingOf 17 = .ok (.ifCond .eq 7, 3) := dX5_findingOf_0_b.2.2.2.2.2.2.2.2.2.2.2
theorem dX5_findingOf_20_b : (decode cX5_findingOf 20 = .ok (.iconst 0, 1)) ∧ (decode cX5_findingOf 21 = .ok (.goto 4, 3)) ∧ (decode cX5_findingOf 24 = .ok (.iconst 2, 1)) ∧ (decode cX5_findingOf 25 = .ok (.ireturn, 1)) := by decide +kernel
theorem dX5_findingOf_20 : decode cX5_findingOf 20 = .ok (.iconst 0, 1) := dX5_findingOf_20_b.1
theorem dX5_findingOf_21 : decode cX5_findingOf 21 = .ok (.goto 4, 3) := dX5_findingOf_20_b.2.1
theorem dX5_findingOf_24 : decode cX5_findingOf 24 = .ok (.iconst 2, 1) := dX5_findingOf_20_b.2.2.1
theorem dX5_findingOf_25 : decode cX5_findingOf 25 = .ok (.ireturn, 1) := dX5_findingOf_20_b.2.2.2
theorem dX5_findingOfCopy_0_b : (decode cX5_findingOfCopy 0 = .ok (.aload_n 0, 1)) ∧ (decode cX5_findingOfCopy 1 = .ok (.iload_n 1, 1)) ∧ (decode cX5_findingOfCopy 2 = .ok (.invokevirtual 27, 3)) ∧ (decode cX5_findingOfCopy 5 = .ok (.ifCond .ne 11, 3)) ∧ (decode cX5_findingOfCopy 8 = .ok (.aload_n 0, 1)) ∧ (decode cX5_findingOfCopy 9 = .ok (.iload_n 3, 1)) ∧ (decode cX5_findingOfCopy 10 = .ok (.invokevirtual 27, 3)) ∧ (decode cX5_findingOfCopy 13 = .ok (.ifCond .eq 5, 3)) ∧ (decode cX5_findingOfCopy 16 = .ok (.iconst 1, 1)) ∧ (decode cX5_findingOfCopy 17 = .ok (.ireturn, 1)) ∧ (decode cX5_findingOfCopy 18 = .ok (.aload_n 0, 1)) ∧ (decode cX5_findingOfCopy 19 = .ok (.getfield 11, 3)) := by decide +kernel
theorem dX5_findingOfCopy_0 : decode cX5_findingOfCopy 0 = .ok (.aload_n 0, 1) := dX5_findingOfCopy_0_b.1
theorem dX5_findingOfCopy_1 : decode cX5_findingOfCopy 1 = .ok (.iload_n 1, 1) := dX5_findingOfCopy_0_b.2.1
theorem dX5_findingOfCopy_2 : decode cX5_findingOfCopy 2 = .ok (.invokevirtual 27, 3) := dX5_findingOfCopy_0_b.2.2.1
theorem dX5_findingOfCopy_5 : decode cX5_findingOfCopy 5 = .ok (.ifCond .ne 11, 3) := dX5_findingOfCopy_0_b.2.2.2.1
theorem dX5_findingOfCopy_8 : decode cX5_findingOfCopy 8 = .ok (.aload_n 0, 1) := dX5_findingOfCopy_0_b.2.2.2.2.1
theorem dX5_findingOfCopy_9 : decode cX5_findingOfCopy 9 = .ok (.iload_n 3, 1) := dX5_findingOfCopy_0_b.2.2.2.2.2.1
theorem dX5_findingOfCopy_10 : decode cX5_findingOfCopy 10 = .ok (.invokevirtual 27, 3) := dX5_findingOfCopy_0_b.2.2.2.2.2.2.1
theorem dX5_findingOfCopy_13 : decode cX5_findingOfCopy 13 = .ok (.ifCond .eq 5, 3) := dX5_findingOfCopy_0_b.2.2.2.2.2.2.2.1
theorem dX5_findingOfCopy_16 : decode cX5_findingOfCopy 16 = .ok (.iconst 1, 1) := dX5_findingOfCopy_0_b.2.2.2.2.2.2.2.2.1
theorem dX5_findingOfCopy_17 : decode cX5_findingOfCopy 17 = .ok (.ireturn, 1) := dX5_findingOfCopy_0_b.2.2.2.2.2.2.2.2.2.1
theorem dX5_findingOfCopy_18 : decode cX5_findingOfCopy 18 = .ok (.aload_n 0, 1) := dX5_findingOfCopy_0_b.2.2.2.2.2.2.2.2.2.2.1
theorem dX5_findingOfCopy_19 : decode cX5_findingOfCopy 19 = .ok (.getfield 11, 3) := dX5_findingOfCopy_0_b.2.2.2.2.2.2.2.2.2.2.2
theorem dX5_findingOfCopy_22_b : (decode cX5_findingOfCopy 22 = .ok (.iload_n 1, 1)) ∧ (decode cX5_findingOfCopy 23 = .ok (.iaload, 1)) ∧ (decode cX5_findingOfCopy 24 = .ok (.aload_n 0, 1)) ∧ (decode cX5_findingOfCopy 25 = .ok (.getfield 11, 3)) ∧ (decode cX5_findingOfCopy 28 = .ok (.iload_n 3, 1)) ∧ (decode cX5_findingOfCopy 29 = .ok (.iaload, 1)) ∧ (decode cX5_findingOfCopy 30 = .ok (.if_icmp .eq 5, 3)) ∧ (decode cX5_findingOfCopy 33 = .ok (.iconst 5, 1)) ∧ (decode cX5_findingOfCopy 34 = .ok (.ireturn, 1)) ∧ (decode cX5_findingOfCopy 35 = .ok (.aload_n 0, 1)) ∧ (decode cX5_findingOfCopy 36 = .ok (.iload_n 1, 1)) ∧ (decode cX5_findingOfCopy 37 = .ok (.iload_n 2, 1)) := by decide +kernel
theorem dX5_findingOfCopy_22 : decode cX5_findingOfCopy 22 = .ok (.iload_n 1, 1) := dX5_findingOfCopy_22_b.1
theorem dX5_findingOfCopy_23 : decode cX5_findingOfCopy 23 = .ok (.iaload, 1) := dX5_findingOfCopy_22_b.2.1
theorem dX5_findingOfCopy_24 : decode cX5_findingOfCopy 24 = .ok (.aload_n 0, 1) := dX5_findingOfCopy_22_b.2.2.1
theorem dX5_findingOfCopy_25 : decode cX5_findingOfCopy 25 = .ok (.getfield 11, 3) := dX5_findingOfCopy_22_b.2.2.2.1
theorem dX5_findingOfCopy_28 : decode cX5_findingOfCopy 28 = .ok (.iload_n 3, 1) := dX5_findingOfCopy_22_b.2.2.2.2.1
theorem dX5_findingOfCopy_29 : decode cX5_findingOfCopy 29 = .ok (.iaload, 1) := dX5_findingOfCopy_22_b.2.2.2.2.2.1
theorem dX5_findingOfCopy_30 : decode cX5_findingOfCopy 30 = .ok (.if_icmp .eq 5, 3) := dX5_findingOfCopy_22_b.2.2.2.2.2.2.1
theorem dX5_findingOfCopy_33 : decode cX5_findingOfCopy 33 = .ok (.iconst 5, 1) := dX5_findingOfCopy_22_b.2.2.2.2.2.2.2.1
theorem dX5_findingOfCopy_34 : decode cX5_findingOfCopy 34 = .ok (.ireturn, 1) := dX5_findingOfCopy_22_b.2.2.2.2.2.2.2.2.1
theorem dX5_findingOfCopy_35 : decode cX5_findingOfCopy 35 = .ok (.aload_n 0, 1) := dX5_findingOfCopy_22_b.2.2.2.2.2.2.2.2.2.1
theorem dX5_findingOfCopy_36 : decode cX5_findingOfCopy 36 = .ok (.iload_n 1, 1) := dX5_findingOfCopy_22_b.2.2.2.2.2.2.2.2.2.2.1
theorem dX5_findingOfCopy_37 : decode cX5_findingOfCopy 37 = .ok (.iload_n 2, 1) := dX5_findingOfCopy_22_b.2.2.2.2.2.2.2.2.2.2.2
theorem dX5_findingOfCopy_38_b : (decode cX5_findingOfCopy 38 = .ok (.iload 5, 2)) ∧ (decode cX5_findingOfCopy 40 = .ok (.invokevirtual 31, 3)) ∧ (decode cX5_findingOfCopy 43 = .ok (.ifCond .eq 19, 3)) ∧ (decode cX5_findingOfCopy 46 = .ok (.aload_n 0, 1)) ∧ (decode cX5_findingOfCopy 47 = .ok (.iload_n 3, 1)) ∧ (decode cX5_findingOfCopy 48 = .ok (.iload 4, 2)) ∧ (decode cX5_findingOfCopy 50 = .ok (.iload 5, 2)) ∧ (decode cX5_findingOfCopy 52 = .ok (.invokevirtual 31, 3)) ∧ (decode cX5_findingOfCopy 55 = .ok (.ifCond .eq 7, 3)) ∧ (decode cX5_findingOfCopy 58 = .ok (.iconst 0, 1)) ∧ (decode cX5_findingOfCopy 59 = .ok (.goto 4, 3)) ∧ (decode cX5_findingOfCopy 62 = .ok (.iconst 2, 1)) := by decide +kernel
theorem dX5_findingOfCopy_38 : decode cX5_findingOfCopy 38 = .ok (.iload 5, 2) := dX5_findingOfCopy_38_b.1
theorem dX5_findingOfCopy_40 : decode cX5_findingOfCopy 40 = .ok (.invokevirtual 31, 3) := dX5_findingOfCopy_38_b.2.1
theorem dX5_findingOfCopy_43 : decode cX5_findingOfCopy 43 = .ok (.ifCond .eq 19, 3) := dX5_findingOfCopy_38_b.2.2.1
theorem dX5_findingOfCopy_46 : decode cX5_findingOfCopy 46 = .ok (.aload_n 0, 1) := dX5_findingOfCopy_38_b.2.2.2.1
theorem dX5_findingOfCopy_47 : decode cX5_findingOfCopy 47 = .ok (.iload_n 3, 1) := dX5_findingOfCopy_38_b.2.2.2.2.1
theorem dX5_findingOfCopy_48 : decode cX5_findingOfCopy 48 = .ok (.iload 4, 2) := dX5_findingOfCopy_38_b.2.2.2.2.2.1
theorem dX5_findingOfCopy_50 : decode cX5_findingOfCopy 50 = .ok (.iload 5, 2) := dX5_findingOfCopy_38_b.2.2.2.2.2.2.1
theorem dX5_findingOfCopy_52 : decode cX5_findingOfCopy 52 = .ok (.invokevirtual 31, 3) := dX5_findingOfCopy_38_b.2.2.2.2.2.2.2.1
theorem dX5_findingOfCopy_55 : decode cX5_findingOfCopy 55 = .ok (.ifCond .eq 7, 3) := dX5_findingOfCopy_38_b.2.2.2.2.2.2.2.2.1
theorem dX5_findingOfCopy_58 : decode cX5_findingOfCopy 58 = .ok (.iconst 0, 1) := dX5_findingOfCopy_38_b.2.2.2.2.2.2.2.2.2.1
theorem dX5_findingOfCopy_59 : decode cX5_findingOfCopy 59 = .ok (.goto 4, 3) := dX5_findingOfCopy_38_b.2.2.2.2.2.2.2.2.2.2.1
theorem dX5_findingOfCopy_62 : decode cX5_findingOfCopy 62 = .ok (.iconst 2, 1) := dX5_findingOfCopy_38_b.2.2.2.2.2.2.2.2.2.2.2
theorem dX5_findingOfCopy_63 : decode cX5_findingOfCopy 63 = .ok (.ireturn, 1) := by decide +kernel
theorem dX5_hasPlaces_0_b : (decode cX5_hasPlaces 0 = .ok (.iload_n 2, 1)) ∧ (decode cX5_hasPlaces 1 = .ok (.ifCond .lt 33, 3)) ∧ (decode cX5_hasPlaces 4 = .ok (.iload_n 3, 1)) ∧ (decode cX5_hasPlaces 5 = .ok (.ifCond .lt 29, 3)) ∧ (decode cX5_hasPlaces 8 = .ok (.iload_n 2, 1)) ∧ (decode cX5_hasPlaces 9 = .ok (.aload_n 0, 1)) ∧ (decode cX5_hasPlaces 10 = .ok (.getfield 15, 3)) ∧ (decode cX5_hasPlaces 13 = .ok (.iload_n 1, 1)) ∧ (decode cX5_hasPlaces 14 = .ok (.iaload, 1)) ∧ (decode cX5_hasPlaces 15 = .ok (.if_icmp .gt 19, 3)) ∧ (decode cX5_hasPlaces 18 = .ok (.iload_n 3, 1)) ∧ (decode cX5_hasPlaces 19 = .ok (.aload_n 0, 1)) := by decide +kernel
theorem dX5_hasPlaces_0 : decode cX5_hasPlaces 0 = .ok (.iload_n 2, 1) := dX5_hasPlaces_0_b.1
theorem dX5_hasPlaces_1 : decode cX5_hasPlaces 1 = .ok (.ifCond .lt 33, 3) := dX5_hasPlaces_0_b.2.1
theorem dX5_hasPlaces_4 : decode cX5_hasPlaces 4 = .ok (.iload_n 3, 1) := dX5_hasPlaces_0_b.2.2.1
theorem dX5_hasPlaces_5 : decode cX5_hasPlaces 5 = .ok (.ifCond .lt 29, 3) := dX5_hasPlaces_0_b.2.2.2.1
theorem dX5_hasPlaces_8 : decode cX5_hasPlaces 8 = .ok (.iload_n 2, 1) := dX5_hasPlaces_0_b.2.2.2.2.1
theorem dX5_hasPlaces_9 : decode cX5_hasPlaces 9 = .ok (.aload_n 0, 1) := dX5_hasPlaces_0_b.2.2.2.2.2.1
theorem dX5_hasPlaces_10 : decode cX5_hasPlaces 10 = .ok (.getfield 15, 3) := dX5_hasPlaces_0_b.2.2.2.2.2.2.1
theorem dX5_hasPlaces_13 : decode cX5_hasPlaces 13 = .ok (.iload_n 1, 1) := dX5_hasPlaces_0_b.2.2.2.2.2.2.2.1
theorem dX5_hasPlaces_14 : decode cX5_hasPlaces 14 = .ok (.iaload, 1) := dX5_hasPlaces_0_b.2.2.2.2.2.2.2.2.1
theorem dX5_hasPlaces_15 : decode cX5_hasPlaces 15 = .ok (.if_icmp .gt 19, 3) := dX5_hasPlaces_0_b.2.2.2.2.2.2.2.2.2.1
theorem dX5_hasPlaces_18 : decode cX5_hasPlaces 18 = .ok (.iload_n 3, 1) := dX5_hasPlaces_0_b.2.2.2.2.2.2.2.2.2.2.1
theorem dX5_hasPlaces_19 : decode cX5_hasPlaces 19 = .ok (.aload_n 0, 1) := dX5_hasPlaces_0_b.2.2.2.2.2.2.2.2.2.2.2
theorem dX5_hasPlaces_20_b : (decode cX5_hasPlaces 20 = .ok (.getfield 15, 3)) ∧ (decode cX5_hasPlaces 23 = .ok (.iload_n 1, 1)) ∧ (decode cX5_hasPlaces 24 = .ok (.iaload, 1)) ∧ (decode cX5_hasPlaces 25 = .ok (.iload_n 2, 1)) ∧ (decode cX5_hasPlaces 26 = .ok (.isub, 1)) ∧ (decode cX5_hasPlaces 27 = .ok (.if_icmp .gt 7, 3)) ∧ (decode cX5_hasPlaces 30 = .ok (.iconst 1, 1)) ∧ (decode cX5_hasPlaces 31 = .ok (.goto 4, 3)) ∧ (decode cX5_hasPlaces 34 = .ok (.iconst 0, 1)) ∧ (decode cX5_hasPlaces 35 = .ok (.ireturn, 1)) := by decide +kernel
theorem dX5_hasPlaces_20 : decode cX5_hasPlaces 20 = .ok (.getfield 15, 3) := dX5_hasPlaces_20_b.1
theorem dX5_hasPlaces_23 : decode cX5_hasPlaces 23 = .ok (.iload_n 1, 1) := dX5_hasPlaces_20_b.2.1
theorem dX5_hasPlaces_24 : decode cX5_hasPlaces 24 = .ok (.iaload, 1) := dX5_hasPlaces_20_b.2.2.1
theorem dX5_hasPlaces_25 : decode cX5_hasPlaces 25 = .ok (.iload_n 2, 1) := dX5_hasPlaces_20_b.2.2.2.1
theorem dX5_hasPlaces_26 : decode cX5_hasPlaces 26 = .ok (.isub, 1) := dX5_hasPlaces_20_b.2.2.2.2.1
theorem dX5_hasPlaces_27 : decode cX5_hasPlaces 27 = .ok (.if_icmp .gt 7, 3) := dX5_hasPlaces_20_b.2.2.2.2.2.1
theorem dX5_hasPlaces_30 : decode cX5_hasPlaces 30 = .ok (.iconst 1, 1) := dX5_hasPlaces_20_b.2.2.2.2.2.2.1
theorem dX5_hasPlaces_31 : decode cX5_hasPlaces 31 = .ok (.goto 4, 3) := dX5_hasPlaces_20_b.2.2.2.2.2.2.2.1
theorem dX5_hasPlaces_34 : decode cX5_hasPlaces 34 = .ok (.iconst 0, 1) := dX5_hasPlaces_20_b.2.2.2.2.2.2.2.2.1
theorem dX5_hasPlaces_35 : decode cX5_hasPlaces 35 = .ok (.ireturn, 1) := dX5_hasPlaces_20_b.2.2.2.2.2.2.2.2.2
theorem dX5_make_0_b : (decode cX5_make 0 = .ok (.iload_n 1, 1)) ∧ (decode cX5_make 1 = .ok (.bipush 40, 2)) ∧ (decode cX5_make 3 = .ok (.imul, 1)) ∧ (decode cX5_make 4 = .ok (.istore 4, 2)) ∧ (decode cX5_make 6 = .ok (.aload_n 0, 1)) ∧ (decode cX5_make 7 = .ok (.getfield 11, 3)) ∧ (decode cX5_make 10 = .ok (.iload_n 1, 1)) ∧ (decode cX5_make 11 = .ok (.iload_n 2, 1)) ∧ (decode cX5_make 12 = .ok (.iastore, 1)) ∧ (decode cX5_make 13 = .ok (.aload_n 0, 1)) ∧ (decode cX5_make 14 = .ok (.getfield 15, 3)) ∧ (decode cX5_make 17 = .ok (.iload_n 1, 1)) := by decide +kernel
theorem dX5_make_0 : decode cX5_make 0 = .ok (.iload_n 1, 1) := dX5_make_0_b.1
theorem dX5_make_1 : decode cX5_make 1 = .ok (.bipush 40, 2) := dX5_make_0_b.2.1
theorem dX5_make_3 : decode cX5_make 3 = .ok (.imul, 1) := dX5_make_0_b.2.2.1
theorem dX5_make_4 : decode cX5_make 4 = .ok (.istore 4, 2) := dX5_make_0_b.2.2.2.1
theorem dX5_make_6 : decode cX5_make 6 = .ok (.aload_n 0, 1) := dX5_make_0_b.2.2.2.2.1
theorem dX5_make_7 : decode cX5_make 7 = .ok (.getfield 11, 3) := dX5_make_0_b.2.2.2.2.2.1
theorem dX5_make_10 : decode cX5_make 10 = .ok (.iload_n 1, 1) := dX5_make_0_b.2.2.2.2.2.2.1
theorem dX5_make_11 : decode cX5_make 11 = .ok (.iload_n 2, 1) := dX5_make_0_b.2.2.2.2.2.2.2.1
theorem dX5_make_12 : decode cX5_make 12 = .ok (.iastore, 1) := dX5_make_0_b.2.2.2.2.2.2.2.2.1
theorem dX5_make_13 : decode cX5_make 13 = .ok (.aload_n 0, 1) := dX5_make_0_b.2.2.2.2.2.2.2.2.2.1
theorem dX5_make_14 : decode cX5_make 14 = .ok (.getfield 15, 3) := dX5_make_0_b.2.2.2.2.2.2.2.2.2.2.1
theorem dX5_make_17 : decode cX5_make 17 = .ok (.iload_n 1, 1) := dX5_make_0_b.2.2.2.2.2.2.2.2.2.2.2
theorem dX5_make_18_b : (decode cX5_make 18 = .ok (.iload_n 3, 1)) ∧ (decode cX5_make 19 = .ok (.iastore, 1)) ∧ (decode cX5_make 20 = .ok (.aload_n 0, 1)) ∧ (decode cX5_make 21 = .ok (.getfield 18, 3)) ∧ (decode cX5_make 24 = .ok (.iload 4, 2)) ∧ (decode cX5_make 26 = .ok (.iload 4, 2)) ∧ (decode cX5_make 28 = .ok (.bipush 40, 2)) ∧ (decode cX5_make 30 = .ok (.iadd, 1)) ∧ (decode cX5_make 31 = .ok (.iconst 0, 1)) ∧ (decode cX5_make 32 = .ok (.invokestatic 35, 3)) ∧ (decode cX5_make 35 = .ok (.return_, 1)) := by decide +kernel
theorem dX5_make_18 : decode cX5_make 18 = .ok (.iload_n 3, 1) := dX5_make_18_b.1
theorem dX5_make_19 : decode cX5_make 19 = .ok (.iastore, 1) := dX5_make_18_b.2.1
theorem dX5_make_20 : decode cX5_make 20 = .ok (.aload_n 0, 1) := dX5_make_18_b.2.2.1
theorem dX5_make_21 : decode cX5_make 21 = .ok (.getfield 18, 3) := dX5_make_18_b.2.2.2.1
theorem dX5_make_24 : decode cX5_make 24 = .ok (.iload 4, 2) := dX5_make_18_b.2.2.2.2.1
theorem dX5_make_26 : decode cX5_make 26 = .ok (.iload 4, 2) := dX5_make_18_b.2.2.2.2.2.1
theorem dX5_make_28 : decode cX5_make 28 = .ok (.bipush 40, 2) := dX5_make_18_b.2.2.2.2.2.2.1
theorem dX5_make_30 : decode cX5_make 30 = .ok (.iadd, 1) := dX5_make_18_b.2.2.2.2.2.2.2.1
theorem dX5_make_31 : decode cX5_make 31 = .ok (.iconst 0, 1) := dX5_make_18_b.2.2.2.2.2.2.2.2.1
theorem dX5_make_32 : decode cX5_make 32 = .ok (.invokestatic 35, 3) := dX5_make_18_b.2.2.2.2.2.2.2.2.2.1
theorem dX5_make_35 : decode cX5_make 35 = .ok (.return_, 1) := dX5_make_18_b.2.2.2.2.2.2.2.2.2.2
theorem dX5_remove_0_b : (decode cX5_remove 0 = .ok (.aload_n 0, 1)) ∧ (decode cX5_remove 1 = .ok (.getfield 15, 3)) ∧ (decode cX5_remove 4 = .ok (.iload_n 1, 1)) ∧ (decode cX5_remove 5 = .ok (.iaload, 1)) ∧ (decode cX5_remove 6 = .ok (.istore_n 2, 1)) ∧ (decode cX5_remove 7 = .ok (.aload_n 0, 1)) ∧ (decode cX5_remove 8 = .ok (.getfield 11, 3)) ∧ (decode cX5_remove 11 = .ok (.iload_n 1, 1)) ∧ (decode cX5_remove 12 = .ok (.iconst (-1), 1)) ∧ (decode cX5_remove 13 = .ok (.iastore, 1)) ∧ (decode cX5_remove 14 = .ok (.aload_n 0, 1)) ∧ (decode cX5_remove 15 = .ok (.getfield 15, 3)) := by decide +kernel
theorem dX5_remove_0 : decode cX5_remove 0 = .ok (.aload_n 0, 1) := dX5_remove_0_b.1
theorem dX5_remove_1 : decode cX5_remove 1 = .ok (.getfield 15, 3) := dX5_remove_0_b.2.1
theorem dX5_remove_4 : decode cX5_remove 4 = .ok (.iload_n 1, 1) := dX5_remove_0_b.2.2.1
theorem dX5_remove_5 : decode cX5_remove 5 = .ok (.iaload, 1) := dX5_remove_0_b.2.2.2.1
theorem dX5_remove_6 : decode cX5_remove 6 = .ok (.istore_n 2, 1) := dX5_remove_0_b.2.2.2.2.1
theorem dX5_remove_7 : decode cX5_remove 7 = .ok (.aload_n 0, 1) := dX5_remove_0_b.2.2.2.2.2.1
theorem dX5_remove_8 : decode cX5_remove 8 = .ok (.getfield 11, 3) := dX5_remove_0_b.2.2.2.2.2.2.1
theorem dX5_remove_11 : decode cX5_remove 11 = .ok (.iload_n 1, 1) := dX5_remove_0_b.2.2.2.2.2.2.2.1
theorem dX5_remove_12 : decode cX5_remove 12 = .ok (.iconst (-1), 1) := dX5_remove_0_b.2.2.2.2.2.2.2.2.1
theorem dX5_remove_13 : decode cX5_remove 13 = .ok (.iastore, 1) := dX5_remove_0_b.2.2.2.2.2.2.2.2.2.1
theorem dX5_remove_14 : decode cX5_remove 14 = .ok (.aload_n 0, 1) := dX5_remove_0_b.2.2.2.2.2.2.2.2.2.2.1
theorem dX5_remove_15 : decode cX5_remove 15 = .ok (.getfield 15, 3) := dX5_remove_0_b.2.2.2.2.2.2.2.2.2.2.2
theorem dX5_remove_18_b : (decode cX5_remove 18 = .ok (.iload_n 1, 1)) ∧ (decode cX5_remove 19 = .ok (.iconst 0, 1)) ∧ (decode cX5_remove 20 = .ok (.iastore, 1)) ∧ (decode cX5_remove 21 = .ok (.iload_n 2, 1)) ∧ (decode cX5_remove 22 = .ok (.ireturn, 1)) := by decide +kernel
theorem dX5_remove_18 : decode cX5_remove 18 = .ok (.iload_n 1, 1) := dX5_remove_18_b.1
theorem dX5_remove_19 : decode cX5_remove 19 = .ok (.iconst 0, 1) := dX5_remove_18_b.2.1
theorem dX5_remove_20 : decode cX5_remove 20 = .ok (.iastore, 1) := dX5_remove_18_b.2.2.1
theorem dX5_remove_21 : decode cX5_remove 21 = .ok (.iload_n 2, 1) := dX5_remove_18_b.2.2.2.1
theorem dX5_remove_22 : decode cX5_remove 22 = .ok (.ireturn, 1) := dX5_remove_18_b.2.2.2.2
theorem dX5_put_0_b : (decode cX5_put 0 = .ok (.iload_n 3, 1)) ∧ (decode cX5_put 1 = .ok (.aload_n 0, 1)) ∧ (decode cX5_put 2 = .ok (.getfield 11, 3)) ∧ (decode cX5_put 5 = .ok (.iload_n 1, 1)) ∧ (decode cX5_put 6 = .ok (.iaload, 1)) ∧ (decode cX5_put 7 = .ok (.invokestatic 38, 3)) ∧ (decode cX5_put 10 = .ok (.istore 4, 2)) ∧ (decode cX5_put 12 = .ok (.aload_n 0, 1)) ∧ (decode cX5_put 13 = .ok (.getfield 18, 3)) ∧ (decode cX5_put 16 = .ok (.iload_n 1, 1)) ∧ (decode cX5_put 17 = .ok (.bipush 40, 2)) ∧ (decode cX5_put 19 = .ok (.imul, 1)) := by decide +kernel
theorem dX5_put_0 : decode cX5_put 0 = .ok (.iload_n 3, 1) := dX5_put_0_b.1
theorem dX5_put_1 : decode cX5_put 1 = .ok (.aload_n 0, 1) := dX5_put_0_b.2.1
theorem dX5_put_2 : decode cX5_put 2 = .ok (.getfield 11, 3) := dX5_put_0_b.2.2.1
theorem dX5_put_5 : decode cX5_put 5 = .ok (.iload_n 1, 1) := dX5_put_0_b.2.2.2.1
theorem dX5_put_6 : decode cX5_put 6 = .ok (.iaload, 1) := dX5_put_0_b.2.2.2.2.1
theorem dX5_put_7 : decode cX5_put 7 = .ok (.invokestatic 38, 3) := dX5_put_0_b.2.2.2.2.2.1
theorem dX5_put_10 : decode cX5_put 10 = .ok (.istore 4, 2) := dX5_put_0_b.2.2.2.2.2.2.1
theorem dX5_put_12 : decode cX5_put 12 = .ok (.aload_n 0, 1) := dX5_put_0_b.2.2.2.2.2.2.2.1
theorem dX5_put_13 : decode cX5_put 13 = .ok (.getfield 18, 3) := dX5_put_0_b.2.2.2.2.2.2.2.2.1
theorem dX5_put_16 : decode cX5_put 16 = .ok (.iload_n 1, 1) := dX5_put_0_b.2.2.2.2.2.2.2.2.2.1
theorem dX5_put_17 : decode cX5_put 17 = .ok (.bipush 40, 2) := dX5_put_0_b.2.2.2.2.2.2.2.2.2.2.1
theorem dX5_put_19 : decode cX5_put 19 = .ok (.imul, 1) := dX5_put_0_b.2.2.2.2.2.2.2.2.2.2.2
theorem dX5_put_20_b : (decode cX5_put 20 = .ok (.iload_n 2, 1)) ∧ (decode cX5_put 21 = .ok (.iadd, 1)) ∧ (decode cX5_put 22 = .ok (.iload 4, 2)) ∧ (decode cX5_put 24 = .ok (.iastore, 1)) ∧ (decode cX5_put 25 = .ok (.iload 4, 2)) ∧ (decode cX5_put 27 = .ok (.ireturn, 1)) := by decide +kernel
theorem dX5_put_20 : decode cX5_put 20 = .ok (.iload_n 2, 1) := dX5_put_20_b.1
theorem dX5_put_21 : decode cX5_put 21 = .ok (.iadd, 1) := dX5_put_20_b.2.1
theorem dX5_put_22 : decode cX5_put 22 = .ok (.iload 4, 2) := dX5_put_20_b.2.2.1
theorem dX5_put_24 : decode cX5_put 24 = .ok (.iastore, 1) := dX5_put_20_b.2.2.2.1
theorem dX5_put_25 : decode cX5_put 25 = .ok (.iload 4, 2) := dX5_put_20_b.2.2.2.2.1
theorem dX5_put_27 : decode cX5_put 27 = .ok (.ireturn, 1) := dX5_put_20_b.2.2.2.2.2
theorem dX5_cutToLane_0_b : (decode cX5_cutToLane 0 = .ok (.iload_n 1, 1)) ∧ (decode cX5_cutToLane 1 = .ok (.ifCond .ne 6, 3)) ∧ (decode cX5_cutToLane 4 = .ok (.iload_n 0, 1)) ∧ (decode cX5_cutToLane 5 = .ok (.i2b, 1)) ∧ (decode cX5_cutToLane 6 = .ok (.ireturn, 1)) ∧ (decode cX5_cutToLane 7 = .ok (.iload_n 1, 1)) ∧ (decode cX5_cutToLane 8 = .ok (.iconst 1, 1)) ∧ (decode cX5_cutToLane 9 = .ok (.if_icmp .ne 8, 3)) ∧ (decode cX5_cutToLane 12 = .ok (.iload_n 0, 1)) ∧ (decode cX5_cutToLane 13 = .ok (.i2s, 1)) ∧ (decode cX5_cutToLane 14 = .ok (.goto 4, 3)) ∧ (decode cX5_cutToLane 17 = .ok (.iload_n 0, 1)) := by decide +kernel
theorem dX5_cutToLane_0 : decode cX5_cutToLane 0 = .ok (.iload_n 1, 1) := dX5_cutToLane_0_b.1
theorem dX5_cutToLane_1 : decode cX5_cutToLane 1 = .ok (.ifCond .ne 6, 3) := dX5_cutToLane_0_b.2.1
theorem dX5_cutToLane_4 : decode cX5_cutToLane 4 = .ok (.iload_n 0, 1) := dX5_cutToLane_0_b.2.2.1
theorem dX5_cutToLane_5 : decode cX5_cutToLane 5 = .ok (.i2b, 1) := dX5_cutToLane_0_b.2.2.2.1
theorem dX5_cutToLane_6 : decode cX5_cutToLane 6 = .ok (.ireturn, 1) := dX5_cutToLane_0_b.2.2.2.2.1
theorem dX5_cutToLane_7 : decode cX5_cutToLane 7 = .ok (.iload_n 1, 1) := dX5_cutToLane_0_b.2.2.2.2.2.1
theorem dX5_cutToLane_8 : decode cX5_cutToLane 8 = .ok (.iconst 1, 1) := dX5_cutToLane_0_b.2.2.2.2.2.2.1
theorem dX5_cutToLane_9 : decode cX5_cutToLane 9 = .ok (.if_icmp .ne 8, 3) := dX5_cutToLane_0_b.2.2.2.2.2.2.2.1
theorem dX5_cutToLane_12 : decode cX5_cutToLane 12 = .ok (.iload_n 0, 1) := dX5_cutToLane_0_b.2.2.2.2.2.2.2.2.1
theorem dX5_cutToLane_13 : decode cX5_cutToLane 13 = .ok (.i2s, 1) := dX5_cutToLane_0_b.2.2.2.2.2.2.2.2.2.1
theorem dX5_cutToLane_14 : decode cX5_cutToLane 14 = .ok (.goto 4, 3) := dX5_cutToLane_0_b.2.2.2.2.2.2.2.2.2.2.1
theorem dX5_cutToLane_17 : decode cX5_cutToLane 17 = .ok (.iload_n 0, 1) := dX5_cutToLane_0_b.2.2.2.2.2.2.2.2.2.2.2
theorem dX5_cutToLane_18 : decode cX5_cutToLane 18 = .ok (.ireturn, 1) := by decide +kernel
theorem dX5_item_0_b : (decode cX5_item 0 = .ok (.aload_n 0, 1)) ∧ (decode cX5_item 1 = .ok (.getfield 18, 3)) ∧ (decode cX5_item 4 = .ok (.iload_n 1, 1)) ∧ (decode cX5_item 5 = .ok (.bipush 40, 2)) ∧ (decode cX5_item 7 = .ok (.imul, 1)) ∧ (decode cX5_item 8 = .ok (.iload_n 2, 1)) ∧ (decode cX5_item 9 = .ok (.iadd, 1)) ∧ (decode cX5_item 10 = .ok (.iaload, 1)) ∧ (decode cX5_item 11 = .ok (.ireturn, 1)) := by decide +kernel
theorem dX5_item_0 : decode cX5_item 0 = .ok (.aload_n 0, 1) := dX5_item_0_b.1
theorem dX5_item_1 : decode cX5_item 1 = .ok (.getfield 18, 3) := dX5_item_0_b.2.1
theorem dX5_item_4 : decode cX5_item 4 = .ok (.iload_n 1, 1) := dX5_item_0_b.2.2.1
theorem dX5_item_5 : decode cX5_item 5 = .ok (.bipush 40, 2) := dX5_item_0_b.2.2.2.1
theorem dX5_item_7 : decode cX5_item 7 = .ok (.imul, 1) := dX5_item_0_b.2.2.2.2.1
theorem dX5_item_8 : decode cX5_item 8 = .ok (.iload_n 2, 1) := dX5_item_0_b.2.2.2.2.2.1
theorem dX5_item_9 : decode cX5_item 9 = .ok (.iadd, 1) := dX5_item_0_b.2.2.2.2.2.2.1
theorem dX5_item_10 : decode cX5_item 10 = .ok (.iaload, 1) := dX5_item_0_b.2.2.2.2.2.2.2.1
theorem dX5_item_11 : decode cX5_item 11 = .ok (.ireturn, 1) := dX5_item_0_b.2.2.2.2.2.2.2.2
theorem dX5_move_0_b : (decode cX5_move 0 = .ok (.aload_n 0, 1)) ∧ (decode cX5_move 1 = .ok (.getfield 18, 3)) ∧ (decode cX5_move 4 = .ok (.iload_n 1, 1)) ∧ (decode cX5_move 5 = .ok (.bipush 40, 2)) ∧ (decode cX5_move 7 = .ok (.imul, 1)) ∧ (decode cX5_move 8 = .ok (.iload_n 2, 1)) ∧ (decode cX5_move 9 = .ok (.iadd, 1)) ∧ (decode cX5_move 10 = .ok (.aload_n 0, 1)) ∧ (decode cX5_move 11 = .ok (.getfield 18, 3)) ∧ (decode cX5_move 14 = .ok (.iload_n 3, 1)) ∧ (decode cX5_move 15 = .ok (.bipush 40, 2)) ∧ (decode cX5_move 17 = .ok (.imul, 1)) := by decide +kernel
theorem dX5_move_0 : decode cX5_move 0 = .ok (.aload_n 0, 1) := dX5_move_0_b.1
theorem dX5_move_1 : decode cX5_move 1 = .ok (.getfield 18, 3) := dX5_move_0_b.2.1
theorem dX5_move_4 : decode cX5_move 4 = .ok (.iload_n 1, 1) := dX5_move_0_b.2.2.1
theorem dX5_move_5 : decode cX5_move 5 = .ok (.bipush 40, 2) := dX5_move_0_b.2.2.2.1
theorem dX5_move_7 : decode cX5_move 7 = .ok (.imul, 1) := dX5_move_0_b.2.2.2.2.1
theorem dX5_move_8 : decode cX5_move 8 = .ok (.iload_n 2, 1) := dX5_move_0_b.2.2.2.2.2.1
theorem dX5_move_9 : decode cX5_move 9 = .ok (.iadd, 1) := dX5_move_0_b.2.2.2.2.2.2.1
theorem dX5_move_10 : decode cX5_move 10 = .ok (.aload_n 0, 1) := dX5_move_0_b.2.2.2.2.2.2.2.1
theorem dX5_move_11 : decode cX5_move 11 = .ok (.getfield 18, 3) := dX5_move_0_b.2.2.2.2.2.2.2.2.1
theorem dX5_move_14 : decode cX5_move 14 = .ok (.iload_n 3, 1) := dX5_move_0_b.2.2.2.2.2.2.2.2.2.1
theorem dX5_move_15 : decode cX5_move 15 = .ok (.bipush 40, 2) := dX5_move_0_b.2.2.2.2.2.2.2.2.2.2.1
theorem dX5_move_17 : decode cX5_move 17 = .ok (.imul, 1) := dX5_move_0_b.2.2.2.2.2.2.2.2.2.2.2
theorem dX5_move_18_b : (decode cX5_move 18 = .ok (.iload 4, 2)) ∧ (decode cX5_move 20 = .ok (.iadd, 1)) ∧ (decode cX5_move 21 = .ok (.iload 5, 2)) ∧ (decode cX5_move 23 = .ok (.invokestatic 42, 3)) ∧ (decode cX5_move 26 = .ok (.return_, 1)) := by decide +kernel
theorem dX5_move_18 : decode cX5_move 18 = .ok (.iload 4, 2) := dX5_move_18_b.1
theorem dX5_move_20 : decode cX5_move 20 = .ok (.iadd, 1) := dX5_move_18_b.2.1
theorem dX5_move_21 : decode cX5_move 21 = .ok (.iload 5, 2) := dX5_move_18_b.2.2.1
theorem dX5_move_23 : decode cX5_move 23 = .ok (.invokestatic 42, 3) := dX5_move_18_b.2.2.2.1
theorem dX5_move_26 : decode cX5_move 26 = .ok (.return_, 1) := dX5_move_18_b.2.2.2.2
theorem dX5_present_0_b : (decode cX5_present 0 = .ok (.iconst 0, 1)) ∧ (decode cX5_present 1 = .ok (.istore_n 1, 1)) ∧ (decode cX5_present 2 = .ok (.iconst 0, 1)) ∧ (decode cX5_present 3 = .ok (.istore_n 2, 1)) ∧ (decode cX5_present 4 = .ok (.iload_n 2, 1)) ∧ (decode cX5_present 5 = .ok (.bipush 8, 2)) ∧ (decode cX5_present 7 = .ok (.if_icmp .ge 20, 3)) ∧ (decode cX5_present 10 = .ok (.aload_n 0, 1)) ∧ (decode cX5_present 11 = .ok (.iload_n 2, 1)) ∧ (decode cX5_present 12 = .ok (.invokevirtual 27, 3)) ∧ (decode cX5_present 15 = .ok (.ifCond .ne 6, 3)) ∧ (decode cX5_present 18 = .ok (.iinc 1 1, 3)) := by decide +kernel
theorem dX5_present_0 : decode cX5_present 0 = .ok (.iconst 0, 1) := dX5_present_0_b.1
theorem dX5_present_1 : decode cX5_present 1 = .ok (.istore_n 1, 1) := dX5_present_0_b.2.1
theorem dX5_present_2 : decode cX5_present 2 = .ok (.iconst 0, 1) := dX5_present_0_b.2.2.1
theorem dX5_present_3 : decode cX5_present 3 = .ok (.istore_n 2, 1) := dX5_present_0_b.2.2.2.1
theorem dX5_present_4 : decode cX5_present 4 = .ok (.iload_n 2, 1) := dX5_present_0_b.2.2.2.2.1
theorem dX5_present_5 : decode cX5_present 5 = .ok (.bipush 8, 2) := dX5_present_0_b.2.2.2.2.2.1
theorem dX5_present_7 : decode cX5_present 7 = .ok (.if_icmp .ge 20, 3) := dX5_present_0_b.2.2.2.2.2.2.1
theorem dX5_present_10 : decode cX5_present 10 = .ok (.aload_n 0, 1) := dX5_present_0_b.2.2.2.2.2.2.2.1
theorem dX5_present_11 : decode cX5_present 11 = .ok (.iload_n 2, 1) := dX5_present_0_b.2.2.2.2.2.2.2.2.1
theorem dX5_present_12 : decode cX5_present 12 = .ok (.invokevirtual 27, 3) := dX5_present_0_b.2.2.2.2.2.2.2.2.2.1
theorem dX5_present_15 : decode cX5_present 15 = .ok (.ifCond .ne 6, 3) := dX5_present_0_b.2.2.2.2.2.2.2.2.2.2.1
theorem dX5_present_18 : decode cX5_present 18 = .ok (.iinc 1 1, 3) := dX5_present_0_b.2.2.2.2.2.2.2.2.2.2.2
theorem dX5_present_21_b : (decode cX5_present 21 = .ok (.iinc 2 1, 3)) ∧ (decode cX5_present 24 = .ok (.goto (-20), 3)) ∧ (decode cX5_present 27 = .ok (.iload_n 1, 1)) ∧ (decode cX5_present 28 = .ok (.ireturn, 1)) := by decide +kernel
theorem dX5_present_21 : decode cX5_present 21 = .ok (.iinc 2 1, 3) := dX5_present_21_b.1
theorem dX5_present_24 : decode cX5_present 24 = .ok (.goto (-20), 3) := dX5_present_21_b.2.1
theorem dX5_present_27 : decode cX5_present 27 = .ok (.iload_n 1, 1) := dX5_present_21_b.2.2.1
theorem dX5_present_28 : decode cX5_present 28 = .ok (.ireturn, 1) := dX5_present_21_b.2.2.2
theorem dJ6_numberOfTrailingZeros_0f7a4_0_b : (decode cJ6_numberOfTrailingZeros_0f7a4 0 = .ok (.iload_n 0, 1)) ∧ (decode cJ6_numberOfTrailingZeros_0f7a4 1 = .ok (.iconst (-1), 1)) ∧ (decode cJ6_numberOfTrailingZeros_0f7a4 2 = .ok (.ixor, 1)) ∧ (decode cJ6_numberOfTrailingZeros_0f7a4 3 = .ok (.iload_n 0, 1)) ∧ (decode cJ6_numberOfTrailingZeros_0f7a4 4 = .ok (.iconst 1, 1)) ∧ (decode cJ6_numberOfTrailingZeros_0f7a4 5 = .ok (.isub, 1)) ∧ (decode cJ6_numberOfTrailingZeros_0f7a4 6 = .ok (.iand, 1)) ∧ (decode cJ6_numberOfTrailingZeros_0f7a4 7 = .ok (.istore_n 0, 1)) ∧ (decode cJ6_numberOfTrailingZeros_0f7a4 8 = .ok (.iload_n 0, 1)) ∧ (decode cJ6_numberOfTrailingZeros_0f7a4 9 = .ok (.ifCond .gt 8, 3)) ∧ (decode cJ6_numberOfTrailingZeros_0f7a4 12 = .ok (.iload_n 0, 1)) ∧ (decode cJ6_numberOfTrailingZeros_0f7a4 13 = .ok (.bipush 32, 2)) := by decide +kernel
theorem dJ6_numberOfTrailingZeros_0f7a4_0 : decode cJ6_numberOfTrailingZeros_0f7a4 0 = .ok (.iload_n 0, 1) := dJ6_numberOfTrailingZeros_0f7a4_0_b.1
theorem dJ6_numberOfTrailingZeros_0f7a4_1 : decode cJ6_numberOfTrailingZeros_0f7a4 1 = .ok (.iconst (-1), 1) := dJ6_numberOfTrailingZeros_0f7a4_0_b.2.1
theorem dJ6_numberOfTrailingZeros_0f7a4_2 : decode cJ6_numberOfTrailingZeros_0f7a4 2 = .ok (.ixor, 1) := dJ6_numberOfTrailingZeros_0f7a4_0_b.2.2.1
theorem dJ6_numberOfTrailingZeros_0f7a4_3 : decode cJ6_numberOfTrailingZeros_0f7a4 3 = .ok (.iload_n 0, 1) := dJ6_numberOfTrailingZeros_0f7a4_0_b.2.2.2.1
theorem dJ6_numberOfTrailingZeros_0f7a4_4 : decode cJ6_numberOfTrailingZeros_0f7a4 4 = .ok (.iconst 1, 1) := dJ6_numberOfTrailingZeros_0f7a4_0_b.2.2.2.2.1
theorem dJ6_numberOfTrailingZeros_0f7a4_5 : decode cJ6_numberOfTrailingZeros_0f7a4 5 = .ok (.isub, 1) := dJ6_numberOfTrailingZeros_0f7a4_0_b.2.2.2.2.2.1
theorem dJ6_numberOfTrailingZeros_0f7a4_6 : decode cJ6_numberOfTrailingZeros_0f7a4 6 = .ok (.iand, 1) := dJ6_numberOfTrailingZeros_0f7a4_0_b.2.2.2.2.2.2.1
theorem dJ6_numberOfTrailingZeros_0f7a4_7 : decode cJ6_numberOfTrailingZeros_0f7a4 7 = .ok (.istore_n 0, 1) := dJ6_numberOfTrailingZeros_0f7a4_0_b.2.2.2.2.2.2.2.1
theorem dJ6_numberOfTrailingZeros_0f7a4_8 : decode cJ6_numberOfTrailingZeros_0f7a4 8 = .ok (.iload_n 0, 1) := dJ6_numberOfTrailingZeros_0f7a4_0_b.2.2.2.2.2.2.2.2.1
theorem dJ6_numberOfTrailingZeros_0f7a4_9 : decode cJ6_numberOfTrailingZeros_0f7a4 9 = .ok (.ifCond .gt 8, 3) := dJ6_numberOfTrailingZeros_0f7a4_0_b.2.2.2.2.2.2.2.2.2.1
theorem dJ6_numberOfTrailingZeros_0f7a4_12 : decode cJ6_numberOfTrailingZeros_0f7a4 12 = .ok (.iload_n 0, 1) := dJ6_numberOfTrailingZeros_0f7a4_0_b.2.2.2.2.2.2.2.2.2.2.1
theorem dJ6_numberOfTrailingZeros_0f7a4_13 : decode cJ6_numberOfTrailingZeros_0f7a4 13 = .ok (.bipush 32, 2) := dJ6_numberOfTrailingZeros_0f7a4_0_b.2.2.2.2.2.2.2.2.2.2.2
theorem dJ6_numberOfTrailingZeros_0f7a4_15_b : (decode cJ6_numberOfTrailingZeros_0f7a4 15 = .ok (.iand, 1)) ∧ (decode cJ6_numberOfTrailingZeros_0f7a4 16 = .ok (.ireturn, 1)) ∧ (decode cJ6_numberOfTrailingZeros_0f7a4 17 = .ok (.iconst 1, 1)) ∧ (decode cJ6_numberOfTrailingZeros_0f7a4 18 = .ok (.istore_n 1, 1)) ∧ (decode cJ6_numberOfTrailingZeros_0f7a4 19 = .ok (.iload_n 0, 1)) ∧ (decode cJ6_numberOfTrailingZeros_0f7a4 20 = .ok (.ldc_w 264, 3)) ∧ (decode cJ6_numberOfTrailingZeros_0f7a4 23 = .ok (.if_icmp .le 11, 3)) ∧ (decode cJ6_numberOfTrailingZeros_0f7a4 26 = .ok (.iinc 1 16, 3)) ∧ (decode cJ6_numberOfTrailingZeros_0f7a4 29 = .ok (.iload_n 0, 1)) ∧ (decode cJ6_numberOfTrailingZeros_0f7a4 30 = .ok (.bipush 16, 2)) ∧ (decode cJ6_numberOfTrailingZeros_0f7a4 32 = .ok (.iushr, 1)) ∧ (decode cJ6_numberOfTrailingZeros_0f7a4 33 = .ok (.istore_n 0, 1)) := by decide +kernel
theorem dJ6_numberOfTrailingZeros_0f7a4_15 : decode cJ6_numberOfTrailingZeros_0f7a4 15 = .ok (.iand, 1) := dJ6_numberOfTrailingZeros_0f7a4_15_b.1
theorem dJ6_numberOfTrailingZeros_0f7a4_16 : decode cJ6_numberOfTrailingZeros_0f7a4 16 = .ok (.ireturn, 1) := dJ6_numberOfTrailingZeros_0f7a4_15_b.2.1
theorem dJ6_numberOfTrailingZeros_0f7a4_17 : decode cJ6_numberOfTrailingZeros_0f7a4 17 = .ok (.iconst 1, 1) := dJ6_numberOfTrailingZeros_0f7a4_15_b.2.2.1
theorem dJ6_numberOfTrailingZeros_0f7a4_18 : decode cJ6_numberOfTrailingZeros_0f7a4 18 = .ok (.istore_n 1, 1) := dJ6_numberOfTrailingZeros_0f7a4_15_b.2.2.2.1
theorem dJ6_numberOfTrailingZeros_0f7a4_19 : decode cJ6_numberOfTrailingZeros_0f7a4 19 = .ok (.iload_n 0, 1) := dJ6_numberOfTrailingZeros_0f7a4_15_b.2.2.2.2.1
theorem dJ6_numberOfTrailingZeros_0f7a4_20 : decode cJ6_numberOfTrailingZeros_0f7a4 20 = .ok (.ldc_w 264, 3) := dJ6_numberOfTrailingZeros_0f7a4_15_b.2.2.2.2.2.1
theorem dJ6_numberOfTrailingZeros_0f7a4_23 : decode cJ6_numberOfTrailingZeros_0f7a4 23 = .ok (.if_icmp .le 11, 3) := dJ6_numberOfTrailingZeros_0f7a4_15_b.2.2.2.2.2.2.1
theorem dJ6_numberOfTrailingZeros_0f7a4_26 : decode cJ6_numberOfTrailingZeros_0f7a4 26 = .ok (.iinc 1 16, 3) := dJ6_numberOfTrailingZeros_0f7a4_15_b.2.2.2.2.2.2.2.1
theorem dJ6_numberOfTrailingZeros_0f7a4_29 : decode cJ6_numberOfTrailingZeros_0f7a4 29 = .ok (.iload_n 0, 1) := dJ6_numberOfTrailingZeros_0f7a4_15_b.2.2.2.2.2.2.2.2.1
theorem dJ6_numberOfTrailingZeros_0f7a4_30 : decode cJ6_numberOfTrailingZeros_0f7a4 30 = .ok (.bipush 16, 2) := dJ6_numberOfTrailingZeros_0f7a4_15_b.2.2.2.2.2.2.2.2.2.1
theorem dJ6_numberOfTrailingZeros_0f7a4_32 : decode cJ6_numberOfTrailingZeros_0f7a4 32 = .ok (.iushr, 1) := dJ6_numberOfTrailingZeros_0f7a4_15_b.2.2.2.2.2.2.2.2.2.2.1
theorem dJ6_numberOfTrailingZeros_0f7a4_33 : decode cJ6_numberOfTrailingZeros_0f7a4 33 = .ok (.istore_n 0, 1) := dJ6_numberOfTrailingZeros_0f7a4_15_b.2.2.2.2.2.2.2.2.2.2.2
theorem dJ6_numberOfTrailingZeros_0f7a4_34_b : (decode cJ6_numberOfTrailingZeros_0f7a4 34 = .ok (.iload_n 0, 1)) ∧ (decode cJ6_numberOfTrailingZeros_0f7a4 35 = .ok (.sipush 256, 3)) ∧ (decode cJ6_numberOfTrailingZeros_0f7a4 38 = .ok (.if_icmp .le 11, 3)) ∧ (decode cJ6_numberOfTrailingZeros_0f7a4 41 = .ok (.iinc 1 8, 3)) ∧ (decode cJ6_numberOfTrailingZeros_0f7a4 44 = .ok (.iload_n 0, 1)) ∧ (decode cJ6_numberOfTrailingZeros_0f7a4 45 = .ok (.bipush 8, 2)) ∧ (decode cJ6_numberOfTrailingZeros_0f7a4 47 = .ok (.iushr, 1)) ∧ (decode cJ6_numberOfTrailingZeros_0f7a4 48 = .ok (.istore_n 0, 1)) ∧ (decode cJ6_numberOfTrailingZeros_0f7a4 49 = .ok (.iload_n 0, 1)) ∧ (decode cJ6_numberOfTrailingZeros_0f7a4 50 = .ok (.bipush 16, 2)) ∧ (decode cJ6_numberOfTrailingZeros_0f7a4 52 = .ok (.if_icmp .le 10, 3)) ∧ (decode cJ6_numberOfTrailingZeros_0f7a4 55 = .ok (.iinc 1 4, 3)) := by decide +kernel
theorem dJ6_numberOfTrailingZeros_0f7a4_34 : decode cJ6_numberOfTrailingZeros_0f7a4 34 = .ok (.iload_n 0, 1) := dJ6_numberOfTrailingZeros_0f7a4_34_b.1
theorem dJ6_numberOfTrailingZeros_0f7a4_35 : decode cJ6_numberOfTrailingZeros_0f7a4 35 = .ok (.sipush 256, 3) := dJ6_numberOfTrailingZeros_0f7a4_34_b.2.1
theorem dJ6_numberOfTrailingZeros_0f7a4_38 : decode cJ6_numberOfTrailingZeros_0f7a4 38 = .ok (.if_icmp .le 11, 3) := dJ6_numberOfTrailingZeros_0f7a4_34_b.2.2.1
theorem dJ6_numberOfTrailingZeros_0f7a4_41 : decode cJ6_numberOfTrailingZeros_0f7a4 41 = .ok (.iinc 1 8, 3) := dJ6_numberOfTrailingZeros_0f7a4_34_b.2.2.2.1
theorem dJ6_numberOfTrailingZeros_0f7a4_44 : decode cJ6_numberOfTrailingZeros_0f7a4 44 = .ok (.iload_n 0, 1) := dJ6_numberOfTrailingZeros_0f7a4_34_b.2.2.2.2.1
theorem dJ6_numberOfTrailingZeros_0f7a4_45 : decode cJ6_numberOfTrailingZeros_0f7a4 45 = .ok (.bipush 8, 2) := dJ6_numberOfTrailingZeros_0f7a4_34_b.2.2.2.2.2.1
theorem dJ6_numberOfTrailingZeros_0f7a4_47 : decode cJ6_numberOfTrailingZeros_0f7a4 47 = .ok (.iushr, 1) := dJ6_numberOfTrailingZeros_0f7a4_34_b.2.2.2.2.2.2.1
theorem dJ6_numberOfTrailingZeros_0f7a4_48 : decode cJ6_numberOfTrailingZeros_0f7a4 48 = .ok (.istore_n 0, 1) := dJ6_numberOfTrailingZeros_0f7a4_34_b.2.2.2.2.2.2.2.1
theorem dJ6_numberOfTrailingZeros_0f7a4_49 : decode cJ6_numberOfTrailingZeros_0f7a4 49 = .ok (.iload_n 0, 1) := dJ6_numberOfTrailingZeros_0f7a4_34_b.2.2.2.2.2.2.2.2.1
theorem dJ6_numberOfTrailingZeros_0f7a4_50 : decode cJ6_numberOfTrailingZeros_0f7a4 50 = .ok (.bipush 16, 2) := dJ6_numberOfTrailingZeros_0f7a4_34_b.2.2.2.2.2.2.2.2.2.1
theorem dJ6_numberOfTrailingZeros_0f7a4_52 : decode cJ6_numberOfTrailingZeros_0f7a4 52 = .ok (.if_icmp .le 10, 3) := dJ6_numberOfTrailingZeros_0f7a4_34_b.2.2.2.2.2.2.2.2.2.2.1
theorem dJ6_numberOfTrailingZeros_0f7a4_55 : decode cJ6_numberOfTrailingZeros_0f7a4 55 = .ok (.iinc 1 4, 3) := dJ6_numberOfTrailingZeros_0f7a4_34_b.2.2.2.2.2.2.2.2.2.2.2
theorem dJ6_numberOfTrailingZeros_0f7a4_58_b : (decode cJ6_numberOfTrailingZeros_0f7a4 58 = .ok (.iload_n 0, 1)) ∧ (decode cJ6_numberOfTrailingZeros_0f7a4 59 = .ok (.iconst 4, 1)) ∧ (decode cJ6_numberOfTrailingZeros_0f7a4 60 = .ok (.iushr, 1)) ∧ (decode cJ6_numberOfTrailingZeros_0f7a4 61 = .ok (.istore_n 0, 1)) ∧ (decode cJ6_numberOfTrailingZeros_0f7a4 62 = .ok (.iload_n 0, 1)) ∧ (decode cJ6_numberOfTrailingZeros_0f7a4 63 = .ok (.iconst 4, 1)) ∧ (decode cJ6_numberOfTrailingZeros_0f7a4 64 = .ok (.if_icmp .le 10, 3)) ∧ (decode cJ6_numberOfTrailingZeros_0f7a4 67 = .ok (.iinc 1 2, 3)) ∧ (decode cJ6_numberOfTrailingZeros_0f7a4 70 = .ok (.iload_n 0, 1)) ∧ (decode cJ6_numberOfTrailingZeros_0f7a4 71 = .ok (.iconst 2, 1)) ∧ (decode cJ6_numberOfTrailingZeros_0f7a4 72 = .ok (.iushr, 1)) ∧ (decode cJ6_numberOfTrailingZeros_0f7a4 73 = .ok (.istore_n 0, 1)) := by decide +kernel
theorem dJ6_numberOfTrailingZeros_0f7a4_58 : decode cJ6_numberOfTrailingZeros_0f7a4 58 = .ok (.iload_n 0, 1) := dJ6_numberOfTrailingZeros_0f7a4_58_b.1
theorem dJ6_numberOfTrailingZeros_0f7a4_59 : decode cJ6_numberOfTrailingZeros_0f7a4 59 = .ok (.iconst 4, 1) := dJ6_numberOfTrailingZeros_0f7a4_58_b.2.1
theorem dJ6_numberOfTrailingZeros_0f7a4_60 : decode cJ6_numberOfTrailingZeros_0f7a4 60 = .ok (.iushr, 1) := dJ6_numberOfTrailingZeros_0f7a4_58_b.2.2.1
theorem dJ6_numberOfTrailingZeros_0f7a4_61 : decode cJ6_numberOfTrailingZeros_0f7a4 61 = .ok (.istore_n 0, 1) := dJ6_numberOfTrailingZeros_0f7a4_58_b.2.2.2.1
theorem dJ6_numberOfTrailingZeros_0f7a4_62 : decode cJ6_numberOfTrailingZeros_0f7a4 62 = .ok (.iload_n 0, 1) := dJ6_numberOfTrailingZeros_0f7a4_58_b.2.2.2.2.1
theorem dJ6_numberOfTrailingZeros_0f7a4_63 : decode cJ6_numberOfTrailingZeros_0f7a4 63 = .ok (.iconst 4, 1) := dJ6_numberOfTrailingZeros_0f7a4_58_b.2.2.2.2.2.1
theorem dJ6_numberOfTrailingZeros_0f7a4_64 : decode cJ6_numberOfTrailingZeros_0f7a4 64 = .ok (.if_icmp .le 10, 3) := dJ6_numberOfTrailingZeros_0f7a4_58_b.2.2.2.2.2.2.1
theorem dJ6_numberOfTrailingZeros_0f7a4_67 : decode cJ6_numberOfTrailingZeros_0f7a4 67 = .ok (.iinc 1 2, 3) := dJ6_numberOfTrailingZeros_0f7a4_58_b.2.2.2.2.2.2.2.1
theorem dJ6_numberOfTrailingZeros_0f7a4_70 : decode cJ6_numberOfTrailingZeros_0f7a4 70 = .ok (.iload_n 0, 1) := dJ6_numberOfTrailingZeros_0f7a4_58_b.2.2.2.2.2.2.2.2.1
theorem dJ6_numberOfTrailingZeros_0f7a4_71 : decode cJ6_numberOfTrailingZeros_0f7a4 71 = .ok (.iconst 2, 1) := dJ6_numberOfTrailingZeros_0f7a4_58_b.2.2.2.2.2.2.2.2.2.1
theorem dJ6_numberOfTrailingZeros_0f7a4_72 : decode cJ6_numberOfTrailingZeros_0f7a4 72 = .ok (.iushr, 1) := dJ6_numberOfTrailingZeros_0f7a4_58_b.2.2.2.2.2.2.2.2.2.2.1
theorem dJ6_numberOfTrailingZeros_0f7a4_73 : decode cJ6_numberOfTrailingZeros_0f7a4 73 = .ok (.istore_n 0, 1) := dJ6_numberOfTrailingZeros_0f7a4_58_b.2.2.2.2.2.2.2.2.2.2.2
theorem dJ6_numberOfTrailingZeros_0f7a4_74_b : (decode cJ6_numberOfTrailingZeros_0f7a4 74 = .ok (.iload_n 1, 1)) ∧ (decode cJ6_numberOfTrailingZeros_0f7a4 75 = .ok (.iload_n 0, 1)) ∧ (decode cJ6_numberOfTrailingZeros_0f7a4 76 = .ok (.iconst 1, 1)) ∧ (decode cJ6_numberOfTrailingZeros_0f7a4 77 = .ok (.iushr, 1)) ∧ (decode cJ6_numberOfTrailingZeros_0f7a4 78 = .ok (.iadd, 1)) ∧ (decode cJ6_numberOfTrailingZeros_0f7a4 79 = .ok (.ireturn, 1)) := by decide +kernel
theorem dJ6_numberOfTrailingZeros_0f7a4_74 : decode cJ6_numberOfTrailingZeros_0f7a4 74 = .ok (.iload_n 1, 1) := dJ6_numberOfTrailingZeros_0f7a4_74_b.1
theorem dJ6_numberOfTrailingZeros_0f7a4_75 : decode cJ6_numberOfTrailingZeros_0f7a4 75 = .ok (.iload_n 0, 1) := dJ6_numberOfTrailingZeros_0f7a4_74_b.2.1
theorem dJ6_numberOfTrailingZeros_0f7a4_76 : decode cJ6_numberOfTrailingZeros_0f7a4 76 = .ok (.iconst 1, 1) := dJ6_numberOfTrailingZeros_0f7a4_74_b.2.2.1
theorem dJ6_numberOfTrailingZeros_0f7a4_77 : decode cJ6_numberOfTrailingZeros_0f7a4 77 = .ok (.iushr, 1) := dJ6_numberOfTrailingZeros_0f7a4_74_b.2.2.2.1
theorem dJ6_numberOfTrailingZeros_0f7a4_78 : decode cJ6_numberOfTrailingZeros_0f7a4 78 = .ok (.iadd, 1) := dJ6_numberOfTrailingZeros_0f7a4_74_b.2.2.2.2.1
theorem dJ6_numberOfTrailingZeros_0f7a4_79 : decode cJ6_numberOfTrailingZeros_0f7a4 79 = .ok (.ireturn, 1) := dJ6_numberOfTrailingZeros_0f7a4_74_b.2.2.2.2.2
theorem dJ6_bitCount_0f7a4_0_b : (decode cJ6_bitCount_0f7a4 0 = .ok (.iload_n 0, 1)) ∧ (decode cJ6_bitCount_0f7a4 1 = .ok (.iload_n 0, 1)) ∧ (decode cJ6_bitCount_0f7a4 2 = .ok (.iconst 1, 1)) ∧ (decode cJ6_bitCount_0f7a4 3 = .ok (.iushr, 1)) ∧ (decode cJ6_bitCount_0f7a4 4 = .ok (.ldc_w 265, 3)) ∧ (decode cJ6_bitCount_0f7a4 7 = .ok (.iand, 1)) ∧ (decode cJ6_bitCount_0f7a4 8 = .ok (.isub, 1)) ∧ (decode cJ6_bitCount_0f7a4 9 = .ok (.istore_n 0, 1)) ∧ (decode cJ6_bitCount_0f7a4 10 = .ok (.iload_n 0, 1)) ∧ (decode cJ6_bitCount_0f7a4 11 = .ok (.ldc_w 266, 3)) ∧ (decode cJ6_bitCount_0f7a4 14 = .ok (.iand, 1)) ∧ (decode cJ6_bitCount_0f7a4 15 = .ok (.iload_n 0, 1)) := by decide +kernel
theorem dJ6_bitCount_0f7a4_0 : decode cJ6_bitCount_0f7a4 0 = .ok (.iload_n 0, 1) := dJ6_bitCount_0f7a4_0_b.1
theorem dJ6_bitCount_0f7a4_1 : decode cJ6_bitCount_0f7a4 1 = .ok (.iload_n 0, 1) := dJ6_bitCount_0f7a4_0_b.2.1
theorem dJ6_bitCount_0f7a4_2 : decode cJ6_bitCount_0f7a4 2 = .ok (.iconst 1, 1) := dJ6_bitCount_0f7a4_0_b.2.2.1
theorem dJ6_bitCount_0f7a4_3 : decode cJ6_bitCount_0f7a4 3 = .ok (.iushr, 1) := dJ6_bitCount_0f7a4_0_b.2.2.2.1
theorem dJ6_bitCount_0f7a4_4 : decode cJ6_bitCount_0f7a4 4 = .ok (.ldc_w 265, 3) := dJ6_bitCount_0f7a4_0_b.2.2.2.2.1
theorem dJ6_bitCount_0f7a4_7 : decode cJ6_bitCount_0f7a4 7 = .ok (.iand, 1) := dJ6_bitCount_0f7a4_0_b.2.2.2.2.2.1
theorem dJ6_bitCount_0f7a4_8 : decode cJ6_bitCount_0f7a4 8 = .ok (.isub, 1) := dJ6_bitCount_0f7a4_0_b.2.2.2.2.2.2.1
theorem dJ6_bitCount_0f7a4_9 : decode cJ6_bitCount_0f7a4 9 = .ok (.istore_n 0, 1) := dJ6_bitCount_0f7a4_0_b.2.2.2.2.2.2.2.1
theorem dJ6_bitCount_0f7a4_10 : decode cJ6_bitCount_0f7a4 10 = .ok (.iload_n 0, 1) := dJ6_bitCount_0f7a4_0_b.2.2.2.2.2.2.2.2.1
theorem dJ6_bitCount_0f7a4_11 : decode cJ6_bitCount_0f7a4 11 = .ok (.ldc_w 266, 3) := dJ6_bitCount_0f7a4_0_b.2.2.2.2.2.2.2.2.2.1
theorem dJ6_bitCount_0f7a4_14 : decode cJ6_bitCount_0f7a4 14 = .ok (.iand, 1) := dJ6_bitCount_0f7a4_0_b.2.2.2.2.2.2.2.2.2.2.1
theorem dJ6_bitCount_0f7a4_15 : decode cJ6_bitCount_0f7a4 15 = .ok (.iload_n 0, 1) := dJ6_bitCount_0f7a4_0_b.2.2.2.2.2.2.2.2.2.2.2
theorem dJ6_bitCount_0f7a4_16_b : (decode cJ6_bitCount_0f7a4 16 = .ok (.iconst 2, 1)) ∧ (decode cJ6_bitCount_0f7a4 17 = .ok (.iushr, 1)) ∧ (decode cJ6_bitCount_0f7a4 18 = .ok (.ldc_w 266, 3)) ∧ (decode cJ6_bitCount_0f7a4 21 = .ok (.iand, 1)) ∧ (decode cJ6_bitCount_0f7a4 22 = .ok (.iadd, 1)) ∧ (decode cJ6_bitCount_0f7a4 23 = .ok (.istore_n 0, 1)) ∧ (decode cJ6_bitCount_0f7a4 24 = .ok (.iload_n 0, 1)) ∧ (decode cJ6_bitCount_0f7a4 25 = .ok (.iload_n 0, 1)) ∧ (decode cJ6_bitCount_0f7a4 26 = .ok (.iconst 4, 1)) ∧ (decode cJ6_bitCount_0f7a4 27 = .ok (.iushr, 1)) ∧ (decode cJ6_bitCount_0f7a4 28 = .ok (.iadd, 1)) ∧ (decode cJ6_bitCount_0f7a4 29 = .ok (.ldc_w 267, 3)) := by decide +kernel
theorem dJ6_bitCount_0f7a4_16 : decode cJ6_bitCount_0f7a4 16 = .ok (.iconst 2, 1) := dJ6_bitCount_0f7a4_16_b.1
theorem dJ6_bitCount_0f7a4_17 : decode cJ6_bitCount_0f7a4 17 = .ok (.iushr, 1) := dJ6_bitCount_0f7a4_16_b.2.1
theorem dJ6_bitCount_0f7a4_18 : decode cJ6_bitCount_0f7a4 18 = .ok (.ldc_w 266, 3) := dJ6_bitCount_0f7a4_16_b.2.2.1
theorem dJ6_bitCount_0f7a4_21 : decode cJ6_bitCount_0f7a4 21 = .ok (.iand, 1) := dJ6_bitCount_0f7a4_16_b.2.2.2.1
theorem dJ6_bitCount_0f7a4_22 : decode cJ6_bitCount_0f7a4 22 = .ok (.iadd, 1) := dJ6_bitCount_0f7a4_16_b.2.2.2.2.1
theorem dJ6_bitCount_0f7a4_23 : decode cJ6_bitCount_0f7a4 23 = .ok (.istore_n 0, 1) := dJ6_bitCount_0f7a4_16_b.2.2.2.2.2.1
theorem dJ6_bitCount_0f7a4_24 : decode cJ6_bitCount_0f7a4 24 = .ok (.iload_n 0, 1) := dJ6_bitCount_0f7a4_16_b.2.2.2.2.2.2.1
theorem dJ6_bitCount_0f7a4_25 : decode cJ6_bitCount_0f7a4 25 = .ok (.iload_n 0, 1) := dJ6_bitCount_0f7a4_16_b.2.2.2.2.2.2.2.1
theorem dJ6_bitCount_0f7a4_26 : decode cJ6_bitCount_0f7a4 26 = .ok (.iconst 4, 1) := dJ6_bitCount_0f7a4_16_b.2.2.2.2.2.2.2.2.1
theorem dJ6_bitCount_0f7a4_27 : decode cJ6_bitCount_0f7a4 27 = .ok (.iushr, 1) := dJ6_bitCount_0f7a4_16_b.2.2.2.2.2.2.2.2.2.1
theorem dJ6_bitCount_0f7a4_28 : decode cJ6_bitCount_0f7a4 28 = .ok (.iadd, 1) := dJ6_bitCount_0f7a4_16_b.2.2.2.2.2.2.2.2.2.2.1
theorem dJ6_bitCount_0f7a4_29 : decode cJ6_bitCount_0f7a4 29 = .ok (.ldc_w 267, 3) := dJ6_bitCount_0f7a4_16_b.2.2.2.2.2.2.2.2.2.2.2
theorem dJ6_bitCount_0f7a4_32_b : (decode cJ6_bitCount_0f7a4 32 = .ok (.iand, 1)) ∧ (decode cJ6_bitCount_0f7a4 33 = .ok (.istore_n 0, 1)) ∧ (decode cJ6_bitCount_0f7a4 34 = .ok (.iload_n 0, 1)) ∧ (decode cJ6_bitCount_0f7a4 35 = .ok (.iload_n 0, 1)) ∧ (decode cJ6_bitCount_0f7a4 36 = .ok (.bipush 8, 2)) ∧ (decode cJ6_bitCount_0f7a4 38 = .ok (.iushr, 1)) ∧ (decode cJ6_bitCount_0f7a4 39 = .ok (.iadd, 1)) ∧ (decode cJ6_bitCount_0f7a4 40 = .ok (.istore_n 0, 1)) ∧ (decode cJ6_bitCount_0f7a4 41 = .ok (.iload_n 0, 1)) ∧ (decode cJ6_bitCount_0f7a4 42 = .ok (.iload_n 0, 1)) ∧ (decode cJ6_bitCount_0f7a4 43 = .ok (.bipush 16, 2)) ∧ (decode cJ6_bitCount_0f7a4 45 = .ok (.iushr, 1)) := by decide +kernel
theorem dJ6_bitCount_0f7a4_32 : decode cJ6_bitCount_0f7a4 32 = .ok (.iand, 1) := dJ6_bitCount_0f7a4_32_b.1
theorem dJ6_bitCount_0f7a4_33 : decode cJ6_bitCount_0f7a4 33 = .ok (.istore_n 0, 1) := dJ6_bitCount_0f7a4_32_b.2.1
theorem dJ6_bitCount_0f7a4_34 : decode cJ6_bitCount_0f7a4 34 = .ok (.iload_n 0, 1) := dJ6_bitCount_0f7a4_32_b.2.2.1
theorem dJ6_bitCount_0f7a4_35 : decode cJ6_bitCount_0f7a4 35 = .ok (.iload_n 0, 1) := dJ6_bitCount_0f7a4_32_b.2.2.2.1
theorem dJ6_bitCount_0f7a4_36 : decode cJ6_bitCount_0f7a4 36 = .ok (.bipush 8, 2) := dJ6_bitCount_0f7a4_32_b.2.2.2.2.1
theorem dJ6_bitCount_0f7a4_38 : decode cJ6_bitCount_0f7a4 38 = .ok (.iushr, 1) := dJ6_bitCount_0f7a4_32_b.2.2.2.2.2.1
theorem dJ6_bitCount_0f7a4_39 : decode cJ6_bitCount_0f7a4 39 = .ok (.iadd, 1) := dJ6_bitCount_0f7a4_32_b.2.2.2.2.2.2.1
theorem dJ6_bitCount_0f7a4_40 : decode cJ6_bitCount_0f7a4 40 = .ok (.istore_n 0, 1) := dJ6_bitCount_0f7a4_32_b.2.2.2.2.2.2.2.1
theorem dJ6_bitCount_0f7a4_41 : decode cJ6_bitCount_0f7a4 41 = .ok (.iload_n 0, 1) := dJ6_bitCount_0f7a4_32_b.2.2.2.2.2.2.2.2.1
theorem dJ6_bitCount_0f7a4_42 : decode cJ6_bitCount_0f7a4 42 = .ok (.iload_n 0, 1) := dJ6_bitCount_0f7a4_32_b.2.2.2.2.2.2.2.2.2.1
theorem dJ6_bitCount_0f7a4_43 : decode cJ6_bitCount_0f7a4 43 = .ok (.bipush 16, 2) := dJ6_bitCount_0f7a4_32_b.2.2.2.2.2.2.2.2.2.2.1
theorem dJ6_bitCount_0f7a4_45 : decode cJ6_bitCount_0f7a4 45 = .ok (.iushr, 1) := dJ6_bitCount_0f7a4_32_b.2.2.2.2.2.2.2.2.2.2.2
theorem dJ6_bitCount_0f7a4_46_b : (decode cJ6_bitCount_0f7a4 46 = .ok (.iadd, 1)) ∧ (decode cJ6_bitCount_0f7a4 47 = .ok (.istore_n 0, 1)) ∧ (decode cJ6_bitCount_0f7a4 48 = .ok (.iload_n 0, 1)) ∧ (decode cJ6_bitCount_0f7a4 49 = .ok (.bipush 63, 2)) ∧ (decode cJ6_bitCount_0f7a4 51 = .ok (.iand, 1)) ∧ (decode cJ6_bitCount_0f7a4 52 = .ok (.ireturn, 1)) := by decide +kernel
theorem dJ6_bitCount_0f7a4_46 : decode cJ6_bitCount_0f7a4 46 = .ok (.iadd, 1) := dJ6_bitCount_0f7a4_46_b.1
theorem dJ6_bitCount_0f7a4_47 : decode cJ6_bitCount_0f7a4 47 = .ok (.istore_n 0, 1) := dJ6_bitCount_0f7a4_46_b.2.1
theorem dJ6_bitCount_0f7a4_48 : decode cJ6_bitCount_0f7a4 48 = .ok (.iload_n 0, 1) := dJ6_bitCount_0f7a4_46_b.2.2.1
theorem dJ6_bitCount_0f7a4_49 : decode cJ6_bitCount_0f7a4 49 = .ok (.bipush 63, 2) := dJ6_bitCount_0f7a4_46_b.2.2.2.1
theorem dJ6_bitCount_0f7a4_51 : decode cJ6_bitCount_0f7a4 51 = .ok (.iand, 1) := dJ6_bitCount_0f7a4_46_b.2.2.2.2.1
theorem dJ6_bitCount_0f7a4_52 : decode cJ6_bitCount_0f7a4 52 = .ok (.ireturn, 1) := dJ6_bitCount_0f7a4_46_b.2.2.2.2.2
theorem dJ13_numberOfTrailingZeros_95d88_0_b : (decode cJ13_numberOfTrailingZeros_95d88 0 = .ok (.lload_n 0, 1)) ∧ (decode cJ13_numberOfTrailingZeros_95d88 1 = .ok (.l2i, 1)) ∧ (decode cJ13_numberOfTrailingZeros_95d88 2 = .ok (.istore_n 2, 1)) ∧ (decode cJ13_numberOfTrailingZeros_95d88 3 = .ok (.iload_n 2, 1)) ∧ (decode cJ13_numberOfTrailingZeros_95d88 4 = .ok (.ifCond .ne 17, 3)) ∧ (decode cJ13_numberOfTrailingZeros_95d88 7 = .ok (.bipush 32, 2)) ∧ (decode cJ13_numberOfTrailingZeros_95d88 9 = .ok (.lload_n 0, 1)) ∧ (decode cJ13_numberOfTrailingZeros_95d88 10 = .ok (.bipush 32, 2)) ∧ (decode cJ13_numberOfTrailingZeros_95d88 12 = .ok (.lushr, 1)) ∧ (decode cJ13_numberOfTrailingZeros_95d88 13 = .ok (.l2i, 1)) ∧ (decode cJ13_numberOfTrailingZeros_95d88 14 = .ok (.invokestatic 311, 3)) ∧ (decode cJ13_numberOfTrailingZeros_95d88 17 = .ok (.iadd, 1)) := by decide +kernel
theorem dJ13_numberOfTrailingZeros_95d88_0 : decode cJ13_numberOfTrailingZeros_95d88 0 = .ok (.lload_n 0, 1) := dJ13_numberOfTrailingZeros_95d88_0_b.1
theorem dJ13_numberOfTrailingZeros_95d88_1 : decode cJ13_numberOfTrailingZeros_95d88 1 = .ok (.l2i, 1) := dJ13_numberOfTrailingZeros_95d88_0_b.2.1
theorem dJ13_numberOfTrailingZeros_95d88_2 : decode cJ13_numberOfTrailingZeros_95d88 2 = .ok (.istore_n 2, 1) := dJ13_numberOfTrailingZeros_95d88_0_b.2.2.1
theorem dJ13_numberOfTrailingZeros_95d88_3 : decode cJ13_numberOfTrailingZeros_95d88 3 = .ok (.iload_n 2, 1) := dJ13_numberOfTrailingZeros_95d88_0_b.2.2.2.1
theorem dJ13_numberOfTrailingZeros_95d88_4 : decode cJ13_numberOfTrailingZeros_95d88 4 = .ok (.ifCond .ne 17, 3) := dJ13_numberOfTrailingZeros_95d88_0_b.2.2.2.2.1
theorem dJ13_numberOfTrailingZeros_95d88_7 : decode cJ13_numberOfTrailingZeros_95d88 7 = .ok (.bipush 32, 2) := dJ13_numberOfTrailingZeros_95d88_0_b.2.2.2.2.2.1
theorem dJ13_numberOfTrailingZeros_95d88_9 : decode cJ13_numberOfTrailingZeros_95d88 9 = .ok (.lload_n 0, 1) := dJ13_numberOfTrailingZeros_95d88_0_b.2.2.2.2.2.2.1
theorem dJ13_numberOfTrailingZeros_95d88_10 : decode cJ13_numberOfTrailingZeros_95d88 10 = .ok (.bipush 32, 2) := dJ13_numberOfTrailingZeros_95d88_0_b.2.2.2.2.2.2.2.1
theorem dJ13_numberOfTrailingZeros_95d88_12 : decode cJ13_numberOfTrailingZeros_95d88 12 = .ok (.lushr, 1) := dJ13_numberOfTrailingZeros_95d88_0_b.2.2.2.2.2.2.2.2.1
theorem dJ13_numberOfTrailingZeros_95d88_13 : decode cJ13_numberOfTrailingZeros_95d88 13 = .ok (.l2i, 1) := dJ13_numberOfTrailingZeros_95d88_0_b.2.2.2.2.2.2.2.2.2.1
theorem dJ13_numberOfTrailingZeros_95d88_14 : decode cJ13_numberOfTrailingZeros_95d88 14 = .ok (.invokestatic 311, 3) := dJ13_numberOfTrailingZeros_95d88_0_b.2.2.2.2.2.2.2.2.2.2.1
theorem dJ13_numberOfTrailingZeros_95d88_17 : decode cJ13_numberOfTrailingZeros_95d88 17 = .ok (.iadd, 1) := dJ13_numberOfTrailingZeros_95d88_0_b.2.2.2.2.2.2.2.2.2.2.2
theorem dJ13_numberOfTrailingZeros_95d88_18_b : (decode cJ13_numberOfTrailingZeros_95d88 18 = .ok (.goto 7, 3)) ∧ (decode cJ13_numberOfTrailingZeros_95d88 21 = .ok (.iload_n 2, 1)) ∧ (decode cJ13_numberOfTrailingZeros_95d88 22 = .ok (.invokestatic 311, 3)) ∧ (decode cJ13_numberOfTrailingZeros_95d88 25 = .ok (.ireturn, 1)) := by decide +kernel
theorem dJ13_numberOfTrailingZeros_95d88_18 : decode cJ13_numberOfTrailingZeros_95d88 18 = .ok (.goto 7, 3) := dJ13_numberOfTrailingZeros_95d88_18_b.1
theorem dJ13_numberOfTrailingZeros_95d88_21 : decode cJ13_numberOfTrailingZeros_95d88 21 = .ok (.iload_n 2, 1) := dJ13_numberOfTrailingZeros_95d88_18_b.2.1
theorem dJ13_numberOfTrailingZeros_95d88_22 : decode cJ13_numberOfTrailingZeros_95d88 22 = .ok (.invokestatic 311, 3) := dJ13_numberOfTrailingZeros_95d88_18_b.2.2.1
theorem dJ13_numberOfTrailingZeros_95d88_25 : decode cJ13_numberOfTrailingZeros_95d88 25 = .ok (.ireturn, 1) := dJ13_numberOfTrailingZeros_95d88_18_b.2.2.2
theorem dJ13_bitCount_95d88_0_b : (decode cJ13_bitCount_95d88 0 = .ok (.lload_n 0, 1)) ∧ (decode cJ13_bitCount_95d88 1 = .ok (.lload_n 0, 1)) ∧ (decode cJ13_bitCount_95d88 2 = .ok (.iconst 1, 1)) ∧ (decode cJ13_bitCount_95d88 3 = .ok (.lushr, 1)) ∧ (decode cJ13_bitCount_95d88 4 = .ok (.ldc2_w 314, 3)) ∧ (decode cJ13_bitCount_95d88 7 = .ok (.land, 1)) ∧ (decode cJ13_bitCount_95d88 8 = .ok (.lsub, 1)) ∧ (decode cJ13_bitCount_95d88 9 = .ok (.lstore_n 0, 1)) ∧ (decode cJ13_bitCount_95d88 10 = .ok (.lload_n 0, 1)) ∧ (decode cJ13_bitCount_95d88 11 = .ok (.ldc2_w 316, 3)) ∧ (decode cJ13_bitCount_95d88 14 = .ok (.land, 1)) ∧ (decode cJ13_bitCount_95d88 15 = .ok (.lload_n 0, 1)) := by decide +kernel
theorem dJ13_bitCount_95d88_0 : decode cJ13_bitCount_95d88 0 = .ok (.lload_n 0, 1) := dJ13_bitCount_95d88_0_b.1
theorem dJ13_bitCount_95d88_1 : decode cJ13_bitCount_95d88 1 = .ok (.lload_n 0, 1) := dJ13_bitCount_95d88_0_b.2.1
theorem dJ13_bitCount_95d88_2 : decode cJ13_bitCount_95d88 2 = .ok (.iconst 1, 1) := dJ13_bitCount_95d88_0_b.2.2.1
theorem dJ13_bitCount_95d88_3 : decode cJ13_bitCount_95d88 3 = .ok (.lushr, 1) := dJ13_bitCount_95d88_0_b.2.2.2.1
theorem dJ13_bitCount_95d88_4 : decode cJ13_bitCount_95d88 4 = .ok (.ldc2_w 314, 3) := dJ13_bitCount_95d88_0_b.2.2.2.2.1
theorem dJ13_bitCount_95d88_7 : decode cJ13_bitCount_95d88 7 = .ok (.land, 1) := dJ13_bitCount_95d88_0_b.2.2.2.2.2.1
theorem dJ13_bitCount_95d88_8 : decode cJ13_bitCount_95d88 8 = .ok (.lsub, 1) := dJ13_bitCount_95d88_0_b.2.2.2.2.2.2.1
theorem dJ13_bitCount_95d88_9 : decode cJ13_bitCount_95d88 9 = .ok (.lstore_n 0, 1) := dJ13_bitCount_95d88_0_b.2.2.2.2.2.2.2.1
theorem dJ13_bitCount_95d88_10 : decode cJ13_bitCount_95d88 10 = .ok (.lload_n 0, 1) := dJ13_bitCount_95d88_0_b.2.2.2.2.2.2.2.2.1
theorem dJ13_bitCount_95d88_11 : decode cJ13_bitCount_95d88 11 = .ok (.ldc2_w 316, 3) := dJ13_bitCount_95d88_0_b.2.2.2.2.2.2.2.2.2.1
theorem dJ13_bitCount_95d88_14 : decode cJ13_bitCount_95d88 14 = .ok (.land, 1) := dJ13_bitCount_95d88_0_b.2.2.2.2.2.2.2.2.2.2.1
theorem dJ13_bitCount_95d88_15 : decode cJ13_bitCount_95d88 15 = .ok (.lload_n 0, 1) := dJ13_bitCount_95d88_0_b.2.2.2.2.2.2.2.2.2.2.2
theorem dJ13_bitCount_95d88_16_b : (decode cJ13_bitCount_95d88 16 = .ok (.iconst 2, 1)) ∧ (decode cJ13_bitCount_95d88 17 = .ok (.lushr, 1)) ∧ (decode cJ13_bitCount_95d88 18 = .ok (.ldc2_w 316, 3)) ∧ (decode cJ13_bitCount_95d88 21 = .ok (.land, 1)) ∧ (decode cJ13_bitCount_95d88 22 = .ok (.ladd, 1)) ∧ (decode cJ13_bitCount_95d88 23 = .ok (.lstore_n 0, 1)) ∧ (decode cJ13_bitCount_95d88 24 = .ok (.lload_n 0, 1)) ∧ (decode cJ13_bitCount_95d88 25 = .ok (.lload_n 0, 1)) ∧ (decode cJ13_bitCount_95d88 26 = .ok (.iconst 4, 1)) ∧ (decode cJ13_bitCount_95d88 27 = .ok (.lushr, 1)) ∧ (decode cJ13_bitCount_95d88 28 = .ok (.ladd, 1)) ∧ (decode cJ13_bitCount_95d88 29 = .ok (.ldc2_w 318, 3)) := by decide +kernel
theorem dJ13_bitCount_95d88_16 : decode cJ13_bitCount_95d88 16 = .ok (.iconst 2, 1) := dJ13_bitCount_95d88_16_b.1
theorem dJ13_bitCount_95d88_17 : decode cJ13_bitCount_95d88 17 = .ok (.lushr, 1) := dJ13_bitCount_95d88_16_b.2.1
theorem dJ13_bitCount_95d88_18 : decode cJ13_bitCount_95d88 18 = .ok (.ldc2_w 316, 3) := dJ13_bitCount_95d88_16_b.2.2.1
theorem dJ13_bitCount_95d88_21 : decode cJ13_bitCount_95d88 21 = .ok (.land, 1) := dJ13_bitCount_95d88_16_b.2.2.2.1
theorem dJ13_bitCount_95d88_22 : decode cJ13_bitCount_95d88 22 = .ok (.ladd, 1) := dJ13_bitCount_95d88_16_b.2.2.2.2.1
theorem dJ13_bitCount_95d88_23 : decode cJ13_bitCount_95d88 23 = .ok (.lstore_n 0, 1) := dJ13_bitCount_95d88_16_b.2.2.2.2.2.1
theorem dJ13_bitCount_95d88_24 : decode cJ13_bitCount_95d88 24 = .ok (.lload_n 0, 1) := dJ13_bitCount_95d88_16_b.2.2.2.2.2.2.1
theorem dJ13_bitCount_95d88_25 : decode cJ13_bitCount_95d88 25 = .ok (.lload_n 0, 1) := dJ13_bitCount_95d88_16_b.2.2.2.2.2.2.2.1
theorem dJ13_bitCount_95d88_26 : decode cJ13_bitCount_95d88 26 = .ok (.iconst 4, 1) := dJ13_bitCount_95d88_16_b.2.2.2.2.2.2.2.2.1
theorem dJ13_bitCount_95d88_27 : decode cJ13_bitCount_95d88 27 = .ok (.lushr, 1) := dJ13_bitCount_95d88_16_b.2.2.2.2.2.2.2.2.2.1
theorem dJ13_bitCount_95d88_28 : decode cJ13_bitCount_95d88 28 = .ok (.ladd, 1) := dJ13_bitCount_95d88_16_b.2.2.2.2.2.2.2.2.2.2.1
theorem dJ13_bitCount_95d88_29 : decode cJ13_bitCount_95d88 29 = .ok (.ldc2_w 318, 3) := dJ13_bitCount_95d88_16_b.2.2.2.2.2.2.2.2.2.2.2
theorem dJ13_bitCount_95d88_32_b : (decode cJ13_bitCount_95d88 32 = .ok (.land, 1)) ∧ (decode cJ13_bitCount_95d88 33 = .ok (.lstore_n 0, 1)) ∧ (decode cJ13_bitCount_95d88 34 = .ok (.lload_n 0, 1)) ∧ (decode cJ13_bitCount_95d88 35 = .ok (.lload_n 0, 1)) ∧ (decode cJ13_bitCount_95d88 36 = .ok (.bipush 8, 2)) ∧ (decode cJ13_bitCount_95d88 38 = .ok (.lushr, 1)) ∧ (decode cJ13_bitCount_95d88 39 = .ok (.ladd, 1)) ∧ (decode cJ13_bitCount_95d88 40 = .ok (.lstore_n 0, 1)) ∧ (decode cJ13_bitCount_95d88 41 = .ok (.lload_n 0, 1)) ∧ (decode cJ13_bitCount_95d88 42 = .ok (.lload_n 0, 1)) ∧ (decode cJ13_bitCount_95d88 43 = .ok (.bipush 16, 2)) ∧ (decode cJ13_bitCount_95d88 45 = .ok (.lushr, 1)) := by decide +kernel
theorem dJ13_bitCount_95d88_32 : decode cJ13_bitCount_95d88 32 = .ok (.land, 1) := dJ13_bitCount_95d88_32_b.1
theorem dJ13_bitCount_95d88_33 : decode cJ13_bitCount_95d88 33 = .ok (.lstore_n 0, 1) := dJ13_bitCount_95d88_32_b.2.1
theorem dJ13_bitCount_95d88_34 : decode cJ13_bitCount_95d88 34 = .ok (.lload_n 0, 1) := dJ13_bitCount_95d88_32_b.2.2.1
theorem dJ13_bitCount_95d88_35 : decode cJ13_bitCount_95d88 35 = .ok (.lload_n 0, 1) := dJ13_bitCount_95d88_32_b.2.2.2.1
theorem dJ13_bitCount_95d88_36 : decode cJ13_bitCount_95d88 36 = .ok (.bipush 8, 2) := dJ13_bitCount_95d88_32_b.2.2.2.2.1
theorem dJ13_bitCount_95d88_38 : decode cJ13_bitCount_95d88 38 = .ok (.lushr, 1) := dJ13_bitCount_95d88_32_b.2.2.2.2.2.1
theorem dJ13_bitCount_95d88_39 : decode cJ13_bitCount_95d88 39 = .ok (.ladd, 1) := dJ13_bitCount_95d88_32_b.2.2.2.2.2.2.1
theorem dJ13_bitCount_95d88_40 : decode cJ13_bitCount_95d88 40 = .ok (.lstore_n 0, 1) := dJ13_bitCount_95d88_32_b.2.2.2.2.2.2.2.1
theorem dJ13_bitCount_95d88_41 : decode cJ13_bitCount_95d88 41 = .ok (.lload_n 0, 1) := dJ13_bitCount_95d88_32_b.2.2.2.2.2.2.2.2.1
theorem dJ13_bitCount_95d88_42 : decode cJ13_bitCount_95d88 42 = .ok (.lload_n 0, 1) := dJ13_bitCount_95d88_32_b.2.2.2.2.2.2.2.2.2.1
theorem dJ13_bitCount_95d88_43 : decode cJ13_bitCount_95d88 43 = .ok (.bipush 16, 2) := dJ13_bitCount_95d88_32_b.2.2.2.2.2.2.2.2.2.2.1
theorem dJ13_bitCount_95d88_45 : decode cJ13_bitCount_95d88 45 = .ok (.lushr, 1) := dJ13_bitCount_95d88_32_b.2.2.2.2.2.2.2.2.2.2.2
theorem dJ13_bitCount_95d88_46_b : (decode cJ13_bitCount_95d88 46 = .ok (.ladd, 1)) ∧ (decode cJ13_bitCount_95d88 47 = .ok (.lstore_n 0, 1)) ∧ (decode cJ13_bitCount_95d88 48 = .ok (.lload_n 0, 1)) ∧ (decode cJ13_bitCount_95d88 49 = .ok (.lload_n 0, 1)) ∧ (decode cJ13_bitCount_95d88 50 = .ok (.bipush 32, 2)) ∧ (decode cJ13_bitCount_95d88 52 = .ok (.lushr, 1)) ∧ (decode cJ13_bitCount_95d88 53 = .ok (.ladd, 1)) ∧ (decode cJ13_bitCount_95d88 54 = .ok (.lstore_n 0, 1)) ∧ (decode cJ13_bitCount_95d88 55 = .ok (.lload_n 0, 1)) ∧ (decode cJ13_bitCount_95d88 56 = .ok (.l2i, 1)) ∧ (decode cJ13_bitCount_95d88 57 = .ok (.bipush 127, 2)) ∧ (decode cJ13_bitCount_95d88 59 = .ok (.iand, 1)) := by decide +kernel
theorem dJ13_bitCount_95d88_46 : decode cJ13_bitCount_95d88 46 = .ok (.ladd, 1) := dJ13_bitCount_95d88_46_b.1
theorem dJ13_bitCount_95d88_47 : decode cJ13_bitCount_95d88 47 = .ok (.lstore_n 0, 1) := dJ13_bitCount_95d88_46_b.2.1
theorem dJ13_bitCount_95d88_48 : decode cJ13_bitCount_95d88 48 = .ok (.lload_n 0, 1) := dJ13_bitCount_95d88_46_b.2.2.1
theorem dJ13_bitCount_95d88_49 : decode cJ13_bitCount_95d88 49 = .ok (.lload_n 0, 1) := dJ13_bitCount_95d88_46_b.2.2.2.1
theorem dJ13_bitCount_95d88_50 : decode cJ13_bitCount_95d88 50 = .ok (.bipush 32, 2) := dJ13_bitCount_95d88_46_b.2.2.2.2.1
theorem dJ13_bitCount_95d88_52 : decode cJ13_bitCount_95d88 52 = .ok (.lushr, 1) := dJ13_bitCount_95d88_46_b.2.2.2.2.2.1
theorem dJ13_bitCount_95d88_53 : decode cJ13_bitCount_95d88 53 = .ok (.ladd, 1) := dJ13_bitCount_95d88_46_b.2.2.2.2.2.2.1
theorem dJ13_bitCount_95d88_54 : decode cJ13_bitCount_95d88 54 = .ok (.lstore_n 0, 1) := dJ13_bitCount_95d88_46_b.2.2.2.2.2.2.2.1
theorem dJ13_bitCount_95d88_55 : decode cJ13_bitCount_95d88 55 = .ok (.lload_n 0, 1) := dJ13_bitCount_95d88_46_b.2.2.2.2.2.2.2.2.1
theorem dJ13_bitCount_95d88_56 : decode cJ13_bitCount_95d88 56 = .ok (.l2i, 1) := dJ13_bitCount_95d88_46_b.2.2.2.2.2.2.2.2.2.1
theorem dJ13_bitCount_95d88_57 : decode cJ13_bitCount_95d88 57 = .ok (.bipush 127, 2) := dJ13_bitCount_95d88_46_b.2.2.2.2.2.2.2.2.2.2.1
theorem dJ13_bitCount_95d88_59 : decode cJ13_bitCount_95d88 59 = .ok (.iand, 1) := dJ13_bitCount_95d88_46_b.2.2.2.2.2.2.2.2.2.2.2
theorem dJ13_bitCount_95d88_60 : decode cJ13_bitCount_95d88 60 = .ok (.ireturn, 1) := by decide +kernel
theorem dJ9_max_7cf53_0_b : (decode cJ9_max_7cf53 0 = .ok (.iload_n 0, 1)) ∧ (decode cJ9_max_7cf53 1 = .ok (.iload_n 1, 1)) ∧ (decode cJ9_max_7cf53 2 = .ok (.if_icmp .lt 7, 3)) ∧ (decode cJ9_max_7cf53 5 = .ok (.iload_n 0, 1)) ∧ (decode cJ9_max_7cf53 6 = .ok (.goto 4, 3)) ∧ (decode cJ9_max_7cf53 9 = .ok (.iload_n 1, 1)) ∧ (decode cJ9_max_7cf53 10 = .ok (.ireturn, 1)) := by decide +kernel
theorem dJ9_max_7cf53_0 : decode cJ9_max_7cf53 0 = .ok (.iload_n 0, 1) := dJ9_max_7cf53_0_b.1
theorem dJ9_max_7cf53_1 : decode cJ9_max_7cf53 1 = .ok (.iload_n 1, 1) := dJ9_max_7cf53_0_b.2.1
theorem dJ9_max_7cf53_2 : decode cJ9_max_7cf53 2 = .ok (.if_icmp .lt 7, 3) := dJ9_max_7cf53_0_b.2.2.1
theorem dJ9_max_7cf53_5 : decode cJ9_max_7cf53 5 = .ok (.iload_n 0, 1) := dJ9_max_7cf53_0_b.2.2.2.1
theorem dJ9_max_7cf53_6 : decode cJ9_max_7cf53 6 = .ok (.goto 4, 3) := dJ9_max_7cf53_0_b.2.2.2.2.1
theorem dJ9_max_7cf53_9 : decode cJ9_max_7cf53 9 = .ok (.iload_n 1, 1) := dJ9_max_7cf53_0_b.2.2.2.2.2.1
theorem dJ9_max_7cf53_10 : decode cJ9_max_7cf53 10 = .ok (.ireturn, 1) := dJ9_max_7cf53_0_b.2.2.2.2.2.2
theorem dJ7_rangeCheck_23922_0_b : (decode cJ7_rangeCheck_23922 0 = .ok (.iload_n 1, 1)) ∧ (decode cJ7_rangeCheck_23922 1 = .ok (.iload_n 2, 1)) ∧ (decode cJ7_rangeCheck_23922 2 = .ok (.if_icmp .le 44, 3)) ∧ (decode cJ7_rangeCheck_23922 5 = .ok (.new 43, 3)) ∧ (decode cJ7_rangeCheck_23922 8 = .ok (.dup, 1)) ∧ (decode cJ7_rangeCheck_23922 9 = .ok (.new 45, 3)) ∧ (decode cJ7_rangeCheck_23922 12 = .ok (.dup, 1)) ∧ (decode cJ7_rangeCheck_23922 13 = .ok (.invokespecial 47, 3)) ∧ (decode cJ7_rangeCheck_23922 16 = .ok (.ldc 48, 2)) ∧ (decode cJ7_rangeCheck_23922 18 = .ok (.invokevirtual 50, 3)) ∧ (decode cJ7_rangeCheck_23922 21 = .ok (.iload_n 1, 1)) ∧ (decode cJ7_rangeCheck_23922 22 = .ok (.invokevirtual 54, 3)) := by decide +kernel
theorem dJ7_rangeCheck_23922_0 : decode cJ7_rangeCheck_23922 0 = .ok (.iload_n 1, 1) := dJ7_rangeCheck_23922_0_b.1
theorem dJ7_rangeCheck_23922_1 : decode cJ7_rangeCheck_23922 1 = .ok (.iload_n 2, 1) := dJ7_rangeCheck_23922_0_b.2.1
theorem dJ7_rangeCheck_23922_2 : decode cJ7_rangeCheck_23922 2 = .ok (.if_icmp .le 44, 3) := dJ7_rangeCheck_23922_0_b.2.2.1
theorem dJ7_rangeCheck_23922_5 : decode cJ7_rangeCheck_23922 5 = .ok (.new 43, 3) := dJ7_rangeCheck_23922_0_b.2.2.2.1
theorem dJ7_rangeCheck_23922_8 : decode cJ7_rangeCheck_23922 8 = .ok (.dup, 1) := dJ7_rangeCheck_23922_0_b.2.2.2.2.1
theorem dJ7_rangeCheck_23922_9 : decode cJ7_rangeCheck_23922 9 = .ok (.new 45, 3) := dJ7_rangeCheck_23922_0_b.2.2.2.2.2.1
theorem dJ7_rangeCheck_23922_12 : decode cJ7_rangeCheck_23922 12 = .ok (.dup, 1) := dJ7_rangeCheck_23922_0_b.2.2.2.2.2.2.1
theorem dJ7_rangeCheck_23922_13 : decode cJ7_rangeCheck_23922 13 = .ok (.invokespecial 47, 3) := dJ7_rangeCheck_23922_0_b.2.2.2.2.2.2.2.1
theorem dJ7_rangeCheck_23922_16 : decode cJ7_rangeCheck_23922 16 = .ok (.ldc 48, 2) := dJ7_rangeCheck_23922_0_b.2.2.2.2.2.2.2.2.1
theorem dJ7_rangeCheck_23922_18 : decode cJ7_rangeCheck_23922 18 = .ok (.invokevirtual 50, 3) := dJ7_rangeCheck_23922_0_b.2.2.2.2.2.2.2.2.2.1
theorem dJ7_rangeCheck_23922_21 : decode cJ7_rangeCheck_23922 21 = .ok (.iload_n 1, 1) := dJ7_rangeCheck_23922_0_b.2.2.2.2.2.2.2.2.2.2.1
theorem dJ7_rangeCheck_23922_22 : decode cJ7_rangeCheck_23922 22 = .ok (.invokevirtual 54, 3) := dJ7_rangeCheck_23922_0_b.2.2.2.2.2.2.2.2.2.2.2
theorem dJ7_rangeCheck_23922_25_b : (decode cJ7_rangeCheck_23922 25 = .ok (.ldc 57, 2)) ∧ (decode cJ7_rangeCheck_23922 27 = .ok (.invokevirtual 50, 3)) ∧ (decode cJ7_rangeCheck_23922 30 = .ok (.iload_n 2, 1)) ∧ (decode cJ7_rangeCheck_23922 31 = .ok (.invokevirtual 54, 3)) ∧ (decode cJ7_rangeCheck_23922 34 = .ok (.ldc 59, 2)) ∧ (decode cJ7_rangeCheck_23922 36 = .ok (.invokevirtual 50, 3)) ∧ (decode cJ7_rangeCheck_23922 39 = .ok (.invokevirtual 61, 3)) ∧ (decode cJ7_rangeCheck_23922 42 = .ok (.invokespecial 65, 3)) ∧ (decode cJ7_rangeCheck_23922 45 = .ok (.athrow, 1)) ∧ (decode cJ7_rangeCheck_23922 46 = .ok (.iload_n 1, 1)) ∧ (decode cJ7_rangeCheck_23922 47 = .ok (.ifCond .ge 12, 3)) ∧ (decode cJ7_rangeCheck_23922 50 = .ok (.new 68, 3)) := by decide +kernel
theorem dJ7_rangeCheck_23922_25 : decode cJ7_rangeCheck_23922 25 = .ok (.ldc 57, 2) := dJ7_rangeCheck_23922_25_b.1
theorem dJ7_rangeCheck_23922_27 : decode cJ7_rangeCheck_23922 27 = .ok (.invokevirtual 50, 3) := dJ7_rangeCheck_23922_25_b.2.1
theorem dJ7_rangeCheck_23922_30 : decode cJ7_rangeCheck_23922 30 = .ok (.iload_n 2, 1) := dJ7_rangeCheck_23922_25_b.2.2.1
theorem dJ7_rangeCheck_23922_31 : decode cJ7_rangeCheck_23922 31 = .ok (.invokevirtual 54, 3) := dJ7_rangeCheck_23922_25_b.2.2.2.1
theorem dJ7_rangeCheck_23922_34 : decode cJ7_rangeCheck_23922 34 = .ok (.ldc 59, 2) := dJ7_rangeCheck_23922_25_b.2.2.2.2.1
theorem dJ7_rangeCheck_23922_36 : decode cJ7_rangeCheck_23922 36 = .ok (.invokevirtual 50, 3) := dJ7_rangeCheck_23922_25_b.2.2.2.2.2.1
theorem dJ7_rangeCheck_23922_39 : decode cJ7_rangeCheck_23922 39 = .ok (.invokevirtual 61, 3) := dJ7_rangeCheck_23922_25_b.2.2.2.2.2.2.1
theorem dJ7_rangeCheck_23922_42 : decode cJ7_rangeCheck_23922 42 = .ok (.invokespecial 65, 3) := dJ7_rangeCheck_23922_25_b.2.2.2.2.2.2.2.1
theorem dJ7_rangeCheck_23922_45 : decode cJ7_rangeCheck_23922 45 = .ok (.athrow, 1) := dJ7_rangeCheck_23922_25_b.2.2.2.2.2.2.2.2.1
theorem dJ7_rangeCheck_23922_46 : decode cJ7_rangeCheck_23922 46 = .ok (.iload_n 1, 1) := dJ7_rangeCheck_23922_25_b.2.2.2.2.2.2.2.2.2.1
theorem dJ7_rangeCheck_23922_47 : decode cJ7_rangeCheck_23922 47 = .ok (.ifCond .ge 12, 3) := dJ7_rangeCheck_23922_25_b.2.2.2.2.2.2.2.2.2.2.1
theorem dJ7_rangeCheck_23922_50 : decode cJ7_rangeCheck_23922 50 = .ok (.new 68, 3) := dJ7_rangeCheck_23922_25_b.2.2.2.2.2.2.2.2.2.2.2
theorem dJ7_rangeCheck_23922_53_b : (decode cJ7_rangeCheck_23922 53 = .ok (.dup, 1)) ∧ (decode cJ7_rangeCheck_23922 54 = .ok (.iload_n 1, 1)) ∧ (decode cJ7_rangeCheck_23922 55 = .ok (.invokespecial 70, 3)) ∧ (decode cJ7_rangeCheck_23922 58 = .ok (.athrow, 1)) ∧ (decode cJ7_rangeCheck_23922 59 = .ok (.iload_n 2, 1)) ∧ (decode cJ7_rangeCheck_23922 60 = .ok (.iload_n 0, 1)) ∧ (decode cJ7_rangeCheck_23922 61 = .ok (.if_icmp .le 12, 3)) ∧ (decode cJ7_rangeCheck_23922 64 = .ok (.new 68, 3)) ∧ (decode cJ7_rangeCheck_23922 67 = .ok (.dup, 1)) ∧ (decode cJ7_rangeCheck_23922 68 = .ok (.iload_n 2, 1)) ∧ (decode cJ7_rangeCheck_23922 69 = .ok (.invokespecial 70, 3)) ∧ (decode cJ7_rangeCheck_23922 72 = .ok (.athrow, 1)) := by decide +kernel
theorem dJ7_rangeCheck_23922_53 : decode cJ7_rangeCheck_23922 53 = .ok (.dup, 1) := dJ7_rangeCheck_23922_53_b.1
theorem dJ7_rangeCheck_23922_54 : decode cJ7_rangeCheck_23922 54 = .ok (.iload_n 1, 1) := dJ7_rangeCheck_23922_53_b.2.1
theorem dJ7_rangeCheck_23922_55 : decode cJ7_rangeCheck_23922 55 = .ok (.invokespecial 70, 3) := dJ7_rangeCheck_23922_53_b.2.2.1
theorem dJ7_rangeCheck_23922_58 : decode cJ7_rangeCheck_23922 58 = .ok (.athrow, 1) := dJ7_rangeCheck_23922_53_b.2.2.2.1
theorem dJ7_rangeCheck_23922_59 : decode cJ7_rangeCheck_23922 59 = .ok (.iload_n 2, 1) := dJ7_rangeCheck_23922_53_b.2.2.2.2.1
theorem dJ7_rangeCheck_23922_60 : decode cJ7_rangeCheck_23922 60 = .ok (.iload_n 0, 1) := dJ7_rangeCheck_23922_53_b.2.2.2.2.2.1
theorem dJ7_rangeCheck_23922_61 : decode cJ7_rangeCheck_23922 61 = .ok (.if_icmp .le 12, 3) := dJ7_rangeCheck_23922_53_b.2.2.2.2.2.2.1
theorem dJ7_rangeCheck_23922_64 : decode cJ7_rangeCheck_23922 64 = .ok (.new 68, 3) := dJ7_rangeCheck_23922_53_b.2.2.2.2.2.2.2.1
theorem dJ7_rangeCheck_23922_67 : decode cJ7_rangeCheck_23922 67 = .ok (.dup, 1) := dJ7_rangeCheck_23922_53_b.2.2.2.2.2.2.2.2.1
theorem dJ7_rangeCheck_23922_68 : decode cJ7_rangeCheck_23922 68 = .ok (.iload_n 2, 1) := dJ7_rangeCheck_23922_53_b.2.2.2.2.2.2.2.2.2.1
theorem dJ7_rangeCheck_23922_69 : decode cJ7_rangeCheck_23922 69 = .ok (.invokespecial 70, 3) := dJ7_rangeCheck_23922_53_b.2.2.2.2.2.2.2.2.2.2.1
theorem dJ7_rangeCheck_23922_72 : decode cJ7_rangeCheck_23922 72 = .ok (.athrow, 1) := dJ7_rangeCheck_23922_53_b.2.2.2.2.2.2.2.2.2.2.2
theorem dJ7_rangeCheck_23922_73 : decode cJ7_rangeCheck_23922 73 = .ok (.return_, 1) := by decide +kernel
theorem dJ7_fill_53178_0_b : (decode cJ7_fill_53178 0 = .ok (.iconst 0, 1)) ∧ (decode cJ7_fill_53178 1 = .ok (.istore_n 2, 1)) ∧ (decode cJ7_fill_53178 2 = .ok (.aload_n 0, 1)) ∧ (decode cJ7_fill_53178 3 = .ok (.arraylength, 1)) ∧ (decode cJ7_fill_53178 4 = .ok (.istore_n 3, 1)) ∧ (decode cJ7_fill_53178 5 = .ok (.iload_n 2, 1)) ∧ (decode cJ7_fill_53178 6 = .ok (.iload_n 3, 1)) ∧ (decode cJ7_fill_53178 7 = .ok (.if_icmp .ge 13, 3)) ∧ (decode cJ7_fill_53178 10 = .ok (.aload_n 0, 1)) ∧ (decode cJ7_fill_53178 11 = .ok (.iload_n 2, 1)) ∧ (decode cJ7_fill_53178 12 = .ok (.iload_n 1, 1)) ∧ (decode cJ7_fill_53178 13 = .ok (.iastore, 1)) := by decide +kernel
theorem dJ7_fill_53178_0 : decode cJ7_fill_53178 0 = .ok (.iconst 0, 1) := dJ7_fill_53178_0_b.1
theorem dJ7_fill_53178_1 : decode cJ7_fill_53178 1 = .ok (.istore_n 2, 1) := dJ7_fill_53178_0_b.2.1
theorem dJ7_fill_53178_2 : decode cJ7_fill_53178 2 = .ok (.aload_n 0, 1) := dJ7_fill_53178_0_b.2.2.1
theorem dJ7_fill_53178_3 : decode cJ7_fill_53178 3 = .ok (.arraylength, 1) := dJ7_fill_53178_0_b.2.2.2.1
theorem dJ7_fill_53178_4 : decode cJ7_fill_53178 4 = .ok (.istore_n 3, 1) := dJ7_fill_53178_0_b.2.2.2.2.1
theorem dJ7_fill_53178_5 : decode cJ7_fill_53178 5 = .ok (.iload_n 2, 1) := dJ7_fill_53178_0_b.2.2.2.2.2.1
theorem dJ7_fill_53178_6 : decode cJ7_fill_53178 6 = .ok (.iload_n 3, 1) := dJ7_fill_53178_0_b.2.2.2.2.2.2.1
theorem dJ7_fill_53178_7 : decode cJ7_fill_53178 7 = .ok (.if_icmp .ge 13, 3) := dJ7_fill_53178_0_b.2.2.2.2.2.2.2.1
theorem dJ7_fill_53178_10 : decode cJ7_fill_53178 10 = .ok (.aload_n 0, 1) := dJ7_fill_53178_0_b.2.2.2.2.2.2.2.2.1
theorem dJ7_fill_53178_11 : decode cJ7_fill_53178 11 = .ok (.iload_n 2, 1) := dJ7_fill_53178_0_b.2.2.2.2.2.2.2.2.2.1
theorem dJ7_fill_53178_12 : decode cJ7_fill_53178 12 = .ok (.iload_n 1, 1) := dJ7_fill_53178_0_b.2.2.2.2.2.2.2.2.2.2.1
theorem dJ7_fill_53178_13 : decode cJ7_fill_53178 13 = .ok (.iastore, 1) := dJ7_fill_53178_0_b.2.2.2.2.2.2.2.2.2.2.2
theorem dJ7_fill_53178_14_b : (decode cJ7_fill_53178 14 = .ok (.iinc 2 1, 3)) ∧ (decode cJ7_fill_53178 17 = .ok (.goto (-12), 3)) ∧ (decode cJ7_fill_53178 20 = .ok (.return_, 1)) := by decide +kernel
theorem dJ7_fill_53178_14 : decode cJ7_fill_53178 14 = .ok (.iinc 2 1, 3) := dJ7_fill_53178_14_b.1
theorem dJ7_fill_53178_17 : decode cJ7_fill_53178 17 = .ok (.goto (-12), 3) := dJ7_fill_53178_14_b.2.1
theorem dJ7_fill_53178_20 : decode cJ7_fill_53178 20 = .ok (.return_, 1) := dJ7_fill_53178_14_b.2.2
theorem dJ7_fill_fda19_0_b : (decode cJ7_fill_fda19 0 = .ok (.aload_n 0, 1)) ∧ (decode cJ7_fill_fda19 1 = .ok (.arraylength, 1)) ∧ (decode cJ7_fill_fda19 2 = .ok (.iload_n 1, 1)) ∧ (decode cJ7_fill_fda19 3 = .ok (.iload_n 2, 1)) ∧ (decode cJ7_fill_fda19 4 = .ok (.invokestatic 13, 3)) ∧ (decode cJ7_fill_fda19 7 = .ok (.iload_n 1, 1)) ∧ (decode cJ7_fill_fda19 8 = .ok (.istore 4, 2)) ∧ (decode cJ7_fill_fda19 10 = .ok (.iload 4, 2)) ∧ (decode cJ7_fill_fda19 12 = .ok (.iload_n 2, 1)) ∧ (decode cJ7_fill_fda19 13 = .ok (.if_icmp .ge 14, 3)) ∧ (decode cJ7_fill_fda19 16 = .ok (.aload_n 0, 1)) ∧ (decode cJ7_fill_fda19 17 = .ok (.iload 4, 2)) := by decide +kernel
theorem dJ7_fill_fda19_0 : decode cJ7_fill_fda19 0 = .ok (.aload_n 0, 1) := dJ7_fill_fda19_0_b.1
theorem dJ7_fill_fda19_1 : decode cJ7_fill_fda19 1 = .ok (.arraylength, 1) := dJ7_fill_fda19_0_b.2.1
theorem dJ7_fill_fda19_2 : decode cJ7_fill_fda19 2 = .ok (.iload_n 1, 1) := dJ7_fill_fda19_0_b.2.2.1
theorem dJ7_fill_fda19_3 : decode cJ7_fill_fda19 3 = .ok (.iload_n 2, 1) := dJ7_fill_fda19_0_b.2.2.2.1
theorem dJ7_fill_fda19_4 : decode cJ7_fill_fda19 4 = .ok (.invokestatic 13, 3) := dJ7_fill_fda19_0_b.2.2.2.2.1
theorem dJ7_fill_fda19_7 : decode cJ7_fill_fda19 7 = .ok (.iload_n 1, 1) := dJ7_fill_fda19_0_b.2.2.2.2.2.1
theorem dJ7_fill_fda19_8 : decode cJ7_fill_fda19 8 = .ok (.istore 4, 2) := dJ7_fill_fda19_0_b.2.2.2.2.2.2.1
theorem dJ7_fill_fda19_10 : decode cJ7_fill_fda19 10 = .ok (.iload 4, 2) := dJ7_fill_fda19_0_b.2.2.2.2.2.2.2.1
theorem dJ7_fill_fda19_12 : decode cJ7_fill_fda19 12 = .ok (.iload_n 2, 1) := dJ7_fill_fda19_0_b.2.2.2.2.2.2.2.2.1
theorem dJ7_fill_fda19_13 : decode cJ7_fill_fda19 13 = .ok (.if_icmp .ge 14, 3) := dJ7_fill_fda19_0_b.2.2.2.2.2.2.2.2.2.1
theorem dJ7_fill_fda19_16 : decode cJ7_fill_fda19 16 = .ok (.aload_n 0, 1) := dJ7_fill_fda19_0_b.2.2.2.2.2.2.2.2.2.2.1
theorem dJ7_fill_fda19_17 : decode cJ7_fill_fda19 17 = .ok (.iload 4, 2) := dJ7_fill_fda19_0_b.2.2.2.2.2.2.2.2.2.2.2
theorem dJ7_fill_fda19_19_b : (decode cJ7_fill_fda19 19 = .ok (.iload_n 3, 1)) ∧ (decode cJ7_fill_fda19 20 = .ok (.iastore, 1)) ∧ (decode cJ7_fill_fda19 21 = .ok (.iinc 4 1, 3)) ∧ (decode cJ7_fill_fda19 24 = .ok (.goto (-14), 3)) ∧ (decode cJ7_fill_fda19 27 = .ok (.return_, 1)) := by decide +kernel
theorem dJ7_fill_fda19_19 : decode cJ7_fill_fda19 19 = .ok (.iload_n 3, 1) := dJ7_fill_fda19_19_b.1
theorem dJ7_fill_fda19_20 : decode cJ7_fill_fda19 20 = .ok (.iastore, 1) := dJ7_fill_fda19_19_b.2.1
theorem dJ7_fill_fda19_21 : decode cJ7_fill_fda19 21 = .ok (.iinc 4 1, 3) := dJ7_fill_fda19_19_b.2.2.1
theorem dJ7_fill_fda19_24 : decode cJ7_fill_fda19 24 = .ok (.goto (-14), 3) := dJ7_fill_fda19_19_b.2.2.2.1
theorem dJ7_fill_fda19_27 : decode cJ7_fill_fda19 27 = .ok (.return_, 1) := dJ7_fill_fda19_19_b.2.2.2.2
