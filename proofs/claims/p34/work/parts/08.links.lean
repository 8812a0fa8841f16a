theorem hc_tb_1 {w : Cond} (i : Nat) (h : tables_1_1[i]? = some w) (g : goodWord w = true) : w ∈ hc_tb := by
  have q := List.mem_of_getElem? h
  refine List.mem_filter.mpr ⟨?_, g⟩
  unfold lw_tbl tables_1
  simp only [List.mem_append]
  exact Or.inr (Or.inl q)
theorem hc_tb_2 {w : Cond} (i : Nat) (h : tables_1_2[i]? = some w) (g : goodWord w = true) : w ∈ hc_tb := by
  have q := List.mem_of_getElem? h
  refine List.mem_filter.mpr ⟨?_, g⟩
  unfold lw_tbl tables_1
  simp only [List.mem_append]
  exact Or.inr (Or.inr (Or.inl q))
theorem hc_tb_3 {w : Cond} (i : Nat) (h : tables_1_3[i]? = some w) (g : goodWord w = true) : w ∈ hc_tb := by
  have q := List.mem_of_getElem? h
  refine List.mem_filter.mpr ⟨?_, g⟩
  unfold lw_tbl tables_1
  simp only [List.mem_append]
  exact Or.inr (Or.inr (Or.inr (Or.inl q)))
theorem hc_tb_4 {w : Cond} (i : Nat) (h : tables_1_4[i]? = some w) (g : goodWord w = true) : w ∈ hc_tb := by
  have q := List.mem_of_getElem? h
  refine List.mem_filter.mpr ⟨?_, g⟩
  unfold lw_tbl tables_1
  simp only [List.mem_append]
  exact Or.inr (Or.inr (Or.inr (Or.inr (Or.inl q))))
theorem hc_tb_5 {w : Cond} (i : Nat) (h : tables_1_5[i]? = some w) (g : goodWord w = true) : w ∈ hc_tb := by
  have q := List.mem_of_getElem? h
  refine List.mem_filter.mpr ⟨?_, g⟩
  unfold lw_tbl tables_1
  simp only [List.mem_append]
  exact Or.inr (Or.inr (Or.inr (Or.inr (Or.inr q))))
theorem hin_X0 : ∀ w ∈ u_ws RX0 TX0 4, w ∈ hc_tb := by decide +kernel
theorem hin_X1 : ∀ w ∈ u_ws RX1 TX1 6, w ∈ hc_tb := by decide +kernel
theorem hin_X3 : ∀ w ∈ u_ws RX3 TX3 17, w ∈ hc_tb := by decide +kernel
theorem hin_X5 : ∀ w ∈ u_ws RX5 TX5 3, w ∈ hc_tb := by decide +kernel
theorem hin_X6 : ∀ w ∈ u_ws RX6 TX6 9, w ∈ hc_tb := by decide +kernel
theorem hin_X7 : ∀ w ∈ u_ws RX7 TX7 9, w ∈ hc_tb := by decide +kernel
theorem hin_X8 : ∀ w ∈ u_ws RX8 TX8 23, w ∈ hc_tb := by decide +kernel
set_option maxRecDepth 100000 in
theorem ms_X5_21 : hc_MS RX5 21 yJ7_fill_53178 cJ7_fill_53178 4 none 2 := ⟨⟨hc_tb_1 32 (by rfl) rfl, hc_tb_1 3 (by rfl) rfl, hc_tb_1 30 (by rfl) rfl, by decide +kernel, by decide⟩, hc_tb_1 31 (by rfl) rfl⟩
set_option maxRecDepth 100000 in
theorem fl_X5_11 : hc_FL RX5 11 3 0 := ⟨(RX5, TX5, 3), rfl, by decide, hin_X5, hc_tb_1 33 (by rfl) rfl⟩
set_option maxRecDepth 100000 in
theorem fl_X5_15 : hc_FL RX5 15 3 1 := ⟨(RX5, TX5, 3), rfl, by decide, hin_X5, hc_tb_1 34 (by rfl) rfl⟩
set_option maxRecDepth 100000 in
theorem fl_X5_18 : hc_FL RX5 18 3 2 := ⟨(RX5, TX5, 3), rfl, by decide, hin_X5, hc_tb_1 35 (by rfl) rfl⟩
set_option maxRecDepth 100000 in
theorem fl_X6_13 : hc_FL RX6 13 4 0 := ⟨(RX6, TX6, 9), rfl, by decide, hin_X6, hc_tb_1 50 (by rfl) rfl⟩
set_option maxRecDepth 100000 in
theorem fl_X6_17 : hc_FL RX6 17 4 1 := ⟨(RX6, TX6, 9), rfl, by decide, hin_X6, hc_tb_1 51 (by rfl) rfl⟩
theorem pl_4_1 : hc_PL 4 1 .int := ⟨(RX6, TX6, 9), tyX6, rfl, tyX6_ok, nmX6, rfl, by decide +kernel⟩
set_option maxRecDepth 100000 in
theorem fl_X7_292 : hc_FL RX7 292 4 1 := ⟨(RX6, TX6, 9), rfl, by decide, hin_X6, hc_tb_1 52 (by rfl) rfl⟩
set_option maxRecDepth 100000 in
theorem fl_X6_21 : hc_FL RX6 21 4 2 := ⟨(RX6, TX6, 9), rfl, by decide, hin_X6, hc_tb_1 53 (by rfl) rfl⟩
theorem pl_4_2 : hc_PL 4 2 .int := ⟨(RX6, TX6, 9), tyX6, rfl, tyX6_ok, nmX6, rfl, by decide +kernel⟩
set_option maxRecDepth 100000 in
theorem fl_X7_109 : hc_FL RX7 109 4 2 := ⟨(RX6, TX6, 9), rfl, by decide, hin_X6, hc_tb_1 54 (by rfl) rfl⟩
set_option maxRecDepth 100000 in
theorem fl_X6_24 : hc_FL RX6 24 4 3 := ⟨(RX6, TX6, 9), rfl, by decide, hin_X6, hc_tb_1 55 (by rfl) rfl⟩
theorem pl_4_3 : hc_PL 4 3 .int := ⟨(RX6, TX6, 9), tyX6, rfl, tyX6_ok, nmX6, rfl, by decide +kernel⟩
set_option maxRecDepth 100000 in
theorem fl_X6_27 : hc_FL RX6 27 4 4 := ⟨(RX6, TX6, 9), rfl, by decide, hin_X6, hc_tb_1 56 (by rfl) rfl⟩
set_option maxRecDepth 100000 in
theorem fl_X3_77 : hc_FL RX3 77 4 4 := ⟨(RX6, TX6, 9), rfl, by decide, hin_X6, hc_tb_1 57 (by rfl) rfl⟩
set_option maxRecDepth 100000 in
theorem fl_X6_30 : hc_FL RX6 30 4 5 := ⟨(RX6, TX6, 9), rfl, by decide, hin_X6, hc_tb_1 58 (by rfl) rfl⟩
theorem pl_4_5 : hc_PL 4 5 .int := ⟨(RX6, TX6, 9), tyX6, rfl, tyX6_ok, nmX6, rfl, by decide +kernel⟩
set_option maxRecDepth 100000 in
theorem fl_X3_76 : hc_FL RX3 76 4 5 := ⟨(RX6, TX6, 9), rfl, by decide, hin_X6, hc_tb_1 59 (by rfl) rfl⟩
set_option maxRecDepth 100000 in
theorem fl_X6_33 : hc_FL RX6 33 4 6 := ⟨(RX6, TX6, 9), rfl, by decide, hin_X6, hc_tb_1 60 (by rfl) rfl⟩
theorem pl_4_6 : hc_PL 4 6 .int := ⟨(RX6, TX6, 9), tyX6, rfl, tyX6_ok, nmX6, rfl, by decide +kernel⟩
set_option maxRecDepth 100000 in
theorem fl_X3_82 : hc_FL RX3 82 4 6 := ⟨(RX6, TX6, 9), rfl, by decide, hin_X6, hc_tb_1 61 (by rfl) rfl⟩
set_option maxRecDepth 100000 in
theorem fl_X6_36 : hc_FL RX6 36 4 7 := ⟨(RX6, TX6, 9), rfl, by decide, hin_X6, hc_tb_1 62 (by rfl) rfl⟩
set_option maxRecDepth 100000 in
theorem fl_X6_39 : hc_FL RX6 39 4 8 := ⟨(RX6, TX6, 9), rfl, by decide, hin_X6, hc_tb_1 63 (by rfl) rfl⟩
theorem pl_4_8 : hc_PL 4 8 .int := ⟨(RX6, TX6, 9), tyX6, rfl, tyX6_ok, nmX6, rfl, by decide +kernel⟩
set_option maxRecDepth 100000 in
theorem fl_X3_7 : hc_FL RX3 7 2 0 := ⟨(RX3, TX3, 17), rfl, by decide, hin_X3, hc_tb_1 89 (by rfl) rfl⟩
theorem pl_2_0 : hc_PL 2 0 .boolean := ⟨(RX3, TX3, 17), tyX3, rfl, tyX3_ok, nmX3, rfl, by decide +kernel⟩
set_option maxRecDepth 100000 in
theorem fl_X7_123 : hc_FL RX7 123 2 0 := ⟨(RX3, TX3, 17), rfl, by decide, hin_X3, hc_tb_1 90 (by rfl) rfl⟩
set_option maxRecDepth 100000 in
theorem fl_X3_13 : hc_FL RX3 13 2 1 := ⟨(RX3, TX3, 17), rfl, by decide, hin_X3, hc_tb_1 91 (by rfl) rfl⟩
theorem pl_2_1 : hc_PL 2 1 .int := ⟨(RX3, TX3, 17), tyX3, rfl, tyX3_ok, nmX3, rfl, by decide +kernel⟩
set_option maxRecDepth 100000 in
theorem fl_X0_41 : hc_FL RX0 41 2 1 := ⟨(RX3, TX3, 17), rfl, by decide, hin_X3, hc_tb_1 92 (by rfl) rfl⟩
set_option maxRecDepth 100000 in
theorem fl_X7_163 : hc_FL RX7 163 2 1 := ⟨(RX3, TX3, 17), rfl, by decide, hin_X3, hc_tb_1 93 (by rfl) rfl⟩
set_option maxRecDepth 100000 in
theorem fl_X3_17 : hc_FL RX3 17 2 2 := ⟨(RX3, TX3, 17), rfl, by decide, hin_X3, hc_tb_1 94 (by rfl) rfl⟩
theorem pl_2_2 : hc_PL 2 2 .int := ⟨(RX3, TX3, 17), tyX3, rfl, tyX3_ok, nmX3, rfl, by decide +kernel⟩
set_option maxRecDepth 100000 in
theorem fl_X2_15 : hc_FL RX2 15 2 2 := ⟨(RX3, TX3, 17), rfl, by decide, hin_X3, hc_tb_1 95 (by rfl) rfl⟩
set_option maxRecDepth 100000 in
theorem fl_X7_128 : hc_FL RX7 128 2 2 := ⟨(RX3, TX3, 17), rfl, by decide, hin_X3, hc_tb_1 96 (by rfl) rfl⟩
set_option maxRecDepth 100000 in
theorem fl_X3_20 : hc_FL RX3 20 2 3 := ⟨(RX3, TX3, 17), rfl, by decide, hin_X3, hc_tb_1 97 (by rfl) rfl⟩
theorem pl_2_3 : hc_PL 2 3 .int := ⟨(RX3, TX3, 17), tyX3, rfl, tyX3_ok, nmX3, rfl, by decide +kernel⟩
set_option maxRecDepth 100000 in
theorem fl_X2_9 : hc_FL RX2 9 2 3 := ⟨(RX3, TX3, 17), rfl, by decide, hin_X3, hc_tb_1 98 (by rfl) rfl⟩
set_option maxRecDepth 100000 in
theorem fl_X7_138 : hc_FL RX7 138 2 3 := ⟨(RX3, TX3, 17), rfl, by decide, hin_X3, hc_tb_1 99 (by rfl) rfl⟩
set_option maxRecDepth 100000 in
theorem fl_X3_23 : hc_FL RX3 23 2 4 := ⟨(RX3, TX3, 17), rfl, by decide, hin_X3, hc_tb_1 100 (by rfl) rfl⟩
theorem pl_2_4 : hc_PL 2 4 .int := ⟨(RX3, TX3, 17), tyX3, rfl, tyX3_ok, nmX3, rfl, by decide +kernel⟩
set_option maxRecDepth 100000 in
theorem fl_X2_64 : hc_FL RX2 64 2 4 := ⟨(RX3, TX3, 17), rfl, by decide, hin_X3, hc_tb_1 101 (by rfl) rfl⟩
set_option maxRecDepth 100000 in
theorem fl_X7_155 : hc_FL RX7 155 2 4 := ⟨(RX3, TX3, 17), rfl, by decide, hin_X3, hc_tb_1 102 (by rfl) rfl⟩
set_option maxRecDepth 100000 in
theorem fl_X3_26 : hc_FL RX3 26 2 5 := ⟨(RX3, TX3, 17), rfl, by decide, hin_X3, hc_tb_1 103 (by rfl) rfl⟩
theorem pl_2_5 : hc_PL 2 5 .int := ⟨(RX3, TX3, 17), tyX3, rfl, tyX3_ok, nmX3, rfl, by decide +kernel⟩
set_option maxRecDepth 100000 in
theorem fl_X7_120 : hc_FL RX7 120 2 5 := ⟨(RX3, TX3, 17), rfl, by decide, hin_X3, hc_tb_1 104 (by rfl) rfl⟩
set_option maxRecDepth 100000 in
theorem fl_X3_29 : hc_FL RX3 29 2 6 := ⟨(RX3, TX3, 17), rfl, by decide, hin_X3, hc_tb_1 105 (by rfl) rfl⟩
theorem pl_2_6 : hc_PL 2 6 .int := ⟨(RX3, TX3, 17), tyX3, rfl, tyX3_ok, nmX3, rfl, by decide +kernel⟩
set_option maxRecDepth 100000 in
theorem fl_X2_52 : hc_FL RX2 52 2 6 := ⟨(RX3, TX3, 17), rfl, by decide, hin_X3, hc_tb_1 106 (by rfl) rfl⟩
set_option maxRecDepth 100000 in
theorem fl_X7_286 : hc_FL RX7 286 2 6 := ⟨(RX3, TX3, 17), rfl, by decide, hin_X3, hc_tb_1 107 (by rfl) rfl⟩
set_option maxRecDepth 100000 in
theorem fl_X3_32 : hc_FL RX3 32 2 7 := ⟨(RX3, TX3, 17), rfl, by decide, hin_X3, hc_tb_1 108 (by rfl) rfl⟩
set_option maxRecDepth 100000 in
theorem fl_X1_29 : hc_FL RX1 29 2 7 := ⟨(RX3, TX3, 17), rfl, by decide, hin_X3, hc_tb_1 109 (by rfl) rfl⟩
set_option maxRecDepth 100000 in
theorem fl_X7_262 : hc_FL RX7 262 2 7 := ⟨(RX3, TX3, 17), rfl, by decide, hin_X3, hc_tb_1 110 (by rfl) rfl⟩
set_option maxRecDepth 100000 in
theorem fl_X3_36 : hc_FL RX3 36 2 8 := ⟨(RX3, TX3, 17), rfl, by decide, hin_X3, hc_tb_1 111 (by rfl) rfl⟩
set_option maxRecDepth 100000 in
theorem fl_X1_34 : hc_FL RX1 34 2 8 := ⟨(RX3, TX3, 17), rfl, by decide, hin_X3, hc_tb_1 112 (by rfl) rfl⟩
set_option maxRecDepth 100000 in
theorem fl_X2_91 : hc_FL RX2 91 2 8 := ⟨(RX3, TX3, 17), rfl, by decide, hin_X3, hc_tb_1 113 (by rfl) rfl⟩
set_option maxRecDepth 100000 in
theorem fl_X7_173 : hc_FL RX7 173 2 8 := ⟨(RX3, TX3, 17), rfl, by decide, hin_X3, hc_tb_1 114 (by rfl) rfl⟩
set_option maxRecDepth 100000 in
theorem fl_X3_39 : hc_FL RX3 39 2 9 := ⟨(RX3, TX3, 17), rfl, by decide, hin_X3, hc_tb_1 115 (by rfl) rfl⟩
set_option maxRecDepth 100000 in
theorem fl_X0_32 : hc_FL RX0 32 2 9 := ⟨(RX3, TX3, 17), rfl, by decide, hin_X3, hc_tb_1 116 (by rfl) rfl⟩
set_option maxRecDepth 100000 in
theorem fl_X7_144 : hc_FL RX7 144 2 9 := ⟨(RX3, TX3, 17), rfl, by decide, hin_X3, hc_tb_1 117 (by rfl) rfl⟩
set_option maxRecDepth 100000 in
theorem fl_X3_42 : hc_FL RX3 42 2 10 := ⟨(RX3, TX3, 17), rfl, by decide, hin_X3, hc_tb_1 118 (by rfl) rfl⟩
set_option maxRecDepth 100000 in
theorem fl_X3_45 : hc_FL RX3 45 2 11 := ⟨(RX3, TX3, 17), rfl, by decide, hin_X3, hc_tb_1 119 (by rfl) rfl⟩
set_option maxRecDepth 100000 in
theorem fl_X3_48 : hc_FL RX3 48 2 12 := ⟨(RX3, TX3, 17), rfl, by decide, hin_X3, hc_tb_1 120 (by rfl) rfl⟩
set_option maxRecDepth 100000 in
theorem fl_X1_37 : hc_FL RX1 37 2 12 := ⟨(RX3, TX3, 17), rfl, by decide, hin_X3, hc_tb_1 121 (by rfl) rfl⟩
set_option maxRecDepth 100000 in
theorem fl_X7_182 : hc_FL RX7 182 2 12 := ⟨(RX3, TX3, 17), rfl, by decide, hin_X3, hc_tb_1 122 (by rfl) rfl⟩
set_option maxRecDepth 100000 in
theorem fl_X2_94 : hc_FL RX2 94 2 12 := ⟨(RX3, TX3, 17), rfl, by decide, hin_X3, hc_tb_1 123 (by rfl) rfl⟩
set_option maxRecDepth 100000 in
theorem fl_X3_51 : hc_FL RX3 51 2 13 := ⟨(RX3, TX3, 17), rfl, by decide, hin_X3, hc_tb_1 124 (by rfl) rfl⟩
set_option maxRecDepth 100000 in
theorem fl_X2_41 : hc_FL RX2 41 2 13 := ⟨(RX3, TX3, 17), rfl, by decide, hin_X3, hc_tb_1 125 (by rfl) rfl⟩
set_option maxRecDepth 100000 in
theorem fl_X3_54 : hc_FL RX3 54 2 14 := ⟨(RX3, TX3, 17), rfl, by decide, hin_X3, hc_tb_1 126 (by rfl) rfl⟩
set_option maxRecDepth 100000 in
theorem fl_X2_33 : hc_FL RX2 33 2 14 := ⟨(RX3, TX3, 17), rfl, by decide, hin_X3, hc_tb_1 127 (by rfl) rfl⟩
set_option maxRecDepth 100000 in
theorem fl_X3_57 : hc_FL RX3 57 2 15 := ⟨(RX3, TX3, 17), rfl, by decide, hin_X3, hc_tb_1 128 (by rfl) rfl⟩
set_option maxRecDepth 100000 in
theorem fl_X2_58 : hc_FL RX2 58 2 15 := ⟨(RX3, TX3, 17), rfl, by decide, hin_X3, hc_tb_1 129 (by rfl) rfl⟩
set_option maxRecDepth 100000 in
theorem fl_X3_60 : hc_FL RX3 60 2 16 := ⟨(RX3, TX3, 17), rfl, by decide, hin_X3, hc_tb_1 130 (by rfl) rfl⟩
set_option maxRecDepth 100000 in
theorem fl_X0_9 : hc_FL RX0 9 0 0 := ⟨(RX0, TX0, 4), rfl, by decide, hin_X0, hc_tb_1 172 (by rfl) rfl⟩
set_option maxRecDepth 100000 in
theorem fl_X0_13 : hc_FL RX0 13 0 1 := ⟨(RX0, TX0, 4), rfl, by decide, hin_X0, hc_tb_1 173 (by rfl) rfl⟩
set_option maxRecDepth 100000 in
theorem fl_X0_16 : hc_FL RX0 16 0 2 := ⟨(RX0, TX0, 4), rfl, by decide, hin_X0, hc_tb_1 174 (by rfl) rfl⟩
set_option maxRecDepth 100000 in
theorem fl_X0_19 : hc_FL RX0 19 0 3 := ⟨(RX0, TX0, 4), rfl, by decide, hin_X0, hc_tb_1 175 (by rfl) rfl⟩
theorem pl_0_3 : hc_PL 0 3 .int := ⟨(RX0, TX0, 4), tyX0, rfl, tyX0_ok, nmX0, rfl, by decide +kernel⟩
set_option maxRecDepth 100000 in
theorem fl_X7_166 : hc_FL RX7 166 0 3 := ⟨(RX0, TX0, 4), rfl, by decide, hin_X0, hc_tb_1 176 (by rfl) rfl⟩
set_option maxRecDepth 100000 in
theorem fl_X1_9 : hc_FL RX1 9 1 0 := ⟨(RX1, TX1, 6), rfl, by decide, hin_X1, hc_tb_1 192 (by rfl) rfl⟩
set_option maxRecDepth 100000 in
theorem fl_X7_280 : hc_FL RX7 280 1 0 := ⟨(RX1, TX1, 6), rfl, by decide, hin_X1, hc_tb_1 193 (by rfl) rfl⟩
set_option maxRecDepth 100000 in
theorem fl_X1_13 : hc_FL RX1 13 1 1 := ⟨(RX1, TX1, 6), rfl, by decide, hin_X1, hc_tb_1 194 (by rfl) rfl⟩
theorem pl_1_1 : hc_PL 1 1 .int := ⟨(RX1, TX1, 6), tyX1, rfl, tyX1_ok, nmX1, rfl, by decide +kernel⟩
set_option maxRecDepth 100000 in
theorem fl_X7_277 : hc_FL RX7 277 1 1 := ⟨(RX1, TX1, 6), rfl, by decide, hin_X1, hc_tb_1 195 (by rfl) rfl⟩
set_option maxRecDepth 100000 in
theorem fl_X1_17 : hc_FL RX1 17 1 2 := ⟨(RX1, TX1, 6), rfl, by decide, hin_X1, hc_tb_1 196 (by rfl) rfl⟩
theorem pl_1_2 : hc_PL 1 2 .int := ⟨(RX1, TX1, 6), tyX1, rfl, tyX1_ok, nmX1, rfl, by decide +kernel⟩
set_option maxRecDepth 100000 in
theorem fl_X1_20 : hc_FL RX1 20 1 3 := ⟨(RX1, TX1, 6), rfl, by decide, hin_X1, hc_tb_1 197 (by rfl) rfl⟩
theorem pl_1_3 : hc_PL 1 3 .int := ⟨(RX1, TX1, 6), tyX1, rfl, tyX1_ok, nmX1, rfl, by decide +kernel⟩
set_option maxRecDepth 100000 in
theorem fl_X1_23 : hc_FL RX1 23 1 4 := ⟨(RX1, TX1, 6), rfl, by decide, hin_X1, hc_tb_1 198 (by rfl) rfl⟩
theorem pl_1_4 : hc_PL 1 4 .int := ⟨(RX1, TX1, 6), tyX1, rfl, tyX1_ok, nmX1, rfl, by decide +kernel⟩
set_option maxRecDepth 100000 in
theorem fl_X1_26 : hc_FL RX1 26 1 5 := ⟨(RX1, TX1, 6), rfl, by decide, hin_X1, hc_tb_1 199 (by rfl) rfl⟩
theorem pl_1_5 : hc_PL 1 5 .int := ⟨(RX1, TX1, 6), tyX1, rfl, tyX1_ok, nmX1, rfl, by decide +kernel⟩
set_option maxRecDepth 100000 in
theorem fl_X7_10 : hc_FL RX7 10 5 0 := ⟨(RX7, TX7, 9), rfl, by decide, hin_X7, hc_tb_1 213 (by rfl) rfl⟩
set_option maxRecDepth 100000 in
theorem fl_X7_19 : hc_FL RX7 19 5 1 := ⟨(RX7, TX7, 9), rfl, by decide, hin_X7, hc_tb_1 214 (by rfl) rfl⟩
set_option maxRecDepth 100000 in
theorem fl_X7_26 : hc_FL RX7 26 5 2 := ⟨(RX7, TX7, 9), rfl, by decide, hin_X7, hc_tb_1 215 (by rfl) rfl⟩
set_option maxRecDepth 100000 in
theorem fl_X7_30 : hc_FL RX7 30 5 3 := ⟨(RX7, TX7, 9), rfl, by decide, hin_X7, hc_tb_1 216 (by rfl) rfl⟩
set_option maxRecDepth 100000 in
theorem fl_X7_33 : hc_FL RX7 33 5 4 := ⟨(RX7, TX7, 9), rfl, by decide, hin_X7, hc_tb_1 217 (by rfl) rfl⟩
set_option maxRecDepth 100000 in
theorem fl_X7_39 : hc_FL RX7 39 5 5 := ⟨(RX7, TX7, 9), rfl, by decide, hin_X7, hc_tb_1 218 (by rfl) rfl⟩
set_option maxRecDepth 100000 in
theorem fl_X7_46 : hc_FL RX7 46 5 6 := ⟨(RX7, TX7, 9), rfl, by decide, hin_X7, hc_tb_1 219 (by rfl) rfl⟩
set_option maxRecDepth 100000 in
theorem fl_X7_50 : hc_FL RX7 50 5 7 := ⟨(RX7, TX7, 9), rfl, by decide, hin_X7, hc_tb_1 220 (by rfl) rfl⟩
theorem pl_5_7 : hc_PL 5 7 .int := ⟨(RX7, TX7, 9), tyX7, rfl, tyX7_ok, nmX7, rfl, by decide +kernel⟩
set_option maxRecDepth 100000 in
theorem fl_X7_54 : hc_FL RX7 54 5 8 := ⟨(RX7, TX7, 9), rfl, by decide, hin_X7, hc_tb_1 221 (by rfl) rfl⟩
theorem pl_5_8 : hc_PL 5 8 .int := ⟨(RX7, TX7, 9), tyX7, rfl, tyX7_ok, nmX7, rfl, by decide +kernel⟩
set_option maxRecDepth 100000 in
theorem mv_L_13 : hc_MV RL 13 yX7_row cX7_row 4 (some .int) 3 := ⟨⟨hc_tb_2 4 (by rfl) rfl, hc_tb_1 1 (by rfl) rfl, hc_tb_2 1 (by rfl) rfl, by decide +kernel, by decide⟩, hc_tb_2 2 (by rfl) rfl, hc_tb_2 3 (by rfl) rfl⟩
set_option maxRecDepth 100000 in
theorem ms_X7_57 : hc_MS RX7 57 yX5_isRow cX5_isRow 1 (some .boolean) 1 := ⟨⟨hc_tb_2 7 (by rfl) rfl, hc_tb_1 2 (by rfl) rfl, hc_tb_2 5 (by rfl) rfl, by decide +kernel, by decide⟩, hc_tb_2 6 (by rfl) rfl⟩
set_option maxRecDepth 100000 in
theorem ms_X7_61 : hc_MS RX7 61 yX5_isLane cX5_isLane 1 (some .boolean) 1 := ⟨⟨hc_tb_2 10 (by rfl) rfl, hc_tb_1 2 (by rfl) rfl, hc_tb_2 8 (by rfl) rfl, by decide +kernel, by decide⟩, hc_tb_2 9 (by rfl) rfl⟩
set_option maxRecDepth 100000 in
theorem kc_X7_64 : Cond.constant RX7 64 (-1000001) ∈ hc_tb := hc_tb_2 11 (by rfl) rfl
set_option maxRecDepth 100000 in
theorem mv_X7_65 : hc_MV RX7 65 yX7_found cX7_found 2 (some .int) 1 := ⟨⟨hc_tb_2 15 (by rfl) rfl, hc_tb_1 1 (by rfl) rfl, hc_tb_2 12 (by rfl) rfl, by decide +kernel, by decide⟩, hc_tb_2 14 (by rfl) rfl, hc_tb_of 0 (by decide +kernel) rfl⟩
set_option maxRecDepth 100000 in
theorem kc_X7_295 : Cond.constant RX7 295 (-1000010) ∈ hc_tb := hc_tb_2 16 (by rfl) rfl
set_option maxRecDepth 100000 in
theorem mv_X7_69 : hc_MV RX7 69 yX5_make cX5_make 5 none 3 := ⟨⟨hc_tb_2 20 (by rfl) rfl, hc_tb_1 2 (by rfl) rfl, hc_tb_2 17 (by rfl) rfl, by decide +kernel, by decide⟩, hc_tb_2 18 (by rfl) rfl, hc_tb_2 19 (by rfl) rfl⟩
set_option maxRecDepth 100000 in
theorem ms_X5_35 : hc_MS RX5 35 yJ7_fill_fda19 cJ7_fill_fda19 5 none 4 := ⟨⟨hc_tb_2 23 (by rfl) rfl, hc_tb_1 3 (by rfl) rfl, hc_tb_2 21 (by rfl) rfl, by decide +kernel, by decide⟩, hc_tb_2 22 (by rfl) rfl⟩
set_option maxRecDepth 100000 in
theorem ms_J7_13 : hc_MS RJ7 13 yJ7_rangeCheck_23922 cJ7_rangeCheck_23922 3 none 3 := ⟨⟨hc_tb_2 26 (by rfl) rfl, hc_tb_1 3 (by rfl) rfl, hc_tb_2 24 (by rfl) rfl, by decide +kernel, by decide⟩, hc_tb_2 25 (by rfl) rfl⟩
set_option maxRecDepth 100000 in
theorem mv_X7_73 : hc_MV RX7 73 yX7_foundNothing cX7_foundNothing 2 (some .int) 1 := ⟨⟨hc_tb_2 30 (by rfl) rfl, hc_tb_1 1 (by rfl) rfl, hc_tb_2 27 (by rfl) rfl, by decide +kernel, by decide⟩, hc_tb_2 29 (by rfl) rfl, hc_tb_of 1 (by decide +kernel) rfl⟩
set_option maxRecDepth 100000 in
theorem mv_L_18 : hc_MV RL 18 yX7_set cX7_set 5 (some .int) 3 := ⟨⟨hc_tb_2 34 (by rfl) rfl, hc_tb_1 1 (by rfl) rfl, hc_tb_2 31 (by rfl) rfl, by decide +kernel, by decide⟩, hc_tb_2 32 (by rfl) rfl, hc_tb_2 33 (by rfl) rfl⟩
set_option maxRecDepth 100000 in
theorem mv_X7_76 : hc_MV RX7 76 yX5_findingOf cX5_findingOf 4 (some .int) 3 := ⟨⟨hc_tb_2 38 (by rfl) rfl, hc_tb_1 2 (by rfl) rfl, hc_tb_2 35 (by rfl) rfl, by decide +kernel, by decide⟩, hc_tb_2 36 (by rfl) rfl, hc_tb_2 37 (by rfl) rfl⟩
set_option maxRecDepth 100000 in
theorem mv_X5_27 : hc_MV RX5 27 yX5_isMissing cX5_isMissing 2 (some .boolean) 1 := ⟨⟨hc_tb_2 42 (by rfl) rfl, hc_tb_1 2 (by rfl) rfl, hc_tb_2 39 (by rfl) rfl, by decide +kernel, by decide⟩, hc_tb_2 40 (by rfl) rfl, hc_tb_2 41 (by rfl) rfl⟩
set_option maxRecDepth 100000 in
theorem mv_X5_31 : hc_MV RX5 31 yX5_hasPlaces cX5_hasPlaces 4 (some .boolean) 3 := ⟨⟨hc_tb_2 46 (by rfl) rfl, hc_tb_1 2 (by rfl) rfl, hc_tb_2 43 (by rfl) rfl, by decide +kernel, by decide⟩, hc_tb_2 45 (by rfl) rfl, hc_tb_of 2 (by decide +kernel) rfl⟩
set_option maxRecDepth 100000 in
theorem mv_X7_80 : hc_MV RX7 80 yX5_put cX5_put 5 (some .int) 3 := ⟨⟨hc_tb_2 50 (by rfl) rfl, hc_tb_1 2 (by rfl) rfl, hc_tb_2 47 (by rfl) rfl, by decide +kernel, by decide⟩, hc_tb_2 48 (by rfl) rfl, hc_tb_2 49 (by rfl) rfl⟩
set_option maxRecDepth 100000 in
theorem ms_X5_38 : hc_MS RX5 38 yX5_cutToLane cX5_cutToLane 2 (some .int) 2 := ⟨⟨hc_tb_2 53 (by rfl) rfl, hc_tb_1 2 (by rfl) rfl, hc_tb_2 51 (by rfl) rfl, by decide +kernel, by decide⟩, hc_tb_2 52 (by rfl) rfl⟩
set_option maxRecDepth 100000 in
theorem mv_L_22 : hc_MV RL 22 yX7_copy cX7_copy 7 (some .int) 5 := ⟨⟨hc_tb_2 57 (by rfl) rfl, hc_tb_1 1 (by rfl) rfl, hc_tb_2 54 (by rfl) rfl, by decide +kernel, by decide⟩, hc_tb_2 55 (by rfl) rfl, hc_tb_2 56 (by rfl) rfl⟩
set_option maxRecDepth 100000 in
theorem mv_X7_83 : hc_MV RX7 83 yX5_findingOfCopy cX5_findingOfCopy 6 (some .int) 5 := ⟨⟨hc_tb_2 61 (by rfl) rfl, hc_tb_1 2 (by rfl) rfl, hc_tb_2 58 (by rfl) rfl, by decide +kernel, by decide⟩, hc_tb_2 59 (by rfl) rfl, hc_tb_2 60 (by rfl) rfl⟩
set_option maxRecDepth 100000 in
theorem mv_X7_87 : hc_MV RX7 87 yX5_move cX5_move 6 none 5 := ⟨⟨hc_tb_2 65 (by rfl) rfl, hc_tb_1 2 (by rfl) rfl, hc_tb_2 62 (by rfl) rfl, by decide +kernel, by decide⟩, hc_tb_2 63 (by rfl) rfl, hc_tb_2 64 (by rfl) rfl⟩
set_option maxRecDepth 100000 in
theorem ac_X5_42 : Cond.methodLink RX5 42 arraycopyName ∈ hc_tb := hc_tb_2 66 (by rfl) rfl
set_option maxRecDepth 100000 in
theorem mv_L_27 : hc_MV RL 27 yX7_drop cX7_drop 2 (some .int) 1 := ⟨⟨hc_tb_2 72 (by rfl) rfl, hc_tb_1 1 (by rfl) rfl, hc_tb_2 69 (by rfl) rfl, by decide +kernel, by decide⟩, hc_tb_2 70 (by rfl) rfl, hc_tb_2 71 (by rfl) rfl⟩
set_option maxRecDepth 100000 in
theorem mv_X7_91 : hc_MV RX7 91 yX5_isMissing cX5_isMissing 2 (some .boolean) 1 := ⟨⟨hc_tb_2 42 (by rfl) rfl, hc_tb_1 2 (by rfl) rfl, hc_tb_2 73 (by rfl) rfl, by decide +kernel, by decide⟩, hc_tb_2 40 (by rfl) rfl, hc_tb_2 41 (by rfl) rfl⟩
set_option maxRecDepth 100000 in
theorem mv_X7_94 : hc_MV RX7 94 yX5_remove cX5_remove 3 (some .int) 1 := ⟨⟨hc_tb_2 77 (by rfl) rfl, hc_tb_1 2 (by rfl) rfl, hc_tb_2 74 (by rfl) rfl, by decide +kernel, by decide⟩, hc_tb_2 75 (by rfl) rfl, hc_tb_2 76 (by rfl) rfl⟩
set_option maxRecDepth 100000 in
theorem mv_L_32 : hc_MV RL 32 yX7_feed cX7_feed 2 (some .int) 1 := ⟨⟨hc_tb_2 81 (by rfl) rfl, hc_tb_1 1 (by rfl) rfl, hc_tb_2 78 (by rfl) rfl, by decide +kernel, by decide⟩, hc_tb_2 79 (by rfl) rfl, hc_tb_2 80 (by rfl) rfl⟩
set_option maxRecDepth 100000 in
theorem ms_X7_97 : hc_MS RX7 97 yX7_isWithin cX7_isWithin 3 (some .boolean) 3 := ⟨⟨hc_tb_2 84 (by rfl) rfl, hc_tb_1 1 (by rfl) rfl, hc_tb_2 82 (by rfl) rfl, by decide +kernel, by decide⟩, hc_tb_2 83 (by rfl) rfl⟩
set_option maxRecDepth 100000 in
theorem mv_X7_101 : hc_MV RX7 101 yX6_append cX6_append 2 (some .int) 1 := ⟨⟨hc_tb_2 88 (by rfl) rfl, hc_tb_1 4 (by rfl) rfl, hc_tb_2 85 (by rfl) rfl, by decide +kernel, by decide⟩, hc_tb_2 86 (by rfl) rfl, hc_tb_2 87 (by rfl) rfl⟩
set_option maxRecDepth 100000 in
theorem kc_X6_42 : Cond.constant RX6 42 (-1000003) ∈ hc_tb := hc_tb_2 89 (by rfl) rfl
set_option maxRecDepth 100000 in
theorem mv_L_36 : hc_MV RL 36 yX7_house cX7_house 2 (some .int) 0 := ⟨⟨hc_tb_2 93 (by rfl) rfl, hc_tb_1 1 (by rfl) rfl, hc_tb_2 90 (by rfl) rfl, by decide +kernel, by decide⟩, hc_tb_2 91 (by rfl) rfl, hc_tb_2 92 (by rfl) rfl⟩
set_option maxRecDepth 100000 in
theorem mv_X7_104 : hc_MV RX7 104 yX6_read cX6_read 1 (some .int) 0 := ⟨⟨hc_tb_2 97 (by rfl) rfl, hc_tb_1 4 (by rfl) rfl, hc_tb_2 94 (by rfl) rfl, by decide +kernel, by decide⟩, hc_tb_2 95 (by rfl) rfl, hc_tb_2 96 (by rfl) rfl⟩
set_option maxRecDepth 100000 in
theorem mv_X6_43 : hc_MV RX6 43 yX6_readHouse cX6_readHouse 2 none 0 := ⟨⟨hc_tb_2 101 (by rfl) rfl, hc_tb_1 4 (by rfl) rfl, hc_tb_2 98 (by rfl) rfl, by decide +kernel, by decide⟩, hc_tb_2 100 (by rfl) rfl, hc_tb_of 3 (by decide +kernel) rfl⟩
set_option maxRecDepth 100000 in
theorem mv_X6_47 : hc_MV RX6 47 yX6_byteHere cX6_byteHere 1 (some .int) 0 := ⟨⟨hc_tb_2 105 (by rfl) rfl, hc_tb_1 4 (by rfl) rfl, hc_tb_2 102 (by rfl) rfl, by decide +kernel, by decide⟩, hc_tb_2 104 (by rfl) rfl, hc_tb_of 4 (by decide +kernel) rfl⟩
set_option maxRecDepth 100000 in
theorem kc_X6_46 : Cond.constant RX6 46 (-1000000) ∈ hc_tb := hc_tb_2 106 (by rfl) rfl
set_option maxRecDepth 100000 in
theorem sl_X6_51 : Cond.fieldLink RX6 51 "HeedClock$Tape" "LAW_LEAST" "[I" ∈ hc_tb := hc_tb_2 107 (by rfl) rfl
set_option maxRecDepth 100000 in
theorem sl_X6_54 : Cond.fieldLink RX6 54 "HeedClock$Tape" "LAW_MOST" "[I" ∈ hc_tb := hc_tb_2 109 (by rfl) rfl
set_option maxRecDepth 100000 in
theorem mv_X6_57 : hc_MV RX6 57 yX6_readNumbers cX6_readNumbers 4 none 2 := ⟨⟨hc_tb_2 114 (by rfl) rfl, hc_tb_1 4 (by rfl) rfl, hc_tb_2 111 (by rfl) rfl, by decide +kernel, by decide⟩, hc_tb_2 113 (by rfl) rfl, hc_tb_of 5 (by decide +kernel) rfl⟩
set_option maxRecDepth 100000 in
theorem mv_X6_86 : hc_MV RX6 86 yX6_readNumber cX6_readNumber 6 none 2 := ⟨⟨hc_tb_2 118 (by rfl) rfl, hc_tb_1 4 (by rfl) rfl, hc_tb_2 115 (by rfl) rfl, by decide +kernel, by decide⟩, hc_tb_2 117 (by rfl) rfl, hc_tb_of 6 (by decide +kernel) rfl⟩
set_option maxRecDepth 100000 in
theorem mv_X6_94 : hc_MV RX6 94 yX6_figuresHere cX6_figuresHere 3 (some .int) 0 := ⟨⟨hc_tb_2 122 (by rfl) rfl, hc_tb_1 4 (by rfl) rfl, hc_tb_2 119 (by rfl) rfl, by decide +kernel, by decide⟩, hc_tb_2 121 (by rfl) rfl, hc_tb_of 7 (by decide +kernel) rfl⟩
set_option maxRecDepth 100000 in
theorem mv_X6_90 : hc_MV RX6 90 yX6_readSign cX6_readSign 2 none 1 := ⟨⟨hc_tb_2 126 (by rfl) rfl, hc_tb_1 4 (by rfl) rfl, hc_tb_2 123 (by rfl) rfl, by decide +kernel, by decide⟩, hc_tb_2 125 (by rfl) rfl, hc_tb_of 8 (by decide +kernel) rfl⟩
set_option maxRecDepth 100000 in
theorem ms_X6_61 : hc_MS RX6 61 yX4_ofLetter cX4_ofLetter 1 (some .int) 1 := ⟨⟨hc_tb_2 129 (by rfl) rfl, hc_tb_1 10 (by rfl) rfl, hc_tb_2 127 (by rfl) rfl, by decide +kernel, by decide⟩, hc_tb_2 128 (by rfl) rfl⟩
set_option maxRecDepth 100000 in
theorem mv_X6_67 : hc_MV RX6 67 yX6_readEar cX6_readEar 2 none 1 := ⟨⟨hc_tb_2 133 (by rfl) rfl, hc_tb_1 4 (by rfl) rfl, hc_tb_2 130 (by rfl) rfl, by decide +kernel, by decide⟩, hc_tb_2 132 (by rfl) rfl, hc_tb_of 9 (by decide +kernel) rfl⟩
set_option maxRecDepth 100000 in
theorem sl_X6_74 : Cond.fieldLink RX6 74 "HeedClock$Tape" "EAR_LEAST" "[I" ∈ hc_tb := hc_tb_2 134 (by rfl) rfl
set_option maxRecDepth 100000 in
theorem sl_X6_77 : Cond.fieldLink RX6 77 "HeedClock$Tape" "EAR_MOST" "[I" ∈ hc_tb := hc_tb_2 136 (by rfl) rfl
set_option maxRecDepth 100000 in
theorem mv_X6_71 : hc_MV RX6 71 yX6_readDoing cX6_readDoing 1 none 0 := ⟨⟨hc_tb_2 141 (by rfl) rfl, hc_tb_1 4 (by rfl) rfl, hc_tb_2 138 (by rfl) rfl, by decide +kernel, by decide⟩, hc_tb_2 140 (by rfl) rfl, hc_tb_of 10 (by decide +kernel) rfl⟩
set_option maxRecDepth 100000 in
theorem sl_X6_80 : Cond.fieldLink RX6 80 "HeedClock$Tape" "DOING_LEAST" "[I" ∈ hc_tb := hc_tb_2 142 (by rfl) rfl
set_option maxRecDepth 100000 in
theorem sl_X6_83 : Cond.fieldLink RX6 83 "HeedClock$Tape" "DOING_MOST" "[I" ∈ hc_tb := hc_tb_2 144 (by rfl) rfl
set_option maxRecDepth 100000 in
theorem kc_X7_108 : Cond.constant RX7 108 (-1000000) ∈ hc_tb := hc_tb_2 146 (by rfl) rfl
set_option maxRecDepth 100000 in
theorem kc_X7_112 : Cond.constant RX7 112 (-1000100) ∈ hc_tb := hc_tb_2 147 (by rfl) rfl
set_option maxRecDepth 100000 in
theorem mv_X7_113 : hc_MV RX7 113 yX3_settle cX3_settle 2 none 1 := ⟨⟨hc_tb_2 151 (by rfl) rfl, hc_tb_1 5 (by rfl) rfl, hc_tb_2 148 (by rfl) rfl, by decide +kernel, by decide⟩, hc_tb_2 149 (by rfl) rfl, hc_tb_2 150 (by rfl) rfl⟩
set_option maxRecDepth 100000 in
theorem mv_X3_63 : hc_MV RX3 63 yX6_toldWool cX6_toldWool 1 (some .int) 0 := ⟨⟨hc_tb_2 155 (by rfl) rfl, hc_tb_1 4 (by rfl) rfl, hc_tb_2 152 (by rfl) rfl, by decide +kernel, by decide⟩, hc_tb_2 153 (by rfl) rfl, hc_tb_2 154 (by rfl) rfl⟩
set_option maxRecDepth 100000 in
theorem mv_X3_69 : hc_MV RX3 69 yX3_settleEars cX3_settleEars 3 none 1 := ⟨⟨hc_tb_2 159 (by rfl) rfl, hc_tb_1 5 (by rfl) rfl, hc_tb_2 156 (by rfl) rfl, by decide +kernel, by decide⟩, hc_tb_2 158 (by rfl) rfl, hc_tb_of 11 (by decide +kernel) rfl⟩
set_option maxRecDepth 100000 in
theorem mv_X3_78 : hc_MV RX3 78 yX6_toldOfEar cX6_toldOfEar 3 (some .int) 2 := ⟨⟨hc_tb_2 163 (by rfl) rfl, hc_tb_1 4 (by rfl) rfl, hc_tb_2 160 (by rfl) rfl, by decide +kernel, by decide⟩, hc_tb_2 161 (by rfl) rfl, hc_tb_2 162 (by rfl) rfl⟩
set_option maxRecDepth 100000 in
theorem mv_X3_73 : hc_MV RX3 73 yX3_settleDoings cX3_settleDoings 3 none 1 := ⟨⟨hc_tb_2 167 (by rfl) rfl, hc_tb_1 5 (by rfl) rfl, hc_tb_2 164 (by rfl) rfl, by decide +kernel, by decide⟩, hc_tb_2 166 (by rfl) rfl, hc_tb_of 12 (by decide +kernel) rfl⟩
set_option maxRecDepth 100000 in
theorem mv_X3_83 : hc_MV RX3 83 yX6_toldOfDoing cX6_toldOfDoing 3 (some .int) 2 := ⟨⟨hc_tb_2 171 (by rfl) rfl, hc_tb_1 4 (by rfl) rfl, hc_tb_2 168 (by rfl) rfl, by decide +kernel, by decide⟩, hc_tb_2 169 (by rfl) rfl, hc_tb_2 170 (by rfl) rfl⟩
set_option maxRecDepth 100000 in
theorem mv_X7_117 : hc_MV RX7 117 yX0_forgetAll cX0_forgetAll 1 none 0 := ⟨⟨hc_tb_2 175 (by rfl) rfl, hc_tb_1 6 (by rfl) rfl, hc_tb_2 172 (by rfl) rfl, by decide +kernel, by decide⟩, hc_tb_2 173 (by rfl) rfl, hc_tb_2 174 (by rfl) rfl⟩
set_option maxRecDepth 100000 in
theorem mv_L_41 : hc_MV RL 41 yX7_fault cX7_fault 1 (some .int) 0 := ⟨⟨hc_tb_2 179 (by rfl) rfl, hc_tb_1 1 (by rfl) rfl, hc_tb_2 176 (by rfl) rfl, by decide +kernel, by decide⟩, hc_tb_2 177 (by rfl) rfl, hc_tb_2 178 (by rfl) rfl⟩
set_option maxRecDepth 100000 in
theorem mv_L_45 : hc_MV RL 45 yX7_quarters cX7_quarters 3 (some .int) 1 := ⟨⟨hc_tb_2 183 (by rfl) rfl, hc_tb_1 1 (by rfl) rfl, hc_tb_2 180 (by rfl) rfl, by decide +kernel, by decide⟩, hc_tb_2 181 (by rfl) rfl, hc_tb_2 182 (by rfl) rfl⟩
set_option maxRecDepth 100000 in
theorem kc_X7_127 : Cond.constant RX7 127 (-1000002) ∈ hc_tb := hc_tb_2 184 (by rfl) rfl
set_option maxRecDepth 100000 in
theorem kc_X7_131 : Cond.constant RX7 131 (-1000003) ∈ hc_tb := hc_tb_2 185 (by rfl) rfl
set_option maxRecDepth 100000 in
theorem mv_X7_132 : hc_MV RX7 132 yX3_passQuarter cX3_passQuarter 2 none 0 := ⟨⟨hc_tb_2 189 (by rfl) rfl, hc_tb_1 5 (by rfl) rfl, hc_tb_2 186 (by rfl) rfl, by decide +kernel, by decide⟩, hc_tb_2 187 (by rfl) rfl, hc_tb_2 188 (by rfl) rfl⟩
set_option maxRecDepth 100000 in
theorem mv_X3_103 : hc_MV RX3 103 yX3_attending cX3_attending 1 (some .int) 0 := ⟨⟨hc_tb_2 193 (by rfl) rfl, hc_tb_1 5 (by rfl) rfl, hc_tb_2 190 (by rfl) rfl, by decide +kernel, by decide⟩, hc_tb_2 191 (by rfl) rfl, hc_tb_2 192 (by rfl) rfl⟩
set_option maxRecDepth 100000 in
theorem mv_X3_100 : hc_MV RX3 100 yX3_inClockRoom cX3_inClockRoom 3 (some .int) 0 := ⟨⟨hc_tb_2 197 (by rfl) rfl, hc_tb_1 5 (by rfl) rfl, hc_tb_2 194 (by rfl) rfl, by decide +kernel, by decide⟩, hc_tb_2 195 (by rfl) rfl, hc_tb_2 196 (by rfl) rfl⟩
set_option maxRecDepth 100000 in
theorem mv_X3_96 : hc_MV RX3 96 yX3_isInClockRoom cX3_isInClockRoom 2 (some .boolean) 1 := ⟨⟨hc_tb_2 201 (by rfl) rfl, hc_tb_1 5 (by rfl) rfl, hc_tb_2 198 (by rfl) rfl, by decide +kernel, by decide⟩, hc_tb_2 199 (by rfl) rfl, hc_tb_2 200 (by rfl) rfl⟩
set_option maxRecDepth 100000 in
theorem mv_X3_121 : hc_MV RX3 121 yX3_partsOf cX3_partsOf 6 (some .int) 2 := ⟨⟨hc_tb_2 205 (by rfl) rfl, hc_tb_1 5 (by rfl) rfl, hc_tb_2 202 (by rfl) rfl, by decide +kernel, by decide⟩, hc_tb_2 203 (by rfl) rfl, hc_tb_2 204 (by rfl) rfl⟩
set_option maxRecDepth 100000 in
theorem ms_X3_92 : hc_MS RX3 92 yX3_isIn cX3_isIn 2 (some .boolean) 2 := ⟨⟨hc_tb_2 208 (by rfl) rfl, hc_tb_1 5 (by rfl) rfl, hc_tb_2 206 (by rfl) rfl, by decide +kernel, by decide⟩, hc_tb_2 207 (by rfl) rfl⟩
set_option maxRecDepth 100000 in
theorem mv_X3_106 : hc_MV RX3 106 yX3_hasItsTime cX3_hasItsTime 3 (some .boolean) 2 := ⟨⟨hc_tb_2 212 (by rfl) rfl, hc_tb_1 5 (by rfl) rfl, hc_tb_2 209 (by rfl) rfl, by decide +kernel, by decide⟩, hc_tb_2 211 (by rfl) rfl, hc_tb_of 13 (by decide +kernel) rfl⟩
set_option maxRecDepth 100000 in
theorem mv_X3_114 : hc_MV RX3 114 yX3_giftOf cX3_giftOf 4 (some .int) 1 := ⟨⟨hc_tb_2 216 (by rfl) rfl, hc_tb_1 5 (by rfl) rfl, hc_tb_2 213 (by rfl) rfl, by decide +kernel, by decide⟩, hc_tb_2 215 (by rfl) rfl, hc_tb_of 14 (by decide +kernel) rfl⟩
set_option maxRecDepth 100000 in
theorem mv_X3_128 : hc_MV RX3 128 yX3_growOlder cX3_growOlder 4 none 2 := ⟨⟨hc_tb_2 220 (by rfl) rfl, hc_tb_1 5 (by rfl) rfl, hc_tb_2 217 (by rfl) rfl, by decide +kernel, by decide⟩, hc_tb_2 219 (by rfl) rfl, hc_tb_of 15 (by decide +kernel) rfl⟩
set_option maxRecDepth 100000 in
theorem mv_X7_135 : hc_MV RX7 135 yX0_keep cX0_keep 4 none 3 := ⟨⟨hc_tb_2 224 (by rfl) rfl, hc_tb_1 6 (by rfl) rfl, hc_tb_2 221 (by rfl) rfl, by decide +kernel, by decide⟩, hc_tb_2 222 (by rfl) rfl, hc_tb_2 223 (by rfl) rfl⟩
set_option maxRecDepth 100000 in
theorem mv_X0_23 : hc_MV RX0 23 yX0_forgetOldest cX0_forgetOldest 1 none 0 := ⟨⟨hc_tb_2 228 (by rfl) rfl, hc_tb_1 6 (by rfl) rfl, hc_tb_2 225 (by rfl) rfl, by decide +kernel, by decide⟩, hc_tb_2 227 (by rfl) rfl, hc_tb_of 16 (by decide +kernel) rfl⟩
set_option maxRecDepth 100000 in
theorem ac_X0_26 : Cond.methodLink RX0 26 arraycopyName ∈ hc_tb := hc_tb_2 229 (by rfl) rfl
set_option maxRecDepth 100000 in
theorem mv_L_49 : hc_MV RL 49 yX7_go cX7_go 4 (some .int) 2 := ⟨⟨hc_tb_2 233 (by rfl) rfl, hc_tb_1 1 (by rfl) rfl, hc_tb_2 230 (by rfl) rfl, by decide +kernel, by decide⟩, hc_tb_2 231 (by rfl) rfl, hc_tb_2 232 (by rfl) rfl⟩
set_option maxRecDepth 100000 in
theorem mv_X7_141 : hc_MV RX7 141 yX3_hasEar cX3_hasEar 2 (some .boolean) 1 := ⟨⟨hc_tb_2 237 (by rfl) rfl, hc_tb_1 5 (by rfl) rfl, hc_tb_2 234 (by rfl) rfl, by decide +kernel, by decide⟩, hc_tb_2 235 (by rfl) rfl, hc_tb_2 236 (by rfl) rfl⟩
set_option maxRecDepth 100000 in
theorem mv_L_54 : hc_MV RL 54 yX7_hush cX7_hush 3 (some .int) 2 := ⟨⟨hc_tb_3 1 (by rfl) rfl, hc_tb_1 1 (by rfl) rfl, hc_tb_2 238 (by rfl) rfl, by decide +kernel, by decide⟩, hc_tb_2 239 (by rfl) rfl, hc_tb_3 0 (by rfl) rfl⟩
set_option maxRecDepth 100000 in
theorem mv_X7_148 : hc_MV RX7 148 yX3_isHushed cX3_isHushed 2 (some .boolean) 1 := ⟨⟨hc_tb_3 5 (by rfl) rfl, hc_tb_1 5 (by rfl) rfl, hc_tb_3 2 (by rfl) rfl, by decide +kernel, by decide⟩, hc_tb_3 3 (by rfl) rfl, hc_tb_3 4 (by rfl) rfl⟩
set_option maxRecDepth 100000 in
theorem mv_X7_151 : hc_MV RX7 151 yX3_setHushed cX3_setHushed 4 none 2 := ⟨⟨hc_tb_3 9 (by rfl) rfl, hc_tb_1 5 (by rfl) rfl, hc_tb_3 6 (by rfl) rfl, by decide +kernel, by decide⟩, hc_tb_3 7 (by rfl) rfl, hc_tb_3 8 (by rfl) rfl⟩
set_option maxRecDepth 100000 in
theorem ms_X7_158 : hc_MS RX7 158 yJ6_bitCount_0f7a4 cJ6_bitCount_0f7a4 1 (some .int) 1 := ⟨⟨hc_tb_3 12 (by rfl) rfl, hc_tb_1 12 (by rfl) rfl, hc_tb_3 10 (by rfl) rfl, by decide +kernel, by decide⟩, hc_tb_3 11 (by rfl) rfl⟩
set_option maxRecDepth 100000 in
theorem kc_J6_265 : Cond.constant RJ6 265 (1431655765) ∈ hc_tb := hc_tb_3 13 (by rfl) rfl
set_option maxRecDepth 100000 in
theorem kc_J6_266 : Cond.constant RJ6 266 (858993459) ∈ hc_tb := hc_tb_3 14 (by rfl) rfl
set_option maxRecDepth 100000 in
theorem kc_J6_267 : Cond.constant RJ6 267 (252645135) ∈ hc_tb := hc_tb_3 15 (by rfl) rfl
set_option maxRecDepth 100000 in
theorem mv_L_58 : hc_MV RL 58 yX7_wool cX7_wool 3 (some .int) 1 := ⟨⟨hc_tb_3 19 (by rfl) rfl, hc_tb_1 1 (by rfl) rfl, hc_tb_3 16 (by rfl) rfl, by decide +kernel, by decide⟩, hc_tb_3 17 (by rfl) rfl, hc_tb_3 18 (by rfl) rfl⟩
set_option maxRecDepth 100000 in
theorem mv_L_62 : hc_MV RL 62 yX7_undo cX7_undo 1 (some .int) 0 := ⟨⟨hc_tb_3 23 (by rfl) rfl, hc_tb_1 1 (by rfl) rfl, hc_tb_3 20 (by rfl) rfl, by decide +kernel, by decide⟩, hc_tb_3 21 (by rfl) rfl, hc_tb_3 22 (by rfl) rfl⟩
set_option maxRecDepth 100000 in
theorem mv_X7_169 : hc_MV RX7 169 yX0_takeBackLatest cX0_takeBackLatest 3 none 1 := ⟨⟨hc_tb_3 27 (by rfl) rfl, hc_tb_1 6 (by rfl) rfl, hc_tb_3 24 (by rfl) rfl, by decide +kernel, by decide⟩, hc_tb_3 25 (by rfl) rfl, hc_tb_3 26 (by rfl) rfl⟩
set_option maxRecDepth 100000 in
theorem mv_X0_37 : hc_MV RX0 37 yX3_setHushed cX3_setHushed 4 none 2 := ⟨⟨hc_tb_3 9 (by rfl) rfl, hc_tb_1 5 (by rfl) rfl, hc_tb_3 28 (by rfl) rfl, by decide +kernel, by decide⟩, hc_tb_3 7 (by rfl) rfl, hc_tb_3 8 (by rfl) rfl⟩
set_option maxRecDepth 100000 in
theorem mv_X0_44 : hc_MV RX0 44 yX3_takeQuarterBack cX3_takeQuarterBack 1 none 0 := ⟨⟨hc_tb_3 32 (by rfl) rfl, hc_tb_1 5 (by rfl) rfl, hc_tb_3 29 (by rfl) rfl, by decide +kernel, by decide⟩, hc_tb_3 30 (by rfl) rfl, hc_tb_3 31 (by rfl) rfl⟩
set_option maxRecDepth 100000 in
theorem mv_L_66 : hc_MV RL 66 yX7_ear cX7_ear 3 (some .int) 2 := ⟨⟨hc_tb_3 36 (by rfl) rfl, hc_tb_1 1 (by rfl) rfl, hc_tb_3 33 (by rfl) rfl, by decide +kernel, by decide⟩, hc_tb_3 34 (by rfl) rfl, hc_tb_3 35 (by rfl) rfl⟩
set_option maxRecDepth 100000 in
theorem mv_X7_176 : hc_MV RX7 176 yX3_listensNow cX3_listensNow 2 (some .boolean) 1 := ⟨⟨hc_tb_3 40 (by rfl) rfl, hc_tb_1 5 (by rfl) rfl, hc_tb_3 37 (by rfl) rfl, by decide +kernel, by decide⟩, hc_tb_3 38 (by rfl) rfl, hc_tb_3 39 (by rfl) rfl⟩
set_option maxRecDepth 100000 in
theorem mv_X7_179 : hc_MV RX7 179 yX3_givesNow cX3_givesNow 2 (some .int) 1 := ⟨⟨hc_tb_3 44 (by rfl) rfl, hc_tb_1 5 (by rfl) rfl, hc_tb_3 41 (by rfl) rfl, by decide +kernel, by decide⟩, hc_tb_3 42 (by rfl) rfl, hc_tb_3 43 (by rfl) rfl⟩
set_option maxRecDepth 100000 in
theorem mv_X3_109 : hc_MV RX3 109 yX3_listensNow cX3_listensNow 2 (some .boolean) 1 := ⟨⟨hc_tb_3 40 (by rfl) rfl, hc_tb_1 5 (by rfl) rfl, hc_tb_3 45 (by rfl) rfl, by decide +kernel, by decide⟩, hc_tb_3 38 (by rfl) rfl, hc_tb_3 39 (by rfl) rfl⟩
set_option maxRecDepth 100000 in
theorem mv_X3_124 : hc_MV RX3 124 yX3_areWidowersSilenced cX3_areWidowersSilenced 1 (some .boolean) 0 := ⟨⟨hc_tb_3 49 (by rfl) rfl, hc_tb_1 5 (by rfl) rfl, hc_tb_3 46 (by rfl) rfl, by decide +kernel, by decide⟩, hc_tb_3 48 (by rfl) rfl, hc_tb_of 17 (by decide +kernel) rfl⟩
set_option maxRecDepth 100000 in
theorem mv_X3_118 : hc_MV RX3 118 yX3_widowers cX3_widowers 3 (some .int) 0 := ⟨⟨hc_tb_3 53 (by rfl) rfl, hc_tb_1 5 (by rfl) rfl, hc_tb_3 50 (by rfl) rfl, by decide +kernel, by decide⟩, hc_tb_3 52 (by rfl) rfl, hc_tb_of 18 (by decide +kernel) rfl⟩
set_option maxRecDepth 100000 in
theorem mv_L_70 : hc_MV RL 70 yX7_clock cX7_clock 2 (some .int) 1 := ⟨⟨hc_tb_3 57 (by rfl) rfl, hc_tb_1 1 (by rfl) rfl, hc_tb_3 54 (by rfl) rfl, by decide +kernel, by decide⟩, hc_tb_3 55 (by rfl) rfl, hc_tb_3 56 (by rfl) rfl⟩
set_option maxRecDepth 100000 in
theorem mv_X7_185 : hc_MV RX7 185 yX3_attending cX3_attending 1 (some .int) 0 := ⟨⟨hc_tb_2 193 (by rfl) rfl, hc_tb_1 5 (by rfl) rfl, hc_tb_3 58 (by rfl) rfl, by decide +kernel, by decide⟩, hc_tb_2 191 (by rfl) rfl, hc_tb_2 192 (by rfl) rfl⟩
set_option maxRecDepth 100000 in
theorem mv_X7_188 : hc_MV RX7 188 yX3_partsOf cX3_partsOf 6 (some .int) 2 := ⟨⟨hc_tb_2 205 (by rfl) rfl, hc_tb_1 5 (by rfl) rfl, hc_tb_3 59 (by rfl) rfl, by decide +kernel, by decide⟩, hc_tb_2 203 (by rfl) rfl, hc_tb_2 204 (by rfl) rfl⟩
set_option maxRecDepth 100000 in
theorem mv_L_74 : hc_MV RL 74 yX7_ahead cX7_ahead 2 (some .int) 1 := ⟨⟨hc_tb_3 63 (by rfl) rfl, hc_tb_1 1 (by rfl) rfl, hc_tb_3 60 (by rfl) rfl, by decide +kernel, by decide⟩, hc_tb_3 61 (by rfl) rfl, hc_tb_3 62 (by rfl) rfl⟩
set_option maxRecDepth 100000 in
theorem ms_X7_192 : hc_MS RX7 192 yX2_partsAfter cX2_partsAfter 6 (some .int) 3 := ⟨⟨hc_tb_3 66 (by rfl) rfl, hc_tb_1 13 (by rfl) rfl, hc_tb_3 64 (by rfl) rfl, by decide +kernel, by decide⟩, hc_tb_3 65 (by rfl) rfl⟩
set_option maxRecDepth 100000 in
theorem mv_X2_18 : hc_MV RX2 18 yX3_partsOf cX3_partsOf 6 (some .int) 2 := ⟨⟨hc_tb_2 205 (by rfl) rfl, hc_tb_1 5 (by rfl) rfl, hc_tb_3 67 (by rfl) rfl, by decide +kernel, by decide⟩, hc_tb_2 203 (by rfl) rfl, hc_tb_2 204 (by rfl) rfl⟩
set_option maxRecDepth 100000 in
theorem mv_L_78 : hc_MV RL 78 yX7_whenShows cX7_whenShows 2 (some .int) 1 := ⟨⟨hc_tb_3 71 (by rfl) rfl, hc_tb_1 1 (by rfl) rfl, hc_tb_3 68 (by rfl) rfl, by decide +kernel, by decide⟩, hc_tb_3 69 (by rfl) rfl, hc_tb_3 70 (by rfl) rfl⟩
set_option maxRecDepth 100000 in
theorem ms_X7_198 : hc_MS RX7 198 yX2_quartersTillShown cX2_quartersTillShown 5 (some .int) 2 := ⟨⟨hc_tb_3 74 (by rfl) rfl, hc_tb_1 13 (by rfl) rfl, hc_tb_3 72 (by rfl) rfl, by decide +kernel, by decide⟩, hc_tb_3 73 (by rfl) rfl⟩
set_option maxRecDepth 100000 in
theorem mv_X2_28 : hc_MV RX2 28 yX3_attending cX3_attending 1 (some .int) 0 := ⟨⟨hc_tb_2 193 (by rfl) rfl, hc_tb_1 5 (by rfl) rfl, hc_tb_3 75 (by rfl) rfl, by decide +kernel, by decide⟩, hc_tb_2 191 (by rfl) rfl, hc_tb_2 192 (by rfl) rfl⟩
set_option maxRecDepth 100000 in
theorem kc_X2_32 : Cond.constant RX2 32 (-1000000) ∈ hc_tb := hc_tb_3 76 (by rfl) rfl
set_option maxRecDepth 100000 in
theorem mv_L_82 : hc_MV RL 82 yX7_done cX7_done 2 (some .int) 1 := ⟨⟨hc_tb_3 80 (by rfl) rfl, hc_tb_1 1 (by rfl) rfl, hc_tb_3 77 (by rfl) rfl, by decide +kernel, by decide⟩, hc_tb_3 78 (by rfl) rfl, hc_tb_3 79 (by rfl) rfl⟩
set_option maxRecDepth 100000 in
theorem mv_X7_202 : hc_MV RX7 202 yX3_hasDoing cX3_hasDoing 2 (some .boolean) 1 := ⟨⟨hc_tb_3 84 (by rfl) rfl, hc_tb_1 5 (by rfl) rfl, hc_tb_3 81 (by rfl) rfl, by decide +kernel, by decide⟩, hc_tb_3 82 (by rfl) rfl, hc_tb_3 83 (by rfl) rfl⟩
set_option maxRecDepth 100000 in
theorem ms_X7_205 : hc_MS RX7 205 yX2_doneOn cX2_doneOn 6 (some .int) 2 := ⟨⟨hc_tb_3 87 (by rfl) rfl, hc_tb_1 13 (by rfl) rfl, hc_tb_3 85 (by rfl) rfl, by decide +kernel, by decide⟩, hc_tb_3 86 (by rfl) rfl⟩
set_option maxRecDepth 100000 in
theorem ms_X2_37 : hc_MS RX2 37 yX2_partsNeeded cX2_partsNeeded 2 (some .int) 2 := ⟨⟨hc_tb_3 90 (by rfl) rfl, hc_tb_1 13 (by rfl) rfl, hc_tb_3 88 (by rfl) rfl, by decide +kernel, by decide⟩, hc_tb_3 89 (by rfl) rfl⟩
set_option maxRecDepth 100000 in
theorem mv_X2_44 : hc_MV RX2 44 yX3_isOver cX3_isOver 2 (some .boolean) 1 := ⟨⟨hc_tb_3 94 (by rfl) rfl, hc_tb_1 5 (by rfl) rfl, hc_tb_3 91 (by rfl) rfl, by decide +kernel, by decide⟩, hc_tb_3 92 (by rfl) rfl, hc_tb_3 93 (by rfl) rfl⟩
set_option maxRecDepth 100000 in
theorem mv_X2_48 : hc_MV RX2 48 yX3_partsGoneIn cX3_partsGoneIn 2 (some .int) 1 := ⟨⟨hc_tb_3 98 (by rfl) rfl, hc_tb_1 5 (by rfl) rfl, hc_tb_3 95 (by rfl) rfl, by decide +kernel, by decide⟩, hc_tb_3 96 (by rfl) rfl, hc_tb_3 97 (by rfl) rfl⟩
set_option maxRecDepth 100000 in
theorem mv_X3_132 : hc_MV RX3 132 yX3_isOver cX3_isOver 2 (some .boolean) 1 := ⟨⟨hc_tb_3 94 (by rfl) rfl, hc_tb_1 5 (by rfl) rfl, hc_tb_3 99 (by rfl) rfl, by decide +kernel, by decide⟩, hc_tb_3 92 (by rfl) rfl, hc_tb_3 93 (by rfl) rfl⟩
set_option maxRecDepth 100000 in
theorem mv_L_86 : hc_MV RL 86 yX7_late cX7_late 1 (some .int) 0 := ⟨⟨hc_tb_3 103 (by rfl) rfl, hc_tb_1 1 (by rfl) rfl, hc_tb_3 100 (by rfl) rfl, by decide +kernel, by decide⟩, hc_tb_3 101 (by rfl) rfl, hc_tb_3 102 (by rfl) rfl⟩
set_option maxRecDepth 100000 in
theorem ms_X7_208 : hc_MS RX7 208 yX2_lateDoings cX2_lateDoings 4 (some .int) 1 := ⟨⟨hc_tb_3 106 (by rfl) rfl, hc_tb_1 13 (by rfl) rfl, hc_tb_3 104 (by rfl) rfl, by decide +kernel, by decide⟩, hc_tb_3 105 (by rfl) rfl⟩
set_option maxRecDepth 100000 in
theorem ms_X2_55 : hc_MS RX2 55 yX2_doneOn cX2_doneOn 6 (some .int) 2 := ⟨⟨hc_tb_3 87 (by rfl) rfl, hc_tb_1 13 (by rfl) rfl, hc_tb_3 107 (by rfl) rfl, by decide +kernel, by decide⟩, hc_tb_3 86 (by rfl) rfl⟩
set_option maxRecDepth 100000 in
theorem mv_L_90 : hc_MV RL 90 yX7_latest cX7_latest 2 (some .int) 1 := ⟨⟨hc_tb_3 111 (by rfl) rfl, hc_tb_1 1 (by rfl) rfl, hc_tb_3 108 (by rfl) rfl, by decide +kernel, by decide⟩, hc_tb_3 109 (by rfl) rfl, hc_tb_3 110 (by rfl) rfl⟩
set_option maxRecDepth 100000 in
theorem ms_X7_212 : hc_MS RX7 212 yX2_latestBegin cX2_latestBegin 6 (some .int) 2 := ⟨⟨hc_tb_3 114 (by rfl) rfl, hc_tb_1 13 (by rfl) rfl, hc_tb_3 112 (by rfl) rfl, by decide +kernel, by decide⟩, hc_tb_3 113 (by rfl) rfl⟩
set_option maxRecDepth 100000 in
theorem mv_L_94 : hc_MV RL 94 yX7_toHush cX7_toHush 4 (some .int) 3 := ⟨⟨hc_tb_3 118 (by rfl) rfl, hc_tb_1 1 (by rfl) rfl, hc_tb_3 115 (by rfl) rfl, by decide +kernel, by decide⟩, hc_tb_3 116 (by rfl) rfl, hc_tb_3 117 (by rfl) rfl⟩
set_option maxRecDepth 100000 in
theorem ms_X7_215 : hc_MS RX7 215 yX7_isGoal cX7_isGoal 3 (some .boolean) 3 := ⟨⟨hc_tb_3 121 (by rfl) rfl, hc_tb_1 1 (by rfl) rfl, hc_tb_3 119 (by rfl) rfl, by decide +kernel, by decide⟩, hc_tb_3 120 (by rfl) rfl⟩
set_option maxRecDepth 100000 in
theorem ms_X7_218 : hc_MS RX7 218 yX2_fewestToBeHushed cX2_fewestToBeHushed 6 (some .int) 3 := ⟨⟨hc_tb_3 124 (by rfl) rfl, hc_tb_1 13 (by rfl) rfl, hc_tb_3 122 (by rfl) rfl, by decide +kernel, by decide⟩, hc_tb_3 123 (by rfl) rfl⟩
set_option maxRecDepth 100000 in
theorem mv_X2_61 : hc_MV RX2 61 yX3_allSets cX3_allSets 1 (some .int) 0 := ⟨⟨hc_tb_3 128 (by rfl) rfl, hc_tb_1 5 (by rfl) rfl, hc_tb_3 125 (by rfl) rfl, by decide +kernel, by decide⟩, hc_tb_3 126 (by rfl) rfl, hc_tb_3 127 (by rfl) rfl⟩
set_option maxRecDepth 100000 in
theorem ms_X2_67 : hc_MS RX2 67 yX2_isFewer cX2_isFewer 2 (some .boolean) 2 := ⟨⟨hc_tb_3 131 (by rfl) rfl, hc_tb_1 13 (by rfl) rfl, hc_tb_3 129 (by rfl) rfl, by decide +kernel, by decide⟩, hc_tb_3 130 (by rfl) rfl⟩
set_option maxRecDepth 100000 in
theorem ms_X2_77 : hc_MS RX2 77 yJ6_bitCount_0f7a4 cJ6_bitCount_0f7a4 1 (some .int) 1 := ⟨⟨hc_tb_3 12 (by rfl) rfl, hc_tb_1 12 (by rfl) rfl, hc_tb_3 132 (by rfl) rfl, by decide +kernel, by decide⟩, hc_tb_3 11 (by rfl) rfl⟩
set_option maxRecDepth 100000 in
theorem ms_X2_71 : hc_MS RX2 71 yX2_shownAfter cX2_shownAfter 3 (some .int) 3 := ⟨⟨hc_tb_3 135 (by rfl) rfl, hc_tb_1 13 (by rfl) rfl, hc_tb_3 133 (by rfl) rfl, by decide +kernel, by decide⟩, hc_tb_3 134 (by rfl) rfl⟩
set_option maxRecDepth 100000 in
theorem ms_X2_22 : hc_MS RX2 22 yX2_partsAfter cX2_partsAfter 6 (some .int) 3 := ⟨⟨hc_tb_3 66 (by rfl) rfl, hc_tb_1 13 (by rfl) rfl, hc_tb_3 136 (by rfl) rfl, by decide +kernel, by decide⟩, hc_tb_3 65 (by rfl) rfl⟩
set_option maxRecDepth 100000 in
theorem ms_X7_221 : hc_MS RX7 221 yX7_manyOrWhich cX7_manyOrWhich 2 (some .int) 2 := ⟨⟨hc_tb_3 139 (by rfl) rfl, hc_tb_1 1 (by rfl) rfl, hc_tb_3 137 (by rfl) rfl, by decide +kernel, by decide⟩, hc_tb_3 138 (by rfl) rfl⟩
set_option maxRecDepth 100000 in
theorem mv_L_98 : hc_MV RL 98 yX7_toCall cX7_toCall 4 (some .int) 3 := ⟨⟨hc_tb_3 143 (by rfl) rfl, hc_tb_1 1 (by rfl) rfl, hc_tb_3 140 (by rfl) rfl, by decide +kernel, by decide⟩, hc_tb_3 141 (by rfl) rfl, hc_tb_3 142 (by rfl) rfl⟩
set_option maxRecDepth 100000 in
theorem ms_X7_224 : hc_MS RX7 224 yX2_fewestToBeCalled cX2_fewestToBeCalled 7 (some .int) 3 := ⟨⟨hc_tb_3 146 (by rfl) rfl, hc_tb_1 13 (by rfl) rfl, hc_tb_3 144 (by rfl) rfl, by decide +kernel, by decide⟩, hc_tb_3 145 (by rfl) rfl⟩
set_option maxRecDepth 100000 in
theorem mv_X2_74 : hc_MV RX2 74 yX3_inClockRoom cX3_inClockRoom 3 (some .int) 0 := ⟨⟨hc_tb_2 197 (by rfl) rfl, hc_tb_1 5 (by rfl) rfl, hc_tb_3 147 (by rfl) rfl, by decide +kernel, by decide⟩, hc_tb_2 195 (by rfl) rfl, hc_tb_2 196 (by rfl) rfl⟩
set_option maxRecDepth 100000 in
theorem mv_L_102 : hc_MV RL 102 yX7_who cX7_who 8 (some .int) 4 := ⟨⟨hc_tb_3 151 (by rfl) rfl, hc_tb_1 1 (by rfl) rfl, hc_tb_3 148 (by rfl) rfl, by decide +kernel, by decide⟩, hc_tb_3 149 (by rfl) rfl, hc_tb_3 150 (by rfl) rfl⟩
set_option maxRecDepth 100000 in
theorem ms_X7_227 : hc_MS RX7 227 yX2_setsThatGoSo cX2_setsThatGoSo 8 (some .long) 5 := ⟨⟨hc_tb_3 154 (by rfl) rfl, hc_tb_1 13 (by rfl) rfl, hc_tb_3 152 (by rfl) rfl, by decide +kernel, by decide⟩, hc_tb_3 153 (by rfl) rfl⟩
set_option maxRecDepth 100000 in
theorem ms_X2_87 : hc_MS RX2 87 yX2_goesSo cX2_goesSo 7 (some .boolean) 6 := ⟨⟨hc_tb_3 157 (by rfl) rfl, hc_tb_1 13 (by rfl) rfl, hc_tb_3 155 (by rfl) rfl, by decide +kernel, by decide⟩, hc_tb_3 156 (by rfl) rfl⟩
set_option maxRecDepth 100000 in
theorem mv_X2_82 : hc_MV RX2 82 yX5_item cX5_item 3 (some .int) 2 := ⟨⟨hc_tb_3 161 (by rfl) rfl, hc_tb_1 2 (by rfl) rfl, hc_tb_3 158 (by rfl) rfl, by decide +kernel, by decide⟩, hc_tb_3 159 (by rfl) rfl, hc_tb_3 160 (by rfl) rfl⟩
set_option maxRecDepth 100000 in
theorem ms_X7_231 : hc_MS RX7 231 yJ13_bitCount_95d88 cJ13_bitCount_95d88 2 (some .int) 1 := ⟨⟨hc_tb_3 164 (by rfl) rfl, hc_tb_1 14 (by rfl) rfl, hc_tb_3 162 (by rfl) rfl, by decide +kernel, by decide⟩, hc_tb_3 163 (by rfl) rfl⟩
set_option maxRecDepth 100000 in
theorem kl_J13_314 : Cond.constantLong RJ13 314 (6148914691236517205) ∈ hc_tb := hc_tb_3 165 (by rfl) rfl
set_option maxRecDepth 100000 in
theorem kl_J13_316 : Cond.constantLong RJ13 316 (3689348814741910323) ∈ hc_tb := hc_tb_3 166 (by rfl) rfl
set_option maxRecDepth 100000 in
theorem kl_J13_318 : Cond.constantLong RJ13 318 (1085102592571150095) ∈ hc_tb := hc_tb_3 167 (by rfl) rfl
set_option maxRecDepth 100000 in
theorem ms_X7_236 : hc_MS RX7 236 yJ13_numberOfTrailingZeros_95d88 cJ13_numberOfTrailingZeros_95d88 3 (some .int) 1 := ⟨⟨hc_tb_3 170 (by rfl) rfl, hc_tb_1 14 (by rfl) rfl, hc_tb_3 168 (by rfl) rfl, by decide +kernel, by decide⟩, hc_tb_3 169 (by rfl) rfl⟩
set_option maxRecDepth 100000 in
theorem ms_J13_311 : hc_MS RJ13 311 yJ6_numberOfTrailingZeros_0f7a4 cJ6_numberOfTrailingZeros_0f7a4 2 (some .int) 1 := ⟨⟨hc_tb_3 173 (by rfl) rfl, hc_tb_1 12 (by rfl) rfl, hc_tb_3 171 (by rfl) rfl, by decide +kernel, by decide⟩, hc_tb_3 172 (by rfl) rfl⟩
set_option maxRecDepth 100000 in
theorem kc_J6_264 : Cond.constant RJ6 264 (65536) ∈ hc_tb := hc_tb_3 174 (by rfl) rfl
set_option maxRecDepth 100000 in
theorem mv_L_107 : hc_MV RL 107 yX7_heed cX7_heed 6 (some .int) 4 := ⟨⟨hc_tb_3 178 (by rfl) rfl, hc_tb_1 1 (by rfl) rfl, hc_tb_3 175 (by rfl) rfl, by decide +kernel, by decide⟩, hc_tb_3 176 (by rfl) rfl, hc_tb_3 177 (by rfl) rfl⟩
set_option maxRecDepth 100000 in
theorem ms_X7_239 : hc_MS RX7 239 yX2_heedsThatGoSo cX2_heedsThatGoSo 10 (some .int) 6 := ⟨⟨hc_tb_3 181 (by rfl) rfl, hc_tb_1 13 (by rfl) rfl, hc_tb_3 179 (by rfl) rfl, by decide +kernel, by decide⟩, hc_tb_3 180 (by rfl) rfl⟩
set_option maxRecDepth 100000 in
theorem mv_L_111 : hc_MV RL 111 yX7_older cX7_older 4 (some .int) 3 := ⟨⟨hc_tb_3 185 (by rfl) rfl, hc_tb_1 1 (by rfl) rfl, hc_tb_3 182 (by rfl) rfl, by decide +kernel, by decide⟩, hc_tb_3 183 (by rfl) rfl, hc_tb_3 184 (by rfl) rfl⟩
set_option maxRecDepth 100000 in
theorem ms_X7_243 : hc_MS RX7 243 yX2_livedAfter cX2_livedAfter 4 (some .int) 3 := ⟨⟨hc_tb_3 188 (by rfl) rfl, hc_tb_1 13 (by rfl) rfl, hc_tb_3 186 (by rfl) rfl, by decide +kernel, by decide⟩, hc_tb_3 187 (by rfl) rfl⟩
set_option maxRecDepth 100000 in
theorem mv_X2_97 : hc_MV RX2 97 yX3_isInClockRoom cX3_isInClockRoom 2 (some .boolean) 1 := ⟨⟨hc_tb_2 201 (by rfl) rfl, hc_tb_1 5 (by rfl) rfl, hc_tb_3 189 (by rfl) rfl, by decide +kernel, by decide⟩, hc_tb_2 199 (by rfl) rfl, hc_tb_2 200 (by rfl) rfl⟩
set_option maxRecDepth 100000 in
theorem mv_L_115 : hc_MV RL 115 yX7_odds cX7_odds 7 (some .int) 3 := ⟨⟨hc_tb_3 193 (by rfl) rfl, hc_tb_1 1 (by rfl) rfl, hc_tb_3 190 (by rfl) rfl, by decide +kernel, by decide⟩, hc_tb_3 191 (by rfl) rfl, hc_tb_3 192 (by rfl) rfl⟩
set_option maxRecDepth 100000 in
theorem ms_X7_246 : hc_MS RX7 246 yX2_chancesToGo cX2_chancesToGo 7 (some .int) 3 := ⟨⟨hc_tb_3 196 (by rfl) rfl, hc_tb_1 13 (by rfl) rfl, hc_tb_3 194 (by rfl) rfl, by decide +kernel, by decide⟩, hc_tb_3 195 (by rfl) rfl⟩
set_option maxRecDepth 100000 in
theorem mv_X2_100 : hc_MV RX2 100 yX3_listeningNow cX3_listeningNow 3 (some .int) 0 := ⟨⟨hc_tb_3 200 (by rfl) rfl, hc_tb_1 5 (by rfl) rfl, hc_tb_3 197 (by rfl) rfl, by decide +kernel, by decide⟩, hc_tb_3 198 (by rfl) rfl, hc_tb_3 199 (by rfl) rfl⟩
set_option maxRecDepth 100000 in
theorem ms_X2_103 : hc_MS RX2 103 yX2_power cX2_power 4 (some .int) 2 := ⟨⟨hc_tb_3 203 (by rfl) rfl, hc_tb_1 13 (by rfl) rfl, hc_tb_3 201 (by rfl) rfl, by decide +kernel, by decide⟩, hc_tb_3 202 (by rfl) rfl⟩
set_option maxRecDepth 100000 in
theorem ms_X7_249 : hc_MS RX7 249 yX2_chancesInAll cX2_chancesInAll 1 (some .int) 1 := ⟨⟨hc_tb_3 206 (by rfl) rfl, hc_tb_1 13 (by rfl) rfl, hc_tb_3 204 (by rfl) rfl, by decide +kernel, by decide⟩, hc_tb_3 205 (by rfl) rfl⟩
set_option maxRecDepth 100000 in
theorem ms_X7_252 : hc_MS RX7 252 yX7_greatestDivisor cX7_greatestDivisor 6 (some .int) 2 := ⟨⟨hc_tb_3 209 (by rfl) rfl, hc_tb_1 1 (by rfl) rfl, hc_tb_3 207 (by rfl) rfl, by decide +kernel, by decide⟩, hc_tb_3 208 (by rfl) rfl⟩
set_option maxRecDepth 100000 in
theorem ms_X7_296 : hc_MS RX7 296 yJ9_max_7cf53 cJ9_max_7cf53 2 (some .int) 2 := ⟨⟨hc_tb_3 212 (by rfl) rfl, hc_tb_1 15 (by rfl) rfl, hc_tb_3 210 (by rfl) rfl, by decide +kernel, by decide⟩, hc_tb_3 211 (by rfl) rfl⟩
set_option maxRecDepth 100000 in
theorem mv_L_119 : hc_MV RL 119 yX7_image cX7_image 2 (some .int) 1 := ⟨⟨hc_tb_3 216 (by rfl) rfl, hc_tb_1 1 (by rfl) rfl, hc_tb_3 213 (by rfl) rfl, by decide +kernel, by decide⟩, hc_tb_3 214 (by rfl) rfl, hc_tb_3 215 (by rfl) rfl⟩
set_option maxRecDepth 100000 in
theorem mv_X7_255 : hc_MV RX7 255 yX7_imageAt cX7_imageAt 2 (some (.object "HeedClock$House")) 1 := ⟨⟨hc_tb_3 220 (by rfl) rfl, hc_tb_1 1 (by rfl) rfl, hc_tb_3 217 (by rfl) rfl, by decide +kernel, by decide⟩, hc_tb_3 219 (by rfl) rfl, hc_tb_of 19 (by decide +kernel) rfl⟩
set_option maxRecDepth 100000 in
theorem mv_X7_259 : hc_MV RX7 259 yX3_becomeLike cX3_becomeLike 2 none 1 := ⟨⟨hc_tb_3 224 (by rfl) rfl, hc_tb_1 5 (by rfl) rfl, hc_tb_3 221 (by rfl) rfl, by decide +kernel, by decide⟩, hc_tb_3 222 (by rfl) rfl, hc_tb_3 223 (by rfl) rfl⟩
set_option maxRecDepth 100000 in
theorem ac_X3_86 : Cond.methodLink RX3 86 arraycopyName ∈ hc_tb := hc_tb_3 225 (by rfl) rfl
set_option maxRecDepth 100000 in
theorem mv_L_123 : hc_MV RL 123 yX7_restore cX7_restore 3 (some .int) 1 := ⟨⟨hc_tb_3 229 (by rfl) rfl, hc_tb_1 1 (by rfl) rfl, hc_tb_3 226 (by rfl) rfl, by decide +kernel, by decide⟩, hc_tb_3 227 (by rfl) rfl, hc_tb_3 228 (by rfl) rfl⟩
set_option maxRecDepth 100000 in
theorem mv_L_127 : hc_MV RL 127 yX7_kind cX7_kind 2 (some .int) 1 := ⟨⟨hc_tb_3 233 (by rfl) rfl, hc_tb_1 1 (by rfl) rfl, hc_tb_3 230 (by rfl) rfl, by decide +kernel, by decide⟩, hc_tb_3 231 (by rfl) rfl, hc_tb_3 232 (by rfl) rfl⟩
set_option maxRecDepth 100000 in
theorem mv_L_131 : hc_MV RL 131 yX7_as cX7_as 3 (some .int) 2 := ⟨⟨hc_tb_3 237 (by rfl) rfl, hc_tb_1 1 (by rfl) rfl, hc_tb_3 234 (by rfl) rfl, by decide +kernel, by decide⟩, hc_tb_3 235 (by rfl) rfl, hc_tb_3 236 (by rfl) rfl⟩
set_option maxRecDepth 100000 in
theorem ms_X7_265 : hc_MS RX7 265 yX4_isKind cX4_isKind 1 (some .boolean) 1 := ⟨⟨hc_tb_4 0 (by rfl) rfl, hc_tb_1 10 (by rfl) rfl, hc_tb_3 238 (by rfl) rfl, by decide +kernel, by decide⟩, hc_tb_3 239 (by rfl) rfl⟩
set_option maxRecDepth 100000 in
theorem ms_X7_270 : hc_MS RX7 270 yX4_isOneOf cX4_isOneOf 4 (some .boolean) 2 := ⟨⟨hc_tb_4 3 (by rfl) rfl, hc_tb_1 10 (by rfl) rfl, hc_tb_4 1 (by rfl) rfl, by decide +kernel, by decide⟩, hc_tb_4 2 (by rfl) rfl⟩
set_option maxRecDepth 100000 in
theorem ms_X4_17 : hc_MS RX4 17 yX4_nearest cX4_nearest 1 (some .int) 1 := ⟨⟨hc_tb_4 6 (by rfl) rfl, hc_tb_1 10 (by rfl) rfl, hc_tb_4 4 (by rfl) rfl, by decide +kernel, by decide⟩, hc_tb_4 5 (by rfl) rfl⟩
set_option maxRecDepth 100000 in
theorem ms_X4_9 : hc_MS RX4 9 yX4_isKind cX4_isKind 1 (some .boolean) 1 := ⟨⟨hc_tb_4 0 (by rfl) rfl, hc_tb_1 10 (by rfl) rfl, hc_tb_4 7 (by rfl) rfl, by decide +kernel, by decide⟩, hc_tb_3 239 (by rfl) rfl⟩
set_option maxRecDepth 100000 in
theorem sl_X4_13 : Cond.fieldLink RX4 13 "HeedClock$Kinds" "NEAREST" "[I" ∈ hc_tb := hc_tb_4 8 (by rfl) rfl
set_option maxRecDepth 100000 in
theorem mv_L_135 : hc_MV RL 135 yX7_ask cX7_ask 3 (some .int) 2 := ⟨⟨hc_tb_4 13 (by rfl) rfl, hc_tb_1 1 (by rfl) rfl, hc_tb_4 10 (by rfl) rfl, by decide +kernel, by decide⟩, hc_tb_4 11 (by rfl) rfl, hc_tb_4 12 (by rfl) rfl⟩
set_option maxRecDepth 100000 in
theorem mv_X7_274 : hc_MV RX7 274 yX1_answer cX1_answer 4 (some .int) 3 := ⟨⟨hc_tb_4 17 (by rfl) rfl, hc_tb_1 7 (by rfl) rfl, hc_tb_4 14 (by rfl) rfl, by decide +kernel, by decide⟩, hc_tb_4 15 (by rfl) rfl, hc_tb_4 16 (by rfl) rfl⟩
set_option maxRecDepth 100000 in
theorem mv_X1_40 : hc_MV RX1 40 yX1_begin cX1_begin 4 (some .int) 2 := ⟨⟨hc_tb_4 21 (by rfl) rfl, hc_tb_1 7 (by rfl) rfl, hc_tb_4 18 (by rfl) rfl, by decide +kernel, by decide⟩, hc_tb_4 20 (by rfl) rfl, hc_tb_of 20 (by decide +kernel) rfl⟩
set_option maxRecDepth 100000 in
theorem ms_X1_44 : hc_MS RX1 44 yX1_bodyFor cX1_bodyFor 2 (some .int) 2 := ⟨⟨hc_tb_4 24 (by rfl) rfl, hc_tb_1 7 (by rfl) rfl, hc_tb_4 22 (by rfl) rfl, by decide +kernel, by decide⟩, hc_tb_4 23 (by rfl) rfl⟩
set_option maxRecDepth 100000 in
theorem ms_X1_56 : hc_MS RX1 56 yX4_isKind cX4_isKind 1 (some .boolean) 1 := ⟨⟨hc_tb_4 0 (by rfl) rfl, hc_tb_1 10 (by rfl) rfl, hc_tb_4 25 (by rfl) rfl, by decide +kernel, by decide⟩, hc_tb_3 239 (by rfl) rfl⟩
set_option maxRecDepth 100000 in
theorem sl_X1_60 : Cond.fieldLink RX1 60 "HeedClock$Asks" "SIZE_BODIES" "[I" ∈ hc_tb := hc_tb_4 26 (by rfl) rfl
set_option maxRecDepth 100000 in
theorem sl_X1_63 : Cond.fieldLink RX1 63 "HeedClock$Asks" "MARK_BODIES" "[I" ∈ hc_tb := hc_tb_4 28 (by rfl) rfl
set_option maxRecDepth 100000 in
theorem ms_X1_47 : hc_MS RX1 47 yX4_nearest cX4_nearest 1 (some .int) 1 := ⟨⟨hc_tb_4 6 (by rfl) rfl, hc_tb_1 10 (by rfl) rfl, hc_tb_4 30 (by rfl) rfl, by decide +kernel, by decide⟩, hc_tb_4 5 (by rfl) rfl⟩
set_option maxRecDepth 100000 in
theorem mv_X1_53 : hc_MV RX1 53 yX1_run cX1_run 4 (some .int) 2 := ⟨⟨hc_tb_4 34 (by rfl) rfl, hc_tb_1 7 (by rfl) rfl, hc_tb_4 31 (by rfl) rfl, by decide +kernel, by decide⟩, hc_tb_4 33 (by rfl) rfl, hc_tb_of 21 (by decide +kernel) rfl⟩
set_option maxRecDepth 100000 in
theorem mv_X1_66 : hc_MV RX1 66 yX1_leaveTrace cX1_leaveTrace 2 none 1 := ⟨⟨hc_tb_4 38 (by rfl) rfl, hc_tb_1 7 (by rfl) rfl, hc_tb_4 35 (by rfl) rfl, by decide +kernel, by decide⟩, hc_tb_4 37 (by rfl) rfl, hc_tb_of 22 (by decide +kernel) rfl⟩
set_option maxRecDepth 100000 in
theorem mv_L_139 : hc_MV RL 139 yX7_trace cX7_trace 2 (some .int) 1 := ⟨⟨hc_tb_4 42 (by rfl) rfl, hc_tb_1 1 (by rfl) rfl, hc_tb_4 39 (by rfl) rfl, by decide +kernel, by decide⟩, hc_tb_4 40 (by rfl) rfl, hc_tb_4 41 (by rfl) rfl⟩
set_option maxRecDepth 100000 in
theorem mv_L_143 : hc_MV RL 143 yX7_count cX7_count 2 (some .int) 1 := ⟨⟨hc_tb_4 46 (by rfl) rfl, hc_tb_1 1 (by rfl) rfl, hc_tb_4 43 (by rfl) rfl, by decide +kernel, by decide⟩, hc_tb_4 44 (by rfl) rfl, hc_tb_4 45 (by rfl) rfl⟩
set_option maxRecDepth 100000 in
theorem mv_X7_283 : hc_MV RX7 283 yX5_present cX5_present 3 (some .int) 0 := ⟨⟨hc_tb_4 50 (by rfl) rfl, hc_tb_1 2 (by rfl) rfl, hc_tb_4 47 (by rfl) rfl, by decide +kernel, by decide⟩, hc_tb_4 48 (by rfl) rfl, hc_tb_4 49 (by rfl) rfl⟩
set_option maxRecDepth 100000 in
theorem mv_X7_289 : hc_MV RX7 289 yX3_inClockRoom cX3_inClockRoom 3 (some .int) 0 := ⟨⟨hc_tb_2 197 (by rfl) rfl, hc_tb_1 5 (by rfl) rfl, hc_tb_4 51 (by rfl) rfl, by decide +kernel, by decide⟩, hc_tb_2 195 (by rfl) rfl, hc_tb_2 196 (by rfl) rfl⟩
set_option maxRecDepth 100000 in
theorem mv_L_147 : hc_MV RL 147 yX7_status cX7_status 1 (some .int) 0 := ⟨⟨hc_tb_4 55 (by rfl) rfl, hc_tb_1 1 (by rfl) rfl, hc_tb_4 52 (by rfl) rfl, by decide +kernel, by decide⟩, hc_tb_4 53 (by rfl) rfl, hc_tb_4 54 (by rfl) rfl⟩
set_option maxRecDepth 100000 in
theorem kc_X8_50 : Cond.constant RX8 50 (-1000000) ∈ hc_tb := hc_tb_4 62 (by rfl) rfl
set_option maxRecDepth 100000 in
theorem fl_X8_7 : hc_FL RX8 7 6 0 := ⟨(RX8, TX8, 23), rfl, by decide, hin_X8, hc_tb_4 63 (by rfl) rfl⟩
set_option maxRecDepth 100000 in
theorem fl_X8_13 : hc_FL RX8 13 6 1 := ⟨(RX8, TX8, 23), rfl, by decide, hin_X8, hc_tb_4 64 (by rfl) rfl⟩
set_option maxRecDepth 100000 in
theorem fl_X8_16 : hc_FL RX8 16 6 2 := ⟨(RX8, TX8, 23), rfl, by decide, hin_X8, hc_tb_4 65 (by rfl) rfl⟩
set_option maxRecDepth 100000 in
theorem fl_X8_19 : hc_FL RX8 19 6 3 := ⟨(RX8, TX8, 23), rfl, by decide, hin_X8, hc_tb_4 66 (by rfl) rfl⟩
set_option maxRecDepth 100000 in
theorem fl_X8_51 : hc_FL RX8 51 6 4 := ⟨(RX8, TX8, 23), rfl, by decide, hin_X8, hc_tb_4 67 (by rfl) rfl⟩
theorem pl_6_4 : hc_PL 6 4 .int := ⟨(RX8, TX8, 23), tyX8, rfl, tyX8_ok, nmX8, rfl, by decide +kernel⟩
set_option maxRecDepth 100000 in
theorem fl_X8_22 : hc_FL RX8 22 6 5 := ⟨(RX8, TX8, 23), rfl, by decide, hin_X8, hc_tb_4 68 (by rfl) rfl⟩
set_option maxRecDepth 100000 in
theorem fl_X8_82 : hc_FL RX8 82 6 6 := ⟨(RX8, TX8, 23), rfl, by decide, hin_X8, hc_tb_4 69 (by rfl) rfl⟩
theorem pl_6_6 : hc_PL 6 6 .int := ⟨(RX8, TX8, 23), tyX8, rfl, tyX8_ok, nmX8, rfl, by decide +kernel⟩
set_option maxRecDepth 100000 in
theorem fl_X8_108 : hc_FL RX8 108 6 7 := ⟨(RX8, TX8, 23), rfl, by decide, hin_X8, hc_tb_4 70 (by rfl) rfl⟩
theorem pl_6_7 : hc_PL 6 7 .int := ⟨(RX8, TX8, 23), tyX8, rfl, tyX8_ok, nmX8, rfl, by decide +kernel⟩
set_option maxRecDepth 100000 in
theorem fl_X8_101 : hc_FL RX8 101 6 8 := ⟨(RX8, TX8, 23), rfl, by decide, hin_X8, hc_tb_4 71 (by rfl) rfl⟩
theorem pl_6_8 : hc_PL 6 8 .int := ⟨(RX8, TX8, 23), tyX8, rfl, tyX8_ok, nmX8, rfl, by decide +kernel⟩
set_option maxRecDepth 100000 in
theorem fl_X8_86 : hc_FL RX8 86 6 9 := ⟨(RX8, TX8, 23), rfl, by decide, hin_X8, hc_tb_4 72 (by rfl) rfl⟩
theorem pl_6_9 : hc_PL 6 9 .int := ⟨(RX8, TX8, 23), tyX8, rfl, tyX8_ok, nmX8, rfl, by decide +kernel⟩
set_option maxRecDepth 100000 in
theorem fl_X8_89 : hc_FL RX8 89 6 10 := ⟨(RX8, TX8, 23), rfl, by decide, hin_X8, hc_tb_4 73 (by rfl) rfl⟩
theorem pl_6_10 : hc_PL 6 10 .int := ⟨(RX8, TX8, 23), tyX8, rfl, tyX8_ok, nmX8, rfl, by decide +kernel⟩
set_option maxRecDepth 100000 in
theorem fl_X8_98 : hc_FL RX8 98 6 11 := ⟨(RX8, TX8, 23), rfl, by decide, hin_X8, hc_tb_4 74 (by rfl) rfl⟩
theorem pl_6_11 : hc_PL 6 11 .int := ⟨(RX8, TX8, 23), tyX8, rfl, tyX8_ok, nmX8, rfl, by decide +kernel⟩
set_option maxRecDepth 100000 in
theorem fl_X8_95 : hc_FL RX8 95 6 12 := ⟨(RX8, TX8, 23), rfl, by decide, hin_X8, hc_tb_4 75 (by rfl) rfl⟩
theorem pl_6_12 : hc_PL 6 12 .int := ⟨(RX8, TX8, 23), tyX8, rfl, tyX8_ok, nmX8, rfl, by decide +kernel⟩
set_option maxRecDepth 100000 in
theorem fl_X8_25 : hc_FL RX8 25 6 13 := ⟨(RX8, TX8, 23), rfl, by decide, hin_X8, hc_tb_4 76 (by rfl) rfl⟩
set_option maxRecDepth 100000 in
theorem fl_X8_28 : hc_FL RX8 28 6 14 := ⟨(RX8, TX8, 23), rfl, by decide, hin_X8, hc_tb_4 77 (by rfl) rfl⟩
set_option maxRecDepth 100000 in
theorem fl_X8_31 : hc_FL RX8 31 6 15 := ⟨(RX8, TX8, 23), rfl, by decide, hin_X8, hc_tb_4 78 (by rfl) rfl⟩
set_option maxRecDepth 100000 in
theorem fl_X8_138 : hc_FL RX8 138 6 16 := ⟨(RX8, TX8, 23), rfl, by decide, hin_X8, hc_tb_4 79 (by rfl) rfl⟩
theorem pl_6_16 : hc_PL 6 16 .int := ⟨(RX8, TX8, 23), tyX8, rfl, tyX8_ok, nmX8, rfl, by decide +kernel⟩
set_option maxRecDepth 100000 in
theorem fl_X8_34 : hc_FL RX8 34 6 17 := ⟨(RX8, TX8, 23), rfl, by decide, hin_X8, hc_tb_4 80 (by rfl) rfl⟩
set_option maxRecDepth 100000 in
theorem fl_X8_37 : hc_FL RX8 37 6 18 := ⟨(RX8, TX8, 23), rfl, by decide, hin_X8, hc_tb_4 81 (by rfl) rfl⟩
set_option maxRecDepth 100000 in
theorem fl_X8_41 : hc_FL RX8 41 6 19 := ⟨(RX8, TX8, 23), rfl, by decide, hin_X8, hc_tb_4 82 (by rfl) rfl⟩
set_option maxRecDepth 100000 in
theorem fl_X8_44 : hc_FL RX8 44 6 20 := ⟨(RX8, TX8, 23), rfl, by decide, hin_X8, hc_tb_4 83 (by rfl) rfl⟩
set_option maxRecDepth 100000 in
theorem fl_X8_47 : hc_FL RX8 47 6 21 := ⟨(RX8, TX8, 23), rfl, by decide, hin_X8, hc_tb_4 84 (by rfl) rfl⟩
set_option maxRecDepth 100000 in
theorem fl_X8_209 : hc_FL RX8 209 6 22 := ⟨(RX8, TX8, 23), rfl, by decide, hin_X8, hc_tb_4 85 (by rfl) rfl⟩
theorem pl_6_22 : hc_PL 6 22 .int := ⟨(RX8, TX8, 23), tyX8, rfl, tyX8_ok, nmX8, rfl, by decide +kernel⟩
set_option maxRecDepth 100000 in
theorem mv_L_17 : hc_MV RL 17 yX8_row cX8_row 5 (some .int) 3 := ⟨⟨hc_tb_4 137 (by rfl) rfl, hc_tb_1 8 (by rfl) rfl, hc_tb_4 134 (by rfl) rfl, by decide +kernel, by decide⟩, hc_tb_4 135 (by rfl) rfl, hc_tb_4 136 (by rfl) rfl⟩
set_option maxRecDepth 100000 in
theorem ms_X8_60 : hc_MS RX8 60 yX8_isRow cX8_isRow 1 (some .boolean) 1 := ⟨⟨hc_tb_4 140 (by rfl) rfl, hc_tb_1 8 (by rfl) rfl, hc_tb_4 138 (by rfl) rfl, by decide +kernel, by decide⟩, hc_tb_4 139 (by rfl) rfl⟩
set_option maxRecDepth 100000 in
theorem ms_X8_56 : hc_MS RX8 56 yX8_in cX8_in 3 (some .boolean) 3 := ⟨⟨hc_tb_4 143 (by rfl) rfl, hc_tb_1 8 (by rfl) rfl, hc_tb_4 141 (by rfl) rfl, by decide +kernel, by decide⟩, hc_tb_4 142 (by rfl) rfl⟩
set_option maxRecDepth 100000 in
theorem kc_X8_64 : Cond.constant RX8 64 (-1000001) ∈ hc_tb := hc_tb_4 144 (by rfl) rfl
set_option maxRecDepth 100000 in
theorem mv_X8_65 : hc_MV RX8 65 yX8_found cX8_found 2 (some .int) 1 := ⟨⟨hc_tb_4 148 (by rfl) rfl, hc_tb_1 8 (by rfl) rfl, hc_tb_4 145 (by rfl) rfl, by decide +kernel, by decide⟩, hc_tb_4 147 (by rfl) rfl, hc_tb_of 23 (by decide +kernel) rfl⟩
set_option maxRecDepth 100000 in
theorem kc_X8_55 : Cond.constant RX8 55 (-1000010) ∈ hc_tb := hc_tb_4 149 (by rfl) rfl
set_option maxRecDepth 100000 in
theorem mv_X8_69 : hc_MV RX8 69 yX8_well cX8_well 2 (some .int) 1 := ⟨⟨hc_tb_4 153 (by rfl) rfl, hc_tb_1 8 (by rfl) rfl, hc_tb_4 150 (by rfl) rfl, by decide +kernel, by decide⟩, hc_tb_4 152 (by rfl) rfl, hc_tb_of 24 (by decide +kernel) rfl⟩
set_option maxRecDepth 100000 in
theorem mv_L_21 : hc_MV RL 21 yX8_set cX8_set 4 (some .int) 3 := ⟨⟨hc_tb_4 157 (by rfl) rfl, hc_tb_1 8 (by rfl) rfl, hc_tb_4 154 (by rfl) rfl, by decide +kernel, by decide⟩, hc_tb_4 155 (by rfl) rfl, hc_tb_4 156 (by rfl) rfl⟩
set_option maxRecDepth 100000 in
theorem mv_X8_72 : hc_MV RX8 72 yX8_isMissing cX8_isMissing 2 (some .boolean) 1 := ⟨⟨hc_tb_4 161 (by rfl) rfl, hc_tb_1 8 (by rfl) rfl, hc_tb_4 158 (by rfl) rfl, by decide +kernel, by decide⟩, hc_tb_4 160 (by rfl) rfl, hc_tb_of 25 (by decide +kernel) rfl⟩
set_option maxRecDepth 100000 in
theorem ms_X8_75 : hc_MS RX8 75 yX8_cut cX8_cut 2 (some .int) 2 := ⟨⟨hc_tb_4 164 (by rfl) rfl, hc_tb_1 8 (by rfl) rfl, hc_tb_4 162 (by rfl) rfl, by decide +kernel, by decide⟩, hc_tb_4 163 (by rfl) rfl⟩
set_option maxRecDepth 100000 in
theorem mv_L_26 : hc_MV RL 26 yX8_copy cX8_copy 7 (some .int) 5 := ⟨⟨hc_tb_4 168 (by rfl) rfl, hc_tb_1 8 (by rfl) rfl, hc_tb_4 165 (by rfl) rfl, by decide +kernel, by decide⟩, hc_tb_4 166 (by rfl) rfl, hc_tb_4 167 (by rfl) rfl⟩
set_option maxRecDepth 100000 in
theorem mv_X8_79 : hc_MV RX8 79 yX8_isPart cX8_isPart 4 (some .boolean) 3 := ⟨⟨hc_tb_4 172 (by rfl) rfl, hc_tb_1 8 (by rfl) rfl, hc_tb_4 169 (by rfl) rfl, by decide +kernel, by decide⟩, hc_tb_4 171 (by rfl) rfl, hc_tb_of 26 (by decide +kernel) rfl⟩
set_option maxRecDepth 100000 in
theorem mv_L_31 : hc_MV RL 31 yX8_drop cX8_drop 2 (some .int) 1 := ⟨⟨hc_tb_4 176 (by rfl) rfl, hc_tb_1 8 (by rfl) rfl, hc_tb_4 173 (by rfl) rfl, by decide +kernel, by decide⟩, hc_tb_4 174 (by rfl) rfl, hc_tb_4 175 (by rfl) rfl⟩
set_option maxRecDepth 100000 in
theorem mv_L_35 : hc_MV RL 35 yX8_feed cX8_feed 2 (some .int) 1 := ⟨⟨hc_tb_4 180 (by rfl) rfl, hc_tb_1 8 (by rfl) rfl, hc_tb_4 177 (by rfl) rfl, by decide +kernel, by decide⟩, hc_tb_4 178 (by rfl) rfl, hc_tb_4 179 (by rfl) rfl⟩
set_option maxRecDepth 100000 in
theorem kc_X8_85 : Cond.constant RX8 85 (-1000003) ∈ hc_tb := hc_tb_4 181 (by rfl) rfl
set_option maxRecDepth 100000 in
theorem mv_L_40 : hc_MV RL 40 yX8_house cX8_house 2 (some .int) 0 := ⟨⟨hc_tb_4 185 (by rfl) rfl, hc_tb_1 8 (by rfl) rfl, hc_tb_4 182 (by rfl) rfl, by decide +kernel, by decide⟩, hc_tb_4 183 (by rfl) rfl, hc_tb_4 184 (by rfl) rfl⟩
set_option maxRecDepth 100000 in
theorem mv_X8_111 : hc_MV RX8 111 yX8_advances cX8_advances 2 none 0 := ⟨⟨hc_tb_4 189 (by rfl) rfl, hc_tb_1 8 (by rfl) rfl, hc_tb_4 186 (by rfl) rfl, by decide +kernel, by decide⟩, hc_tb_4 188 (by rfl) rfl, hc_tb_of 27 (by decide +kernel) rfl⟩
set_option maxRecDepth 100000 in
theorem mv_X8_92 : hc_MV RX8 92 yX8_byteAt cX8_byteAt 2 (some .int) 1 := ⟨⟨hc_tb_4 193 (by rfl) rfl, hc_tb_1 8 (by rfl) rfl, hc_tb_4 190 (by rfl) rfl, by decide +kernel, by decide⟩, hc_tb_4 192 (by rfl) rfl, hc_tb_of 28 (by decide +kernel) rfl⟩
set_option maxRecDepth 100000 in
theorem mv_X8_114 : hc_MV RX8 114 yX8_takes cX8_takes 4 (some .int) 2 := ⟨⟨hc_tb_4 197 (by rfl) rfl, hc_tb_1 8 (by rfl) rfl, hc_tb_4 194 (by rfl) rfl, by decide +kernel, by decide⟩, hc_tb_4 196 (by rfl) rfl, hc_tb_of 29 (by decide +kernel) rfl⟩
set_option maxRecDepth 100000 in
theorem mv_X8_104 : hc_MV RX8 104 yX8_isWell cX8_isWell 1 (some .boolean) 0 := ⟨⟨hc_tb_4 201 (by rfl) rfl, hc_tb_1 8 (by rfl) rfl, hc_tb_4 198 (by rfl) rfl, by decide +kernel, by decide⟩, hc_tb_4 200 (by rfl) rfl, hc_tb_of 30 (by decide +kernel) rfl⟩
set_option maxRecDepth 100000 in
theorem mv_X8_118 : hc_MV RX8 118 yX8_figure cX8_figure 3 (some .int) 2 := ⟨⟨hc_tb_4 205 (by rfl) rfl, hc_tb_1 8 (by rfl) rfl, hc_tb_4 202 (by rfl) rfl, by decide +kernel, by decide⟩, hc_tb_4 204 (by rfl) rfl, hc_tb_of 31 (by decide +kernel) rfl⟩
set_option maxRecDepth 100000 in
theorem ms_X8_121 : hc_MS RX8 121 yX8_kindOf cX8_kindOf 1 (some .int) 1 := ⟨⟨hc_tb_4 208 (by rfl) rfl, hc_tb_1 8 (by rfl) rfl, hc_tb_4 206 (by rfl) rfl, by decide +kernel, by decide⟩, hc_tb_4 207 (by rfl) rfl⟩
set_option maxRecDepth 100000 in
theorem mv_X8_127 : hc_MV RX8 127 yX8_readsEar cX8_readsEar 7 none 0 := ⟨⟨hc_tb_4 212 (by rfl) rfl, hc_tb_1 8 (by rfl) rfl, hc_tb_4 209 (by rfl) rfl, by decide +kernel, by decide⟩, hc_tb_4 211 (by rfl) rfl, hc_tb_of 32 (by decide +kernel) rfl⟩
set_option maxRecDepth 100000 in
theorem mv_X8_124 : hc_MV RX8 124 yX8_next cX8_next 3 (some .int) 2 := ⟨⟨hc_tb_4 216 (by rfl) rfl, hc_tb_1 8 (by rfl) rfl, hc_tb_4 213 (by rfl) rfl, by decide +kernel, by decide⟩, hc_tb_4 215 (by rfl) rfl, hc_tb_of 33 (by decide +kernel) rfl⟩
set_option maxRecDepth 100000 in
theorem mv_X8_130 : hc_MV RX8 130 yX8_readsDoing cX8_readsDoing 5 none 0 := ⟨⟨hc_tb_4 220 (by rfl) rfl, hc_tb_1 8 (by rfl) rfl, hc_tb_4 217 (by rfl) rfl, by decide +kernel, by decide⟩, hc_tb_4 219 (by rfl) rfl, hc_tb_of 34 (by decide +kernel) rfl⟩
set_option maxRecDepth 100000 in
theorem kc_X8_133 : Cond.constant RX8 133 (-1000100) ∈ hc_tb := hc_tb_4 221 (by rfl) rfl
set_option maxRecDepth 100000 in
theorem ms_X8_134 : hc_MS RX8 134 yX8_copies cX8_copies 5 none 4 := ⟨⟨hc_tb_4 224 (by rfl) rfl, hc_tb_1 8 (by rfl) rfl, hc_tb_4 222 (by rfl) rfl, by decide +kernel, by decide⟩, hc_tb_4 223 (by rfl) rfl⟩
set_option maxRecDepth 100000 in
theorem mv_L_44 : hc_MV RL 44 yX8_fault cX8_fault 1 (some .int) 0 := ⟨⟨hc_tb_4 228 (by rfl) rfl, hc_tb_1 8 (by rfl) rfl, hc_tb_4 225 (by rfl) rfl, by decide +kernel, by decide⟩, hc_tb_4 226 (by rfl) rfl, hc_tb_4 227 (by rfl) rfl⟩
set_option maxRecDepth 100000 in
theorem mv_L_48 : hc_MV RL 48 yX8_quarters cX8_quarters 3 (some .int) 1 := ⟨⟨hc_tb_4 232 (by rfl) rfl, hc_tb_1 8 (by rfl) rfl, hc_tb_4 229 (by rfl) rfl, by decide +kernel, by decide⟩, hc_tb_4 230 (by rfl) rfl, hc_tb_4 231 (by rfl) rfl⟩
set_option maxRecDepth 100000 in
theorem mv_X8_171 : hc_MV RX8 171 yX8_isHouse cX8_isHouse 1 (some .boolean) 0 := ⟨⟨hc_tb_4 236 (by rfl) rfl, hc_tb_1 8 (by rfl) rfl, hc_tb_4 233 (by rfl) rfl, by decide +kernel, by decide⟩, hc_tb_4 235 (by rfl) rfl, hc_tb_of 35 (by decide +kernel) rfl⟩
set_option maxRecDepth 100000 in
theorem kc_X8_174 : Cond.constant RX8 174 (-1000002) ∈ hc_tb := hc_tb_4 237 (by rfl) rfl
set_option maxRecDepth 100000 in
theorem mv_X8_175 : hc_MV RX8 175 yX8_notes cX8_notes 2 none 0 := ⟨⟨hc_tb_5 1 (by rfl) rfl, hc_tb_1 8 (by rfl) rfl, hc_tb_4 238 (by rfl) rfl, by decide +kernel, by decide⟩, hc_tb_5 0 (by rfl) rfl, hc_tb_of 36 (by decide +kernel) rfl⟩
set_option maxRecDepth 100000 in
theorem ms_X8_167 : hc_MS RX8 167 yX8_passes cX8_passes 5 none 1 := ⟨⟨hc_tb_5 4 (by rfl) rfl, hc_tb_1 8 (by rfl) rfl, hc_tb_5 2 (by rfl) rfl, by decide +kernel, by decide⟩, hc_tb_5 3 (by rfl) rfl⟩
set_option maxRecDepth 100000 in
theorem ms_X8_164 : hc_MS RX8 164 yX8_goes cX8_goes 1 (some .int) 1 := ⟨⟨hc_tb_5 7 (by rfl) rfl, hc_tb_1 8 (by rfl) rfl, hc_tb_5 5 (by rfl) rfl, by decide +kernel, by decide⟩, hc_tb_5 6 (by rfl) rfl⟩
set_option maxRecDepth 100000 in
theorem ms_X8_157 : hc_MS RX8 157 yX8_listening cX8_listening 3 (some .int) 1 := ⟨⟨hc_tb_5 10 (by rfl) rfl, hc_tb_1 8 (by rfl) rfl, hc_tb_5 8 (by rfl) rfl, by decide +kernel, by decide⟩, hc_tb_5 9 (by rfl) rfl⟩
set_option maxRecDepth 100000 in
theorem ms_X8_141 : hc_MS RX8 141 yX8_listens cX8_listens 3 (some .boolean) 2 := ⟨⟨hc_tb_5 13 (by rfl) rfl, hc_tb_1 8 (by rfl) rfl, hc_tb_5 11 (by rfl) rfl, by decide +kernel, by decide⟩, hc_tb_5 12 (by rfl) rfl⟩
set_option maxRecDepth 100000 in
theorem ms_X8_161 : hc_MS RX8 161 yX8_goesBy cX8_goesBy 3 (some .int) 2 := ⟨⟨hc_tb_5 16 (by rfl) rfl, hc_tb_1 8 (by rfl) rfl, hc_tb_5 14 (by rfl) rfl, by decide +kernel, by decide⟩, hc_tb_5 15 (by rfl) rfl⟩
set_option maxRecDepth 100000 in
theorem ms_X8_153 : hc_MS RX8 153 yX8_given cX8_given 5 (some .int) 3 := ⟨⟨hc_tb_5 19 (by rfl) rfl, hc_tb_1 8 (by rfl) rfl, hc_tb_5 17 (by rfl) rfl, by decide +kernel, by decide⟩, hc_tb_5 18 (by rfl) rfl⟩
set_option maxRecDepth 100000 in
theorem ms_X8_145 : hc_MS RX8 145 yX8_has cX8_has 2 (some .boolean) 2 := ⟨⟨hc_tb_5 22 (by rfl) rfl, hc_tb_1 8 (by rfl) rfl, hc_tb_5 20 (by rfl) rfl, by decide +kernel, by decide⟩, hc_tb_5 21 (by rfl) rfl⟩
set_option maxRecDepth 100000 in
theorem ms_X8_149 : hc_MS RX8 149 yX8_heedOf cX8_heedOf 4 (some .int) 2 := ⟨⟨hc_tb_5 25 (by rfl) rfl, hc_tb_1 8 (by rfl) rfl, hc_tb_5 23 (by rfl) rfl, by decide +kernel, by decide⟩, hc_tb_5 24 (by rfl) rfl⟩
set_option maxRecDepth 100000 in
theorem mv_L_53 : hc_MV RL 53 yX8_go cX8_go 4 (some .int) 2 := ⟨⟨hc_tb_5 29 (by rfl) rfl, hc_tb_1 8 (by rfl) rfl, hc_tb_5 26 (by rfl) rfl, by decide +kernel, by decide⟩, hc_tb_5 27 (by rfl) rfl, hc_tb_5 28 (by rfl) rfl⟩
set_option maxRecDepth 100000 in
theorem mv_X8_178 : hc_MV RX8 178 yX8_isEar cX8_isEar 2 (some .boolean) 1 := ⟨⟨hc_tb_5 33 (by rfl) rfl, hc_tb_1 8 (by rfl) rfl, hc_tb_5 30 (by rfl) rfl, by decide +kernel, by decide⟩, hc_tb_5 32 (by rfl) rfl, hc_tb_of 37 (by decide +kernel) rfl⟩
set_option maxRecDepth 100000 in
theorem mv_L_57 : hc_MV RL 57 yX8_hush cX8_hush 3 (some .int) 2 := ⟨⟨hc_tb_5 37 (by rfl) rfl, hc_tb_1 8 (by rfl) rfl, hc_tb_5 34 (by rfl) rfl, by decide +kernel, by decide⟩, hc_tb_5 35 (by rfl) rfl, hc_tb_5 36 (by rfl) rfl⟩
set_option maxRecDepth 100000 in
theorem mv_X8_181 : hc_MV RX8 181 yX8_hushed cX8_hushed 3 (some .int) 0 := ⟨⟨hc_tb_5 41 (by rfl) rfl, hc_tb_1 8 (by rfl) rfl, hc_tb_5 38 (by rfl) rfl, by decide +kernel, by decide⟩, hc_tb_5 40 (by rfl) rfl, hc_tb_of 38 (by decide +kernel) rfl⟩
set_option maxRecDepth 100000 in
theorem mv_L_61 : hc_MV RL 61 yX8_wool cX8_wool 3 (some .int) 1 := ⟨⟨hc_tb_5 45 (by rfl) rfl, hc_tb_1 8 (by rfl) rfl, hc_tb_5 42 (by rfl) rfl, by decide +kernel, by decide⟩, hc_tb_5 43 (by rfl) rfl, hc_tb_5 44 (by rfl) rfl⟩
set_option maxRecDepth 100000 in
theorem mv_L_65 : hc_MV RL 65 yX8_undo cX8_undo 1 (some .int) 0 := ⟨⟨hc_tb_5 49 (by rfl) rfl, hc_tb_1 8 (by rfl) rfl, hc_tb_5 46 (by rfl) rfl, by decide +kernel, by decide⟩, hc_tb_5 47 (by rfl) rfl, hc_tb_5 48 (by rfl) rfl⟩
set_option maxRecDepth 100000 in
theorem mv_L_69 : hc_MV RL 69 yX8_ear cX8_ear 4 (some .int) 2 := ⟨⟨hc_tb_5 53 (by rfl) rfl, hc_tb_1 8 (by rfl) rfl, hc_tb_5 50 (by rfl) rfl, by decide +kernel, by decide⟩, hc_tb_5 51 (by rfl) rfl, hc_tb_5 52 (by rfl) rfl⟩
set_option maxRecDepth 100000 in
theorem mv_X8_185 : hc_MV RX8 185 yX8_givesNow cX8_givesNow 3 (some .int) 1 := ⟨⟨hc_tb_5 57 (by rfl) rfl, hc_tb_1 8 (by rfl) rfl, hc_tb_5 54 (by rfl) rfl, by decide +kernel, by decide⟩, hc_tb_5 56 (by rfl) rfl, hc_tb_of 39 (by decide +kernel) rfl⟩
set_option maxRecDepth 100000 in
theorem mv_L_73 : hc_MV RL 73 yX8_clock cX8_clock 2 (some .int) 1 := ⟨⟨hc_tb_5 61 (by rfl) rfl, hc_tb_1 8 (by rfl) rfl, hc_tb_5 58 (by rfl) rfl, by decide +kernel, by decide⟩, hc_tb_5 59 (by rfl) rfl, hc_tb_5 60 (by rfl) rfl⟩
set_option maxRecDepth 100000 in
theorem mv_L_77 : hc_MV RL 77 yX8_ahead cX8_ahead 2 (some .int) 1 := ⟨⟨hc_tb_5 65 (by rfl) rfl, hc_tb_1 8 (by rfl) rfl, hc_tb_5 62 (by rfl) rfl, by decide +kernel, by decide⟩, hc_tb_5 63 (by rfl) rfl, hc_tb_5 64 (by rfl) rfl⟩
set_option maxRecDepth 100000 in
theorem mv_X8_188 : hc_MV RX8 188 yX8_partsIn cX8_partsIn 3 (some .int) 1 := ⟨⟨hc_tb_5 69 (by rfl) rfl, hc_tb_1 8 (by rfl) rfl, hc_tb_5 66 (by rfl) rfl, by decide +kernel, by decide⟩, hc_tb_5 68 (by rfl) rfl, hc_tb_of 40 (by decide +kernel) rfl⟩
set_option maxRecDepth 100000 in
theorem mv_L_81 : hc_MV RL 81 yX8_whenShows cX8_whenShows 3 (some .int) 1 := ⟨⟨hc_tb_5 73 (by rfl) rfl, hc_tb_1 8 (by rfl) rfl, hc_tb_5 70 (by rfl) rfl, by decide +kernel, by decide⟩, hc_tb_5 71 (by rfl) rfl, hc_tb_5 72 (by rfl) rfl⟩
set_option maxRecDepth 100000 in
theorem mv_X8_191 : hc_MV RX8 191 yX8_lays cX8_lays 2 none 0 := ⟨⟨hc_tb_5 77 (by rfl) rfl, hc_tb_1 8 (by rfl) rfl, hc_tb_5 74 (by rfl) rfl, by decide +kernel, by decide⟩, hc_tb_5 76 (by rfl) rfl, hc_tb_of 41 (by decide +kernel) rfl⟩
set_option maxRecDepth 100000 in
theorem mv_L_85 : hc_MV RL 85 yX8_done cX8_done 2 (some .int) 1 := ⟨⟨hc_tb_5 81 (by rfl) rfl, hc_tb_1 8 (by rfl) rfl, hc_tb_5 78 (by rfl) rfl, by decide +kernel, by decide⟩, hc_tb_5 79 (by rfl) rfl, hc_tb_5 80 (by rfl) rfl⟩
set_option maxRecDepth 100000 in
theorem mv_X8_194 : hc_MV RX8 194 yX8_isDoing cX8_isDoing 2 (some .boolean) 1 := ⟨⟨hc_tb_5 85 (by rfl) rfl, hc_tb_1 8 (by rfl) rfl, hc_tb_5 82 (by rfl) rfl, by decide +kernel, by decide⟩, hc_tb_5 84 (by rfl) rfl, hc_tb_of 42 (by decide +kernel) rfl⟩
set_option maxRecDepth 100000 in
theorem mv_L_89 : hc_MV RL 89 yX8_late cX8_late 4 (some .int) 0 := ⟨⟨hc_tb_5 89 (by rfl) rfl, hc_tb_1 8 (by rfl) rfl, hc_tb_5 86 (by rfl) rfl, by decide +kernel, by decide⟩, hc_tb_5 87 (by rfl) rfl, hc_tb_5 88 (by rfl) rfl⟩
set_option maxRecDepth 100000 in
theorem mv_L_93 : hc_MV RL 93 yX8_latest cX8_latest 6 (some .int) 1 := ⟨⟨hc_tb_5 93 (by rfl) rfl, hc_tb_1 8 (by rfl) rfl, hc_tb_5 90 (by rfl) rfl, by decide +kernel, by decide⟩, hc_tb_5 91 (by rfl) rfl, hc_tb_5 92 (by rfl) rfl⟩
set_option maxRecDepth 100000 in
theorem mv_L_97 : hc_MV RL 97 yX8_toHush cX8_toHush 8 (some .int) 3 := ⟨⟨hc_tb_5 97 (by rfl) rfl, hc_tb_1 8 (by rfl) rfl, hc_tb_5 94 (by rfl) rfl, by decide +kernel, by decide⟩, hc_tb_5 95 (by rfl) rfl, hc_tb_5 96 (by rfl) rfl⟩
set_option maxRecDepth 100000 in
theorem ms_X8_197 : hc_MS RX8 197 yX8_ones cX8_ones 3 (some .int) 1 := ⟨⟨hc_tb_5 100 (by rfl) rfl, hc_tb_1 8 (by rfl) rfl, hc_tb_5 98 (by rfl) rfl, by decide +kernel, by decide⟩, hc_tb_5 99 (by rfl) rfl⟩
set_option maxRecDepth 100000 in
theorem mv_X8_200 : hc_MV RX8 200 yX8_told cX8_told 3 (some .int) 2 := ⟨⟨hc_tb_5 104 (by rfl) rfl, hc_tb_1 8 (by rfl) rfl, hc_tb_5 101 (by rfl) rfl, by decide +kernel, by decide⟩, hc_tb_5 103 (by rfl) rfl, hc_tb_of 43 (by decide +kernel) rfl⟩
set_option maxRecDepth 100000 in
theorem mv_L_101 : hc_MV RL 101 yX8_toCall cX8_toCall 7 (some .int) 3 := ⟨⟨hc_tb_5 108 (by rfl) rfl, hc_tb_1 8 (by rfl) rfl, hc_tb_5 105 (by rfl) rfl, by decide +kernel, by decide⟩, hc_tb_5 106 (by rfl) rfl, hc_tb_5 107 (by rfl) rfl⟩
set_option maxRecDepth 100000 in
theorem mv_L_106 : hc_MV RL 106 yX8_who cX8_who 9 (some .int) 4 := ⟨⟨hc_tb_5 112 (by rfl) rfl, hc_tb_1 8 (by rfl) rfl, hc_tb_5 109 (by rfl) rfl, by decide +kernel, by decide⟩, hc_tb_5 110 (by rfl) rfl, hc_tb_5 111 (by rfl) rfl⟩
set_option maxRecDepth 100000 in
theorem mv_X8_203 : hc_MV RX8 203 yX8_goesSo cX8_goesSo 5 (some .boolean) 2 := ⟨⟨hc_tb_5 116 (by rfl) rfl, hc_tb_1 8 (by rfl) rfl, hc_tb_5 113 (by rfl) rfl, by decide +kernel, by decide⟩, hc_tb_5 115 (by rfl) rfl, hc_tb_of 44 (by decide +kernel) rfl⟩
set_option maxRecDepth 100000 in
theorem mv_L_110 : hc_MV RL 110 yX8_heed cX8_heed 7 (some .int) 4 := ⟨⟨hc_tb_5 120 (by rfl) rfl, hc_tb_1 8 (by rfl) rfl, hc_tb_5 117 (by rfl) rfl, by decide +kernel, by decide⟩, hc_tb_5 118 (by rfl) rfl, hc_tb_5 119 (by rfl) rfl⟩
set_option maxRecDepth 100000 in
theorem mv_L_114 : hc_MV RL 114 yX8_older cX8_older 4 (some .int) 3 := ⟨⟨hc_tb_5 124 (by rfl) rfl, hc_tb_1 8 (by rfl) rfl, hc_tb_5 121 (by rfl) rfl, by decide +kernel, by decide⟩, hc_tb_5 122 (by rfl) rfl, hc_tb_5 123 (by rfl) rfl⟩
set_option maxRecDepth 100000 in
theorem mv_L_118 : hc_MV RL 118 yX8_odds cX8_odds 10 (some .int) 3 := ⟨⟨hc_tb_5 128 (by rfl) rfl, hc_tb_1 8 (by rfl) rfl, hc_tb_5 125 (by rfl) rfl, by decide +kernel, by decide⟩, hc_tb_5 126 (by rfl) rfl, hc_tb_5 127 (by rfl) rfl⟩
set_option maxRecDepth 100000 in
theorem mv_L_122 : hc_MV RL 122 yX8_image cX8_image 2 (some .int) 1 := ⟨⟨hc_tb_5 132 (by rfl) rfl, hc_tb_1 8 (by rfl) rfl, hc_tb_5 129 (by rfl) rfl, by decide +kernel, by decide⟩, hc_tb_5 130 (by rfl) rfl, hc_tb_5 131 (by rfl) rfl⟩
set_option maxRecDepth 100000 in
theorem mv_L_126 : hc_MV RL 126 yX8_restore cX8_restore 2 (some .int) 1 := ⟨⟨hc_tb_5 136 (by rfl) rfl, hc_tb_1 8 (by rfl) rfl, hc_tb_5 133 (by rfl) rfl, by decide +kernel, by decide⟩, hc_tb_5 134 (by rfl) rfl, hc_tb_5 135 (by rfl) rfl⟩
set_option maxRecDepth 100000 in
theorem mv_L_130 : hc_MV RL 130 yX8_kind cX8_kind 2 (some .int) 1 := ⟨⟨hc_tb_5 140 (by rfl) rfl, hc_tb_1 8 (by rfl) rfl, hc_tb_5 137 (by rfl) rfl, by decide +kernel, by decide⟩, hc_tb_5 138 (by rfl) rfl, hc_tb_5 139 (by rfl) rfl⟩
set_option maxRecDepth 100000 in
theorem mv_X8_206 : hc_MV RX8 206 yX8_kindIn cX8_kindIn 2 (some .int) 1 := ⟨⟨hc_tb_5 144 (by rfl) rfl, hc_tb_1 8 (by rfl) rfl, hc_tb_5 141 (by rfl) rfl, by decide +kernel, by decide⟩, hc_tb_5 143 (by rfl) rfl, hc_tb_of 45 (by decide +kernel) rfl⟩
set_option maxRecDepth 100000 in
theorem mv_L_134 : hc_MV RL 134 yX8_as cX8_as 5 (some .int) 2 := ⟨⟨hc_tb_5 148 (by rfl) rfl, hc_tb_1 8 (by rfl) rfl, hc_tb_5 145 (by rfl) rfl, by decide +kernel, by decide⟩, hc_tb_5 146 (by rfl) rfl, hc_tb_5 147 (by rfl) rfl⟩
set_option maxRecDepth 100000 in
theorem mv_L_138 : hc_MV RL 138 yX8_ask cX8_ask 4 (some .int) 2 := ⟨⟨hc_tb_5 152 (by rfl) rfl, hc_tb_1 8 (by rfl) rfl, hc_tb_5 149 (by rfl) rfl, by decide +kernel, by decide⟩, hc_tb_5 150 (by rfl) rfl, hc_tb_5 151 (by rfl) rfl⟩
set_option maxRecDepth 100000 in
theorem mv_X8_219 : hc_MV RX8 219 yX8_catSize cX8_catSize 4 (some .int) 1 := ⟨⟨hc_tb_5 156 (by rfl) rfl, hc_tb_1 8 (by rfl) rfl, hc_tb_5 153 (by rfl) rfl, by decide +kernel, by decide⟩, hc_tb_5 155 (by rfl) rfl, hc_tb_of 46 (by decide +kernel) rfl⟩
set_option maxRecDepth 100000 in
theorem mv_X8_212 : hc_MV RX8 212 yX8_begins cX8_begins 2 none 1 := ⟨⟨hc_tb_5 160 (by rfl) rfl, hc_tb_1 8 (by rfl) rfl, hc_tb_5 157 (by rfl) rfl, by decide +kernel, by decide⟩, hc_tb_5 159 (by rfl) rfl, hc_tb_of 47 (by decide +kernel) rfl⟩
set_option maxRecDepth 100000 in
theorem mv_X8_222 : hc_MV RX8 222 yX8_personSize cX8_personSize 4 (some .int) 1 := ⟨⟨hc_tb_5 164 (by rfl) rfl, hc_tb_1 8 (by rfl) rfl, hc_tb_5 161 (by rfl) rfl, by decide +kernel, by decide⟩, hc_tb_5 163 (by rfl) rfl, hc_tb_of 48 (by decide +kernel) rfl⟩
set_option maxRecDepth 100000 in
theorem mv_X8_216 : hc_MV RX8 216 yX8_personMark cX8_personMark 4 (some .int) 1 := ⟨⟨hc_tb_5 168 (by rfl) rfl, hc_tb_1 8 (by rfl) rfl, hc_tb_5 165 (by rfl) rfl, by decide +kernel, by decide⟩, hc_tb_5 167 (by rfl) rfl, hc_tb_of 49 (by decide +kernel) rfl⟩
set_option maxRecDepth 100000 in
theorem mv_X8_225 : hc_MV RX8 225 yX8_catMark cX8_catMark 2 (some .int) 1 := ⟨⟨hc_tb_5 172 (by rfl) rfl, hc_tb_1 8 (by rfl) rfl, hc_tb_5 169 (by rfl) rfl, by decide +kernel, by decide⟩, hc_tb_5 171 (by rfl) rfl, hc_tb_of 50 (by decide +kernel) rfl⟩
set_option maxRecDepth 100000 in
theorem mv_L_142 : hc_MV RL 142 yX8_trace cX8_trace 2 (some .int) 1 := ⟨⟨hc_tb_5 176 (by rfl) rfl, hc_tb_1 8 (by rfl) rfl, hc_tb_5 173 (by rfl) rfl, by decide +kernel, by decide⟩, hc_tb_5 174 (by rfl) rfl, hc_tb_5 175 (by rfl) rfl⟩
set_option maxRecDepth 100000 in
theorem mv_L_146 : hc_MV RL 146 yX8_count cX8_count 4 (some .int) 1 := ⟨⟨hc_tb_5 180 (by rfl) rfl, hc_tb_1 8 (by rfl) rfl, hc_tb_5 177 (by rfl) rfl, by decide +kernel, by decide⟩, hc_tb_5 178 (by rfl) rfl, hc_tb_5 179 (by rfl) rfl⟩
set_option maxRecDepth 100000 in
theorem mv_L_150 : hc_MV RL 150 yX8_status cX8_status 1 (some .int) 0 := ⟨⟨hc_tb_5 184 (by rfl) rfl, hc_tb_1 8 (by rfl) rfl, hc_tb_5 181 (by rfl) rfl, by decide +kernel, by decide⟩, hc_tb_5 182 (by rfl) rfl, hc_tb_5 183 (by rfl) rfl⟩
set_option maxRecDepth 100000 in
theorem ac_nat : Cond.native arraycopyName ∈ hc_tb := hc_tb_2 68 (by rfl) rfl
set_option maxRecDepth 100000 in
theorem ac_sta : Cond.static arraycopyName ∈ hc_tb := hc_tb_2 67 (by rfl) rfl
set_option maxRecDepth 100000 in
theorem ac_ini : Cond.initialized "java/lang/System" ∈ hc_tb := hc_tb_1 9 (by rfl) rfl
