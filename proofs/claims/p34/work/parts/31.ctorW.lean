theorem kw_oi : Cond.instanceMethod Lib.objectInit ∈ hc_tb := hc_tb_of 73 (by decide +kernel) rfl
theorem kw_oc : Cond.code Lib.objectInit ⟨#[0xb1]⟩ 1 none ∈ hc_tb := hc_tb_of 74 (by decide +kernel) rfl
theorem kw_ai : Cond.arrayClass .int ∈ hc_tb := hc_tb_of 94 (by decide +kernel) rfl
theorem kw_az : Cond.arrayClass .boolean ∈ hc_tb := hc_tb_of 904 (by decide +kernel) rfl
theorem kw_cl_L_7 : Cond.classLink RL 7 RX7 ∈ hc_tb := hc_tb_of 67 (by decide +kernel) rfl
theorem kw_in_X7 : Cond.instantiable RX7 9 ∈ hc_tb := hc_tb_of 68 (by decide +kernel) rfl
theorem kw_it_X7 : Cond.initialized RX7 ∈ hc_tb := hc_tb_of 52 (by decide +kernel) rfl
theorem kw_cl_X7_7 : Cond.classLink RX7 7 RX5 ∈ hc_tb := hc_tb_of 75 (by decide +kernel) rfl
theorem kw_in_X5 : Cond.instantiable RX5 3 ∈ hc_tb := hc_tb_of 76 (by decide +kernel) rfl
theorem kw_it_X5 : Cond.initialized RX5 ∈ hc_tb := hc_tb_of 53 (by decide +kernel) rfl
theorem kw_cl_X7_16 : Cond.classLink RX7 16 RX6 ∈ hc_tb := hc_tb_of 95 (by decide +kernel) rfl
theorem kw_in_X6 : Cond.instantiable RX6 9 ∈ hc_tb := hc_tb_of 96 (by decide +kernel) rfl
theorem kw_it_X6 : Cond.initialized RX6 ∈ hc_tb := hc_tb_of 55 (by decide +kernel) rfl
theorem kw_cl_X7_23 : Cond.classLink RX7 23 RX3 ∈ hc_tb := hc_tb_of 134 (by decide +kernel) rfl
theorem kw_in_X3 : Cond.instantiable RX3 17 ∈ hc_tb := hc_tb_of 135 (by decide +kernel) rfl
theorem kw_it_X3 : Cond.initialized RX3 ∈ hc_tb := hc_tb_of 56 (by decide +kernel) rfl
theorem kw_cl_X7_36 : Cond.classLink RX7 36 RX0 ∈ hc_tb := hc_tb_of 217 (by decide +kernel) rfl
theorem kw_in_X0 : Cond.instantiable RX0 4 ∈ hc_tb := hc_tb_of 218 (by decide +kernel) rfl
theorem kw_it_X0 : Cond.initialized RX0 ∈ hc_tb := hc_tb_of 57 (by decide +kernel) rfl
theorem kw_cl_X7_43 : Cond.classLink RX7 43 RX1 ∈ hc_tb := hc_tb_of 237 (by decide +kernel) rfl
theorem kw_in_X1 : Cond.instantiable RX1 6 ∈ hc_tb := hc_tb_of 238 (by decide +kernel) rfl
theorem kw_it_X1 : Cond.initialized RX1 ∈ hc_tb := hc_tb_of 58 (by decide +kernel) rfl
theorem kw_cl_L_10 : Cond.classLink RL 10 RX8 ∈ hc_tb := hc_tb_of 827 (by decide +kernel) rfl
theorem kw_in_X8 : Cond.instantiable RX8 23 ∈ hc_tb := hc_tb_of 828 (by decide +kernel) rfl
theorem kw_it_X8 : Cond.initialized RX8 ∈ hc_tb := hc_tb_of 59 (by decide +kernel) rfl
theorem kw_mi_L_9 : hc_CB RL 9 yX7_init cX7_init 1 none 0 := ⟨hc_tb_of 71 (by decide +kernel) rfl, hc_tb_of 52 (by decide +kernel) rfl, hc_tb_of 69 (by decide +kernel) rfl, by decide +kernel, by decide⟩
theorem kw_im_X7_init : Cond.instanceMethod yX7_init ∈ hc_tb := hc_tb_of 70 (by decide +kernel) rfl
theorem kw_oj_X7 : Cond.methodLink RX7 1 Lib.objectInit ∈ hc_tb := hc_tb_of 72 (by decide +kernel) rfl
theorem kw_mi_X7_9 : hc_CB RX7 9 yX5_init cX5_init 1 none 0 := ⟨hc_tb_of 79 (by decide +kernel) rfl, hc_tb_of 53 (by decide +kernel) rfl, hc_tb_of 77 (by decide +kernel) rfl, by decide +kernel, by decide⟩
theorem kw_im_X5_init : Cond.instanceMethod yX5_init ∈ hc_tb := hc_tb_of 78 (by decide +kernel) rfl
theorem kw_oj_X5 : Cond.methodLink RX5 3 Lib.objectInit ∈ hc_tb := hc_tb_of 80 (by decide +kernel) rfl
theorem kw_oj_X6 : Cond.methodLink RX6 5 Lib.objectInit ∈ hc_tb := hc_tb_of 100 (by decide +kernel) rfl
theorem kw_oj_X3 : Cond.methodLink RX3 1 Lib.objectInit ∈ hc_tb := hc_tb_of 139 (by decide +kernel) rfl
theorem kw_oj_X0 : Cond.methodLink RX0 1 Lib.objectInit ∈ hc_tb := hc_tb_of 222 (by decide +kernel) rfl
theorem kw_oj_X1 : Cond.methodLink RX1 1 Lib.objectInit ∈ hc_tb := hc_tb_of 242 (by decide +kernel) rfl
theorem kw_mi_L_12 : hc_CB RL 12 yX8_init cX8_init 2 none 0 := ⟨hc_tb_of 831 (by decide +kernel) rfl, hc_tb_of 59 (by decide +kernel) rfl, hc_tb_of 829 (by decide +kernel) rfl, by decide +kernel, by decide⟩
theorem kw_im_X8_init : Cond.instanceMethod yX8_init ∈ hc_tb := hc_tb_of 830 (by decide +kernel) rfl
theorem kw_oj_X8 : Cond.methodLink RX8 1 Lib.objectInit ∈ hc_tb := hc_tb_of 832 (by decide +kernel) rfl
theorem kw_mn_X7_18 : Cond.methodLinkNest RX7 18 yX6_init "HeedClock" ∈ lw_tbl := List.mem_of_getElem? (i := 97) (by decide +kernel)
theorem kw_nc_X6_init : Cond.code yX6_init cX6_init 1 none ∈ hc_tb := hc_tb_of 99 (by decide +kernel) rfl
theorem kw_im_X6_init : Cond.instanceMethod yX6_init ∈ hc_tb := hc_tb_of 98 (by decide +kernel) rfl
theorem kw_ni_X6_init : yX6_init.cls ≠ "java/lang/invoke/MethodHandle" ∧ yX6_init.cls ≠ "java/lang/invoke/VarHandle" ∧ (parseMethodDescriptor yX6_init.desc).map (fun d => d.parameters.length) = some 0 := by decide +kernel
theorem kw_mn_X7_25 : Cond.methodLinkNest RX7 25 yX3_init "HeedClock" ∈ lw_tbl := List.mem_of_getElem? (i := 136) (by decide +kernel)
theorem kw_nc_X3_init : Cond.code yX3_init cX3_init 1 none ∈ hc_tb := hc_tb_of 138 (by decide +kernel) rfl
theorem kw_im_X3_init : Cond.instanceMethod yX3_init ∈ hc_tb := hc_tb_of 137 (by decide +kernel) rfl
theorem kw_ni_X3_init : yX3_init.cls ≠ "java/lang/invoke/MethodHandle" ∧ yX3_init.cls ≠ "java/lang/invoke/VarHandle" ∧ (parseMethodDescriptor yX3_init.desc).map (fun d => d.parameters.length) = some 0 := by decide +kernel
theorem kw_mn_X7_38 : Cond.methodLinkNest RX7 38 yX0_init "HeedClock" ∈ lw_tbl := List.mem_of_getElem? (i := 219) (by decide +kernel)
theorem kw_nc_X0_init : Cond.code yX0_init cX0_init 1 none ∈ hc_tb := hc_tb_of 221 (by decide +kernel) rfl
theorem kw_im_X0_init : Cond.instanceMethod yX0_init ∈ hc_tb := hc_tb_of 220 (by decide +kernel) rfl
theorem kw_ni_X0_init : yX0_init.cls ≠ "java/lang/invoke/MethodHandle" ∧ yX0_init.cls ≠ "java/lang/invoke/VarHandle" ∧ (parseMethodDescriptor yX0_init.desc).map (fun d => d.parameters.length) = some 0 := by decide +kernel
theorem kw_mn_X7_45 : Cond.methodLinkNest RX7 45 yX1_init "HeedClock" ∈ lw_tbl := List.mem_of_getElem? (i := 239) (by decide +kernel)
theorem kw_nc_X1_init : Cond.code yX1_init cX1_init 1 none ∈ hc_tb := hc_tb_of 241 (by decide +kernel) rfl
theorem kw_im_X1_init : Cond.instanceMethod yX1_init ∈ hc_tb := hc_tb_of 240 (by decide +kernel) rfl
theorem kw_ni_X1_init : yX1_init.cls ≠ "java/lang/invoke/MethodHandle" ∧ yX1_init.cls ≠ "java/lang/invoke/VarHandle" ∧ (parseMethodDescriptor yX1_init.desc).map (fun d => d.parameters.length) = some 0 := by decide +kernel
