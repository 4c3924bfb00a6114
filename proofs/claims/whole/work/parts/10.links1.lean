theorem fp_RX5_48 : cb_FP RX5 48 5 10 := ⟨RX5, TX5, 13, tyX5, rfl, tw_RX5, by decide, tb_at (tb_m1 (List.mem_of_getElem? (i := 92) rfl)) rfl, tyX5_ok, nmX5, rfl, rfl⟩
theorem fp_RX5_54 : cb_FP RX5 54 5 12 := ⟨RX5, TX5, 13, tyX5, rfl, tw_RX5, by decide, tb_at (tb_m1 (List.mem_of_getElem? (i := 94) rfl)) rfl, tyX5_ok, nmX5, rfl, rfl⟩
theorem fp_RX5_80 : cb_FP RX5 80 5 11 := ⟨RX5, TX5, 13, tyX5, rfl, tw_RX5, by decide, tb_at (tb_m1 (List.mem_of_getElem? (i := 93) rfl)) rfl, tyX5_ok, nmX5, rfl, rfl⟩
theorem fp_RX6_30 : cb_FP RX6 30 6 4 := ⟨RX6, TX6, 8, tyX6, rfl, tw_RX6, by decide, tb_at (tb_m1 (List.mem_of_getElem? (i := 132) rfl)) rfl, tyX6_ok, nmX6, rfl, rfl⟩
theorem fp_RX6_39 : cb_FP RX6 39 6 7 := ⟨RX6, TX6, 8, tyX6, rfl, tw_RX6, by decide, tb_at (tb_m1 (List.mem_of_getElem? (i := 135) rfl)) rfl, tyX6_ok, nmX6, rfl, rfl⟩
theorem fp_RX6_42 : cb_FP RX6 42 6 5 := ⟨RX6, TX6, 8, tyX6, rfl, tw_RX6, by decide, tb_at (tb_m1 (List.mem_of_getElem? (i := 133) rfl)) rfl, tyX6_ok, nmX6, rfl, rfl⟩
theorem fp_RX6_76 : cb_FP RX6 76 6 6 := ⟨RX6, TX6, 8, tyX6, rfl, tw_RX6, by decide, tb_at (tb_m1 (List.mem_of_getElem? (i := 134) rfl)) rfl, tyX6_ok, nmX6, rfl, rfl⟩
theorem fp_RX9_77 : cb_FP RX9 77 8 5 := ⟨RX9, TX9, 32, tyX9, rfl, tw_RX9, by decide, tb_at (tb_m4 (List.mem_of_getElem? (i := 84) rfl)) rfl, tyX9_ok, nmX9, rfl, rfl⟩
theorem fp_RX9_81 : cb_FP RX9 81 8 1 := ⟨RX9, TX9, 32, tyX9, rfl, tw_RX9, by decide, tb_at (tb_m4 (List.mem_of_getElem? (i := 80) rfl)) rfl, tyX9_ok, nmX9, rfl, rfl⟩
theorem fp_RX9_84 : cb_FP RX9 84 8 3 := ⟨RX9, TX9, 32, tyX9, rfl, tw_RX9, by decide, tb_at (tb_m4 (List.mem_of_getElem? (i := 82) rfl)) rfl, tyX9_ok, nmX9, rfl, rfl⟩
theorem fp_RX9_87 : cb_FP RX9 87 8 4 := ⟨RX9, TX9, 32, tyX9, rfl, tw_RX9, by decide, tb_at (tb_m4 (List.mem_of_getElem? (i := 83) rfl)) rfl, tyX9_ok, nmX9, rfl, rfl⟩
theorem fp_RX9_109 : cb_FP RX9 109 8 0 := ⟨RX9, TX9, 32, tyX9, rfl, tw_RX9, by decide, tb_at (tb_m4 (List.mem_of_getElem? (i := 79) rfl)) rfl, tyX9_ok, nmX9, rfl, rfl⟩
theorem fp_RX9_112 : cb_FP RX9 112 8 13 := ⟨RX9, TX9, 32, tyX9, rfl, tw_RX9, by decide, tb_at (tb_m4 (List.mem_of_getElem? (i := 92) rfl)) rfl, tyX9_ok, nmX9, rfl, rfl⟩
theorem fp_RX9_119 : cb_FP RX9 119 8 18 := ⟨RX9, TX9, 32, tyX9, rfl, tw_RX9, by decide, tb_at (tb_m4 (List.mem_of_getElem? (i := 97) rfl)) rfl, tyX9_ok, nmX9, rfl, rfl⟩
theorem fp_RX9_129 : cb_FP RX9 129 8 20 := ⟨RX9, TX9, 32, tyX9, rfl, tw_RX9, by decide, tb_at (tb_m4 (List.mem_of_getElem? (i := 99) rfl)) rfl, tyX9_ok, nmX9, rfl, rfl⟩
theorem fp_RX9_147 : cb_FP RX9 147 8 28 := ⟨RX9, TX9, 32, tyX9, rfl, tw_RX9, by decide, tb_at (tb_m4 (List.mem_of_getElem? (i := 107) rfl)) rfl, tyX9_ok, nmX9, rfl, rfl⟩
theorem fp_RX9_203 : cb_FP RX9 203 8 29 := ⟨RX9, TX9, 32, tyX9, rfl, tw_RX9, by decide, tb_at (tb_m4 (List.mem_of_getElem? (i := 108) rfl)) rfl, tyX9_ok, nmX9, rfl, rfl⟩
theorem kc_X1_joinedAround : Cond.code yX1_joinedAround cX1_joinedAround 2 (some .int) ∈ tb_G := tb_at (tb_m3 (List.mem_of_getElem? (i := 8) rfl)) rfl
theorem ki_X1_joinedAround : Cond.initialized yX1_joinedAround.cls ∈ tb_G := tb_at (tb_m1 (List.mem_of_getElem? (i := 3) rfl)) rfl
theorem ks_X1_joinedAround : Cond.instanceMethod yX1_joinedAround ∈ tb_G ∧ Cond.selects yX1_joinedAround.cls yX1_joinedAround yX1_joinedAround ∈ tb_G := ⟨tb_at (tb_m3 (List.mem_of_getElem? (i := 6) rfl)) rfl, tb_at (tb_m3 (List.mem_of_getElem? (i := 7) rfl)) rfl⟩
theorem kd_X1_joinedAround : (yX1_joinedAround.cls ≠ "java/lang/invoke/MethodHandle" ∧ yX1_joinedAround.cls ≠ "java/lang/invoke/VarHandle" ∧ (parseMethodDescriptor yX1_joinedAround.desc).map (fun d => d.parameters.length) = some 1) := by decide +kernel
theorem lk_RX0_26 : cb_LV RX0 26 yX1_joinedAround cX1_joinedAround 2 (some .int) 1 := ⟨tb_at (tb_m3 (List.mem_of_getElem? (i := 5) rfl)) rfl, ks_X1_joinedAround.1, ks_X1_joinedAround.2, ki_X1_joinedAround, kc_X1_joinedAround, kd_X1_joinedAround⟩
theorem kc_X1_standFrom : Cond.code yX1_standFrom cX1_standFrom 3 (some .int) ∈ tb_G := tb_at (tb_m2 (List.mem_of_getElem? (i := 230) rfl)) rfl
theorem ki_X1_standFrom : Cond.initialized yX1_standFrom.cls ∈ tb_G := tb_at (tb_m1 (List.mem_of_getElem? (i := 3) rfl)) rfl
theorem ks_X1_standFrom : Cond.instanceMethod yX1_standFrom ∈ tb_G ∧ Cond.selects yX1_standFrom.cls yX1_standFrom yX1_standFrom ∈ tb_G := ⟨tb_at (tb_m2 (List.mem_of_getElem? (i := 228) rfl)) rfl, tb_at (tb_m2 (List.mem_of_getElem? (i := 229) rfl)) rfl⟩
theorem kd_X1_standFrom : (yX1_standFrom.cls ≠ "java/lang/invoke/MethodHandle" ∧ yX1_standFrom.cls ≠ "java/lang/invoke/VarHandle" ∧ (parseMethodDescriptor yX1_standFrom.desc).map (fun d => d.parameters.length) = some 1) := by decide +kernel
theorem lk_RX0_32 : cb_LV RX0 32 yX1_standFrom cX1_standFrom 3 (some .int) 1 := ⟨tb_at (tb_m2 (List.mem_of_getElem? (i := 227) rfl)) rfl, ks_X1_standFrom.1, ks_X1_standFrom.2, ki_X1_standFrom, kc_X1_standFrom, kd_X1_standFrom⟩
theorem kc_X0_place : Cond.code yX0_place cX0_place 3 none ∈ tb_G := tb_at (tb_m3 (List.mem_of_getElem? (i := 4) rfl)) rfl
theorem ki_X0_place : Cond.initialized yX0_place.cls ∈ tb_G := tb_at (tb_m1 (List.mem_of_getElem? (i := 6) rfl)) rfl
theorem ks_X0_place : Cond.instanceMethod yX0_place ∈ tb_G ∧ Cond.selects yX0_place.cls yX0_place yX0_place ∈ tb_G := ⟨tb_at (tb_m3 (List.mem_of_getElem? (i := 2) rfl)) rfl, tb_at (tb_m3 (List.mem_of_getElem? (i := 3) rfl)) rfl⟩
theorem kd_X0_place : (yX0_place.cls ≠ "java/lang/invoke/MethodHandle" ∧ yX0_place.cls ≠ "java/lang/invoke/VarHandle" ∧ (parseMethodDescriptor yX0_place.desc).map (fun d => d.parameters.length) = some 2) := by decide +kernel
theorem lk_RX0_35 : cb_LV RX0 35 yX0_place cX0_place 3 none 2 := ⟨tb_at (tb_m3 (List.mem_of_getElem? (i := 1) rfl)) rfl, ks_X0_place.1, ks_X0_place.2, ki_X0_place, kc_X0_place, kd_X0_place⟩
theorem kc_X6_leftOf : Cond.code yX6_leftOf cX6_leftOf 2 (some .int) ∈ tb_G := tb_at (tb_m3 (List.mem_of_getElem? (i := 72) rfl)) rfl
theorem ki_X6_leftOf : Cond.initialized yX6_leftOf.cls ∈ tb_G := tb_at (tb_m1 (List.mem_of_getElem? (i := 5) rfl)) rfl
theorem ks_X6_leftOf : Cond.instanceMethod yX6_leftOf ∈ tb_G ∧ Cond.selects yX6_leftOf.cls yX6_leftOf yX6_leftOf ∈ tb_G := ⟨tb_at (tb_m3 (List.mem_of_getElem? (i := 70) rfl)) rfl, tb_at (tb_m3 (List.mem_of_getElem? (i := 71) rfl)) rfl⟩
theorem kd_X6_leftOf : (yX6_leftOf.cls ≠ "java/lang/invoke/MethodHandle" ∧ yX6_leftOf.cls ≠ "java/lang/invoke/VarHandle" ∧ (parseMethodDescriptor yX6_leftOf.desc).map (fun d => d.parameters.length) = some 1) := by decide +kernel
theorem lk_RX0_45 : cb_LV RX0 45 yX6_leftOf cX6_leftOf 2 (some .int) 1 := ⟨tb_at (tb_m3 (List.mem_of_getElem? (i := 104) rfl)) rfl, ks_X6_leftOf.1, ks_X6_leftOf.2, ki_X6_leftOf, kc_X6_leftOf, kd_X6_leftOf⟩
theorem kc_X1_widthOf : Cond.code yX1_widthOf cX1_widthOf 2 (some .int) ∈ tb_G := tb_at (tb_m2 (List.mem_of_getElem? (i := 144) rfl)) rfl
theorem ki_X1_widthOf : Cond.initialized yX1_widthOf.cls ∈ tb_G := tb_at (tb_m1 (List.mem_of_getElem? (i := 3) rfl)) rfl
theorem ks_X1_widthOf : Cond.instanceMethod yX1_widthOf ∈ tb_G ∧ Cond.selects yX1_widthOf.cls yX1_widthOf yX1_widthOf ∈ tb_G := ⟨tb_at (tb_m2 (List.mem_of_getElem? (i := 142) rfl)) rfl, tb_at (tb_m2 (List.mem_of_getElem? (i := 143) rfl)) rfl⟩
theorem kd_X1_widthOf : (yX1_widthOf.cls ≠ "java/lang/invoke/MethodHandle" ∧ yX1_widthOf.cls ≠ "java/lang/invoke/VarHandle" ∧ (parseMethodDescriptor yX1_widthOf.desc).map (fun d => d.parameters.length) = some 1) := by decide +kernel
theorem lk_RX0_50 : cb_LV RX0 50 yX1_widthOf cX1_widthOf 2 (some .int) 1 := ⟨tb_at (tb_m3 (List.mem_of_getElem? (i := 105) rfl)) rfl, ks_X1_widthOf.1, ks_X1_widthOf.2, ki_X1_widthOf, kc_X1_widthOf, kd_X1_widthOf⟩
theorem kc_X0_xWithBehind : Cond.code yX0_xWithBehind cX0_xWithBehind 2 (some .int) ∈ tb_G := tb_at (tb_m3 (List.mem_of_getElem? (i := 109) rfl)) rfl
theorem ki_X0_xWithBehind : Cond.initialized yX0_xWithBehind.cls ∈ tb_G := tb_at (tb_m1 (List.mem_of_getElem? (i := 6) rfl)) rfl
theorem ks_X0_xWithBehind : Cond.instanceMethod yX0_xWithBehind ∈ tb_G ∧ Cond.selects yX0_xWithBehind.cls yX0_xWithBehind yX0_xWithBehind ∈ tb_G := ⟨tb_at (tb_m3 (List.mem_of_getElem? (i := 108) rfl)) rfl, tb_at (tb_m0 (List.mem_of_getElem? (i := 20) rfl)) rfl⟩
theorem kd_X0_xWithBehind : (yX0_xWithBehind.cls ≠ "java/lang/invoke/MethodHandle" ∧ yX0_xWithBehind.cls ≠ "java/lang/invoke/VarHandle" ∧ (parseMethodDescriptor yX0_xWithBehind.desc).map (fun d => d.parameters.length) = some 0) := by decide +kernel
theorem lk_RX0_53 : cb_LV RX0 53 yX0_xWithBehind cX0_xWithBehind 2 (some .int) 0 := ⟨tb_at (tb_m3 (List.mem_of_getElem? (i := 106) rfl)) rfl, ks_X0_xWithBehind.1, ks_X0_xWithBehind.2, ki_X0_xWithBehind, kc_X0_xWithBehind, kd_X0_xWithBehind⟩
theorem kc_X0_xWithAhead : Cond.code yX0_xWithAhead cX0_xWithAhead 2 (some .int) ∈ tb_G := tb_at (tb_m3 (List.mem_of_getElem? (i := 130) rfl)) rfl
theorem ki_X0_xWithAhead : Cond.initialized yX0_xWithAhead.cls ∈ tb_G := tb_at (tb_m1 (List.mem_of_getElem? (i := 6) rfl)) rfl
theorem ks_X0_xWithAhead : Cond.instanceMethod yX0_xWithAhead ∈ tb_G ∧ Cond.selects yX0_xWithAhead.cls yX0_xWithAhead yX0_xWithAhead ∈ tb_G := ⟨tb_at (tb_m3 (List.mem_of_getElem? (i := 129) rfl)) rfl, tb_at (tb_m0 (List.mem_of_getElem? (i := 21) rfl)) rfl⟩
theorem kd_X0_xWithAhead : (yX0_xWithAhead.cls ≠ "java/lang/invoke/MethodHandle" ∧ yX0_xWithAhead.cls ≠ "java/lang/invoke/VarHandle" ∧ (parseMethodDescriptor yX0_xWithAhead.desc).map (fun d => d.parameters.length) = some 0) := by decide +kernel
theorem lk_RX0_57 : cb_LV RX0 57 yX0_xWithAhead cX0_xWithAhead 2 (some .int) 0 := ⟨tb_at (tb_m3 (List.mem_of_getElem? (i := 127) rfl)) rfl, ks_X0_xWithAhead.1, ks_X0_xWithAhead.2, ki_X0_xWithAhead, kc_X0_xWithAhead, kd_X0_xWithAhead⟩
theorem kc_X1_beginningAt : Cond.code yX1_beginningAt cX1_beginningAt 2 (some .int) ∈ tb_G := tb_at (tb_m3 (List.mem_of_getElem? (i := 113) rfl)) rfl
theorem ki_X1_beginningAt : Cond.initialized yX1_beginningAt.cls ∈ tb_G := tb_at (tb_m1 (List.mem_of_getElem? (i := 3) rfl)) rfl
theorem ks_X1_beginningAt : Cond.instanceMethod yX1_beginningAt ∈ tb_G ∧ Cond.selects yX1_beginningAt.cls yX1_beginningAt yX1_beginningAt ∈ tb_G := ⟨tb_at (tb_m3 (List.mem_of_getElem? (i := 111) rfl)) rfl, tb_at (tb_m3 (List.mem_of_getElem? (i := 112) rfl)) rfl⟩
theorem kd_X1_beginningAt : (yX1_beginningAt.cls ≠ "java/lang/invoke/MethodHandle" ∧ yX1_beginningAt.cls ≠ "java/lang/invoke/VarHandle" ∧ (parseMethodDescriptor yX1_beginningAt.desc).map (fun d => d.parameters.length) = some 1) := by decide +kernel
theorem lk_RX0_60 : cb_LV RX0 60 yX1_beginningAt cX1_beginningAt 2 (some .int) 1 := ⟨tb_at (tb_m3 (List.mem_of_getElem? (i := 110) rfl)) rfl, ks_X1_beginningAt.1, ks_X1_beginningAt.2, ki_X1_beginningAt, kc_X1_beginningAt, kd_X1_beginningAt⟩
theorem kc_X6_xOfEnd : Cond.code yX6_xOfEnd cX6_xOfEnd 1 (some .int) ∈ tb_G := tb_at (tb_m3 (List.mem_of_getElem? (i := 117) rfl)) rfl
theorem ki_X6_xOfEnd : Cond.initialized yX6_xOfEnd.cls ∈ tb_G := tb_at (tb_m1 (List.mem_of_getElem? (i := 5) rfl)) rfl
theorem ks_X6_xOfEnd : Cond.instanceMethod yX6_xOfEnd ∈ tb_G ∧ Cond.selects yX6_xOfEnd.cls yX6_xOfEnd yX6_xOfEnd ∈ tb_G := ⟨tb_at (tb_m3 (List.mem_of_getElem? (i := 115) rfl)) rfl, tb_at (tb_m3 (List.mem_of_getElem? (i := 116) rfl)) rfl⟩
theorem kd_X6_xOfEnd : (yX6_xOfEnd.cls ≠ "java/lang/invoke/MethodHandle" ∧ yX6_xOfEnd.cls ≠ "java/lang/invoke/VarHandle" ∧ (parseMethodDescriptor yX6_xOfEnd.desc).map (fun d => d.parameters.length) = some 0) := by decide +kernel
theorem lk_RX0_63 : cb_LV RX0 63 yX6_xOfEnd cX6_xOfEnd 1 (some .int) 0 := ⟨tb_at (tb_m3 (List.mem_of_getElem? (i := 114) rfl)) rfl, ks_X6_xOfEnd.1, ks_X6_xOfEnd.2, ki_X6_xOfEnd, kc_X6_xOfEnd, kd_X6_xOfEnd⟩
theorem kc_X6_levelOf : Cond.code yX6_levelOf cX6_levelOf 2 (some .int) ∈ tb_G := tb_at (tb_m3 (List.mem_of_getElem? (i := 68) rfl)) rfl
theorem ki_X6_levelOf : Cond.initialized yX6_levelOf.cls ∈ tb_G := tb_at (tb_m1 (List.mem_of_getElem? (i := 5) rfl)) rfl
theorem ks_X6_levelOf : Cond.instanceMethod yX6_levelOf ∈ tb_G ∧ Cond.selects yX6_levelOf.cls yX6_levelOf yX6_levelOf ∈ tb_G := ⟨tb_at (tb_m3 (List.mem_of_getElem? (i := 66) rfl)) rfl, tb_at (tb_m3 (List.mem_of_getElem? (i := 67) rfl)) rfl⟩
theorem kd_X6_levelOf : (yX6_levelOf.cls ≠ "java/lang/invoke/MethodHandle" ∧ yX6_levelOf.cls ≠ "java/lang/invoke/VarHandle" ∧ (parseMethodDescriptor yX6_levelOf.desc).map (fun d => d.parameters.length) = some 1) := by decide +kernel
theorem lk_RX0_66 : cb_LV RX0 66 yX6_levelOf cX6_levelOf 2 (some .int) 1 := ⟨tb_at (tb_m3 (List.mem_of_getElem? (i := 118) rfl)) rfl, ks_X6_levelOf.1, ks_X6_levelOf.2, ki_X6_levelOf, kc_X6_levelOf, kd_X6_levelOf⟩
theorem kc_X8_isEven : Cond.code yX8_isEven cX8_isEven 1 (some .boolean) ∈ tb_G := tb_at (tb_m3 (List.mem_of_getElem? (i := 92) rfl)) rfl
theorem ki_X8_isEven : Cond.initialized yX8_isEven.cls ∈ tb_G := tb_at (tb_m1 (List.mem_of_getElem? (i := 1) rfl)) rfl
theorem ks_X8_isEven : Cond.static yX8_isEven ∈ tb_G := tb_at (tb_m3 (List.mem_of_getElem? (i := 91) rfl)) rfl
theorem kd_X8_isEven : (yX8_isEven.cls ≠ "java/lang/invoke/MethodHandle" ∧ yX8_isEven.cls ≠ "java/lang/invoke/VarHandle" ∧ (parseMethodDescriptor yX8_isEven.desc).map (fun d => d.parameters.length) = some 1) := by decide +kernel
theorem lk_RX0_69 : cb_LN RX0 69 yX8_isEven "CaretBench" cX8_isEven 1 (some .boolean) 1 := ⟨cb_nest0, ks_X8_isEven, ki_X8_isEven, kc_X8_isEven, kd_X8_isEven⟩
theorem kc_X6_rightOf : Cond.code yX6_rightOf cX6_rightOf 3 (some .int) ∈ tb_G := tb_at (tb_m3 (List.mem_of_getElem? (i := 123) rfl)) rfl
theorem ki_X6_rightOf : Cond.initialized yX6_rightOf.cls ∈ tb_G := tb_at (tb_m1 (List.mem_of_getElem? (i := 5) rfl)) rfl
theorem ks_X6_rightOf : Cond.instanceMethod yX6_rightOf ∈ tb_G ∧ Cond.selects yX6_rightOf.cls yX6_rightOf yX6_rightOf ∈ tb_G := ⟨tb_at (tb_m3 (List.mem_of_getElem? (i := 121) rfl)) rfl, tb_at (tb_m3 (List.mem_of_getElem? (i := 122) rfl)) rfl⟩
theorem kd_X6_rightOf : (yX6_rightOf.cls ≠ "java/lang/invoke/MethodHandle" ∧ yX6_rightOf.cls ≠ "java/lang/invoke/VarHandle" ∧ (parseMethodDescriptor yX6_rightOf.desc).map (fun d => d.parameters.length) = some 1) := by decide +kernel
theorem lk_RX0_73 : cb_LV RX0 73 yX6_rightOf cX6_rightOf 3 (some .int) 1 := ⟨tb_at (tb_m3 (List.mem_of_getElem? (i := 120) rfl)) rfl, ks_X6_rightOf.1, ks_X6_rightOf.2, ki_X6_rightOf, kc_X6_rightOf, kd_X6_rightOf⟩
theorem kc_X1_endingAt : Cond.code yX1_endingAt cX1_endingAt 2 (some .int) ∈ tb_G := tb_at (tb_m3 (List.mem_of_getElem? (i := 134) rfl)) rfl
theorem ki_X1_endingAt : Cond.initialized yX1_endingAt.cls ∈ tb_G := tb_at (tb_m1 (List.mem_of_getElem? (i := 3) rfl)) rfl
theorem ks_X1_endingAt : Cond.instanceMethod yX1_endingAt ∈ tb_G ∧ Cond.selects yX1_endingAt.cls yX1_endingAt yX1_endingAt ∈ tb_G := ⟨tb_at (tb_m3 (List.mem_of_getElem? (i := 132) rfl)) rfl, tb_at (tb_m3 (List.mem_of_getElem? (i := 133) rfl)) rfl⟩
theorem kd_X1_endingAt : (yX1_endingAt.cls ≠ "java/lang/invoke/MethodHandle" ∧ yX1_endingAt.cls ≠ "java/lang/invoke/VarHandle" ∧ (parseMethodDescriptor yX1_endingAt.desc).map (fun d => d.parameters.length) = some 1) := by decide +kernel
theorem lk_RX0_76 : cb_LV RX0 76 yX1_endingAt cX1_endingAt 2 (some .int) 1 := ⟨tb_at (tb_m3 (List.mem_of_getElem? (i := 131) rfl)) rfl, ks_X1_endingAt.1, ks_X1_endingAt.2, ki_X1_endingAt, kc_X1_endingAt, kd_X1_endingAt⟩
theorem kc_X6_xOfBeginning : Cond.code yX6_xOfBeginning cX6_xOfBeginning 1 (some .int) ∈ tb_G := tb_at (tb_m3 (List.mem_of_getElem? (i := 138) rfl)) rfl
theorem ki_X6_xOfBeginning : Cond.initialized yX6_xOfBeginning.cls ∈ tb_G := tb_at (tb_m1 (List.mem_of_getElem? (i := 5) rfl)) rfl
theorem ks_X6_xOfBeginning : Cond.instanceMethod yX6_xOfBeginning ∈ tb_G ∧ Cond.selects yX6_xOfBeginning.cls yX6_xOfBeginning yX6_xOfBeginning ∈ tb_G := ⟨tb_at (tb_m3 (List.mem_of_getElem? (i := 136) rfl)) rfl, tb_at (tb_m3 (List.mem_of_getElem? (i := 137) rfl)) rfl⟩
theorem kd_X6_xOfBeginning : (yX6_xOfBeginning.cls ≠ "java/lang/invoke/MethodHandle" ∧ yX6_xOfBeginning.cls ≠ "java/lang/invoke/VarHandle" ∧ (parseMethodDescriptor yX6_xOfBeginning.desc).map (fun d => d.parameters.length) = some 0) := by decide +kernel
theorem lk_RX0_79 : cb_LV RX0 79 yX6_xOfBeginning cX6_xOfBeginning 1 (some .int) 0 := ⟨tb_at (tb_m3 (List.mem_of_getElem? (i := 135) rfl)) rfl, ks_X6_xOfBeginning.1, ks_X6_xOfBeginning.2, ki_X6_xOfBeginning, kc_X6_xOfBeginning, kd_X6_xOfBeginning⟩
theorem kc_X1_has : Cond.code yX1_has cX1_has 2 (some .boolean) ∈ tb_G := tb_at (tb_m2 (List.mem_of_getElem? (i := 119) rfl)) rfl
theorem ki_X1_has : Cond.initialized yX1_has.cls ∈ tb_G := tb_at (tb_m1 (List.mem_of_getElem? (i := 3) rfl)) rfl
theorem ks_X1_has : Cond.instanceMethod yX1_has ∈ tb_G ∧ Cond.selects yX1_has.cls yX1_has yX1_has ∈ tb_G := ⟨tb_at (tb_m2 (List.mem_of_getElem? (i := 117) rfl)) rfl, tb_at (tb_m2 (List.mem_of_getElem? (i := 118) rfl)) rfl⟩
theorem kd_X1_has : (yX1_has.cls ≠ "java/lang/invoke/MethodHandle" ∧ yX1_has.cls ≠ "java/lang/invoke/VarHandle" ∧ (parseMethodDescriptor yX1_has.desc).map (fun d => d.parameters.length) = some 1) := by decide +kernel
theorem lk_RX0_82 : cb_LV RX0 82 yX1_has cX1_has 2 (some .boolean) 1 := ⟨tb_at (tb_m3 (List.mem_of_getElem? (i := 168) rfl)) rfl, ks_X1_has.1, ks_X1_has.2, ki_X1_has, kc_X1_has, kd_X1_has⟩
theorem kc_X1_endOf : Cond.code yX1_endOf cX1_endOf 2 (some .int) ∈ tb_G := tb_at (tb_m3 (List.mem_of_getElem? (i := 64) rfl)) rfl
theorem ki_X1_endOf : Cond.initialized yX1_endOf.cls ∈ tb_G := tb_at (tb_m1 (List.mem_of_getElem? (i := 3) rfl)) rfl
theorem ks_X1_endOf : Cond.instanceMethod yX1_endOf ∈ tb_G ∧ Cond.selects yX1_endOf.cls yX1_endOf yX1_endOf ∈ tb_G := ⟨tb_at (tb_m3 (List.mem_of_getElem? (i := 62) rfl)) rfl, tb_at (tb_m3 (List.mem_of_getElem? (i := 63) rfl)) rfl⟩
theorem kd_X1_endOf : (yX1_endOf.cls ≠ "java/lang/invoke/MethodHandle" ∧ yX1_endOf.cls ≠ "java/lang/invoke/VarHandle" ∧ (parseMethodDescriptor yX1_endOf.desc).map (fun d => d.parameters.length) = some 1) := by decide +kernel
theorem lk_RX0_85 : cb_LV RX0 85 yX1_endOf cX1_endOf 2 (some .int) 1 := ⟨tb_at (tb_m3 (List.mem_of_getElem? (i := 169) rfl)) rfl, ks_X1_endOf.1, ks_X1_endOf.2, ki_X1_endOf, kc_X1_endOf, kd_X1_endOf⟩
theorem kc_X1_firstOf : Cond.code yX1_firstOf cX1_firstOf 2 (some .int) ∈ tb_G := tb_at (tb_m2 (List.mem_of_getElem? (i := 115) rfl)) rfl
theorem ki_X1_firstOf : Cond.initialized yX1_firstOf.cls ∈ tb_G := tb_at (tb_m1 (List.mem_of_getElem? (i := 3) rfl)) rfl
theorem ks_X1_firstOf : Cond.instanceMethod yX1_firstOf ∈ tb_G ∧ Cond.selects yX1_firstOf.cls yX1_firstOf yX1_firstOf ∈ tb_G := ⟨tb_at (tb_m2 (List.mem_of_getElem? (i := 113) rfl)) rfl, tb_at (tb_m2 (List.mem_of_getElem? (i := 114) rfl)) rfl⟩
theorem kd_X1_firstOf : (yX1_firstOf.cls ≠ "java/lang/invoke/MethodHandle" ∧ yX1_firstOf.cls ≠ "java/lang/invoke/VarHandle" ∧ (parseMethodDescriptor yX1_firstOf.desc).map (fun d => d.parameters.length) = some 1) := by decide +kernel
theorem lk_RX0_88 : cb_LV RX0 88 yX1_firstOf cX1_firstOf 2 (some .int) 1 := ⟨tb_at (tb_m3 (List.mem_of_getElem? (i := 170) rfl)) rfl, ks_X1_firstOf.1, ks_X1_firstOf.2, ki_X1_firstOf, kc_X1_firstOf, kd_X1_firstOf⟩
theorem kc_X1_isJoined : Cond.code yX1_isJoined cX1_isJoined 2 (some .boolean) ∈ tb_G := tb_at (tb_m3 (List.mem_of_getElem? (i := 77) rfl)) rfl
theorem ki_X1_isJoined : Cond.initialized yX1_isJoined.cls ∈ tb_G := tb_at (tb_m1 (List.mem_of_getElem? (i := 3) rfl)) rfl
theorem ks_X1_isJoined : Cond.instanceMethod yX1_isJoined ∈ tb_G ∧ Cond.selects yX1_isJoined.cls yX1_isJoined yX1_isJoined ∈ tb_G := ⟨tb_at (tb_m3 (List.mem_of_getElem? (i := 75) rfl)) rfl, tb_at (tb_m3 (List.mem_of_getElem? (i := 76) rfl)) rfl⟩
theorem kd_X1_isJoined : (yX1_isJoined.cls ≠ "java/lang/invoke/MethodHandle" ∧ yX1_isJoined.cls ≠ "java/lang/invoke/VarHandle" ∧ (parseMethodDescriptor yX1_isJoined.desc).map (fun d => d.parameters.length) = some 1) := by decide +kernel
theorem lk_RX0_91 : cb_LV RX0 91 yX1_isJoined cX1_isJoined 2 (some .boolean) 1 := ⟨tb_at (tb_m3 (List.mem_of_getElem? (i := 185) rfl)) rfl, ks_X1_isJoined.1, ks_X1_isJoined.2, ki_X1_isJoined, kc_X1_isJoined, kd_X1_isJoined⟩
theorem kc_X0_toSideOf : Cond.code yX0_toSideOf cX0_toSideOf 3 none ∈ tb_G := tb_at (tb_m3 (List.mem_of_getElem? (i := 167) rfl)) rfl
theorem ki_X0_toSideOf : Cond.initialized yX0_toSideOf.cls ∈ tb_G := tb_at (tb_m1 (List.mem_of_getElem? (i := 6) rfl)) rfl
theorem ks_X0_toSideOf : Cond.instanceMethod yX0_toSideOf ∈ tb_G ∧ Cond.selects yX0_toSideOf.cls yX0_toSideOf yX0_toSideOf ∈ tb_G := ⟨tb_at (tb_m3 (List.mem_of_getElem? (i := 165) rfl)) rfl, tb_at (tb_m3 (List.mem_of_getElem? (i := 166) rfl)) rfl⟩
theorem kd_X0_toSideOf : (yX0_toSideOf.cls ≠ "java/lang/invoke/MethodHandle" ∧ yX0_toSideOf.cls ≠ "java/lang/invoke/VarHandle" ∧ (parseMethodDescriptor yX0_toSideOf.desc).map (fun d => d.parameters.length) = some 2) := by decide +kernel
theorem lk_RX0_94 : cb_LV RX0 94 yX0_toSideOf cX0_toSideOf 3 none 2 := ⟨tb_at (tb_m3 (List.mem_of_getElem? (i := 164) rfl)) rfl, ks_X0_toSideOf.1, ks_X0_toSideOf.2, ki_X0_toSideOf, kc_X0_toSideOf, kd_X0_toSideOf⟩
theorem kc_X0_x : Cond.code yX0_x cX0_x 2 (some .int) ∈ tb_G := tb_at (tb_m3 (List.mem_of_getElem? (i := 103) rfl)) rfl
theorem ki_X0_x : Cond.initialized yX0_x.cls ∈ tb_G := tb_at (tb_m1 (List.mem_of_getElem? (i := 6) rfl)) rfl
theorem ks_X0_x : Cond.instanceMethod yX0_x ∈ tb_G ∧ Cond.selects yX0_x.cls yX0_x yX0_x ∈ tb_G := ⟨tb_at (tb_m3 (List.mem_of_getElem? (i := 101) rfl)) rfl, tb_at (tb_m3 (List.mem_of_getElem? (i := 102) rfl)) rfl⟩
theorem kd_X0_x : (yX0_x.cls ≠ "java/lang/invoke/MethodHandle" ∧ yX0_x.cls ≠ "java/lang/invoke/VarHandle" ∧ (parseMethodDescriptor yX0_x.desc).map (fun d => d.parameters.length) = some 0) := by decide +kernel
theorem lk_RX0_98 : cb_LV RX0 98 yX0_x cX0_x 2 (some .int) 0 := ⟨tb_at (tb_m3 (List.mem_of_getElem? (i := 171) rfl)) rfl, ks_X0_x.1, ks_X0_x.2, ki_X0_x, kc_X0_x, kd_X0_x⟩
theorem kc_X6_clusterWithLeft : Cond.code yX6_clusterWithLeft cX6_clusterWithLeft 3 (some .int) ∈ tb_G := tb_at (tb_m3 (List.mem_of_getElem? (i := 175) rfl)) rfl
theorem ki_X6_clusterWithLeft : Cond.initialized yX6_clusterWithLeft.cls ∈ tb_G := tb_at (tb_m1 (List.mem_of_getElem? (i := 5) rfl)) rfl
theorem ks_X6_clusterWithLeft : Cond.instanceMethod yX6_clusterWithLeft ∈ tb_G ∧ Cond.selects yX6_clusterWithLeft.cls yX6_clusterWithLeft yX6_clusterWithLeft ∈ tb_G := ⟨tb_at (tb_m3 (List.mem_of_getElem? (i := 173) rfl)) rfl, tb_at (tb_m3 (List.mem_of_getElem? (i := 174) rfl)) rfl⟩
theorem kd_X6_clusterWithLeft : (yX6_clusterWithLeft.cls ≠ "java/lang/invoke/MethodHandle" ∧ yX6_clusterWithLeft.cls ≠ "java/lang/invoke/VarHandle" ∧ (parseMethodDescriptor yX6_clusterWithLeft.desc).map (fun d => d.parameters.length) = some 1) := by decide +kernel
theorem lk_RX0_101 : cb_LV RX0 101 yX6_clusterWithLeft cX6_clusterWithLeft 3 (some .int) 1 := ⟨tb_at (tb_m3 (List.mem_of_getElem? (i := 172) rfl)) rfl, ks_X6_clusterWithLeft.1, ks_X6_clusterWithLeft.2, ki_X6_clusterWithLeft, kc_X6_clusterWithLeft, kd_X6_clusterWithLeft⟩
theorem kc_X6_clusterWithRight : Cond.code yX6_clusterWithRight cX6_clusterWithRight 2 (some .int) ∈ tb_G := tb_at (tb_m3 (List.mem_of_getElem? (i := 184) rfl)) rfl
theorem ki_X6_clusterWithRight : Cond.initialized yX6_clusterWithRight.cls ∈ tb_G := tb_at (tb_m1 (List.mem_of_getElem? (i := 5) rfl)) rfl
theorem ks_X6_clusterWithRight : Cond.instanceMethod yX6_clusterWithRight ∈ tb_G ∧ Cond.selects yX6_clusterWithRight.cls yX6_clusterWithRight yX6_clusterWithRight ∈ tb_G := ⟨tb_at (tb_m3 (List.mem_of_getElem? (i := 182) rfl)) rfl, tb_at (tb_m3 (List.mem_of_getElem? (i := 183) rfl)) rfl⟩
theorem kd_X6_clusterWithRight : (yX6_clusterWithRight.cls ≠ "java/lang/invoke/MethodHandle" ∧ yX6_clusterWithRight.cls ≠ "java/lang/invoke/VarHandle" ∧ (parseMethodDescriptor yX6_clusterWithRight.desc).map (fun d => d.parameters.length) = some 1) := by decide +kernel
theorem lk_RX0_104 : cb_LV RX0 104 yX6_clusterWithRight cX6_clusterWithRight 2 (some .int) 1 := ⟨tb_at (tb_m3 (List.mem_of_getElem? (i := 181) rfl)) rfl, ks_X6_clusterWithRight.1, ks_X6_clusterWithRight.2, ki_X6_clusterWithRight, kc_X6_clusterWithRight, kd_X6_clusterWithRight⟩
theorem kc_X0_toMiddleOf : Cond.code yX0_toMiddleOf cX0_toMiddleOf 2 none ∈ tb_G := tb_at (tb_m3 (List.mem_of_getElem? (i := 189) rfl)) rfl
theorem ki_X0_toMiddleOf : Cond.initialized yX0_toMiddleOf.cls ∈ tb_G := tb_at (tb_m1 (List.mem_of_getElem? (i := 6) rfl)) rfl
theorem ks_X0_toMiddleOf : Cond.instanceMethod yX0_toMiddleOf ∈ tb_G ∧ Cond.selects yX0_toMiddleOf.cls yX0_toMiddleOf yX0_toMiddleOf ∈ tb_G := ⟨tb_at (tb_m3 (List.mem_of_getElem? (i := 187) rfl)) rfl, tb_at (tb_m3 (List.mem_of_getElem? (i := 188) rfl)) rfl⟩
theorem kd_X0_toMiddleOf : (yX0_toMiddleOf.cls ≠ "java/lang/invoke/MethodHandle" ∧ yX0_toMiddleOf.cls ≠ "java/lang/invoke/VarHandle" ∧ (parseMethodDescriptor yX0_toMiddleOf.desc).map (fun d => d.parameters.length) = some 1) := by decide +kernel
theorem lk_RX0_107 : cb_LV RX0 107 yX0_toMiddleOf cX0_toMiddleOf 2 none 1 := ⟨tb_at (tb_m3 (List.mem_of_getElem? (i := 186) rfl)) rfl, ks_X0_toMiddleOf.1, ks_X0_toMiddleOf.2, ki_X0_toMiddleOf, kc_X0_toMiddleOf, kd_X0_toMiddleOf⟩
theorem kc_X1_findJoins : Cond.code yX1_findJoins cX1_findJoins 3 none ∈ tb_G := tb_at (tb_m1 (List.mem_of_getElem? (i := 226) rfl)) rfl
theorem ki_X1_findJoins : Cond.initialized yX1_findJoins.cls ∈ tb_G := tb_at (tb_m1 (List.mem_of_getElem? (i := 3) rfl)) rfl
theorem ks_X1_findJoins : Cond.instanceMethod yX1_findJoins ∈ tb_G ∧ Cond.selects yX1_findJoins.cls yX1_findJoins yX1_findJoins ∈ tb_G := ⟨tb_at (tb_m1 (List.mem_of_getElem? (i := 225) rfl)) rfl, tb_at (tb_m0 (List.mem_of_getElem? (i := 1) rfl)) rfl⟩
theorem kd_X1_findJoins : (yX1_findJoins.cls ≠ "java/lang/invoke/MethodHandle" ∧ yX1_findJoins.cls ≠ "java/lang/invoke/VarHandle" ∧ (parseMethodDescriptor yX1_findJoins.desc).map (fun d => d.parameters.length) = some 1) := by decide +kernel
theorem lk_RX1_34 : cb_LV RX1 34 yX1_findJoins cX1_findJoins 3 none 1 := ⟨tb_at (tb_m1 (List.mem_of_getElem? (i := 223) rfl)) rfl, ks_X1_findJoins.1, ks_X1_findJoins.2, ki_X1_findJoins, kc_X1_findJoins, kd_X1_findJoins⟩
theorem kc_J7_fill_53178 : Cond.code yJ7_fill_53178 cJ7_fill_53178 4 none ∈ tb_G := tb_at (tb_m2 (List.mem_of_getElem? (i := 15) rfl)) rfl
theorem ki_J7_fill_53178 : Cond.initialized yJ7_fill_53178.cls ∈ tb_G := tb_at (tb_m1 (List.mem_of_getElem? (i := 10) rfl)) rfl
theorem ks_J7_fill_53178 : Cond.static yJ7_fill_53178 ∈ tb_G := tb_at (tb_m2 (List.mem_of_getElem? (i := 14) rfl)) rfl
theorem kd_J7_fill_53178 : (yJ7_fill_53178.cls ≠ "java/lang/invoke/MethodHandle" ∧ yJ7_fill_53178.cls ≠ "java/lang/invoke/VarHandle" ∧ (parseMethodDescriptor yJ7_fill_53178.desc).map (fun d => d.parameters.length) = some 2) := by decide +kernel
theorem lk_RX1_38 : cb_LS RX1 38 yJ7_fill_53178 cJ7_fill_53178 4 none 2 := ⟨tb_at (tb_m2 (List.mem_of_getElem? (i := 13) rfl)) rfl, ks_J7_fill_53178, ki_J7_fill_53178, kc_J7_fill_53178, kd_J7_fill_53178⟩
theorem kc_X3_length : Cond.code yX3_length cX3_length 1 (some .int) ∈ tb_G := tb_at (tb_m1 (List.mem_of_getElem? (i := 230) rfl)) rfl
theorem ki_X3_length : Cond.initialized yX3_length.cls ∈ tb_G := tb_at (tb_m1 (List.mem_of_getElem? (i := 2) rfl)) rfl
theorem ks_X3_length : Cond.instanceMethod yX3_length ∈ tb_G ∧ Cond.selects yX3_length.cls yX3_length yX3_length ∈ tb_G := ⟨tb_at (tb_m1 (List.mem_of_getElem? (i := 228) rfl)) rfl, tb_at (tb_m1 (List.mem_of_getElem? (i := 229) rfl)) rfl⟩
theorem kd_X3_length : (yX3_length.cls ≠ "java/lang/invoke/MethodHandle" ∧ yX3_length.cls ≠ "java/lang/invoke/VarHandle" ∧ (parseMethodDescriptor yX3_length.desc).map (fun d => d.parameters.length) = some 0) := by decide +kernel
theorem lk_RX1_51 : cb_LV RX1 51 yX3_length cX3_length 1 (some .int) 0 := ⟨tb_at (tb_m1 (List.mem_of_getElem? (i := 227) rfl)) rfl, ks_X3_length.1, ks_X3_length.2, ki_X3_length, kc_X3_length, kd_X3_length⟩
theorem kc_X3_at : Cond.code yX3_at cX3_at 2 (some .int) ∈ tb_G := tb_at (tb_m1 (List.mem_of_getElem? (i := 234) rfl)) rfl
theorem ki_X3_at : Cond.initialized yX3_at.cls ∈ tb_G := tb_at (tb_m1 (List.mem_of_getElem? (i := 2) rfl)) rfl
theorem ks_X3_at : Cond.instanceMethod yX3_at ∈ tb_G ∧ Cond.selects yX3_at.cls yX3_at yX3_at ∈ tb_G := ⟨tb_at (tb_m1 (List.mem_of_getElem? (i := 232) rfl)) rfl, tb_at (tb_m1 (List.mem_of_getElem? (i := 233) rfl)) rfl⟩
theorem kd_X3_at : (yX3_at.cls ≠ "java/lang/invoke/MethodHandle" ∧ yX3_at.cls ≠ "java/lang/invoke/VarHandle" ∧ (parseMethodDescriptor yX3_at.desc).map (fun d => d.parameters.length) = some 1) := by decide +kernel
theorem lk_RX1_60 : cb_LV RX1 60 yX3_at cX3_at 2 (some .int) 1 := ⟨tb_at (tb_m1 (List.mem_of_getElem? (i := 231) rfl)) rfl, ks_X3_at.1, ks_X3_at.2, ki_X3_at, kc_X3_at, kd_X3_at⟩
theorem kc_X7_isMark : Cond.code yX7_isMark cX7_isMark 1 (some .boolean) ∈ tb_G := tb_at (tb_m2 (List.mem_of_getElem? (i := 18) rfl)) rfl
theorem ki_X7_isMark : Cond.initialized yX7_isMark.cls ∈ tb_G := tb_at (tb_m1 (List.mem_of_getElem? (i := 9) rfl)) rfl
theorem ks_X7_isMark : Cond.static yX7_isMark ∈ tb_G := tb_at (tb_m2 (List.mem_of_getElem? (i := 17) rfl)) rfl
theorem kd_X7_isMark : (yX7_isMark.cls ≠ "java/lang/invoke/MethodHandle" ∧ yX7_isMark.cls ≠ "java/lang/invoke/VarHandle" ∧ (parseMethodDescriptor yX7_isMark.desc).map (fun d => d.parameters.length) = some 1) := by decide +kernel
theorem lk_RX1_64 : cb_LS RX1 64 yX7_isMark cX7_isMark 1 (some .boolean) 1 := ⟨tb_at (tb_m2 (List.mem_of_getElem? (i := 16) rfl)) rfl, ks_X7_isMark, ki_X7_isMark, kc_X7_isMark, kd_X7_isMark⟩
theorem kc_X1_begins : Cond.code yX1_begins cX1_begins 4 (some .boolean) ∈ tb_G := tb_at (tb_m2 (List.mem_of_getElem? (i := 22) rfl)) rfl
theorem ki_X1_begins : Cond.initialized yX1_begins.cls ∈ tb_G := tb_at (tb_m1 (List.mem_of_getElem? (i := 3) rfl)) rfl
theorem ks_X1_begins : Cond.instanceMethod yX1_begins ∈ tb_G ∧ Cond.selects yX1_begins.cls yX1_begins yX1_begins ∈ tb_G := ⟨tb_at (tb_m2 (List.mem_of_getElem? (i := 21) rfl)) rfl, tb_at (tb_m0 (List.mem_of_getElem? (i := 2) rfl)) rfl⟩
theorem kd_X1_begins : (yX1_begins.cls ≠ "java/lang/invoke/MethodHandle" ∧ yX1_begins.cls ≠ "java/lang/invoke/VarHandle" ∧ (parseMethodDescriptor yX1_begins.desc).map (fun d => d.parameters.length) = some 3) := by decide +kernel
theorem lk_RX1_70 : cb_LV RX1 70 yX1_begins cX1_begins 4 (some .boolean) 3 := ⟨tb_at (tb_m2 (List.mem_of_getElem? (i := 19) rfl)) rfl, ks_X1_begins.1, ks_X1_begins.2, ki_X1_begins, kc_X1_begins, kd_X1_begins⟩
theorem kc_X1_add : Cond.code yX1_add cX1_add 4 none ∈ tb_G := tb_at (tb_m2 (List.mem_of_getElem? (i := 26) rfl)) rfl
theorem ki_X1_add : Cond.initialized yX1_add.cls ∈ tb_G := tb_at (tb_m1 (List.mem_of_getElem? (i := 3) rfl)) rfl
theorem ks_X1_add : Cond.instanceMethod yX1_add ∈ tb_G ∧ Cond.selects yX1_add.cls yX1_add yX1_add ∈ tb_G := ⟨tb_at (tb_m2 (List.mem_of_getElem? (i := 25) rfl)) rfl, tb_at (tb_m0 (List.mem_of_getElem? (i := 3) rfl)) rfl⟩
theorem kd_X1_add : (yX1_add.cls ≠ "java/lang/invoke/MethodHandle" ∧ yX1_add.cls ≠ "java/lang/invoke/VarHandle" ∧ (parseMethodDescriptor yX1_add.desc).map (fun d => d.parameters.length) = some 3) := by decide +kernel
theorem lk_RX1_74 : cb_LV RX1 74 yX1_add cX1_add 4 none 3 := ⟨tb_at (tb_m2 (List.mem_of_getElem? (i := 23) rfl)) rfl, ks_X1_add.1, ks_X1_add.2, ki_X1_add, kc_X1_add, kd_X1_add⟩
theorem kc_X7_isLetter : Cond.code yX7_isLetter cX7_isLetter 1 (some .boolean) ∈ tb_G := tb_at (tb_m2 (List.mem_of_getElem? (i := 1) rfl)) rfl
theorem ki_X7_isLetter : Cond.initialized yX7_isLetter.cls ∈ tb_G := tb_at (tb_m1 (List.mem_of_getElem? (i := 9) rfl)) rfl
theorem ks_X7_isLetter : Cond.static yX7_isLetter ∈ tb_G := tb_at (tb_m2 (List.mem_of_getElem? (i := 0) rfl)) rfl
theorem kd_X7_isLetter : (yX7_isLetter.cls ≠ "java/lang/invoke/MethodHandle" ∧ yX7_isLetter.cls ≠ "java/lang/invoke/VarHandle" ∧ (parseMethodDescriptor yX7_isLetter.desc).map (fun d => d.parameters.length) = some 1) := by decide +kernel
theorem lk_RX1_78 : cb_LS RX1 78 yX7_isLetter cX7_isLetter 1 (some .boolean) 1 := ⟨tb_at (tb_m1 (List.mem_of_getElem? (i := 239) rfl)) rfl, ks_X7_isLetter, ki_X7_isLetter, kc_X7_isLetter, kd_X7_isLetter⟩
theorem kc_X7_kindOf : Cond.code yX7_kindOf cX7_kindOf 1 (some .int) ∈ tb_G := tb_at (tb_m2 (List.mem_of_getElem? (i := 4) rfl)) rfl
theorem ki_X7_kindOf : Cond.initialized yX7_kindOf.cls ∈ tb_G := tb_at (tb_m1 (List.mem_of_getElem? (i := 9) rfl)) rfl
theorem ks_X7_kindOf : Cond.static yX7_kindOf ∈ tb_G := tb_at (tb_m2 (List.mem_of_getElem? (i := 3) rfl)) rfl
theorem kd_X7_kindOf : (yX7_kindOf.cls ≠ "java/lang/invoke/MethodHandle" ∧ yX7_kindOf.cls ≠ "java/lang/invoke/VarHandle" ∧ (parseMethodDescriptor yX7_kindOf.desc).map (fun d => d.parameters.length) = some 1) := by decide +kernel
theorem lk_RX1_81 : cb_LS RX1 81 yX7_kindOf cX7_kindOf 1 (some .int) 1 := ⟨tb_at (tb_m2 (List.mem_of_getElem? (i := 8) rfl)) rfl, ks_X7_kindOf, ki_X7_kindOf, kc_X7_kindOf, kd_X7_kindOf⟩
theorem kc_X1_joinsAt : Cond.code yX1_joinsAt cX1_joinsAt 2 (some .boolean) ∈ tb_G := tb_at (tb_m2 (List.mem_of_getElem? (i := 12) rfl)) rfl
theorem ki_X1_joinsAt : Cond.initialized yX1_joinsAt.cls ∈ tb_G := tb_at (tb_m1 (List.mem_of_getElem? (i := 3) rfl)) rfl
theorem ks_X1_joinsAt : Cond.instanceMethod yX1_joinsAt ∈ tb_G ∧ Cond.selects yX1_joinsAt.cls yX1_joinsAt yX1_joinsAt ∈ tb_G := ⟨tb_at (tb_m2 (List.mem_of_getElem? (i := 10) rfl)) rfl, tb_at (tb_m2 (List.mem_of_getElem? (i := 11) rfl)) rfl⟩
theorem kd_X1_joinsAt : (yX1_joinsAt.cls ≠ "java/lang/invoke/MethodHandle" ∧ yX1_joinsAt.cls ≠ "java/lang/invoke/VarHandle" ∧ (parseMethodDescriptor yX1_joinsAt.desc).map (fun d => d.parameters.length) = some 1) := by decide +kernel
theorem lk_RX1_84 : cb_LV RX1 84 yX1_joinsAt cX1_joinsAt 2 (some .boolean) 1 := ⟨tb_at (tb_m2 (List.mem_of_getElem? (i := 9) rfl)) rfl, ks_X1_joinsAt.1, ks_X1_joinsAt.2, ki_X1_joinsAt, kc_X1_joinsAt, kd_X1_joinsAt⟩
theorem kc_X7_widthOf : Cond.code yX7_widthOf cX7_widthOf 1 (some .int) ∈ tb_G := tb_at (tb_m2 (List.mem_of_getElem? (i := 29) rfl)) rfl
theorem ki_X7_widthOf : Cond.initialized yX7_widthOf.cls ∈ tb_G := tb_at (tb_m1 (List.mem_of_getElem? (i := 9) rfl)) rfl
theorem ks_X7_widthOf : Cond.static yX7_widthOf ∈ tb_G := tb_at (tb_m2 (List.mem_of_getElem? (i := 28) rfl)) rfl
theorem kd_X7_widthOf : (yX7_widthOf.cls ≠ "java/lang/invoke/MethodHandle" ∧ yX7_widthOf.cls ≠ "java/lang/invoke/VarHandle" ∧ (parseMethodDescriptor yX7_widthOf.desc).map (fun d => d.parameters.length) = some 1) := by decide +kernel
theorem lk_RX1_87 : cb_LS RX1 87 yX7_widthOf cX7_widthOf 1 (some .int) 1 := ⟨tb_at (tb_m2 (List.mem_of_getElem? (i := 27) rfl)) rfl, ks_X7_widthOf, ki_X7_widthOf, kc_X7_widthOf, kd_X7_widthOf⟩
theorem lk_RX1_90 : cb_LV RX1 90 yX1_has cX1_has 2 (some .boolean) 1 := ⟨tb_at (tb_m2 (List.mem_of_getElem? (i := 116) rfl)) rfl, ks_X1_has.1, ks_X1_has.2, ki_X1_has, kc_X1_has, kd_X1_has⟩
theorem kc_X8_valueAt : Cond.code yX8_valueAt cX8_valueAt 3 (some .int) ∈ tb_G := tb_at (tb_m2 (List.mem_of_getElem? (i := 50) rfl)) rfl
theorem ki_X8_valueAt : Cond.initialized yX8_valueAt.cls ∈ tb_G := tb_at (tb_m1 (List.mem_of_getElem? (i := 1) rfl)) rfl
theorem ks_X8_valueAt : Cond.static yX8_valueAt ∈ tb_G := tb_at (tb_m2 (List.mem_of_getElem? (i := 49) rfl)) rfl
theorem kd_X8_valueAt : (yX8_valueAt.cls ≠ "java/lang/invoke/MethodHandle" ∧ yX8_valueAt.cls ≠ "java/lang/invoke/VarHandle" ∧ (parseMethodDescriptor yX8_valueAt.desc).map (fun d => d.parameters.length) = some 3) := by decide +kernel
theorem lk_RX1_93 : cb_LN RX1 93 yX8_valueAt "CaretBench" cX8_valueAt 3 (some .int) 3 := ⟨cb_nest1, ks_X8_valueAt, ki_X8_valueAt, kc_X8_valueAt, kd_X8_valueAt⟩
theorem lk_RX1_97 : cb_LV RX1 97 yX1_joinedAround cX1_joinedAround 2 (some .int) 1 := ⟨tb_at (tb_m4 (List.mem_of_getElem? (i := 29) rfl)) rfl, ks_X1_joinedAround.1, ks_X1_joinedAround.2, ki_X1_joinedAround, kc_X1_joinedAround, kd_X1_joinedAround⟩
theorem lk_RX1_100 : cb_LV RX1 100 yX1_endingAt cX1_endingAt 2 (some .int) 1 := ⟨tb_at (tb_m4 (List.mem_of_getElem? (i := 30) rfl)) rfl, ks_X1_endingAt.1, ks_X1_endingAt.2, ki_X1_endingAt, kc_X1_endingAt, kd_X1_endingAt⟩
theorem lk_RX1_103 : cb_LV RX1 103 yX1_beginningAt cX1_beginningAt 2 (some .int) 1 := ⟨tb_at (tb_m4 (List.mem_of_getElem? (i := 39) rfl)) rfl, ks_X1_beginningAt.1, ks_X1_beginningAt.2, ki_X1_beginningAt, kc_X1_beginningAt, kd_X1_beginningAt⟩
theorem kc_X1_isBetween : Cond.code yX1_isBetween cX1_isBetween 2 (some .boolean) ∈ tb_G := tb_at (tb_m2 (List.mem_of_getElem? (i := 239) rfl)) rfl
theorem ki_X1_isBetween : Cond.initialized yX1_isBetween.cls ∈ tb_G := tb_at (tb_m1 (List.mem_of_getElem? (i := 3) rfl)) rfl
theorem ks_X1_isBetween : Cond.instanceMethod yX1_isBetween ∈ tb_G ∧ Cond.selects yX1_isBetween.cls yX1_isBetween yX1_isBetween ∈ tb_G := ⟨tb_at (tb_m2 (List.mem_of_getElem? (i := 237) rfl)) rfl, tb_at (tb_m2 (List.mem_of_getElem? (i := 238) rfl)) rfl⟩
theorem kd_X1_isBetween : (yX1_isBetween.cls ≠ "java/lang/invoke/MethodHandle" ∧ yX1_isBetween.cls ≠ "java/lang/invoke/VarHandle" ∧ (parseMethodDescriptor yX1_isBetween.desc).map (fun d => d.parameters.length) = some 1) := by decide +kernel
theorem lk_RX1_106 : cb_LV RX1 106 yX1_isBetween cX1_isBetween 2 (some .boolean) 1 := ⟨tb_at (tb_m2 (List.mem_of_getElem? (i := 236) rfl)) rfl, ks_X1_isBetween.1, ks_X1_isBetween.2, ki_X1_isBetween, kc_X1_isBetween, kd_X1_isBetween⟩
theorem kc_X1_isStand : Cond.code yX1_isStand cX1_isStand 2 (some .boolean) ∈ tb_G := tb_at (tb_m2 (List.mem_of_getElem? (i := 235) rfl)) rfl
theorem ki_X1_isStand : Cond.initialized yX1_isStand.cls ∈ tb_G := tb_at (tb_m1 (List.mem_of_getElem? (i := 3) rfl)) rfl
theorem ks_X1_isStand : Cond.instanceMethod yX1_isStand ∈ tb_G ∧ Cond.selects yX1_isStand.cls yX1_isStand yX1_isStand ∈ tb_G := ⟨tb_at (tb_m2 (List.mem_of_getElem? (i := 233) rfl)) rfl, tb_at (tb_m2 (List.mem_of_getElem? (i := 234) rfl)) rfl⟩
theorem kd_X1_isStand : (yX1_isStand.cls ≠ "java/lang/invoke/MethodHandle" ∧ yX1_isStand.cls ≠ "java/lang/invoke/VarHandle" ∧ (parseMethodDescriptor yX1_isStand.desc).map (fun d => d.parameters.length) = some 1) := by decide +kernel
theorem lk_RX1_115 : cb_LV RX1 115 yX1_isStand cX1_isStand 2 (some .boolean) 1 := ⟨tb_at (tb_m2 (List.mem_of_getElem? (i := 232) rfl)) rfl, ks_X1_isStand.1, ks_X1_isStand.2, ki_X1_isStand, kc_X1_isStand, kd_X1_isStand⟩
theorem kc_X3_saveTo : Cond.code yX3_saveTo cX3_saveTo 3 none ∈ tb_G := tb_at (tb_m2 (List.mem_of_getElem? (i := 209) rfl)) rfl
theorem ki_X3_saveTo : Cond.initialized yX3_saveTo.cls ∈ tb_G := tb_at (tb_m1 (List.mem_of_getElem? (i := 2) rfl)) rfl
theorem ks_X3_saveTo : Cond.instanceMethod yX3_saveTo ∈ tb_G ∧ Cond.selects yX3_saveTo.cls yX3_saveTo yX3_saveTo ∈ tb_G := ⟨tb_at (tb_m2 (List.mem_of_getElem? (i := 207) rfl)) rfl, tb_at (tb_m2 (List.mem_of_getElem? (i := 208) rfl)) rfl⟩
theorem kd_X3_saveTo : (yX3_saveTo.cls ≠ "java/lang/invoke/MethodHandle" ∧ yX3_saveTo.cls ≠ "java/lang/invoke/VarHandle" ∧ (parseMethodDescriptor yX3_saveTo.desc).map (fun d => d.parameters.length) = some 1) := by decide +kernel
theorem lk_RX2_33 : cb_LV RX2 33 yX3_saveTo cX3_saveTo 3 none 1 := ⟨tb_at (tb_m2 (List.mem_of_getElem? (i := 206) rfl)) rfl, ks_X3_saveTo.1, ks_X3_saveTo.2, ki_X3_saveTo, kc_X3_saveTo, kd_X3_saveTo⟩
theorem lk_RX2_39 : cb_LV RX2 39 yX3_length cX3_length 1 (some .int) 0 := ⟨tb_at (tb_m2 (List.mem_of_getElem? (i := 210) rfl)) rfl, ks_X3_length.1, ks_X3_length.2, ki_X3_length, kc_X3_length, kd_X3_length⟩
theorem kc_X3_loadFrom : Cond.code yX3_loadFrom cX3_loadFrom 4 none ∈ tb_G := tb_at (tb_m4 (List.mem_of_getElem? (i := 59) rfl)) rfl
theorem ki_X3_loadFrom : Cond.initialized yX3_loadFrom.cls ∈ tb_G := tb_at (tb_m1 (List.mem_of_getElem? (i := 2) rfl)) rfl
theorem ks_X3_loadFrom : Cond.instanceMethod yX3_loadFrom ∈ tb_G ∧ Cond.selects yX3_loadFrom.cls yX3_loadFrom yX3_loadFrom ∈ tb_G := ⟨tb_at (tb_m4 (List.mem_of_getElem? (i := 57) rfl)) rfl, tb_at (tb_m4 (List.mem_of_getElem? (i := 58) rfl)) rfl⟩
theorem kd_X3_loadFrom : (yX3_loadFrom.cls ≠ "java/lang/invoke/MethodHandle" ∧ yX3_loadFrom.cls ≠ "java/lang/invoke/VarHandle" ∧ (parseMethodDescriptor yX3_loadFrom.desc).map (fun d => d.parameters.length) = some 2) := by decide +kernel
theorem lk_RX2_49 : cb_LV RX2 49 yX3_loadFrom cX3_loadFrom 4 none 2 := ⟨tb_at (tb_m4 (List.mem_of_getElem? (i := 56) rfl)) rfl, ks_X3_loadFrom.1, ks_X3_loadFrom.2, ki_X3_loadFrom, kc_X3_loadFrom, kd_X3_loadFrom⟩
theorem lk_RX2_53 : cb_LN RX2 53 yX8_valueAt "CaretBench" cX8_valueAt 3 (some .int) 3 := ⟨cb_nest2, ks_X8_valueAt, ki_X8_valueAt, kc_X8_valueAt, kd_X8_valueAt⟩
theorem kc_X3_has : Cond.code yX3_has cX3_has 2 (some .boolean) ∈ tb_G := tb_at (tb_m1 (List.mem_of_getElem? (i := 238) rfl)) rfl
theorem ki_X3_has : Cond.initialized yX3_has.cls ∈ tb_G := tb_at (tb_m1 (List.mem_of_getElem? (i := 2) rfl)) rfl
theorem ks_X3_has : Cond.instanceMethod yX3_has ∈ tb_G ∧ Cond.selects yX3_has.cls yX3_has yX3_has ∈ tb_G := ⟨tb_at (tb_m1 (List.mem_of_getElem? (i := 236) rfl)) rfl, tb_at (tb_m1 (List.mem_of_getElem? (i := 237) rfl)) rfl⟩
theorem kd_X3_has : (yX3_has.cls ≠ "java/lang/invoke/MethodHandle" ∧ yX3_has.cls ≠ "java/lang/invoke/VarHandle" ∧ (parseMethodDescriptor yX3_has.desc).map (fun d => d.parameters.length) = some 1) := by decide +kernel
theorem lk_RX3_22 : cb_LV RX3 22 yX3_has cX3_has 2 (some .boolean) 1 := ⟨tb_at (tb_m1 (List.mem_of_getElem? (i := 235) rfl)) rfl, ks_X3_has.1, ks_X3_has.2, ki_X3_has, kc_X3_has, kd_X3_has⟩
theorem kc_X1_number : Cond.code yX1_number cX1_number 1 (some .int) ∈ tb_G := tb_at (tb_m2 (List.mem_of_getElem? (i := 110) rfl)) rfl
theorem ki_X1_number : Cond.initialized yX1_number.cls ∈ tb_G := tb_at (tb_m1 (List.mem_of_getElem? (i := 3) rfl)) rfl
theorem ks_X1_number : Cond.instanceMethod yX1_number ∈ tb_G ∧ Cond.selects yX1_number.cls yX1_number yX1_number ∈ tb_G := ⟨tb_at (tb_m2 (List.mem_of_getElem? (i := 108) rfl)) rfl, tb_at (tb_m2 (List.mem_of_getElem? (i := 109) rfl)) rfl⟩
theorem kd_X1_number : (yX1_number.cls ≠ "java/lang/invoke/MethodHandle" ∧ yX1_number.cls ≠ "java/lang/invoke/VarHandle" ∧ (parseMethodDescriptor yX1_number.desc).map (fun d => d.parameters.length) = some 0) := by decide +kernel
theorem lk_RX4_22 : cb_LV RX4 22 yX1_number cX1_number 1 (some .int) 0 := ⟨tb_at (tb_m3 (List.mem_of_getElem? (i := 234) rfl)) rfl, ks_X1_number.1, ks_X1_number.2, ki_X1_number, kc_X1_number, kd_X1_number⟩
theorem kc_X6_clusterAtPlace : Cond.code yX6_clusterAtPlace cX6_clusterAtPlace 2 (some .int) ∈ tb_G := tb_at (tb_m3 (List.mem_of_getElem? (i := 89) rfl)) rfl
theorem ki_X6_clusterAtPlace : Cond.initialized yX6_clusterAtPlace.cls ∈ tb_G := tb_at (tb_m1 (List.mem_of_getElem? (i := 5) rfl)) rfl
theorem ks_X6_clusterAtPlace : Cond.instanceMethod yX6_clusterAtPlace ∈ tb_G ∧ Cond.selects yX6_clusterAtPlace.cls yX6_clusterAtPlace yX6_clusterAtPlace ∈ tb_G := ⟨tb_at (tb_m3 (List.mem_of_getElem? (i := 87) rfl)) rfl, tb_at (tb_m3 (List.mem_of_getElem? (i := 88) rfl)) rfl⟩
theorem kd_X6_clusterAtPlace : (yX6_clusterAtPlace.cls ≠ "java/lang/invoke/MethodHandle" ∧ yX6_clusterAtPlace.cls ≠ "java/lang/invoke/VarHandle" ∧ (parseMethodDescriptor yX6_clusterAtPlace.desc).map (fun d => d.parameters.length) = some 1) := by decide +kernel
theorem lk_RX4_27 : cb_LV RX4 27 yX6_clusterAtPlace cX6_clusterAtPlace 2 (some .int) 1 := ⟨tb_at (tb_m3 (List.mem_of_getElem? (i := 235) rfl)) rfl, ks_X6_clusterAtPlace.1, ks_X6_clusterAtPlace.2, ki_X6_clusterAtPlace, kc_X6_clusterAtPlace, kd_X6_clusterAtPlace⟩
theorem lk_RX4_33 : cb_LV RX4 33 yX1_firstOf cX1_firstOf 2 (some .int) 1 := ⟨tb_at (tb_m3 (List.mem_of_getElem? (i := 236) rfl)) rfl, ks_X1_firstOf.1, ks_X1_firstOf.2, ki_X1_firstOf, kc_X1_firstOf, kd_X1_firstOf⟩
theorem lk_RX4_36 : cb_LV RX4 36 yX6_leftOf cX6_leftOf 2 (some .int) 1 := ⟨tb_at (tb_m3 (List.mem_of_getElem? (i := 237) rfl)) rfl, ks_X6_leftOf.1, ks_X6_leftOf.2, ki_X6_leftOf, kc_X6_leftOf, kd_X6_leftOf⟩
theorem lk_RX4_39 : cb_LV RX4 39 yX6_rightOf cX6_rightOf 3 (some .int) 1 := ⟨tb_at (tb_m3 (List.mem_of_getElem? (i := 238) rfl)) rfl, ks_X6_rightOf.1, ks_X6_rightOf.2, ki_X6_rightOf, kc_X6_rightOf, kd_X6_rightOf⟩
theorem kc_X4_add : Cond.code yX4_add cX4_add 4 none ∈ tb_G := tb_at (tb_m4 (List.mem_of_getElem? (i := 2) rfl)) rfl
theorem ki_X4_add : Cond.initialized yX4_add.cls ∈ tb_G := tb_at (tb_m1 (List.mem_of_getElem? (i := 7) rfl)) rfl
theorem ks_X4_add : Cond.instanceMethod yX4_add ∈ tb_G ∧ Cond.selects yX4_add.cls yX4_add yX4_add ∈ tb_G := ⟨tb_at (tb_m4 (List.mem_of_getElem? (i := 1) rfl)) rfl, tb_at (tb_m0 (List.mem_of_getElem? (i := 26) rfl)) rfl⟩
theorem kd_X4_add : (yX4_add.cls ≠ "java/lang/invoke/MethodHandle" ∧ yX4_add.cls ≠ "java/lang/invoke/VarHandle" ∧ (parseMethodDescriptor yX4_add.desc).map (fun d => d.parameters.length) = some 3) := by decide +kernel
theorem lk_RX4_42 : cb_LV RX4 42 yX4_add cX4_add 4 none 3 := ⟨tb_at (tb_m3 (List.mem_of_getElem? (i := 239) rfl)) rfl, ks_X4_add.1, ks_X4_add.2, ki_X4_add, kc_X4_add, kd_X4_add⟩
theorem lk_RX4_46 : cb_LN RX4 46 yX8_valueAt "CaretBench" cX8_valueAt 3 (some .int) 3 := ⟨cb_nest3, ks_X8_valueAt, ki_X8_valueAt, kc_X8_valueAt, kd_X8_valueAt⟩
theorem lk_RX5_42 : cb_LV RX5 42 yX3_length cX3_length 1 (some .int) 0 := ⟨tb_at (tb_m2 (List.mem_of_getElem? (i := 34) rfl)) rfl, ks_X3_length.1, ks_X3_length.2, ki_X3_length, kc_X3_length, kd_X3_length⟩
theorem kc_X3_base : Cond.code yX3_base cX3_base 1 (some .int) ∈ tb_G := tb_at (tb_m2 (List.mem_of_getElem? (i := 38) rfl)) rfl
theorem ki_X3_base : Cond.initialized yX3_base.cls ∈ tb_G := tb_at (tb_m1 (List.mem_of_getElem? (i := 2) rfl)) rfl
theorem ks_X3_base : Cond.instanceMethod yX3_base ∈ tb_G ∧ Cond.selects yX3_base.cls yX3_base yX3_base ∈ tb_G := ⟨tb_at (tb_m2 (List.mem_of_getElem? (i := 36) rfl)) rfl, tb_at (tb_m2 (List.mem_of_getElem? (i := 37) rfl)) rfl⟩
theorem kd_X3_base : (yX3_base.cls ≠ "java/lang/invoke/MethodHandle" ∧ yX3_base.cls ≠ "java/lang/invoke/VarHandle" ∧ (parseMethodDescriptor yX3_base.desc).map (fun d => d.parameters.length) = some 0) := by decide +kernel
theorem lk_RX5_51 : cb_LV RX5 51 yX3_base cX3_base 1 (some .int) 0 := ⟨tb_at (tb_m2 (List.mem_of_getElem? (i := 35) rfl)) rfl, ks_X3_base.1, ks_X3_base.2, ki_X3_base, kc_X3_base, kd_X3_base⟩
theorem kc_X5_divide : Cond.code yX5_divide cX5_divide 6 none ∈ tb_G := tb_at (tb_m2 (List.mem_of_getElem? (i := 42) rfl)) rfl
theorem ki_X5_divide : Cond.initialized yX5_divide.cls ∈ tb_G := tb_at (tb_m1 (List.mem_of_getElem? (i := 4) rfl)) rfl
theorem ks_X5_divide : Cond.instanceMethod yX5_divide ∈ tb_G ∧ Cond.selects yX5_divide.cls yX5_divide yX5_divide ∈ tb_G := ⟨tb_at (tb_m2 (List.mem_of_getElem? (i := 41) rfl)) rfl, tb_at (tb_m0 (List.mem_of_getElem? (i := 4) rfl)) rfl⟩
theorem kd_X5_divide : (yX5_divide.cls ≠ "java/lang/invoke/MethodHandle" ∧ yX5_divide.cls ≠ "java/lang/invoke/VarHandle" ∧ (parseMethodDescriptor yX5_divide.desc).map (fun d => d.parameters.length) = some 1) := by decide +kernel
theorem lk_RX5_57 : cb_LV RX5 57 yX5_divide cX5_divide 6 none 1 := ⟨tb_at (tb_m2 (List.mem_of_getElem? (i := 39) rfl)) rfl, ks_X5_divide.1, ks_X5_divide.2, ki_X5_divide, kc_X5_divide, kd_X5_divide⟩
theorem kc_X5_findKinds : Cond.code yX5_findKinds cX5_findKinds 5 none ∈ tb_G := tb_at (tb_m2 (List.mem_of_getElem? (i := 64) rfl)) rfl
theorem ki_X5_findKinds : Cond.initialized yX5_findKinds.cls ∈ tb_G := tb_at (tb_m1 (List.mem_of_getElem? (i := 4) rfl)) rfl
theorem ks_X5_findKinds : Cond.instanceMethod yX5_findKinds ∈ tb_G ∧ Cond.selects yX5_findKinds.cls yX5_findKinds yX5_findKinds ∈ tb_G := ⟨tb_at (tb_m2 (List.mem_of_getElem? (i := 63) rfl)) rfl, tb_at (tb_m0 (List.mem_of_getElem? (i := 7) rfl)) rfl⟩
theorem kd_X5_findKinds : (yX5_findKinds.cls ≠ "java/lang/invoke/MethodHandle" ∧ yX5_findKinds.cls ≠ "java/lang/invoke/VarHandle" ∧ (parseMethodDescriptor yX5_findKinds.desc).map (fun d => d.parameters.length) = some 2) := by decide +kernel
theorem lk_RX5_61 : cb_LV RX5 61 yX5_findKinds cX5_findKinds 5 none 2 := ⟨tb_at (tb_m2 (List.mem_of_getElem? (i := 61) rfl)) rfl, ks_X5_findKinds.1, ks_X5_findKinds.2, ki_X5_findKinds, kc_X5_findKinds, kd_X5_findKinds⟩
theorem kc_X5_settleSeparators : Cond.code yX5_settleSeparators cX5_settleSeparators 3 none ∈ tb_G := tb_at (tb_m2 (List.mem_of_getElem? (i := 75) rfl)) rfl
theorem ki_X5_settleSeparators : Cond.initialized yX5_settleSeparators.cls ∈ tb_G := tb_at (tb_m1 (List.mem_of_getElem? (i := 4) rfl)) rfl
theorem ks_X5_settleSeparators : Cond.instanceMethod yX5_settleSeparators ∈ tb_G ∧ Cond.selects yX5_settleSeparators.cls yX5_settleSeparators yX5_settleSeparators ∈ tb_G := ⟨tb_at (tb_m2 (List.mem_of_getElem? (i := 74) rfl)) rfl, tb_at (tb_m0 (List.mem_of_getElem? (i := 9) rfl)) rfl⟩
theorem kd_X5_settleSeparators : (yX5_settleSeparators.cls ≠ "java/lang/invoke/MethodHandle" ∧ yX5_settleSeparators.cls ≠ "java/lang/invoke/VarHandle" ∧ (parseMethodDescriptor yX5_settleSeparators.desc).map (fun d => d.parameters.length) = some 0) := by decide +kernel
theorem lk_RX5_65 : cb_LV RX5 65 yX5_settleSeparators cX5_settleSeparators 3 none 0 := ⟨tb_at (tb_m2 (List.mem_of_getElem? (i := 72) rfl)) rfl, ks_X5_settleSeparators.1, ks_X5_settleSeparators.2, ki_X5_settleSeparators, kc_X5_settleSeparators, kd_X5_settleSeparators⟩
theorem kc_X5_settleDigits : Cond.code yX5_settleDigits cX5_settleDigits 2 none ∈ tb_G := tb_at (tb_m2 (List.mem_of_getElem? (i := 79) rfl)) rfl
theorem ki_X5_settleDigits : Cond.initialized yX5_settleDigits.cls ∈ tb_G := tb_at (tb_m1 (List.mem_of_getElem? (i := 4) rfl)) rfl
theorem ks_X5_settleDigits : Cond.instanceMethod yX5_settleDigits ∈ tb_G ∧ Cond.selects yX5_settleDigits.cls yX5_settleDigits yX5_settleDigits ∈ tb_G := ⟨tb_at (tb_m2 (List.mem_of_getElem? (i := 78) rfl)) rfl, tb_at (tb_m0 (List.mem_of_getElem? (i := 10) rfl)) rfl⟩
theorem kd_X5_settleDigits : (yX5_settleDigits.cls ≠ "java/lang/invoke/MethodHandle" ∧ yX5_settleDigits.cls ≠ "java/lang/invoke/VarHandle" ∧ (parseMethodDescriptor yX5_settleDigits.desc).map (fun d => d.parameters.length) = some 0) := by decide +kernel
theorem lk_RX5_68 : cb_LV RX5 68 yX5_settleDigits cX5_settleDigits 2 none 0 := ⟨tb_at (tb_m2 (List.mem_of_getElem? (i := 76) rfl)) rfl, ks_X5_settleDigits.1, ks_X5_settleDigits.2, ki_X5_settleDigits, kc_X5_settleDigits, kd_X5_settleDigits⟩
theorem kc_X5_settlePlain : Cond.code yX5_settlePlain cX5_settlePlain 2 none ∈ tb_G := tb_at (tb_m2 (List.mem_of_getElem? (i := 84) rfl)) rfl
theorem ki_X5_settlePlain : Cond.initialized yX5_settlePlain.cls ∈ tb_G := tb_at (tb_m1 (List.mem_of_getElem? (i := 4) rfl)) rfl
theorem ks_X5_settlePlain : Cond.instanceMethod yX5_settlePlain ∈ tb_G ∧ Cond.selects yX5_settlePlain.cls yX5_settlePlain yX5_settlePlain ∈ tb_G := ⟨tb_at (tb_m2 (List.mem_of_getElem? (i := 83) rfl)) rfl, tb_at (tb_m0 (List.mem_of_getElem? (i := 11) rfl)) rfl⟩
theorem kd_X5_settlePlain : (yX5_settlePlain.cls ≠ "java/lang/invoke/MethodHandle" ∧ yX5_settlePlain.cls ≠ "java/lang/invoke/VarHandle" ∧ (parseMethodDescriptor yX5_settlePlain.desc).map (fun d => d.parameters.length) = some 0) := by decide +kernel
theorem lk_RX5_71 : cb_LV RX5 71 yX5_settlePlain cX5_settlePlain 2 none 0 := ⟨tb_at (tb_m2 (List.mem_of_getElem? (i := 81) rfl)) rfl, ks_X5_settlePlain.1, ks_X5_settlePlain.2, ki_X5_settlePlain, kc_X5_settlePlain, kd_X5_settlePlain⟩
theorem kc_X5_findLevels : Cond.code yX5_findLevels cX5_findLevels 2 none ∈ tb_G := tb_at (tb_m2 (List.mem_of_getElem? (i := 91) rfl)) rfl
theorem ki_X5_findLevels : Cond.initialized yX5_findLevels.cls ∈ tb_G := tb_at (tb_m1 (List.mem_of_getElem? (i := 4) rfl)) rfl
theorem ks_X5_findLevels : Cond.instanceMethod yX5_findLevels ∈ tb_G ∧ Cond.selects yX5_findLevels.cls yX5_findLevels yX5_findLevels ∈ tb_G := ⟨tb_at (tb_m2 (List.mem_of_getElem? (i := 90) rfl)) rfl, tb_at (tb_m0 (List.mem_of_getElem? (i := 12) rfl)) rfl⟩
theorem kd_X5_findLevels : (yX5_findLevels.cls ≠ "java/lang/invoke/MethodHandle" ∧ yX5_findLevels.cls ≠ "java/lang/invoke/VarHandle" ∧ (parseMethodDescriptor yX5_findLevels.desc).map (fun d => d.parameters.length) = some 0) := by decide +kernel
theorem lk_RX5_74 : cb_LV RX5 74 yX5_findLevels cX5_findLevels 2 none 0 := ⟨tb_at (tb_m2 (List.mem_of_getElem? (i := 88) rfl)) rfl, ks_X5_findLevels.1, ks_X5_findLevels.2, ki_X5_findLevels, kc_X5_findLevels, kd_X5_findLevels⟩
theorem kc_X5_lowerEnd : Cond.code yX5_lowerEnd cX5_lowerEnd 3 none ∈ tb_G := tb_at (tb_m2 (List.mem_of_getElem? (i := 98) rfl)) rfl
theorem ki_X5_lowerEnd : Cond.initialized yX5_lowerEnd.cls ∈ tb_G := tb_at (tb_m1 (List.mem_of_getElem? (i := 4) rfl)) rfl
theorem ks_X5_lowerEnd : Cond.instanceMethod yX5_lowerEnd ∈ tb_G ∧ Cond.selects yX5_lowerEnd.cls yX5_lowerEnd yX5_lowerEnd ∈ tb_G := ⟨tb_at (tb_m2 (List.mem_of_getElem? (i := 97) rfl)) rfl, tb_at (tb_m0 (List.mem_of_getElem? (i := 13) rfl)) rfl⟩
theorem kd_X5_lowerEnd : (yX5_lowerEnd.cls ≠ "java/lang/invoke/MethodHandle" ∧ yX5_lowerEnd.cls ≠ "java/lang/invoke/VarHandle" ∧ (parseMethodDescriptor yX5_lowerEnd.desc).map (fun d => d.parameters.length) = some 1) := by decide +kernel
theorem lk_RX5_77 : cb_LV RX5 77 yX5_lowerEnd cX5_lowerEnd 3 none 1 := ⟨tb_at (tb_m2 (List.mem_of_getElem? (i := 95) rfl)) rfl, ks_X5_lowerEnd.1, ks_X5_lowerEnd.2, ki_X5_lowerEnd, kc_X5_lowerEnd, kd_X5_lowerEnd⟩
theorem kc_X5_make : Cond.code yX5_make cX5_make 3 (some .int) ∈ tb_G := tb_at (tb_m2 (List.mem_of_getElem? (i := 46) rfl)) rfl
theorem ki_X5_make : Cond.initialized yX5_make.cls ∈ tb_G := tb_at (tb_m1 (List.mem_of_getElem? (i := 4) rfl)) rfl
theorem ks_X5_make : Cond.instanceMethod yX5_make ∈ tb_G ∧ Cond.selects yX5_make.cls yX5_make yX5_make ∈ tb_G := ⟨tb_at (tb_m2 (List.mem_of_getElem? (i := 45) rfl)) rfl, tb_at (tb_m0 (List.mem_of_getElem? (i := 5) rfl)) rfl⟩
theorem kd_X5_make : (yX5_make.cls ≠ "java/lang/invoke/MethodHandle" ∧ yX5_make.cls ≠ "java/lang/invoke/VarHandle" ∧ (parseMethodDescriptor yX5_make.desc).map (fun d => d.parameters.length) = some 2) := by decide +kernel
theorem lk_RX5_83 : cb_LV RX5 83 yX5_make cX5_make 3 (some .int) 2 := ⟨tb_at (tb_m2 (List.mem_of_getElem? (i := 43) rfl)) rfl, ks_X5_make.1, ks_X5_make.2, ki_X5_make, kc_X5_make, kd_X5_make⟩
theorem lk_RX5_87 : cb_LV RX5 87 yX3_at cX3_at 2 (some .int) 1 := ⟨tb_at (tb_m2 (List.mem_of_getElem? (i := 47) rfl)) rfl, ks_X3_at.1, ks_X3_at.2, ki_X3_at, kc_X3_at, kd_X3_at⟩
theorem lk_RX5_91 : cb_LN RX5 91 yX8_valueAt "CaretBench" cX8_valueAt 3 (some .int) 3 := ⟨cb_nest4, ks_X8_valueAt, ki_X8_valueAt, kc_X8_valueAt, kd_X8_valueAt⟩
theorem kc_X5_append : Cond.code yX5_append cX5_append 3 none ∈ tb_G := tb_at (tb_m2 (List.mem_of_getElem? (i := 54) rfl)) rfl
theorem ki_X5_append : Cond.initialized yX5_append.cls ∈ tb_G := tb_at (tb_m1 (List.mem_of_getElem? (i := 4) rfl)) rfl
theorem ks_X5_append : Cond.instanceMethod yX5_append ∈ tb_G ∧ Cond.selects yX5_append.cls yX5_append yX5_append ∈ tb_G := ⟨tb_at (tb_m2 (List.mem_of_getElem? (i := 53) rfl)) rfl, tb_at (tb_m0 (List.mem_of_getElem? (i := 6) rfl)) rfl⟩
theorem kd_X5_append : (yX5_append.cls ≠ "java/lang/invoke/MethodHandle" ∧ yX5_append.cls ≠ "java/lang/invoke/VarHandle" ∧ (parseMethodDescriptor yX5_append.desc).map (fun d => d.parameters.length) = some 2) := by decide +kernel
theorem lk_RX5_95 : cb_LV RX5 95 yX5_append cX5_append 3 none 2 := ⟨tb_at (tb_m2 (List.mem_of_getElem? (i := 51) rfl)) rfl, ks_X5_append.1, ks_X5_append.2, ki_X5_append, kc_X5_append, kd_X5_append⟩
theorem kc_X7_beginsIsle : Cond.code yX7_beginsIsle cX7_beginsIsle 1 (some .boolean) ∈ tb_G := tb_at (tb_m2 (List.mem_of_getElem? (i := 57) rfl)) rfl
theorem ki_X7_beginsIsle : Cond.initialized yX7_beginsIsle.cls ∈ tb_G := tb_at (tb_m1 (List.mem_of_getElem? (i := 9) rfl)) rfl
theorem ks_X7_beginsIsle : Cond.static yX7_beginsIsle ∈ tb_G := tb_at (tb_m2 (List.mem_of_getElem? (i := 56) rfl)) rfl
theorem kd_X7_beginsIsle : (yX7_beginsIsle.cls ≠ "java/lang/invoke/MethodHandle" ∧ yX7_beginsIsle.cls ≠ "java/lang/invoke/VarHandle" ∧ (parseMethodDescriptor yX7_beginsIsle.desc).map (fun d => d.parameters.length) = some 1) := by decide +kernel
theorem lk_RX5_99 : cb_LS RX5 99 yX7_beginsIsle cX7_beginsIsle 1 (some .boolean) 1 := ⟨tb_at (tb_m2 (List.mem_of_getElem? (i := 55) rfl)) rfl, ks_X7_beginsIsle, ki_X7_beginsIsle, kc_X7_beginsIsle, kd_X7_beginsIsle⟩
theorem kc_X5_baseWithin : Cond.code yX5_baseWithin cX5_baseWithin 3 (some .int) ∈ tb_G := tb_at (tb_m2 (List.mem_of_getElem? (i := 60) rfl)) rfl
theorem ki_X5_baseWithin : Cond.initialized yX5_baseWithin.cls ∈ tb_G := tb_at (tb_m1 (List.mem_of_getElem? (i := 4) rfl)) rfl
theorem ks_X5_baseWithin : Cond.static yX5_baseWithin ∈ tb_G := tb_at (tb_m2 (List.mem_of_getElem? (i := 59) rfl)) rfl
theorem kd_X5_baseWithin : (yX5_baseWithin.cls ≠ "java/lang/invoke/MethodHandle" ∧ yX5_baseWithin.cls ≠ "java/lang/invoke/VarHandle" ∧ (parseMethodDescriptor yX5_baseWithin.desc).map (fun d => d.parameters.length) = some 2) := by decide +kernel
theorem lk_RX5_105 : cb_LS RX5 105 yX5_baseWithin cX5_baseWithin 3 (some .int) 2 := ⟨tb_at (tb_m2 (List.mem_of_getElem? (i := 58) rfl)) rfl, ks_X5_baseWithin, ki_X5_baseWithin, kc_X5_baseWithin, kd_X5_baseWithin⟩
theorem lk_RX5_108 : cb_LS RX5 108 yX7_isMark cX7_isMark 1 (some .boolean) 1 := ⟨tb_at (tb_m2 (List.mem_of_getElem? (i := 65) rfl)) rfl, ks_X7_isMark, ki_X7_isMark, kc_X7_isMark, kd_X7_isMark⟩
theorem kc_X5_wayAround : Cond.code yX5_wayAround cX5_wayAround 2 (some .int) ∈ tb_G := tb_at (tb_m2 (List.mem_of_getElem? (i := 69) rfl)) rfl
theorem ki_X5_wayAround : Cond.initialized yX5_wayAround.cls ∈ tb_G := tb_at (tb_m1 (List.mem_of_getElem? (i := 4) rfl)) rfl
theorem ks_X5_wayAround : Cond.instanceMethod yX5_wayAround ∈ tb_G ∧ Cond.selects yX5_wayAround.cls yX5_wayAround yX5_wayAround ∈ tb_G := ⟨tb_at (tb_m2 (List.mem_of_getElem? (i := 68) rfl)) rfl, tb_at (tb_m0 (List.mem_of_getElem? (i := 8) rfl)) rfl⟩
theorem kd_X5_wayAround : (yX5_wayAround.cls ≠ "java/lang/invoke/MethodHandle" ∧ yX5_wayAround.cls ≠ "java/lang/invoke/VarHandle" ∧ (parseMethodDescriptor yX5_wayAround.desc).map (fun d => d.parameters.length) = some 1) := by decide +kernel
theorem lk_RX5_111 : cb_LV RX5 111 yX5_wayAround cX5_wayAround 2 (some .int) 1 := ⟨tb_at (tb_m2 (List.mem_of_getElem? (i := 66) rfl)) rfl, ks_X5_wayAround.1, ks_X5_wayAround.2, ki_X5_wayAround, kc_X5_wayAround, kd_X5_wayAround⟩
theorem lk_RX5_114 : cb_LV RX5 114 yX1_joinsAt cX1_joinsAt 2 (some .boolean) 1 := ⟨tb_at (tb_m2 (List.mem_of_getElem? (i := 70) rfl)) rfl, ks_X1_joinsAt.1, ks_X1_joinsAt.2, ki_X1_joinsAt, kc_X1_joinsAt, kd_X1_joinsAt⟩
theorem lk_RX5_119 : cb_LS RX5 119 yX7_kindOf cX7_kindOf 1 (some .int) 1 := ⟨tb_at (tb_m2 (List.mem_of_getElem? (i := 71) rfl)) rfl, ks_X7_kindOf, ki_X7_kindOf, kc_X7_kindOf, kd_X7_kindOf⟩
theorem kc_X7_isStrong : Cond.code yX7_isStrong cX7_isStrong 1 (some .boolean) ∈ tb_G := tb_at (tb_m2 (List.mem_of_getElem? (i := 7) rfl)) rfl
theorem ki_X7_isStrong : Cond.initialized yX7_isStrong.cls ∈ tb_G := tb_at (tb_m1 (List.mem_of_getElem? (i := 9) rfl)) rfl
theorem ks_X7_isStrong : Cond.static yX7_isStrong ∈ tb_G := tb_at (tb_m2 (List.mem_of_getElem? (i := 6) rfl)) rfl
theorem kd_X7_isStrong : (yX7_isStrong.cls ≠ "java/lang/invoke/MethodHandle" ∧ yX7_isStrong.cls ≠ "java/lang/invoke/VarHandle" ∧ (parseMethodDescriptor yX7_isStrong.desc).map (fun d => d.parameters.length) = some 1) := by decide +kernel
theorem lk_RX5_122 : cb_LS RX5 122 yX7_isStrong cX7_isStrong 1 (some .boolean) 1 := ⟨tb_at (tb_m2 (List.mem_of_getElem? (i := 80) rfl)) rfl, ks_X7_isStrong, ki_X7_isStrong, kc_X7_isStrong, kd_X7_isStrong⟩
theorem kc_X5_wayBesidePlain : Cond.code yX5_wayBesidePlain cX5_wayBesidePlain 1 (some .int) ∈ tb_G := tb_at (tb_m2 (List.mem_of_getElem? (i := 87) rfl)) rfl
theorem ki_X5_wayBesidePlain : Cond.initialized yX5_wayBesidePlain.cls ∈ tb_G := tb_at (tb_m1 (List.mem_of_getElem? (i := 4) rfl)) rfl
theorem ks_X5_wayBesidePlain : Cond.static yX5_wayBesidePlain ∈ tb_G := tb_at (tb_m2 (List.mem_of_getElem? (i := 86) rfl)) rfl
theorem kd_X5_wayBesidePlain : (yX5_wayBesidePlain.cls ≠ "java/lang/invoke/MethodHandle" ∧ yX5_wayBesidePlain.cls ≠ "java/lang/invoke/VarHandle" ∧ (parseMethodDescriptor yX5_wayBesidePlain.desc).map (fun d => d.parameters.length) = some 1) := by decide +kernel
theorem lk_RX5_125 : cb_LS RX5 125 yX5_wayBesidePlain cX5_wayBesidePlain 1 (some .int) 1 := ⟨tb_at (tb_m2 (List.mem_of_getElem? (i := 85) rfl)) rfl, ks_X5_wayBesidePlain, ki_X5_wayBesidePlain, kc_X5_wayBesidePlain, kd_X5_wayBesidePlain⟩
theorem kc_X5_rise : Cond.code yX5_rise cX5_rise 2 (some .int) ∈ tb_G := tb_at (tb_m2 (List.mem_of_getElem? (i := 94) rfl)) rfl
theorem ki_X5_rise : Cond.initialized yX5_rise.cls ∈ tb_G := tb_at (tb_m1 (List.mem_of_getElem? (i := 4) rfl)) rfl
theorem ks_X5_rise : Cond.static yX5_rise ∈ tb_G := tb_at (tb_m2 (List.mem_of_getElem? (i := 93) rfl)) rfl
theorem kd_X5_rise : (yX5_rise.cls ≠ "java/lang/invoke/MethodHandle" ∧ yX5_rise.cls ≠ "java/lang/invoke/VarHandle" ∧ (parseMethodDescriptor yX5_rise.desc).map (fun d => d.parameters.length) = some 2) := by decide +kernel
theorem lk_RX5_128 : cb_LS RX5 128 yX5_rise cX5_rise 2 (some .int) 2 := ⟨tb_at (tb_m2 (List.mem_of_getElem? (i := 92) rfl)) rfl, ks_X5_rise, ki_X5_rise, kc_X5_rise, kd_X5_rise⟩
theorem kc_X7_fallsToBaseAtEnd : Cond.code yX7_fallsToBaseAtEnd cX7_fallsToBaseAtEnd 1 (some .boolean) ∈ tb_G := tb_at (tb_m2 (List.mem_of_getElem? (i := 101) rfl)) rfl
theorem ki_X7_fallsToBaseAtEnd : Cond.initialized yX7_fallsToBaseAtEnd.cls ∈ tb_G := tb_at (tb_m1 (List.mem_of_getElem? (i := 9) rfl)) rfl
theorem ks_X7_fallsToBaseAtEnd : Cond.static yX7_fallsToBaseAtEnd ∈ tb_G := tb_at (tb_m2 (List.mem_of_getElem? (i := 100) rfl)) rfl
theorem kd_X7_fallsToBaseAtEnd : (yX7_fallsToBaseAtEnd.cls ≠ "java/lang/invoke/MethodHandle" ∧ yX7_fallsToBaseAtEnd.cls ≠ "java/lang/invoke/VarHandle" ∧ (parseMethodDescriptor yX7_fallsToBaseAtEnd.desc).map (fun d => d.parameters.length) = some 1) := by decide +kernel
theorem lk_RX5_131 : cb_LS RX5 131 yX7_fallsToBaseAtEnd cX7_fallsToBaseAtEnd 1 (some .boolean) 1 := ⟨tb_at (tb_m2 (List.mem_of_getElem? (i := 99) rfl)) rfl, ks_X7_fallsToBaseAtEnd, ki_X7_fallsToBaseAtEnd, kc_X7_fallsToBaseAtEnd, kd_X7_fallsToBaseAtEnd⟩
theorem lk_RX6_24 : cb_LV RX6 24 yX1_number cX1_number 1 (some .int) 0 := ⟨tb_at (tb_m2 (List.mem_of_getElem? (i := 107) rfl)) rfl, ks_X1_number.1, ks_X1_number.2, ki_X1_number, kc_X1_number, kd_X1_number⟩
theorem lk_RX6_34 : cb_LV RX6 34 yX3_base cX3_base 1 (some .int) 0 := ⟨tb_at (tb_m2 (List.mem_of_getElem? (i := 111) rfl)) rfl, ks_X3_base.1, ks_X3_base.2, ki_X3_base, kc_X3_base, kd_X3_base⟩
theorem lk_RX6_45 : cb_LV RX6 45 yX1_firstOf cX1_firstOf 2 (some .int) 1 := ⟨tb_at (tb_m2 (List.mem_of_getElem? (i := 112) rfl)) rfl, ks_X1_firstOf.1, ks_X1_firstOf.2, ki_X1_firstOf, kc_X1_firstOf, kd_X1_firstOf⟩
theorem kc_X5_levelOf : Cond.code yX5_levelOf cX5_levelOf 2 (some .int) ∈ tb_G := tb_at (tb_m2 (List.mem_of_getElem? (i := 123) rfl)) rfl
theorem ki_X5_levelOf : Cond.initialized yX5_levelOf.cls ∈ tb_G := tb_at (tb_m1 (List.mem_of_getElem? (i := 4) rfl)) rfl
theorem ks_X5_levelOf : Cond.instanceMethod yX5_levelOf ∈ tb_G ∧ Cond.selects yX5_levelOf.cls yX5_levelOf yX5_levelOf ∈ tb_G := ⟨tb_at (tb_m2 (List.mem_of_getElem? (i := 121) rfl)) rfl, tb_at (tb_m2 (List.mem_of_getElem? (i := 122) rfl)) rfl⟩
theorem kd_X5_levelOf : (yX5_levelOf.cls ≠ "java/lang/invoke/MethodHandle" ∧ yX5_levelOf.cls ≠ "java/lang/invoke/VarHandle" ∧ (parseMethodDescriptor yX5_levelOf.desc).map (fun d => d.parameters.length) = some 1) := by decide +kernel
theorem lk_RX6_49 : cb_LV RX6 49 yX5_levelOf cX5_levelOf 2 (some .int) 1 := ⟨tb_at (tb_m2 (List.mem_of_getElem? (i := 120) rfl)) rfl, ks_X5_levelOf.1, ks_X5_levelOf.2, ki_X5_levelOf, kc_X5_levelOf, kd_X5_levelOf⟩
theorem kc_X6_turnRuns : Cond.code yX6_turnRuns cX6_turnRuns 4 none ∈ tb_G := tb_at (tb_m2 (List.mem_of_getElem? (i := 130) rfl)) rfl
theorem ki_X6_turnRuns : Cond.initialized yX6_turnRuns.cls ∈ tb_G := tb_at (tb_m1 (List.mem_of_getElem? (i := 5) rfl)) rfl
theorem ks_X6_turnRuns : Cond.instanceMethod yX6_turnRuns ∈ tb_G ∧ Cond.selects yX6_turnRuns.cls yX6_turnRuns yX6_turnRuns ∈ tb_G := ⟨tb_at (tb_m2 (List.mem_of_getElem? (i := 129) rfl)) rfl, tb_at (tb_m0 (List.mem_of_getElem? (i := 14) rfl)) rfl⟩
theorem kd_X6_turnRuns : (yX6_turnRuns.cls ≠ "java/lang/invoke/MethodHandle" ∧ yX6_turnRuns.cls ≠ "java/lang/invoke/VarHandle" ∧ (parseMethodDescriptor yX6_turnRuns.desc).map (fun d => d.parameters.length) = some 1) := by decide +kernel
theorem lk_RX6_60 : cb_LV RX6 60 yX6_turnRuns cX6_turnRuns 4 none 1 := ⟨tb_at (tb_m2 (List.mem_of_getElem? (i := 127) rfl)) rfl, ks_X6_turnRuns.1, ks_X6_turnRuns.2, ki_X6_turnRuns, kc_X6_turnRuns, kd_X6_turnRuns⟩
theorem kc_X6_placeAll : Cond.code yX6_placeAll cX6_placeAll 4 none ∈ tb_G := tb_at (tb_m2 (List.mem_of_getElem? (i := 139) rfl)) rfl
theorem ki_X6_placeAll : Cond.initialized yX6_placeAll.cls ∈ tb_G := tb_at (tb_m1 (List.mem_of_getElem? (i := 5) rfl)) rfl
theorem ks_X6_placeAll : Cond.instanceMethod yX6_placeAll ∈ tb_G ∧ Cond.selects yX6_placeAll.cls yX6_placeAll yX6_placeAll ∈ tb_G := ⟨tb_at (tb_m2 (List.mem_of_getElem? (i := 138) rfl)) rfl, tb_at (tb_m0 (List.mem_of_getElem? (i := 16) rfl)) rfl⟩
theorem kd_X6_placeAll : (yX6_placeAll.cls ≠ "java/lang/invoke/MethodHandle" ∧ yX6_placeAll.cls ≠ "java/lang/invoke/VarHandle" ∧ (parseMethodDescriptor yX6_placeAll.desc).map (fun d => d.parameters.length) = some 1) := by decide +kernel
theorem lk_RX6_64 : cb_LV RX6 64 yX6_placeAll cX6_placeAll 4 none 1 := ⟨tb_at (tb_m2 (List.mem_of_getElem? (i := 136) rfl)) rfl, ks_X6_placeAll.1, ks_X6_placeAll.2, ki_X6_placeAll, kc_X6_placeAll, kd_X6_placeAll⟩
theorem lk_RX6_68 : cb_LN RX6 68 yX8_valueAt "CaretBench" cX8_valueAt 3 (some .int) 3 := ⟨cb_nest5, ks_X8_valueAt, ki_X8_valueAt, kc_X8_valueAt, kd_X8_valueAt⟩
theorem kc_X6_turn : Cond.code yX6_turn cX6_turn 6 none ∈ tb_G := tb_at (tb_m2 (List.mem_of_getElem? (i := 135) rfl)) rfl
theorem ki_X6_turn : Cond.initialized yX6_turn.cls ∈ tb_G := tb_at (tb_m1 (List.mem_of_getElem? (i := 5) rfl)) rfl
theorem ks_X6_turn : Cond.instanceMethod yX6_turn ∈ tb_G ∧ Cond.selects yX6_turn.cls yX6_turn yX6_turn ∈ tb_G := ⟨tb_at (tb_m2 (List.mem_of_getElem? (i := 134) rfl)) rfl, tb_at (tb_m0 (List.mem_of_getElem? (i := 15) rfl)) rfl⟩
theorem kd_X6_turn : (yX6_turn.cls ≠ "java/lang/invoke/MethodHandle" ∧ yX6_turn.cls ≠ "java/lang/invoke/VarHandle" ∧ (parseMethodDescriptor yX6_turn.desc).map (fun d => d.parameters.length) = some 2) := by decide +kernel
theorem lk_RX6_72 : cb_LV RX6 72 yX6_turn cX6_turn 6 none 2 := ⟨tb_at (tb_m2 (List.mem_of_getElem? (i := 132) rfl)) rfl, ks_X6_turn.1, ks_X6_turn.2, ki_X6_turn, kc_X6_turn, kd_X6_turn⟩
theorem lk_RX6_79 : cb_LV RX6 79 yX1_has cX1_has 2 (some .boolean) 1 := ⟨tb_at (tb_m2 (List.mem_of_getElem? (i := 140) rfl)) rfl, ks_X1_has.1, ks_X1_has.2, ki_X1_has, kc_X1_has, kd_X1_has⟩
theorem lk_RX6_83 : cb_LV RX6 83 yX1_widthOf cX1_widthOf 2 (some .int) 1 := ⟨tb_at (tb_m2 (List.mem_of_getElem? (i := 141) rfl)) rfl, ks_X1_widthOf.1, ks_X1_widthOf.2, ki_X1_widthOf, kc_X1_widthOf, kd_X1_widthOf⟩
theorem kc_X6_placeOf : Cond.code yX6_placeOf cX6_placeOf 2 (some .int) ∈ tb_G := tb_at (tb_m3 (List.mem_of_getElem? (i := 81) rfl)) rfl
theorem ki_X6_placeOf : Cond.initialized yX6_placeOf.cls ∈ tb_G := tb_at (tb_m1 (List.mem_of_getElem? (i := 5) rfl)) rfl
theorem ks_X6_placeOf : Cond.instanceMethod yX6_placeOf ∈ tb_G ∧ Cond.selects yX6_placeOf.cls yX6_placeOf yX6_placeOf ∈ tb_G := ⟨tb_at (tb_m3 (List.mem_of_getElem? (i := 79) rfl)) rfl, tb_at (tb_m3 (List.mem_of_getElem? (i := 80) rfl)) rfl⟩
theorem kd_X6_placeOf : (yX6_placeOf.cls ≠ "java/lang/invoke/MethodHandle" ∧ yX6_placeOf.cls ≠ "java/lang/invoke/VarHandle" ∧ (parseMethodDescriptor yX6_placeOf.desc).map (fun d => d.parameters.length) = some 1) := by decide +kernel
theorem lk_RX6_86 : cb_LV RX6 86 yX6_placeOf cX6_placeOf 2 (some .int) 1 := ⟨tb_at (tb_m3 (List.mem_of_getElem? (i := 124) rfl)) rfl, ks_X6_placeOf.1, ks_X6_placeOf.2, ki_X6_placeOf, kc_X6_placeOf, kd_X6_placeOf⟩
theorem lk_RX6_89 : cb_LV RX6 89 yX6_clusterAtPlace cX6_clusterAtPlace 2 (some .int) 1 := ⟨tb_at (tb_m3 (List.mem_of_getElem? (i := 125) rfl)) rfl, ks_X6_clusterAtPlace.1, ks_X6_clusterAtPlace.2, ki_X6_clusterAtPlace, kc_X6_clusterAtPlace, kd_X6_clusterAtPlace⟩
theorem lk_RX6_92 : cb_LV RX6 92 yX6_leftOf cX6_leftOf 2 (some .int) 1 := ⟨tb_at (tb_m3 (List.mem_of_getElem? (i := 126) rfl)) rfl, ks_X6_leftOf.1, ks_X6_leftOf.2, ki_X6_leftOf, kc_X6_leftOf, kd_X6_leftOf⟩
theorem kc_X6_clusterOver : Cond.code yX6_clusterOver cX6_clusterOver 4 (some .int) ∈ tb_G := tb_at (tb_m3 (List.mem_of_getElem? (i := 179) rfl)) rfl
theorem ki_X6_clusterOver : Cond.initialized yX6_clusterOver.cls ∈ tb_G := tb_at (tb_m1 (List.mem_of_getElem? (i := 5) rfl)) rfl
theorem ks_X6_clusterOver : Cond.instanceMethod yX6_clusterOver ∈ tb_G ∧ Cond.selects yX6_clusterOver.cls yX6_clusterOver yX6_clusterOver ∈ tb_G := ⟨tb_at (tb_m3 (List.mem_of_getElem? (i := 177) rfl)) rfl, tb_at (tb_m3 (List.mem_of_getElem? (i := 178) rfl)) rfl⟩
theorem kd_X6_clusterOver : (yX6_clusterOver.cls ≠ "java/lang/invoke/MethodHandle" ∧ yX6_clusterOver.cls ≠ "java/lang/invoke/VarHandle" ∧ (parseMethodDescriptor yX6_clusterOver.desc).map (fun d => d.parameters.length) = some 1) := by decide +kernel
theorem lk_RX6_95 : cb_LV RX6 95 yX6_clusterOver cX6_clusterOver 4 (some .int) 1 := ⟨tb_at (tb_m3 (List.mem_of_getElem? (i := 176) rfl)) rfl, ks_X6_clusterOver.1, ks_X6_clusterOver.2, ki_X6_clusterOver, kc_X6_clusterOver, kd_X6_clusterOver⟩
theorem lk_RX6_98 : cb_LV RX6 98 yX6_rightOf cX6_rightOf 3 (some .int) 1 := ⟨tb_at (tb_m3 (List.mem_of_getElem? (i := 180) rfl)) rfl, ks_X6_rightOf.1, ks_X6_rightOf.2, ki_X6_rightOf, kc_X6_rightOf, kd_X6_rightOf⟩
theorem lk_RX7_9 : cb_LS RX7 9 yX7_kindOf cX7_kindOf 1 (some .int) 1 := ⟨tb_at (tb_m2 (List.mem_of_getElem? (i := 2) rfl)) rfl, ks_X7_kindOf, ki_X7_kindOf, kc_X7_kindOf, kd_X7_kindOf⟩
theorem lk_RX7_15 : cb_LS RX7 15 yX7_isStrong cX7_isStrong 1 (some .boolean) 1 := ⟨tb_at (tb_m2 (List.mem_of_getElem? (i := 5) rfl)) rfl, ks_X7_isStrong, ki_X7_isStrong, kc_X7_isStrong, kd_X7_isStrong⟩
theorem lk_RX7_19 : cb_LS RX7 19 yX7_isLetter cX7_isLetter 1 (some .boolean) 1 := ⟨tb_at (tb_m3 (List.mem_of_getElem? (i := 207) rfl)) rfl, ks_X7_isLetter, ki_X7_isLetter, kc_X7_isLetter, kd_X7_isLetter⟩
theorem lk_RX7_22 : cb_LS RX7 22 yX7_beginsIsle cX7_beginsIsle 1 (some .boolean) 1 := ⟨tb_at (tb_m2 (List.mem_of_getElem? (i := 102) rfl)) rfl, ks_X7_beginsIsle, ki_X7_beginsIsle, kc_X7_beginsIsle, kd_X7_beginsIsle⟩
theorem kc_X8_layOut : Cond.code yX8_layOut cX8_layOut 1 none ∈ tb_G := tb_at (tb_m1 (List.mem_of_getElem? (i := 218) rfl)) rfl
theorem ki_X8_layOut : Cond.initialized yX8_layOut.cls ∈ tb_G := tb_at (tb_m1 (List.mem_of_getElem? (i := 1) rfl)) rfl
theorem ks_X8_layOut : Cond.instanceMethod yX8_layOut ∈ tb_G ∧ Cond.selects yX8_layOut.cls yX8_layOut yX8_layOut ∈ tb_G := ⟨tb_at (tb_m1 (List.mem_of_getElem? (i := 217) rfl)) rfl, tb_at (tb_m0 (List.mem_of_getElem? (i := 0) rfl)) rfl⟩
theorem kd_X8_layOut : (yX8_layOut.cls ≠ "java/lang/invoke/MethodHandle" ∧ yX8_layOut.cls ≠ "java/lang/invoke/VarHandle" ∧ (parseMethodDescriptor yX8_layOut.desc).map (fun d => d.parameters.length) = some 0) := by decide +kernel
theorem lk_RX8_60 : cb_LV RX8 60 yX8_layOut cX8_layOut 1 none 0 := ⟨tb_at (tb_m1 (List.mem_of_getElem? (i := 215) rfl)) rfl, ks_X8_layOut.1, ks_X8_layOut.2, ki_X8_layOut, kc_X8_layOut, kd_X8_layOut⟩
theorem lk_RX8_63 : cb_LV RX8 63 yX3_base cX3_base 1 (some .int) 0 := ⟨tb_at (tb_m2 (List.mem_of_getElem? (i := 171) rfl)) rfl, ks_X3_base.1, ks_X3_base.2, ki_X3_base, kc_X3_base, kd_X3_base⟩
theorem kc_X3_turnTo : Cond.code yX3_turnTo cX3_turnTo 2 none ∈ tb_G := tb_at (tb_m2 (List.mem_of_getElem? (i := 175) rfl)) rfl
theorem ki_X3_turnTo : Cond.initialized yX3_turnTo.cls ∈ tb_G := tb_at (tb_m1 (List.mem_of_getElem? (i := 2) rfl)) rfl
theorem ks_X3_turnTo : Cond.instanceMethod yX3_turnTo ∈ tb_G ∧ Cond.selects yX3_turnTo.cls yX3_turnTo yX3_turnTo ∈ tb_G := ⟨tb_at (tb_m2 (List.mem_of_getElem? (i := 173) rfl)) rfl, tb_at (tb_m2 (List.mem_of_getElem? (i := 174) rfl)) rfl⟩
theorem kd_X3_turnTo : (yX3_turnTo.cls ≠ "java/lang/invoke/MethodHandle" ∧ yX3_turnTo.cls ≠ "java/lang/invoke/VarHandle" ∧ (parseMethodDescriptor yX3_turnTo.desc).map (fun d => d.parameters.length) = some 1) := by decide +kernel
theorem lk_RX8_67 : cb_LV RX8 67 yX3_turnTo cX3_turnTo 2 none 1 := ⟨tb_at (tb_m2 (List.mem_of_getElem? (i := 172) rfl)) rfl, ks_X3_turnTo.1, ks_X3_turnTo.2, ki_X3_turnTo, kc_X3_turnTo, kd_X3_turnTo⟩
theorem kc_X8_byteOf : Cond.code yX8_byteOf cX8_byteOf 6 (some .int) ∈ tb_G := tb_at (tb_m2 (List.mem_of_getElem? (i := 182) rfl)) rfl
theorem ki_X8_byteOf : Cond.initialized yX8_byteOf.cls ∈ tb_G := tb_at (tb_m1 (List.mem_of_getElem? (i := 1) rfl)) rfl
theorem ks_X8_byteOf : Cond.static yX8_byteOf ∈ tb_G := tb_at (tb_m2 (List.mem_of_getElem? (i := 181) rfl)) rfl
theorem kd_X8_byteOf : (yX8_byteOf.cls ≠ "java/lang/invoke/MethodHandle" ∧ yX8_byteOf.cls ≠ "java/lang/invoke/VarHandle" ∧ (parseMethodDescriptor yX8_byteOf.desc).map (fun d => d.parameters.length) = some 5) := by decide +kernel
theorem lk_RX8_71 : cb_LS RX8 71 yX8_byteOf cX8_byteOf 6 (some .int) 5 := ⟨tb_at (tb_m2 (List.mem_of_getElem? (i := 180) rfl)) rfl, ks_X8_byteOf, ki_X8_byteOf, kc_X8_byteOf, kd_X8_byteOf⟩
theorem kc_X7_isSign : Cond.code yX7_isSign cX7_isSign 1 (some .boolean) ∈ tb_G := tb_at (tb_m2 (List.mem_of_getElem? (i := 185) rfl)) rfl
theorem ki_X7_isSign : Cond.initialized yX7_isSign.cls ∈ tb_G := tb_at (tb_m1 (List.mem_of_getElem? (i := 9) rfl)) rfl
theorem ks_X7_isSign : Cond.static yX7_isSign ∈ tb_G := tb_at (tb_m2 (List.mem_of_getElem? (i := 184) rfl)) rfl
theorem kd_X7_isSign : (yX7_isSign.cls ≠ "java/lang/invoke/MethodHandle" ∧ yX7_isSign.cls ≠ "java/lang/invoke/VarHandle" ∧ (parseMethodDescriptor yX7_isSign.desc).map (fun d => d.parameters.length) = some 1) := by decide +kernel
theorem lk_RX8_75 : cb_LS RX8 75 yX7_isSign cX7_isSign 1 (some .boolean) 1 := ⟨tb_at (tb_m2 (List.mem_of_getElem? (i := 183) rfl)) rfl, ks_X7_isSign, ki_X7_isSign, kc_X7_isSign, kd_X7_isSign⟩
theorem kc_X3_hasRoomFor : Cond.code yX3_hasRoomFor cX3_hasRoomFor 2 (some .boolean) ∈ tb_G := tb_at (tb_m2 (List.mem_of_getElem? (i := 189) rfl)) rfl
theorem ki_X3_hasRoomFor : Cond.initialized yX3_hasRoomFor.cls ∈ tb_G := tb_at (tb_m1 (List.mem_of_getElem? (i := 2) rfl)) rfl
theorem ks_X3_hasRoomFor : Cond.instanceMethod yX3_hasRoomFor ∈ tb_G ∧ Cond.selects yX3_hasRoomFor.cls yX3_hasRoomFor yX3_hasRoomFor ∈ tb_G := ⟨tb_at (tb_m2 (List.mem_of_getElem? (i := 187) rfl)) rfl, tb_at (tb_m2 (List.mem_of_getElem? (i := 188) rfl)) rfl⟩
theorem kd_X3_hasRoomFor : (yX3_hasRoomFor.cls ≠ "java/lang/invoke/MethodHandle" ∧ yX3_hasRoomFor.cls ≠ "java/lang/invoke/VarHandle" ∧ (parseMethodDescriptor yX3_hasRoomFor.desc).map (fun d => d.parameters.length) = some 1) := by decide +kernel
theorem lk_RX8_81 : cb_LV RX8 81 yX3_hasRoomFor cX3_hasRoomFor 2 (some .boolean) 1 := ⟨tb_at (tb_m2 (List.mem_of_getElem? (i := 186) rfl)) rfl, ks_X3_hasRoomFor.1, ks_X3_hasRoomFor.2, ki_X3_hasRoomFor, kc_X3_hasRoomFor, kd_X3_hasRoomFor⟩
theorem kc_X8_keepForUndo : Cond.code yX8_keepForUndo cX8_keepForUndo 1 none ∈ tb_G := tb_at (tb_m2 (List.mem_of_getElem? (i := 193) rfl)) rfl
theorem ki_X8_keepForUndo : Cond.initialized yX8_keepForUndo.cls ∈ tb_G := tb_at (tb_m1 (List.mem_of_getElem? (i := 1) rfl)) rfl
theorem ks_X8_keepForUndo : Cond.instanceMethod yX8_keepForUndo ∈ tb_G ∧ Cond.selects yX8_keepForUndo.cls yX8_keepForUndo yX8_keepForUndo ∈ tb_G := ⟨tb_at (tb_m2 (List.mem_of_getElem? (i := 192) rfl)) rfl, tb_at (tb_m0 (List.mem_of_getElem? (i := 17) rfl)) rfl⟩
theorem kd_X8_keepForUndo : (yX8_keepForUndo.cls ≠ "java/lang/invoke/MethodHandle" ∧ yX8_keepForUndo.cls ≠ "java/lang/invoke/VarHandle" ∧ (parseMethodDescriptor yX8_keepForUndo.desc).map (fun d => d.parameters.length) = some 0) := by decide +kernel
theorem lk_RX8_84 : cb_LV RX8 84 yX8_keepForUndo cX8_keepForUndo 1 none 0 := ⟨tb_at (tb_m2 (List.mem_of_getElem? (i := 190) rfl)) rfl, ks_X8_keepForUndo.1, ks_X8_keepForUndo.2, ki_X8_keepForUndo, kc_X8_keepForUndo, kd_X8_keepForUndo⟩
theorem kc_X8_appendBytes : Cond.code yX8_appendBytes cX8_appendBytes 7 none ∈ tb_G := tb_at (tb_m2 (List.mem_of_getElem? (i := 217) rfl)) rfl
theorem ki_X8_appendBytes : Cond.initialized yX8_appendBytes.cls ∈ tb_G := tb_at (tb_m1 (List.mem_of_getElem? (i := 1) rfl)) rfl
theorem ks_X8_appendBytes : Cond.instanceMethod yX8_appendBytes ∈ tb_G ∧ Cond.selects yX8_appendBytes.cls yX8_appendBytes yX8_appendBytes ∈ tb_G := ⟨tb_at (tb_m2 (List.mem_of_getElem? (i := 216) rfl)) rfl, tb_at (tb_m0 (List.mem_of_getElem? (i := 18) rfl)) rfl⟩
theorem kd_X8_appendBytes : (yX8_appendBytes.cls ≠ "java/lang/invoke/MethodHandle" ∧ yX8_appendBytes.cls ≠ "java/lang/invoke/VarHandle" ∧ (parseMethodDescriptor yX8_appendBytes.desc).map (fun d => d.parameters.length) = some 4) := by decide +kernel
theorem lk_RX8_87 : cb_LV RX8 87 yX8_appendBytes cX8_appendBytes 7 none 4 := ⟨tb_at (tb_m2 (List.mem_of_getElem? (i := 214) rfl)) rfl, ks_X8_appendBytes.1, ks_X8_appendBytes.2, ki_X8_appendBytes, kc_X8_appendBytes, kd_X8_appendBytes⟩
theorem kc_X0_stand : Cond.code yX0_stand cX0_stand 1 (some .int) ∈ tb_G := tb_at (tb_m2 (List.mem_of_getElem? (i := 197) rfl)) rfl
theorem ki_X0_stand : Cond.initialized yX0_stand.cls ∈ tb_G := tb_at (tb_m1 (List.mem_of_getElem? (i := 6) rfl)) rfl
theorem ks_X0_stand : Cond.instanceMethod yX0_stand ∈ tb_G ∧ Cond.selects yX0_stand.cls yX0_stand yX0_stand ∈ tb_G := ⟨tb_at (tb_m2 (List.mem_of_getElem? (i := 195) rfl)) rfl, tb_at (tb_m2 (List.mem_of_getElem? (i := 196) rfl)) rfl⟩
theorem kd_X0_stand : (yX0_stand.cls ≠ "java/lang/invoke/MethodHandle" ∧ yX0_stand.cls ≠ "java/lang/invoke/VarHandle" ∧ (parseMethodDescriptor yX0_stand.desc).map (fun d => d.parameters.length) = some 0) := by decide +kernel
theorem lk_RX8_91 : cb_LV RX8 91 yX0_stand cX0_stand 1 (some .int) 0 := ⟨tb_at (tb_m2 (List.mem_of_getElem? (i := 194) rfl)) rfl, ks_X0_stand.1, ks_X0_stand.2, ki_X0_stand, kc_X0_stand, kd_X0_stand⟩
theorem kc_X0_side : Cond.code yX0_side cX0_side 1 (some .int) ∈ tb_G := tb_at (tb_m2 (List.mem_of_getElem? (i := 201) rfl)) rfl
theorem ki_X0_side : Cond.initialized yX0_side.cls ∈ tb_G := tb_at (tb_m1 (List.mem_of_getElem? (i := 6) rfl)) rfl
theorem ks_X0_side : Cond.instanceMethod yX0_side ∈ tb_G ∧ Cond.selects yX0_side.cls yX0_side yX0_side ∈ tb_G := ⟨tb_at (tb_m2 (List.mem_of_getElem? (i := 199) rfl)) rfl, tb_at (tb_m2 (List.mem_of_getElem? (i := 200) rfl)) rfl⟩
theorem kd_X0_side : (yX0_side.cls ≠ "java/lang/invoke/MethodHandle" ∧ yX0_side.cls ≠ "java/lang/invoke/VarHandle" ∧ (parseMethodDescriptor yX0_side.desc).map (fun d => d.parameters.length) = some 0) := by decide +kernel
theorem lk_RX8_94 : cb_LV RX8 94 yX0_side cX0_side 1 (some .int) 0 := ⟨tb_at (tb_m2 (List.mem_of_getElem? (i := 198) rfl)) rfl, ks_X0_side.1, ks_X0_side.2, ki_X0_side, kc_X0_side, kd_X0_side⟩
theorem kc_X0_settle : Cond.code yX0_settle cX0_settle 4 none ∈ tb_G := tb_at (tb_m2 (List.mem_of_getElem? (i := 226) rfl)) rfl
theorem ki_X0_settle : Cond.initialized yX0_settle.cls ∈ tb_G := tb_at (tb_m1 (List.mem_of_getElem? (i := 6) rfl)) rfl
theorem ks_X0_settle : Cond.instanceMethod yX0_settle ∈ tb_G ∧ Cond.selects yX0_settle.cls yX0_settle yX0_settle ∈ tb_G := ⟨tb_at (tb_m2 (List.mem_of_getElem? (i := 224) rfl)) rfl, tb_at (tb_m2 (List.mem_of_getElem? (i := 225) rfl)) rfl⟩
theorem kd_X0_settle : (yX0_settle.cls ≠ "java/lang/invoke/MethodHandle" ∧ yX0_settle.cls ≠ "java/lang/invoke/VarHandle" ∧ (parseMethodDescriptor yX0_settle.desc).map (fun d => d.parameters.length) = some 2) := by decide +kernel
theorem lk_RX8_97 : cb_LV RX8 97 yX0_settle cX0_settle 4 none 2 := ⟨tb_at (tb_m2 (List.mem_of_getElem? (i := 223) rfl)) rfl, ks_X0_settle.1, ks_X0_settle.2, ki_X0_settle, kc_X0_settle, kd_X0_settle⟩
theorem lk_RX8_101 : cb_LV RX8 101 yX3_length cX3_length 1 (some .int) 0 := ⟨tb_at (tb_m2 (List.mem_of_getElem? (i := 218) rfl)) rfl, ks_X3_length.1, ks_X3_length.2, ki_X3_length, kc_X3_length, kd_X3_length⟩
theorem kc_X8_strike : Cond.code yX8_strike cX8_strike 4 (some .int) ∈ tb_G := tb_at (tb_m3 (List.mem_of_getElem? (i := 17) rfl)) rfl
theorem ki_X8_strike : Cond.initialized yX8_strike.cls ∈ tb_G := tb_at (tb_m1 (List.mem_of_getElem? (i := 1) rfl)) rfl
theorem ks_X8_strike : Cond.instanceMethod yX8_strike ∈ tb_G ∧ Cond.selects yX8_strike.cls yX8_strike yX8_strike ∈ tb_G := ⟨tb_at (tb_m3 (List.mem_of_getElem? (i := 16) rfl)) rfl, tb_at (tb_m0 (List.mem_of_getElem? (i := 19) rfl)) rfl⟩
theorem kd_X8_strike : (yX8_strike.cls ≠ "java/lang/invoke/MethodHandle" ∧ yX8_strike.cls ≠ "java/lang/invoke/VarHandle" ∧ (parseMethodDescriptor yX8_strike.desc).map (fun d => d.parameters.length) = some 3) := by decide +kernel
theorem lk_RX8_104 : cb_LV RX8 104 yX8_strike cX8_strike 4 (some .int) 3 := ⟨tb_at (tb_m3 (List.mem_of_getElem? (i := 14) rfl)) rfl, ks_X8_strike.1, ks_X8_strike.2, ki_X8_strike, kc_X8_strike, kd_X8_strike⟩
theorem lk_RX8_108 : cb_LV RX8 108 yX1_number cX1_number 1 (some .int) 0 := ⟨tb_at (tb_m3 (List.mem_of_getElem? (i := 26) rfl)) rfl, ks_X1_number.1, ks_X1_number.2, ki_X1_number, kc_X1_number, kd_X1_number⟩
theorem kc_X1_standNumber : Cond.code yX1_standNumber cX1_standNumber 1 (some .int) ∈ tb_G := tb_at (tb_m3 (List.mem_of_getElem? (i := 30) rfl)) rfl
theorem ki_X1_standNumber : Cond.initialized yX1_standNumber.cls ∈ tb_G := tb_at (tb_m1 (List.mem_of_getElem? (i := 3) rfl)) rfl
theorem ks_X1_standNumber : Cond.instanceMethod yX1_standNumber ∈ tb_G ∧ Cond.selects yX1_standNumber.cls yX1_standNumber yX1_standNumber ∈ tb_G := ⟨tb_at (tb_m3 (List.mem_of_getElem? (i := 28) rfl)) rfl, tb_at (tb_m3 (List.mem_of_getElem? (i := 29) rfl)) rfl⟩
theorem kd_X1_standNumber : (yX1_standNumber.cls ≠ "java/lang/invoke/MethodHandle" ∧ yX1_standNumber.cls ≠ "java/lang/invoke/VarHandle" ∧ (parseMethodDescriptor yX1_standNumber.desc).map (fun d => d.parameters.length) = some 0) := by decide +kernel
theorem lk_RX8_111 : cb_LV RX8 111 yX1_standNumber cX1_standNumber 1 (some .int) 0 := ⟨tb_at (tb_m3 (List.mem_of_getElem? (i := 27) rfl)) rfl, ks_X1_standNumber.1, ks_X1_standNumber.2, ki_X1_standNumber, kc_X1_standNumber, kd_X1_standNumber⟩
theorem kc_X6_width : Cond.code yX6_width cX6_width 1 (some .int) ∈ tb_G := tb_at (tb_m3 (List.mem_of_getElem? (i := 34) rfl)) rfl
theorem ki_X6_width : Cond.initialized yX6_width.cls ∈ tb_G := tb_at (tb_m1 (List.mem_of_getElem? (i := 5) rfl)) rfl
theorem ks_X6_width : Cond.instanceMethod yX6_width ∈ tb_G ∧ Cond.selects yX6_width.cls yX6_width yX6_width ∈ tb_G := ⟨tb_at (tb_m3 (List.mem_of_getElem? (i := 32) rfl)) rfl, tb_at (tb_m3 (List.mem_of_getElem? (i := 33) rfl)) rfl⟩
theorem kd_X6_width : (yX6_width.cls ≠ "java/lang/invoke/MethodHandle" ∧ yX6_width.cls ≠ "java/lang/invoke/VarHandle" ∧ (parseMethodDescriptor yX6_width.desc).map (fun d => d.parameters.length) = some 0) := by decide +kernel
theorem lk_RX8_114 : cb_LV RX8 114 yX6_width cX6_width 1 (some .int) 0 := ⟨tb_at (tb_m3 (List.mem_of_getElem? (i := 31) rfl)) rfl, ks_X6_width.1, ks_X6_width.2, ki_X6_width, kc_X6_width, kd_X6_width⟩
theorem kc_X5_numberWithSigns : Cond.code yX5_numberWithSigns cX5_numberWithSigns 3 (some .int) ∈ tb_G := tb_at (tb_m3 (List.mem_of_getElem? (i := 38) rfl)) rfl
theorem ki_X5_numberWithSigns : Cond.initialized yX5_numberWithSigns.cls ∈ tb_G := tb_at (tb_m1 (List.mem_of_getElem? (i := 4) rfl)) rfl
theorem ks_X5_numberWithSigns : Cond.instanceMethod yX5_numberWithSigns ∈ tb_G ∧ Cond.selects yX5_numberWithSigns.cls yX5_numberWithSigns yX5_numberWithSigns ∈ tb_G := ⟨tb_at (tb_m3 (List.mem_of_getElem? (i := 36) rfl)) rfl, tb_at (tb_m3 (List.mem_of_getElem? (i := 37) rfl)) rfl⟩
theorem kd_X5_numberWithSigns : (yX5_numberWithSigns.cls ≠ "java/lang/invoke/MethodHandle" ∧ yX5_numberWithSigns.cls ≠ "java/lang/invoke/VarHandle" ∧ (parseMethodDescriptor yX5_numberWithSigns.desc).map (fun d => d.parameters.length) = some 0) := by decide +kernel
theorem lk_RX8_117 : cb_LV RX8 117 yX5_numberWithSigns cX5_numberWithSigns 3 (some .int) 0 := ⟨tb_at (tb_m3 (List.mem_of_getElem? (i := 35) rfl)) rfl, ks_X5_numberWithSigns.1, ks_X5_numberWithSigns.2, ki_X5_numberWithSigns, kc_X5_numberWithSigns, kd_X5_numberWithSigns⟩
theorem kc_X5_highest : Cond.code yX5_highest cX5_highest 3 (some .int) ∈ tb_G := tb_at (tb_m3 (List.mem_of_getElem? (i := 42) rfl)) rfl
theorem ki_X5_highest : Cond.initialized yX5_highest.cls ∈ tb_G := tb_at (tb_m1 (List.mem_of_getElem? (i := 4) rfl)) rfl
