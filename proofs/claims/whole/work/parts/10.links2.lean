theorem ks_X5_highest : Cond.instanceMethod yX5_highest ∈ tb_G ∧ Cond.selects yX5_highest.cls yX5_highest yX5_highest ∈ tb_G := ⟨tb_at (tb_m3 (List.mem_of_getElem? (i := 40) rfl)) rfl, tb_at (tb_m3 (List.mem_of_getElem? (i := 41) rfl)) rfl⟩
theorem kd_X5_highest : (yX5_highest.cls ≠ "java/lang/invoke/MethodHandle" ∧ yX5_highest.cls ≠ "java/lang/invoke/VarHandle" ∧ (parseMethodDescriptor yX5_highest.desc).map (fun d => d.parameters.length) = some 0) := by decide +kernel
theorem lk_RX8_120 : cb_LV RX8 120 yX5_highest cX5_highest 3 (some .int) 0 := ⟨tb_at (tb_m3 (List.mem_of_getElem? (i := 39) rfl)) rfl, ks_X5_highest.1, ks_X5_highest.2, ki_X5_highest, kc_X5_highest, kd_X5_highest⟩
theorem lk_RX8_123 : cb_LV RX8 123 yX3_at cX3_at 2 (some .int) 1 := ⟨tb_at (tb_m3 (List.mem_of_getElem? (i := 48) rfl)) rfl, ks_X3_at.1, ks_X3_at.2, ki_X3_at, kc_X3_at, kd_X3_at⟩
theorem lk_RX8_127 : cb_LV RX8 127 yX3_has cX3_has 2 (some .boolean) 1 := ⟨tb_at (tb_m3 (List.mem_of_getElem? (i := 53) rfl)) rfl, ks_X3_has.1, ks_X3_has.2, ki_X3_has, kc_X3_has, kd_X3_has⟩
theorem lk_RX8_130 : cb_LV RX8 130 yX5_levelOf cX5_levelOf 2 (some .int) 1 := ⟨tb_at (tb_m3 (List.mem_of_getElem? (i := 54) rfl)) rfl, ks_X5_levelOf.1, ks_X5_levelOf.2, ki_X5_levelOf, kc_X5_levelOf, kd_X5_levelOf⟩
theorem lk_RX8_133 : cb_LV RX8 133 yX1_has cX1_has 2 (some .boolean) 1 := ⟨tb_at (tb_m3 (List.mem_of_getElem? (i := 59) rfl)) rfl, ks_X1_has.1, ks_X1_has.2, ki_X1_has, kc_X1_has, kd_X1_has⟩
theorem lk_RX8_134 : cb_LV RX8 134 yX1_firstOf cX1_firstOf 2 (some .int) 1 := ⟨tb_at (tb_m3 (List.mem_of_getElem? (i := 60) rfl)) rfl, ks_X1_firstOf.1, ks_X1_firstOf.2, ki_X1_firstOf, kc_X1_firstOf, kd_X1_firstOf⟩
theorem lk_RX8_137 : cb_LV RX8 137 yX1_endOf cX1_endOf 2 (some .int) 1 := ⟨tb_at (tb_m3 (List.mem_of_getElem? (i := 61) rfl)) rfl, ks_X1_endOf.1, ks_X1_endOf.2, ki_X1_endOf, kc_X1_endOf, kd_X1_endOf⟩
theorem lk_RX8_140 : cb_LV RX8 140 yX6_levelOf cX6_levelOf 2 (some .int) 1 := ⟨tb_at (tb_m3 (List.mem_of_getElem? (i := 65) rfl)) rfl, ks_X6_levelOf.1, ks_X6_levelOf.2, ki_X6_levelOf, kc_X6_levelOf, kd_X6_levelOf⟩
theorem lk_RX8_141 : cb_LV RX8 141 yX6_leftOf cX6_leftOf 2 (some .int) 1 := ⟨tb_at (tb_m3 (List.mem_of_getElem? (i := 69) rfl)) rfl, ks_X6_leftOf.1, ks_X6_leftOf.2, ki_X6_leftOf, kc_X6_leftOf, kd_X6_leftOf⟩
theorem lk_RX8_144 : cb_LV RX8 144 yX1_widthOf cX1_widthOf 2 (some .int) 1 := ⟨tb_at (tb_m3 (List.mem_of_getElem? (i := 73) rfl)) rfl, ks_X1_widthOf.1, ks_X1_widthOf.2, ki_X1_widthOf, kc_X1_widthOf, kd_X1_widthOf⟩
theorem lk_RX8_147 : cb_LV RX8 147 yX1_isJoined cX1_isJoined 2 (some .boolean) 1 := ⟨tb_at (tb_m3 (List.mem_of_getElem? (i := 74) rfl)) rfl, ks_X1_isJoined.1, ks_X1_isJoined.2, ki_X1_isJoined, kc_X1_isJoined, kd_X1_isJoined⟩
theorem lk_RX8_150 : cb_LV RX8 150 yX6_placeOf cX6_placeOf 2 (some .int) 1 := ⟨tb_at (tb_m3 (List.mem_of_getElem? (i := 78) rfl)) rfl, ks_X6_placeOf.1, ks_X6_placeOf.2, ki_X6_placeOf, kc_X6_placeOf, kd_X6_placeOf⟩
theorem lk_RX8_153 : cb_LV RX8 153 yX6_clusterAtPlace cX6_clusterAtPlace 2 (some .int) 1 := ⟨tb_at (tb_m3 (List.mem_of_getElem? (i := 86) rfl)) rfl, ks_X6_clusterAtPlace.1, ks_X6_clusterAtPlace.2, ki_X6_clusterAtPlace, kc_X6_clusterAtPlace, kd_X6_clusterAtPlace⟩
theorem lk_RX8_156 : cb_LS RX8 156 yX8_isEven cX8_isEven 1 (some .boolean) 1 := ⟨tb_at (tb_m3 (List.mem_of_getElem? (i := 90) rfl)) rfl, ks_X8_isEven, ki_X8_isEven, kc_X8_isEven, kd_X8_isEven⟩
theorem kc_X7_mateOf : Cond.code yX7_mateOf cX7_mateOf 1 (some .int) ∈ tb_G := tb_at (tb_m3 (List.mem_of_getElem? (i := 95) rfl)) rfl
theorem ki_X7_mateOf : Cond.initialized yX7_mateOf.cls ∈ tb_G := tb_at (tb_m1 (List.mem_of_getElem? (i := 9) rfl)) rfl
theorem ks_X7_mateOf : Cond.static yX7_mateOf ∈ tb_G := tb_at (tb_m3 (List.mem_of_getElem? (i := 94) rfl)) rfl
theorem kd_X7_mateOf : (yX7_mateOf.cls ≠ "java/lang/invoke/MethodHandle" ∧ yX7_mateOf.cls ≠ "java/lang/invoke/VarHandle" ∧ (parseMethodDescriptor yX7_mateOf.desc).map (fun d => d.parameters.length) = some 1) := by decide +kernel
theorem lk_RX8_159 : cb_LS RX8 159 yX7_mateOf cX7_mateOf 1 (some .int) 1 := ⟨tb_at (tb_m3 (List.mem_of_getElem? (i := 93) rfl)) rfl, ks_X7_mateOf, ki_X7_mateOf, kc_X7_mateOf, kd_X7_mateOf⟩
theorem lk_RX8_162 : cb_LV RX8 162 yX0_x cX0_x 2 (some .int) 0 := ⟨tb_at (tb_m3 (List.mem_of_getElem? (i := 100) rfl)) rfl, ks_X0_x.1, ks_X0_x.2, ki_X0_x, kc_X0_x, kd_X0_x⟩
theorem lk_RX8_165 : cb_LV RX8 165 yX1_joinedAround cX1_joinedAround 2 (some .int) 1 := ⟨tb_at (tb_m3 (List.mem_of_getElem? (i := 143) rfl)) rfl, ks_X1_joinedAround.1, ks_X1_joinedAround.2, ki_X1_joinedAround, kc_X1_joinedAround, kd_X1_joinedAround⟩
theorem lk_RX8_168 : cb_LV RX8 168 yX1_isStand cX1_isStand 2 (some .boolean) 1 := ⟨tb_at (tb_m3 (List.mem_of_getElem? (i := 144) rfl)) rfl, ks_X1_isStand.1, ks_X1_isStand.2, ki_X1_isStand, kc_X1_isStand, kd_X1_isStand⟩
theorem lk_RX8_171 : cb_LV RX8 171 yX0_place cX0_place 3 none 2 := ⟨tb_at (tb_m3 (List.mem_of_getElem? (i := 145) rfl)) rfl, ks_X0_place.1, ks_X0_place.2, ki_X0_place, kc_X0_place, kd_X0_place⟩
theorem lk_RX8_174 : cb_LV RX8 174 yX1_standFrom cX1_standFrom 3 (some .int) 1 := ⟨tb_at (tb_m3 (List.mem_of_getElem? (i := 150) rfl)) rfl, ks_X1_standFrom.1, ks_X1_standFrom.2, ki_X1_standFrom, kc_X1_standFrom, kd_X1_standFrom⟩
theorem kc_X1_standUpTo : Cond.code yX1_standUpTo cX1_standUpTo 3 (some .int) ∈ tb_G := tb_at (tb_m3 (List.mem_of_getElem? (i := 154) rfl)) rfl
theorem ki_X1_standUpTo : Cond.initialized yX1_standUpTo.cls ∈ tb_G := tb_at (tb_m1 (List.mem_of_getElem? (i := 3) rfl)) rfl
theorem ks_X1_standUpTo : Cond.instanceMethod yX1_standUpTo ∈ tb_G ∧ Cond.selects yX1_standUpTo.cls yX1_standUpTo yX1_standUpTo ∈ tb_G := ⟨tb_at (tb_m3 (List.mem_of_getElem? (i := 152) rfl)) rfl, tb_at (tb_m3 (List.mem_of_getElem? (i := 153) rfl)) rfl⟩
theorem kd_X1_standUpTo : (yX1_standUpTo.cls ≠ "java/lang/invoke/MethodHandle" ∧ yX1_standUpTo.cls ≠ "java/lang/invoke/VarHandle" ∧ (parseMethodDescriptor yX1_standUpTo.desc).map (fun d => d.parameters.length) = some 1) := by decide +kernel
theorem lk_RX8_177 : cb_LV RX8 177 yX1_standUpTo cX1_standUpTo 3 (some .int) 1 := ⟨tb_at (tb_m3 (List.mem_of_getElem? (i := 151) rfl)) rfl, ks_X1_standUpTo.1, ks_X1_standUpTo.2, ki_X1_standUpTo, kc_X1_standUpTo, kd_X1_standUpTo⟩
theorem kc_X0_stepOver : Cond.code yX0_stepOver cX0_stepOver 4 (some .boolean) ∈ tb_G := tb_at (tb_m3 (List.mem_of_getElem? (i := 163) rfl)) rfl
theorem ki_X0_stepOver : Cond.initialized yX0_stepOver.cls ∈ tb_G := tb_at (tb_m1 (List.mem_of_getElem? (i := 6) rfl)) rfl
theorem ks_X0_stepOver : Cond.instanceMethod yX0_stepOver ∈ tb_G ∧ Cond.selects yX0_stepOver.cls yX0_stepOver yX0_stepOver ∈ tb_G := ⟨tb_at (tb_m3 (List.mem_of_getElem? (i := 161) rfl)) rfl, tb_at (tb_m3 (List.mem_of_getElem? (i := 162) rfl)) rfl⟩
theorem kd_X0_stepOver : (yX0_stepOver.cls ≠ "java/lang/invoke/MethodHandle" ∧ yX0_stepOver.cls ≠ "java/lang/invoke/VarHandle" ∧ (parseMethodDescriptor yX0_stepOver.desc).map (fun d => d.parameters.length) = some 1) := by decide +kernel
theorem lk_RX8_180 : cb_LV RX8 180 yX0_stepOver cX0_stepOver 4 (some .boolean) 1 := ⟨tb_at (tb_m3 (List.mem_of_getElem? (i := 160) rfl)) rfl, ks_X0_stepOver.1, ks_X0_stepOver.2, ki_X0_stepOver, kc_X0_stepOver, kd_X0_stepOver⟩
theorem kc_X8_goOnByWord : Cond.code yX8_goOnByWord cX8_goOnByWord 3 (some .boolean) ∈ tb_G := tb_at (tb_m3 (List.mem_of_getElem? (i := 197) rfl)) rfl
theorem ki_X8_goOnByWord : Cond.initialized yX8_goOnByWord.cls ∈ tb_G := tb_at (tb_m1 (List.mem_of_getElem? (i := 1) rfl)) rfl
theorem ks_X8_goOnByWord : Cond.instanceMethod yX8_goOnByWord ∈ tb_G ∧ Cond.selects yX8_goOnByWord.cls yX8_goOnByWord yX8_goOnByWord ∈ tb_G := ⟨tb_at (tb_m3 (List.mem_of_getElem? (i := 196) rfl)) rfl, tb_at (tb_m0 (List.mem_of_getElem? (i := 22) rfl)) rfl⟩
theorem kd_X8_goOnByWord : (yX8_goOnByWord.cls ≠ "java/lang/invoke/MethodHandle" ∧ yX8_goOnByWord.cls ≠ "java/lang/invoke/VarHandle" ∧ (parseMethodDescriptor yX8_goOnByWord.desc).map (fun d => d.parameters.length) = some 0) := by decide +kernel
theorem lk_RX8_184 : cb_LV RX8 184 yX8_goOnByWord cX8_goOnByWord 3 (some .boolean) 0 := ⟨tb_at (tb_m3 (List.mem_of_getElem? (i := 194) rfl)) rfl, ks_X8_goOnByWord.1, ks_X8_goOnByWord.2, ki_X8_goOnByWord, kc_X8_goOnByWord, kd_X8_goOnByWord⟩
theorem kc_X8_goBackByWord : Cond.code yX8_goBackByWord cX8_goBackByWord 2 (some .boolean) ∈ tb_G := tb_at (tb_m3 (List.mem_of_getElem? (i := 211) rfl)) rfl
theorem ki_X8_goBackByWord : Cond.initialized yX8_goBackByWord.cls ∈ tb_G := tb_at (tb_m1 (List.mem_of_getElem? (i := 1) rfl)) rfl
theorem ks_X8_goBackByWord : Cond.instanceMethod yX8_goBackByWord ∈ tb_G ∧ Cond.selects yX8_goBackByWord.cls yX8_goBackByWord yX8_goBackByWord ∈ tb_G := ⟨tb_at (tb_m3 (List.mem_of_getElem? (i := 210) rfl)) rfl, tb_at (tb_m0 (List.mem_of_getElem? (i := 24) rfl)) rfl⟩
theorem kd_X8_goBackByWord : (yX8_goBackByWord.cls ≠ "java/lang/invoke/MethodHandle" ∧ yX8_goBackByWord.cls ≠ "java/lang/invoke/VarHandle" ∧ (parseMethodDescriptor yX8_goBackByWord.desc).map (fun d => d.parameters.length) = some 0) := by decide +kernel
theorem lk_RX8_188 : cb_LV RX8 188 yX8_goBackByWord cX8_goBackByWord 2 (some .boolean) 0 := ⟨tb_at (tb_m3 (List.mem_of_getElem? (i := 208) rfl)) rfl, ks_X8_goBackByWord.1, ks_X8_goBackByWord.2, ki_X8_goBackByWord, kc_X8_goBackByWord, kd_X8_goBackByWord⟩
theorem lk_RX8_191 : cb_LV RX8 191 yX0_toSideOf cX0_toSideOf 3 none 2 := ⟨tb_at (tb_m3 (List.mem_of_getElem? (i := 216) rfl)) rfl, ks_X0_toSideOf.1, ks_X0_toSideOf.2, ki_X0_toSideOf, kc_X0_toSideOf, kd_X0_toSideOf⟩
theorem lk_RX8_195 : cb_LV RX8 195 yX6_clusterOver cX6_clusterOver 4 (some .int) 1 := ⟨tb_at (tb_m3 (List.mem_of_getElem? (i := 217) rfl)) rfl, ks_X6_clusterOver.1, ks_X6_clusterOver.2, ki_X6_clusterOver, kc_X6_clusterOver, kd_X6_clusterOver⟩
theorem kc_X8_pickWithin : Cond.code yX8_pickWithin cX8_pickWithin 5 none ∈ tb_G := tb_at (tb_m3 (List.mem_of_getElem? (i := 221) rfl)) rfl
theorem ki_X8_pickWithin : Cond.initialized yX8_pickWithin.cls ∈ tb_G := tb_at (tb_m1 (List.mem_of_getElem? (i := 1) rfl)) rfl
theorem ks_X8_pickWithin : Cond.instanceMethod yX8_pickWithin ∈ tb_G ∧ Cond.selects yX8_pickWithin.cls yX8_pickWithin yX8_pickWithin ∈ tb_G := ⟨tb_at (tb_m3 (List.mem_of_getElem? (i := 220) rfl)) rfl, tb_at (tb_m0 (List.mem_of_getElem? (i := 25) rfl)) rfl⟩
theorem kd_X8_pickWithin : (yX8_pickWithin.cls ≠ "java/lang/invoke/MethodHandle" ∧ yX8_pickWithin.cls ≠ "java/lang/invoke/VarHandle" ∧ (parseMethodDescriptor yX8_pickWithin.desc).map (fun d => d.parameters.length) = some 2) := by decide +kernel
theorem lk_RX8_198 : cb_LV RX8 198 yX8_pickWithin cX8_pickWithin 5 none 2 := ⟨tb_at (tb_m3 (List.mem_of_getElem? (i := 218) rfl)) rfl, ks_X8_pickWithin.1, ks_X8_pickWithin.2, ki_X8_pickWithin, kc_X8_pickWithin, kd_X8_pickWithin⟩
theorem lk_RX8_201 : cb_LV RX8 201 yX1_isBetween cX1_isBetween 2 (some .boolean) 1 := ⟨tb_at (tb_m3 (List.mem_of_getElem? (i := 227) rfl)) rfl, ks_X1_isBetween.1, ks_X1_isBetween.2, ki_X1_isBetween, kc_X1_isBetween, kd_X1_isBetween⟩
theorem kc_X4_gather : Cond.code yX4_gather cX4_gather 10 none ∈ tb_G := tb_at (tb_m3 (List.mem_of_getElem? (i := 233) rfl)) rfl
theorem ki_X4_gather : Cond.initialized yX4_gather.cls ∈ tb_G := tb_at (tb_m1 (List.mem_of_getElem? (i := 7) rfl)) rfl
theorem ks_X4_gather : Cond.instanceMethod yX4_gather ∈ tb_G ∧ Cond.selects yX4_gather.cls yX4_gather yX4_gather ∈ tb_G := ⟨tb_at (tb_m3 (List.mem_of_getElem? (i := 231) rfl)) rfl, tb_at (tb_m3 (List.mem_of_getElem? (i := 232) rfl)) rfl⟩
theorem kd_X4_gather : (yX4_gather.cls ≠ "java/lang/invoke/MethodHandle" ∧ yX4_gather.cls ≠ "java/lang/invoke/VarHandle" ∧ (parseMethodDescriptor yX4_gather.desc).map (fun d => d.parameters.length) = some 4) := by decide +kernel
theorem lk_RX8_213 : cb_LV RX8 213 yX4_gather cX4_gather 10 none 4 := ⟨tb_at (tb_m3 (List.mem_of_getElem? (i := 230) rfl)) rfl, ks_X4_gather.1, ks_X4_gather.2, ki_X4_gather, kc_X4_gather, kd_X4_gather⟩
theorem kc_X4_number : Cond.code yX4_number cX4_number 1 (some .int) ∈ tb_G := tb_at (tb_m4 (List.mem_of_getElem? (i := 6) rfl)) rfl
theorem ki_X4_number : Cond.initialized yX4_number.cls ∈ tb_G := tb_at (tb_m1 (List.mem_of_getElem? (i := 7) rfl)) rfl
theorem ks_X4_number : Cond.instanceMethod yX4_number ∈ tb_G ∧ Cond.selects yX4_number.cls yX4_number yX4_number ∈ tb_G := ⟨tb_at (tb_m4 (List.mem_of_getElem? (i := 4) rfl)) rfl, tb_at (tb_m4 (List.mem_of_getElem? (i := 5) rfl)) rfl⟩
theorem kd_X4_number : (yX4_number.cls ≠ "java/lang/invoke/MethodHandle" ∧ yX4_number.cls ≠ "java/lang/invoke/VarHandle" ∧ (parseMethodDescriptor yX4_number.desc).map (fun d => d.parameters.length) = some 0) := by decide +kernel
theorem lk_RX8_217 : cb_LV RX8 217 yX4_number cX4_number 1 (some .int) 0 := ⟨tb_at (tb_m4 (List.mem_of_getElem? (i := 3) rfl)) rfl, ks_X4_number.1, ks_X4_number.2, ki_X4_number, kc_X4_number, kd_X4_number⟩
theorem kc_X4_leftOf : Cond.code yX4_leftOf cX4_leftOf 2 (some .int) ∈ tb_G := tb_at (tb_m4 (List.mem_of_getElem? (i := 14) rfl)) rfl
theorem ki_X4_leftOf : Cond.initialized yX4_leftOf.cls ∈ tb_G := tb_at (tb_m1 (List.mem_of_getElem? (i := 7) rfl)) rfl
theorem ks_X4_leftOf : Cond.instanceMethod yX4_leftOf ∈ tb_G ∧ Cond.selects yX4_leftOf.cls yX4_leftOf yX4_leftOf ∈ tb_G := ⟨tb_at (tb_m4 (List.mem_of_getElem? (i := 12) rfl)) rfl, tb_at (tb_m4 (List.mem_of_getElem? (i := 13) rfl)) rfl⟩
theorem kd_X4_leftOf : (yX4_leftOf.cls ≠ "java/lang/invoke/MethodHandle" ∧ yX4_leftOf.cls ≠ "java/lang/invoke/VarHandle" ∧ (parseMethodDescriptor yX4_leftOf.desc).map (fun d => d.parameters.length) = some 1) := by decide +kernel
theorem lk_RX8_218 : cb_LV RX8 218 yX4_leftOf cX4_leftOf 2 (some .int) 1 := ⟨tb_at (tb_m4 (List.mem_of_getElem? (i := 11) rfl)) rfl, ks_X4_leftOf.1, ks_X4_leftOf.2, ki_X4_leftOf, kc_X4_leftOf, kd_X4_leftOf⟩
theorem kc_X4_rightOf : Cond.code yX4_rightOf cX4_rightOf 2 (some .int) ∈ tb_G := tb_at (tb_m4 (List.mem_of_getElem? (i := 19) rfl)) rfl
theorem ki_X4_rightOf : Cond.initialized yX4_rightOf.cls ∈ tb_G := tb_at (tb_m1 (List.mem_of_getElem? (i := 7) rfl)) rfl
theorem ks_X4_rightOf : Cond.instanceMethod yX4_rightOf ∈ tb_G ∧ Cond.selects yX4_rightOf.cls yX4_rightOf yX4_rightOf ∈ tb_G := ⟨tb_at (tb_m4 (List.mem_of_getElem? (i := 17) rfl)) rfl, tb_at (tb_m4 (List.mem_of_getElem? (i := 18) rfl)) rfl⟩
theorem kd_X4_rightOf : (yX4_rightOf.cls ≠ "java/lang/invoke/MethodHandle" ∧ yX4_rightOf.cls ≠ "java/lang/invoke/VarHandle" ∧ (parseMethodDescriptor yX4_rightOf.desc).map (fun d => d.parameters.length) = some 1) := by decide +kernel
theorem lk_RX8_219 : cb_LV RX8 219 yX4_rightOf cX4_rightOf 2 (some .int) 1 := ⟨tb_at (tb_m4 (List.mem_of_getElem? (i := 16) rfl)) rfl, ks_X4_rightOf.1, ks_X4_rightOf.2, ki_X4_rightOf, kc_X4_rightOf, kd_X4_rightOf⟩
theorem lk_RX8_222 : cb_LS RX8 222 yX7_isMark cX7_isMark 1 (some .boolean) 1 := ⟨tb_at (tb_m4 (List.mem_of_getElem? (i := 24) rfl)) rfl, ks_X7_isMark, ki_X7_isMark, kc_X7_isMark, kd_X7_isMark⟩
theorem kc_X1_aroundOrAheadOf : Cond.code yX1_aroundOrAheadOf cX1_aroundOrAheadOf 3 (some .int) ∈ tb_G := tb_at (tb_m4 (List.mem_of_getElem? (i := 28) rfl)) rfl
theorem ki_X1_aroundOrAheadOf : Cond.initialized yX1_aroundOrAheadOf.cls ∈ tb_G := tb_at (tb_m1 (List.mem_of_getElem? (i := 3) rfl)) rfl
theorem ks_X1_aroundOrAheadOf : Cond.instanceMethod yX1_aroundOrAheadOf ∈ tb_G ∧ Cond.selects yX1_aroundOrAheadOf.cls yX1_aroundOrAheadOf yX1_aroundOrAheadOf ∈ tb_G := ⟨tb_at (tb_m4 (List.mem_of_getElem? (i := 26) rfl)) rfl, tb_at (tb_m4 (List.mem_of_getElem? (i := 27) rfl)) rfl⟩
theorem kd_X1_aroundOrAheadOf : (yX1_aroundOrAheadOf.cls ≠ "java/lang/invoke/MethodHandle" ∧ yX1_aroundOrAheadOf.cls ≠ "java/lang/invoke/VarHandle" ∧ (parseMethodDescriptor yX1_aroundOrAheadOf.desc).map (fun d => d.parameters.length) = some 1) := by decide +kernel
theorem lk_RX8_225 : cb_LV RX8 225 yX1_aroundOrAheadOf cX1_aroundOrAheadOf 3 (some .int) 1 := ⟨tb_at (tb_m4 (List.mem_of_getElem? (i := 25) rfl)) rfl, ks_X1_aroundOrAheadOf.1, ks_X1_aroundOrAheadOf.2, ki_X1_aroundOrAheadOf, kc_X1_aroundOrAheadOf, kd_X1_aroundOrAheadOf⟩
theorem kc_X1_aroundOrBehind : Cond.code yX1_aroundOrBehind cX1_aroundOrBehind 3 (some .int) ∈ tb_G := tb_at (tb_m4 (List.mem_of_getElem? (i := 38) rfl)) rfl
theorem ki_X1_aroundOrBehind : Cond.initialized yX1_aroundOrBehind.cls ∈ tb_G := tb_at (tb_m1 (List.mem_of_getElem? (i := 3) rfl)) rfl
theorem ks_X1_aroundOrBehind : Cond.instanceMethod yX1_aroundOrBehind ∈ tb_G ∧ Cond.selects yX1_aroundOrBehind.cls yX1_aroundOrBehind yX1_aroundOrBehind ∈ tb_G := ⟨tb_at (tb_m4 (List.mem_of_getElem? (i := 36) rfl)) rfl, tb_at (tb_m4 (List.mem_of_getElem? (i := 37) rfl)) rfl⟩
theorem kd_X1_aroundOrBehind : (yX1_aroundOrBehind.cls ≠ "java/lang/invoke/MethodHandle" ∧ yX1_aroundOrBehind.cls ≠ "java/lang/invoke/VarHandle" ∧ (parseMethodDescriptor yX1_aroundOrBehind.desc).map (fun d => d.parameters.length) = some 1) := by decide +kernel
theorem lk_RX8_228 : cb_LV RX8 228 yX1_aroundOrBehind cX1_aroundOrBehind 3 (some .int) 1 := ⟨tb_at (tb_m4 (List.mem_of_getElem? (i := 35) rfl)) rfl, ks_X1_aroundOrBehind.1, ks_X1_aroundOrBehind.2, ki_X1_aroundOrBehind, kc_X1_aroundOrBehind, kd_X1_aroundOrBehind⟩
theorem kc_X3_insert : Cond.code yX3_insert cX3_insert 4 none ∈ tb_G := tb_at (tb_m2 (List.mem_of_getElem? (i := 222) rfl)) rfl
theorem ki_X3_insert : Cond.initialized yX3_insert.cls ∈ tb_G := tb_at (tb_m1 (List.mem_of_getElem? (i := 2) rfl)) rfl
theorem ks_X3_insert : Cond.instanceMethod yX3_insert ∈ tb_G ∧ Cond.selects yX3_insert.cls yX3_insert yX3_insert ∈ tb_G := ⟨tb_at (tb_m2 (List.mem_of_getElem? (i := 220) rfl)) rfl, tb_at (tb_m2 (List.mem_of_getElem? (i := 221) rfl)) rfl⟩
theorem kd_X3_insert : (yX3_insert.cls ≠ "java/lang/invoke/MethodHandle" ∧ yX3_insert.cls ≠ "java/lang/invoke/VarHandle" ∧ (parseMethodDescriptor yX3_insert.desc).map (fun d => d.parameters.length) = some 2) := by decide +kernel
theorem lk_RX8_231 : cb_LV RX8 231 yX3_insert cX3_insert 4 none 2 := ⟨tb_at (tb_m2 (List.mem_of_getElem? (i := 219) rfl)) rfl, ks_X3_insert.1, ks_X3_insert.2, ki_X3_insert, kc_X3_insert, kd_X3_insert⟩
theorem kc_X2_takeBack : Cond.code yX2_takeBack cX2_takeBack 2 (some .boolean) ∈ tb_G := tb_at (tb_m4 (List.mem_of_getElem? (i := 55) rfl)) rfl
theorem ki_X2_takeBack : Cond.initialized yX2_takeBack.cls ∈ tb_G := tb_at (tb_m1 (List.mem_of_getElem? (i := 8) rfl)) rfl
theorem ks_X2_takeBack : Cond.instanceMethod yX2_takeBack ∈ tb_G ∧ Cond.selects yX2_takeBack.cls yX2_takeBack yX2_takeBack ∈ tb_G := ⟨tb_at (tb_m4 (List.mem_of_getElem? (i := 53) rfl)) rfl, tb_at (tb_m4 (List.mem_of_getElem? (i := 54) rfl)) rfl⟩
theorem kd_X2_takeBack : (yX2_takeBack.cls ≠ "java/lang/invoke/MethodHandle" ∧ yX2_takeBack.cls ≠ "java/lang/invoke/VarHandle" ∧ (parseMethodDescriptor yX2_takeBack.desc).map (fun d => d.parameters.length) = some 1) := by decide +kernel
theorem lk_RX8_234 : cb_LV RX8 234 yX2_takeBack cX2_takeBack 2 (some .boolean) 1 := ⟨tb_at (tb_m4 (List.mem_of_getElem? (i := 52) rfl)) rfl, ks_X2_takeBack.1, ks_X2_takeBack.2, ki_X2_takeBack, kc_X2_takeBack, kd_X2_takeBack⟩
theorem kc_X2_standTaken : Cond.code yX2_standTaken cX2_standTaken 1 (some .int) ∈ tb_G := tb_at (tb_m4 (List.mem_of_getElem? (i := 63) rfl)) rfl
theorem ki_X2_standTaken : Cond.initialized yX2_standTaken.cls ∈ tb_G := tb_at (tb_m1 (List.mem_of_getElem? (i := 8) rfl)) rfl
theorem ks_X2_standTaken : Cond.instanceMethod yX2_standTaken ∈ tb_G ∧ Cond.selects yX2_standTaken.cls yX2_standTaken yX2_standTaken ∈ tb_G := ⟨tb_at (tb_m4 (List.mem_of_getElem? (i := 61) rfl)) rfl, tb_at (tb_m4 (List.mem_of_getElem? (i := 62) rfl)) rfl⟩
theorem kd_X2_standTaken : (yX2_standTaken.cls ≠ "java/lang/invoke/MethodHandle" ∧ yX2_standTaken.cls ≠ "java/lang/invoke/VarHandle" ∧ (parseMethodDescriptor yX2_standTaken.desc).map (fun d => d.parameters.length) = some 0) := by decide +kernel
theorem lk_RX8_238 : cb_LV RX8 238 yX2_standTaken cX2_standTaken 1 (some .int) 0 := ⟨tb_at (tb_m4 (List.mem_of_getElem? (i := 60) rfl)) rfl, ks_X2_standTaken.1, ks_X2_standTaken.2, ki_X2_standTaken, kc_X2_standTaken, kd_X2_standTaken⟩
theorem kc_X2_sideTaken : Cond.code yX2_sideTaken cX2_sideTaken 1 (some .int) ∈ tb_G := tb_at (tb_m4 (List.mem_of_getElem? (i := 68) rfl)) rfl
theorem ki_X2_sideTaken : Cond.initialized yX2_sideTaken.cls ∈ tb_G := tb_at (tb_m1 (List.mem_of_getElem? (i := 8) rfl)) rfl
theorem ks_X2_sideTaken : Cond.instanceMethod yX2_sideTaken ∈ tb_G ∧ Cond.selects yX2_sideTaken.cls yX2_sideTaken yX2_sideTaken ∈ tb_G := ⟨tb_at (tb_m4 (List.mem_of_getElem? (i := 66) rfl)) rfl, tb_at (tb_m4 (List.mem_of_getElem? (i := 67) rfl)) rfl⟩
theorem kd_X2_sideTaken : (yX2_sideTaken.cls ≠ "java/lang/invoke/MethodHandle" ∧ yX2_sideTaken.cls ≠ "java/lang/invoke/VarHandle" ∧ (parseMethodDescriptor yX2_sideTaken.desc).map (fun d => d.parameters.length) = some 0) := by decide +kernel
theorem lk_RX8_241 : cb_LV RX8 241 yX2_sideTaken cX2_sideTaken 1 (some .int) 0 := ⟨tb_at (tb_m4 (List.mem_of_getElem? (i := 65) rfl)) rfl, ks_X2_sideTaken.1, ks_X2_sideTaken.2, ki_X2_sideTaken, kc_X2_sideTaken, kd_X2_sideTaken⟩
theorem kc_X2_number : Cond.code yX2_number cX2_number 1 (some .int) ∈ tb_G := tb_at (tb_m4 (List.mem_of_getElem? (i := 72) rfl)) rfl
theorem ki_X2_number : Cond.initialized yX2_number.cls ∈ tb_G := tb_at (tb_m1 (List.mem_of_getElem? (i := 8) rfl)) rfl
theorem ks_X2_number : Cond.instanceMethod yX2_number ∈ tb_G ∧ Cond.selects yX2_number.cls yX2_number yX2_number ∈ tb_G := ⟨tb_at (tb_m4 (List.mem_of_getElem? (i := 70) rfl)) rfl, tb_at (tb_m4 (List.mem_of_getElem? (i := 71) rfl)) rfl⟩
theorem kd_X2_number : (yX2_number.cls ≠ "java/lang/invoke/MethodHandle" ∧ yX2_number.cls ≠ "java/lang/invoke/VarHandle" ∧ (parseMethodDescriptor yX2_number.desc).map (fun d => d.parameters.length) = some 0) := by decide +kernel
theorem lk_RX8_244 : cb_LV RX8 244 yX2_number cX2_number 1 (some .int) 0 := ⟨tb_at (tb_m4 (List.mem_of_getElem? (i := 69) rfl)) rfl, ks_X2_number.1, ks_X2_number.2, ki_X2_number, kc_X2_number, kd_X2_number⟩
theorem kc_X1_gather : Cond.code yX1_gather cX1_gather 5 none ∈ tb_G := tb_at (tb_m1 (List.mem_of_getElem? (i := 222) rfl)) rfl
theorem ki_X1_gather : Cond.initialized yX1_gather.cls ∈ tb_G := tb_at (tb_m1 (List.mem_of_getElem? (i := 3) rfl)) rfl
theorem ks_X1_gather : Cond.instanceMethod yX1_gather ∈ tb_G ∧ Cond.selects yX1_gather.cls yX1_gather yX1_gather ∈ tb_G := ⟨tb_at (tb_m1 (List.mem_of_getElem? (i := 220) rfl)) rfl, tb_at (tb_m1 (List.mem_of_getElem? (i := 221) rfl)) rfl⟩
theorem kd_X1_gather : (yX1_gather.cls ≠ "java/lang/invoke/MethodHandle" ∧ yX1_gather.cls ≠ "java/lang/invoke/VarHandle" ∧ (parseMethodDescriptor yX1_gather.desc).map (fun d => d.parameters.length) = some 1) := by decide +kernel
theorem lk_RX8_245 : cb_LV RX8 245 yX1_gather cX1_gather 5 none 1 := ⟨tb_at (tb_m1 (List.mem_of_getElem? (i := 219) rfl)) rfl, ks_X1_gather.1, ks_X1_gather.2, ki_X1_gather, kc_X1_gather, kd_X1_gather⟩
theorem kc_X5_lay : Cond.code yX5_lay cX5_lay 3 none ∈ tb_G := tb_at (tb_m2 (List.mem_of_getElem? (i := 33) rfl)) rfl
theorem ki_X5_lay : Cond.initialized yX5_lay.cls ∈ tb_G := tb_at (tb_m1 (List.mem_of_getElem? (i := 4) rfl)) rfl
theorem ks_X5_lay : Cond.instanceMethod yX5_lay ∈ tb_G ∧ Cond.selects yX5_lay.cls yX5_lay yX5_lay ∈ tb_G := ⟨tb_at (tb_m2 (List.mem_of_getElem? (i := 31) rfl)) rfl, tb_at (tb_m2 (List.mem_of_getElem? (i := 32) rfl)) rfl⟩
theorem kd_X5_lay : (yX5_lay.cls ≠ "java/lang/invoke/MethodHandle" ∧ yX5_lay.cls ≠ "java/lang/invoke/VarHandle" ∧ (parseMethodDescriptor yX5_lay.desc).map (fun d => d.parameters.length) = some 2) := by decide +kernel
theorem lk_RX8_248 : cb_LV RX8 248 yX5_lay cX5_lay 3 none 2 := ⟨tb_at (tb_m2 (List.mem_of_getElem? (i := 30) rfl)) rfl, ks_X5_lay.1, ks_X5_lay.2, ki_X5_lay, kc_X5_lay, kd_X5_lay⟩
theorem kc_X6_lay : Cond.code yX6_lay cX6_lay 5 none ∈ tb_G := tb_at (tb_m2 (List.mem_of_getElem? (i := 106) rfl)) rfl
theorem ki_X6_lay : Cond.initialized yX6_lay.cls ∈ tb_G := tb_at (tb_m1 (List.mem_of_getElem? (i := 5) rfl)) rfl
theorem ks_X6_lay : Cond.instanceMethod yX6_lay ∈ tb_G ∧ Cond.selects yX6_lay.cls yX6_lay yX6_lay ∈ tb_G := ⟨tb_at (tb_m2 (List.mem_of_getElem? (i := 104) rfl)) rfl, tb_at (tb_m2 (List.mem_of_getElem? (i := 105) rfl)) rfl⟩
theorem kd_X6_lay : (yX6_lay.cls ≠ "java/lang/invoke/MethodHandle" ∧ yX6_lay.cls ≠ "java/lang/invoke/VarHandle" ∧ (parseMethodDescriptor yX6_lay.desc).map (fun d => d.parameters.length) = some 3) := by decide +kernel
theorem lk_RX8_252 : cb_LV RX8 252 yX6_lay cX6_lay 5 none 3 := ⟨tb_at (tb_m2 (List.mem_of_getElem? (i := 103) rfl)) rfl, ks_X6_lay.1, ks_X6_lay.2, ki_X6_lay, kc_X6_lay, kd_X6_lay⟩
theorem kc_X2_keep : Cond.code yX2_keep cX2_keep 4 none ∈ tb_G := tb_at (tb_m2 (List.mem_of_getElem? (i := 205) rfl)) rfl
theorem ki_X2_keep : Cond.initialized yX2_keep.cls ∈ tb_G := tb_at (tb_m1 (List.mem_of_getElem? (i := 8) rfl)) rfl
theorem ks_X2_keep : Cond.instanceMethod yX2_keep ∈ tb_G ∧ Cond.selects yX2_keep.cls yX2_keep yX2_keep ∈ tb_G := ⟨tb_at (tb_m2 (List.mem_of_getElem? (i := 203) rfl)) rfl, tb_at (tb_m2 (List.mem_of_getElem? (i := 204) rfl)) rfl⟩
theorem kd_X2_keep : (yX2_keep.cls ≠ "java/lang/invoke/MethodHandle" ∧ yX2_keep.cls ≠ "java/lang/invoke/VarHandle" ∧ (parseMethodDescriptor yX2_keep.desc).map (fun d => d.parameters.length) = some 3) := by decide +kernel
theorem lk_RX8_255 : cb_LV RX8 255 yX2_keep cX2_keep 4 none 3 := ⟨tb_at (tb_m2 (List.mem_of_getElem? (i := 202) rfl)) rfl, ks_X2_keep.1, ks_X2_keep.2, ki_X2_keep, kc_X2_keep, kd_X2_keep⟩
theorem kc_X3_remove : Cond.code yX3_remove cX3_remove 5 none ∈ tb_G := tb_at (tb_m3 (List.mem_of_getElem? (i := 21) rfl)) rfl
theorem ki_X3_remove : Cond.initialized yX3_remove.cls ∈ tb_G := tb_at (tb_m1 (List.mem_of_getElem? (i := 2) rfl)) rfl
theorem ks_X3_remove : Cond.instanceMethod yX3_remove ∈ tb_G ∧ Cond.selects yX3_remove.cls yX3_remove yX3_remove ∈ tb_G := ⟨tb_at (tb_m3 (List.mem_of_getElem? (i := 19) rfl)) rfl, tb_at (tb_m3 (List.mem_of_getElem? (i := 20) rfl)) rfl⟩
theorem kd_X3_remove : (yX3_remove.cls ≠ "java/lang/invoke/MethodHandle" ∧ yX3_remove.cls ≠ "java/lang/invoke/VarHandle" ∧ (parseMethodDescriptor yX3_remove.desc).map (fun d => d.parameters.length) = some 2) := by decide +kernel
theorem lk_RX8_259 : cb_LV RX8 259 yX3_remove cX3_remove 5 none 2 := ⟨tb_at (tb_m3 (List.mem_of_getElem? (i := 18) rfl)) rfl, ks_X3_remove.1, ks_X3_remove.2, ki_X3_remove, kc_X3_remove, kd_X3_remove⟩
theorem kc_X8_beginsWord : Cond.code yX8_beginsWord cX8_beginsWord 4 (some .boolean) ∈ tb_G := tb_at (tb_m3 (List.mem_of_getElem? (i := 201) rfl)) rfl
theorem ki_X8_beginsWord : Cond.initialized yX8_beginsWord.cls ∈ tb_G := tb_at (tb_m1 (List.mem_of_getElem? (i := 1) rfl)) rfl
theorem ks_X8_beginsWord : Cond.instanceMethod yX8_beginsWord ∈ tb_G ∧ Cond.selects yX8_beginsWord.cls yX8_beginsWord yX8_beginsWord ∈ tb_G := ⟨tb_at (tb_m3 (List.mem_of_getElem? (i := 200) rfl)) rfl, tb_at (tb_m0 (List.mem_of_getElem? (i := 23) rfl)) rfl⟩
theorem kd_X8_beginsWord : (yX8_beginsWord.cls ≠ "java/lang/invoke/MethodHandle" ∧ yX8_beginsWord.cls ≠ "java/lang/invoke/VarHandle" ∧ (parseMethodDescriptor yX8_beginsWord.desc).map (fun d => d.parameters.length) = some 1) := by decide +kernel
theorem lk_RX8_262 : cb_LV RX8 262 yX8_beginsWord cX8_beginsWord 4 (some .boolean) 1 := ⟨tb_at (tb_m3 (List.mem_of_getElem? (i := 198) rfl)) rfl, ks_X8_beginsWord.1, ks_X8_beginsWord.2, ki_X8_beginsWord, kc_X8_beginsWord, kd_X8_beginsWord⟩
theorem lk_RX8_265 : cb_LV RX8 265 yX1_endingAt cX1_endingAt 2 (some .int) 1 := ⟨tb_at (tb_m3 (List.mem_of_getElem? (i := 202) rfl)) rfl, ks_X1_endingAt.1, ks_X1_endingAt.2, ki_X1_endingAt, kc_X1_endingAt, kd_X1_endingAt⟩
theorem lk_RX8_268 : cb_LV RX8 268 yX1_beginningAt cX1_beginningAt 2 (some .int) 1 := ⟨tb_at (tb_m3 (List.mem_of_getElem? (i := 203) rfl)) rfl, ks_X1_beginningAt.1, ks_X1_beginningAt.2, ki_X1_beginningAt, kc_X1_beginningAt, kd_X1_beginningAt⟩
theorem kc_X7_isOfWord : Cond.code yX7_isOfWord cX7_isOfWord 1 (some .boolean) ∈ tb_G := tb_at (tb_m3 (List.mem_of_getElem? (i := 206) rfl)) rfl
theorem ki_X7_isOfWord : Cond.initialized yX7_isOfWord.cls ∈ tb_G := tb_at (tb_m1 (List.mem_of_getElem? (i := 9) rfl)) rfl
theorem ks_X7_isOfWord : Cond.static yX7_isOfWord ∈ tb_G := tb_at (tb_m3 (List.mem_of_getElem? (i := 205) rfl)) rfl
theorem kd_X7_isOfWord : (yX7_isOfWord.cls ≠ "java/lang/invoke/MethodHandle" ∧ yX7_isOfWord.cls ≠ "java/lang/invoke/VarHandle" ∧ (parseMethodDescriptor yX7_isOfWord.desc).map (fun d => d.parameters.length) = some 1) := by decide +kernel
theorem lk_RX8_271 : cb_LS RX8 271 yX7_isOfWord cX7_isOfWord 1 (some .boolean) 1 := ⟨tb_at (tb_m3 (List.mem_of_getElem? (i := 204) rfl)) rfl, ks_X7_isOfWord, ki_X7_isOfWord, kc_X7_isOfWord, kd_X7_isOfWord⟩
theorem lk_RX8_274 : cb_LV RX8 274 yX0_toMiddleOf cX0_toMiddleOf 2 none 1 := ⟨tb_at (tb_m3 (List.mem_of_getElem? (i := 222) rfl)) rfl, ks_X0_toMiddleOf.1, ks_X0_toMiddleOf.2, ki_X0_toMiddleOf, kc_X0_toMiddleOf, kd_X0_toMiddleOf⟩
theorem kc_X9_isForward : Cond.code yX9_isForward cX9_isForward 1 (some .boolean) ∈ tb_G := tb_at (tb_m4 (List.mem_of_getElem? (i := 196) rfl)) rfl
theorem ki_X9_isForward : Cond.initialized yX9_isForward.cls ∈ tb_G := tb_at (tb_m1 (List.mem_of_getElem? (i := 12) rfl)) rfl
theorem ks_X9_isForward : Cond.static yX9_isForward ∈ tb_G := tb_at (tb_m4 (List.mem_of_getElem? (i := 195) rfl)) rfl
theorem kd_X9_isForward : (yX9_isForward.cls ≠ "java/lang/invoke/MethodHandle" ∧ yX9_isForward.cls ≠ "java/lang/invoke/VarHandle" ∧ (parseMethodDescriptor yX9_isForward.desc).map (fun d => d.parameters.length) = some 1) := by decide +kernel
theorem lk_RX9_90 : cb_LS RX9 90 yX9_isForward cX9_isForward 1 (some .boolean) 1 := ⟨tb_at (tb_m4 (List.mem_of_getElem? (i := 194) rfl)) rfl, ks_X9_isForward, ki_X9_isForward, kc_X9_isForward, kd_X9_isForward⟩
theorem kc_X9_isBackward : Cond.code yX9_isBackward cX9_isBackward 1 (some .boolean) ∈ tb_G := tb_at (tb_m4 (List.mem_of_getElem? (i := 199) rfl)) rfl
theorem ki_X9_isBackward : Cond.initialized yX9_isBackward.cls ∈ tb_G := tb_at (tb_m1 (List.mem_of_getElem? (i := 12) rfl)) rfl
theorem ks_X9_isBackward : Cond.static yX9_isBackward ∈ tb_G := tb_at (tb_m4 (List.mem_of_getElem? (i := 198) rfl)) rfl
theorem kd_X9_isBackward : (yX9_isBackward.cls ≠ "java/lang/invoke/MethodHandle" ∧ yX9_isBackward.cls ≠ "java/lang/invoke/VarHandle" ∧ (parseMethodDescriptor yX9_isBackward.desc).map (fun d => d.parameters.length) = some 1) := by decide +kernel
theorem lk_RX9_94 : cb_LS RX9 94 yX9_isBackward cX9_isBackward 1 (some .boolean) 1 := ⟨tb_at (tb_m4 (List.mem_of_getElem? (i := 197) rfl)) rfl, ks_X9_isBackward, ki_X9_isBackward, kc_X9_isBackward, kd_X9_isBackward⟩
theorem kc_X9_isLetter : Cond.code yX9_isLetter cX9_isLetter 1 (some .boolean) ∈ tb_G := tb_at (tb_m4 (List.mem_of_getElem? (i := 193) rfl)) rfl
theorem ki_X9_isLetter : Cond.initialized yX9_isLetter.cls ∈ tb_G := tb_at (tb_m1 (List.mem_of_getElem? (i := 12) rfl)) rfl
theorem ks_X9_isLetter : Cond.static yX9_isLetter ∈ tb_G := tb_at (tb_m4 (List.mem_of_getElem? (i := 192) rfl)) rfl
theorem kd_X9_isLetter : (yX9_isLetter.cls ≠ "java/lang/invoke/MethodHandle" ∧ yX9_isLetter.cls ≠ "java/lang/invoke/VarHandle" ∧ (parseMethodDescriptor yX9_isLetter.desc).map (fun d => d.parameters.length) = some 1) := by decide +kernel
theorem lk_RX9_97 : cb_LS RX9 97 yX9_isLetter cX9_isLetter 1 (some .boolean) 1 := ⟨tb_at (tb_m4 (List.mem_of_getElem? (i := 191) rfl)) rfl, ks_X9_isLetter, ki_X9_isLetter, kc_X9_isLetter, kd_X9_isLetter⟩
theorem kc_X9_isDigit : Cond.code yX9_isDigit cX9_isDigit 1 (some .boolean) ∈ tb_G := tb_at (tb_m4 (List.mem_of_getElem? (i := 202) rfl)) rfl
theorem ki_X9_isDigit : Cond.initialized yX9_isDigit.cls ∈ tb_G := tb_at (tb_m1 (List.mem_of_getElem? (i := 12) rfl)) rfl
theorem ks_X9_isDigit : Cond.static yX9_isDigit ∈ tb_G := tb_at (tb_m4 (List.mem_of_getElem? (i := 201) rfl)) rfl
theorem kd_X9_isDigit : (yX9_isDigit.cls ≠ "java/lang/invoke/MethodHandle" ∧ yX9_isDigit.cls ≠ "java/lang/invoke/VarHandle" ∧ (parseMethodDescriptor yX9_isDigit.desc).map (fun d => d.parameters.length) = some 1) := by decide +kernel
theorem lk_RX9_100 : cb_LS RX9 100 yX9_isDigit cX9_isDigit 1 (some .boolean) 1 := ⟨tb_at (tb_m4 (List.mem_of_getElem? (i := 200) rfl)) rfl, ks_X9_isDigit, ki_X9_isDigit, kc_X9_isDigit, kd_X9_isDigit⟩
theorem kc_X9_isMark : Cond.code yX9_isMark cX9_isMark 1 (some .boolean) ∈ tb_G := tb_at (tb_m4 (List.mem_of_getElem? (i := 205) rfl)) rfl
theorem ki_X9_isMark : Cond.initialized yX9_isMark.cls ∈ tb_G := tb_at (tb_m1 (List.mem_of_getElem? (i := 12) rfl)) rfl
theorem ks_X9_isMark : Cond.static yX9_isMark ∈ tb_G := tb_at (tb_m4 (List.mem_of_getElem? (i := 204) rfl)) rfl
theorem kd_X9_isMark : (yX9_isMark.cls ≠ "java/lang/invoke/MethodHandle" ∧ yX9_isMark.cls ≠ "java/lang/invoke/VarHandle" ∧ (parseMethodDescriptor yX9_isMark.desc).map (fun d => d.parameters.length) = some 1) := by decide +kernel
theorem lk_RX9_103 : cb_LS RX9 103 yX9_isMark cX9_isMark 1 (some .boolean) 1 := ⟨tb_at (tb_m4 (List.mem_of_getElem? (i := 203) rfl)) rfl, ks_X9_isMark, ki_X9_isMark, kc_X9_isMark, kd_X9_isMark⟩
theorem kc_X9_isIsle : Cond.code yX9_isIsle cX9_isIsle 1 (some .boolean) ∈ tb_G := tb_at (tb_m4 (List.mem_of_getElem? (i := 208) rfl)) rfl
theorem ki_X9_isIsle : Cond.initialized yX9_isIsle.cls ∈ tb_G := tb_at (tb_m1 (List.mem_of_getElem? (i := 12) rfl)) rfl
theorem ks_X9_isIsle : Cond.static yX9_isIsle ∈ tb_G := tb_at (tb_m4 (List.mem_of_getElem? (i := 207) rfl)) rfl
theorem kd_X9_isIsle : (yX9_isIsle.cls ≠ "java/lang/invoke/MethodHandle" ∧ yX9_isIsle.cls ≠ "java/lang/invoke/VarHandle" ∧ (parseMethodDescriptor yX9_isIsle.desc).map (fun d => d.parameters.length) = some 1) := by decide +kernel
theorem lk_RX9_106 : cb_LS RX9 106 yX9_isIsle cX9_isIsle 1 (some .boolean) 1 := ⟨tb_at (tb_m4 (List.mem_of_getElem? (i := 206) rfl)) rfl, ks_X9_isIsle, ki_X9_isIsle, kc_X9_isIsle, kd_X9_isIsle⟩
theorem kc_X9_aboveBase : Cond.code yX9_aboveBase cX9_aboveBase 2 (some .int) ∈ tb_G := tb_at (tb_m4 (List.mem_of_getElem? (i := 227) rfl)) rfl
theorem ki_X9_aboveBase : Cond.initialized yX9_aboveBase.cls ∈ tb_G := tb_at (tb_m1 (List.mem_of_getElem? (i := 12) rfl)) rfl
theorem ks_X9_aboveBase : Cond.static yX9_aboveBase ∈ tb_G := tb_at (tb_m4 (List.mem_of_getElem? (i := 226) rfl)) rfl
theorem kd_X9_aboveBase : (yX9_aboveBase.cls ≠ "java/lang/invoke/MethodHandle" ∧ yX9_aboveBase.cls ≠ "java/lang/invoke/VarHandle" ∧ (parseMethodDescriptor yX9_aboveBase.desc).map (fun d => d.parameters.length) = some 2) := by decide +kernel
theorem lk_RX9_115 : cb_LS RX9 115 yX9_aboveBase cX9_aboveBase 2 (some .int) 2 := ⟨tb_at (tb_m4 (List.mem_of_getElem? (i := 225) rfl)) rfl, ks_X9_aboveBase, ki_X9_aboveBase, kc_X9_aboveBase, kd_X9_aboveBase⟩
theorem kc_X9_plainSort : Cond.code yX9_plainSort cX9_plainSort 3 (some .int) ∈ tb_G := tb_at (tb_m4 (List.mem_of_getElem? (i := 239) rfl)) rfl
theorem ki_X9_plainSort : Cond.initialized yX9_plainSort.cls ∈ tb_G := tb_at (tb_m1 (List.mem_of_getElem? (i := 12) rfl)) rfl
theorem ks_X9_plainSort : Cond.instanceMethod yX9_plainSort ∈ tb_G ∧ Cond.selects yX9_plainSort.cls yX9_plainSort yX9_plainSort ∈ tb_G := ⟨tb_at (tb_m4 (List.mem_of_getElem? (i := 238) rfl)) rfl, tb_at (tb_m0 (List.mem_of_getElem? (i := 33) rfl)) rfl⟩
theorem kd_X9_plainSort : (yX9_plainSort.cls ≠ "java/lang/invoke/MethodHandle" ∧ yX9_plainSort.cls ≠ "java/lang/invoke/VarHandle" ∧ (parseMethodDescriptor yX9_plainSort.desc).map (fun d => d.parameters.length) = some 1) := by decide +kernel
theorem lk_RX9_122 : cb_LV RX9 122 yX9_plainSort cX9_plainSort 3 (some .int) 1 := ⟨tb_at (tb_m4 (List.mem_of_getElem? (i := 236) rfl)) rfl, ks_X9_plainSort.1, ks_X9_plainSort.2, ki_X9_plainSort, kc_X9_plainSort, kd_X9_plainSort⟩
theorem kc_X9_isDigitAt : Cond.code yX9_isDigitAt cX9_isDigitAt 2 (some .boolean) ∈ tb_G := tb_at (tb_m5 (List.mem_of_getElem? (i := 3) rfl)) rfl
theorem ki_X9_isDigitAt : Cond.initialized yX9_isDigitAt.cls ∈ tb_G := tb_at (tb_m1 (List.mem_of_getElem? (i := 12) rfl)) rfl
theorem ks_X9_isDigitAt : Cond.instanceMethod yX9_isDigitAt ∈ tb_G ∧ Cond.selects yX9_isDigitAt.cls yX9_isDigitAt yX9_isDigitAt ∈ tb_G := ⟨tb_at (tb_m5 (List.mem_of_getElem? (i := 2) rfl)) rfl, tb_at (tb_m0 (List.mem_of_getElem? (i := 34) rfl)) rfl⟩
theorem kd_X9_isDigitAt : (yX9_isDigitAt.cls ≠ "java/lang/invoke/MethodHandle" ∧ yX9_isDigitAt.cls ≠ "java/lang/invoke/VarHandle" ∧ (parseMethodDescriptor yX9_isDigitAt.desc).map (fun d => d.parameters.length) = some 1) := by decide +kernel
theorem lk_RX9_126 : cb_LV RX9 126 yX9_isDigitAt cX9_isDigitAt 2 (some .boolean) 1 := ⟨tb_at (tb_m5 (List.mem_of_getElem? (i := 0) rfl)) rfl, ks_X9_isDigitAt.1, ks_X9_isDigitAt.2, ki_X9_isDigitAt, kc_X9_isDigitAt, kd_X9_isDigitAt⟩
theorem kc_X9_rows : Cond.code yX9_rows cX9_rows 4 none ∈ tb_G := tb_at (tb_m4 (List.mem_of_getElem? (i := 224) rfl)) rfl
theorem ki_X9_rows : Cond.initialized yX9_rows.cls ∈ tb_G := tb_at (tb_m1 (List.mem_of_getElem? (i := 12) rfl)) rfl
theorem ks_X9_rows : Cond.instanceMethod yX9_rows ∈ tb_G ∧ Cond.selects yX9_rows.cls yX9_rows yX9_rows ∈ tb_G := ⟨tb_at (tb_m4 (List.mem_of_getElem? (i := 223) rfl)) rfl, tb_at (tb_m0 (List.mem_of_getElem? (i := 30) rfl)) rfl⟩
theorem kd_X9_rows : (yX9_rows.cls ≠ "java/lang/invoke/MethodHandle" ∧ yX9_rows.cls ≠ "java/lang/invoke/VarHandle" ∧ (parseMethodDescriptor yX9_rows.desc).map (fun d => d.parameters.length) = some 0) := by decide +kernel
theorem lk_RX9_132 : cb_LV RX9 132 yX9_rows cX9_rows 4 none 0 := ⟨tb_at (tb_m4 (List.mem_of_getElem? (i := 221) rfl)) rfl, ks_X9_rows.1, ks_X9_rows.2, ki_X9_rows, kc_X9_rows, kd_X9_rows⟩
theorem kc_X9_joinsOf : Cond.code yX9_joinsOf cX9_joinsOf 3 none ∈ tb_G := tb_at (tb_m4 (List.mem_of_getElem? (i := 231) rfl)) rfl
theorem ki_X9_joinsOf : Cond.initialized yX9_joinsOf.cls ∈ tb_G := tb_at (tb_m1 (List.mem_of_getElem? (i := 12) rfl)) rfl
theorem ks_X9_joinsOf : Cond.instanceMethod yX9_joinsOf ∈ tb_G ∧ Cond.selects yX9_joinsOf.cls yX9_joinsOf yX9_joinsOf ∈ tb_G := ⟨tb_at (tb_m4 (List.mem_of_getElem? (i := 230) rfl)) rfl, tb_at (tb_m0 (List.mem_of_getElem? (i := 31) rfl)) rfl⟩
theorem kd_X9_joinsOf : (yX9_joinsOf.cls ≠ "java/lang/invoke/MethodHandle" ∧ yX9_joinsOf.cls ≠ "java/lang/invoke/VarHandle" ∧ (parseMethodDescriptor yX9_joinsOf.desc).map (fun d => d.parameters.length) = some 0) := by decide +kernel
theorem lk_RX9_134 : cb_LV RX9 134 yX9_joinsOf cX9_joinsOf 3 none 0 := ⟨tb_at (tb_m4 (List.mem_of_getElem? (i := 228) rfl)) rfl, ks_X9_joinsOf.1, ks_X9_joinsOf.2, ki_X9_joinsOf, kc_X9_joinsOf, kd_X9_joinsOf⟩
theorem kc_X9_row : Cond.code yX9_row cX9_row 9 none ∈ tb_G := tb_at (tb_m4 (List.mem_of_getElem? (i := 235) rfl)) rfl
theorem ki_X9_row : Cond.initialized yX9_row.cls ∈ tb_G := tb_at (tb_m1 (List.mem_of_getElem? (i := 12) rfl)) rfl
theorem ks_X9_row : Cond.instanceMethod yX9_row ∈ tb_G ∧ Cond.selects yX9_row.cls yX9_row yX9_row ∈ tb_G := ⟨tb_at (tb_m4 (List.mem_of_getElem? (i := 234) rfl)) rfl, tb_at (tb_m0 (List.mem_of_getElem? (i := 32) rfl)) rfl⟩
theorem kd_X9_row : (yX9_row.cls ≠ "java/lang/invoke/MethodHandle" ∧ yX9_row.cls ≠ "java/lang/invoke/VarHandle" ∧ (parseMethodDescriptor yX9_row.desc).map (fun d => d.parameters.length) = some 1) := by decide +kernel
theorem lk_RX9_137 : cb_LV RX9 137 yX9_row cX9_row 9 none 1 := ⟨tb_at (tb_m4 (List.mem_of_getElem? (i := 232) rfl)) rfl, ks_X9_row.1, ks_X9_row.2, ki_X9_row, kc_X9_row, kd_X9_row⟩
theorem kc_X9_clustersOf : Cond.code yX9_clustersOf cX9_clustersOf 5 none ∈ tb_G := tb_at (tb_m5 (List.mem_of_getElem? (i := 7) rfl)) rfl
theorem ki_X9_clustersOf : Cond.initialized yX9_clustersOf.cls ∈ tb_G := tb_at (tb_m1 (List.mem_of_getElem? (i := 12) rfl)) rfl
theorem ks_X9_clustersOf : Cond.instanceMethod yX9_clustersOf ∈ tb_G ∧ Cond.selects yX9_clustersOf.cls yX9_clustersOf yX9_clustersOf ∈ tb_G := ⟨tb_at (tb_m5 (List.mem_of_getElem? (i := 6) rfl)) rfl, tb_at (tb_m0 (List.mem_of_getElem? (i := 35) rfl)) rfl⟩
theorem kd_X9_clustersOf : (yX9_clustersOf.cls ≠ "java/lang/invoke/MethodHandle" ∧ yX9_clustersOf.cls ≠ "java/lang/invoke/VarHandle" ∧ (parseMethodDescriptor yX9_clustersOf.desc).map (fun d => d.parameters.length) = some 0) := by decide +kernel
theorem lk_RX9_141 : cb_LV RX9 141 yX9_clustersOf cX9_clustersOf 5 none 0 := ⟨tb_at (tb_m5 (List.mem_of_getElem? (i := 4) rfl)) rfl, ks_X9_clustersOf.1, ks_X9_clustersOf.2, ki_X9_clustersOf, kc_X9_clustersOf, kd_X9_clustersOf⟩
theorem kc_X9_turns : Cond.code yX9_turns cX9_turns 7 none ∈ tb_G := tb_at (tb_m5 (List.mem_of_getElem? (i := 11) rfl)) rfl
theorem ki_X9_turns : Cond.initialized yX9_turns.cls ∈ tb_G := tb_at (tb_m1 (List.mem_of_getElem? (i := 12) rfl)) rfl
theorem ks_X9_turns : Cond.instanceMethod yX9_turns ∈ tb_G ∧ Cond.selects yX9_turns.cls yX9_turns yX9_turns ∈ tb_G := ⟨tb_at (tb_m5 (List.mem_of_getElem? (i := 10) rfl)) rfl, tb_at (tb_m0 (List.mem_of_getElem? (i := 36) rfl)) rfl⟩
theorem kd_X9_turns : (yX9_turns.cls ≠ "java/lang/invoke/MethodHandle" ∧ yX9_turns.cls ≠ "java/lang/invoke/VarHandle" ∧ (parseMethodDescriptor yX9_turns.desc).map (fun d => d.parameters.length) = some 1) := by decide +kernel
theorem lk_RX9_144 : cb_LV RX9 144 yX9_turns cX9_turns 7 none 1 := ⟨tb_at (tb_m5 (List.mem_of_getElem? (i := 8) rfl)) rfl, ks_X9_turns.1, ks_X9_turns.2, ki_X9_turns, kc_X9_turns, kd_X9_turns⟩
theorem kc_X9_widthOf : Cond.code yX9_widthOf cX9_widthOf 3 (some .int) ∈ tb_G := tb_at (tb_m5 (List.mem_of_getElem? (i := 15) rfl)) rfl
theorem ki_X9_widthOf : Cond.initialized yX9_widthOf.cls ∈ tb_G := tb_at (tb_m1 (List.mem_of_getElem? (i := 12) rfl)) rfl
theorem ks_X9_widthOf : Cond.instanceMethod yX9_widthOf ∈ tb_G ∧ Cond.selects yX9_widthOf.cls yX9_widthOf yX9_widthOf ∈ tb_G := ⟨tb_at (tb_m5 (List.mem_of_getElem? (i := 14) rfl)) rfl, tb_at (tb_m0 (List.mem_of_getElem? (i := 37) rfl)) rfl⟩
theorem kd_X9_widthOf : (yX9_widthOf.cls ≠ "java/lang/invoke/MethodHandle" ∧ yX9_widthOf.cls ≠ "java/lang/invoke/VarHandle" ∧ (parseMethodDescriptor yX9_widthOf.desc).map (fun d => d.parameters.length) = some 1) := by decide +kernel
theorem lk_RX9_150 : cb_LV RX9 150 yX9_widthOf cX9_widthOf 3 (some .int) 1 := ⟨tb_at (tb_m5 (List.mem_of_getElem? (i := 12) rfl)) rfl, ks_X9_widthOf.1, ks_X9_widthOf.2, ki_X9_widthOf, kc_X9_widthOf, kd_X9_widthOf⟩
theorem kc_X9_beginsAt : Cond.code yX9_beginsAt cX9_beginsAt 3 (some .int) ∈ tb_G := tb_at (tb_m5 (List.mem_of_getElem? (i := 27) rfl)) rfl
theorem ki_X9_beginsAt : Cond.initialized yX9_beginsAt.cls ∈ tb_G := tb_at (tb_m1 (List.mem_of_getElem? (i := 12) rfl)) rfl
theorem ks_X9_beginsAt : Cond.instanceMethod yX9_beginsAt ∈ tb_G ∧ Cond.selects yX9_beginsAt.cls yX9_beginsAt yX9_beginsAt ∈ tb_G := ⟨tb_at (tb_m5 (List.mem_of_getElem? (i := 26) rfl)) rfl, tb_at (tb_m0 (List.mem_of_getElem? (i := 40) rfl)) rfl⟩
theorem kd_X9_beginsAt : (yX9_beginsAt.cls ≠ "java/lang/invoke/MethodHandle" ∧ yX9_beginsAt.cls ≠ "java/lang/invoke/VarHandle" ∧ (parseMethodDescriptor yX9_beginsAt.desc).map (fun d => d.parameters.length) = some 1) := by decide +kernel
theorem lk_RX9_153 : cb_LV RX9 153 yX9_beginsAt cX9_beginsAt 3 (some .int) 1 := ⟨tb_at (tb_m5 (List.mem_of_getElem? (i := 24) rfl)) rfl, ks_X9_beginsAt.1, ks_X9_beginsAt.2, ki_X9_beginsAt, kc_X9_beginsAt, kd_X9_beginsAt⟩
theorem kc_X9_isBetween : Cond.code yX9_isBetween cX9_isBetween 2 (some .boolean) ∈ tb_G := tb_at (tb_m5 (List.mem_of_getElem? (i := 23) rfl)) rfl
theorem ki_X9_isBetween : Cond.initialized yX9_isBetween.cls ∈ tb_G := tb_at (tb_m1 (List.mem_of_getElem? (i := 12) rfl)) rfl
theorem ks_X9_isBetween : Cond.instanceMethod yX9_isBetween ∈ tb_G ∧ Cond.selects yX9_isBetween.cls yX9_isBetween yX9_isBetween ∈ tb_G := ⟨tb_at (tb_m5 (List.mem_of_getElem? (i := 22) rfl)) rfl, tb_at (tb_m0 (List.mem_of_getElem? (i := 39) rfl)) rfl⟩
theorem kd_X9_isBetween : (yX9_isBetween.cls ≠ "java/lang/invoke/MethodHandle" ∧ yX9_isBetween.cls ≠ "java/lang/invoke/VarHandle" ∧ (parseMethodDescriptor yX9_isBetween.desc).map (fun d => d.parameters.length) = some 1) := by decide +kernel
theorem lk_RX9_156 : cb_LV RX9 156 yX9_isBetween cX9_isBetween 2 (some .boolean) 1 := ⟨tb_at (tb_m5 (List.mem_of_getElem? (i := 20) rfl)) rfl, ks_X9_isBetween.1, ks_X9_isBetween.2, ki_X9_isBetween, kc_X9_isBetween, kd_X9_isBetween⟩
theorem kc_X9_holds : Cond.code yX9_holds cX9_holds 3 (some .int) ∈ tb_G := tb_at (tb_m5 (List.mem_of_getElem? (i := 31) rfl)) rfl
theorem ki_X9_holds : Cond.initialized yX9_holds.cls ∈ tb_G := tb_at (tb_m1 (List.mem_of_getElem? (i := 12) rfl)) rfl
theorem ks_X9_holds : Cond.instanceMethod yX9_holds ∈ tb_G ∧ Cond.selects yX9_holds.cls yX9_holds yX9_holds ∈ tb_G := ⟨tb_at (tb_m5 (List.mem_of_getElem? (i := 30) rfl)) rfl, tb_at (tb_m0 (List.mem_of_getElem? (i := 41) rfl)) rfl⟩
theorem kd_X9_holds : (yX9_holds.cls ≠ "java/lang/invoke/MethodHandle" ∧ yX9_holds.cls ≠ "java/lang/invoke/VarHandle" ∧ (parseMethodDescriptor yX9_holds.desc).map (fun d => d.parameters.length) = some 1) := by decide +kernel
theorem lk_RX9_159 : cb_LV RX9 159 yX9_holds cX9_holds 3 (some .int) 1 := ⟨tb_at (tb_m5 (List.mem_of_getElem? (i := 28) rfl)) rfl, ks_X9_holds.1, ks_X9_holds.2, ki_X9_holds, kc_X9_holds, kd_X9_holds⟩
theorem kc_X9_looks : Cond.code yX9_looks cX9_looks 4 none ∈ tb_G := tb_at (tb_m4 (List.mem_of_getElem? (i := 220) rfl)) rfl
theorem ki_X9_looks : Cond.initialized yX9_looks.cls ∈ tb_G := tb_at (tb_m1 (List.mem_of_getElem? (i := 12) rfl)) rfl
theorem ks_X9_looks : Cond.instanceMethod yX9_looks ∈ tb_G ∧ Cond.selects yX9_looks.cls yX9_looks yX9_looks ∈ tb_G := ⟨tb_at (tb_m4 (List.mem_of_getElem? (i := 219) rfl)) rfl, tb_at (tb_m0 (List.mem_of_getElem? (i := 29) rfl)) rfl⟩
theorem kd_X9_looks : (yX9_looks.cls ≠ "java/lang/invoke/MethodHandle" ∧ yX9_looks.cls ≠ "java/lang/invoke/VarHandle" ∧ (parseMethodDescriptor yX9_looks.desc).map (fun d => d.parameters.length) = some 0) := by decide +kernel
theorem lk_RX9_162 : cb_LV RX9 162 yX9_looks cX9_looks 4 none 0 := ⟨tb_at (tb_m4 (List.mem_of_getElem? (i := 217) rfl)) rfl, ks_X9_looks.1, ks_X9_looks.2, ki_X9_looks, kc_X9_looks, kd_X9_looks⟩
theorem kc_X9_isStand : Cond.code yX9_isStand cX9_isStand 2 (some .boolean) ∈ tb_G := tb_at (tb_m5 (List.mem_of_getElem? (i := 19) rfl)) rfl
theorem ki_X9_isStand : Cond.initialized yX9_isStand.cls ∈ tb_G := tb_at (tb_m1 (List.mem_of_getElem? (i := 12) rfl)) rfl
theorem ks_X9_isStand : Cond.instanceMethod yX9_isStand ∈ tb_G ∧ Cond.selects yX9_isStand.cls yX9_isStand yX9_isStand ∈ tb_G := ⟨tb_at (tb_m5 (List.mem_of_getElem? (i := 18) rfl)) rfl, tb_at (tb_m0 (List.mem_of_getElem? (i := 38) rfl)) rfl⟩
theorem kd_X9_isStand : (yX9_isStand.cls ≠ "java/lang/invoke/MethodHandle" ∧ yX9_isStand.cls ≠ "java/lang/invoke/VarHandle" ∧ (parseMethodDescriptor yX9_isStand.desc).map (fun d => d.parameters.length) = some 1) := by decide +kernel
theorem lk_RX9_165 : cb_LV RX9 165 yX9_isStand cX9_isStand 2 (some .boolean) 1 := ⟨tb_at (tb_m5 (List.mem_of_getElem? (i := 16) rfl)) rfl, ks_X9_isStand.1, ks_X9_isStand.2, ki_X9_isStand, kc_X9_isStand, kd_X9_isStand⟩
theorem kc_X9_isSign : Cond.code yX9_isSign cX9_isSign 1 (some .boolean) ∈ tb_G := tb_at (tb_m4 (List.mem_of_getElem? (i := 190) rfl)) rfl
theorem ki_X9_isSign : Cond.initialized yX9_isSign.cls ∈ tb_G := tb_at (tb_m1 (List.mem_of_getElem? (i := 12) rfl)) rfl
theorem ks_X9_isSign : Cond.static yX9_isSign ∈ tb_G := tb_at (tb_m4 (List.mem_of_getElem? (i := 189) rfl)) rfl
theorem kd_X9_isSign : (yX9_isSign.cls ≠ "java/lang/invoke/MethodHandle" ∧ yX9_isSign.cls ≠ "java/lang/invoke/VarHandle" ∧ (parseMethodDescriptor yX9_isSign.desc).map (fun d => d.parameters.length) = some 1) := by decide +kernel
theorem lk_RX9_168 : cb_LS RX9 168 yX9_isSign cX9_isSign 1 (some .boolean) 1 := ⟨tb_at (tb_m4 (List.mem_of_getElem? (i := 188) rfl)) rfl, ks_X9_isSign, ki_X9_isSign, kc_X9_isSign, kd_X9_isSign⟩
theorem kc_X9_keeps : Cond.code yX9_keeps cX9_keeps 2 none ∈ tb_G := tb_at (tb_m4 (List.mem_of_getElem? (i := 212) rfl)) rfl
theorem ki_X9_keeps : Cond.initialized yX9_keeps.cls ∈ tb_G := tb_at (tb_m1 (List.mem_of_getElem? (i := 12) rfl)) rfl
theorem ks_X9_keeps : Cond.instanceMethod yX9_keeps ∈ tb_G ∧ Cond.selects yX9_keeps.cls yX9_keeps yX9_keeps ∈ tb_G := ⟨tb_at (tb_m4 (List.mem_of_getElem? (i := 211) rfl)) rfl, tb_at (tb_m0 (List.mem_of_getElem? (i := 27) rfl)) rfl⟩
theorem kd_X9_keeps : (yX9_keeps.cls ≠ "java/lang/invoke/MethodHandle" ∧ yX9_keeps.cls ≠ "java/lang/invoke/VarHandle" ∧ (parseMethodDescriptor yX9_keeps.desc).map (fun d => d.parameters.length) = some 0) := by decide +kernel
theorem lk_RX9_171 : cb_LV RX9 171 yX9_keeps cX9_keeps 2 none 0 := ⟨tb_at (tb_m4 (List.mem_of_getElem? (i := 209) rfl)) rfl, ks_X9_keeps.1, ks_X9_keeps.2, ki_X9_keeps, kc_X9_keeps, kd_X9_keeps⟩
theorem kc_X9_settles : Cond.code yX9_settles cX9_settles 1 none ∈ tb_G := tb_at (tb_m4 (List.mem_of_getElem? (i := 216) rfl)) rfl
theorem ki_X9_settles : Cond.initialized yX9_settles.cls ∈ tb_G := tb_at (tb_m1 (List.mem_of_getElem? (i := 12) rfl)) rfl
theorem ks_X9_settles : Cond.instanceMethod yX9_settles ∈ tb_G ∧ Cond.selects yX9_settles.cls yX9_settles yX9_settles ∈ tb_G := ⟨tb_at (tb_m4 (List.mem_of_getElem? (i := 215) rfl)) rfl, tb_at (tb_m0 (List.mem_of_getElem? (i := 28) rfl)) rfl⟩
theorem kd_X9_settles : (yX9_settles.cls ≠ "java/lang/invoke/MethodHandle" ∧ yX9_settles.cls ≠ "java/lang/invoke/VarHandle" ∧ (parseMethodDescriptor yX9_settles.desc).map (fun d => d.parameters.length) = some 0) := by decide +kernel
theorem lk_RX9_174 : cb_LV RX9 174 yX9_settles cX9_settles 1 none 0 := ⟨tb_at (tb_m4 (List.mem_of_getElem? (i := 213) rfl)) rfl, ks_X9_settles.1, ks_X9_settles.2, ki_X9_settles, kc_X9_settles, kd_X9_settles⟩
theorem kc_X9_endsAt : Cond.code yX9_endsAt cX9_endsAt 3 (some .int) ∈ tb_G := tb_at (tb_m5 (List.mem_of_getElem? (i := 67) rfl)) rfl
theorem ki_X9_endsAt : Cond.initialized yX9_endsAt.cls ∈ tb_G := tb_at (tb_m1 (List.mem_of_getElem? (i := 12) rfl)) rfl
theorem ks_X9_endsAt : Cond.instanceMethod yX9_endsAt ∈ tb_G ∧ Cond.selects yX9_endsAt.cls yX9_endsAt yX9_endsAt ∈ tb_G := ⟨tb_at (tb_m5 (List.mem_of_getElem? (i := 66) rfl)) rfl, tb_at (tb_m0 (List.mem_of_getElem? (i := 43) rfl)) rfl⟩
theorem kd_X9_endsAt : (yX9_endsAt.cls ≠ "java/lang/invoke/MethodHandle" ∧ yX9_endsAt.cls ≠ "java/lang/invoke/VarHandle" ∧ (parseMethodDescriptor yX9_endsAt.desc).map (fun d => d.parameters.length) = some 1) := by decide +kernel
theorem lk_RX9_177 : cb_LV RX9 177 yX9_endsAt cX9_endsAt 3 (some .int) 1 := ⟨tb_at (tb_m5 (List.mem_of_getElem? (i := 64) rfl)) rfl, ks_X9_endsAt.1, ks_X9_endsAt.2, ki_X9_endsAt, kc_X9_endsAt, kd_X9_endsAt⟩
theorem kc_X9_isEven : Cond.code yX9_isEven cX9_isEven 2 (some .boolean) ∈ tb_G := tb_at (tb_m5 (List.mem_of_getElem? (i := 71) rfl)) rfl
theorem ki_X9_isEven : Cond.initialized yX9_isEven.cls ∈ tb_G := tb_at (tb_m1 (List.mem_of_getElem? (i := 12) rfl)) rfl
theorem ks_X9_isEven : Cond.instanceMethod yX9_isEven ∈ tb_G ∧ Cond.selects yX9_isEven.cls yX9_isEven yX9_isEven ∈ tb_G := ⟨tb_at (tb_m5 (List.mem_of_getElem? (i := 70) rfl)) rfl, tb_at (tb_m0 (List.mem_of_getElem? (i := 44) rfl)) rfl⟩
theorem kd_X9_isEven : (yX9_isEven.cls ≠ "java/lang/invoke/MethodHandle" ∧ yX9_isEven.cls ≠ "java/lang/invoke/VarHandle" ∧ (parseMethodDescriptor yX9_isEven.desc).map (fun d => d.parameters.length) = some 1) := by decide +kernel
theorem lk_RX9_180 : cb_LV RX9 180 yX9_isEven cX9_isEven 2 (some .boolean) 1 := ⟨tb_at (tb_m5 (List.mem_of_getElem? (i := 68) rfl)) rfl, ks_X9_isEven.1, ks_X9_isEven.2, ki_X9_isEven, kc_X9_isEven, kd_X9_isEven⟩
theorem kc_X9_place : Cond.code yX9_place cX9_place 2 (some .int) ∈ tb_G := tb_at (tb_m5 (List.mem_of_getElem? (i := 63) rfl)) rfl
theorem ki_X9_place : Cond.initialized yX9_place.cls ∈ tb_G := tb_at (tb_m1 (List.mem_of_getElem? (i := 12) rfl)) rfl
theorem ks_X9_place : Cond.instanceMethod yX9_place ∈ tb_G ∧ Cond.selects yX9_place.cls yX9_place yX9_place ∈ tb_G := ⟨tb_at (tb_m5 (List.mem_of_getElem? (i := 62) rfl)) rfl, tb_at (tb_m0 (List.mem_of_getElem? (i := 42) rfl)) rfl⟩
theorem kd_X9_place : (yX9_place.cls ≠ "java/lang/invoke/MethodHandle" ∧ yX9_place.cls ≠ "java/lang/invoke/VarHandle" ∧ (parseMethodDescriptor yX9_place.desc).map (fun d => d.parameters.length) = some 0) := by decide +kernel
theorem lk_RX9_183 : cb_LV RX9 183 yX9_place cX9_place 2 (some .int) 0 := ⟨tb_at (tb_m5 (List.mem_of_getElem? (i := 60) rfl)) rfl, ks_X9_place.1, ks_X9_place.2, ki_X9_place, kc_X9_place, kd_X9_place⟩
theorem kc_X9_goes : Cond.code yX9_goes cX9_goes 3 none ∈ tb_G := tb_at (tb_m5 (List.mem_of_getElem? (i := 79) rfl)) rfl
theorem ki_X9_goes : Cond.initialized yX9_goes.cls ∈ tb_G := tb_at (tb_m1 (List.mem_of_getElem? (i := 12) rfl)) rfl
theorem ks_X9_goes : Cond.instanceMethod yX9_goes ∈ tb_G ∧ Cond.selects yX9_goes.cls yX9_goes yX9_goes ∈ tb_G := ⟨tb_at (tb_m5 (List.mem_of_getElem? (i := 78) rfl)) rfl, tb_at (tb_m0 (List.mem_of_getElem? (i := 45) rfl)) rfl⟩
theorem kd_X9_goes : (yX9_goes.cls ≠ "java/lang/invoke/MethodHandle" ∧ yX9_goes.cls ≠ "java/lang/invoke/VarHandle" ∧ (parseMethodDescriptor yX9_goes.desc).map (fun d => d.parameters.length) = some 2) := by decide +kernel
theorem lk_RX9_187 : cb_LV RX9 187 yX9_goes cX9_goes 3 none 2 := ⟨tb_at (tb_m5 (List.mem_of_getElem? (i := 76) rfl)) rfl, ks_X9_goes.1, ks_X9_goes.2, ki_X9_goes, kc_X9_goes, kd_X9_goes⟩
theorem kc_X9_toRight : Cond.code yX9_toRight cX9_toRight 2 none ∈ tb_G := tb_at (tb_m5 (List.mem_of_getElem? (i := 91) rfl)) rfl
theorem ki_X9_toRight : Cond.initialized yX9_toRight.cls ∈ tb_G := tb_at (tb_m1 (List.mem_of_getElem? (i := 12) rfl)) rfl
theorem ks_X9_toRight : Cond.instanceMethod yX9_toRight ∈ tb_G ∧ Cond.selects yX9_toRight.cls yX9_toRight yX9_toRight ∈ tb_G := ⟨tb_at (tb_m5 (List.mem_of_getElem? (i := 90) rfl)) rfl, tb_at (tb_m0 (List.mem_of_getElem? (i := 46) rfl)) rfl⟩
theorem kd_X9_toRight : (yX9_toRight.cls ≠ "java/lang/invoke/MethodHandle" ∧ yX9_toRight.cls ≠ "java/lang/invoke/VarHandle" ∧ (parseMethodDescriptor yX9_toRight.desc).map (fun d => d.parameters.length) = some 1) := by decide +kernel
theorem lk_RX9_191 : cb_LV RX9 191 yX9_toRight cX9_toRight 2 none 1 := ⟨tb_at (tb_m5 (List.mem_of_getElem? (i := 88) rfl)) rfl, ks_X9_toRight.1, ks_X9_toRight.2, ki_X9_toRight, kc_X9_toRight, kd_X9_toRight⟩
theorem kc_X9_toLeft : Cond.code yX9_toLeft cX9_toLeft 2 none ∈ tb_G := tb_at (tb_m5 (List.mem_of_getElem? (i := 95) rfl)) rfl
theorem ki_X9_toLeft : Cond.initialized yX9_toLeft.cls ∈ tb_G := tb_at (tb_m1 (List.mem_of_getElem? (i := 12) rfl)) rfl
theorem ks_X9_toLeft : Cond.instanceMethod yX9_toLeft ∈ tb_G ∧ Cond.selects yX9_toLeft.cls yX9_toLeft yX9_toLeft ∈ tb_G := ⟨tb_at (tb_m5 (List.mem_of_getElem? (i := 94) rfl)) rfl, tb_at (tb_m0 (List.mem_of_getElem? (i := 47) rfl)) rfl⟩
theorem kd_X9_toLeft : (yX9_toLeft.cls ≠ "java/lang/invoke/MethodHandle" ∧ yX9_toLeft.cls ≠ "java/lang/invoke/VarHandle" ∧ (parseMethodDescriptor yX9_toLeft.desc).map (fun d => d.parameters.length) = some 1) := by decide +kernel
theorem lk_RX9_194 : cb_LV RX9 194 yX9_toLeft cX9_toLeft 2 none 1 := ⟨tb_at (tb_m5 (List.mem_of_getElem? (i := 92) rfl)) rfl, ks_X9_toLeft.1, ks_X9_toLeft.2, ki_X9_toLeft, kc_X9_toLeft, kd_X9_toLeft⟩
theorem kc_X9_isWord : Cond.code yX9_isWord cX9_isWord 6 (some .boolean) ∈ tb_G := tb_at (tb_m5 (List.mem_of_getElem? (i := 103) rfl)) rfl
theorem ki_X9_isWord : Cond.initialized yX9_isWord.cls ∈ tb_G := tb_at (tb_m1 (List.mem_of_getElem? (i := 12) rfl)) rfl
theorem ks_X9_isWord : Cond.instanceMethod yX9_isWord ∈ tb_G ∧ Cond.selects yX9_isWord.cls yX9_isWord yX9_isWord ∈ tb_G := ⟨tb_at (tb_m5 (List.mem_of_getElem? (i := 102) rfl)) rfl, tb_at (tb_m0 (List.mem_of_getElem? (i := 48) rfl)) rfl⟩
theorem kd_X9_isWord : (yX9_isWord.cls ≠ "java/lang/invoke/MethodHandle" ∧ yX9_isWord.cls ≠ "java/lang/invoke/VarHandle" ∧ (parseMethodDescriptor yX9_isWord.desc).map (fun d => d.parameters.length) = some 1) := by decide +kernel
theorem lk_RX9_197 : cb_LV RX9 197 yX9_isWord cX9_isWord 6 (some .boolean) 1 := ⟨tb_at (tb_m5 (List.mem_of_getElem? (i := 100) rfl)) rfl, ks_X9_isWord.1, ks_X9_isWord.2, ki_X9_isWord, kc_X9_isWord, kd_X9_isWord⟩
theorem kc_X9_far : Cond.code yX9_far cX9_far 2 (some .int) ∈ tb_G := tb_at (tb_m5 (List.mem_of_getElem? (i := 110) rfl)) rfl
theorem ki_X9_far : Cond.initialized yX9_far.cls ∈ tb_G := tb_at (tb_m1 (List.mem_of_getElem? (i := 12) rfl)) rfl
theorem ks_X9_far : Cond.static yX9_far ∈ tb_G := tb_at (tb_m5 (List.mem_of_getElem? (i := 109) rfl)) rfl
theorem kd_X9_far : (yX9_far.cls ≠ "java/lang/invoke/MethodHandle" ∧ yX9_far.cls ≠ "java/lang/invoke/VarHandle" ∧ (parseMethodDescriptor yX9_far.desc).map (fun d => d.parameters.length) = some 2) := by decide +kernel
theorem lk_RX9_200 : cb_LS RX9 200 yX9_far cX9_far 2 (some .int) 2 := ⟨tb_at (tb_m5 (List.mem_of_getElem? (i := 108) rfl)) rfl, ks_X9_far, ki_X9_far, kc_X9_far, kd_X9_far⟩
theorem kc_X9_strikes : Cond.code yX9_strikes cX9_strikes 5 (some .int) ∈ tb_G := tb_at (tb_m5 (List.mem_of_getElem? (i := 126) rfl)) rfl
theorem ki_X9_strikes : Cond.initialized yX9_strikes.cls ∈ tb_G := tb_at (tb_m1 (List.mem_of_getElem? (i := 12) rfl)) rfl
theorem ks_X9_strikes : Cond.instanceMethod yX9_strikes ∈ tb_G ∧ Cond.selects yX9_strikes.cls yX9_strikes yX9_strikes ∈ tb_G := ⟨tb_at (tb_m5 (List.mem_of_getElem? (i := 125) rfl)) rfl, tb_at (tb_m0 (List.mem_of_getElem? (i := 49) rfl)) rfl⟩
theorem kd_X9_strikes : (yX9_strikes.cls ≠ "java/lang/invoke/MethodHandle" ∧ yX9_strikes.cls ≠ "java/lang/invoke/VarHandle" ∧ (parseMethodDescriptor yX9_strikes.desc).map (fun d => d.parameters.length) = some 3) := by decide +kernel
theorem lk_RX9_206 : cb_LV RX9 206 yX9_strikes cX9_strikes 5 (some .int) 3 := ⟨tb_at (tb_m5 (List.mem_of_getElem? (i := 123) rfl)) rfl, ks_X9_strikes.1, ks_X9_strikes.2, ki_X9_strikes, kc_X9_strikes, kd_X9_strikes⟩
theorem lm_RX0_39 : cb_LM RX0 39 Lib.Math.max.name Lib.Math.max.code := ⟨tb_at (tb_m3 (List.mem_of_getElem? (i := 9) rfl)) rfl, tb_at (tb_m2 (List.mem_of_getElem? (i := 125) rfl)) rfl, tb_at (tb_m1 (List.mem_of_getElem? (i := 11) rfl)) rfl, tb_at (tb_m2 (List.mem_of_getElem? (i := 126) rfl)) rfl⟩
theorem lm_RX1_109 : cb_LM RX1 109 Lib.Math.max.name Lib.Math.max.code := ⟨tb_at (tb_m2 (List.mem_of_getElem? (i := 231) rfl)) rfl, tb_at (tb_m2 (List.mem_of_getElem? (i := 125) rfl)) rfl, tb_at (tb_m1 (List.mem_of_getElem? (i := 11) rfl)) rfl, tb_at (tb_m2 (List.mem_of_getElem? (i := 126) rfl)) rfl⟩
theorem lm_RX1_118 : cb_LM RX1 118 Lib.Math.min.name Lib.Math.min.code := ⟨tb_at (tb_m3 (List.mem_of_getElem? (i := 155) rfl)) rfl, tb_at (tb_m2 (List.mem_of_getElem? (i := 212) rfl)) rfl, tb_at (tb_m1 (List.mem_of_getElem? (i := 11) rfl)) rfl, tb_at (tb_m2 (List.mem_of_getElem? (i := 213) rfl)) rfl⟩
theorem lm_RX2_43 : cb_LM RX2 43 Lib.Math.min.name Lib.Math.min.code := ⟨tb_at (tb_m2 (List.mem_of_getElem? (i := 211) rfl)) rfl, tb_at (tb_m2 (List.mem_of_getElem? (i := 212) rfl)) rfl, tb_at (tb_m1 (List.mem_of_getElem? (i := 11) rfl)) rfl, tb_at (tb_m2 (List.mem_of_getElem? (i := 213) rfl)) rfl⟩
theorem lm_RX5_134 : cb_LM RX5 134 Lib.Math.max.name Lib.Math.max.code := ⟨tb_at (tb_m3 (List.mem_of_getElem? (i := 43) rfl)) rfl, tb_at (tb_m2 (List.mem_of_getElem? (i := 125) rfl)) rfl, tb_at (tb_m1 (List.mem_of_getElem? (i := 11) rfl)) rfl, tb_at (tb_m2 (List.mem_of_getElem? (i := 126) rfl)) rfl⟩
theorem lm_RX6_54 : cb_LM RX6 54 Lib.Math.max.name Lib.Math.max.code := ⟨tb_at (tb_m2 (List.mem_of_getElem? (i := 124) rfl)) rfl, tb_at (tb_m2 (List.mem_of_getElem? (i := 125) rfl)) rfl, tb_at (tb_m1 (List.mem_of_getElem? (i := 11) rfl)) rfl, tb_at (tb_m2 (List.mem_of_getElem? (i := 126) rfl)) rfl⟩
theorem lm_RX8_204 : cb_LM RX8 204 Lib.Math.min.name Lib.Math.min.code := ⟨tb_at (tb_m3 (List.mem_of_getElem? (i := 228) rfl)) rfl, tb_at (tb_m2 (List.mem_of_getElem? (i := 212) rfl)) rfl, tb_at (tb_m1 (List.mem_of_getElem? (i := 11) rfl)) rfl, tb_at (tb_m2 (List.mem_of_getElem? (i := 213) rfl)) rfl⟩
theorem lm_RX8_210 : cb_LM RX8 210 Lib.Math.max.name Lib.Math.max.code := ⟨tb_at (tb_m3 (List.mem_of_getElem? (i := 229) rfl)) rfl, tb_at (tb_m2 (List.mem_of_getElem? (i := 125) rfl)) rfl, tb_at (tb_m1 (List.mem_of_getElem? (i := 11) rfl)) rfl, tb_at (tb_m2 (List.mem_of_getElem? (i := 126) rfl)) rfl⟩
abbrev rm_X0_stand : Room := { frames := 0, cells := 0, slots := 0, locals := 0 }
abbrev rm_X0_side : Room := { frames := 0, cells := 0, slots := 0, locals := 0 }
abbrev rm_X8_valueAt : Room := { frames := 0, cells := 0, slots := 0, locals := 0 }
abbrev rm_X1_joinedAround : Room := { frames := 1, cells := 0, slots := 0, locals := 22 }
abbrev rm_X0_place : Room := { frames := 2, cells := 0, slots := 0, locals := 43 }
abbrev rm_X1_isBetween : Room := { frames := 1, cells := 0, slots := 0, locals := 22 }
abbrev rm_X1_isStand : Room := { frames := 2, cells := 0, slots := 0, locals := 43 }
abbrev rm_X1_standFrom : Room := { frames := 3, cells := 0, slots := 0, locals := 64 }
abbrev rm_X0_settle : Room := { frames := 4, cells := 0, slots := 0, locals := 86 }
abbrev rm_X6_leftOf : Room := { frames := 1, cells := 0, slots := 0, locals := 22 }
abbrev rm_X1_has : Room := { frames := 0, cells := 0, slots := 0, locals := 0 }
abbrev rm_X1_widthOf : Room := { frames := 1, cells := 0, slots := 0, locals := 21 }
abbrev rm_X1_beginningAt : Room := { frames := 1, cells := 0, slots := 0, locals := 22 }
abbrev rm_X6_xOfEnd : Room := { frames := 0, cells := 0, slots := 0, locals := 0 }
abbrev rm_X6_levelOf : Room := { frames := 1, cells := 0, slots := 0, locals := 22 }
abbrev rm_X8_isEven : Room := { frames := 0, cells := 0, slots := 0, locals := 0 }
abbrev rm_X6_placeOf : Room := { frames := 1, cells := 0, slots := 0, locals := 22 }
abbrev rm_X6_clusterAtPlace : Room := { frames := 0, cells := 0, slots := 0, locals := 0 }
abbrev rm_X6_rightOf : Room := { frames := 2, cells := 0, slots := 0, locals := 43 }
abbrev rm_X0_xWithBehind : Room := { frames := 3, cells := 0, slots := 0, locals := 65 }
abbrev rm_X1_endingAt : Room := { frames := 1, cells := 0, slots := 0, locals := 22 }
abbrev rm_X6_xOfBeginning : Room := { frames := 0, cells := 0, slots := 0, locals := 0 }
abbrev rm_X0_xWithAhead : Room := { frames := 3, cells := 0, slots := 0, locals := 65 }
abbrev rm_X0_x : Room := { frames := 4, cells := 0, slots := 0, locals := 86 }
abbrev rm_X1_endOf : Room := { frames := 1, cells := 0, slots := 0, locals := 21 }
abbrev rm_X1_firstOf : Room := { frames := 1, cells := 0, slots := 0, locals := 21 }
abbrev rm_X0_toSideOf : Room := { frames := 3, cells := 0, slots := 0, locals := 65 }
abbrev rm_X1_joinsAt : Room := { frames := 0, cells := 0, slots := 0, locals := 0 }
abbrev rm_X1_isJoined : Room := { frames := 1, cells := 0, slots := 0, locals := 21 }
abbrev rm_X0_toMiddleOf : Room := { frames := 3, cells := 0, slots := 0, locals := 65 }
abbrev rm_X6_clusterOver : Room := { frames := 3, cells := 0, slots := 0, locals := 65 }
abbrev rm_X6_clusterWithLeft : Room := { frames := 4, cells := 0, slots := 0, locals := 88 }
abbrev rm_X6_clusterWithRight : Room := { frames := 4, cells := 0, slots := 0, locals := 88 }
abbrev rm_X0_stepOver : Room := { frames := 5, cells := 0, slots := 0, locals := 110 }
abbrev rm_X3_length : Room := { frames := 0, cells := 0, slots := 0, locals := 0 }
abbrev rm_X3_has : Room := { frames := 0, cells := 0, slots := 0, locals := 0 }
abbrev rm_X3_at : Room := { frames := 1, cells := 0, slots := 0, locals := 21 }
abbrev rm_X7_kindOf : Room := { frames := 0, cells := 0, slots := 0, locals := 0 }
abbrev rm_X7_isStrong : Room := { frames := 0, cells := 0, slots := 0, locals := 0 }
abbrev rm_X7_isLetter : Room := { frames := 1, cells := 0, slots := 0, locals := 20 }
abbrev rm_X1_findJoins : Room := { frames := 2, cells := 0, slots := 0, locals := 42 }
abbrev rm_J7_fill_53178 : Room := { frames := 0, cells := 0, slots := 0, locals := 0 }
abbrev rm_X7_isMark : Room := { frames := 1, cells := 0, slots := 0, locals := 20 }
abbrev rm_X1_begins : Room := { frames := 2, cells := 0, slots := 0, locals := 42 }
abbrev rm_X7_widthOf : Room := { frames := 1, cells := 0, slots := 0, locals := 20 }
abbrev rm_X1_add : Room := { frames := 2, cells := 0, slots := 0, locals := 42 }
abbrev rm_X1_gather : Room := { frames := 3, cells := 0, slots := 0, locals := 65 }
abbrev rm_X1_number : Room := { frames := 0, cells := 0, slots := 0, locals := 0 }
abbrev rm_X1_standNumber : Room := { frames := 0, cells := 0, slots := 0, locals := 0 }
abbrev rm_X1_aroundOrAheadOf : Room := { frames := 2, cells := 0, slots := 0, locals := 43 }
abbrev rm_X1_aroundOrBehind : Room := { frames := 2, cells := 0, slots := 0, locals := 43 }
abbrev rm_X1_standUpTo : Room := { frames := 3, cells := 0, slots := 0, locals := 64 }
abbrev rm_X2_number : Room := { frames := 0, cells := 0, slots := 0, locals := 0 }
abbrev rm_X3_saveTo : Room := { frames := 0, cells := 0, slots := 0, locals := 0 }
abbrev rm_X2_keep : Room := { frames := 1, cells := 0, slots := 0, locals := 22 }
abbrev rm_X3_loadFrom : Room := { frames := 0, cells := 0, slots := 0, locals := 0 }
abbrev rm_X2_takeBack : Room := { frames := 1, cells := 0, slots := 0, locals := 23 }
abbrev rm_X2_standTaken : Room := { frames := 1, cells := 0, slots := 0, locals := 22 }
abbrev rm_X2_sideTaken : Room := { frames := 1, cells := 0, slots := 0, locals := 22 }
abbrev rm_X3_base : Room := { frames := 0, cells := 0, slots := 0, locals := 0 }
abbrev rm_X3_turnTo : Room := { frames := 0, cells := 0, slots := 0, locals := 0 }
abbrev rm_X3_hasRoomFor : Room := { frames := 0, cells := 0, slots := 0, locals := 0 }
abbrev rm_X3_insert : Room := { frames := 0, cells := 0, slots := 0, locals := 0 }
abbrev rm_X3_remove : Room := { frames := 0, cells := 0, slots := 0, locals := 0 }
abbrev rm_X4_add : Room := { frames := 0, cells := 0, slots := 0, locals := 0 }
abbrev rm_X4_gather : Room := { frames := 3, cells := 0, slots := 0, locals := 65 }
abbrev rm_X4_number : Room := { frames := 0, cells := 0, slots := 0, locals := 0 }
abbrev rm_X4_leftOf : Room := { frames := 1, cells := 0, slots := 0, locals := 22 }
abbrev rm_X4_rightOf : Room := { frames := 1, cells := 0, slots := 0, locals := 22 }
abbrev rm_X5_make : Room := { frames := 0, cells := 0, slots := 0, locals := 0 }
abbrev rm_X5_append : Room := { frames := 1, cells := 0, slots := 0, locals := 22 }
abbrev rm_X7_beginsIsle : Room := { frames := 0, cells := 0, slots := 0, locals := 0 }
abbrev rm_X5_baseWithin : Room := { frames := 0, cells := 0, slots := 0, locals := 0 }
abbrev rm_X5_divide : Room := { frames := 2, cells := 0, slots := 0, locals := 44 }
abbrev rm_X5_wayAround : Room := { frames := 0, cells := 0, slots := 0, locals := 0 }
abbrev rm_X5_findKinds : Room := { frames := 2, cells := 0, slots := 0, locals := 42 }
abbrev rm_X5_settleSeparators : Room := { frames := 1, cells := 0, slots := 0, locals := 22 }
abbrev rm_X5_settleDigits : Room := { frames := 1, cells := 0, slots := 0, locals := 22 }
abbrev rm_X5_wayBesidePlain : Room := { frames := 0, cells := 0, slots := 0, locals := 0 }
abbrev rm_X5_settlePlain : Room := { frames := 1, cells := 0, slots := 0, locals := 22 }
abbrev rm_X5_rise : Room := { frames := 0, cells := 0, slots := 0, locals := 0 }
abbrev rm_X5_findLevels : Room := { frames := 1, cells := 0, slots := 0, locals := 21 }
abbrev rm_X7_fallsToBaseAtEnd : Room := { frames := 1, cells := 0, slots := 0, locals := 20 }
abbrev rm_X5_lowerEnd : Room := { frames := 2, cells := 0, slots := 0, locals := 42 }
abbrev rm_X5_lay : Room := { frames := 3, cells := 0, slots := 0, locals := 69 }
abbrev rm_X5_levelOf : Room := { frames := 1, cells := 0, slots := 0, locals := 22 }
abbrev rm_X5_highest : Room := { frames := 1, cells := 0, slots := 0, locals := 21 }
abbrev rm_X5_numberWithSigns : Room := { frames := 0, cells := 0, slots := 0, locals := 0 }
abbrev rm_X6_turn : Room := { frames := 0, cells := 0, slots := 0, locals := 0 }
abbrev rm_X6_turnRuns : Room := { frames := 1, cells := 0, slots := 0, locals := 25 }
abbrev rm_X6_placeAll : Room := { frames := 2, cells := 0, slots := 0, locals := 42 }
abbrev rm_X6_lay : Room := { frames := 3, cells := 0, slots := 0, locals := 65 }
abbrev rm_X6_width : Room := { frames := 0, cells := 0, slots := 0, locals := 0 }
abbrev rm_X7_isSign : Room := { frames := 1, cells := 0, slots := 0, locals := 20 }
abbrev rm_X7_isOfWord : Room := { frames := 2, cells := 0, slots := 0, locals := 40 }
abbrev rm_X7_mateOf : Room := { frames := 0, cells := 0, slots := 0, locals := 0 }
abbrev rm_X8_layOut : Room := { frames := 4, cells := 0, slots := 0, locals := 91 }
abbrev rm_X8_way : Room := { frames := 5, cells := 0, slots := 0, locals := 111 }
abbrev rm_X8_byteOf : Room := { frames := 0, cells := 0, slots := 0, locals := 0 }
abbrev rm_X8_keepForUndo : Room := { frames := 2, cells := 0, slots := 0, locals := 45 }
abbrev rm_X8_appendBytes : Room := { frames := 1, cells := 0, slots := 0, locals := 25 }
abbrev rm_X8_put : Room := { frames := 5, cells := 0, slots := 0, locals := 111 }
abbrev rm_X8_strike : Room := { frames := 5, cells := 0, slots := 0, locals := 111 }
abbrev rm_X8_clear : Room := { frames := 6, cells := 0, slots := 0, locals := 134 }
abbrev rm_X8_count : Room := { frames := 2, cells := 0, slots := 0, locals := 43 }
abbrev rm_X8_sign : Room := { frames := 2, cells := 0, slots := 0, locals := 42 }
abbrev rm_X8_level : Room := { frames := 2, cells := 0, slots := 0, locals := 43 }
abbrev rm_X8_cluster : Room := { frames := 2, cells := 0, slots := 0, locals := 43 }
abbrev rm_X8_seen : Room := { frames := 2, cells := 0, slots := 0, locals := 43 }
abbrev rm_X8_caret : Room := { frames := 5, cells := 0, slots := 0, locals := 107 }
abbrev rm_X8_go : Room := { frames := 3, cells := 0, slots := 0, locals := 65 }
abbrev rm_X8_on : Room := { frames := 4, cells := 0, slots := 0, locals := 86 }
abbrev rm_X8_step : Room := { frames := 6, cells := 0, slots := 0, locals := 133 }
abbrev rm_X8_beginsWord : Room := { frames := 3, cells := 0, slots := 0, locals := 60 }
abbrev rm_X8_goOnByWord : Room := { frames := 4, cells := 0, slots := 0, locals := 83 }
abbrev rm_X8_goBackByWord : Room := { frames := 4, cells := 0, slots := 0, locals := 83 }
abbrev rm_X8_word : Room := { frames := 5, cells := 0, slots := 0, locals := 105 }
abbrev rm_X8_pickWithin : Room := { frames := 4, cells := 0, slots := 0, locals := 87 }
abbrev rm_X8_pick : Room := { frames := 5, cells := 0, slots := 0, locals := 111 }
abbrev rm_X8_select : Room := { frames := 4, cells := 0, slots := 0, locals := 94 }
abbrev rm_X8_piece : Room := { frames := 2, cells := 0, slots := 0, locals := 43 }
abbrev rm_X8_back : Room := { frames := 6, cells := 0, slots := 0, locals := 134 }
abbrev rm_X8_ahead : Room := { frames := 6, cells := 0, slots := 0, locals := 134 }
abbrev rm_X8_type : Room := { frames := 5, cells := 0, slots := 0, locals := 111 }
abbrev rm_X8_cut : Room := { frames := 6, cells := 0, slots := 0, locals := 134 }
abbrev rm_X8_undo : Room := { frames := 5, cells := 0, slots := 0, locals := 111 }
abbrev rm_X9_keeps : Room := { frames := 0, cells := 0, slots := 0, locals := 0 }
abbrev rm_X9_undo : Room := { frames := 0, cells := 0, slots := 0, locals := 0 }
abbrev rm_X9_isForward : Room := { frames := 0, cells := 0, slots := 0, locals := 0 }
abbrev rm_X9_isBackward : Room := { frames := 0, cells := 0, slots := 0, locals := 0 }
abbrev rm_X9_isLetter : Room := { frames := 1, cells := 0, slots := 0, locals := 20 }
abbrev rm_X9_isDigit : Room := { frames := 0, cells := 0, slots := 0, locals := 0 }
abbrev rm_X9_isMark : Room := { frames := 0, cells := 0, slots := 0, locals := 0 }
abbrev rm_X9_isIsle : Room := { frames := 0, cells := 0, slots := 0, locals := 0 }
abbrev rm_X9_isSign : Room := { frames := 2, cells := 0, slots := 0, locals := 40 }
