def cb_i (x : Int) : Prop := -2147483648 ≤ x ∧ x < 2147483648
theorem lj_i (X : lj_C) (j : Nat) : cb_i (lj_x X j) := ⟨Int32.le_toInt _, Int32.toInt_lt _⟩
theorem lj_bd {i : Int} {L : Nat} (h0 : 0 ≤ i) (h1 : i + 5 ≤ L) (h2 : L ≤ 2560) (k : Int) (hk : 0 ≤ k ∧ k ≤ 4) : 0 ≤ cb_w (i + k) ∧ cb_w (i + k) < L := by
  rw [cb_id (by omega) (by omega)]
  omega
theorem lj_bd0 {i : Int} {L : Nat} (h0 : 0 ≤ i) (h1 : i + 5 ≤ L) (h2 : L ≤ 2560) : 0 ≤ cb_w i ∧ cb_w i < L := by
  rw [cb_id (by omega) (by omega)]
  omega
theorem lj_sw (x : Int) : 0 ≤ cb_w (x % 32) ∧ cb_w (x % 32) < 32 := by
  unfold cb_w
  omega
theorem kc_X8_way : Cond.code yX8_way cX8_way 3 (some .int) ∈ tb_G := tb_at (tb_m2 (List.mem_of_getElem? (i := 170) rfl)) rfl
theorem ki_X8_way : Cond.initialized yX8_way.cls ∈ tb_G := tb_at (tb_m1 (List.mem_of_getElem? (i := 1) rfl)) rfl
theorem ks_X8_way : Cond.instanceMethod yX8_way ∈ tb_G ∧ Cond.selects yX8_way.cls yX8_way yX8_way ∈ tb_G := ⟨tb_at (tb_m2 (List.mem_of_getElem? (i := 168) rfl)) rfl, tb_at (tb_m2 (List.mem_of_getElem? (i := 169) rfl)) rfl⟩
theorem kd_X8_way : (yX8_way.cls ≠ "java/lang/invoke/MethodHandle" ∧ yX8_way.cls ≠ "java/lang/invoke/VarHandle" ∧ (parseMethodDescriptor yX8_way.desc).map (fun d => d.parameters.length) = some 1) := by decide +kernel
theorem lk_RL_13 : cb_LV R_law 13 yX8_way cX8_way 3 (some .int) 1 := ⟨tb_at (tb_m2 (List.mem_of_getElem? (i := 167) rfl)) rfl, ks_X8_way.1, ks_X8_way.2, ki_X8_way, kc_X8_way, kd_X8_way⟩
theorem kc_X9_way : Cond.code yX9_way cX9_way 3 (some .int) ∈ tb_G := tb_at (tb_m4 (List.mem_of_getElem? (i := 183) rfl)) rfl
theorem ki_X9_way : Cond.initialized yX9_way.cls ∈ tb_G := tb_at (tb_m1 (List.mem_of_getElem? (i := 12) rfl)) rfl
theorem ks_X9_way : Cond.instanceMethod yX9_way ∈ tb_G ∧ Cond.selects yX9_way.cls yX9_way yX9_way ∈ tb_G := ⟨tb_at (tb_m4 (List.mem_of_getElem? (i := 181) rfl)) rfl, tb_at (tb_m4 (List.mem_of_getElem? (i := 182) rfl)) rfl⟩
theorem kd_X9_way : (yX9_way.cls ≠ "java/lang/invoke/MethodHandle" ∧ yX9_way.cls ≠ "java/lang/invoke/VarHandle" ∧ (parseMethodDescriptor yX9_way.desc).map (fun d => d.parameters.length) = some 1) := by decide +kernel
theorem lk_RL_17 : cb_LV R_law 17 yX9_way cX9_way 3 (some .int) 1 := ⟨tb_at (tb_m4 (List.mem_of_getElem? (i := 180) rfl)) rfl, ks_X9_way.1, ks_X9_way.2, ki_X9_way, kc_X9_way, kd_X9_way⟩
def lw_o0 (Rel : cb_S → cb_S → Prop) : Prop := ∀ gC gM, Rel gC gM → ∀ x1 : Int, cb_i x1 → ∃ r gC2 r2 gM2, f_X8_way gC x1 = some (r, gC2) ∧ f_X9_way gM x1 = some (r2, gM2) ∧ cb_w r = cb_w r2 ∧ Rel gC2 gM2
theorem kc_X8_put : Cond.code yX8_put cX8_put 8 (some .int) ∈ tb_G := tb_at (tb_m2 (List.mem_of_getElem? (i := 179) rfl)) rfl
theorem ki_X8_put : Cond.initialized yX8_put.cls ∈ tb_G := tb_at (tb_m1 (List.mem_of_getElem? (i := 1) rfl)) rfl
theorem ks_X8_put : Cond.instanceMethod yX8_put ∈ tb_G ∧ Cond.selects yX8_put.cls yX8_put yX8_put ∈ tb_G := ⟨tb_at (tb_m2 (List.mem_of_getElem? (i := 177) rfl)) rfl, tb_at (tb_m2 (List.mem_of_getElem? (i := 178) rfl)) rfl⟩
theorem kd_X8_put : (yX8_put.cls ≠ "java/lang/invoke/MethodHandle" ∧ yX8_put.cls ≠ "java/lang/invoke/VarHandle" ∧ (parseMethodDescriptor yX8_put.desc).map (fun d => d.parameters.length) = some 4) := by decide +kernel
theorem lk_RL_18 : cb_LV R_law 18 yX8_put cX8_put 8 (some .int) 4 := ⟨tb_at (tb_m2 (List.mem_of_getElem? (i := 176) rfl)) rfl, ks_X8_put.1, ks_X8_put.2, ki_X8_put, kc_X8_put, kd_X8_put⟩
theorem kc_X9_put : Cond.code yX9_put cX9_put 11 (some .int) ∈ tb_G := tb_at (tb_m4 (List.mem_of_getElem? (i := 187) rfl)) rfl
theorem ki_X9_put : Cond.initialized yX9_put.cls ∈ tb_G := tb_at (tb_m1 (List.mem_of_getElem? (i := 12) rfl)) rfl
theorem ks_X9_put : Cond.instanceMethod yX9_put ∈ tb_G ∧ Cond.selects yX9_put.cls yX9_put yX9_put ∈ tb_G := ⟨tb_at (tb_m4 (List.mem_of_getElem? (i := 185) rfl)) rfl, tb_at (tb_m4 (List.mem_of_getElem? (i := 186) rfl)) rfl⟩
theorem kd_X9_put : (yX9_put.cls ≠ "java/lang/invoke/MethodHandle" ∧ yX9_put.cls ≠ "java/lang/invoke/VarHandle" ∧ (parseMethodDescriptor yX9_put.desc).map (fun d => d.parameters.length) = some 4) := by decide +kernel
theorem lk_RL_22 : cb_LV R_law 22 yX9_put cX9_put 11 (some .int) 4 := ⟨tb_at (tb_m4 (List.mem_of_getElem? (i := 184) rfl)) rfl, ks_X9_put.1, ks_X9_put.2, ki_X9_put, kc_X9_put, kd_X9_put⟩
def lw_o1 (Rel : cb_S → cb_S → Prop) : Prop := ∀ gC gM, Rel gC gM → ∀ x1 : Int, ∀ x2 : Int, ∀ x3 : Int, ∀ x4 : Int, cb_i x1 → cb_i x2 → cb_i x3 → cb_i x4 → ∃ r gC2 r2 gM2, f_X8_put gC x1 x2 x3 x4 = some (r, gC2) ∧ f_X9_put gM x1 x2 x3 x4 = some (r2, gM2) ∧ cb_w r = cb_w r2 ∧ Rel gC2 gM2
theorem kc_X8_clear : Cond.code yX8_clear cX8_clear 1 (some .int) ∈ tb_G := tb_at (tb_m3 (List.mem_of_getElem? (i := 13) rfl)) rfl
theorem ki_X8_clear : Cond.initialized yX8_clear.cls ∈ tb_G := tb_at (tb_m1 (List.mem_of_getElem? (i := 1) rfl)) rfl
theorem ks_X8_clear : Cond.instanceMethod yX8_clear ∈ tb_G ∧ Cond.selects yX8_clear.cls yX8_clear yX8_clear ∈ tb_G := ⟨tb_at (tb_m3 (List.mem_of_getElem? (i := 11) rfl)) rfl, tb_at (tb_m3 (List.mem_of_getElem? (i := 12) rfl)) rfl⟩
theorem kd_X8_clear : (yX8_clear.cls ≠ "java/lang/invoke/MethodHandle" ∧ yX8_clear.cls ≠ "java/lang/invoke/VarHandle" ∧ (parseMethodDescriptor yX8_clear.desc).map (fun d => d.parameters.length) = some 0) := by decide +kernel
theorem lk_RL_23 : cb_LV R_law 23 yX8_clear cX8_clear 1 (some .int) 0 := ⟨tb_at (tb_m3 (List.mem_of_getElem? (i := 10) rfl)) rfl, ks_X8_clear.1, ks_X8_clear.2, ki_X8_clear, kc_X8_clear, kd_X8_clear⟩
theorem kc_X9_clear : Cond.code yX9_clear cX9_clear 2 (some .int) ∈ tb_G := tb_at (tb_m5 (List.mem_of_getElem? (i := 35) rfl)) rfl
theorem ki_X9_clear : Cond.initialized yX9_clear.cls ∈ tb_G := tb_at (tb_m1 (List.mem_of_getElem? (i := 12) rfl)) rfl
theorem ks_X9_clear : Cond.instanceMethod yX9_clear ∈ tb_G ∧ Cond.selects yX9_clear.cls yX9_clear yX9_clear ∈ tb_G := ⟨tb_at (tb_m5 (List.mem_of_getElem? (i := 33) rfl)) rfl, tb_at (tb_m5 (List.mem_of_getElem? (i := 34) rfl)) rfl⟩
theorem kd_X9_clear : (yX9_clear.cls ≠ "java/lang/invoke/MethodHandle" ∧ yX9_clear.cls ≠ "java/lang/invoke/VarHandle" ∧ (parseMethodDescriptor yX9_clear.desc).map (fun d => d.parameters.length) = some 0) := by decide +kernel
theorem lk_RL_27 : cb_LV R_law 27 yX9_clear cX9_clear 2 (some .int) 0 := ⟨tb_at (tb_m5 (List.mem_of_getElem? (i := 32) rfl)) rfl, ks_X9_clear.1, ks_X9_clear.2, ki_X9_clear, kc_X9_clear, kd_X9_clear⟩
def lw_o2 (Rel : cb_S → cb_S → Prop) : Prop := ∀ gC gM, Rel gC gM → ∃ r gC2 r2 gM2, f_X8_clear gC  = some (r, gC2) ∧ f_X9_clear gM  = some (r2, gM2) ∧ cb_w r = cb_w r2 ∧ Rel gC2 gM2
theorem kc_X8_count : Cond.code yX8_count cX8_count 2 (some .int) ∈ tb_G := tb_at (tb_m3 (List.mem_of_getElem? (i := 25) rfl)) rfl
theorem ki_X8_count : Cond.initialized yX8_count.cls ∈ tb_G := tb_at (tb_m1 (List.mem_of_getElem? (i := 1) rfl)) rfl
theorem ks_X8_count : Cond.instanceMethod yX8_count ∈ tb_G ∧ Cond.selects yX8_count.cls yX8_count yX8_count ∈ tb_G := ⟨tb_at (tb_m3 (List.mem_of_getElem? (i := 23) rfl)) rfl, tb_at (tb_m3 (List.mem_of_getElem? (i := 24) rfl)) rfl⟩
theorem kd_X8_count : (yX8_count.cls ≠ "java/lang/invoke/MethodHandle" ∧ yX8_count.cls ≠ "java/lang/invoke/VarHandle" ∧ (parseMethodDescriptor yX8_count.desc).map (fun d => d.parameters.length) = some 1) := by decide +kernel
theorem lk_RL_28 : cb_LV R_law 28 yX8_count cX8_count 2 (some .int) 1 := ⟨tb_at (tb_m3 (List.mem_of_getElem? (i := 22) rfl)) rfl, ks_X8_count.1, ks_X8_count.2, ki_X8_count, kc_X8_count, kd_X8_count⟩
theorem kc_X9_count : Cond.code yX9_count cX9_count 6 (some .int) ∈ tb_G := tb_at (tb_m5 (List.mem_of_getElem? (i := 39) rfl)) rfl
theorem ki_X9_count : Cond.initialized yX9_count.cls ∈ tb_G := tb_at (tb_m1 (List.mem_of_getElem? (i := 12) rfl)) rfl
theorem ks_X9_count : Cond.instanceMethod yX9_count ∈ tb_G ∧ Cond.selects yX9_count.cls yX9_count yX9_count ∈ tb_G := ⟨tb_at (tb_m5 (List.mem_of_getElem? (i := 37) rfl)) rfl, tb_at (tb_m5 (List.mem_of_getElem? (i := 38) rfl)) rfl⟩
theorem kd_X9_count : (yX9_count.cls ≠ "java/lang/invoke/MethodHandle" ∧ yX9_count.cls ≠ "java/lang/invoke/VarHandle" ∧ (parseMethodDescriptor yX9_count.desc).map (fun d => d.parameters.length) = some 1) := by decide +kernel
theorem lk_RL_31 : cb_LV R_law 31 yX9_count cX9_count 6 (some .int) 1 := ⟨tb_at (tb_m5 (List.mem_of_getElem? (i := 36) rfl)) rfl, ks_X9_count.1, ks_X9_count.2, ki_X9_count, kc_X9_count, kd_X9_count⟩
def lw_o3 (Rel : cb_S → cb_S → Prop) : Prop := ∀ gC gM, Rel gC gM → ∀ x1 : Int, cb_i x1 → ∃ r r2 gM2, v_X8_count gC x1 = some r ∧ f_X9_count gM x1 = some (r2, gM2) ∧ cb_w r = cb_w r2 ∧ Rel gC gM2
theorem kc_X8_sign : Cond.code yX8_sign cX8_sign 2 (some .int) ∈ tb_G := tb_at (tb_m3 (List.mem_of_getElem? (i := 47) rfl)) rfl
theorem ki_X8_sign : Cond.initialized yX8_sign.cls ∈ tb_G := tb_at (tb_m1 (List.mem_of_getElem? (i := 1) rfl)) rfl
theorem ks_X8_sign : Cond.instanceMethod yX8_sign ∈ tb_G ∧ Cond.selects yX8_sign.cls yX8_sign yX8_sign ∈ tb_G := ⟨tb_at (tb_m3 (List.mem_of_getElem? (i := 45) rfl)) rfl, tb_at (tb_m3 (List.mem_of_getElem? (i := 46) rfl)) rfl⟩
theorem kd_X8_sign : (yX8_sign.cls ≠ "java/lang/invoke/MethodHandle" ∧ yX8_sign.cls ≠ "java/lang/invoke/VarHandle" ∧ (parseMethodDescriptor yX8_sign.desc).map (fun d => d.parameters.length) = some 1) := by decide +kernel
theorem lk_RL_32 : cb_LV R_law 32 yX8_sign cX8_sign 2 (some .int) 1 := ⟨tb_at (tb_m3 (List.mem_of_getElem? (i := 44) rfl)) rfl, ks_X8_sign.1, ks_X8_sign.2, ki_X8_sign, kc_X8_sign, kd_X8_sign⟩
theorem kc_X9_sign : Cond.code yX9_sign cX9_sign 2 (some .int) ∈ tb_G := tb_at (tb_m5 (List.mem_of_getElem? (i := 43) rfl)) rfl
theorem ki_X9_sign : Cond.initialized yX9_sign.cls ∈ tb_G := tb_at (tb_m1 (List.mem_of_getElem? (i := 12) rfl)) rfl
theorem ks_X9_sign : Cond.instanceMethod yX9_sign ∈ tb_G ∧ Cond.selects yX9_sign.cls yX9_sign yX9_sign ∈ tb_G := ⟨tb_at (tb_m5 (List.mem_of_getElem? (i := 41) rfl)) rfl, tb_at (tb_m5 (List.mem_of_getElem? (i := 42) rfl)) rfl⟩
theorem kd_X9_sign : (yX9_sign.cls ≠ "java/lang/invoke/MethodHandle" ∧ yX9_sign.cls ≠ "java/lang/invoke/VarHandle" ∧ (parseMethodDescriptor yX9_sign.desc).map (fun d => d.parameters.length) = some 1) := by decide +kernel
theorem lk_RL_35 : cb_LV R_law 35 yX9_sign cX9_sign 2 (some .int) 1 := ⟨tb_at (tb_m5 (List.mem_of_getElem? (i := 40) rfl)) rfl, ks_X9_sign.1, ks_X9_sign.2, ki_X9_sign, kc_X9_sign, kd_X9_sign⟩
def lw_o4 (Rel : cb_S → cb_S → Prop) : Prop := ∀ gC gM, Rel gC gM → ∀ x1 : Int, cb_i x1 → ∃ r r2 gM2, v_X8_sign gC x1 = some r ∧ v_X9_sign gM x1 = some r2 ∧ gM2 = gM ∧ cb_w r = cb_w r2 ∧ Rel gC gM2
theorem kc_X8_level : Cond.code yX8_level cX8_level 2 (some .int) ∈ tb_G := tb_at (tb_m3 (List.mem_of_getElem? (i := 52) rfl)) rfl
theorem ki_X8_level : Cond.initialized yX8_level.cls ∈ tb_G := tb_at (tb_m1 (List.mem_of_getElem? (i := 1) rfl)) rfl
theorem ks_X8_level : Cond.instanceMethod yX8_level ∈ tb_G ∧ Cond.selects yX8_level.cls yX8_level yX8_level ∈ tb_G := ⟨tb_at (tb_m3 (List.mem_of_getElem? (i := 50) rfl)) rfl, tb_at (tb_m3 (List.mem_of_getElem? (i := 51) rfl)) rfl⟩
theorem kd_X8_level : (yX8_level.cls ≠ "java/lang/invoke/MethodHandle" ∧ yX8_level.cls ≠ "java/lang/invoke/VarHandle" ∧ (parseMethodDescriptor yX8_level.desc).map (fun d => d.parameters.length) = some 1) := by decide +kernel
theorem lk_RL_36 : cb_LV R_law 36 yX8_level cX8_level 2 (some .int) 1 := ⟨tb_at (tb_m3 (List.mem_of_getElem? (i := 49) rfl)) rfl, ks_X8_level.1, ks_X8_level.2, ki_X8_level, kc_X8_level, kd_X8_level⟩
theorem kc_X9_level : Cond.code yX9_level cX9_level 2 (some .int) ∈ tb_G := tb_at (tb_m5 (List.mem_of_getElem? (i := 47) rfl)) rfl
theorem ki_X9_level : Cond.initialized yX9_level.cls ∈ tb_G := tb_at (tb_m1 (List.mem_of_getElem? (i := 12) rfl)) rfl
theorem ks_X9_level : Cond.instanceMethod yX9_level ∈ tb_G ∧ Cond.selects yX9_level.cls yX9_level yX9_level ∈ tb_G := ⟨tb_at (tb_m5 (List.mem_of_getElem? (i := 45) rfl)) rfl, tb_at (tb_m5 (List.mem_of_getElem? (i := 46) rfl)) rfl⟩
theorem kd_X9_level : (yX9_level.cls ≠ "java/lang/invoke/MethodHandle" ∧ yX9_level.cls ≠ "java/lang/invoke/VarHandle" ∧ (parseMethodDescriptor yX9_level.desc).map (fun d => d.parameters.length) = some 1) := by decide +kernel
theorem lk_RL_39 : cb_LV R_law 39 yX9_level cX9_level 2 (some .int) 1 := ⟨tb_at (tb_m5 (List.mem_of_getElem? (i := 44) rfl)) rfl, ks_X9_level.1, ks_X9_level.2, ki_X9_level, kc_X9_level, kd_X9_level⟩
def lw_o5 (Rel : cb_S → cb_S → Prop) : Prop := ∀ gC gM, Rel gC gM → ∀ x1 : Int, cb_i x1 → ∃ r r2 gM2, v_X8_level gC x1 = some r ∧ f_X9_level gM x1 = some (r2, gM2) ∧ cb_w r = cb_w r2 ∧ Rel gC gM2
theorem kc_X8_cluster : Cond.code yX8_cluster cX8_cluster 3 (some .int) ∈ tb_G := tb_at (tb_m3 (List.mem_of_getElem? (i := 58) rfl)) rfl
theorem ki_X8_cluster : Cond.initialized yX8_cluster.cls ∈ tb_G := tb_at (tb_m1 (List.mem_of_getElem? (i := 1) rfl)) rfl
theorem ks_X8_cluster : Cond.instanceMethod yX8_cluster ∈ tb_G ∧ Cond.selects yX8_cluster.cls yX8_cluster yX8_cluster ∈ tb_G := ⟨tb_at (tb_m3 (List.mem_of_getElem? (i := 56) rfl)) rfl, tb_at (tb_m3 (List.mem_of_getElem? (i := 57) rfl)) rfl⟩
theorem kd_X8_cluster : (yX8_cluster.cls ≠ "java/lang/invoke/MethodHandle" ∧ yX8_cluster.cls ≠ "java/lang/invoke/VarHandle" ∧ (parseMethodDescriptor yX8_cluster.desc).map (fun d => d.parameters.length) = some 2) := by decide +kernel
theorem lk_RL_40 : cb_LV R_law 40 yX8_cluster cX8_cluster 3 (some .int) 2 := ⟨tb_at (tb_m3 (List.mem_of_getElem? (i := 55) rfl)) rfl, ks_X8_cluster.1, ks_X8_cluster.2, ki_X8_cluster, kc_X8_cluster, kd_X8_cluster⟩
theorem kc_X9_cluster : Cond.code yX9_cluster cX9_cluster 3 (some .int) ∈ tb_G := tb_at (tb_m5 (List.mem_of_getElem? (i := 51) rfl)) rfl
theorem ki_X9_cluster : Cond.initialized yX9_cluster.cls ∈ tb_G := tb_at (tb_m1 (List.mem_of_getElem? (i := 12) rfl)) rfl
theorem ks_X9_cluster : Cond.instanceMethod yX9_cluster ∈ tb_G ∧ Cond.selects yX9_cluster.cls yX9_cluster yX9_cluster ∈ tb_G := ⟨tb_at (tb_m5 (List.mem_of_getElem? (i := 49) rfl)) rfl, tb_at (tb_m5 (List.mem_of_getElem? (i := 50) rfl)) rfl⟩
theorem kd_X9_cluster : (yX9_cluster.cls ≠ "java/lang/invoke/MethodHandle" ∧ yX9_cluster.cls ≠ "java/lang/invoke/VarHandle" ∧ (parseMethodDescriptor yX9_cluster.desc).map (fun d => d.parameters.length) = some 2) := by decide +kernel
theorem lk_RL_44 : cb_LV R_law 44 yX9_cluster cX9_cluster 3 (some .int) 2 := ⟨tb_at (tb_m5 (List.mem_of_getElem? (i := 48) rfl)) rfl, ks_X9_cluster.1, ks_X9_cluster.2, ki_X9_cluster, kc_X9_cluster, kd_X9_cluster⟩
def lw_o6 (Rel : cb_S → cb_S → Prop) : Prop := ∀ gC gM, Rel gC gM → ∀ x1 : Int, ∀ x2 : Int, cb_i x1 → cb_i x2 → ∃ r r2 gM2, v_X8_cluster gC x1 x2 = some r ∧ f_X9_cluster gM x1 x2 = some (r2, gM2) ∧ cb_w r = cb_w r2 ∧ Rel gC gM2
theorem kc_X8_seen : Cond.code yX8_seen cX8_seen 4 (some .int) ∈ tb_G := tb_at (tb_m3 (List.mem_of_getElem? (i := 85) rfl)) rfl
theorem ki_X8_seen : Cond.initialized yX8_seen.cls ∈ tb_G := tb_at (tb_m1 (List.mem_of_getElem? (i := 1) rfl)) rfl
theorem ks_X8_seen : Cond.instanceMethod yX8_seen ∈ tb_G ∧ Cond.selects yX8_seen.cls yX8_seen yX8_seen ∈ tb_G := ⟨tb_at (tb_m3 (List.mem_of_getElem? (i := 83) rfl)) rfl, tb_at (tb_m3 (List.mem_of_getElem? (i := 84) rfl)) rfl⟩
theorem kd_X8_seen : (yX8_seen.cls ≠ "java/lang/invoke/MethodHandle" ∧ yX8_seen.cls ≠ "java/lang/invoke/VarHandle" ∧ (parseMethodDescriptor yX8_seen.desc).map (fun d => d.parameters.length) = some 1) := by decide +kernel
theorem lk_RL_45 : cb_LV R_law 45 yX8_seen cX8_seen 4 (some .int) 1 := ⟨tb_at (tb_m3 (List.mem_of_getElem? (i := 82) rfl)) rfl, ks_X8_seen.1, ks_X8_seen.2, ki_X8_seen, kc_X8_seen, kd_X8_seen⟩
theorem kc_X9_seen : Cond.code yX9_seen cX9_seen 3 (some .int) ∈ tb_G := tb_at (tb_m5 (List.mem_of_getElem? (i := 55) rfl)) rfl
theorem ki_X9_seen : Cond.initialized yX9_seen.cls ∈ tb_G := tb_at (tb_m1 (List.mem_of_getElem? (i := 12) rfl)) rfl
theorem ks_X9_seen : Cond.instanceMethod yX9_seen ∈ tb_G ∧ Cond.selects yX9_seen.cls yX9_seen yX9_seen ∈ tb_G := ⟨tb_at (tb_m5 (List.mem_of_getElem? (i := 53) rfl)) rfl, tb_at (tb_m5 (List.mem_of_getElem? (i := 54) rfl)) rfl⟩
theorem kd_X9_seen : (yX9_seen.cls ≠ "java/lang/invoke/MethodHandle" ∧ yX9_seen.cls ≠ "java/lang/invoke/VarHandle" ∧ (parseMethodDescriptor yX9_seen.desc).map (fun d => d.parameters.length) = some 1) := by decide +kernel
theorem lk_RL_48 : cb_LV R_law 48 yX9_seen cX9_seen 3 (some .int) 1 := ⟨tb_at (tb_m5 (List.mem_of_getElem? (i := 52) rfl)) rfl, ks_X9_seen.1, ks_X9_seen.2, ki_X9_seen, kc_X9_seen, kd_X9_seen⟩
def lw_o7 (Rel : cb_S → cb_S → Prop) : Prop := ∀ gC gM, Rel gC gM → ∀ x1 : Int, cb_i x1 → ∃ r r2 gM2, v_X8_seen gC x1 = some r ∧ f_X9_seen gM x1 = some (r2, gM2) ∧ cb_w r = cb_w r2 ∧ Rel gC gM2
theorem kc_X8_caret : Cond.code yX8_caret cX8_caret 2 (some .int) ∈ tb_G := tb_at (tb_m3 (List.mem_of_getElem? (i := 99) rfl)) rfl
theorem ki_X8_caret : Cond.initialized yX8_caret.cls ∈ tb_G := tb_at (tb_m1 (List.mem_of_getElem? (i := 1) rfl)) rfl
theorem ks_X8_caret : Cond.instanceMethod yX8_caret ∈ tb_G ∧ Cond.selects yX8_caret.cls yX8_caret yX8_caret ∈ tb_G := ⟨tb_at (tb_m3 (List.mem_of_getElem? (i := 97) rfl)) rfl, tb_at (tb_m3 (List.mem_of_getElem? (i := 98) rfl)) rfl⟩
theorem kd_X8_caret : (yX8_caret.cls ≠ "java/lang/invoke/MethodHandle" ∧ yX8_caret.cls ≠ "java/lang/invoke/VarHandle" ∧ (parseMethodDescriptor yX8_caret.desc).map (fun d => d.parameters.length) = some 1) := by decide +kernel
theorem lk_RL_49 : cb_LV R_law 49 yX8_caret cX8_caret 2 (some .int) 1 := ⟨tb_at (tb_m3 (List.mem_of_getElem? (i := 96) rfl)) rfl, ks_X8_caret.1, ks_X8_caret.2, ki_X8_caret, kc_X8_caret, kd_X8_caret⟩
theorem kc_X9_caret : Cond.code yX9_caret cX9_caret 2 (some .int) ∈ tb_G := tb_at (tb_m5 (List.mem_of_getElem? (i := 59) rfl)) rfl
theorem ki_X9_caret : Cond.initialized yX9_caret.cls ∈ tb_G := tb_at (tb_m1 (List.mem_of_getElem? (i := 12) rfl)) rfl
theorem ks_X9_caret : Cond.instanceMethod yX9_caret ∈ tb_G ∧ Cond.selects yX9_caret.cls yX9_caret yX9_caret ∈ tb_G := ⟨tb_at (tb_m5 (List.mem_of_getElem? (i := 57) rfl)) rfl, tb_at (tb_m5 (List.mem_of_getElem? (i := 58) rfl)) rfl⟩
theorem kd_X9_caret : (yX9_caret.cls ≠ "java/lang/invoke/MethodHandle" ∧ yX9_caret.cls ≠ "java/lang/invoke/VarHandle" ∧ (parseMethodDescriptor yX9_caret.desc).map (fun d => d.parameters.length) = some 1) := by decide +kernel
theorem lk_RL_52 : cb_LV R_law 52 yX9_caret cX9_caret 2 (some .int) 1 := ⟨tb_at (tb_m5 (List.mem_of_getElem? (i := 56) rfl)) rfl, ks_X9_caret.1, ks_X9_caret.2, ki_X9_caret, kc_X9_caret, kd_X9_caret⟩
def lw_o8 (Rel : cb_S → cb_S → Prop) : Prop := ∀ gC gM, Rel gC gM → ∀ x1 : Int, cb_i x1 → ∃ r r2 gM2, v_X8_caret gC x1 = some r ∧ f_X9_caret gM x1 = some (r2, gM2) ∧ cb_w r = cb_w r2 ∧ Rel gC gM2
theorem kc_X8_go : Cond.code yX8_go cX8_go 4 (some .boolean) ∈ tb_G := tb_at (tb_m3 (List.mem_of_getElem? (i := 142) rfl)) rfl
theorem ki_X8_go : Cond.initialized yX8_go.cls ∈ tb_G := tb_at (tb_m1 (List.mem_of_getElem? (i := 1) rfl)) rfl
theorem ks_X8_go : Cond.instanceMethod yX8_go ∈ tb_G ∧ Cond.selects yX8_go.cls yX8_go yX8_go ∈ tb_G := ⟨tb_at (tb_m3 (List.mem_of_getElem? (i := 140) rfl)) rfl, tb_at (tb_m3 (List.mem_of_getElem? (i := 141) rfl)) rfl⟩
theorem kd_X8_go : (yX8_go.cls ≠ "java/lang/invoke/MethodHandle" ∧ yX8_go.cls ≠ "java/lang/invoke/VarHandle" ∧ (parseMethodDescriptor yX8_go.desc).map (fun d => d.parameters.length) = some 2) := by decide +kernel
theorem lk_RL_53 : cb_LV R_law 53 yX8_go cX8_go 4 (some .boolean) 2 := ⟨tb_at (tb_m3 (List.mem_of_getElem? (i := 139) rfl)) rfl, ks_X8_go.1, ks_X8_go.2, ki_X8_go, kc_X8_go, kd_X8_go⟩
theorem kc_X9_go : Cond.code yX9_go cX9_go 3 (some .boolean) ∈ tb_G := tb_at (tb_m5 (List.mem_of_getElem? (i := 75) rfl)) rfl
theorem ki_X9_go : Cond.initialized yX9_go.cls ∈ tb_G := tb_at (tb_m1 (List.mem_of_getElem? (i := 12) rfl)) rfl
theorem ks_X9_go : Cond.instanceMethod yX9_go ∈ tb_G ∧ Cond.selects yX9_go.cls yX9_go yX9_go ∈ tb_G := ⟨tb_at (tb_m5 (List.mem_of_getElem? (i := 73) rfl)) rfl, tb_at (tb_m5 (List.mem_of_getElem? (i := 74) rfl)) rfl⟩
theorem kd_X9_go : (yX9_go.cls ≠ "java/lang/invoke/MethodHandle" ∧ yX9_go.cls ≠ "java/lang/invoke/VarHandle" ∧ (parseMethodDescriptor yX9_go.desc).map (fun d => d.parameters.length) = some 2) := by decide +kernel
theorem lk_RL_57 : cb_LV R_law 57 yX9_go cX9_go 3 (some .boolean) 2 := ⟨tb_at (tb_m5 (List.mem_of_getElem? (i := 72) rfl)) rfl, ks_X9_go.1, ks_X9_go.2, ki_X9_go, kc_X9_go, kd_X9_go⟩
def lw_o9 (Rel : cb_S → cb_S → Prop) : Prop := ∀ gC gM, Rel gC gM → ∀ x1 : Int, ∀ x2 : Int, cb_i x1 → cb_i x2 → ∃ r gC2 r2 gM2, f_X8_go gC x1 x2 = some (r, gC2) ∧ f_X9_go gM x1 x2 = some (r2, gM2) ∧ cb_w r = cb_w r2 ∧ Rel gC2 gM2
theorem kc_X8_on : Cond.code yX8_on cX8_on 3 (some .boolean) ∈ tb_G := tb_at (tb_m3 (List.mem_of_getElem? (i := 149) rfl)) rfl
theorem ki_X8_on : Cond.initialized yX8_on.cls ∈ tb_G := tb_at (tb_m1 (List.mem_of_getElem? (i := 1) rfl)) rfl
theorem ks_X8_on : Cond.instanceMethod yX8_on ∈ tb_G ∧ Cond.selects yX8_on.cls yX8_on yX8_on ∈ tb_G := ⟨tb_at (tb_m3 (List.mem_of_getElem? (i := 147) rfl)) rfl, tb_at (tb_m3 (List.mem_of_getElem? (i := 148) rfl)) rfl⟩
theorem kd_X8_on : (yX8_on.cls ≠ "java/lang/invoke/MethodHandle" ∧ yX8_on.cls ≠ "java/lang/invoke/VarHandle" ∧ (parseMethodDescriptor yX8_on.desc).map (fun d => d.parameters.length) = some 1) := by decide +kernel
theorem lk_RL_58 : cb_LV R_law 58 yX8_on cX8_on 3 (some .boolean) 1 := ⟨tb_at (tb_m3 (List.mem_of_getElem? (i := 146) rfl)) rfl, ks_X8_on.1, ks_X8_on.2, ki_X8_on, kc_X8_on, kd_X8_on⟩
theorem kc_X9_on : Cond.code yX9_on cX9_on 3 (some .boolean) ∈ tb_G := tb_at (tb_m5 (List.mem_of_getElem? (i := 83) rfl)) rfl
theorem ki_X9_on : Cond.initialized yX9_on.cls ∈ tb_G := tb_at (tb_m1 (List.mem_of_getElem? (i := 12) rfl)) rfl
theorem ks_X9_on : Cond.instanceMethod yX9_on ∈ tb_G ∧ Cond.selects yX9_on.cls yX9_on yX9_on ∈ tb_G := ⟨tb_at (tb_m5 (List.mem_of_getElem? (i := 81) rfl)) rfl, tb_at (tb_m5 (List.mem_of_getElem? (i := 82) rfl)) rfl⟩
theorem kd_X9_on : (yX9_on.cls ≠ "java/lang/invoke/MethodHandle" ∧ yX9_on.cls ≠ "java/lang/invoke/VarHandle" ∧ (parseMethodDescriptor yX9_on.desc).map (fun d => d.parameters.length) = some 1) := by decide +kernel
theorem lk_RL_62 : cb_LV R_law 62 yX9_on cX9_on 3 (some .boolean) 1 := ⟨tb_at (tb_m5 (List.mem_of_getElem? (i := 80) rfl)) rfl, ks_X9_on.1, ks_X9_on.2, ki_X9_on, kc_X9_on, kd_X9_on⟩
def lw_o10 (Rel : cb_S → cb_S → Prop) : Prop := ∀ gC gM, Rel gC gM → ∀ x1 : Int, (x1 = 0 ∨ x1 = 1) → ∃ r gC2 r2 gM2, f_X8_on gC x1 = some (r, gC2) ∧ f_X9_on gM x1 = some (r2, gM2) ∧ cb_w r = cb_w r2 ∧ Rel gC2 gM2
theorem kc_X8_step : Cond.code yX8_step cX8_step 2 (some .boolean) ∈ tb_G := tb_at (tb_m3 (List.mem_of_getElem? (i := 159) rfl)) rfl
theorem ki_X8_step : Cond.initialized yX8_step.cls ∈ tb_G := tb_at (tb_m1 (List.mem_of_getElem? (i := 1) rfl)) rfl
theorem ks_X8_step : Cond.instanceMethod yX8_step ∈ tb_G ∧ Cond.selects yX8_step.cls yX8_step yX8_step ∈ tb_G := ⟨tb_at (tb_m3 (List.mem_of_getElem? (i := 157) rfl)) rfl, tb_at (tb_m3 (List.mem_of_getElem? (i := 158) rfl)) rfl⟩
theorem kd_X8_step : (yX8_step.cls ≠ "java/lang/invoke/MethodHandle" ∧ yX8_step.cls ≠ "java/lang/invoke/VarHandle" ∧ (parseMethodDescriptor yX8_step.desc).map (fun d => d.parameters.length) = some 1) := by decide +kernel
theorem lk_RL_63 : cb_LV R_law 63 yX8_step cX8_step 2 (some .boolean) 1 := ⟨tb_at (tb_m3 (List.mem_of_getElem? (i := 156) rfl)) rfl, ks_X8_step.1, ks_X8_step.2, ki_X8_step, kc_X8_step, kd_X8_step⟩
theorem kc_X9_step : Cond.code yX9_step cX9_step 6 (some .boolean) ∈ tb_G := tb_at (tb_m5 (List.mem_of_getElem? (i := 87) rfl)) rfl
theorem ki_X9_step : Cond.initialized yX9_step.cls ∈ tb_G := tb_at (tb_m1 (List.mem_of_getElem? (i := 12) rfl)) rfl
theorem ks_X9_step : Cond.instanceMethod yX9_step ∈ tb_G ∧ Cond.selects yX9_step.cls yX9_step yX9_step ∈ tb_G := ⟨tb_at (tb_m5 (List.mem_of_getElem? (i := 85) rfl)) rfl, tb_at (tb_m5 (List.mem_of_getElem? (i := 86) rfl)) rfl⟩
theorem kd_X9_step : (yX9_step.cls ≠ "java/lang/invoke/MethodHandle" ∧ yX9_step.cls ≠ "java/lang/invoke/VarHandle" ∧ (parseMethodDescriptor yX9_step.desc).map (fun d => d.parameters.length) = some 1) := by decide +kernel
theorem lk_RL_66 : cb_LV R_law 66 yX9_step cX9_step 6 (some .boolean) 1 := ⟨tb_at (tb_m5 (List.mem_of_getElem? (i := 84) rfl)) rfl, ks_X9_step.1, ks_X9_step.2, ki_X9_step, kc_X9_step, kd_X9_step⟩
def lw_o11 (Rel : cb_S → cb_S → Prop) : Prop := ∀ gC gM, Rel gC gM → ∀ x1 : Int, (x1 = 0 ∨ x1 = 1) → ∃ r gC2 r2 gM2, f_X8_step gC x1 = some (r, gC2) ∧ f_X9_step gM x1 = some (r2, gM2) ∧ cb_w r = cb_w r2 ∧ Rel gC2 gM2
theorem kc_X8_word : Cond.code yX8_word cX8_word 2 (some .boolean) ∈ tb_G := tb_at (tb_m3 (List.mem_of_getElem? (i := 193) rfl)) rfl
theorem ki_X8_word : Cond.initialized yX8_word.cls ∈ tb_G := tb_at (tb_m1 (List.mem_of_getElem? (i := 1) rfl)) rfl
theorem ks_X8_word : Cond.instanceMethod yX8_word ∈ tb_G ∧ Cond.selects yX8_word.cls yX8_word yX8_word ∈ tb_G := ⟨tb_at (tb_m3 (List.mem_of_getElem? (i := 191) rfl)) rfl, tb_at (tb_m3 (List.mem_of_getElem? (i := 192) rfl)) rfl⟩
theorem kd_X8_word : (yX8_word.cls ≠ "java/lang/invoke/MethodHandle" ∧ yX8_word.cls ≠ "java/lang/invoke/VarHandle" ∧ (parseMethodDescriptor yX8_word.desc).map (fun d => d.parameters.length) = some 1) := by decide +kernel
theorem lk_RL_67 : cb_LV R_law 67 yX8_word cX8_word 2 (some .boolean) 1 := ⟨tb_at (tb_m3 (List.mem_of_getElem? (i := 190) rfl)) rfl, ks_X8_word.1, ks_X8_word.2, ki_X8_word, kc_X8_word, kd_X8_word⟩
theorem kc_X9_word : Cond.code yX9_word cX9_word 3 (some .boolean) ∈ tb_G := tb_at (tb_m5 (List.mem_of_getElem? (i := 99) rfl)) rfl
theorem ki_X9_word : Cond.initialized yX9_word.cls ∈ tb_G := tb_at (tb_m1 (List.mem_of_getElem? (i := 12) rfl)) rfl
theorem ks_X9_word : Cond.instanceMethod yX9_word ∈ tb_G ∧ Cond.selects yX9_word.cls yX9_word yX9_word ∈ tb_G := ⟨tb_at (tb_m5 (List.mem_of_getElem? (i := 97) rfl)) rfl, tb_at (tb_m5 (List.mem_of_getElem? (i := 98) rfl)) rfl⟩
theorem kd_X9_word : (yX9_word.cls ≠ "java/lang/invoke/MethodHandle" ∧ yX9_word.cls ≠ "java/lang/invoke/VarHandle" ∧ (parseMethodDescriptor yX9_word.desc).map (fun d => d.parameters.length) = some 1) := by decide +kernel
theorem lk_RL_70 : cb_LV R_law 70 yX9_word cX9_word 3 (some .boolean) 1 := ⟨tb_at (tb_m5 (List.mem_of_getElem? (i := 96) rfl)) rfl, ks_X9_word.1, ks_X9_word.2, ki_X9_word, kc_X9_word, kd_X9_word⟩
def lw_o12 (Rel : cb_S → cb_S → Prop) : Prop := ∀ gC gM, Rel gC gM → ∀ x1 : Int, (x1 = 0 ∨ x1 = 1) → ∃ r gC2 r2 gM2, f_X8_word gC x1 = some (r, gC2) ∧ f_X9_word gM x1 = some (r2, gM2) ∧ cb_w r = cb_w r2 ∧ Rel gC2 gM2
theorem kc_X8_pick : Cond.code yX8_pick cX8_pick 3 (some .int) ∈ tb_G := tb_at (tb_m3 (List.mem_of_getElem? (i := 215) rfl)) rfl
theorem ki_X8_pick : Cond.initialized yX8_pick.cls ∈ tb_G := tb_at (tb_m1 (List.mem_of_getElem? (i := 1) rfl)) rfl
theorem ks_X8_pick : Cond.instanceMethod yX8_pick ∈ tb_G ∧ Cond.selects yX8_pick.cls yX8_pick yX8_pick ∈ tb_G := ⟨tb_at (tb_m3 (List.mem_of_getElem? (i := 213) rfl)) rfl, tb_at (tb_m3 (List.mem_of_getElem? (i := 214) rfl)) rfl⟩
theorem kd_X8_pick : (yX8_pick.cls ≠ "java/lang/invoke/MethodHandle" ∧ yX8_pick.cls ≠ "java/lang/invoke/VarHandle" ∧ (parseMethodDescriptor yX8_pick.desc).map (fun d => d.parameters.length) = some 1) := by decide +kernel
theorem lk_RL_71 : cb_LV R_law 71 yX8_pick cX8_pick 3 (some .int) 1 := ⟨tb_at (tb_m3 (List.mem_of_getElem? (i := 212) rfl)) rfl, ks_X8_pick.1, ks_X8_pick.2, ki_X8_pick, kc_X8_pick, kd_X8_pick⟩
theorem kc_X9_pick : Cond.code yX9_pick cX9_pick 6 (some .int) ∈ tb_G := tb_at (tb_m5 (List.mem_of_getElem? (i := 107) rfl)) rfl
theorem ki_X9_pick : Cond.initialized yX9_pick.cls ∈ tb_G := tb_at (tb_m1 (List.mem_of_getElem? (i := 12) rfl)) rfl
theorem ks_X9_pick : Cond.instanceMethod yX9_pick ∈ tb_G ∧ Cond.selects yX9_pick.cls yX9_pick yX9_pick ∈ tb_G := ⟨tb_at (tb_m5 (List.mem_of_getElem? (i := 105) rfl)) rfl, tb_at (tb_m5 (List.mem_of_getElem? (i := 106) rfl)) rfl⟩
theorem kd_X9_pick : (yX9_pick.cls ≠ "java/lang/invoke/MethodHandle" ∧ yX9_pick.cls ≠ "java/lang/invoke/VarHandle" ∧ (parseMethodDescriptor yX9_pick.desc).map (fun d => d.parameters.length) = some 1) := by decide +kernel
theorem lk_RL_74 : cb_LV R_law 74 yX9_pick cX9_pick 6 (some .int) 1 := ⟨tb_at (tb_m5 (List.mem_of_getElem? (i := 104) rfl)) rfl, ks_X9_pick.1, ks_X9_pick.2, ki_X9_pick, kc_X9_pick, kd_X9_pick⟩
def lw_o13 (Rel : cb_S → cb_S → Prop) : Prop := ∀ gC gM, Rel gC gM → ∀ x1 : Int, cb_i x1 → ∃ r gC2 r2 gM2, f_X8_pick gC x1 = some (r, gC2) ∧ f_X9_pick gM x1 = some (r2, gM2) ∧ cb_w r = cb_w r2 ∧ Rel gC2 gM2
theorem kc_X8_select : Cond.code yX8_select cX8_select 3 (some .int) ∈ tb_G := tb_at (tb_m3 (List.mem_of_getElem? (i := 226) rfl)) rfl
theorem ki_X8_select : Cond.initialized yX8_select.cls ∈ tb_G := tb_at (tb_m1 (List.mem_of_getElem? (i := 1) rfl)) rfl
theorem ks_X8_select : Cond.instanceMethod yX8_select ∈ tb_G ∧ Cond.selects yX8_select.cls yX8_select yX8_select ∈ tb_G := ⟨tb_at (tb_m3 (List.mem_of_getElem? (i := 224) rfl)) rfl, tb_at (tb_m3 (List.mem_of_getElem? (i := 225) rfl)) rfl⟩
theorem kd_X8_select : (yX8_select.cls ≠ "java/lang/invoke/MethodHandle" ∧ yX8_select.cls ≠ "java/lang/invoke/VarHandle" ∧ (parseMethodDescriptor yX8_select.desc).map (fun d => d.parameters.length) = some 2) := by decide +kernel
theorem lk_RL_75 : cb_LV R_law 75 yX8_select cX8_select 3 (some .int) 2 := ⟨tb_at (tb_m3 (List.mem_of_getElem? (i := 223) rfl)) rfl, ks_X8_select.1, ks_X8_select.2, ki_X8_select, kc_X8_select, kd_X8_select⟩
theorem kc_X9_select : Cond.code yX9_select cX9_select 9 (some .int) ∈ tb_G := tb_at (tb_m5 (List.mem_of_getElem? (i := 114) rfl)) rfl
theorem ki_X9_select : Cond.initialized yX9_select.cls ∈ tb_G := tb_at (tb_m1 (List.mem_of_getElem? (i := 12) rfl)) rfl
theorem ks_X9_select : Cond.instanceMethod yX9_select ∈ tb_G ∧ Cond.selects yX9_select.cls yX9_select yX9_select ∈ tb_G := ⟨tb_at (tb_m5 (List.mem_of_getElem? (i := 112) rfl)) rfl, tb_at (tb_m5 (List.mem_of_getElem? (i := 113) rfl)) rfl⟩
theorem kd_X9_select : (yX9_select.cls ≠ "java/lang/invoke/MethodHandle" ∧ yX9_select.cls ≠ "java/lang/invoke/VarHandle" ∧ (parseMethodDescriptor yX9_select.desc).map (fun d => d.parameters.length) = some 2) := by decide +kernel
theorem lk_RL_78 : cb_LV R_law 78 yX9_select cX9_select 9 (some .int) 2 := ⟨tb_at (tb_m5 (List.mem_of_getElem? (i := 111) rfl)) rfl, ks_X9_select.1, ks_X9_select.2, ki_X9_select, kc_X9_select, kd_X9_select⟩
def lw_o14 (Rel : cb_S → cb_S → Prop) : Prop := ∀ gC gM, Rel gC gM → ∀ x1 : Int, ∀ x2 : Int, cb_i x1 → cb_i x2 → ∃ r gC2 r2 gM2, f_X8_select gC x1 x2 = some (r, gC2) ∧ f_X9_select gM x1 x2 = some (r2, gM2) ∧ cb_w r = cb_w r2 ∧ Rel gC2 gM2
theorem kc_X8_piece : Cond.code yX8_piece cX8_piece 3 (some .int) ∈ tb_G := tb_at (tb_m4 (List.mem_of_getElem? (i := 10) rfl)) rfl
theorem ki_X8_piece : Cond.initialized yX8_piece.cls ∈ tb_G := tb_at (tb_m1 (List.mem_of_getElem? (i := 1) rfl)) rfl
theorem ks_X8_piece : Cond.instanceMethod yX8_piece ∈ tb_G ∧ Cond.selects yX8_piece.cls yX8_piece yX8_piece ∈ tb_G := ⟨tb_at (tb_m4 (List.mem_of_getElem? (i := 8) rfl)) rfl, tb_at (tb_m4 (List.mem_of_getElem? (i := 9) rfl)) rfl⟩
theorem kd_X8_piece : (yX8_piece.cls ≠ "java/lang/invoke/MethodHandle" ∧ yX8_piece.cls ≠ "java/lang/invoke/VarHandle" ∧ (parseMethodDescriptor yX8_piece.desc).map (fun d => d.parameters.length) = some 2) := by decide +kernel
theorem lk_RL_79 : cb_LV R_law 79 yX8_piece cX8_piece 3 (some .int) 2 := ⟨tb_at (tb_m4 (List.mem_of_getElem? (i := 7) rfl)) rfl, ks_X8_piece.1, ks_X8_piece.2, ki_X8_piece, kc_X8_piece, kd_X8_piece⟩
theorem kc_X9_piece : Cond.code yX9_piece cX9_piece 3 (some .int) ∈ tb_G := tb_at (tb_m5 (List.mem_of_getElem? (i := 118) rfl)) rfl
theorem ki_X9_piece : Cond.initialized yX9_piece.cls ∈ tb_G := tb_at (tb_m1 (List.mem_of_getElem? (i := 12) rfl)) rfl
theorem ks_X9_piece : Cond.instanceMethod yX9_piece ∈ tb_G ∧ Cond.selects yX9_piece.cls yX9_piece yX9_piece ∈ tb_G := ⟨tb_at (tb_m5 (List.mem_of_getElem? (i := 116) rfl)) rfl, tb_at (tb_m5 (List.mem_of_getElem? (i := 117) rfl)) rfl⟩
theorem kd_X9_piece : (yX9_piece.cls ≠ "java/lang/invoke/MethodHandle" ∧ yX9_piece.cls ≠ "java/lang/invoke/VarHandle" ∧ (parseMethodDescriptor yX9_piece.desc).map (fun d => d.parameters.length) = some 2) := by decide +kernel
theorem lk_RL_82 : cb_LV R_law 82 yX9_piece cX9_piece 3 (some .int) 2 := ⟨tb_at (tb_m5 (List.mem_of_getElem? (i := 115) rfl)) rfl, ks_X9_piece.1, ks_X9_piece.2, ki_X9_piece, kc_X9_piece, kd_X9_piece⟩
def lw_o15 (Rel : cb_S → cb_S → Prop) : Prop := ∀ gC gM, Rel gC gM → ∀ x1 : Int, ∀ x2 : Int, cb_i x1 → cb_i x2 → ∃ r r2 gM2, v_X8_piece gC x1 x2 = some r ∧ v_X9_piece gM x1 x2 = some r2 ∧ gM2 = gM ∧ cb_w r = cb_w r2 ∧ Rel gC gM2
theorem kc_X8_back : Cond.code yX8_back cX8_back 3 (some .int) ∈ tb_G := tb_at (tb_m4 (List.mem_of_getElem? (i := 23) rfl)) rfl
theorem ki_X8_back : Cond.initialized yX8_back.cls ∈ tb_G := tb_at (tb_m1 (List.mem_of_getElem? (i := 1) rfl)) rfl
theorem ks_X8_back : Cond.instanceMethod yX8_back ∈ tb_G ∧ Cond.selects yX8_back.cls yX8_back yX8_back ∈ tb_G := ⟨tb_at (tb_m4 (List.mem_of_getElem? (i := 21) rfl)) rfl, tb_at (tb_m4 (List.mem_of_getElem? (i := 22) rfl)) rfl⟩
theorem kd_X8_back : (yX8_back.cls ≠ "java/lang/invoke/MethodHandle" ∧ yX8_back.cls ≠ "java/lang/invoke/VarHandle" ∧ (parseMethodDescriptor yX8_back.desc).map (fun d => d.parameters.length) = some 0) := by decide +kernel
theorem lk_RL_83 : cb_LV R_law 83 yX8_back cX8_back 3 (some .int) 0 := ⟨tb_at (tb_m4 (List.mem_of_getElem? (i := 20) rfl)) rfl, ks_X8_back.1, ks_X8_back.2, ki_X8_back, kc_X8_back, kd_X8_back⟩
theorem kc_X9_back : Cond.code yX9_back cX9_back 2 (some .int) ∈ tb_G := tb_at (tb_m5 (List.mem_of_getElem? (i := 122) rfl)) rfl
theorem ki_X9_back : Cond.initialized yX9_back.cls ∈ tb_G := tb_at (tb_m1 (List.mem_of_getElem? (i := 12) rfl)) rfl
theorem ks_X9_back : Cond.instanceMethod yX9_back ∈ tb_G ∧ Cond.selects yX9_back.cls yX9_back yX9_back ∈ tb_G := ⟨tb_at (tb_m5 (List.mem_of_getElem? (i := 120) rfl)) rfl, tb_at (tb_m5 (List.mem_of_getElem? (i := 121) rfl)) rfl⟩
theorem kd_X9_back : (yX9_back.cls ≠ "java/lang/invoke/MethodHandle" ∧ yX9_back.cls ≠ "java/lang/invoke/VarHandle" ∧ (parseMethodDescriptor yX9_back.desc).map (fun d => d.parameters.length) = some 0) := by decide +kernel
theorem lk_RL_86 : cb_LV R_law 86 yX9_back cX9_back 2 (some .int) 0 := ⟨tb_at (tb_m5 (List.mem_of_getElem? (i := 119) rfl)) rfl, ks_X9_back.1, ks_X9_back.2, ki_X9_back, kc_X9_back, kd_X9_back⟩
def lw_o16 (Rel : cb_S → cb_S → Prop) : Prop := ∀ gC gM, Rel gC gM → ∃ r gC2 r2 gM2, f_X8_back gC  = some (r, gC2) ∧ f_X9_back gM  = some (r2, gM2) ∧ cb_w r = cb_w r2 ∧ Rel gC2 gM2
theorem kc_X8_ahead : Cond.code yX8_ahead cX8_ahead 2 (some .int) ∈ tb_G := tb_at (tb_m4 (List.mem_of_getElem? (i := 34) rfl)) rfl
theorem ki_X8_ahead : Cond.initialized yX8_ahead.cls ∈ tb_G := tb_at (tb_m1 (List.mem_of_getElem? (i := 1) rfl)) rfl
theorem ks_X8_ahead : Cond.instanceMethod yX8_ahead ∈ tb_G ∧ Cond.selects yX8_ahead.cls yX8_ahead yX8_ahead ∈ tb_G := ⟨tb_at (tb_m4 (List.mem_of_getElem? (i := 32) rfl)) rfl, tb_at (tb_m4 (List.mem_of_getElem? (i := 33) rfl)) rfl⟩
theorem kd_X8_ahead : (yX8_ahead.cls ≠ "java/lang/invoke/MethodHandle" ∧ yX8_ahead.cls ≠ "java/lang/invoke/VarHandle" ∧ (parseMethodDescriptor yX8_ahead.desc).map (fun d => d.parameters.length) = some 0) := by decide +kernel
theorem lk_RL_87 : cb_LV R_law 87 yX8_ahead cX8_ahead 2 (some .int) 0 := ⟨tb_at (tb_m4 (List.mem_of_getElem? (i := 31) rfl)) rfl, ks_X8_ahead.1, ks_X8_ahead.2, ki_X8_ahead, kc_X8_ahead, kd_X8_ahead⟩
theorem kc_X9_ahead : Cond.code yX9_ahead cX9_ahead 2 (some .int) ∈ tb_G := tb_at (tb_m5 (List.mem_of_getElem? (i := 130) rfl)) rfl
theorem ki_X9_ahead : Cond.initialized yX9_ahead.cls ∈ tb_G := tb_at (tb_m1 (List.mem_of_getElem? (i := 12) rfl)) rfl
theorem ks_X9_ahead : Cond.instanceMethod yX9_ahead ∈ tb_G ∧ Cond.selects yX9_ahead.cls yX9_ahead yX9_ahead ∈ tb_G := ⟨tb_at (tb_m5 (List.mem_of_getElem? (i := 128) rfl)) rfl, tb_at (tb_m5 (List.mem_of_getElem? (i := 129) rfl)) rfl⟩
theorem kd_X9_ahead : (yX9_ahead.cls ≠ "java/lang/invoke/MethodHandle" ∧ yX9_ahead.cls ≠ "java/lang/invoke/VarHandle" ∧ (parseMethodDescriptor yX9_ahead.desc).map (fun d => d.parameters.length) = some 0) := by decide +kernel
theorem lk_RL_90 : cb_LV R_law 90 yX9_ahead cX9_ahead 2 (some .int) 0 := ⟨tb_at (tb_m5 (List.mem_of_getElem? (i := 127) rfl)) rfl, ks_X9_ahead.1, ks_X9_ahead.2, ki_X9_ahead, kc_X9_ahead, kd_X9_ahead⟩
def lw_o17 (Rel : cb_S → cb_S → Prop) : Prop := ∀ gC gM, Rel gC gM → ∃ r gC2 r2 gM2, f_X8_ahead gC  = some (r, gC2) ∧ f_X9_ahead gM  = some (r2, gM2) ∧ cb_w r = cb_w r2 ∧ Rel gC2 gM2
theorem kc_X8_type : Cond.code yX8_type cX8_type 2 (some .boolean) ∈ tb_G := tb_at (tb_m4 (List.mem_of_getElem? (i := 43) rfl)) rfl
theorem ki_X8_type : Cond.initialized yX8_type.cls ∈ tb_G := tb_at (tb_m1 (List.mem_of_getElem? (i := 1) rfl)) rfl
theorem ks_X8_type : Cond.instanceMethod yX8_type ∈ tb_G ∧ Cond.selects yX8_type.cls yX8_type yX8_type ∈ tb_G := ⟨tb_at (tb_m4 (List.mem_of_getElem? (i := 41) rfl)) rfl, tb_at (tb_m4 (List.mem_of_getElem? (i := 42) rfl)) rfl⟩
theorem kd_X8_type : (yX8_type.cls ≠ "java/lang/invoke/MethodHandle" ∧ yX8_type.cls ≠ "java/lang/invoke/VarHandle" ∧ (parseMethodDescriptor yX8_type.desc).map (fun d => d.parameters.length) = some 1) := by decide +kernel
theorem lk_RL_91 : cb_LV R_law 91 yX8_type cX8_type 2 (some .boolean) 1 := ⟨tb_at (tb_m4 (List.mem_of_getElem? (i := 40) rfl)) rfl, ks_X8_type.1, ks_X8_type.2, ki_X8_type, kc_X8_type, kd_X8_type⟩
theorem kc_X9_type : Cond.code yX9_type cX9_type 3 (some .boolean) ∈ tb_G := tb_at (tb_m5 (List.mem_of_getElem? (i := 134) rfl)) rfl
theorem ki_X9_type : Cond.initialized yX9_type.cls ∈ tb_G := tb_at (tb_m1 (List.mem_of_getElem? (i := 12) rfl)) rfl
theorem ks_X9_type : Cond.instanceMethod yX9_type ∈ tb_G ∧ Cond.selects yX9_type.cls yX9_type yX9_type ∈ tb_G := ⟨tb_at (tb_m5 (List.mem_of_getElem? (i := 132) rfl)) rfl, tb_at (tb_m5 (List.mem_of_getElem? (i := 133) rfl)) rfl⟩
theorem kd_X9_type : (yX9_type.cls ≠ "java/lang/invoke/MethodHandle" ∧ yX9_type.cls ≠ "java/lang/invoke/VarHandle" ∧ (parseMethodDescriptor yX9_type.desc).map (fun d => d.parameters.length) = some 1) := by decide +kernel
theorem lk_RL_95 : cb_LV R_law 95 yX9_type cX9_type 3 (some .boolean) 1 := ⟨tb_at (tb_m5 (List.mem_of_getElem? (i := 131) rfl)) rfl, ks_X9_type.1, ks_X9_type.2, ki_X9_type, kc_X9_type, kd_X9_type⟩
def lw_o18 (Rel : cb_S → cb_S → Prop) : Prop := ∀ gC gM, Rel gC gM → ∀ x1 : Int, cb_i x1 → ∃ r gC2 r2 gM2, f_X8_type gC x1 = some (r, gC2) ∧ f_X9_type gM x1 = some (r2, gM2) ∧ cb_w r = cb_w r2 ∧ Rel gC2 gM2
theorem kc_X8_cut : Cond.code yX8_cut cX8_cut 3 (some .int) ∈ tb_G := tb_at (tb_m4 (List.mem_of_getElem? (i := 47) rfl)) rfl
theorem ki_X8_cut : Cond.initialized yX8_cut.cls ∈ tb_G := tb_at (tb_m1 (List.mem_of_getElem? (i := 1) rfl)) rfl
theorem ks_X8_cut : Cond.instanceMethod yX8_cut ∈ tb_G ∧ Cond.selects yX8_cut.cls yX8_cut yX8_cut ∈ tb_G := ⟨tb_at (tb_m4 (List.mem_of_getElem? (i := 45) rfl)) rfl, tb_at (tb_m4 (List.mem_of_getElem? (i := 46) rfl)) rfl⟩
theorem kd_X8_cut : (yX8_cut.cls ≠ "java/lang/invoke/MethodHandle" ∧ yX8_cut.cls ≠ "java/lang/invoke/VarHandle" ∧ (parseMethodDescriptor yX8_cut.desc).map (fun d => d.parameters.length) = some 2) := by decide +kernel
theorem lk_RL_96 : cb_LV R_law 96 yX8_cut cX8_cut 3 (some .int) 2 := ⟨tb_at (tb_m4 (List.mem_of_getElem? (i := 44) rfl)) rfl, ks_X8_cut.1, ks_X8_cut.2, ki_X8_cut, kc_X8_cut, kd_X8_cut⟩
theorem kc_X9_cut : Cond.code yX9_cut cX9_cut 3 (some .int) ∈ tb_G := tb_at (tb_m5 (List.mem_of_getElem? (i := 138) rfl)) rfl
theorem ki_X9_cut : Cond.initialized yX9_cut.cls ∈ tb_G := tb_at (tb_m1 (List.mem_of_getElem? (i := 12) rfl)) rfl
theorem ks_X9_cut : Cond.instanceMethod yX9_cut ∈ tb_G ∧ Cond.selects yX9_cut.cls yX9_cut yX9_cut ∈ tb_G := ⟨tb_at (tb_m5 (List.mem_of_getElem? (i := 136) rfl)) rfl, tb_at (tb_m5 (List.mem_of_getElem? (i := 137) rfl)) rfl⟩
theorem kd_X9_cut : (yX9_cut.cls ≠ "java/lang/invoke/MethodHandle" ∧ yX9_cut.cls ≠ "java/lang/invoke/VarHandle" ∧ (parseMethodDescriptor yX9_cut.desc).map (fun d => d.parameters.length) = some 2) := by decide +kernel
theorem lk_RL_99 : cb_LV R_law 99 yX9_cut cX9_cut 3 (some .int) 2 := ⟨tb_at (tb_m5 (List.mem_of_getElem? (i := 135) rfl)) rfl, ks_X9_cut.1, ks_X9_cut.2, ki_X9_cut, kc_X9_cut, kd_X9_cut⟩
def lw_o19 (Rel : cb_S → cb_S → Prop) : Prop := ∀ gC gM, Rel gC gM → ∀ x1 : Int, ∀ x2 : Int, cb_i x1 → cb_i x2 → ∃ r gC2 r2 gM2, f_X8_cut gC x1 x2 = some (r, gC2) ∧ f_X9_cut gM x1 x2 = some (r2, gM2) ∧ cb_w r = cb_w r2 ∧ Rel gC2 gM2
theorem kc_X8_undo : Cond.code yX8_undo cX8_undo 1 (some .int) ∈ tb_G := tb_at (tb_m4 (List.mem_of_getElem? (i := 51) rfl)) rfl
theorem ki_X8_undo : Cond.initialized yX8_undo.cls ∈ tb_G := tb_at (tb_m1 (List.mem_of_getElem? (i := 1) rfl)) rfl
theorem ks_X8_undo : Cond.instanceMethod yX8_undo ∈ tb_G ∧ Cond.selects yX8_undo.cls yX8_undo yX8_undo ∈ tb_G := ⟨tb_at (tb_m4 (List.mem_of_getElem? (i := 49) rfl)) rfl, tb_at (tb_m4 (List.mem_of_getElem? (i := 50) rfl)) rfl⟩
theorem kd_X8_undo : (yX8_undo.cls ≠ "java/lang/invoke/MethodHandle" ∧ yX8_undo.cls ≠ "java/lang/invoke/VarHandle" ∧ (parseMethodDescriptor yX8_undo.desc).map (fun d => d.parameters.length) = some 0) := by decide +kernel
theorem lk_RL_100 : cb_LV R_law 100 yX8_undo cX8_undo 1 (some .int) 0 := ⟨tb_at (tb_m4 (List.mem_of_getElem? (i := 48) rfl)) rfl, ks_X8_undo.1, ks_X8_undo.2, ki_X8_undo, kc_X8_undo, kd_X8_undo⟩
theorem kc_X9_undo : Cond.code yX9_undo cX9_undo 2 (some .int) ∈ tb_G := tb_at (tb_m4 (List.mem_of_getElem? (i := 179) rfl)) rfl
theorem ki_X9_undo : Cond.initialized yX9_undo.cls ∈ tb_G := tb_at (tb_m1 (List.mem_of_getElem? (i := 12) rfl)) rfl
theorem ks_X9_undo : Cond.instanceMethod yX9_undo ∈ tb_G ∧ Cond.selects yX9_undo.cls yX9_undo yX9_undo ∈ tb_G := ⟨tb_at (tb_m4 (List.mem_of_getElem? (i := 177) rfl)) rfl, tb_at (tb_m4 (List.mem_of_getElem? (i := 178) rfl)) rfl⟩
theorem kd_X9_undo : (yX9_undo.cls ≠ "java/lang/invoke/MethodHandle" ∧ yX9_undo.cls ≠ "java/lang/invoke/VarHandle" ∧ (parseMethodDescriptor yX9_undo.desc).map (fun d => d.parameters.length) = some 0) := by decide +kernel
theorem lk_RL_103 : cb_LV R_law 103 yX9_undo cX9_undo 2 (some .int) 0 := ⟨tb_at (tb_m4 (List.mem_of_getElem? (i := 176) rfl)) rfl, ks_X9_undo.1, ks_X9_undo.2, ki_X9_undo, kc_X9_undo, kd_X9_undo⟩
def lw_o20 (Rel : cb_S → cb_S → Prop) : Prop := ∀ gC gM, Rel gC gM → ∃ r gC2 r2 gM2, f_X8_undo gC  = some (r, gC2) ∧ f_X9_undo gM  = some (r2, gM2) ∧ cb_w r = cb_w r2 ∧ Rel gC2 gM2
/-- every call keeps Rel, and the two answers are alike -/
def lw_sim (Rel : cb_S → cb_S → Prop) : Prop := lw_o0 Rel ∧ lw_o1 Rel ∧ lw_o2 Rel ∧ lw_o3 Rel ∧ lw_o4 Rel ∧ lw_o5 Rel ∧ lw_o6 Rel ∧ lw_o7 Rel ∧ lw_o8 Rel ∧ lw_o9 Rel ∧ lw_o10 Rel ∧ lw_o11 Rel ∧ lw_o12 Rel ∧ lw_o13 Rel ∧ lw_o14 Rel ∧ lw_o15 Rel ∧ lw_o16 Rel ∧ lw_o17 Rel ∧ lw_o18 Rel ∧ lw_o19 Rel ∧ lw_o20 Rel
set_option maxRecDepth 100000 in
theorem lj_case0 {Rel : cb_S → cb_S → Prop} (hsim : lw_o0 Rel) {X : lj_C} {OC OM : cb_O} {kc ks : Nat} (hok : lj_ok X OC OM) (hk : kc ≤ room_1.cells ∧ ks ≤ room_1.slots) (hL : lj_L X ≤ 2560) {i : Int} (hi0 : 0 ≤ i) (hi1 : i + 5 ≤ lj_L X) {gC gM : cb_S} (hrel : Rel gC gM) (next : ∀ gC2 gM2, Rel gC2 gM2 → lj X OC OM kc ks 703 [some (.inr 0), some (.inr 1), some (.inr 2), some (.inl i)] [] gC2 gM2) : lj X OC OM kc ks 132 [some (.inr 0), some (.inr 1), some (.inr 2), some (.inl i)] [] gC gM := by
  refine lj_aload_n hok dL_law_132 rfl ?_
  refine lj_aload_n hok dL_law_133 rfl ?_
  refine lj_iload_n hok dL_law_134 rfl ?_
  refine lj_iconst hok dL_law_135 ?_
  refine lj_iadd hok dL_law_136 ?_
  refine lj_sld hok (lj_bd hi0 hi1 hL 1 (by decide)) dL_law_137 ?_
  obtain ⟨r, gC2, r2, gM2, e1, e2, e3, e4⟩ := hsim gC gM hrel (lj_x X (cb_w (i + 1)).toNat) (lj_i X _)
  refine lj_callC (as := [lj_x X (cb_w (i + 1)).toNat]) (rest := []) (r := r) (gC' := gC2) hok lk_RL_13 (by decide) (by decide) hk dL_law_138 (fun hJ => C_X8_way hJ _ _ _ e1) rfl rfl (Nat.le_of_ble_eq_true rfl) rfl ?_
  refine lj_aload_n hok dL_law_141 rfl ?_
  refine lj_aload_n hok dL_law_142 rfl ?_
  refine lj_iload_n hok dL_law_143 rfl ?_
  refine lj_iconst hok dL_law_144 ?_
  refine lj_iadd hok dL_law_145 ?_
  refine lj_sld hok (lj_bd hi0 hi1 hL 1 (by decide)) dL_law_146 ?_
  refine lj_callM (as := [lj_x X (cb_w (i + 1)).toNat]) (rest := [.inl r]) (r := r2) (gM' := gM2) hok lk_RL_17 (by decide) (by decide) hk dL_law_147 (fun hJ => C_X9_way hJ _ _ _ e2) rfl rfl (Nat.le_of_ble_eq_true rfl) rfl ?_
  exact lj_iceq (tgt := 703) hok e3 dL_law_150 (by decide) (next _ _ e4)
set_option maxRecDepth 100000 in
theorem lj_case1 {Rel : cb_S → cb_S → Prop} (hsim : lw_o1 Rel) {X : lj_C} {OC OM : cb_O} {kc ks : Nat} (hok : lj_ok X OC OM) (hk : kc ≤ room_1.cells ∧ ks ≤ room_1.slots) (hL : lj_L X ≤ 2560) {i : Int} (hi0 : 0 ≤ i) (hi1 : i + 5 ≤ lj_L X) {gC gM : cb_S} (hrel : Rel gC gM) (next : ∀ gC2 gM2, Rel gC2 gM2 → lj X OC OM kc ks 703 [some (.inr 0), some (.inr 1), some (.inr 2), some (.inl i)] [] gC2 gM2) : lj X OC OM kc ks 155 [some (.inr 0), some (.inr 1), some (.inr 2), some (.inl i)] [] gC gM := by
  refine lj_aload_n hok dL_law_155 rfl ?_
  refine lj_aload_n hok dL_law_156 rfl ?_
  refine lj_iload_n hok dL_law_157 rfl ?_
  refine lj_iconst hok dL_law_158 ?_
  refine lj_iadd hok dL_law_159 ?_
  refine lj_sld hok (lj_bd hi0 hi1 hL 1 (by decide)) dL_law_160 ?_
  refine lj_aload_n hok dL_law_161 rfl ?_
  refine lj_iload_n hok dL_law_162 rfl ?_
  refine lj_iconst hok dL_law_163 ?_
  refine lj_iadd hok dL_law_164 ?_
  refine lj_sld hok (lj_bd hi0 hi1 hL 2 (by decide)) dL_law_165 ?_
  refine lj_aload_n hok dL_law_166 rfl ?_
  refine lj_iload_n hok dL_law_167 rfl ?_
  refine lj_iconst hok dL_law_168 ?_
  refine lj_iadd hok dL_law_169 ?_
  refine lj_sld hok (lj_bd hi0 hi1 hL 3 (by decide)) dL_law_170 ?_
  refine lj_aload_n hok dL_law_171 rfl ?_
  refine lj_iload_n hok dL_law_172 rfl ?_
  refine lj_iconst hok dL_law_173 ?_
  refine lj_iadd hok dL_law_174 ?_
  refine lj_sld hok (lj_bd hi0 hi1 hL 4 (by decide)) dL_law_175 ?_
  obtain ⟨r, gC2, r2, gM2, e1, e2, e3, e4⟩ := hsim gC gM hrel (lj_x X (cb_w (i + 1)).toNat) (lj_x X (cb_w (i + 2)).toNat) (lj_x X (cb_w (i + 3)).toNat) (lj_x X (cb_w (i + 4)).toNat) (lj_i X _) (lj_i X _) (lj_i X _) (lj_i X _)
  refine lj_callC (as := [lj_x X (cb_w (i + 1)).toNat, lj_x X (cb_w (i + 2)).toNat, lj_x X (cb_w (i + 3)).toNat, lj_x X (cb_w (i + 4)).toNat]) (rest := []) (r := r) (gC' := gC2) hok lk_RL_18 (by decide) (by decide) hk dL_law_176 (fun hJ => C_X8_put hJ _ _ _ _ _ _ e1) rfl rfl (Nat.le_of_ble_eq_true rfl) rfl ?_
  refine lj_aload_n hok dL_law_179 rfl ?_
  refine lj_aload_n hok dL_law_180 rfl ?_
  refine lj_iload_n hok dL_law_181 rfl ?_
  refine lj_iconst hok dL_law_182 ?_
  refine lj_iadd hok dL_law_183 ?_
  refine lj_sld hok (lj_bd hi0 hi1 hL 1 (by decide)) dL_law_184 ?_
  refine lj_aload_n hok dL_law_185 rfl ?_
  refine lj_iload_n hok dL_law_186 rfl ?_
  refine lj_iconst hok dL_law_187 ?_
  refine lj_iadd hok dL_law_188 ?_
  refine lj_sld hok (lj_bd hi0 hi1 hL 2 (by decide)) dL_law_189 ?_
  refine lj_aload_n hok dL_law_190 rfl ?_
  refine lj_iload_n hok dL_law_191 rfl ?_
  refine lj_iconst hok dL_law_192 ?_
  refine lj_iadd hok dL_law_193 ?_
  refine lj_sld hok (lj_bd hi0 hi1 hL 3 (by decide)) dL_law_194 ?_
  refine lj_aload_n hok dL_law_195 rfl ?_
  refine lj_iload_n hok dL_law_196 rfl ?_
  refine lj_iconst hok dL_law_197 ?_
  refine lj_iadd hok dL_law_198 ?_
  refine lj_sld hok (lj_bd hi0 hi1 hL 4 (by decide)) dL_law_199 ?_
  refine lj_callM (as := [lj_x X (cb_w (i + 1)).toNat, lj_x X (cb_w (i + 2)).toNat, lj_x X (cb_w (i + 3)).toNat, lj_x X (cb_w (i + 4)).toNat]) (rest := [.inl r]) (r := r2) (gM' := gM2) hok lk_RL_22 (by decide) (by decide) hk dL_law_200 (fun hJ => C_X9_put hJ _ _ _ _ _ _ e2) rfl rfl (Nat.le_of_ble_eq_true rfl) rfl ?_
  exact lj_iceq (tgt := 703) hok e3 dL_law_203 (by decide) (next _ _ e4)
set_option maxRecDepth 100000 in
theorem lj_case2 {Rel : cb_S → cb_S → Prop} (hsim : lw_o2 Rel) {X : lj_C} {OC OM : cb_O} {kc ks : Nat} (hok : lj_ok X OC OM) (hk : kc ≤ room_1.cells ∧ ks ≤ room_1.slots) (hL : lj_L X ≤ 2560) {i : Int} (hi0 : 0 ≤ i) (hi1 : i + 5 ≤ lj_L X) {gC gM : cb_S} (hrel : Rel gC gM) (next : ∀ gC2 gM2, Rel gC2 gM2 → lj X OC OM kc ks 703 [some (.inr 0), some (.inr 1), some (.inr 2), some (.inl i)] [] gC2 gM2) : lj X OC OM kc ks 208 [some (.inr 0), some (.inr 1), some (.inr 2), some (.inl i)] [] gC gM := by
  refine lj_aload_n hok dL_law_208 rfl ?_
  obtain ⟨r, gC2, r2, gM2, e1, e2, e3, e4⟩ := hsim gC gM hrel  
  refine lj_callC (as := []) (rest := []) (r := r) (gC' := gC2) hok lk_RL_23 (by decide) (by decide) hk dL_law_209 (fun hJ => C_X8_clear hJ  _ _ e1) rfl rfl (Nat.le_of_ble_eq_true rfl) rfl ?_
  refine lj_aload_n hok dL_law_212 rfl ?_
  refine lj_callM (as := []) (rest := [.inl r]) (r := r2) (gM' := gM2) hok lk_RL_27 (by decide) (by decide) hk dL_law_213 (fun hJ => C_X9_clear hJ  _ _ e2) rfl rfl (Nat.le_of_ble_eq_true rfl) rfl ?_
  exact lj_iceq (tgt := 703) hok e3 dL_law_216 (by decide) (next _ _ e4)
set_option maxRecDepth 100000 in
theorem lj_case3 {Rel : cb_S → cb_S → Prop} (hsim : lw_o3 Rel) {X : lj_C} {OC OM : cb_O} {kc ks : Nat} (hok : lj_ok X OC OM) (hk : kc ≤ room_1.cells ∧ ks ≤ room_1.slots) (hL : lj_L X ≤ 2560) {i : Int} (hi0 : 0 ≤ i) (hi1 : i + 5 ≤ lj_L X) {gC gM : cb_S} (hrel : Rel gC gM) (next : ∀ gC2 gM2, Rel gC2 gM2 → lj X OC OM kc ks 703 [some (.inr 0), some (.inr 1), some (.inr 2), some (.inl i)] [] gC2 gM2) : lj X OC OM kc ks 221 [some (.inr 0), some (.inr 1), some (.inr 2), some (.inl i)] [] gC gM := by
  refine lj_aload_n hok dL_law_221 rfl ?_
  refine lj_aload_n hok dL_law_222 rfl ?_
  refine lj_iload_n hok dL_law_223 rfl ?_
  refine lj_iconst hok dL_law_224 ?_
  refine lj_iadd hok dL_law_225 ?_
  refine lj_sld hok (lj_bd hi0 hi1 hL 1 (by decide)) dL_law_226 ?_
  obtain ⟨r, r2, gM2, e1, e2, e3, e4⟩ := hsim gC gM hrel (lj_x X (cb_w (i + 1)).toNat) (lj_i X _)
  refine lj_callC (as := [lj_x X (cb_w (i + 1)).toNat]) (rest := []) (r := r) hok lk_RL_28 (by decide) (by decide) hk dL_law_227 (fun hJ => C_X8_count hJ _ _ _ e1) rfl rfl (Nat.le_of_ble_eq_true rfl) rfl ?_
  refine lj_aload_n hok dL_law_230 rfl ?_
  refine lj_aload_n hok dL_law_231 rfl ?_
  refine lj_iload_n hok dL_law_232 rfl ?_
  refine lj_iconst hok dL_law_233 ?_
  refine lj_iadd hok dL_law_234 ?_
  refine lj_sld hok (lj_bd hi0 hi1 hL 1 (by decide)) dL_law_235 ?_
  refine lj_callM (as := [lj_x X (cb_w (i + 1)).toNat]) (rest := [.inl r]) (r := r2) (gM' := gM2) hok lk_RL_31 (by decide) (by decide) hk dL_law_236 (fun hJ => C_X9_count hJ _ _ _ e2) rfl rfl (Nat.le_of_ble_eq_true rfl) rfl ?_
  exact lj_iceq (tgt := 703) hok e3 dL_law_239 (by decide) (next _ _ e4)
set_option maxRecDepth 100000 in
theorem lj_case4 {Rel : cb_S → cb_S → Prop} (hsim : lw_o4 Rel) {X : lj_C} {OC OM : cb_O} {kc ks : Nat} (hok : lj_ok X OC OM) (hk : kc ≤ room_1.cells ∧ ks ≤ room_1.slots) (hL : lj_L X ≤ 2560) {i : Int} (hi0 : 0 ≤ i) (hi1 : i + 5 ≤ lj_L X) {gC gM : cb_S} (hrel : Rel gC gM) (next : ∀ gC2 gM2, Rel gC2 gM2 → lj X OC OM kc ks 703 [some (.inr 0), some (.inr 1), some (.inr 2), some (.inl i)] [] gC2 gM2) : lj X OC OM kc ks 244 [some (.inr 0), some (.inr 1), some (.inr 2), some (.inl i)] [] gC gM := by
  refine lj_aload_n hok dL_law_244 rfl ?_
  refine lj_aload_n hok dL_law_245 rfl ?_
  refine lj_iload_n hok dL_law_246 rfl ?_
  refine lj_iconst hok dL_law_247 ?_
  refine lj_iadd hok dL_law_248 ?_
  refine lj_sld hok (lj_bd hi0 hi1 hL 1 (by decide)) dL_law_249 ?_
  obtain ⟨r, r2, gM2, e1, e2, e2b, e3, e4⟩ := hsim gC gM hrel (lj_x X (cb_w (i + 1)).toNat) (lj_i X _)
  subst e2b
  refine lj_callC (as := [lj_x X (cb_w (i + 1)).toNat]) (rest := []) (r := r) hok lk_RL_32 (by decide) (by decide) hk dL_law_250 (fun hJ => C_X8_sign hJ _ _ _ e1) rfl rfl (Nat.le_of_ble_eq_true rfl) rfl ?_
  refine lj_aload_n hok dL_law_253 rfl ?_
  refine lj_aload_n hok dL_law_254 rfl ?_
  refine lj_iload_n hok dL_law_255 rfl ?_
  refine lj_iconst hok dL_law_256 ?_
  refine lj_iadd hok dL_law_257 ?_
  refine lj_sld hok (lj_bd hi0 hi1 hL 1 (by decide)) dL_law_258 ?_
  refine lj_callM (as := [lj_x X (cb_w (i + 1)).toNat]) (rest := [.inl r]) (r := r2) hok lk_RL_35 (by decide) (by decide) hk dL_law_259 (fun hJ => C_X9_sign hJ _ _ _ e2) rfl rfl (Nat.le_of_ble_eq_true rfl) rfl ?_
  exact lj_iceq (tgt := 703) hok e3 dL_law_262 (by decide) (next _ _ e4)
set_option maxRecDepth 100000 in
theorem lj_case5 {Rel : cb_S → cb_S → Prop} (hsim : lw_o5 Rel) {X : lj_C} {OC OM : cb_O} {kc ks : Nat} (hok : lj_ok X OC OM) (hk : kc ≤ room_1.cells ∧ ks ≤ room_1.slots) (hL : lj_L X ≤ 2560) {i : Int} (hi0 : 0 ≤ i) (hi1 : i + 5 ≤ lj_L X) {gC gM : cb_S} (hrel : Rel gC gM) (next : ∀ gC2 gM2, Rel gC2 gM2 → lj X OC OM kc ks 703 [some (.inr 0), some (.inr 1), some (.inr 2), some (.inl i)] [] gC2 gM2) : lj X OC OM kc ks 267 [some (.inr 0), some (.inr 1), some (.inr 2), some (.inl i)] [] gC gM := by
  refine lj_aload_n hok dL_law_267 rfl ?_
  refine lj_aload_n hok dL_law_268 rfl ?_
  refine lj_iload_n hok dL_law_269 rfl ?_
  refine lj_iconst hok dL_law_270 ?_
  refine lj_iadd hok dL_law_271 ?_
  refine lj_sld hok (lj_bd hi0 hi1 hL 1 (by decide)) dL_law_272 ?_
  obtain ⟨r, r2, gM2, e1, e2, e3, e4⟩ := hsim gC gM hrel (lj_x X (cb_w (i + 1)).toNat) (lj_i X _)
  refine lj_callC (as := [lj_x X (cb_w (i + 1)).toNat]) (rest := []) (r := r) hok lk_RL_36 (by decide) (by decide) hk dL_law_273 (fun hJ => C_X8_level hJ _ _ _ e1) rfl rfl (Nat.le_of_ble_eq_true rfl) rfl ?_
  refine lj_aload_n hok dL_law_276 rfl ?_
  refine lj_aload_n hok dL_law_277 rfl ?_
  refine lj_iload_n hok dL_law_278 rfl ?_
  refine lj_iconst hok dL_law_279 ?_
  refine lj_iadd hok dL_law_280 ?_
  refine lj_sld hok (lj_bd hi0 hi1 hL 1 (by decide)) dL_law_281 ?_
  refine lj_callM (as := [lj_x X (cb_w (i + 1)).toNat]) (rest := [.inl r]) (r := r2) (gM' := gM2) hok lk_RL_39 (by decide) (by decide) hk dL_law_282 (fun hJ => C_X9_level hJ _ _ _ e2) rfl rfl (Nat.le_of_ble_eq_true rfl) rfl ?_
  exact lj_iceq (tgt := 703) hok e3 dL_law_285 (by decide) (next _ _ e4)
set_option maxRecDepth 100000 in
theorem lj_case6 {Rel : cb_S → cb_S → Prop} (hsim : lw_o6 Rel) {X : lj_C} {OC OM : cb_O} {kc ks : Nat} (hok : lj_ok X OC OM) (hk : kc ≤ room_1.cells ∧ ks ≤ room_1.slots) (hL : lj_L X ≤ 2560) {i : Int} (hi0 : 0 ≤ i) (hi1 : i + 5 ≤ lj_L X) {gC gM : cb_S} (hrel : Rel gC gM) (next : ∀ gC2 gM2, Rel gC2 gM2 → lj X OC OM kc ks 703 [some (.inr 0), some (.inr 1), some (.inr 2), some (.inl i)] [] gC2 gM2) : lj X OC OM kc ks 290 [some (.inr 0), some (.inr 1), some (.inr 2), some (.inl i)] [] gC gM := by
  refine lj_aload_n hok dL_law_290 rfl ?_
  refine lj_aload_n hok dL_law_291 rfl ?_
  refine lj_iload_n hok dL_law_292 rfl ?_
  refine lj_iconst hok dL_law_293 ?_
  refine lj_iadd hok dL_law_294 ?_
  refine lj_sld hok (lj_bd hi0 hi1 hL 1 (by decide)) dL_law_295 ?_
  refine lj_aload_n hok dL_law_296 rfl ?_
  refine lj_iload_n hok dL_law_297 rfl ?_
  refine lj_iconst hok dL_law_298 ?_
  refine lj_iadd hok dL_law_299 ?_
  refine lj_sld hok (lj_bd hi0 hi1 hL 2 (by decide)) dL_law_300 ?_
  obtain ⟨r, r2, gM2, e1, e2, e3, e4⟩ := hsim gC gM hrel (lj_x X (cb_w (i + 1)).toNat) (lj_x X (cb_w (i + 2)).toNat) (lj_i X _) (lj_i X _)
  refine lj_callC (as := [lj_x X (cb_w (i + 1)).toNat, lj_x X (cb_w (i + 2)).toNat]) (rest := []) (r := r) hok lk_RL_40 (by decide) (by decide) hk dL_law_301 (fun hJ => C_X8_cluster hJ _ _ _ _ e1) rfl rfl (Nat.le_of_ble_eq_true rfl) rfl ?_
  refine lj_aload_n hok dL_law_304 rfl ?_
  refine lj_aload_n hok dL_law_305 rfl ?_
  refine lj_iload_n hok dL_law_306 rfl ?_
  refine lj_iconst hok dL_law_307 ?_
  refine lj_iadd hok dL_law_308 ?_
  refine lj_sld hok (lj_bd hi0 hi1 hL 1 (by decide)) dL_law_309 ?_
  refine lj_aload_n hok dL_law_310 rfl ?_
  refine lj_iload_n hok dL_law_311 rfl ?_
  refine lj_iconst hok dL_law_312 ?_
  refine lj_iadd hok dL_law_313 ?_
  refine lj_sld hok (lj_bd hi0 hi1 hL 2 (by decide)) dL_law_314 ?_
  refine lj_callM (as := [lj_x X (cb_w (i + 1)).toNat, lj_x X (cb_w (i + 2)).toNat]) (rest := [.inl r]) (r := r2) (gM' := gM2) hok lk_RL_44 (by decide) (by decide) hk dL_law_315 (fun hJ => C_X9_cluster hJ _ _ _ _ e2) rfl rfl (Nat.le_of_ble_eq_true rfl) rfl ?_
  exact lj_iceq (tgt := 703) hok e3 dL_law_318 (by decide) (next _ _ e4)
set_option maxRecDepth 100000 in
theorem lj_case7 {Rel : cb_S → cb_S → Prop} (hsim : lw_o7 Rel) {X : lj_C} {OC OM : cb_O} {kc ks : Nat} (hok : lj_ok X OC OM) (hk : kc ≤ room_1.cells ∧ ks ≤ room_1.slots) (hL : lj_L X ≤ 2560) {i : Int} (hi0 : 0 ≤ i) (hi1 : i + 5 ≤ lj_L X) {gC gM : cb_S} (hrel : Rel gC gM) (next : ∀ gC2 gM2, Rel gC2 gM2 → lj X OC OM kc ks 703 [some (.inr 0), some (.inr 1), some (.inr 2), some (.inl i)] [] gC2 gM2) : lj X OC OM kc ks 323 [some (.inr 0), some (.inr 1), some (.inr 2), some (.inl i)] [] gC gM := by
  refine lj_aload_n hok dL_law_323 rfl ?_
  refine lj_aload_n hok dL_law_324 rfl ?_
  refine lj_iload_n hok dL_law_325 rfl ?_
  refine lj_iconst hok dL_law_326 ?_
  refine lj_iadd hok dL_law_327 ?_
  refine lj_sld hok (lj_bd hi0 hi1 hL 1 (by decide)) dL_law_328 ?_
  obtain ⟨r, r2, gM2, e1, e2, e3, e4⟩ := hsim gC gM hrel (lj_x X (cb_w (i + 1)).toNat) (lj_i X _)
  refine lj_callC (as := [lj_x X (cb_w (i + 1)).toNat]) (rest := []) (r := r) hok lk_RL_45 (by decide) (by decide) hk dL_law_329 (fun hJ => C_X8_seen hJ _ _ _ e1) rfl rfl (Nat.le_of_ble_eq_true rfl) rfl ?_
  refine lj_aload_n hok dL_law_332 rfl ?_
  refine lj_aload_n hok dL_law_333 rfl ?_
  refine lj_iload_n hok dL_law_334 rfl ?_
  refine lj_iconst hok dL_law_335 ?_
  refine lj_iadd hok dL_law_336 ?_
  refine lj_sld hok (lj_bd hi0 hi1 hL 1 (by decide)) dL_law_337 ?_
  refine lj_callM (as := [lj_x X (cb_w (i + 1)).toNat]) (rest := [.inl r]) (r := r2) (gM' := gM2) hok lk_RL_48 (by decide) (by decide) hk dL_law_338 (fun hJ => C_X9_seen hJ _ _ _ e2) rfl rfl (Nat.le_of_ble_eq_true rfl) rfl ?_
  exact lj_iceq (tgt := 703) hok e3 dL_law_341 (by decide) (next _ _ e4)
set_option maxRecDepth 100000 in
theorem lj_case8 {Rel : cb_S → cb_S → Prop} (hsim : lw_o8 Rel) {X : lj_C} {OC OM : cb_O} {kc ks : Nat} (hok : lj_ok X OC OM) (hk : kc ≤ room_1.cells ∧ ks ≤ room_1.slots) (hL : lj_L X ≤ 2560) {i : Int} (hi0 : 0 ≤ i) (hi1 : i + 5 ≤ lj_L X) {gC gM : cb_S} (hrel : Rel gC gM) (next : ∀ gC2 gM2, Rel gC2 gM2 → lj X OC OM kc ks 703 [some (.inr 0), some (.inr 1), some (.inr 2), some (.inl i)] [] gC2 gM2) : lj X OC OM kc ks 346 [some (.inr 0), some (.inr 1), some (.inr 2), some (.inl i)] [] gC gM := by
  refine lj_aload_n hok dL_law_346 rfl ?_
  refine lj_aload_n hok dL_law_347 rfl ?_
  refine lj_iload_n hok dL_law_348 rfl ?_
  refine lj_iconst hok dL_law_349 ?_
  refine lj_iadd hok dL_law_350 ?_
  refine lj_sld hok (lj_bd hi0 hi1 hL 1 (by decide)) dL_law_351 ?_
  obtain ⟨r, r2, gM2, e1, e2, e3, e4⟩ := hsim gC gM hrel (lj_x X (cb_w (i + 1)).toNat) (lj_i X _)
  refine lj_callC (as := [lj_x X (cb_w (i + 1)).toNat]) (rest := []) (r := r) hok lk_RL_49 (by decide) (by decide) hk dL_law_352 (fun hJ => C_X8_caret hJ _ _ _ e1) rfl rfl (Nat.le_of_ble_eq_true rfl) rfl ?_
  refine lj_aload_n hok dL_law_355 rfl ?_
  refine lj_aload_n hok dL_law_356 rfl ?_
  refine lj_iload_n hok dL_law_357 rfl ?_
  refine lj_iconst hok dL_law_358 ?_
  refine lj_iadd hok dL_law_359 ?_
  refine lj_sld hok (lj_bd hi0 hi1 hL 1 (by decide)) dL_law_360 ?_
  refine lj_callM (as := [lj_x X (cb_w (i + 1)).toNat]) (rest := [.inl r]) (r := r2) (gM' := gM2) hok lk_RL_52 (by decide) (by decide) hk dL_law_361 (fun hJ => C_X9_caret hJ _ _ _ e2) rfl rfl (Nat.le_of_ble_eq_true rfl) rfl ?_
  exact lj_iceq (tgt := 703) hok e3 dL_law_364 (by decide) (next _ _ e4)
set_option maxRecDepth 100000 in
theorem lj_case9 {Rel : cb_S → cb_S → Prop} (hsim : lw_o9 Rel) {X : lj_C} {OC OM : cb_O} {kc ks : Nat} (hok : lj_ok X OC OM) (hk : kc ≤ room_1.cells ∧ ks ≤ room_1.slots) (hL : lj_L X ≤ 2560) {i : Int} (hi0 : 0 ≤ i) (hi1 : i + 5 ≤ lj_L X) {gC gM : cb_S} (hrel : Rel gC gM) (next : ∀ gC2 gM2, Rel gC2 gM2 → lj X OC OM kc ks 703 [some (.inr 0), some (.inr 1), some (.inr 2), some (.inl i)] [] gC2 gM2) : lj X OC OM kc ks 369 [some (.inr 0), some (.inr 1), some (.inr 2), some (.inl i)] [] gC gM := by
  refine lj_aload_n hok dL_law_369 rfl ?_
  refine lj_aload_n hok dL_law_370 rfl ?_
  refine lj_iload_n hok dL_law_371 rfl ?_
  refine lj_iconst hok dL_law_372 ?_
  refine lj_iadd hok dL_law_373 ?_
  refine lj_sld hok (lj_bd hi0 hi1 hL 1 (by decide)) dL_law_374 ?_
  refine lj_aload_n hok dL_law_375 rfl ?_
  refine lj_iload_n hok dL_law_376 rfl ?_
  refine lj_iconst hok dL_law_377 ?_
  refine lj_iadd hok dL_law_378 ?_
  refine lj_sld hok (lj_bd hi0 hi1 hL 2 (by decide)) dL_law_379 ?_
  obtain ⟨r, gC2, r2, gM2, e1, e2, e3, e4⟩ := hsim gC gM hrel (lj_x X (cb_w (i + 1)).toNat) (lj_x X (cb_w (i + 2)).toNat) (lj_i X _) (lj_i X _)
  refine lj_callC (as := [lj_x X (cb_w (i + 1)).toNat, lj_x X (cb_w (i + 2)).toNat]) (rest := []) (r := r) (gC' := gC2) hok lk_RL_53 (by decide) (by decide) hk dL_law_380 (fun hJ => C_X8_go hJ _ _ _ _ e1) rfl rfl (Nat.le_of_ble_eq_true rfl) rfl ?_
  refine lj_aload_n hok dL_law_383 rfl ?_
  refine lj_aload_n hok dL_law_384 rfl ?_
  refine lj_iload_n hok dL_law_385 rfl ?_
  refine lj_iconst hok dL_law_386 ?_
  refine lj_iadd hok dL_law_387 ?_
  refine lj_sld hok (lj_bd hi0 hi1 hL 1 (by decide)) dL_law_388 ?_
  refine lj_aload_n hok dL_law_389 rfl ?_
  refine lj_iload_n hok dL_law_390 rfl ?_
  refine lj_iconst hok dL_law_391 ?_
  refine lj_iadd hok dL_law_392 ?_
  refine lj_sld hok (lj_bd hi0 hi1 hL 2 (by decide)) dL_law_393 ?_
  refine lj_callM (as := [lj_x X (cb_w (i + 1)).toNat, lj_x X (cb_w (i + 2)).toNat]) (rest := [.inl r]) (r := r2) (gM' := gM2) hok lk_RL_57 (by decide) (by decide) hk dL_law_394 (fun hJ => C_X9_go hJ _ _ _ _ e2) rfl rfl (Nat.le_of_ble_eq_true rfl) rfl ?_
  exact lj_iceq (tgt := 703) hok e3 dL_law_397 (by decide) (next _ _ e4)
set_option maxRecDepth 100000 in
theorem lj_case10 {Rel : cb_S → cb_S → Prop} (hsim : lw_o10 Rel) {X : lj_C} {OC OM : cb_O} {kc ks : Nat} (hok : lj_ok X OC OM) (hk : kc ≤ room_1.cells ∧ ks ≤ room_1.slots) (hL : lj_L X ≤ 2560) {i : Int} (hi0 : 0 ≤ i) (hi1 : i + 5 ≤ lj_L X) {gC gM : cb_S} (hrel : Rel gC gM) (next : ∀ gC2 gM2, Rel gC2 gM2 → lj X OC OM kc ks 703 [some (.inr 0), some (.inr 1), some (.inr 2), some (.inl i)] [] gC2 gM2) : lj X OC OM kc ks 402 [some (.inr 0), some (.inr 1), some (.inr 2), some (.inl i)] [] gC gM := by
  refine lj_aload_n hok dL_law_402 rfl ?_
  refine lj_aload_n hok dL_law_403 rfl ?_
  refine lj_iload_n hok dL_law_404 rfl ?_
  refine lj_iconst hok dL_law_405 ?_
  refine lj_iadd hok dL_law_406 ?_
  refine lj_sld hok (lj_bd hi0 hi1 hL 1 (by decide)) dL_law_407 ?_
  refine lj_ifeq (tgt := 415) hok dL_law_408 (by decide) (fun hz => ?_) (fun hz => ?_)
  · refine lj_iconst hok dL_law_415 ?_
    obtain ⟨r, gC2, r2, gM2, e1, e2, e3, e4⟩ := hsim gC gM hrel 0 (by decide)
    refine lj_callC (as := [0]) (rest := []) (r := r) (gC' := gC2) hok lk_RL_58 (by decide) (by decide) hk dL_law_416 (fun hJ => C_X8_on hJ _ _ _ e1) rfl rfl (Nat.le_of_ble_eq_true rfl) rfl ?_
    refine lj_aload_n hok dL_law_419 rfl ?_
    refine lj_aload_n hok dL_law_420 rfl ?_
    refine lj_iload_n hok dL_law_421 rfl ?_
    refine lj_iconst hok dL_law_422 ?_
    refine lj_iadd hok dL_law_423 ?_
    refine lj_sld hok (lj_bd hi0 hi1 hL 1 (by decide)) dL_law_424 ?_
    refine lj_ifeq (tgt := 432) hok dL_law_425 (by decide) (fun hz2 => ?_) (fun hz2 => ?_)
    · refine lj_iconst hok dL_law_432 ?_
      refine lj_callM (as := [0]) (rest := [.inl r]) (r := r2) (gM' := gM2) hok lk_RL_62 (by decide) (by decide) hk dL_law_433 (fun hJ => C_X9_on hJ _ _ _ e2) rfl rfl (Nat.le_of_ble_eq_true rfl) rfl ?_
      exact lj_iceq (tgt := 703) hok e3 dL_law_436 (by decide) (next _ _ e4)
    · exact absurd hz hz2
  · refine lj_iconst hok dL_law_411 ?_
    refine lj_goto (tgt := 416) hok dL_law_412 (by decide) ?_
    obtain ⟨r, gC2, r2, gM2, e1, e2, e3, e4⟩ := hsim gC gM hrel 1 (by decide)
    refine lj_callC (as := [1]) (rest := []) (r := r) (gC' := gC2) hok lk_RL_58 (by decide) (by decide) hk dL_law_416 (fun hJ => C_X8_on hJ _ _ _ e1) rfl rfl (Nat.le_of_ble_eq_true rfl) rfl ?_
    refine lj_aload_n hok dL_law_419 rfl ?_
    refine lj_aload_n hok dL_law_420 rfl ?_
    refine lj_iload_n hok dL_law_421 rfl ?_
    refine lj_iconst hok dL_law_422 ?_
    refine lj_iadd hok dL_law_423 ?_
    refine lj_sld hok (lj_bd hi0 hi1 hL 1 (by decide)) dL_law_424 ?_
    refine lj_ifeq (tgt := 432) hok dL_law_425 (by decide) (fun hz2 => ?_) (fun hz2 => ?_)
    · exact absurd hz2 hz
    · refine lj_iconst hok dL_law_428 ?_
      refine lj_goto (tgt := 433) hok dL_law_429 (by decide) ?_
      refine lj_callM (as := [1]) (rest := [.inl r]) (r := r2) (gM' := gM2) hok lk_RL_62 (by decide) (by decide) hk dL_law_433 (fun hJ => C_X9_on hJ _ _ _ e2) rfl rfl (Nat.le_of_ble_eq_true rfl) rfl ?_
      exact lj_iceq (tgt := 703) hok e3 dL_law_436 (by decide) (next _ _ e4)
set_option maxRecDepth 100000 in
theorem lj_case11 {Rel : cb_S → cb_S → Prop} (hsim : lw_o11 Rel) {X : lj_C} {OC OM : cb_O} {kc ks : Nat} (hok : lj_ok X OC OM) (hk : kc ≤ room_1.cells ∧ ks ≤ room_1.slots) (hL : lj_L X ≤ 2560) {i : Int} (hi0 : 0 ≤ i) (hi1 : i + 5 ≤ lj_L X) {gC gM : cb_S} (hrel : Rel gC gM) (next : ∀ gC2 gM2, Rel gC2 gM2 → lj X OC OM kc ks 703 [some (.inr 0), some (.inr 1), some (.inr 2), some (.inl i)] [] gC2 gM2) : lj X OC OM kc ks 441 [some (.inr 0), some (.inr 1), some (.inr 2), some (.inl i)] [] gC gM := by
  refine lj_aload_n hok dL_law_441 rfl ?_
  refine lj_aload_n hok dL_law_442 rfl ?_
  refine lj_iload_n hok dL_law_443 rfl ?_
  refine lj_iconst hok dL_law_444 ?_
  refine lj_iadd hok dL_law_445 ?_
  refine lj_sld hok (lj_bd hi0 hi1 hL 1 (by decide)) dL_law_446 ?_
  refine lj_ifeq (tgt := 454) hok dL_law_447 (by decide) (fun hz => ?_) (fun hz => ?_)
  · refine lj_iconst hok dL_law_454 ?_
    obtain ⟨r, gC2, r2, gM2, e1, e2, e3, e4⟩ := hsim gC gM hrel 0 (by decide)
    refine lj_callC (as := [0]) (rest := []) (r := r) (gC' := gC2) hok lk_RL_63 (by decide) (by decide) hk dL_law_455 (fun hJ => C_X8_step hJ _ _ _ e1) rfl rfl (Nat.le_of_ble_eq_true rfl) rfl ?_
    refine lj_aload_n hok dL_law_458 rfl ?_
    refine lj_aload_n hok dL_law_459 rfl ?_
    refine lj_iload_n hok dL_law_460 rfl ?_
    refine lj_iconst hok dL_law_461 ?_
    refine lj_iadd hok dL_law_462 ?_
    refine lj_sld hok (lj_bd hi0 hi1 hL 1 (by decide)) dL_law_463 ?_
    refine lj_ifeq (tgt := 471) hok dL_law_464 (by decide) (fun hz2 => ?_) (fun hz2 => ?_)
    · refine lj_iconst hok dL_law_471 ?_
      refine lj_callM (as := [0]) (rest := [.inl r]) (r := r2) (gM' := gM2) hok lk_RL_66 (by decide) (by decide) hk dL_law_472 (fun hJ => C_X9_step hJ _ _ _ e2) rfl rfl (Nat.le_of_ble_eq_true rfl) rfl ?_
      exact lj_iceq (tgt := 703) hok e3 dL_law_475 (by decide) (next _ _ e4)
    · exact absurd hz hz2
  · refine lj_iconst hok dL_law_450 ?_
    refine lj_goto (tgt := 455) hok dL_law_451 (by decide) ?_
    obtain ⟨r, gC2, r2, gM2, e1, e2, e3, e4⟩ := hsim gC gM hrel 1 (by decide)
    refine lj_callC (as := [1]) (rest := []) (r := r) (gC' := gC2) hok lk_RL_63 (by decide) (by decide) hk dL_law_455 (fun hJ => C_X8_step hJ _ _ _ e1) rfl rfl (Nat.le_of_ble_eq_true rfl) rfl ?_
    refine lj_aload_n hok dL_law_458 rfl ?_
    refine lj_aload_n hok dL_law_459 rfl ?_
    refine lj_iload_n hok dL_law_460 rfl ?_
    refine lj_iconst hok dL_law_461 ?_
    refine lj_iadd hok dL_law_462 ?_
    refine lj_sld hok (lj_bd hi0 hi1 hL 1 (by decide)) dL_law_463 ?_
    refine lj_ifeq (tgt := 471) hok dL_law_464 (by decide) (fun hz2 => ?_) (fun hz2 => ?_)
    · exact absurd hz2 hz
    · refine lj_iconst hok dL_law_467 ?_
      refine lj_goto (tgt := 472) hok dL_law_468 (by decide) ?_
      refine lj_callM (as := [1]) (rest := [.inl r]) (r := r2) (gM' := gM2) hok lk_RL_66 (by decide) (by decide) hk dL_law_472 (fun hJ => C_X9_step hJ _ _ _ e2) rfl rfl (Nat.le_of_ble_eq_true rfl) rfl ?_
      exact lj_iceq (tgt := 703) hok e3 dL_law_475 (by decide) (next _ _ e4)
set_option maxRecDepth 100000 in
theorem lj_case12 {Rel : cb_S → cb_S → Prop} (hsim : lw_o12 Rel) {X : lj_C} {OC OM : cb_O} {kc ks : Nat} (hok : lj_ok X OC OM) (hk : kc ≤ room_1.cells ∧ ks ≤ room_1.slots) (hL : lj_L X ≤ 2560) {i : Int} (hi0 : 0 ≤ i) (hi1 : i + 5 ≤ lj_L X) {gC gM : cb_S} (hrel : Rel gC gM) (next : ∀ gC2 gM2, Rel gC2 gM2 → lj X OC OM kc ks 703 [some (.inr 0), some (.inr 1), some (.inr 2), some (.inl i)] [] gC2 gM2) : lj X OC OM kc ks 480 [some (.inr 0), some (.inr 1), some (.inr 2), some (.inl i)] [] gC gM := by
  refine lj_aload_n hok dL_law_480 rfl ?_
  refine lj_aload_n hok dL_law_481 rfl ?_
  refine lj_iload_n hok dL_law_482 rfl ?_
  refine lj_iconst hok dL_law_483 ?_
  refine lj_iadd hok dL_law_484 ?_
  refine lj_sld hok (lj_bd hi0 hi1 hL 1 (by decide)) dL_law_485 ?_
  refine lj_ifeq (tgt := 493) hok dL_law_486 (by decide) (fun hz => ?_) (fun hz => ?_)
  · refine lj_iconst hok dL_law_493 ?_
    obtain ⟨r, gC2, r2, gM2, e1, e2, e3, e4⟩ := hsim gC gM hrel 0 (by decide)
    refine lj_callC (as := [0]) (rest := []) (r := r) (gC' := gC2) hok lk_RL_67 (by decide) (by decide) hk dL_law_494 (fun hJ => C_X8_word hJ _ _ _ e1) rfl rfl (Nat.le_of_ble_eq_true rfl) rfl ?_
    refine lj_aload_n hok dL_law_497 rfl ?_
    refine lj_aload_n hok dL_law_498 rfl ?_
    refine lj_iload_n hok dL_law_499 rfl ?_
    refine lj_iconst hok dL_law_500 ?_
    refine lj_iadd hok dL_law_501 ?_
    refine lj_sld hok (lj_bd hi0 hi1 hL 1 (by decide)) dL_law_502 ?_
    refine lj_ifeq (tgt := 510) hok dL_law_503 (by decide) (fun hz2 => ?_) (fun hz2 => ?_)
    · refine lj_iconst hok dL_law_510 ?_
      refine lj_callM (as := [0]) (rest := [.inl r]) (r := r2) (gM' := gM2) hok lk_RL_70 (by decide) (by decide) hk dL_law_511 (fun hJ => C_X9_word hJ _ _ _ e2) rfl rfl (Nat.le_of_ble_eq_true rfl) rfl ?_
      exact lj_iceq (tgt := 703) hok e3 dL_law_514 (by decide) (next _ _ e4)
    · exact absurd hz hz2
  · refine lj_iconst hok dL_law_489 ?_
    refine lj_goto (tgt := 494) hok dL_law_490 (by decide) ?_
    obtain ⟨r, gC2, r2, gM2, e1, e2, e3, e4⟩ := hsim gC gM hrel 1 (by decide)
    refine lj_callC (as := [1]) (rest := []) (r := r) (gC' := gC2) hok lk_RL_67 (by decide) (by decide) hk dL_law_494 (fun hJ => C_X8_word hJ _ _ _ e1) rfl rfl (Nat.le_of_ble_eq_true rfl) rfl ?_
    refine lj_aload_n hok dL_law_497 rfl ?_
    refine lj_aload_n hok dL_law_498 rfl ?_
    refine lj_iload_n hok dL_law_499 rfl ?_
    refine lj_iconst hok dL_law_500 ?_
    refine lj_iadd hok dL_law_501 ?_
    refine lj_sld hok (lj_bd hi0 hi1 hL 1 (by decide)) dL_law_502 ?_
    refine lj_ifeq (tgt := 510) hok dL_law_503 (by decide) (fun hz2 => ?_) (fun hz2 => ?_)
    · exact absurd hz2 hz
    · refine lj_iconst hok dL_law_506 ?_
      refine lj_goto (tgt := 511) hok dL_law_507 (by decide) ?_
      refine lj_callM (as := [1]) (rest := [.inl r]) (r := r2) (gM' := gM2) hok lk_RL_70 (by decide) (by decide) hk dL_law_511 (fun hJ => C_X9_word hJ _ _ _ e2) rfl rfl (Nat.le_of_ble_eq_true rfl) rfl ?_
      exact lj_iceq (tgt := 703) hok e3 dL_law_514 (by decide) (next _ _ e4)
set_option maxRecDepth 100000 in
theorem lj_case13 {Rel : cb_S → cb_S → Prop} (hsim : lw_o13 Rel) {X : lj_C} {OC OM : cb_O} {kc ks : Nat} (hok : lj_ok X OC OM) (hk : kc ≤ room_1.cells ∧ ks ≤ room_1.slots) (hL : lj_L X ≤ 2560) {i : Int} (hi0 : 0 ≤ i) (hi1 : i + 5 ≤ lj_L X) {gC gM : cb_S} (hrel : Rel gC gM) (next : ∀ gC2 gM2, Rel gC2 gM2 → lj X OC OM kc ks 703 [some (.inr 0), some (.inr 1), some (.inr 2), some (.inl i)] [] gC2 gM2) : lj X OC OM kc ks 519 [some (.inr 0), some (.inr 1), some (.inr 2), some (.inl i)] [] gC gM := by
  refine lj_aload_n hok dL_law_519 rfl ?_
  refine lj_aload_n hok dL_law_520 rfl ?_
  refine lj_iload_n hok dL_law_521 rfl ?_
  refine lj_iconst hok dL_law_522 ?_
  refine lj_iadd hok dL_law_523 ?_
  refine lj_sld hok (lj_bd hi0 hi1 hL 1 (by decide)) dL_law_524 ?_
  obtain ⟨r, gC2, r2, gM2, e1, e2, e3, e4⟩ := hsim gC gM hrel (lj_x X (cb_w (i + 1)).toNat) (lj_i X _)
  refine lj_callC (as := [lj_x X (cb_w (i + 1)).toNat]) (rest := []) (r := r) (gC' := gC2) hok lk_RL_71 (by decide) (by decide) hk dL_law_525 (fun hJ => C_X8_pick hJ _ _ _ e1) rfl rfl (Nat.le_of_ble_eq_true rfl) rfl ?_
  refine lj_aload_n hok dL_law_528 rfl ?_
  refine lj_aload_n hok dL_law_529 rfl ?_
  refine lj_iload_n hok dL_law_530 rfl ?_
  refine lj_iconst hok dL_law_531 ?_
  refine lj_iadd hok dL_law_532 ?_
  refine lj_sld hok (lj_bd hi0 hi1 hL 1 (by decide)) dL_law_533 ?_
  refine lj_callM (as := [lj_x X (cb_w (i + 1)).toNat]) (rest := [.inl r]) (r := r2) (gM' := gM2) hok lk_RL_74 (by decide) (by decide) hk dL_law_534 (fun hJ => C_X9_pick hJ _ _ _ e2) rfl rfl (Nat.le_of_ble_eq_true rfl) rfl ?_
  exact lj_iceq (tgt := 703) hok e3 dL_law_537 (by decide) (next _ _ e4)
set_option maxRecDepth 100000 in
theorem lj_case14 {Rel : cb_S → cb_S → Prop} (hsim : lw_o14 Rel) {X : lj_C} {OC OM : cb_O} {kc ks : Nat} (hok : lj_ok X OC OM) (hk : kc ≤ room_1.cells ∧ ks ≤ room_1.slots) (hL : lj_L X ≤ 2560) {i : Int} (hi0 : 0 ≤ i) (hi1 : i + 5 ≤ lj_L X) {gC gM : cb_S} (hrel : Rel gC gM) (next : ∀ gC2 gM2, Rel gC2 gM2 → lj X OC OM kc ks 703 [some (.inr 0), some (.inr 1), some (.inr 2), some (.inl i)] [] gC2 gM2) : lj X OC OM kc ks 542 [some (.inr 0), some (.inr 1), some (.inr 2), some (.inl i)] [] gC gM := by
  refine lj_aload_n hok dL_law_542 rfl ?_
  refine lj_aload_n hok dL_law_543 rfl ?_
  refine lj_iload_n hok dL_law_544 rfl ?_
  refine lj_iconst hok dL_law_545 ?_
  refine lj_iadd hok dL_law_546 ?_
  refine lj_sld hok (lj_bd hi0 hi1 hL 1 (by decide)) dL_law_547 ?_
  refine lj_aload_n hok dL_law_548 rfl ?_
  refine lj_iload_n hok dL_law_549 rfl ?_
  refine lj_iconst hok dL_law_550 ?_
  refine lj_iadd hok dL_law_551 ?_
  refine lj_sld hok (lj_bd hi0 hi1 hL 2 (by decide)) dL_law_552 ?_
  obtain ⟨r, gC2, r2, gM2, e1, e2, e3, e4⟩ := hsim gC gM hrel (lj_x X (cb_w (i + 1)).toNat) (lj_x X (cb_w (i + 2)).toNat) (lj_i X _) (lj_i X _)
  refine lj_callC (as := [lj_x X (cb_w (i + 1)).toNat, lj_x X (cb_w (i + 2)).toNat]) (rest := []) (r := r) (gC' := gC2) hok lk_RL_75 (by decide) (by decide) hk dL_law_553 (fun hJ => C_X8_select hJ _ _ _ _ e1) rfl rfl (Nat.le_of_ble_eq_true rfl) rfl ?_
  refine lj_aload_n hok dL_law_556 rfl ?_
  refine lj_aload_n hok dL_law_557 rfl ?_
  refine lj_iload_n hok dL_law_558 rfl ?_
  refine lj_iconst hok dL_law_559 ?_
  refine lj_iadd hok dL_law_560 ?_
  refine lj_sld hok (lj_bd hi0 hi1 hL 1 (by decide)) dL_law_561 ?_
  refine lj_aload_n hok dL_law_562 rfl ?_
  refine lj_iload_n hok dL_law_563 rfl ?_
  refine lj_iconst hok dL_law_564 ?_
  refine lj_iadd hok dL_law_565 ?_
  refine lj_sld hok (lj_bd hi0 hi1 hL 2 (by decide)) dL_law_566 ?_
  refine lj_callM (as := [lj_x X (cb_w (i + 1)).toNat, lj_x X (cb_w (i + 2)).toNat]) (rest := [.inl r]) (r := r2) (gM' := gM2) hok lk_RL_78 (by decide) (by decide) hk dL_law_567 (fun hJ => C_X9_select hJ _ _ _ _ e2) rfl rfl (Nat.le_of_ble_eq_true rfl) rfl ?_
  exact lj_iceq (tgt := 703) hok e3 dL_law_570 (by decide) (next _ _ e4)
set_option maxRecDepth 100000 in
theorem lj_case15 {Rel : cb_S → cb_S → Prop} (hsim : lw_o15 Rel) {X : lj_C} {OC OM : cb_O} {kc ks : Nat} (hok : lj_ok X OC OM) (hk : kc ≤ room_1.cells ∧ ks ≤ room_1.slots) (hL : lj_L X ≤ 2560) {i : Int} (hi0 : 0 ≤ i) (hi1 : i + 5 ≤ lj_L X) {gC gM : cb_S} (hrel : Rel gC gM) (next : ∀ gC2 gM2, Rel gC2 gM2 → lj X OC OM kc ks 703 [some (.inr 0), some (.inr 1), some (.inr 2), some (.inl i)] [] gC2 gM2) : lj X OC OM kc ks 575 [some (.inr 0), some (.inr 1), some (.inr 2), some (.inl i)] [] gC gM := by
  refine lj_aload_n hok dL_law_575 rfl ?_
  refine lj_aload_n hok dL_law_576 rfl ?_
  refine lj_iload_n hok dL_law_577 rfl ?_
  refine lj_iconst hok dL_law_578 ?_
  refine lj_iadd hok dL_law_579 ?_
  refine lj_sld hok (lj_bd hi0 hi1 hL 1 (by decide)) dL_law_580 ?_
  refine lj_aload_n hok dL_law_581 rfl ?_
  refine lj_iload_n hok dL_law_582 rfl ?_
  refine lj_iconst hok dL_law_583 ?_
  refine lj_iadd hok dL_law_584 ?_
  refine lj_sld hok (lj_bd hi0 hi1 hL 2 (by decide)) dL_law_585 ?_
  obtain ⟨r, r2, gM2, e1, e2, e2b, e3, e4⟩ := hsim gC gM hrel (lj_x X (cb_w (i + 1)).toNat) (lj_x X (cb_w (i + 2)).toNat) (lj_i X _) (lj_i X _)
  subst e2b
  refine lj_callC (as := [lj_x X (cb_w (i + 1)).toNat, lj_x X (cb_w (i + 2)).toNat]) (rest := []) (r := r) hok lk_RL_79 (by decide) (by decide) hk dL_law_586 (fun hJ => C_X8_piece hJ _ _ _ _ e1) rfl rfl (Nat.le_of_ble_eq_true rfl) rfl ?_
  refine lj_aload_n hok dL_law_589 rfl ?_
  refine lj_aload_n hok dL_law_590 rfl ?_
  refine lj_iload_n hok dL_law_591 rfl ?_
  refine lj_iconst hok dL_law_592 ?_
  refine lj_iadd hok dL_law_593 ?_
  refine lj_sld hok (lj_bd hi0 hi1 hL 1 (by decide)) dL_law_594 ?_
  refine lj_aload_n hok dL_law_595 rfl ?_
  refine lj_iload_n hok dL_law_596 rfl ?_
  refine lj_iconst hok dL_law_597 ?_
  refine lj_iadd hok dL_law_598 ?_
  refine lj_sld hok (lj_bd hi0 hi1 hL 2 (by decide)) dL_law_599 ?_
  refine lj_callM (as := [lj_x X (cb_w (i + 1)).toNat, lj_x X (cb_w (i + 2)).toNat]) (rest := [.inl r]) (r := r2) hok lk_RL_82 (by decide) (by decide) hk dL_law_600 (fun hJ => C_X9_piece hJ _ _ _ _ e2) rfl rfl (Nat.le_of_ble_eq_true rfl) rfl ?_
  exact lj_iceq (tgt := 703) hok e3 dL_law_603 (by decide) (next _ _ e4)
set_option maxRecDepth 100000 in
theorem lj_case16 {Rel : cb_S → cb_S → Prop} (hsim : lw_o16 Rel) {X : lj_C} {OC OM : cb_O} {kc ks : Nat} (hok : lj_ok X OC OM) (hk : kc ≤ room_1.cells ∧ ks ≤ room_1.slots) (hL : lj_L X ≤ 2560) {i : Int} (hi0 : 0 ≤ i) (hi1 : i + 5 ≤ lj_L X) {gC gM : cb_S} (hrel : Rel gC gM) (next : ∀ gC2 gM2, Rel gC2 gM2 → lj X OC OM kc ks 703 [some (.inr 0), some (.inr 1), some (.inr 2), some (.inl i)] [] gC2 gM2) : lj X OC OM kc ks 608 [some (.inr 0), some (.inr 1), some (.inr 2), some (.inl i)] [] gC gM := by
  refine lj_aload_n hok dL_law_608 rfl ?_
  obtain ⟨r, gC2, r2, gM2, e1, e2, e3, e4⟩ := hsim gC gM hrel  
  refine lj_callC (as := []) (rest := []) (r := r) (gC' := gC2) hok lk_RL_83 (by decide) (by decide) hk dL_law_609 (fun hJ => C_X8_back hJ  _ _ e1) rfl rfl (Nat.le_of_ble_eq_true rfl) rfl ?_
  refine lj_aload_n hok dL_law_612 rfl ?_
  refine lj_callM (as := []) (rest := [.inl r]) (r := r2) (gM' := gM2) hok lk_RL_86 (by decide) (by decide) hk dL_law_613 (fun hJ => C_X9_back hJ  _ _ e2) rfl rfl (Nat.le_of_ble_eq_true rfl) rfl ?_
  exact lj_iceq (tgt := 703) hok e3 dL_law_616 (by decide) (next _ _ e4)
set_option maxRecDepth 100000 in
theorem lj_case17 {Rel : cb_S → cb_S → Prop} (hsim : lw_o17 Rel) {X : lj_C} {OC OM : cb_O} {kc ks : Nat} (hok : lj_ok X OC OM) (hk : kc ≤ room_1.cells ∧ ks ≤ room_1.slots) (hL : lj_L X ≤ 2560) {i : Int} (hi0 : 0 ≤ i) (hi1 : i + 5 ≤ lj_L X) {gC gM : cb_S} (hrel : Rel gC gM) (next : ∀ gC2 gM2, Rel gC2 gM2 → lj X OC OM kc ks 703 [some (.inr 0), some (.inr 1), some (.inr 2), some (.inl i)] [] gC2 gM2) : lj X OC OM kc ks 621 [some (.inr 0), some (.inr 1), some (.inr 2), some (.inl i)] [] gC gM := by
  refine lj_aload_n hok dL_law_621 rfl ?_
  obtain ⟨r, gC2, r2, gM2, e1, e2, e3, e4⟩ := hsim gC gM hrel  
  refine lj_callC (as := []) (rest := []) (r := r) (gC' := gC2) hok lk_RL_87 (by decide) (by decide) hk dL_law_622 (fun hJ => C_X8_ahead hJ  _ _ e1) rfl rfl (Nat.le_of_ble_eq_true rfl) rfl ?_
  refine lj_aload_n hok dL_law_625 rfl ?_
  refine lj_callM (as := []) (rest := [.inl r]) (r := r2) (gM' := gM2) hok lk_RL_90 (by decide) (by decide) hk dL_law_626 (fun hJ => C_X9_ahead hJ  _ _ e2) rfl rfl (Nat.le_of_ble_eq_true rfl) rfl ?_
  exact lj_iceq (tgt := 703) hok e3 dL_law_629 (by decide) (next _ _ e4)
set_option maxRecDepth 100000 in
theorem lj_case18 {Rel : cb_S → cb_S → Prop} (hsim : lw_o18 Rel) {X : lj_C} {OC OM : cb_O} {kc ks : Nat} (hok : lj_ok X OC OM) (hk : kc ≤ room_1.cells ∧ ks ≤ room_1.slots) (hL : lj_L X ≤ 2560) {i : Int} (hi0 : 0 ≤ i) (hi1 : i + 5 ≤ lj_L X) {gC gM : cb_S} (hrel : Rel gC gM) (next : ∀ gC2 gM2, Rel gC2 gM2 → lj X OC OM kc ks 703 [some (.inr 0), some (.inr 1), some (.inr 2), some (.inl i)] [] gC2 gM2) : lj X OC OM kc ks 634 [some (.inr 0), some (.inr 1), some (.inr 2), some (.inl i)] [] gC gM := by
  refine lj_aload_n hok dL_law_634 rfl ?_
  refine lj_aload_n hok dL_law_635 rfl ?_
  refine lj_iload_n hok dL_law_636 rfl ?_
  refine lj_iconst hok dL_law_637 ?_
  refine lj_iadd hok dL_law_638 ?_
  refine lj_sld hok (lj_bd hi0 hi1 hL 1 (by decide)) dL_law_639 ?_
  obtain ⟨r, gC2, r2, gM2, e1, e2, e3, e4⟩ := hsim gC gM hrel (lj_x X (cb_w (i + 1)).toNat) (lj_i X _)
  refine lj_callC (as := [lj_x X (cb_w (i + 1)).toNat]) (rest := []) (r := r) (gC' := gC2) hok lk_RL_91 (by decide) (by decide) hk dL_law_640 (fun hJ => C_X8_type hJ _ _ _ e1) rfl rfl (Nat.le_of_ble_eq_true rfl) rfl ?_
  refine lj_aload_n hok dL_law_643 rfl ?_
  refine lj_aload_n hok dL_law_644 rfl ?_
  refine lj_iload_n hok dL_law_645 rfl ?_
  refine lj_iconst hok dL_law_646 ?_
  refine lj_iadd hok dL_law_647 ?_
  refine lj_sld hok (lj_bd hi0 hi1 hL 1 (by decide)) dL_law_648 ?_
  refine lj_callM (as := [lj_x X (cb_w (i + 1)).toNat]) (rest := [.inl r]) (r := r2) (gM' := gM2) hok lk_RL_95 (by decide) (by decide) hk dL_law_649 (fun hJ => C_X9_type hJ _ _ _ e2) rfl rfl (Nat.le_of_ble_eq_true rfl) rfl ?_
  exact lj_iceq (tgt := 703) hok e3 dL_law_652 (by decide) (next _ _ e4)
set_option maxRecDepth 100000 in
theorem lj_case19 {Rel : cb_S → cb_S → Prop} (hsim : lw_o19 Rel) {X : lj_C} {OC OM : cb_O} {kc ks : Nat} (hok : lj_ok X OC OM) (hk : kc ≤ room_1.cells ∧ ks ≤ room_1.slots) (hL : lj_L X ≤ 2560) {i : Int} (hi0 : 0 ≤ i) (hi1 : i + 5 ≤ lj_L X) {gC gM : cb_S} (hrel : Rel gC gM) (next : ∀ gC2 gM2, Rel gC2 gM2 → lj X OC OM kc ks 703 [some (.inr 0), some (.inr 1), some (.inr 2), some (.inl i)] [] gC2 gM2) : lj X OC OM kc ks 657 [some (.inr 0), some (.inr 1), some (.inr 2), some (.inl i)] [] gC gM := by
  refine lj_aload_n hok dL_law_657 rfl ?_
  refine lj_aload_n hok dL_law_658 rfl ?_
  refine lj_iload_n hok dL_law_659 rfl ?_
  refine lj_iconst hok dL_law_660 ?_
  refine lj_iadd hok dL_law_661 ?_
  refine lj_sld hok (lj_bd hi0 hi1 hL 1 (by decide)) dL_law_662 ?_
  refine lj_aload_n hok dL_law_663 rfl ?_
  refine lj_iload_n hok dL_law_664 rfl ?_
  refine lj_iconst hok dL_law_665 ?_
  refine lj_iadd hok dL_law_666 ?_
  refine lj_sld hok (lj_bd hi0 hi1 hL 2 (by decide)) dL_law_667 ?_
  obtain ⟨r, gC2, r2, gM2, e1, e2, e3, e4⟩ := hsim gC gM hrel (lj_x X (cb_w (i + 1)).toNat) (lj_x X (cb_w (i + 2)).toNat) (lj_i X _) (lj_i X _)
  refine lj_callC (as := [lj_x X (cb_w (i + 1)).toNat, lj_x X (cb_w (i + 2)).toNat]) (rest := []) (r := r) (gC' := gC2) hok lk_RL_96 (by decide) (by decide) hk dL_law_668 (fun hJ => C_X8_cut hJ _ _ _ _ e1) rfl rfl (Nat.le_of_ble_eq_true rfl) rfl ?_
  refine lj_aload_n hok dL_law_671 rfl ?_
  refine lj_aload_n hok dL_law_672 rfl ?_
  refine lj_iload_n hok dL_law_673 rfl ?_
  refine lj_iconst hok dL_law_674 ?_
  refine lj_iadd hok dL_law_675 ?_
  refine lj_sld hok (lj_bd hi0 hi1 hL 1 (by decide)) dL_law_676 ?_
  refine lj_aload_n hok dL_law_677 rfl ?_
  refine lj_iload_n hok dL_law_678 rfl ?_
  refine lj_iconst hok dL_law_679 ?_
  refine lj_iadd hok dL_law_680 ?_
  refine lj_sld hok (lj_bd hi0 hi1 hL 2 (by decide)) dL_law_681 ?_
  refine lj_callM (as := [lj_x X (cb_w (i + 1)).toNat, lj_x X (cb_w (i + 2)).toNat]) (rest := [.inl r]) (r := r2) (gM' := gM2) hok lk_RL_99 (by decide) (by decide) hk dL_law_682 (fun hJ => C_X9_cut hJ _ _ _ _ e2) rfl rfl (Nat.le_of_ble_eq_true rfl) rfl ?_
  exact lj_iceq (tgt := 703) hok e3 dL_law_685 (by decide) (next _ _ e4)
set_option maxRecDepth 100000 in
theorem lj_case20 {Rel : cb_S → cb_S → Prop} (hsim : lw_o20 Rel) {X : lj_C} {OC OM : cb_O} {kc ks : Nat} (hok : lj_ok X OC OM) (hk : kc ≤ room_1.cells ∧ ks ≤ room_1.slots) (hL : lj_L X ≤ 2560) {i : Int} (hi0 : 0 ≤ i) (hi1 : i + 5 ≤ lj_L X) {gC gM : cb_S} (hrel : Rel gC gM) (next : ∀ gC2 gM2, Rel gC2 gM2 → lj X OC OM kc ks 703 [some (.inr 0), some (.inr 1), some (.inr 2), some (.inl i)] [] gC2 gM2) : lj X OC OM kc ks 690 [some (.inr 0), some (.inr 1), some (.inr 2), some (.inl i)] [] gC gM := by
  refine lj_aload_n hok dL_law_690 rfl ?_
  obtain ⟨r, gC2, r2, gM2, e1, e2, e3, e4⟩ := hsim gC gM hrel  
  refine lj_callC (as := []) (rest := []) (r := r) (gC' := gC2) hok lk_RL_100 (by decide) (by decide) hk dL_law_691 (fun hJ => C_X8_undo hJ  _ _ e1) rfl rfl (Nat.le_of_ble_eq_true rfl) rfl ?_
  refine lj_aload_n hok dL_law_694 rfl ?_
  refine lj_callM (as := []) (rest := [.inl r]) (r := r2) (gM' := gM2) hok lk_RL_103 (by decide) (by decide) hk dL_law_695 (fun hJ => C_X9_undo hJ  _ _ e2) rfl rfl (Nat.le_of_ble_eq_true rfl) rfl ?_
  exact lj_iceq (tgt := 703) hok e3 dL_law_698 (by decide) (next _ _ e4)
set_option maxRecDepth 100000 in
theorem lj_loop {Rel : cb_S → cb_S → Prop} (hsim : lw_sim Rel) {X : lj_C} {OC OM : cb_O} {kc ks : Nat} (hok : lj_ok X OC OM) (hk : kc ≤ room_1.cells ∧ ks ≤ room_1.slots) (hL : lj_L X ≤ 2560) : ∀ (n : Nat) (i : Int) (gC gM : cb_S), 0 ≤ i → i ≤ 2565 → (lj_L X : Int) ≤ i + n → Rel gC gM → lj X OC OM kc ks 18 [some (.inr 0), some (.inr 1), some (.inr 2), some (.inl i)] [] gC gM := by
  obtain ⟨s0, s1, s2, s3, s4, s5, s6, s7, s8, s9, s10, s11, s12, s13, s14, s15, s16, s17, s18, s19, s20⟩ := hsim
  intro n
  induction n with
  | zero =>
    intro i gC gM h0 h1 h2 hrel
    refine lj_iload_n hok dL_law_18 rfl ?_
    refine lj_aload_n hok dL_law_19 rfl ?_
    refine lj_slen hok dL_law_20 ?_
    refine lj_iconst hok dL_law_21 ?_
    refine lj_isub hok dL_law_22 ?_
    refine lj_icgt (tgt := 709) hok dL_law_23 (by decide) (fun _ => ?_) (fun hz => absurd (by rw [cb_id (by omega) (by omega), cb_id (by omega) (by omega)]; omega) hz)
    refine lj_iconst hok dL_law_709 ?_
    exact lj_ret1 hok hk.1 hk.2 dL_law_710
  | succ n ih =>
    intro i gC gM h0 h1 h2 hrel
    refine lj_iload_n hok dL_law_18 rfl ?_
    refine lj_aload_n hok dL_law_19 rfl ?_
    refine lj_slen hok dL_law_20 ?_
    refine lj_iconst hok dL_law_21 ?_
    refine lj_isub hok dL_law_22 ?_
    refine lj_icgt (tgt := 709) hok dL_law_23 (by decide) (fun _ => ?_) (fun hz => ?_)
    · refine lj_iconst hok dL_law_709 ?_
      exact lj_ret1 hok hk.1 hk.2 dL_law_710
    rw [cb_id (by omega) (by omega), cb_id (by omega) (by omega)] at hz
    have hi1 : i + 5 ≤ lj_L X := by omega
    have next : ∀ gC2 gM2, Rel gC2 gM2 → lj X OC OM kc ks 703 [some (.inr 0), some (.inr 1), some (.inr 2), some (.inl i)] [] gC2 gM2 := fun gC2 gM2 hr2 => by
      refine lj_iinc (ls' := [some (.inr 0), some (.inr 1), some (.inr 2), some (.inl (i + 5))]) hok dL_law_703 rfl (by decide) rfl ?_
      refine lj_goto (tgt := 18) hok dL_law_706 (by decide) ?_
      exact ih (i + 5) gC2 gM2 (by omega) (by omega) (by omega) hr2
    refine lj_aload_n hok dL_law_26 rfl ?_
    refine lj_iload_n hok dL_law_27 rfl ?_
    refine lj_sld hok (lj_bd0 h0 hi1 hL) dL_law_28 ?_
    refine lj_bipush hok dL_law_29 (by decide) ?_
    refine lj_iand31 hok dL_law_31 ?_
    have hsw := lj_sw (lj_x X (cb_w i).toNat)
    by_cases c0 : cb_w (lj_x X (cb_w i).toNat % 32) = 0
    · exact lj_tabIn (tgt := 132) hok 0 c0 dL_law_32 (by decide) (by decide) rfl (by decide) (lj_case0 s0 hok hk hL h0 hi1 hrel next)
    by_cases c1 : cb_w (lj_x X (cb_w i).toNat % 32) = 1
    · exact lj_tabIn (tgt := 155) hok 1 c1 dL_law_32 (by decide) (by decide) rfl (by decide) (lj_case1 s1 hok hk hL h0 hi1 hrel next)
    by_cases c2 : cb_w (lj_x X (cb_w i).toNat % 32) = 2
    · exact lj_tabIn (tgt := 208) hok 2 c2 dL_law_32 (by decide) (by decide) rfl (by decide) (lj_case2 s2 hok hk hL h0 hi1 hrel next)
    by_cases c3 : cb_w (lj_x X (cb_w i).toNat % 32) = 3
    · exact lj_tabIn (tgt := 221) hok 3 c3 dL_law_32 (by decide) (by decide) rfl (by decide) (lj_case3 s3 hok hk hL h0 hi1 hrel next)
    by_cases c4 : cb_w (lj_x X (cb_w i).toNat % 32) = 4
    · exact lj_tabIn (tgt := 244) hok 4 c4 dL_law_32 (by decide) (by decide) rfl (by decide) (lj_case4 s4 hok hk hL h0 hi1 hrel next)
    by_cases c5 : cb_w (lj_x X (cb_w i).toNat % 32) = 5
    · exact lj_tabIn (tgt := 267) hok 5 c5 dL_law_32 (by decide) (by decide) rfl (by decide) (lj_case5 s5 hok hk hL h0 hi1 hrel next)
    by_cases c6 : cb_w (lj_x X (cb_w i).toNat % 32) = 6
    · exact lj_tabIn (tgt := 290) hok 6 c6 dL_law_32 (by decide) (by decide) rfl (by decide) (lj_case6 s6 hok hk hL h0 hi1 hrel next)
    by_cases c7 : cb_w (lj_x X (cb_w i).toNat % 32) = 7
    · exact lj_tabIn (tgt := 323) hok 7 c7 dL_law_32 (by decide) (by decide) rfl (by decide) (lj_case7 s7 hok hk hL h0 hi1 hrel next)
    by_cases c8 : cb_w (lj_x X (cb_w i).toNat % 32) = 8
    · exact lj_tabIn (tgt := 346) hok 8 c8 dL_law_32 (by decide) (by decide) rfl (by decide) (lj_case8 s8 hok hk hL h0 hi1 hrel next)
    by_cases c9 : cb_w (lj_x X (cb_w i).toNat % 32) = 9
    · exact lj_tabIn (tgt := 369) hok 9 c9 dL_law_32 (by decide) (by decide) rfl (by decide) (lj_case9 s9 hok hk hL h0 hi1 hrel next)
    by_cases c10 : cb_w (lj_x X (cb_w i).toNat % 32) = 10
    · exact lj_tabIn (tgt := 402) hok 10 c10 dL_law_32 (by decide) (by decide) rfl (by decide) (lj_case10 s10 hok hk hL h0 hi1 hrel next)
    by_cases c11 : cb_w (lj_x X (cb_w i).toNat % 32) = 11
    · exact lj_tabIn (tgt := 441) hok 11 c11 dL_law_32 (by decide) (by decide) rfl (by decide) (lj_case11 s11 hok hk hL h0 hi1 hrel next)
    by_cases c12 : cb_w (lj_x X (cb_w i).toNat % 32) = 12
    · exact lj_tabIn (tgt := 480) hok 12 c12 dL_law_32 (by decide) (by decide) rfl (by decide) (lj_case12 s12 hok hk hL h0 hi1 hrel next)
    by_cases c13 : cb_w (lj_x X (cb_w i).toNat % 32) = 13
    · exact lj_tabIn (tgt := 519) hok 13 c13 dL_law_32 (by decide) (by decide) rfl (by decide) (lj_case13 s13 hok hk hL h0 hi1 hrel next)
    by_cases c14 : cb_w (lj_x X (cb_w i).toNat % 32) = 14
    · exact lj_tabIn (tgt := 542) hok 14 c14 dL_law_32 (by decide) (by decide) rfl (by decide) (lj_case14 s14 hok hk hL h0 hi1 hrel next)
    by_cases c15 : cb_w (lj_x X (cb_w i).toNat % 32) = 15
    · exact lj_tabIn (tgt := 575) hok 15 c15 dL_law_32 (by decide) (by decide) rfl (by decide) (lj_case15 s15 hok hk hL h0 hi1 hrel next)
    by_cases c16 : cb_w (lj_x X (cb_w i).toNat % 32) = 16
    · exact lj_tabIn (tgt := 608) hok 16 c16 dL_law_32 (by decide) (by decide) rfl (by decide) (lj_case16 s16 hok hk hL h0 hi1 hrel next)
    by_cases c17 : cb_w (lj_x X (cb_w i).toNat % 32) = 17
    · exact lj_tabIn (tgt := 621) hok 17 c17 dL_law_32 (by decide) (by decide) rfl (by decide) (lj_case17 s17 hok hk hL h0 hi1 hrel next)
    by_cases c18 : cb_w (lj_x X (cb_w i).toNat % 32) = 18
    · exact lj_tabIn (tgt := 634) hok 18 c18 dL_law_32 (by decide) (by decide) rfl (by decide) (lj_case18 s18 hok hk hL h0 hi1 hrel next)
    by_cases c19 : cb_w (lj_x X (cb_w i).toNat % 32) = 19
    · exact lj_tabIn (tgt := 657) hok 19 c19 dL_law_32 (by decide) (by decide) rfl (by decide) (lj_case19 s19 hok hk hL h0 hi1 hrel next)
    by_cases c20 : cb_w (lj_x X (cb_w i).toNat % 32) = 20
    · exact lj_tabIn (tgt := 690) hok 20 c20 dL_law_32 (by decide) (by decide) rfl (by decide) (lj_case20 s20 hok hk hL h0 hi1 hrel next)
    exact lj_tabOut (tgt := 703) hok dL_law_32 (by omega) (by decide) (next _ _ hrel)

