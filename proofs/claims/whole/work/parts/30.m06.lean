/-! CaretBench strike(III)I -/
def f_X8_strike_b22 (x1 x2 x3 : Int) (g : cb_S) : Option (Int × cb_S) := cb_b (f_X0_settle g x1 x3) (fun r1 g1 => some (x2 - x1, g1))
set_option maxRecDepth 100000 in
theorem J_X8_strike_b22 {O : cb_O} {M : cb_M} (hJ : cb_J O skC) (hok : cb_ok O skC M cX8_strike 4 RX8 (some .int)) : ∀ (x1 x2 x3 : Int) (g : cb_S), cb_j O skC false rm_X8_strike M 4 22 [some (.inr 0), some (.inl x1), some (.inl x2), some (.inl x3)] [] g (f_X8_strike_b22 x1 x2 x3 g) := by
  intro x1 x2 x3 g
  show cb_j _ _ _ _ _ _ _ _ _ _ (cb_b (f_X0_settle g x1 x3) (fun r1 g1 => some (x2 - x1, g1)))
  refine cb_aload_n hok dX8_strike_22 rfl ?_
  refine cb_gr hok dX8_strike_23 fl_RX8_42 skC_b0 skC_c0 rfl ?_
  refine cb_iload_n hok dX8_strike_26 rfl ?_
  refine cb_iload_n hok dX8_strike_27 rfl ?_
  refine cb_cvv (as := [.inl x1, .inl x3]) (rest := []) hok lk_RX8_97 (by decide) (by decide) dX8_strike_28 (fun q1 hq1 => C_X0_settle hJ _ _ _ q1 hq1) rfl rfl (Nat.le_of_ble_eq_true rfl) skC_b5 skC_c5 rfl (fun r1 g1 => ?_)
  refine cb_iload_n hok dX8_strike_31 rfl ?_
  refine cb_iload_n hok dX8_strike_32 rfl ?_
  refine cb_isub hok dX8_strike_33 ?_
  exact cb_iret hok dX8_strike_34
def f_X8_strike (g : cb_S) (x1 : Int) (x2 : Int) (x3 : Int) : Option (Int × cb_S) := if cb_w x2 ≤ cb_w x1 then (f_X8_strike_b22  x1 x2 x3 g) else (cb_b (f_X8_keepForUndo g ) (fun r1 g1 => cb_b (f_X3_remove g1 x1 x2) (fun r2 g2 => cb_b (f_X8_layOut g2 ) (fun r3 g3 => f_X8_strike_b22  x1 x2 x3 g3))))
set_option maxRecDepth 100000 in
theorem C_X8_strike {O : cb_O} (hJ : cb_J O skC) (x1 : Int) (x2 : Int) (x3 : Int) (g : cb_S) : ∀ q, f_X8_strike g x1 x2 x3 = some q → cb_m O skC false yX8_strike cX8_strike 4 (some .int) rm_X8_strike [.inr 0, .inl x1, .inl x2, .inl x3] g q := by
  intro q hq
  refine cb_of_body hJ (by decide) (Nat.le_of_ble_eq_true rfl) hq (fun M hok => ?_)
  show cb_j _ _ _ _ _ _ _ [some (.inr 0), some (.inl x1), some (.inl x2), some (.inl x3)] _ _ (if cb_w x2 ≤ cb_w x1 then (f_X8_strike_b22  x1 x2 x3 g) else (cb_b (f_X8_keepForUndo g ) (fun r1 g1 => cb_b (f_X3_remove g1 x1 x2) (fun r2 g2 => cb_b (f_X8_layOut g2 ) (fun r3 g3 => f_X8_strike_b22  x1 x2 x3 g3)))))
  refine cb_iload_n hok dX8_strike_0 rfl ?_
  refine cb_iload_n hok dX8_strike_1 rfl ?_
  refine cb_icge (tgt := 22) hok rfl rfl dX8_strike_2 (by decide) (fun _ => ?_) (fun _ => ?_)
  · refine cb_fewer (ls' := [some (.inr 0), some (.inl x1), some (.inl x2), some (.inl x3)]) ⟨rfl, ⟨rfl, ⟨rfl, ⟨rfl, trivial⟩⟩⟩⟩ ?_
    exact J_X8_strike_b22 hJ hok  _ _ _ _
  · refine cb_aload_n hok dX8_strike_5 rfl ?_
    refine cb_cvv (as := []) (rest := []) hok lk_RX8_84 (by decide) (by decide) dX8_strike_6 (fun q1 hq1 => C_X8_keepForUndo hJ _ q1 hq1) rfl rfl (Nat.le_of_ble_eq_true rfl) skC_b0 skC_c0 rfl (fun r1 g1 => ?_)
    refine cb_aload_n hok dX8_strike_9 rfl ?_
    refine cb_gr hok dX8_strike_10 fl_RX8_10 skC_b0 skC_c0 rfl ?_
    refine cb_iload_n hok dX8_strike_13 rfl ?_
    refine cb_iload_n hok dX8_strike_14 rfl ?_
    refine cb_cvv (as := [.inl x1, .inl x2]) (rest := []) hok lk_RX8_259 (by decide) (by decide) dX8_strike_15 (fun q1 hq1 => C_X3_remove hJ _ _ _ q1 hq1) rfl rfl (Nat.le_of_ble_eq_true rfl) skC_b1 skC_c1 rfl (fun r2 g2 => ?_)
    refine cb_aload_n hok dX8_strike_18 rfl ?_
    refine cb_cvv (as := []) (rest := []) hok lk_RX8_60 (by decide) (by decide) dX8_strike_19 (fun q1 hq1 => C_X8_layOut hJ _ q1 hq1) rfl rfl (Nat.le_of_ble_eq_true rfl) skC_b0 skC_c0 rfl (fun r3 g3 => ?_)
    refine cb_fewer (ls' := [some (.inr 0), some (.inl x1), some (.inl x2), some (.inl x3)]) ⟨rfl, ⟨rfl, ⟨rfl, ⟨rfl, trivial⟩⟩⟩⟩ ?_
    exact J_X8_strike_b22 hJ hok  _ _ _ _
/-! CaretBench clear()I -/
def f_X8_clear (g : cb_S) : Option (Int × cb_S) := (v_X3_length g ).bind (fun r1 => cb_b (f_X8_strike g 0 r1 0) (fun r2 g2 => some (r2, g2)))
set_option maxRecDepth 100000 in
theorem C_X8_clear {O : cb_O} (hJ : cb_J O skC) (g : cb_S) : ∀ q, f_X8_clear g = some q → cb_m O skC false yX8_clear cX8_clear 1 (some .int) rm_X8_clear [.inr 0] g q := by
  intro q hq
  refine cb_of_body hJ (by decide) (Nat.le_of_ble_eq_true rfl) hq (fun M hok => ?_)
  show cb_j _ _ _ _ _ _ _ [some (.inr 0)] _ _ ((v_X3_length g ).bind (fun r1 => cb_b (f_X8_strike g 0 r1 0) (fun r2 g2 => some (r2, g2))))
  refine cb_aload_n hok dX8_clear_0 rfl ?_
  refine cb_iconst hok dX8_clear_1 ?_
  refine cb_aload_n hok dX8_clear_2 rfl ?_
  refine cb_gr hok dX8_clear_3 fl_RX8_10 skC_b0 skC_c0 rfl ?_
  refine cb_cvr (as := []) (rest := [.inl 0, .inr 0]) hok lk_RX8_101 (by decide) (by decide) dX8_clear_6 (fun q1 hq1 => C_X3_length hJ _ q1 hq1) rfl rfl (Nat.le_of_ble_eq_true rfl) skC_b1 skC_c1 rfl (fun r1 => ?_)
  refine cb_iconst hok dX8_clear_9 ?_
  refine cb_cvi (as := [.inl 0, .inl r1, .inl 0]) (rest := []) hok lk_RX8_104 (by decide) (by decide) dX8_clear_10 (fun q1 hq1 => C_X8_strike hJ _ _ _ _ q1 hq1) rfl rfl (Nat.le_of_ble_eq_true rfl) skC_b0 skC_c0 rfl (fun r2 g2 => ?_)
  exact cb_iret hok dX8_clear_13
/-! CaretBench count(I)I -/
def v_X8_count (g : cb_S) (x1 : Int) : Option Int := if cb_w x1 = 0 then ((v_X3_length g ).bind (fun r1 => some r1)) else (if cb_w x1 = 1 then ((v_X1_number g ).bind (fun r2 => some r2)) else (if cb_w x1 = 2 then ((v_X1_standNumber g ).bind (fun r3 => some r3)) else (if cb_w x1 = 3 then ((v_X6_width g ).bind (fun r4 => some r4)) else (if cb_w x1 = 4 then ((v_X5_numberWithSigns g ).bind (fun r5 => some r5)) else (if cb_w x1 = 5 then ((v_X5_highest g ).bind (fun r6 => some r6)) else (some (-1)))))))
set_option maxRecDepth 100000 in
theorem C_X8_count {O : cb_O} (hJ : cb_J O skC) (x1 : Int) (g : cb_S) : ∀ q, v_X8_count g x1 = some q → cb_m O skC false yX8_count cX8_count 2 (some .int) rm_X8_count [.inr 0, .inl x1] g (q, g) := by
  intro q hq
  refine cr_of_body hJ (by decide) (Nat.le_of_ble_eq_true rfl) hq (fun M hok => ?_)
  show cb_jr _ _ _ _ _ _ [some (.inr 0), some (.inl x1)] _ _ (if cb_w x1 = 0 then ((v_X3_length g ).bind (fun r1 => some r1)) else (if cb_w x1 = 1 then ((v_X1_number g ).bind (fun r2 => some r2)) else (if cb_w x1 = 2 then ((v_X1_standNumber g ).bind (fun r3 => some r3)) else (if cb_w x1 = 3 then ((v_X6_width g ).bind (fun r4 => some r4)) else (if cb_w x1 = 4 then ((v_X5_numberWithSigns g ).bind (fun r5 => some r5)) else (if cb_w x1 = 5 then ((v_X5_highest g ).bind (fun r6 => some r6)) else (some (-1))))))))
  refine cr_iload_n hok dX8_count_0 rfl ?_
  refine cr_ite (fun hs1 => ?_) (fun hs1 => ?_)
  · refine cr_tabIn (tgt := 40) hok (0) hs1 dX8_count_1 (by decide) (by decide) rfl (by decide) ?_
    refine cr_aload_n hok dX8_count_40 rfl ?_
    refine cr_gr hok dX8_count_41 fl_RX8_10 skC_b0 skC_c0 rfl ?_
    refine cr_cvr (as := []) (rest := []) hok lk_RX8_101 (by decide) (by decide) dX8_count_44 (fun q1 hq1 => C_X3_length hJ _ q1 hq1) rfl rfl (Nat.le_of_ble_eq_true rfl) skC_b1 skC_c1 rfl (fun r1 => ?_)
    exact cr_iret hok dX8_count_47
  refine cr_ite (fun hs2 => ?_) (fun hs2 => ?_)
  · refine cr_tabIn (tgt := 48) hok (1) hs2 dX8_count_1 (by decide) (by decide) rfl (by decide) ?_
    refine cr_aload_n hok dX8_count_48 rfl ?_
    refine cr_gr hok dX8_count_49 fl_RX8_19 skC_b0 skC_c0 rfl ?_
    refine cr_cvr (as := []) (rest := []) hok lk_RX8_108 (by decide) (by decide) dX8_count_52 (fun q1 hq1 => C_X1_number hJ _ q1 hq1) rfl rfl (Nat.le_of_ble_eq_true rfl) skC_b2 skC_c2 rfl (fun r2 => ?_)
    exact cr_iret hok dX8_count_55
  refine cr_ite (fun hs3 => ?_) (fun hs3 => ?_)
  · refine cr_tabIn (tgt := 56) hok (2) hs3 dX8_count_1 (by decide) (by decide) rfl (by decide) ?_
    refine cr_aload_n hok dX8_count_56 rfl ?_
    refine cr_gr hok dX8_count_57 fl_RX8_19 skC_b0 skC_c0 rfl ?_
    refine cr_cvr (as := []) (rest := []) hok lk_RX8_111 (by decide) (by decide) dX8_count_60 (fun q1 hq1 => C_X1_standNumber hJ _ q1 hq1) rfl rfl (Nat.le_of_ble_eq_true rfl) skC_b2 skC_c2 rfl (fun r3 => ?_)
    exact cr_iret hok dX8_count_63
  refine cr_ite (fun hs4 => ?_) (fun hs4 => ?_)
  · refine cr_tabIn (tgt := 64) hok (3) hs4 dX8_count_1 (by decide) (by decide) rfl (by decide) ?_
    refine cr_aload_n hok dX8_count_64 rfl ?_
    refine cr_gr hok dX8_count_65 fl_RX8_33 skC_b0 skC_c0 rfl ?_
    refine cr_cvr (as := []) (rest := []) hok lk_RX8_114 (by decide) (by decide) dX8_count_68 (fun q1 hq1 => C_X6_width hJ _ q1 hq1) rfl rfl (Nat.le_of_ble_eq_true rfl) skC_b4 skC_c4 rfl (fun r4 => ?_)
    exact cr_iret hok dX8_count_71
  refine cr_ite (fun hs5 => ?_) (fun hs5 => ?_)
  · refine cr_tabIn (tgt := 72) hok (4) hs5 dX8_count_1 (by decide) (by decide) rfl (by decide) ?_
    refine cr_aload_n hok dX8_count_72 rfl ?_
    refine cr_gr hok dX8_count_73 fl_RX8_26 skC_b0 skC_c0 rfl ?_
    refine cr_cvr (as := []) (rest := []) hok lk_RX8_117 (by decide) (by decide) dX8_count_76 (fun q1 hq1 => C_X5_numberWithSigns hJ _ q1 hq1) rfl rfl (Nat.le_of_ble_eq_true rfl) skC_b3 skC_c3 rfl (fun r5 => ?_)
    exact cr_iret hok dX8_count_79
  refine cr_ite (fun hs6 => ?_) (fun hs6 => ?_)
  · refine cr_tabIn (tgt := 80) hok (5) hs6 dX8_count_1 (by decide) (by decide) rfl (by decide) ?_
    refine cr_aload_n hok dX8_count_80 rfl ?_
    refine cr_gr hok dX8_count_81 fl_RX8_26 skC_b0 skC_c0 rfl ?_
    refine cr_cvr (as := []) (rest := []) hok lk_RX8_120 (by decide) (by decide) dX8_count_84 (fun q1 hq1 => C_X5_highest hJ _ q1 hq1) rfl rfl (Nat.le_of_ble_eq_true rfl) skC_b3 skC_c3 rfl (fun r6 => ?_)
    exact cr_iret hok dX8_count_87
  refine cr_tabOut (tgt := 88) hok dX8_count_1 (by omega) (by decide) ?_
  refine cr_iconst hok dX8_count_88 ?_
  exact cr_iret hok dX8_count_89
/-! CaretBench sign(I)I -/
def v_X8_sign (g : cb_S) (x1 : Int) : Option Int := (v_X3_at g x1).bind (fun r1 => some r1)
set_option maxRecDepth 100000 in
theorem C_X8_sign {O : cb_O} (hJ : cb_J O skC) (x1 : Int) (g : cb_S) : ∀ q, v_X8_sign g x1 = some q → cb_m O skC false yX8_sign cX8_sign 2 (some .int) rm_X8_sign [.inr 0, .inl x1] g (q, g) := by
  intro q hq
  refine cr_of_body hJ (by decide) (Nat.le_of_ble_eq_true rfl) hq (fun M hok => ?_)
  show cb_jr _ _ _ _ _ _ [some (.inr 0), some (.inl x1)] _ _ ((v_X3_at g x1).bind (fun r1 => some r1))
  refine cr_aload_n hok dX8_sign_0 rfl ?_
  refine cr_gr hok dX8_sign_1 fl_RX8_10 skC_b0 skC_c0 rfl ?_
  refine cr_iload_n hok dX8_sign_4 rfl ?_
  refine cr_cvr (as := [.inl x1]) (rest := []) hok lk_RX8_123 (by decide) (by decide) dX8_sign_5 (fun q1 hq1 => C_X3_at hJ _ _ q1 hq1) rfl rfl (Nat.le_of_ble_eq_true rfl) skC_b1 skC_c1 rfl (fun r1 => ?_)
  exact cr_iret hok dX8_sign_8
/-! CaretBench level(I)I -/
def v_X8_level (g : cb_S) (x1 : Int) : Option Int := (v_X3_has g x1).bind (fun r1 => if cb_w r1 = 0 then (some (-1)) else ((v_X5_levelOf g x1).bind (fun r2 => some r2)))
set_option maxRecDepth 100000 in
theorem C_X8_level {O : cb_O} (hJ : cb_J O skC) (x1 : Int) (g : cb_S) : ∀ q, v_X8_level g x1 = some q → cb_m O skC false yX8_level cX8_level 2 (some .int) rm_X8_level [.inr 0, .inl x1] g (q, g) := by
  intro q hq
  refine cr_of_body hJ (by decide) (Nat.le_of_ble_eq_true rfl) hq (fun M hok => ?_)
  show cb_jr _ _ _ _ _ _ [some (.inr 0), some (.inl x1)] _ _ ((v_X3_has g x1).bind (fun r1 => if cb_w r1 = 0 then (some (-1)) else ((v_X5_levelOf g x1).bind (fun r2 => some r2))))
  refine cr_aload_n hok dX8_level_0 rfl ?_
  refine cr_gr hok dX8_level_1 fl_RX8_10 skC_b0 skC_c0 rfl ?_
  refine cr_iload_n hok dX8_level_4 rfl ?_
  refine cr_cvr (as := [.inl x1]) (rest := []) hok lk_RX8_127 (by decide) (by decide) dX8_level_5 (fun q1 hq1 => C_X3_has hJ _ _ q1 hq1) rfl rfl (Nat.le_of_ble_eq_true rfl) skC_b1 skC_c1 rfl (fun r1 => ?_)
  refine cr_ifeq (tgt := 22) hok rfl dX8_level_8 (by decide) (fun _ => ?_) (fun _ => ?_)
  · refine cr_iconst hok dX8_level_22 ?_
    exact cr_iret hok dX8_level_23
  · refine cr_aload_n hok dX8_level_11 rfl ?_
    refine cr_gr hok dX8_level_12 fl_RX8_26 skC_b0 skC_c0 rfl ?_
    refine cr_iload_n hok dX8_level_15 rfl ?_
    refine cr_cvr (as := [.inl x1]) (rest := []) hok lk_RX8_130 (by decide) (by decide) dX8_level_16 (fun q1 hq1 => C_X5_levelOf hJ _ _ q1 hq1) rfl rfl (Nat.le_of_ble_eq_true rfl) skC_b3 skC_c3 rfl (fun r2 => ?_)
    refine cr_goto (tgt := 23) hok dX8_level_19 (by decide) ?_
    exact cr_iret hok dX8_level_23
/-! CaretBench cluster(II)I -/
def v_X8_cluster (g : cb_S) (x1 : Int) (x2 : Int) : Option Int := (v_X1_has g x1).bind (fun r1 => if cb_w r1 = 0 then (some (-1)) else (if cb_w x2 = 0 then ((v_X1_firstOf g x1).bind (fun r2 => some r2)) else (if cb_w x2 = 1 then ((v_X1_endOf g x1).bind (fun r3 => (v_X1_firstOf g x1).bind (fun r4 => some (r3 - r4)))) else (if cb_w x2 = 2 then ((v_X6_levelOf g x1).bind (fun r5 => some r5)) else (if cb_w x2 = 3 then ((v_X6_leftOf g x1).bind (fun r6 => some r6)) else (if cb_w x2 = 4 then ((v_X1_widthOf g x1).bind (fun r7 => some r7)) else (if cb_w x2 = 5 then ((v_X1_isJoined g x1).bind (fun r8 => if cb_w r8 = 0 then (some 0) else (some 1))) else (if cb_w x2 = 6 then ((v_X6_placeOf g x1).bind (fun r9 => some r9)) else (some (-1))))))))))
set_option maxRecDepth 100000 in
theorem C_X8_cluster {O : cb_O} (hJ : cb_J O skC) (x1 : Int) (x2 : Int) (g : cb_S) : ∀ q, v_X8_cluster g x1 x2 = some q → cb_m O skC false yX8_cluster cX8_cluster 3 (some .int) rm_X8_cluster [.inr 0, .inl x1, .inl x2] g (q, g) := by
  intro q hq
  refine cr_of_body hJ (by decide) (Nat.le_of_ble_eq_true rfl) hq (fun M hok => ?_)
  show cb_jr _ _ _ _ _ _ [some (.inr 0), some (.inl x1), some (.inl x2)] _ _ ((v_X1_has g x1).bind (fun r1 => if cb_w r1 = 0 then (some (-1)) else (if cb_w x2 = 0 then ((v_X1_firstOf g x1).bind (fun r2 => some r2)) else (if cb_w x2 = 1 then ((v_X1_endOf g x1).bind (fun r3 => (v_X1_firstOf g x1).bind (fun r4 => some (r3 - r4)))) else (if cb_w x2 = 2 then ((v_X6_levelOf g x1).bind (fun r5 => some r5)) else (if cb_w x2 = 3 then ((v_X6_leftOf g x1).bind (fun r6 => some r6)) else (if cb_w x2 = 4 then ((v_X1_widthOf g x1).bind (fun r7 => some r7)) else (if cb_w x2 = 5 then ((v_X1_isJoined g x1).bind (fun r8 => if cb_w r8 = 0 then (some 0) else (some 1))) else (if cb_w x2 = 6 then ((v_X6_placeOf g x1).bind (fun r9 => some r9)) else (some (-1)))))))))))
  refine cr_aload_n hok dX8_cluster_0 rfl ?_
  refine cr_gr hok dX8_cluster_1 fl_RX8_19 skC_b0 skC_c0 rfl ?_
  refine cr_iload_n hok dX8_cluster_4 rfl ?_
  refine cr_cvr (as := [.inl x1]) (rest := []) hok lk_RX8_133 (by decide) (by decide) dX8_cluster_5 (fun q1 hq1 => C_X1_has hJ _ _ q1 hq1) rfl rfl (Nat.le_of_ble_eq_true rfl) skC_b2 skC_c2 rfl (fun r1 => ?_)
  refine cr_ifne (tgt := 13) hok rfl dX8_cluster_8 (by decide) (fun _ => ?_) (fun _ => ?_)
  · refine cr_iload_n hok dX8_cluster_13 rfl ?_
    refine cr_ite (fun hs1 => ?_) (fun hs1 => ?_)
    · refine cr_tabIn (tgt := 56) hok (0) hs1 dX8_cluster_14 (by decide) (by decide) rfl (by decide) ?_
      refine cr_aload_n hok dX8_cluster_56 rfl ?_
      refine cr_gr hok dX8_cluster_57 fl_RX8_19 skC_b0 skC_c0 rfl ?_
      refine cr_iload_n hok dX8_cluster_60 rfl ?_
      refine cr_cvr (as := [.inl x1]) (rest := []) hok lk_RX8_134 (by decide) (by decide) dX8_cluster_61 (fun q1 hq1 => C_X1_firstOf hJ _ _ q1 hq1) rfl rfl (Nat.le_of_ble_eq_true rfl) skC_b2 skC_c2 rfl (fun r2 => ?_)
      exact cr_iret hok dX8_cluster_64
    refine cr_ite (fun hs2 => ?_) (fun hs2 => ?_)
    · refine cr_tabIn (tgt := 65) hok (1) hs2 dX8_cluster_14 (by decide) (by decide) rfl (by decide) ?_
      refine cr_aload_n hok dX8_cluster_65 rfl ?_
      refine cr_gr hok dX8_cluster_66 fl_RX8_19 skC_b0 skC_c0 rfl ?_
      refine cr_iload_n hok dX8_cluster_69 rfl ?_
      refine cr_cvr (as := [.inl x1]) (rest := []) hok lk_RX8_137 (by decide) (by decide) dX8_cluster_70 (fun q1 hq1 => C_X1_endOf hJ _ _ q1 hq1) rfl rfl (Nat.le_of_ble_eq_true rfl) skC_b2 skC_c2 rfl (fun r3 => ?_)
      refine cr_aload_n hok dX8_cluster_73 rfl ?_
      refine cr_gr hok dX8_cluster_74 fl_RX8_19 skC_b0 skC_c0 rfl ?_
      refine cr_iload_n hok dX8_cluster_77 rfl ?_
      refine cr_cvr (as := [.inl x1]) (rest := [.inl r3]) hok lk_RX8_134 (by decide) (by decide) dX8_cluster_78 (fun q1 hq1 => C_X1_firstOf hJ _ _ q1 hq1) rfl rfl (Nat.le_of_ble_eq_true rfl) skC_b2 skC_c2 rfl (fun r4 => ?_)
      refine cr_isub hok dX8_cluster_81 ?_
      exact cr_iret hok dX8_cluster_82
    refine cr_ite (fun hs3 => ?_) (fun hs3 => ?_)
    · refine cr_tabIn (tgt := 83) hok (2) hs3 dX8_cluster_14 (by decide) (by decide) rfl (by decide) ?_
      refine cr_aload_n hok dX8_cluster_83 rfl ?_
      refine cr_gr hok dX8_cluster_84 fl_RX8_33 skC_b0 skC_c0 rfl ?_
      refine cr_iload_n hok dX8_cluster_87 rfl ?_
      refine cr_cvr (as := [.inl x1]) (rest := []) hok lk_RX8_140 (by decide) (by decide) dX8_cluster_88 (fun q1 hq1 => C_X6_levelOf hJ _ _ q1 hq1) rfl rfl (Nat.le_of_ble_eq_true rfl) skC_b4 skC_c4 rfl (fun r5 => ?_)
      exact cr_iret hok dX8_cluster_91
    refine cr_ite (fun hs4 => ?_) (fun hs4 => ?_)
    · refine cr_tabIn (tgt := 92) hok (3) hs4 dX8_cluster_14 (by decide) (by decide) rfl (by decide) ?_
      refine cr_aload_n hok dX8_cluster_92 rfl ?_
      refine cr_gr hok dX8_cluster_93 fl_RX8_33 skC_b0 skC_c0 rfl ?_
      refine cr_iload_n hok dX8_cluster_96 rfl ?_
      refine cr_cvr (as := [.inl x1]) (rest := []) hok lk_RX8_141 (by decide) (by decide) dX8_cluster_97 (fun q1 hq1 => C_X6_leftOf hJ _ _ q1 hq1) rfl rfl (Nat.le_of_ble_eq_true rfl) skC_b4 skC_c4 rfl (fun r6 => ?_)
      exact cr_iret hok dX8_cluster_100
    refine cr_ite (fun hs5 => ?_) (fun hs5 => ?_)
    · refine cr_tabIn (tgt := 101) hok (4) hs5 dX8_cluster_14 (by decide) (by decide) rfl (by decide) ?_
      refine cr_aload_n hok dX8_cluster_101 rfl ?_
      refine cr_gr hok dX8_cluster_102 fl_RX8_19 skC_b0 skC_c0 rfl ?_
      refine cr_iload_n hok dX8_cluster_105 rfl ?_
      refine cr_cvr (as := [.inl x1]) (rest := []) hok lk_RX8_144 (by decide) (by decide) dX8_cluster_106 (fun q1 hq1 => C_X1_widthOf hJ _ _ q1 hq1) rfl rfl (Nat.le_of_ble_eq_true rfl) skC_b2 skC_c2 rfl (fun r7 => ?_)
      exact cr_iret hok dX8_cluster_109
    refine cr_ite (fun hs6 => ?_) (fun hs6 => ?_)
    · refine cr_tabIn (tgt := 110) hok (5) hs6 dX8_cluster_14 (by decide) (by decide) rfl (by decide) ?_
      refine cr_aload_n hok dX8_cluster_110 rfl ?_
      refine cr_gr hok dX8_cluster_111 fl_RX8_19 skC_b0 skC_c0 rfl ?_
      refine cr_iload_n hok dX8_cluster_114 rfl ?_
      refine cr_cvr (as := [.inl x1]) (rest := []) hok lk_RX8_147 (by decide) (by decide) dX8_cluster_115 (fun q1 hq1 => C_X1_isJoined hJ _ _ q1 hq1) rfl rfl (Nat.le_of_ble_eq_true rfl) skC_b2 skC_c2 rfl (fun r8 => ?_)
      refine cr_ifeq (tgt := 125) hok rfl dX8_cluster_118 (by decide) (fun _ => ?_) (fun _ => ?_)
      · refine cr_iconst hok dX8_cluster_125 ?_
        exact cr_iret hok dX8_cluster_126
      · refine cr_iconst hok dX8_cluster_121 ?_
        refine cr_goto (tgt := 126) hok dX8_cluster_122 (by decide) ?_
        exact cr_iret hok dX8_cluster_126
    refine cr_ite (fun hs7 => ?_) (fun hs7 => ?_)
    · refine cr_tabIn (tgt := 127) hok (6) hs7 dX8_cluster_14 (by decide) (by decide) rfl (by decide) ?_
      refine cr_aload_n hok dX8_cluster_127 rfl ?_
      refine cr_gr hok dX8_cluster_128 fl_RX8_33 skC_b0 skC_c0 rfl ?_
      refine cr_iload_n hok dX8_cluster_131 rfl ?_
      refine cr_cvr (as := [.inl x1]) (rest := []) hok lk_RX8_150 (by decide) (by decide) dX8_cluster_132 (fun q1 hq1 => C_X6_placeOf hJ _ _ q1 hq1) rfl rfl (Nat.le_of_ble_eq_true rfl) skC_b4 skC_c4 rfl (fun r9 => ?_)
      exact cr_iret hok dX8_cluster_135
    refine cr_tabOut (tgt := 136) hok dX8_cluster_14 (by omega) (by decide) ?_
    refine cr_iconst hok dX8_cluster_136 ?_
    exact cr_iret hok dX8_cluster_137
  · refine cr_iconst hok dX8_cluster_11 ?_
    exact cr_iret hok dX8_cluster_12
/-! CaretBench seen(I)I -/
def v_X8_seen (g : cb_S) (x1 : Int) : Option Int := (v_X6_clusterAtPlace g x1).bind (fun r1 => if cb_w r1 = (-1) then (some (-1)) else ((v_X1_firstOf g r1).bind (fun r2 => (v_X3_at g r2).bind (fun r3 => (v_X6_levelOf g r1).bind (fun r4 => (v_X8_isEven g r4).bind (fun r5 => if cb_w r5 = 0 then ((v_X7_mateOf g r3).bind (fun r6 => some r6)) else (some r3)))))))
set_option maxRecDepth 100000 in
theorem C_X8_seen {O : cb_O} (hJ : cb_J O skC) (x1 : Int) (g : cb_S) : ∀ q, v_X8_seen g x1 = some q → cb_m O skC false yX8_seen cX8_seen 4 (some .int) rm_X8_seen [.inr 0, .inl x1] g (q, g) := by
  intro q hq
  refine cr_of_body hJ (by decide) (Nat.le_of_ble_eq_true rfl) hq (fun M hok => ?_)
  show cb_jr _ _ _ _ _ _ [some (.inr 0), some (.inl x1), none, none] _ _ ((v_X6_clusterAtPlace g x1).bind (fun r1 => if cb_w r1 = (-1) then (some (-1)) else ((v_X1_firstOf g r1).bind (fun r2 => (v_X3_at g r2).bind (fun r3 => (v_X6_levelOf g r1).bind (fun r4 => (v_X8_isEven g r4).bind (fun r5 => if cb_w r5 = 0 then ((v_X7_mateOf g r3).bind (fun r6 => some r6)) else (some r3))))))))
  refine cr_aload_n hok dX8_seen_0 rfl ?_
  refine cr_gr hok dX8_seen_1 fl_RX8_33 skC_b0 skC_c0 rfl ?_
  refine cr_iload_n hok dX8_seen_4 rfl ?_
  refine cr_cvr (as := [.inl x1]) (rest := []) hok lk_RX8_153 (by decide) (by decide) dX8_seen_5 (fun q1 hq1 => C_X6_clusterAtPlace hJ _ _ q1 hq1) rfl rfl (Nat.le_of_ble_eq_true rfl) skC_b4 skC_c4 rfl (fun r1 => ?_)
  refine cr_istore_n (ls' := [some (.inr 0), some (.inl x1), some (.inl r1), none]) hok dX8_seen_8 (by decide) rfl ?_
  refine cr_iload_n hok dX8_seen_9 rfl ?_
  refine cr_iconst hok dX8_seen_10 ?_
  refine cr_icne (tgt := 16) hok rfl (by decide) dX8_seen_11 (by decide) (fun _ => ?_) (fun _ => ?_)
  · refine cr_aload_n hok dX8_seen_16 rfl ?_
    refine cr_gr hok dX8_seen_17 fl_RX8_10 skC_b0 skC_c0 rfl ?_
    refine cr_aload_n hok dX8_seen_20 rfl ?_
    refine cr_gr hok dX8_seen_21 fl_RX8_19 skC_b0 skC_c0 rfl ?_
    refine cr_iload_n hok dX8_seen_24 rfl ?_
    refine cr_cvr (as := [.inl r1]) (rest := [.inr 1]) hok lk_RX8_134 (by decide) (by decide) dX8_seen_25 (fun q1 hq1 => C_X1_firstOf hJ _ _ q1 hq1) rfl rfl (Nat.le_of_ble_eq_true rfl) skC_b2 skC_c2 rfl (fun r2 => ?_)
    refine cr_cvr (as := [.inl r2]) (rest := []) hok lk_RX8_123 (by decide) (by decide) dX8_seen_28 (fun q1 hq1 => C_X3_at hJ _ _ q1 hq1) rfl rfl (Nat.le_of_ble_eq_true rfl) skC_b1 skC_c1 rfl (fun r3 => ?_)
    refine cr_istore_n (ls' := [some (.inr 0), some (.inl x1), some (.inl r1), some (.inl r3)]) hok dX8_seen_31 (by decide) rfl ?_
    refine cr_aload_n hok dX8_seen_32 rfl ?_
    refine cr_gr hok dX8_seen_33 fl_RX8_33 skC_b0 skC_c0 rfl ?_
    refine cr_iload_n hok dX8_seen_36 rfl ?_
    refine cr_cvr (as := [.inl r1]) (rest := []) hok lk_RX8_140 (by decide) (by decide) dX8_seen_37 (fun q1 hq1 => C_X6_levelOf hJ _ _ q1 hq1) rfl rfl (Nat.le_of_ble_eq_true rfl) skC_b4 skC_c4 rfl (fun r4 => ?_)
    refine cr_csr (as := [.inl r4]) (rest := []) hok lk_RX8_156 (by decide) (by decide) dX8_seen_40 (fun q1 hq1 => C_X8_isEven hJ _ _ q1 hq1) rfl rfl (Nat.le_of_ble_eq_true rfl) (fun r5 => ?_)
    refine cr_ifeq (tgt := 50) hok rfl dX8_seen_43 (by decide) (fun _ => ?_) (fun _ => ?_)
    · refine cr_iload_n hok dX8_seen_50 rfl ?_
      refine cr_csr (as := [.inl r3]) (rest := []) hok lk_RX8_159 (by decide) (by decide) dX8_seen_51 (fun q1 hq1 => C_X7_mateOf hJ _ _ q1 hq1) rfl rfl (Nat.le_of_ble_eq_true rfl) (fun r6 => ?_)
      exact cr_iret hok dX8_seen_54
    · refine cr_iload_n hok dX8_seen_46 rfl ?_
      refine cr_goto (tgt := 54) hok dX8_seen_47 (by decide) ?_
      exact cr_iret hok dX8_seen_54
  · refine cr_iconst hok dX8_seen_14 ?_
    exact cr_iret hok dX8_seen_15
/-! CaretBench caret(I)I -/
def v_X8_caret (g : cb_S) (x1 : Int) : Option Int := if cb_w x1 = 0 then ((v_X0_stand g ).bind (fun r1 => some r1)) else (if cb_w x1 = 1 then ((v_X0_side g ).bind (fun r2 => some r2)) else (if cb_w x1 = 2 then ((v_X0_x g ).bind (fun r3 => some r3)) else (some (-1))))
set_option maxRecDepth 100000 in
theorem C_X8_caret {O : cb_O} (hJ : cb_J O skC) (x1 : Int) (g : cb_S) : ∀ q, v_X8_caret g x1 = some q → cb_m O skC false yX8_caret cX8_caret 2 (some .int) rm_X8_caret [.inr 0, .inl x1] g (q, g) := by
  intro q hq
  refine cr_of_body hJ (by decide) (Nat.le_of_ble_eq_true rfl) hq (fun M hok => ?_)
  show cb_jr _ _ _ _ _ _ [some (.inr 0), some (.inl x1)] _ _ (if cb_w x1 = 0 then ((v_X0_stand g ).bind (fun r1 => some r1)) else (if cb_w x1 = 1 then ((v_X0_side g ).bind (fun r2 => some r2)) else (if cb_w x1 = 2 then ((v_X0_x g ).bind (fun r3 => some r3)) else (some (-1)))))
  refine cr_iload_n hok dX8_caret_0 rfl ?_
  refine cr_ite (fun hs1 => ?_) (fun hs1 => ?_)
  · refine cr_tabIn (tgt := 28) hok (0) hs1 dX8_caret_1 (by decide) (by decide) rfl (by decide) ?_
    refine cr_aload_n hok dX8_caret_28 rfl ?_
    refine cr_gr hok dX8_caret_29 fl_RX8_42 skC_b0 skC_c0 rfl ?_
    refine cr_cvr (as := []) (rest := []) hok lk_RX8_91 (by decide) (by decide) dX8_caret_32 (fun q1 hq1 => C_X0_stand hJ _ q1 hq1) rfl rfl (Nat.le_of_ble_eq_true rfl) skC_b5 skC_c5 rfl (fun r1 => ?_)
    exact cr_iret hok dX8_caret_35
  refine cr_ite (fun hs2 => ?_) (fun hs2 => ?_)
  · refine cr_tabIn (tgt := 36) hok (1) hs2 dX8_caret_1 (by decide) (by decide) rfl (by decide) ?_
    refine cr_aload_n hok dX8_caret_36 rfl ?_
    refine cr_gr hok dX8_caret_37 fl_RX8_42 skC_b0 skC_c0 rfl ?_
    refine cr_cvr (as := []) (rest := []) hok lk_RX8_94 (by decide) (by decide) dX8_caret_40 (fun q1 hq1 => C_X0_side hJ _ q1 hq1) rfl rfl (Nat.le_of_ble_eq_true rfl) skC_b5 skC_c5 rfl (fun r2 => ?_)
    exact cr_iret hok dX8_caret_43
  refine cr_ite (fun hs3 => ?_) (fun hs3 => ?_)
  · refine cr_tabIn (tgt := 44) hok (2) hs3 dX8_caret_1 (by decide) (by decide) rfl (by decide) ?_
    refine cr_aload_n hok dX8_caret_44 rfl ?_
    refine cr_gr hok dX8_caret_45 fl_RX8_42 skC_b0 skC_c0 rfl ?_
    refine cr_cvr (as := []) (rest := []) hok lk_RX8_162 (by decide) (by decide) dX8_caret_48 (fun q1 hq1 => C_X0_x hJ _ q1 hq1) rfl rfl (Nat.le_of_ble_eq_true rfl) skC_b5 skC_c5 rfl (fun r3 => ?_)
    exact cr_iret hok dX8_caret_51
  refine cr_tabOut (tgt := 52) hok dX8_caret_1 (by omega) (by decide) ?_
  refine cr_iconst hok dX8_caret_52 ?_
  exact cr_iret hok dX8_caret_53
/-! CaretBench go(II)Z -/
def f_X8_go_b26 (x1 x2 s0 : Int) (g : cb_S) : Option (Int × cb_S) := if cb_w s0 = 0 then (some (0, g)) else ((v_X1_isStand g x1).bind (fun r1 => if cb_w r1 = 0 then (some (0, g)) else (cb_b (f_X0_place g x1 x2) (fun r2 g2 => some (1, g2)))))
set_option maxRecDepth 100000 in
theorem J_X8_go_b26 {O : cb_O} {M : cb_M} (hJ : cb_J O skC) (hok : cb_ok O skC M cX8_go 4 RX8 (some .boolean)) : ∀ (x1 x2 s0 : Int) (g : cb_S), cb_j O skC false rm_X8_go M 4 26 [some (.inr 0), some (.inl x1), some (.inl x2), none] [.inl s0] g (f_X8_go_b26 x1 x2 s0 g) := by
  intro x1 x2 s0 g
  show cb_j _ _ _ _ _ _ _ _ _ _ (if cb_w s0 = 0 then (some (0, g)) else ((v_X1_isStand g x1).bind (fun r1 => if cb_w r1 = 0 then (some (0, g)) else (cb_b (f_X0_place g x1 x2) (fun r2 g2 => some (1, g2))))))
  refine cb_istore_n (ls' := [some (.inr 0), some (.inl x1), some (.inl x2), some (.inl s0)]) hok dX8_go_26 (by decide) rfl ?_
  refine cb_iload_n hok dX8_go_27 rfl ?_
  refine cb_ifeq (tgt := 42) hok rfl dX8_go_28 (by decide) (fun _ => ?_) (fun _ => ?_)
  · refine cb_iconst hok dX8_go_42 ?_
    exact cb_zret hok dX8_go_43 (by decide)
  · refine cb_aload_n hok dX8_go_31 rfl ?_
    refine cb_gr hok dX8_go_32 fl_RX8_19 skC_b0 skC_c0 rfl ?_
    refine cb_iload_n hok dX8_go_35 rfl ?_
    refine cb_cvr (as := [.inl x1]) (rest := []) hok lk_RX8_168 (by decide) (by decide) dX8_go_36 (fun q1 hq1 => C_X1_isStand hJ _ _ q1 hq1) rfl rfl (Nat.le_of_ble_eq_true rfl) skC_b2 skC_c2 rfl (fun r1 => ?_)
    refine cb_ifne (tgt := 44) hok rfl dX8_go_39 (by decide) (fun _ => ?_) (fun _ => ?_)
    · refine cb_aload_n hok dX8_go_44 rfl ?_
      refine cb_gr hok dX8_go_45 fl_RX8_42 skC_b0 skC_c0 rfl ?_
      refine cb_iload_n hok dX8_go_48 rfl ?_
      refine cb_iload_n hok dX8_go_49 rfl ?_
      refine cb_cvv (as := [.inl x1, .inl x2]) (rest := []) hok lk_RX8_171 (by decide) (by decide) dX8_go_50 (fun q1 hq1 => C_X0_place hJ _ _ _ q1 hq1) rfl rfl (Nat.le_of_ble_eq_true rfl) skC_b5 skC_c5 rfl (fun r2 g2 => ?_)
      refine cb_iconst hok dX8_go_53 ?_
      exact cb_zret hok dX8_go_54 (by decide)
    · refine cb_iconst hok dX8_go_42 ?_
      exact cb_zret hok dX8_go_43 (by decide)
def f_X8_go_b21 (x1 x2 : Int) (g : cb_S) : Option (Int × cb_S) := f_X8_go_b26  x1 x2 1 g
set_option maxRecDepth 100000 in
theorem J_X8_go_b21 {O : cb_O} {M : cb_M} (hJ : cb_J O skC) (hok : cb_ok O skC M cX8_go 4 RX8 (some .boolean)) : ∀ (x1 x2 : Int) (g : cb_S), cb_j O skC false rm_X8_go M 4 21 [some (.inr 0), some (.inl x1), some (.inl x2), none] [] g (f_X8_go_b21 x1 x2 g) := by
  intro x1 x2 g
  show cb_j _ _ _ _ _ _ _ _ _ _ (f_X8_go_b26  x1 x2 1 g)
  refine cb_iconst hok dX8_go_21 ?_
  refine cb_goto (tgt := 26) hok dX8_go_22 (by decide) ?_
  refine cb_fewer (ls' := [some (.inr 0), some (.inl x1), some (.inl x2), none]) ⟨rfl, ⟨rfl, ⟨rfl, trivial⟩⟩⟩ ?_
  exact J_X8_go_b26 hJ hok  _ _ _ _
def f_X8_go_b25 (x1 x2 : Int) (g : cb_S) : Option (Int × cb_S) := f_X8_go_b26  x1 x2 0 g
set_option maxRecDepth 100000 in
theorem J_X8_go_b25 {O : cb_O} {M : cb_M} (hJ : cb_J O skC) (hok : cb_ok O skC M cX8_go 4 RX8 (some .boolean)) : ∀ (x1 x2 : Int) (g : cb_S), cb_j O skC false rm_X8_go M 4 25 [some (.inr 0), some (.inl x1), some (.inl x2), none] [] g (f_X8_go_b25 x1 x2 g) := by
  intro x1 x2 g
  show cb_j _ _ _ _ _ _ _ _ _ _ (f_X8_go_b26  x1 x2 0 g)
  refine cb_iconst hok dX8_go_25 ?_
  refine cb_fewer (ls' := [some (.inr 0), some (.inl x1), some (.inl x2), none]) ⟨rfl, ⟨rfl, ⟨rfl, trivial⟩⟩⟩ ?_
  exact J_X8_go_b26 hJ hok  _ _ _ _
def f_X8_go (g : cb_S) (x1 : Int) (x2 : Int) : Option (Int × cb_S) := if cb_w x2 = 0 then (f_X8_go_b21  x1 x2 g) else (if cb_w x2 = 1 then ((v_X1_joinedAround g x1).bind (fun r1 => if cb_w r1 = (-1) then (f_X8_go_b21  x1 x2 g) else (f_X8_go_b25  x1 x2 g))) else (f_X8_go_b25  x1 x2 g))
set_option maxRecDepth 100000 in
theorem C_X8_go {O : cb_O} (hJ : cb_J O skC) (x1 : Int) (x2 : Int) (g : cb_S) : ∀ q, f_X8_go g x1 x2 = some q → cb_m O skC false yX8_go cX8_go 4 (some .boolean) rm_X8_go [.inr 0, .inl x1, .inl x2] g q := by
  intro q hq
  refine cb_of_body hJ (by decide) (Nat.le_of_ble_eq_true rfl) hq (fun M hok => ?_)
  show cb_j _ _ _ _ _ _ _ [some (.inr 0), some (.inl x1), some (.inl x2), none] _ _ (if cb_w x2 = 0 then (f_X8_go_b21  x1 x2 g) else (if cb_w x2 = 1 then ((v_X1_joinedAround g x1).bind (fun r1 => if cb_w r1 = (-1) then (f_X8_go_b21  x1 x2 g) else (f_X8_go_b25  x1 x2 g))) else (f_X8_go_b25  x1 x2 g)))
  refine cb_iload_n hok dX8_go_0 rfl ?_
  refine cb_ifeq (tgt := 21) hok rfl dX8_go_1 (by decide) (fun _ => ?_) (fun _ => ?_)
  · refine cb_fewer (ls' := [some (.inr 0), some (.inl x1), some (.inl x2), none]) ⟨rfl, ⟨rfl, ⟨rfl, trivial⟩⟩⟩ ?_
    exact J_X8_go_b21 hJ hok  _ _ _
  · refine cb_iload_n hok dX8_go_4 rfl ?_
    refine cb_iconst hok dX8_go_5 ?_
    refine cb_icne (tgt := 25) hok rfl (by decide) dX8_go_6 (by decide) (fun _ => ?_) (fun _ => ?_)
    · refine cb_fewer (ls' := [some (.inr 0), some (.inl x1), some (.inl x2), none]) ⟨rfl, ⟨rfl, ⟨rfl, trivial⟩⟩⟩ ?_
      exact J_X8_go_b25 hJ hok  _ _ _
    · refine cb_aload_n hok dX8_go_9 rfl ?_
      refine cb_gr hok dX8_go_10 fl_RX8_19 skC_b0 skC_c0 rfl ?_
      refine cb_iload_n hok dX8_go_13 rfl ?_
      refine cb_cvr (as := [.inl x1]) (rest := []) hok lk_RX8_165 (by decide) (by decide) dX8_go_14 (fun q1 hq1 => C_X1_joinedAround hJ _ _ q1 hq1) rfl rfl (Nat.le_of_ble_eq_true rfl) skC_b2 skC_c2 rfl (fun r1 => ?_)
      refine cb_iconst hok dX8_go_17 ?_
      refine cb_icne (tgt := 25) hok rfl (by decide) dX8_go_18 (by decide) (fun _ => ?_) (fun _ => ?_)
      · refine cb_fewer (ls' := [some (.inr 0), some (.inl x1), some (.inl x2), none]) ⟨rfl, ⟨rfl, ⟨rfl, trivial⟩⟩⟩ ?_
        exact J_X8_go_b25 hJ hok  _ _ _
      · refine cb_fewer (ls' := [some (.inr 0), some (.inl x1), some (.inl x2), none]) ⟨rfl, ⟨rfl, ⟨rfl, trivial⟩⟩⟩ ?_
        exact J_X8_go_b21 hJ hok  _ _ _
/-! CaretBench on(Z)Z -/
def f_X8_on_b61 (s0 s1 : Int) (g : cb_S) : Option (Int × cb_S) := cb_b (f_X0_place g s1 s0) (fun r1 g1 => some (1, g1))
set_option maxRecDepth 100000 in
theorem J_X8_on_b61 {O : cb_O} {M : cb_M} (hJ : cb_J O skC) (hok : cb_ok O skC M cX8_on 3 RX8 (some .boolean)) : ∀ (s0 s1 : Int) (g : cb_S), cb_j O skC false rm_X8_on M 3 61 [none, none, none] [.inl s0, .inl s1, .inr 5] g (f_X8_on_b61 s0 s1 g) := by
  intro s0 s1 g
  show cb_j _ _ _ _ _ _ _ _ _ _ (cb_b (f_X0_place g s1 s0) (fun r1 g1 => some (1, g1)))
  refine cb_cvv (as := [.inl s1, .inl s0]) (rest := []) hok lk_RX8_171 (by decide) (by decide) dX8_on_61 (fun q1 hq1 => C_X0_place hJ _ _ _ q1 hq1) rfl rfl (Nat.le_of_ble_eq_true rfl) skC_b5 skC_c5 rfl (fun r1 g1 => ?_)
  refine cb_iconst hok dX8_on_64 ?_
  exact cb_zret hok dX8_on_65 (by decide)
def f_X8_on_b39 (x1 s0 : Int) (g : cb_S) : Option (Int × cb_S) := if cb_w s0 = (-1) then (some (0, g)) else (if cb_w x1 = 0 then (f_X8_on_b61  1 s0 g) else (f_X8_on_b61  0 s0 g))
set_option maxRecDepth 100000 in
theorem J_X8_on_b39 {O : cb_O} {M : cb_M} (hJ : cb_J O skC) (hok : cb_ok O skC M cX8_on 3 RX8 (some .boolean)) : ∀ (x1 s0 : Int) (g : cb_S), cb_j O skC false rm_X8_on M 3 39 [some (.inr 0), some (.inl x1), none] [.inl s0] g (f_X8_on_b39 x1 s0 g) := by
  intro x1 s0 g
  show cb_j _ _ _ _ _ _ _ _ _ _ (if cb_w s0 = (-1) then (some (0, g)) else (if cb_w x1 = 0 then (f_X8_on_b61  1 s0 g) else (f_X8_on_b61  0 s0 g)))
  refine cb_istore_n (ls' := [some (.inr 0), some (.inl x1), some (.inl s0)]) hok dX8_on_39 (by decide) rfl ?_
  refine cb_iload_n hok dX8_on_40 rfl ?_
  refine cb_iconst hok dX8_on_41 ?_
  refine cb_icne (tgt := 47) hok rfl (by decide) dX8_on_42 (by decide) (fun _ => ?_) (fun _ => ?_)
  · refine cb_aload_n hok dX8_on_47 rfl ?_
    refine cb_gr hok dX8_on_48 fl_RX8_42 skC_b0 skC_c0 rfl ?_
    refine cb_iload_n hok dX8_on_51 rfl ?_
    refine cb_iload_n hok dX8_on_52 rfl ?_
    refine cb_ifeq (tgt := 60) hok rfl dX8_on_53 (by decide) (fun _ => ?_) (fun _ => ?_)
    · refine cb_iconst hok dX8_on_60 ?_
      refine cb_fewer (ls' := [none, none, none]) trivial ?_
      exact J_X8_on_b61 hJ hok  _ _ _
    · refine cb_iconst hok dX8_on_56 ?_
      refine cb_goto (tgt := 61) hok dX8_on_57 (by decide) ?_
      refine cb_fewer (ls' := [none, none, none]) trivial ?_
      exact J_X8_on_b61 hJ hok  _ _ _
  · refine cb_iconst hok dX8_on_45 ?_
    exact cb_zret hok dX8_on_46 (by decide)
def f_X8_on (g : cb_S) (x1 : Int) : Option (Int × cb_S) := if cb_w x1 = 0 then ((v_X0_stand g ).bind (fun r1 => (v_X1_standUpTo g (r1 - 1)).bind (fun r2 => f_X8_on_b39  x1 r2 g))) else ((v_X0_stand g ).bind (fun r3 => (v_X1_standFrom g (r3 + 1)).bind (fun r4 => f_X8_on_b39  x1 r4 g)))
set_option maxRecDepth 100000 in
theorem C_X8_on {O : cb_O} (hJ : cb_J O skC) (x1 : Int) (g : cb_S) : ∀ q, f_X8_on g x1 = some q → cb_m O skC false yX8_on cX8_on 3 (some .boolean) rm_X8_on [.inr 0, .inl x1] g q := by
  intro q hq
  refine cb_of_body hJ (by decide) (Nat.le_of_ble_eq_true rfl) hq (fun M hok => ?_)
  show cb_j _ _ _ _ _ _ _ [some (.inr 0), some (.inl x1), none] _ _ (if cb_w x1 = 0 then ((v_X0_stand g ).bind (fun r1 => (v_X1_standUpTo g (r1 - 1)).bind (fun r2 => f_X8_on_b39  x1 r2 g))) else ((v_X0_stand g ).bind (fun r3 => (v_X1_standFrom g (r3 + 1)).bind (fun r4 => f_X8_on_b39  x1 r4 g))))
  refine cb_iload_n hok dX8_on_0 rfl ?_
  refine cb_ifeq (tgt := 23) hok rfl dX8_on_1 (by decide) (fun _ => ?_) (fun _ => ?_)
  · refine cb_aload_n hok dX8_on_23 rfl ?_
    refine cb_gr hok dX8_on_24 fl_RX8_19 skC_b0 skC_c0 rfl ?_
    refine cb_aload_n hok dX8_on_27 rfl ?_
    refine cb_gr hok dX8_on_28 fl_RX8_42 skC_b0 skC_c0 rfl ?_
    refine cb_cvr (as := []) (rest := [.inr 2]) hok lk_RX8_91 (by decide) (by decide) dX8_on_31 (fun q1 hq1 => C_X0_stand hJ _ q1 hq1) rfl rfl (Nat.le_of_ble_eq_true rfl) skC_b5 skC_c5 rfl (fun r1 => ?_)
    refine cb_iconst hok dX8_on_34 ?_
    refine cb_isub hok dX8_on_35 ?_
    refine cb_cvr (as := [.inl (r1 - 1)]) (rest := []) hok lk_RX8_177 (by decide) (by decide) dX8_on_36 (fun q1 hq1 => C_X1_standUpTo hJ _ _ q1 hq1) rfl rfl (Nat.le_of_ble_eq_true rfl) skC_b2 skC_c2 rfl (fun r2 => ?_)
    refine cb_fewer (ls' := [some (.inr 0), some (.inl x1), none]) ⟨rfl, ⟨rfl, trivial⟩⟩ ?_
    exact J_X8_on_b39 hJ hok  _ _ _
  · refine cb_aload_n hok dX8_on_4 rfl ?_
    refine cb_gr hok dX8_on_5 fl_RX8_19 skC_b0 skC_c0 rfl ?_
    refine cb_aload_n hok dX8_on_8 rfl ?_
    refine cb_gr hok dX8_on_9 fl_RX8_42 skC_b0 skC_c0 rfl ?_
    refine cb_cvr (as := []) (rest := [.inr 2]) hok lk_RX8_91 (by decide) (by decide) dX8_on_12 (fun q1 hq1 => C_X0_stand hJ _ q1 hq1) rfl rfl (Nat.le_of_ble_eq_true rfl) skC_b5 skC_c5 rfl (fun r3 => ?_)
    refine cb_iconst hok dX8_on_15 ?_
    refine cb_iadd hok dX8_on_16 ?_
    refine cb_cvr (as := [.inl (r3 + 1)]) (rest := []) hok lk_RX8_174 (by decide) (by decide) dX8_on_17 (fun q1 hq1 => C_X1_standFrom hJ _ _ q1 hq1) rfl rfl (Nat.le_of_ble_eq_true rfl) skC_b2 skC_c2 rfl (fun r4 => ?_)
    refine cb_goto (tgt := 39) hok dX8_on_20 (by decide) ?_
    refine cb_fewer (ls' := [some (.inr 0), some (.inl x1), none]) ⟨rfl, ⟨rfl, trivial⟩⟩ ?_
    exact J_X8_on_b39 hJ hok  _ _ _
/-! CaretBench step(Z)Z -/
def f_X8_step (g : cb_S) (x1 : Int) : Option (Int × cb_S) := cb_b (f_X0_stepOver g x1) (fun r1 g1 => if r1 = 0 ∨ r1 = 1 then some (r1, g1) else none)
set_option maxRecDepth 100000 in
theorem C_X8_step {O : cb_O} (hJ : cb_J O skC) (x1 : Int) (g : cb_S) : ∀ q, f_X8_step g x1 = some q → cb_m O skC false yX8_step cX8_step 2 (some .boolean) rm_X8_step [.inr 0, .inl x1] g q := by
  intro q hq
  refine cb_of_body hJ (by decide) (Nat.le_of_ble_eq_true rfl) hq (fun M hok => ?_)
  show cb_j _ _ _ _ _ _ _ [some (.inr 0), some (.inl x1)] _ _ (cb_b (f_X0_stepOver g x1) (fun r1 g1 => if r1 = 0 ∨ r1 = 1 then some (r1, g1) else none))
  refine cb_aload_n hok dX8_step_0 rfl ?_
  refine cb_gr hok dX8_step_1 fl_RX8_42 skC_b0 skC_c0 rfl ?_
  refine cb_iload_n hok dX8_step_4 rfl ?_
  refine cb_cvi (as := [.inl x1]) (rest := []) hok lk_RX8_180 (by decide) (by decide) dX8_step_5 (fun q1 hq1 => C_X0_stepOver hJ _ _ q1 hq1) rfl rfl (Nat.le_of_ble_eq_true rfl) skC_b5 skC_c5 rfl (fun r1 g1 => ?_)
  exact cb_zretq hok dX8_step_8
/-! CaretBench beginsWord(I)Z -/
def v_X8_beginsWord (g : cb_S) (x1 : Int) : Option Int := (v_X1_endingAt g x1).bind (fun r1 => (v_X1_beginningAt g x1).bind (fun r2 => if cb_w r1 = (-1) then (some 0) else (if cb_w r2 = (-1) then (some 0) else ((v_X1_firstOf g r1).bind (fun r3 => (v_X3_at g r3).bind (fun r4 => (v_X7_isOfWord g r4).bind (fun r5 => if cb_w r5 = 0 then ((v_X1_firstOf g r2).bind (fun r6 => (v_X3_at g r6).bind (fun r7 => (v_X7_isOfWord g r7).bind (fun r8 => if cb_w r8 = 0 then (some 0) else (some 1))))) else (some 0))))))))
set_option maxRecDepth 100000 in
theorem C_X8_beginsWord {O : cb_O} (hJ : cb_J O skC) (x1 : Int) (g : cb_S) : ∀ q, v_X8_beginsWord g x1 = some q → cb_m O skC false yX8_beginsWord cX8_beginsWord 4 (some .boolean) rm_X8_beginsWord [.inr 0, .inl x1] g (q, g) := by
  intro q hq
  refine cr_of_body hJ (by decide) (Nat.le_of_ble_eq_true rfl) hq (fun M hok => ?_)
  show cb_jr _ _ _ _ _ _ [some (.inr 0), some (.inl x1), none, none] _ _ ((v_X1_endingAt g x1).bind (fun r1 => (v_X1_beginningAt g x1).bind (fun r2 => if cb_w r1 = (-1) then (some 0) else (if cb_w r2 = (-1) then (some 0) else ((v_X1_firstOf g r1).bind (fun r3 => (v_X3_at g r3).bind (fun r4 => (v_X7_isOfWord g r4).bind (fun r5 => if cb_w r5 = 0 then ((v_X1_firstOf g r2).bind (fun r6 => (v_X3_at g r6).bind (fun r7 => (v_X7_isOfWord g r7).bind (fun r8 => if cb_w r8 = 0 then (some 0) else (some 1))))) else (some 0)))))))))
  refine cr_aload_n hok dX8_beginsWord_0 rfl ?_
  refine cr_gr hok dX8_beginsWord_1 fl_RX8_19 skC_b0 skC_c0 rfl ?_
  refine cr_iload_n hok dX8_beginsWord_4 rfl ?_
  refine cr_cvr (as := [.inl x1]) (rest := []) hok lk_RX8_265 (by decide) (by decide) dX8_beginsWord_5 (fun q1 hq1 => C_X1_endingAt hJ _ _ q1 hq1) rfl rfl (Nat.le_of_ble_eq_true rfl) skC_b2 skC_c2 rfl (fun r1 => ?_)
  refine cr_istore_n (ls' := [some (.inr 0), some (.inl x1), some (.inl r1), none]) hok dX8_beginsWord_8 (by decide) rfl ?_
  refine cr_aload_n hok dX8_beginsWord_9 rfl ?_
  refine cr_gr hok dX8_beginsWord_10 fl_RX8_19 skC_b0 skC_c0 rfl ?_
  refine cr_iload_n hok dX8_beginsWord_13 rfl ?_
  refine cr_cvr (as := [.inl x1]) (rest := []) hok lk_RX8_268 (by decide) (by decide) dX8_beginsWord_14 (fun q1 hq1 => C_X1_beginningAt hJ _ _ q1 hq1) rfl rfl (Nat.le_of_ble_eq_true rfl) skC_b2 skC_c2 rfl (fun r2 => ?_)
  refine cr_istore_n (ls' := [some (.inr 0), some (.inl x1), some (.inl r1), some (.inl r2)]) hok dX8_beginsWord_17 (by decide) rfl ?_
  refine cr_iload_n hok dX8_beginsWord_18 rfl ?_
  refine cr_iconst hok dX8_beginsWord_19 ?_
  refine cr_iceq (tgt := 74) hok rfl (by decide) dX8_beginsWord_20 (by decide) (fun _ => ?_) (fun _ => ?_)
  · refine cr_iconst hok dX8_beginsWord_74 ?_
    exact cr_zret hok dX8_beginsWord_75 (by decide)
  · refine cr_iload_n hok dX8_beginsWord_23 rfl ?_
    refine cr_iconst hok dX8_beginsWord_24 ?_
    refine cr_iceq (tgt := 74) hok rfl (by decide) dX8_beginsWord_25 (by decide) (fun _ => ?_) (fun _ => ?_)
    · refine cr_iconst hok dX8_beginsWord_74 ?_
      exact cr_zret hok dX8_beginsWord_75 (by decide)
    · refine cr_aload_n hok dX8_beginsWord_28 rfl ?_
      refine cr_gr hok dX8_beginsWord_29 fl_RX8_10 skC_b0 skC_c0 rfl ?_
      refine cr_aload_n hok dX8_beginsWord_32 rfl ?_
      refine cr_gr hok dX8_beginsWord_33 fl_RX8_19 skC_b0 skC_c0 rfl ?_
      refine cr_iload_n hok dX8_beginsWord_36 rfl ?_
      refine cr_cvr (as := [.inl r1]) (rest := [.inr 1]) hok lk_RX8_134 (by decide) (by decide) dX8_beginsWord_37 (fun q1 hq1 => C_X1_firstOf hJ _ _ q1 hq1) rfl rfl (Nat.le_of_ble_eq_true rfl) skC_b2 skC_c2 rfl (fun r3 => ?_)
      refine cr_cvr (as := [.inl r3]) (rest := []) hok lk_RX8_123 (by decide) (by decide) dX8_beginsWord_40 (fun q1 hq1 => C_X3_at hJ _ _ q1 hq1) rfl rfl (Nat.le_of_ble_eq_true rfl) skC_b1 skC_c1 rfl (fun r4 => ?_)
      refine cr_csr (as := [.inl r4]) (rest := []) hok lk_RX8_271 (by decide) (by decide) dX8_beginsWord_43 (fun q1 hq1 => C_X7_isOfWord hJ _ _ q1 hq1) rfl rfl (Nat.le_of_ble_eq_true rfl) (fun r5 => ?_)
      refine cr_ifne (tgt := 74) hok rfl dX8_beginsWord_46 (by decide) (fun _ => ?_) (fun _ => ?_)
      · refine cr_iconst hok dX8_beginsWord_74 ?_
        exact cr_zret hok dX8_beginsWord_75 (by decide)
      · refine cr_aload_n hok dX8_beginsWord_49 rfl ?_
        refine cr_gr hok dX8_beginsWord_50 fl_RX8_10 skC_b0 skC_c0 rfl ?_
        refine cr_aload_n hok dX8_beginsWord_53 rfl ?_
        refine cr_gr hok dX8_beginsWord_54 fl_RX8_19 skC_b0 skC_c0 rfl ?_
        refine cr_iload_n hok dX8_beginsWord_57 rfl ?_
        refine cr_cvr (as := [.inl r2]) (rest := [.inr 1]) hok lk_RX8_134 (by decide) (by decide) dX8_beginsWord_58 (fun q1 hq1 => C_X1_firstOf hJ _ _ q1 hq1) rfl rfl (Nat.le_of_ble_eq_true rfl) skC_b2 skC_c2 rfl (fun r6 => ?_)
        refine cr_cvr (as := [.inl r6]) (rest := []) hok lk_RX8_123 (by decide) (by decide) dX8_beginsWord_61 (fun q1 hq1 => C_X3_at hJ _ _ q1 hq1) rfl rfl (Nat.le_of_ble_eq_true rfl) skC_b1 skC_c1 rfl (fun r7 => ?_)
        refine cr_csr (as := [.inl r7]) (rest := []) hok lk_RX8_271 (by decide) (by decide) dX8_beginsWord_64 (fun q1 hq1 => C_X7_isOfWord hJ _ _ q1 hq1) rfl rfl (Nat.le_of_ble_eq_true rfl) (fun r8 => ?_)
        refine cr_ifeq (tgt := 74) hok rfl dX8_beginsWord_67 (by decide) (fun _ => ?_) (fun _ => ?_)
        · refine cr_iconst hok dX8_beginsWord_74 ?_
          exact cr_zret hok dX8_beginsWord_75 (by decide)
        · refine cr_iconst hok dX8_beginsWord_70 ?_
          refine cr_goto (tgt := 75) hok dX8_beginsWord_71 (by decide) ?_
          exact cr_zret hok dX8_beginsWord_75 (by decide)
/-! CaretBench goOnByWord()Z -/
def f_X8_goOnByWord_b31 : Nat → Int → Int → cb_S → Option (Int × cb_S)
  | 0 => fun _ _ _ => none
  | n + 1 => fun x1 x2 g => if cb_w x1 ≤ cb_w x2 then (cb_b (f_X0_place g x1 0) (fun r1 g1 => some (1, g1))) else ((v_X8_beginsWord g x2).bind (fun r2 => if cb_w r2 = 0 then ((f_X8_goOnByWord_b31 n) x1 (x2 + 1) g) else (cb_b (f_X0_place g x2 1) (fun r3 g3 => some (1, g3)))))
set_option maxRecDepth 100000 in
theorem J_X8_goOnByWord_b31 {O : cb_O} {M : cb_M} (hJ : cb_J O skC) (hok : cb_ok O skC M cX8_goOnByWord 3 RX8 (some .boolean)) : ∀ (n : Nat) (x1 x2 : Int) (g : cb_S), cb_j O skC false rm_X8_goOnByWord M 3 31 [some (.inr 0), some (.inl x1), some (.inl x2)] [] g (f_X8_goOnByWord_b31 n x1 x2 g) := by
  intro n
  induction n with
  | zero => intros; exact cb_none
  | succ n hk31 =>
    intro x1 x2 g
    show cb_j _ _ _ _ _ _ _ _ _ _ (if cb_w x1 ≤ cb_w x2 then (cb_b (f_X0_place g x1 0) (fun r1 g1 => some (1, g1))) else ((v_X8_beginsWord g x2).bind (fun r2 => if cb_w r2 = 0 then ((f_X8_goOnByWord_b31 n) x1 (x2 + 1) g) else (cb_b (f_X0_place g x2 1) (fun r3 g3 => some (1, g3))))))
    refine cb_iload_n hok dX8_goOnByWord_31 rfl ?_
    refine cb_iload_n hok dX8_goOnByWord_32 rfl ?_
    refine cb_icge (tgt := 61) hok rfl rfl dX8_goOnByWord_33 (by decide) (fun _ => ?_) (fun _ => ?_)
    · refine cb_aload_n hok dX8_goOnByWord_61 rfl ?_
      refine cb_gr hok dX8_goOnByWord_62 fl_RX8_42 skC_b0 skC_c0 rfl ?_
      refine cb_iload_n hok dX8_goOnByWord_65 rfl ?_
      refine cb_iconst hok dX8_goOnByWord_66 ?_
      refine cb_cvv (as := [.inl x1, .inl 0]) (rest := []) hok lk_RX8_171 (by decide) (by decide) dX8_goOnByWord_67 (fun q1 hq1 => C_X0_place hJ _ _ _ q1 hq1) rfl rfl (Nat.le_of_ble_eq_true rfl) skC_b5 skC_c5 rfl (fun r1 g1 => ?_)
      refine cb_iconst hok dX8_goOnByWord_70 ?_
      exact cb_zret hok dX8_goOnByWord_71 (by decide)
    · refine cb_aload_n hok dX8_goOnByWord_36 rfl ?_
      refine cb_iload_n hok dX8_goOnByWord_37 rfl ?_
      refine cb_cvr (as := [.inl x2]) (rest := []) hok lk_RX8_262 (by decide) (by decide) dX8_goOnByWord_38 (fun q1 hq1 => C_X8_beginsWord hJ _ _ q1 hq1) rfl rfl (Nat.le_of_ble_eq_true rfl) skC_b0 skC_c0 rfl (fun r2 => ?_)
      refine cb_ifeq (tgt := 55) hok rfl dX8_goOnByWord_41 (by decide) (fun _ => ?_) (fun _ => ?_)
      · refine cb_iinc (ls' := [some (.inr 0), some (.inl x1), some (.inl (x2 + 1))]) hok dX8_goOnByWord_55 rfl (by decide) rfl ?_
        refine cb_goto (tgt := 31) hok dX8_goOnByWord_58 (by decide) ?_
        refine cb_fewer (ls' := [some (.inr 0), some (.inl x1), some (.inl (x2 + 1))]) ⟨rfl, ⟨rfl, ⟨rfl, trivial⟩⟩⟩ ?_
        exact hk31 _ _ _
      · refine cb_aload_n hok dX8_goOnByWord_44 rfl ?_
        refine cb_gr hok dX8_goOnByWord_45 fl_RX8_42 skC_b0 skC_c0 rfl ?_
        refine cb_iload_n hok dX8_goOnByWord_48 rfl ?_
        refine cb_iconst hok dX8_goOnByWord_49 ?_
        refine cb_cvv (as := [.inl x2, .inl 1]) (rest := []) hok lk_RX8_171 (by decide) (by decide) dX8_goOnByWord_50 (fun q1 hq1 => C_X0_place hJ _ _ _ q1 hq1) rfl rfl (Nat.le_of_ble_eq_true rfl) skC_b5 skC_c5 rfl (fun r3 g3 => ?_)
        refine cb_iconst hok dX8_goOnByWord_53 ?_
        exact cb_zret hok dX8_goOnByWord_54 (by decide)
def f_X8_goOnByWord (g : cb_S) : Option (Int × cb_S) := (v_X3_length g ).bind (fun r1 => (v_X0_stand g ).bind (fun r2 => if cb_w r2 = cb_w r1 then (some (0, g)) else ((v_X0_stand g ).bind (fun r3 => f_X8_goOnByWord_b31  cb_N r1 (r3 + 1) g))))
set_option maxRecDepth 100000 in
theorem C_X8_goOnByWord {O : cb_O} (hJ : cb_J O skC) (g : cb_S) : ∀ q, f_X8_goOnByWord g = some q → cb_m O skC false yX8_goOnByWord cX8_goOnByWord 3 (some .boolean) rm_X8_goOnByWord [.inr 0] g q := by
  intro q hq
  refine cb_of_body hJ (by decide) (Nat.le_of_ble_eq_true rfl) hq (fun M hok => ?_)
  show cb_j _ _ _ _ _ _ _ [some (.inr 0), none, none] _ _ ((v_X3_length g ).bind (fun r1 => (v_X0_stand g ).bind (fun r2 => if cb_w r2 = cb_w r1 then (some (0, g)) else ((v_X0_stand g ).bind (fun r3 => f_X8_goOnByWord_b31  cb_N r1 (r3 + 1) g)))))
  refine cb_aload_n hok dX8_goOnByWord_0 rfl ?_
  refine cb_gr hok dX8_goOnByWord_1 fl_RX8_10 skC_b0 skC_c0 rfl ?_
  refine cb_cvr (as := []) (rest := []) hok lk_RX8_101 (by decide) (by decide) dX8_goOnByWord_4 (fun q1 hq1 => C_X3_length hJ _ q1 hq1) rfl rfl (Nat.le_of_ble_eq_true rfl) skC_b1 skC_c1 rfl (fun r1 => ?_)
  refine cb_istore_n (ls' := [some (.inr 0), some (.inl r1), none]) hok dX8_goOnByWord_7 (by decide) rfl ?_
  refine cb_aload_n hok dX8_goOnByWord_8 rfl ?_
  refine cb_gr hok dX8_goOnByWord_9 fl_RX8_42 skC_b0 skC_c0 rfl ?_
  refine cb_cvr (as := []) (rest := []) hok lk_RX8_91 (by decide) (by decide) dX8_goOnByWord_12 (fun q1 hq1 => C_X0_stand hJ _ q1 hq1) rfl rfl (Nat.le_of_ble_eq_true rfl) skC_b5 skC_c5 rfl (fun r2 => ?_)
  refine cb_iload_n hok dX8_goOnByWord_15 rfl ?_
  refine cb_icne (tgt := 21) hok rfl rfl dX8_goOnByWord_16 (by decide) (fun _ => ?_) (fun _ => ?_)
  · refine cb_aload_n hok dX8_goOnByWord_21 rfl ?_
    refine cb_gr hok dX8_goOnByWord_22 fl_RX8_42 skC_b0 skC_c0 rfl ?_
    refine cb_cvr (as := []) (rest := []) hok lk_RX8_91 (by decide) (by decide) dX8_goOnByWord_25 (fun q1 hq1 => C_X0_stand hJ _ q1 hq1) rfl rfl (Nat.le_of_ble_eq_true rfl) skC_b5 skC_c5 rfl (fun r3 => ?_)
    refine cb_iconst hok dX8_goOnByWord_28 ?_
    refine cb_iadd hok dX8_goOnByWord_29 ?_
    refine cb_istore_n (ls' := [some (.inr 0), some (.inl r1), some (.inl (r3 + 1))]) hok dX8_goOnByWord_30 (by decide) rfl ?_
    refine cb_fewer (ls' := [some (.inr 0), some (.inl r1), some (.inl (r3 + 1))]) ⟨rfl, ⟨rfl, ⟨rfl, trivial⟩⟩⟩ ?_
    exact J_X8_goOnByWord_b31 hJ hok  cb_N _ _ _
  · refine cb_iconst hok dX8_goOnByWord_19 ?_
    exact cb_zret hok dX8_goOnByWord_20 (by decide)
/-! CaretBench goBackByWord()Z -/
def f_X8_goBackByWord_b40 (x1 : Int) (g : cb_S) : Option (Int × cb_S) := cb_b (f_X0_place g x1 1) (fun r1 g1 => some (1, g1))
set_option maxRecDepth 100000 in
theorem J_X8_goBackByWord_b40 {O : cb_O} {M : cb_M} (hJ : cb_J O skC) (hok : cb_ok O skC M cX8_goBackByWord 2 RX8 (some .boolean)) : ∀ (x1 : Int) (g : cb_S), cb_j O skC false rm_X8_goBackByWord M 2 40 [some (.inr 0), some (.inl x1)] [] g (f_X8_goBackByWord_b40 x1 g) := by
  intro x1 g
  show cb_j _ _ _ _ _ _ _ _ _ _ (cb_b (f_X0_place g x1 1) (fun r1 g1 => some (1, g1)))
  refine cb_aload_n hok dX8_goBackByWord_40 rfl ?_
  refine cb_gr hok dX8_goBackByWord_41 fl_RX8_42 skC_b0 skC_c0 rfl ?_
  refine cb_iload_n hok dX8_goBackByWord_44 rfl ?_
  refine cb_iconst hok dX8_goBackByWord_45 ?_
  refine cb_cvv (as := [.inl x1, .inl 1]) (rest := []) hok lk_RX8_171 (by decide) (by decide) dX8_goBackByWord_46 (fun q1 hq1 => C_X0_place hJ _ _ _ q1 hq1) rfl rfl (Nat.le_of_ble_eq_true rfl) skC_b5 skC_c5 rfl (fun r1 g1 => ?_)
  refine cb_iconst hok dX8_goBackByWord_49 ?_
  exact cb_zret hok dX8_goBackByWord_50 (by decide)
def f_X8_goBackByWord_b22 : Nat → Int → cb_S → Option (Int × cb_S)
  | 0 => fun _ _ => none
  | n + 1 => fun x1 g => if cb_w x1 ≤ 0 then (f_X8_goBackByWord_b40  x1 g) else ((v_X8_beginsWord g x1).bind (fun r1 => if cb_w r1 = 0 then ((f_X8_goBackByWord_b22 n) (x1 + (-1)) g) else (f_X8_goBackByWord_b40  x1 g)))
set_option maxRecDepth 100000 in
theorem J_X8_goBackByWord_b22 {O : cb_O} {M : cb_M} (hJ : cb_J O skC) (hok : cb_ok O skC M cX8_goBackByWord 2 RX8 (some .boolean)) : ∀ (n : Nat) (x1 : Int) (g : cb_S), cb_j O skC false rm_X8_goBackByWord M 2 22 [some (.inr 0), some (.inl x1)] [] g (f_X8_goBackByWord_b22 n x1 g) := by
  intro n
  induction n with
  | zero => intros; exact cb_none
  | succ n hk22 =>
    intro x1 g
    show cb_j _ _ _ _ _ _ _ _ _ _ (if cb_w x1 ≤ 0 then (f_X8_goBackByWord_b40  x1 g) else ((v_X8_beginsWord g x1).bind (fun r1 => if cb_w r1 = 0 then ((f_X8_goBackByWord_b22 n) (x1 + (-1)) g) else (f_X8_goBackByWord_b40  x1 g))))
    refine cb_iload_n hok dX8_goBackByWord_22 rfl ?_
    refine cb_ifle (tgt := 40) hok rfl dX8_goBackByWord_23 (by decide) (fun _ => ?_) (fun _ => ?_)
    · refine cb_fewer (ls' := [some (.inr 0), some (.inl x1)]) ⟨rfl, ⟨rfl, trivial⟩⟩ ?_
      exact J_X8_goBackByWord_b40 hJ hok  _ _
    · refine cb_aload_n hok dX8_goBackByWord_26 rfl ?_
      refine cb_iload_n hok dX8_goBackByWord_27 rfl ?_
      refine cb_cvr (as := [.inl x1]) (rest := []) hok lk_RX8_262 (by decide) (by decide) dX8_goBackByWord_28 (fun q1 hq1 => C_X8_beginsWord hJ _ _ q1 hq1) rfl rfl (Nat.le_of_ble_eq_true rfl) skC_b0 skC_c0 rfl (fun r1 => ?_)
      refine cb_ifne (tgt := 40) hok rfl dX8_goBackByWord_31 (by decide) (fun _ => ?_) (fun _ => ?_)
      · refine cb_fewer (ls' := [some (.inr 0), some (.inl x1)]) ⟨rfl, ⟨rfl, trivial⟩⟩ ?_
        exact J_X8_goBackByWord_b40 hJ hok  _ _
      · refine cb_iinc (ls' := [some (.inr 0), some (.inl (x1 + (-1)))]) hok dX8_goBackByWord_34 rfl (by decide) rfl ?_
        refine cb_goto (tgt := 22) hok dX8_goBackByWord_37 (by decide) ?_
        refine cb_fewer (ls' := [some (.inr 0), some (.inl (x1 + (-1)))]) ⟨rfl, ⟨rfl, trivial⟩⟩ ?_
        exact hk22 _ _
def f_X8_goBackByWord (g : cb_S) : Option (Int × cb_S) := (v_X0_stand g ).bind (fun r1 => if cb_w r1 = 0 then (some (0, g)) else ((v_X0_stand g ).bind (fun r2 => f_X8_goBackByWord_b22  cb_N (r2 - 1) g)))
set_option maxRecDepth 100000 in
theorem C_X8_goBackByWord {O : cb_O} (hJ : cb_J O skC) (g : cb_S) : ∀ q, f_X8_goBackByWord g = some q → cb_m O skC false yX8_goBackByWord cX8_goBackByWord 2 (some .boolean) rm_X8_goBackByWord [.inr 0] g q := by
  intro q hq
  refine cb_of_body hJ (by decide) (Nat.le_of_ble_eq_true rfl) hq (fun M hok => ?_)
  show cb_j _ _ _ _ _ _ _ [some (.inr 0), none] _ _ ((v_X0_stand g ).bind (fun r1 => if cb_w r1 = 0 then (some (0, g)) else ((v_X0_stand g ).bind (fun r2 => f_X8_goBackByWord_b22  cb_N (r2 - 1) g))))
  refine cb_aload_n hok dX8_goBackByWord_0 rfl ?_
  refine cb_gr hok dX8_goBackByWord_1 fl_RX8_42 skC_b0 skC_c0 rfl ?_
  refine cb_cvr (as := []) (rest := []) hok lk_RX8_91 (by decide) (by decide) dX8_goBackByWord_4 (fun q1 hq1 => C_X0_stand hJ _ q1 hq1) rfl rfl (Nat.le_of_ble_eq_true rfl) skC_b5 skC_c5 rfl (fun r1 => ?_)
  refine cb_ifne (tgt := 12) hok rfl dX8_goBackByWord_7 (by decide) (fun _ => ?_) (fun _ => ?_)
  · refine cb_aload_n hok dX8_goBackByWord_12 rfl ?_
    refine cb_gr hok dX8_goBackByWord_13 fl_RX8_42 skC_b0 skC_c0 rfl ?_
    refine cb_cvr (as := []) (rest := []) hok lk_RX8_91 (by decide) (by decide) dX8_goBackByWord_16 (fun q1 hq1 => C_X0_stand hJ _ q1 hq1) rfl rfl (Nat.le_of_ble_eq_true rfl) skC_b5 skC_c5 rfl (fun r2 => ?_)
    refine cb_iconst hok dX8_goBackByWord_19 ?_
    refine cb_isub hok dX8_goBackByWord_20 ?_
    refine cb_istore_n (ls' := [some (.inr 0), some (.inl (r2 - 1))]) hok dX8_goBackByWord_21 (by decide) rfl ?_
    refine cb_fewer (ls' := [some (.inr 0), some (.inl (r2 - 1))]) ⟨rfl, ⟨rfl, trivial⟩⟩ ?_
    exact J_X8_goBackByWord_b22 hJ hok  cb_N _ _
  · refine cb_iconst hok dX8_goBackByWord_10 ?_
    exact cb_zret hok dX8_goBackByWord_11 (by decide)
