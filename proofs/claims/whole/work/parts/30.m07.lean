/-! CaretBench word(Z)Z -/
def f_X8_word (g : cb_S) (x1 : Int) : Option (Int × cb_S) := if cb_w x1 = 0 then (cb_b (f_X8_goBackByWord g ) (fun r1 g1 => if r1 = 0 ∨ r1 = 1 then some (r1, g1) else none)) else (cb_b (f_X8_goOnByWord g ) (fun r2 g2 => if r2 = 0 ∨ r2 = 1 then some (r2, g2) else none))
set_option maxRecDepth 100000 in
theorem C_X8_word {O : cb_O} (hJ : cb_J O skC) (x1 : Int) (g : cb_S) : ∀ q, f_X8_word g x1 = some q → cb_m O skC false yX8_word cX8_word 2 (some .boolean) rm_X8_word [.inr 0, .inl x1] g q := by
  intro q hq
  refine cb_of_body hJ (by decide) (Nat.le_of_ble_eq_true rfl) hq (fun M hok => ?_)
  show cb_j _ _ _ _ _ _ _ [some (.inr 0), some (.inl x1)] _ _ (if cb_w x1 = 0 then (cb_b (f_X8_goBackByWord g ) (fun r1 g1 => if r1 = 0 ∨ r1 = 1 then some (r1, g1) else none)) else (cb_b (f_X8_goOnByWord g ) (fun r2 g2 => if r2 = 0 ∨ r2 = 1 then some (r2, g2) else none)))
  refine cb_iload_n hok dX8_word_0 rfl ?_
  refine cb_ifeq (tgt := 11) hok rfl dX8_word_1 (by decide) (fun _ => ?_) (fun _ => ?_)
  · refine cb_aload_n hok dX8_word_11 rfl ?_
    refine cb_cvi (as := []) (rest := []) hok lk_RX8_188 (by decide) (by decide) dX8_word_12 (fun q1 hq1 => C_X8_goBackByWord hJ _ q1 hq1) rfl rfl (Nat.le_of_ble_eq_true rfl) skC_b0 skC_c0 rfl (fun r1 g1 => ?_)
    exact cb_zretq hok dX8_word_15
  · refine cb_aload_n hok dX8_word_4 rfl ?_
    refine cb_cvi (as := []) (rest := []) hok lk_RX8_184 (by decide) (by decide) dX8_word_5 (fun q1 hq1 => C_X8_goOnByWord hJ _ q1 hq1) rfl rfl (Nat.le_of_ble_eq_true rfl) skC_b0 skC_c0 rfl (fun r2 g2 => ?_)
    refine cb_goto (tgt := 15) hok dX8_word_8 (by decide) ?_
    exact cb_zretq hok dX8_word_15
/-! CaretBench pickWithin(II)V -/
def f_X8_pickWithin_b79 (s0 s1 : Int) (g : cb_S) : Option (Int × cb_S) := cb_b (f_X0_toSideOf g s1 s0) (fun r1 g1 => some (0, g1))
set_option maxRecDepth 100000 in
theorem J_X8_pickWithin_b79 {O : cb_O} {M : cb_M} (hJ : cb_J O skC) (hok : cb_ok O skC M cX8_pickWithin 5 RX8 none) : ∀ (s0 s1 : Int) (g : cb_S), cb_j O skC true rm_X8_pickWithin M 5 79 [none, none, none, none, none] [.inl s0, .inl s1, .inr 5] g (f_X8_pickWithin_b79 s0 s1 g) := by
  intro s0 s1 g
  show cb_j _ _ _ _ _ _ _ _ _ _ (cb_b (f_X0_toSideOf g s1 s0) (fun r1 g1 => some (0, g1)))
  refine cb_cvv (as := [.inl s1, .inl s0]) (rest := []) hok lk_RX8_191 (by decide) (by decide) dX8_pickWithin_79 (fun q1 hq1 => C_X0_toSideOf hJ _ _ _ q1 hq1) rfl rfl (Nat.le_of_ble_eq_true rfl) skC_b5 skC_c5 rfl (fun r1 g1 => ?_)
  exact cb_vret hok dX8_pickWithin_82
def f_X8_pickWithin_b61 (x1 x3 x4 : Int) (g : cb_S) : Option (Int × cb_S) := if cb_w (2 * x3) < cb_w x4 then (f_X8_pickWithin_b79  0 x1 g) else (f_X8_pickWithin_b79  1 x1 g)
set_option maxRecDepth 100000 in
theorem J_X8_pickWithin_b61 {O : cb_O} {M : cb_M} (hJ : cb_J O skC) (hok : cb_ok O skC M cX8_pickWithin 5 RX8 none) : ∀ (x1 x3 x4 : Int) (g : cb_S), cb_j O skC true rm_X8_pickWithin M 5 61 [some (.inr 0), some (.inl x1), none, some (.inl x3), some (.inl x4)] [] g (f_X8_pickWithin_b61 x1 x3 x4 g) := by
  intro x1 x3 x4 g
  show cb_j _ _ _ _ _ _ _ _ _ _ (if cb_w (2 * x3) < cb_w x4 then (f_X8_pickWithin_b79  0 x1 g) else (f_X8_pickWithin_b79  1 x1 g))
  refine cb_aload_n hok dX8_pickWithin_61 rfl ?_
  refine cb_gr hok dX8_pickWithin_62 fl_RX8_42 skC_b0 skC_c0 rfl ?_
  refine cb_iload_n hok dX8_pickWithin_65 rfl ?_
  refine cb_iconst hok dX8_pickWithin_66 ?_
  refine cb_iload_n hok dX8_pickWithin_67 rfl ?_
  refine cb_imul hok dX8_pickWithin_68 ?_
  refine cb_iload hok dX8_pickWithin_69 rfl ?_
  refine cb_iclt (tgt := 78) hok rfl rfl dX8_pickWithin_71 (by decide) (fun _ => ?_) (fun _ => ?_)
  · refine cb_iconst hok dX8_pickWithin_78 ?_
    refine cb_fewer (ls' := [none, none, none, none, none]) trivial ?_
    exact J_X8_pickWithin_b79 hJ hok  _ _ _
  · refine cb_iconst hok dX8_pickWithin_74 ?_
    refine cb_goto (tgt := 79) hok dX8_pickWithin_75 (by decide) ?_
    refine cb_fewer (ls' := [none, none, none, none, none]) trivial ?_
    exact J_X8_pickWithin_b79 hJ hok  _ _ _
def f_X8_pickWithin (g : cb_S) (x1 : Int) (x2 : Int) : Option (Int × cb_S) := (v_X6_leftOf g x1).bind (fun r1 => (v_X1_widthOf g x1).bind (fun r2 => (v_X1_isJoined g x1).bind (fun r3 => if cb_w r3 = 0 then (f_X8_pickWithin_b61  x1 (x2 - r1) r2 g) else (if cb_w (4 * (x2 - r1)) < cb_w r2 then (f_X8_pickWithin_b61  x1 (x2 - r1) r2 g) else (if cb_w (3 * r2) ≤ cb_w (4 * (x2 - r1)) then (f_X8_pickWithin_b61  x1 (x2 - r1) r2 g) else (cb_b (f_X0_toMiddleOf g x1) (fun r4 g4 => some (0, g4))))))))
set_option maxRecDepth 100000 in
theorem C_X8_pickWithin {O : cb_O} (hJ : cb_J O skC) (x1 : Int) (x2 : Int) (g : cb_S) : ∀ q, f_X8_pickWithin g x1 x2 = some q → cb_m O skC true yX8_pickWithin cX8_pickWithin 5 none rm_X8_pickWithin [.inr 0, .inl x1, .inl x2] g q := by
  intro q hq
  refine cb_of_body hJ (by decide) (Nat.le_of_ble_eq_true rfl) hq (fun M hok => ?_)
  show cb_j _ _ _ _ _ _ _ [some (.inr 0), some (.inl x1), some (.inl x2), none, none] _ _ ((v_X6_leftOf g x1).bind (fun r1 => (v_X1_widthOf g x1).bind (fun r2 => (v_X1_isJoined g x1).bind (fun r3 => if cb_w r3 = 0 then (f_X8_pickWithin_b61  x1 (x2 - r1) r2 g) else (if cb_w (4 * (x2 - r1)) < cb_w r2 then (f_X8_pickWithin_b61  x1 (x2 - r1) r2 g) else (if cb_w (3 * r2) ≤ cb_w (4 * (x2 - r1)) then (f_X8_pickWithin_b61  x1 (x2 - r1) r2 g) else (cb_b (f_X0_toMiddleOf g x1) (fun r4 g4 => some (0, g4)))))))))
  refine cb_iload_n hok dX8_pickWithin_0 rfl ?_
  refine cb_aload_n hok dX8_pickWithin_1 rfl ?_
  refine cb_gr hok dX8_pickWithin_2 fl_RX8_33 skC_b0 skC_c0 rfl ?_
  refine cb_iload_n hok dX8_pickWithin_5 rfl ?_
  refine cb_cvr (as := [.inl x1]) (rest := [.inl x2]) hok lk_RX8_141 (by decide) (by decide) dX8_pickWithin_6 (fun q1 hq1 => C_X6_leftOf hJ _ _ q1 hq1) rfl rfl (Nat.le_of_ble_eq_true rfl) skC_b4 skC_c4 rfl (fun r1 => ?_)
  refine cb_isub hok dX8_pickWithin_9 ?_
  refine cb_istore_n (ls' := [some (.inr 0), some (.inl x1), some (.inl x2), some (.inl (x2 - r1)), none]) hok dX8_pickWithin_10 (by decide) rfl ?_
  refine cb_aload_n hok dX8_pickWithin_11 rfl ?_
  refine cb_gr hok dX8_pickWithin_12 fl_RX8_19 skC_b0 skC_c0 rfl ?_
  refine cb_iload_n hok dX8_pickWithin_15 rfl ?_
  refine cb_cvr (as := [.inl x1]) (rest := []) hok lk_RX8_144 (by decide) (by decide) dX8_pickWithin_16 (fun q1 hq1 => C_X1_widthOf hJ _ _ q1 hq1) rfl rfl (Nat.le_of_ble_eq_true rfl) skC_b2 skC_c2 rfl (fun r2 => ?_)
  refine cb_istore (ls' := [some (.inr 0), some (.inl x1), some (.inl x2), some (.inl (x2 - r1)), some (.inl r2)]) hok dX8_pickWithin_19 (by decide) rfl ?_
  refine cb_aload_n hok dX8_pickWithin_21 rfl ?_
  refine cb_gr hok dX8_pickWithin_22 fl_RX8_19 skC_b0 skC_c0 rfl ?_
  refine cb_iload_n hok dX8_pickWithin_25 rfl ?_
  refine cb_cvr (as := [.inl x1]) (rest := []) hok lk_RX8_147 (by decide) (by decide) dX8_pickWithin_26 (fun q1 hq1 => C_X1_isJoined hJ _ _ q1 hq1) rfl rfl (Nat.le_of_ble_eq_true rfl) skC_b2 skC_c2 rfl (fun r3 => ?_)
  refine cb_ifeq (tgt := 61) hok rfl dX8_pickWithin_29 (by decide) (fun _ => ?_) (fun _ => ?_)
  · refine cb_fewer (ls' := [some (.inr 0), some (.inl x1), none, some (.inl (x2 - r1)), some (.inl r2)]) ⟨rfl, ⟨rfl, ⟨rfl, ⟨rfl, trivial⟩⟩⟩⟩ ?_
    exact J_X8_pickWithin_b61 hJ hok  _ _ _ _
  · refine cb_iconst hok dX8_pickWithin_32 ?_
    refine cb_iload_n hok dX8_pickWithin_33 rfl ?_
    refine cb_imul hok dX8_pickWithin_34 ?_
    refine cb_iload hok dX8_pickWithin_35 rfl ?_
    refine cb_iclt (tgt := 61) hok rfl rfl dX8_pickWithin_37 (by decide) (fun _ => ?_) (fun _ => ?_)
    · refine cb_fewer (ls' := [some (.inr 0), some (.inl x1), none, some (.inl (x2 - r1)), some (.inl r2)]) ⟨rfl, ⟨rfl, ⟨rfl, ⟨rfl, trivial⟩⟩⟩⟩ ?_
      exact J_X8_pickWithin_b61 hJ hok  _ _ _ _
    · refine cb_iconst hok dX8_pickWithin_40 ?_
      refine cb_iload_n hok dX8_pickWithin_41 rfl ?_
      refine cb_imul hok dX8_pickWithin_42 ?_
      refine cb_iconst hok dX8_pickWithin_43 ?_
      refine cb_iload hok dX8_pickWithin_44 rfl ?_
      refine cb_imul hok dX8_pickWithin_46 ?_
      refine cb_icge (tgt := 61) hok rfl rfl dX8_pickWithin_47 (by decide) (fun _ => ?_) (fun _ => ?_)
      · refine cb_fewer (ls' := [some (.inr 0), some (.inl x1), none, some (.inl (x2 - r1)), some (.inl r2)]) ⟨rfl, ⟨rfl, ⟨rfl, ⟨rfl, trivial⟩⟩⟩⟩ ?_
        exact J_X8_pickWithin_b61 hJ hok  _ _ _ _
      · refine cb_aload_n hok dX8_pickWithin_50 rfl ?_
        refine cb_gr hok dX8_pickWithin_51 fl_RX8_42 skC_b0 skC_c0 rfl ?_
        refine cb_iload_n hok dX8_pickWithin_54 rfl ?_
        refine cb_cvv (as := [.inl x1]) (rest := []) hok lk_RX8_274 (by decide) (by decide) dX8_pickWithin_55 (fun q1 hq1 => C_X0_toMiddleOf hJ _ _ q1 hq1) rfl rfl (Nat.le_of_ble_eq_true rfl) skC_b5 skC_c5 rfl (fun r4 g4 => ?_)
        refine cb_goto (tgt := 82) hok dX8_pickWithin_58 (by decide) ?_
        exact cb_vret hok dX8_pickWithin_82
/-! CaretBench pick(I)I -/
def f_X8_pick_b92 (g : cb_S) : Option (Int × cb_S) := (v_X0_stand g ).bind (fun r1 => some (r1, g))
set_option maxRecDepth 100000 in
theorem J_X8_pick_b92 {O : cb_O} {M : cb_M} (hJ : cb_J O skC) (hok : cb_ok O skC M cX8_pick 3 RX8 (some .int)) : ∀ (g : cb_S), cb_j O skC false rm_X8_pick M 3 92 [some (.inr 0), none, none] [] g (f_X8_pick_b92 g) := by
  intro g
  show cb_j _ _ _ _ _ _ _ _ _ _ ((v_X0_stand g ).bind (fun r1 => some (r1, g)))
  refine cb_aload_n hok dX8_pick_92 rfl ?_
  refine cb_gr hok dX8_pick_93 fl_RX8_42 skC_b0 skC_c0 rfl ?_
  refine cb_cvr (as := []) (rest := []) hok lk_RX8_91 (by decide) (by decide) dX8_pick_96 (fun q1 hq1 => C_X0_stand hJ _ q1 hq1) rfl rfl (Nat.le_of_ble_eq_true rfl) skC_b5 skC_c5 rfl (fun r1 => ?_)
  exact cb_iret hok dX8_pick_99
def f_X8_pick (g : cb_S) (x1 : Int) : Option (Int × cb_S) := (v_X1_number g ).bind (fun r1 => if cb_w r1 = 0 then (cb_b (f_X0_place g 0 0) (fun r9 g9 => f_X8_pick_b92  g9)) else (if 0 ≤ cb_w x1 then ((v_X6_width g ).bind (fun r2 => if cb_w x1 < cb_w r2 then ((v_X6_clusterOver g x1).bind (fun r3 => cb_b (f_X8_pickWithin g r3 x1) (fun r4 g4 => f_X8_pick_b92  g4))) else ((v_X6_clusterAtPlace g (r1 - 1)).bind (fun r5 => cb_b (f_X0_toSideOf g r5 1) (fun r6 g6 => f_X8_pick_b92  g6))))) else ((v_X6_clusterAtPlace g 0).bind (fun r7 => cb_b (f_X0_toSideOf g r7 0) (fun r8 g8 => f_X8_pick_b92  g8)))))
set_option maxRecDepth 100000 in
theorem C_X8_pick {O : cb_O} (hJ : cb_J O skC) (x1 : Int) (g : cb_S) : ∀ q, f_X8_pick g x1 = some q → cb_m O skC false yX8_pick cX8_pick 3 (some .int) rm_X8_pick [.inr 0, .inl x1] g q := by
  intro q hq
  refine cb_of_body hJ (by decide) (Nat.le_of_ble_eq_true rfl) hq (fun M hok => ?_)
  show cb_j _ _ _ _ _ _ _ [some (.inr 0), some (.inl x1), none] _ _ ((v_X1_number g ).bind (fun r1 => if cb_w r1 = 0 then (cb_b (f_X0_place g 0 0) (fun r9 g9 => f_X8_pick_b92  g9)) else (if 0 ≤ cb_w x1 then ((v_X6_width g ).bind (fun r2 => if cb_w x1 < cb_w r2 then ((v_X6_clusterOver g x1).bind (fun r3 => cb_b (f_X8_pickWithin g r3 x1) (fun r4 g4 => f_X8_pick_b92  g4))) else ((v_X6_clusterAtPlace g (r1 - 1)).bind (fun r5 => cb_b (f_X0_toSideOf g r5 1) (fun r6 g6 => f_X8_pick_b92  g6))))) else ((v_X6_clusterAtPlace g 0).bind (fun r7 => cb_b (f_X0_toSideOf g r7 0) (fun r8 g8 => f_X8_pick_b92  g8))))))
  refine cb_aload_n hok dX8_pick_0 rfl ?_
  refine cb_gr hok dX8_pick_1 fl_RX8_19 skC_b0 skC_c0 rfl ?_
  refine cb_cvr (as := []) (rest := []) hok lk_RX8_108 (by decide) (by decide) dX8_pick_4 (fun q1 hq1 => C_X1_number hJ _ q1 hq1) rfl rfl (Nat.le_of_ble_eq_true rfl) skC_b2 skC_c2 rfl (fun r1 => ?_)
  refine cb_istore_n (ls' := [some (.inr 0), some (.inl x1), some (.inl r1)]) hok dX8_pick_7 (by decide) rfl ?_
  refine cb_iload_n hok dX8_pick_8 rfl ?_
  refine cb_ifne (tgt := 24) hok rfl dX8_pick_9 (by decide) (fun _ => ?_) (fun _ => ?_)
  · refine cb_iload_n hok dX8_pick_24 rfl ?_
    refine cb_ifge (tgt := 47) hok rfl dX8_pick_25 (by decide) (fun _ => ?_) (fun _ => ?_)
    · refine cb_iload_n hok dX8_pick_47 rfl ?_
      refine cb_aload_n hok dX8_pick_48 rfl ?_
      refine cb_gr hok dX8_pick_49 fl_RX8_33 skC_b0 skC_c0 rfl ?_
      refine cb_cvr (as := []) (rest := [.inl x1]) hok lk_RX8_114 (by decide) (by decide) dX8_pick_52 (fun q1 hq1 => C_X6_width hJ _ q1 hq1) rfl rfl (Nat.le_of_ble_eq_true rfl) skC_b4 skC_c4 rfl (fun r2 => ?_)
      refine cb_iclt (tgt := 79) hok rfl rfl dX8_pick_55 (by decide) (fun _ => ?_) (fun _ => ?_)
      · refine cb_aload_n hok dX8_pick_79 rfl ?_
        refine cb_aload_n hok dX8_pick_80 rfl ?_
        refine cb_gr hok dX8_pick_81 fl_RX8_33 skC_b0 skC_c0 rfl ?_
        refine cb_iload_n hok dX8_pick_84 rfl ?_
        refine cb_cvr (as := [.inl x1]) (rest := [.inr 0]) hok lk_RX8_195 (by decide) (by decide) dX8_pick_85 (fun q1 hq1 => C_X6_clusterOver hJ _ _ q1 hq1) rfl rfl (Nat.le_of_ble_eq_true rfl) skC_b4 skC_c4 rfl (fun r3 => ?_)
        refine cb_iload_n hok dX8_pick_88 rfl ?_
        refine cb_cvv (as := [.inl r3, .inl x1]) (rest := []) hok lk_RX8_198 (by decide) (by decide) dX8_pick_89 (fun q1 hq1 => C_X8_pickWithin hJ _ _ _ q1 hq1) rfl rfl (Nat.le_of_ble_eq_true rfl) skC_b0 skC_c0 rfl (fun r4 g4 => ?_)
        refine cb_fewer (ls' := [some (.inr 0), none, none]) ⟨rfl, trivial⟩ ?_
        exact J_X8_pick_b92 hJ hok  _
      · refine cb_aload_n hok dX8_pick_58 rfl ?_
        refine cb_gr hok dX8_pick_59 fl_RX8_42 skC_b0 skC_c0 rfl ?_
        refine cb_aload_n hok dX8_pick_62 rfl ?_
        refine cb_gr hok dX8_pick_63 fl_RX8_33 skC_b0 skC_c0 rfl ?_
        refine cb_iload_n hok dX8_pick_66 rfl ?_
        refine cb_iconst hok dX8_pick_67 ?_
        refine cb_isub hok dX8_pick_68 ?_
        refine cb_cvr (as := [.inl (r1 - 1)]) (rest := [.inr 5]) hok lk_RX8_153 (by decide) (by decide) dX8_pick_69 (fun q1 hq1 => C_X6_clusterAtPlace hJ _ _ q1 hq1) rfl rfl (Nat.le_of_ble_eq_true rfl) skC_b4 skC_c4 rfl (fun r5 => ?_)
        refine cb_iconst hok dX8_pick_72 ?_
        refine cb_cvv (as := [.inl r5, .inl 1]) (rest := []) hok lk_RX8_191 (by decide) (by decide) dX8_pick_73 (fun q1 hq1 => C_X0_toSideOf hJ _ _ _ q1 hq1) rfl rfl (Nat.le_of_ble_eq_true rfl) skC_b5 skC_c5 rfl (fun r6 g6 => ?_)
        refine cb_goto (tgt := 92) hok dX8_pick_76 (by decide) ?_
        refine cb_fewer (ls' := [some (.inr 0), none, none]) ⟨rfl, trivial⟩ ?_
        exact J_X8_pick_b92 hJ hok  _
    · refine cb_aload_n hok dX8_pick_28 rfl ?_
      refine cb_gr hok dX8_pick_29 fl_RX8_42 skC_b0 skC_c0 rfl ?_
      refine cb_aload_n hok dX8_pick_32 rfl ?_
      refine cb_gr hok dX8_pick_33 fl_RX8_33 skC_b0 skC_c0 rfl ?_
      refine cb_iconst hok dX8_pick_36 ?_
      refine cb_cvr (as := [.inl 0]) (rest := [.inr 5]) hok lk_RX8_153 (by decide) (by decide) dX8_pick_37 (fun q1 hq1 => C_X6_clusterAtPlace hJ _ _ q1 hq1) rfl rfl (Nat.le_of_ble_eq_true rfl) skC_b4 skC_c4 rfl (fun r7 => ?_)
      refine cb_iconst hok dX8_pick_40 ?_
      refine cb_cvv (as := [.inl r7, .inl 0]) (rest := []) hok lk_RX8_191 (by decide) (by decide) dX8_pick_41 (fun q1 hq1 => C_X0_toSideOf hJ _ _ _ q1 hq1) rfl rfl (Nat.le_of_ble_eq_true rfl) skC_b5 skC_c5 rfl (fun r8 g8 => ?_)
      refine cb_goto (tgt := 92) hok dX8_pick_44 (by decide) ?_
      refine cb_fewer (ls' := [some (.inr 0), none, none]) ⟨rfl, trivial⟩ ?_
      exact J_X8_pick_b92 hJ hok  _
  · refine cb_aload_n hok dX8_pick_12 rfl ?_
    refine cb_gr hok dX8_pick_13 fl_RX8_42 skC_b0 skC_c0 rfl ?_
    refine cb_iconst hok dX8_pick_16 ?_
    refine cb_iconst hok dX8_pick_17 ?_
    refine cb_cvv (as := [.inl 0, .inl 0]) (rest := []) hok lk_RX8_171 (by decide) (by decide) dX8_pick_18 (fun q1 hq1 => C_X0_place hJ _ _ _ q1 hq1) rfl rfl (Nat.le_of_ble_eq_true rfl) skC_b5 skC_c5 rfl (fun r9 g9 => ?_)
    refine cb_goto (tgt := 92) hok dX8_pick_21 (by decide) ?_
    refine cb_fewer (ls' := [some (.inr 0), none, none]) ⟨rfl, trivial⟩ ?_
    exact J_X8_pick_b92 hJ hok  _
/-! CaretBench select(II)I -/
def f_X8_select (g : cb_S) (x1 : Int) (x2 : Int) : Option (Int × cb_S) := (v_X1_isBetween g x1).bind (fun r1 => if cb_w r1 = 0 then (some (-1, g)) else ((v_X1_isBetween g x2).bind (fun r2 => if cb_w r2 = 0 then (some (-1, g)) else (cb_b (f_X4_gather g (if cb_w x1 ≤ cb_w x2 then x1 else x2) (if cb_w x1 < cb_w x2 then x2 else x1)) (fun r3 g3 => (v_X4_number g3 ).bind (fun r4 => some (r4, g3)))))))
set_option maxRecDepth 100000 in
theorem C_X8_select {O : cb_O} (hJ : cb_J O skC) (x1 : Int) (x2 : Int) (g : cb_S) : ∀ q, f_X8_select g x1 x2 = some q → cb_m O skC false yX8_select cX8_select 3 (some .int) rm_X8_select [.inr 0, .inl x1, .inl x2] g q := by
  intro q hq
  refine cb_of_body hJ (by decide) (Nat.le_of_ble_eq_true rfl) hq (fun M hok => ?_)
  show cb_j _ _ _ _ _ _ _ [some (.inr 0), some (.inl x1), some (.inl x2)] _ _ ((v_X1_isBetween g x1).bind (fun r1 => if cb_w r1 = 0 then (some (-1, g)) else ((v_X1_isBetween g x2).bind (fun r2 => if cb_w r2 = 0 then (some (-1, g)) else (cb_b (f_X4_gather g (if cb_w x1 ≤ cb_w x2 then x1 else x2) (if cb_w x1 < cb_w x2 then x2 else x1)) (fun r3 g3 => (v_X4_number g3 ).bind (fun r4 => some (r4, g3))))))))
  refine cb_aload_n hok dX8_select_0 rfl ?_
  refine cb_gr hok dX8_select_1 fl_RX8_19 skC_b0 skC_c0 rfl ?_
  refine cb_iload_n hok dX8_select_4 rfl ?_
  refine cb_cvr (as := [.inl x1]) (rest := []) hok lk_RX8_201 (by decide) (by decide) dX8_select_5 (fun q1 hq1 => C_X1_isBetween hJ _ _ q1 hq1) rfl rfl (Nat.le_of_ble_eq_true rfl) skC_b2 skC_c2 rfl (fun r1 => ?_)
  refine cb_ifeq (tgt := 22) hok rfl dX8_select_8 (by decide) (fun _ => ?_) (fun _ => ?_)
  · refine cb_iconst hok dX8_select_22 ?_
    exact cb_iret hok dX8_select_23
  · refine cb_aload_n hok dX8_select_11 rfl ?_
    refine cb_gr hok dX8_select_12 fl_RX8_19 skC_b0 skC_c0 rfl ?_
    refine cb_iload_n hok dX8_select_15 rfl ?_
    refine cb_cvr (as := [.inl x2]) (rest := []) hok lk_RX8_201 (by decide) (by decide) dX8_select_16 (fun q1 hq1 => C_X1_isBetween hJ _ _ q1 hq1) rfl rfl (Nat.le_of_ble_eq_true rfl) skC_b2 skC_c2 rfl (fun r2 => ?_)
    refine cb_ifne (tgt := 24) hok rfl dX8_select_19 (by decide) (fun _ => ?_) (fun _ => ?_)
    · refine cb_aload_n hok dX8_select_24 rfl ?_
      refine cb_gr hok dX8_select_25 fl_RX8_49 skC_b0 skC_c0 rfl ?_
      refine cb_aload_n hok dX8_select_28 rfl ?_
      refine cb_gr hok dX8_select_29 fl_RX8_19 skC_b0 skC_c0 rfl ?_
      refine cb_aload_n hok dX8_select_32 rfl ?_
      refine cb_gr hok dX8_select_33 fl_RX8_33 skC_b0 skC_c0 rfl ?_
      refine cb_iload_n hok dX8_select_36 rfl ?_
      refine cb_iload_n hok dX8_select_37 rfl ?_
      refine cb_min hok lm_RX8_204 (by decide) (Nat.le_of_ble_eq_true rfl) dX8_select_38 ?_
      refine cb_iload_n hok dX8_select_41 rfl ?_
      refine cb_iload_n hok dX8_select_42 rfl ?_
      refine cb_max hok lm_RX8_210 (by decide) (Nat.le_of_ble_eq_true rfl) dX8_select_43 ?_
      refine cb_cvv (as := [.inr 2, .inr 4, .inl (if cb_w x1 ≤ cb_w x2 then x1 else x2), .inl (if cb_w x1 < cb_w x2 then x2 else x1)]) (rest := []) hok lk_RX8_213 (by decide) (by decide) dX8_select_46 (fun q1 hq1 => C_X4_gather hJ _ _ _ q1 hq1) rfl rfl (Nat.le_of_ble_eq_true rfl) skC_b6 skC_c6 rfl (fun r3 g3 => ?_)
      refine cb_aload_n hok dX8_select_49 rfl ?_
      refine cb_gr hok dX8_select_50 fl_RX8_49 skC_b0 skC_c0 rfl ?_
      refine cb_cvr (as := []) (rest := []) hok lk_RX8_217 (by decide) (by decide) dX8_select_53 (fun q1 hq1 => C_X4_number hJ _ q1 hq1) rfl rfl (Nat.le_of_ble_eq_true rfl) skC_b6 skC_c6 rfl (fun r4 => ?_)
      exact cb_iret hok dX8_select_56
    · refine cb_iconst hok dX8_select_22 ?_
      exact cb_iret hok dX8_select_23
/-! CaretBench piece(II)I -/
def v_X8_piece (g : cb_S) (x1 : Int) (x2 : Int) : Option Int := if cb_w x2 = 0 then ((v_X4_leftOf g x1).bind (fun r1 => some r1)) else (if cb_w x2 = 1 then ((v_X4_rightOf g x1).bind (fun r2 => some r2)) else (some (-1)))
set_option maxRecDepth 100000 in
theorem C_X8_piece {O : cb_O} (hJ : cb_J O skC) (x1 : Int) (x2 : Int) (g : cb_S) : ∀ q, v_X8_piece g x1 x2 = some q → cb_m O skC false yX8_piece cX8_piece 3 (some .int) rm_X8_piece [.inr 0, .inl x1, .inl x2] g (q, g) := by
  intro q hq
  refine cr_of_body hJ (by decide) (Nat.le_of_ble_eq_true rfl) hq (fun M hok => ?_)
  show cb_jr _ _ _ _ _ _ [some (.inr 0), some (.inl x1), some (.inl x2)] _ _ (if cb_w x2 = 0 then ((v_X4_leftOf g x1).bind (fun r1 => some r1)) else (if cb_w x2 = 1 then ((v_X4_rightOf g x1).bind (fun r2 => some r2)) else (some (-1))))
  refine cr_iload_n hok dX8_piece_0 rfl ?_
  refine cr_ite (fun hs1 => ?_) (fun hs1 => ?_)
  · refine cr_lookup (tgt := 28) (off := 27) hok dX8_piece_1 (by decide) (by rw [hs1]; decide) (by decide) ?_
    refine cr_aload_n hok dX8_piece_28 rfl ?_
    refine cr_gr hok dX8_piece_29 fl_RX8_49 skC_b0 skC_c0 rfl ?_
    refine cr_iload_n hok dX8_piece_32 rfl ?_
    refine cr_cvr (as := [.inl x1]) (rest := []) hok lk_RX8_218 (by decide) (by decide) dX8_piece_33 (fun q1 hq1 => C_X4_leftOf hJ _ _ q1 hq1) rfl rfl (Nat.le_of_ble_eq_true rfl) skC_b6 skC_c6 rfl (fun r1 => ?_)
    exact cr_iret hok dX8_piece_36
  refine cr_ite (fun hs2 => ?_) (fun hs2 => ?_)
  · refine cr_lookup (tgt := 37) (off := 36) hok dX8_piece_1 (by decide) (by rw [hs2]; decide) (by decide) ?_
    refine cr_aload_n hok dX8_piece_37 rfl ?_
    refine cr_gr hok dX8_piece_38 fl_RX8_49 skC_b0 skC_c0 rfl ?_
    refine cr_iload_n hok dX8_piece_41 rfl ?_
    refine cr_cvr (as := [.inl x1]) (rest := []) hok lk_RX8_219 (by decide) (by decide) dX8_piece_42 (fun q1 hq1 => C_X4_rightOf hJ _ _ q1 hq1) rfl rfl (Nat.le_of_ble_eq_true rfl) skC_b6 skC_c6 rfl (fun r2 => ?_)
    exact cr_iret hok dX8_piece_45
  refine cr_lookup (tgt := 46) (off := 45) hok dX8_piece_1 (by decide) (by simp [Op.lookupswitch.offset, hs1, Ne.symm hs1, hs2, Ne.symm hs2]) (by decide) ?_
  refine cr_iconst hok dX8_piece_46 ?_
  exact cr_iret hok dX8_piece_47
/-! CaretBench back()I -/
def f_X8_back (g : cb_S) : Option (Int × cb_S) := (v_X0_stand g ).bind (fun r1 => (v_X3_at g (r1 - 1)).bind (fun r2 => (v_X7_isMark g r2).bind (fun r3 => if cb_w r3 = 0 then ((v_X1_aroundOrAheadOf g r1).bind (fun r4 => if cb_w r4 = (-1) then (some (0, g)) else ((v_X1_firstOf g r4).bind (fun r5 => (v_X1_endOf g r4).bind (fun r6 => cb_b (f_X8_strike g r5 r6 1) (fun r7 g7 => some (r7, g7))))))) else (cb_b (f_X8_strike g (r1 - 1) r1 1) (fun r8 g8 => some (r8, g8))))))
set_option maxRecDepth 100000 in
theorem C_X8_back {O : cb_O} (hJ : cb_J O skC) (g : cb_S) : ∀ q, f_X8_back g = some q → cb_m O skC false yX8_back cX8_back 3 (some .int) rm_X8_back [.inr 0] g q := by
  intro q hq
  refine cb_of_body hJ (by decide) (Nat.le_of_ble_eq_true rfl) hq (fun M hok => ?_)
  show cb_j _ _ _ _ _ _ _ [some (.inr 0), none, none] _ _ ((v_X0_stand g ).bind (fun r1 => (v_X3_at g (r1 - 1)).bind (fun r2 => (v_X7_isMark g r2).bind (fun r3 => if cb_w r3 = 0 then ((v_X1_aroundOrAheadOf g r1).bind (fun r4 => if cb_w r4 = (-1) then (some (0, g)) else ((v_X1_firstOf g r4).bind (fun r5 => (v_X1_endOf g r4).bind (fun r6 => cb_b (f_X8_strike g r5 r6 1) (fun r7 g7 => some (r7, g7))))))) else (cb_b (f_X8_strike g (r1 - 1) r1 1) (fun r8 g8 => some (r8, g8)))))))
  refine cb_aload_n hok dX8_back_0 rfl ?_
  refine cb_gr hok dX8_back_1 fl_RX8_42 skC_b0 skC_c0 rfl ?_
  refine cb_cvr (as := []) (rest := []) hok lk_RX8_91 (by decide) (by decide) dX8_back_4 (fun q1 hq1 => C_X0_stand hJ _ q1 hq1) rfl rfl (Nat.le_of_ble_eq_true rfl) skC_b5 skC_c5 rfl (fun r1 => ?_)
  refine cb_istore_n (ls' := [some (.inr 0), some (.inl r1), none]) hok dX8_back_7 (by decide) rfl ?_
  refine cb_aload_n hok dX8_back_8 rfl ?_
  refine cb_gr hok dX8_back_9 fl_RX8_10 skC_b0 skC_c0 rfl ?_
  refine cb_iload_n hok dX8_back_12 rfl ?_
  refine cb_iconst hok dX8_back_13 ?_
  refine cb_isub hok dX8_back_14 ?_
  refine cb_cvr (as := [.inl (r1 - 1)]) (rest := []) hok lk_RX8_123 (by decide) (by decide) dX8_back_15 (fun q1 hq1 => C_X3_at hJ _ _ q1 hq1) rfl rfl (Nat.le_of_ble_eq_true rfl) skC_b1 skC_c1 rfl (fun r2 => ?_)
  refine cb_csr (as := [.inl r2]) (rest := []) hok lk_RX8_222 (by decide) (by decide) dX8_back_18 (fun q1 hq1 => C_X7_isMark hJ _ _ q1 hq1) rfl rfl (Nat.le_of_ble_eq_true rfl) (fun r3 => ?_)
  refine cb_ifeq (tgt := 34) hok rfl dX8_back_21 (by decide) (fun _ => ?_) (fun _ => ?_)
  · refine cb_aload_n hok dX8_back_34 rfl ?_
    refine cb_gr hok dX8_back_35 fl_RX8_19 skC_b0 skC_c0 rfl ?_
    refine cb_iload_n hok dX8_back_38 rfl ?_
    refine cb_cvr (as := [.inl r1]) (rest := []) hok lk_RX8_225 (by decide) (by decide) dX8_back_39 (fun q1 hq1 => C_X1_aroundOrAheadOf hJ _ _ q1 hq1) rfl rfl (Nat.le_of_ble_eq_true rfl) skC_b2 skC_c2 rfl (fun r4 => ?_)
    refine cb_istore_n (ls' := [some (.inr 0), some (.inl r1), some (.inl r4)]) hok dX8_back_42 (by decide) rfl ?_
    refine cb_iload_n hok dX8_back_43 rfl ?_
    refine cb_iconst hok dX8_back_44 ?_
    refine cb_icne (tgt := 52) hok rfl (by decide) dX8_back_45 (by decide) (fun _ => ?_) (fun _ => ?_)
    · refine cb_aload_n hok dX8_back_52 rfl ?_
      refine cb_aload_n hok dX8_back_53 rfl ?_
      refine cb_gr hok dX8_back_54 fl_RX8_19 skC_b0 skC_c0 rfl ?_
      refine cb_iload_n hok dX8_back_57 rfl ?_
      refine cb_cvr (as := [.inl r4]) (rest := [.inr 0]) hok lk_RX8_134 (by decide) (by decide) dX8_back_58 (fun q1 hq1 => C_X1_firstOf hJ _ _ q1 hq1) rfl rfl (Nat.le_of_ble_eq_true rfl) skC_b2 skC_c2 rfl (fun r5 => ?_)
      refine cb_aload_n hok dX8_back_61 rfl ?_
      refine cb_gr hok dX8_back_62 fl_RX8_19 skC_b0 skC_c0 rfl ?_
      refine cb_iload_n hok dX8_back_65 rfl ?_
      refine cb_cvr (as := [.inl r4]) (rest := [.inl r5, .inr 0]) hok lk_RX8_137 (by decide) (by decide) dX8_back_66 (fun q1 hq1 => C_X1_endOf hJ _ _ q1 hq1) rfl rfl (Nat.le_of_ble_eq_true rfl) skC_b2 skC_c2 rfl (fun r6 => ?_)
      refine cb_iconst hok dX8_back_69 ?_
      refine cb_cvi (as := [.inl r5, .inl r6, .inl 1]) (rest := []) hok lk_RX8_104 (by decide) (by decide) dX8_back_70 (fun q1 hq1 => C_X8_strike hJ _ _ _ _ q1 hq1) rfl rfl (Nat.le_of_ble_eq_true rfl) skC_b0 skC_c0 rfl (fun r7 g7 => ?_)
      exact cb_iret hok dX8_back_73
    · refine cb_iconst hok dX8_back_48 ?_
      refine cb_goto (tgt := 73) hok dX8_back_49 (by decide) ?_
      exact cb_iret hok dX8_back_73
  · refine cb_aload_n hok dX8_back_24 rfl ?_
    refine cb_iload_n hok dX8_back_25 rfl ?_
    refine cb_iconst hok dX8_back_26 ?_
    refine cb_isub hok dX8_back_27 ?_
    refine cb_iload_n hok dX8_back_28 rfl ?_
    refine cb_iconst hok dX8_back_29 ?_
    refine cb_cvi (as := [.inl (r1 - 1), .inl r1, .inl 1]) (rest := []) hok lk_RX8_104 (by decide) (by decide) dX8_back_30 (fun q1 hq1 => C_X8_strike hJ _ _ _ _ q1 hq1) rfl rfl (Nat.le_of_ble_eq_true rfl) skC_b0 skC_c0 rfl (fun r8 g8 => ?_)
    exact cb_iret hok dX8_back_33
/-! CaretBench ahead()I -/
def f_X8_ahead (g : cb_S) : Option (Int × cb_S) := (v_X0_stand g ).bind (fun r1 => (v_X1_aroundOrBehind g r1).bind (fun r2 => if cb_w r2 = (-1) then (some (0, g)) else ((v_X1_firstOf g r2).bind (fun r3 => (v_X1_endOf g r2).bind (fun r4 => cb_b (f_X8_strike g r3 r4 0) (fun r5 g5 => some (r5, g5)))))))
set_option maxRecDepth 100000 in
theorem C_X8_ahead {O : cb_O} (hJ : cb_J O skC) (g : cb_S) : ∀ q, f_X8_ahead g = some q → cb_m O skC false yX8_ahead cX8_ahead 2 (some .int) rm_X8_ahead [.inr 0] g q := by
  intro q hq
  refine cb_of_body hJ (by decide) (Nat.le_of_ble_eq_true rfl) hq (fun M hok => ?_)
  show cb_j _ _ _ _ _ _ _ [some (.inr 0), none] _ _ ((v_X0_stand g ).bind (fun r1 => (v_X1_aroundOrBehind g r1).bind (fun r2 => if cb_w r2 = (-1) then (some (0, g)) else ((v_X1_firstOf g r2).bind (fun r3 => (v_X1_endOf g r2).bind (fun r4 => cb_b (f_X8_strike g r3 r4 0) (fun r5 g5 => some (r5, g5))))))))
  refine cb_aload_n hok dX8_ahead_0 rfl ?_
  refine cb_gr hok dX8_ahead_1 fl_RX8_19 skC_b0 skC_c0 rfl ?_
  refine cb_aload_n hok dX8_ahead_4 rfl ?_
  refine cb_gr hok dX8_ahead_5 fl_RX8_42 skC_b0 skC_c0 rfl ?_
  refine cb_cvr (as := []) (rest := [.inr 2]) hok lk_RX8_91 (by decide) (by decide) dX8_ahead_8 (fun q1 hq1 => C_X0_stand hJ _ q1 hq1) rfl rfl (Nat.le_of_ble_eq_true rfl) skC_b5 skC_c5 rfl (fun r1 => ?_)
  refine cb_cvr (as := [.inl r1]) (rest := []) hok lk_RX8_228 (by decide) (by decide) dX8_ahead_11 (fun q1 hq1 => C_X1_aroundOrBehind hJ _ _ q1 hq1) rfl rfl (Nat.le_of_ble_eq_true rfl) skC_b2 skC_c2 rfl (fun r2 => ?_)
  refine cb_istore_n (ls' := [some (.inr 0), some (.inl r2)]) hok dX8_ahead_14 (by decide) rfl ?_
  refine cb_iload_n hok dX8_ahead_15 rfl ?_
  refine cb_iconst hok dX8_ahead_16 ?_
  refine cb_icne (tgt := 24) hok rfl (by decide) dX8_ahead_17 (by decide) (fun _ => ?_) (fun _ => ?_)
  · refine cb_aload_n hok dX8_ahead_24 rfl ?_
    refine cb_aload_n hok dX8_ahead_25 rfl ?_
    refine cb_gr hok dX8_ahead_26 fl_RX8_19 skC_b0 skC_c0 rfl ?_
    refine cb_iload_n hok dX8_ahead_29 rfl ?_
    refine cb_cvr (as := [.inl r2]) (rest := [.inr 0]) hok lk_RX8_134 (by decide) (by decide) dX8_ahead_30 (fun q1 hq1 => C_X1_firstOf hJ _ _ q1 hq1) rfl rfl (Nat.le_of_ble_eq_true rfl) skC_b2 skC_c2 rfl (fun r3 => ?_)
    refine cb_aload_n hok dX8_ahead_33 rfl ?_
    refine cb_gr hok dX8_ahead_34 fl_RX8_19 skC_b0 skC_c0 rfl ?_
    refine cb_iload_n hok dX8_ahead_37 rfl ?_
    refine cb_cvr (as := [.inl r2]) (rest := [.inl r3, .inr 0]) hok lk_RX8_137 (by decide) (by decide) dX8_ahead_38 (fun q1 hq1 => C_X1_endOf hJ _ _ q1 hq1) rfl rfl (Nat.le_of_ble_eq_true rfl) skC_b2 skC_c2 rfl (fun r4 => ?_)
    refine cb_iconst hok dX8_ahead_41 ?_
    refine cb_cvi (as := [.inl r3, .inl r4, .inl 0]) (rest := []) hok lk_RX8_104 (by decide) (by decide) dX8_ahead_42 (fun q1 hq1 => C_X8_strike hJ _ _ _ _ q1 hq1) rfl rfl (Nat.le_of_ble_eq_true rfl) skC_b0 skC_c0 rfl (fun r5 g5 => ?_)
    exact cb_iret hok dX8_ahead_45
  · refine cb_iconst hok dX8_ahead_20 ?_
    refine cb_goto (tgt := 45) hok dX8_ahead_21 (by decide) ?_
    exact cb_iret hok dX8_ahead_45
/-! CaretBench type(I)Z -/
def f_X8_type (g : cb_S) (x1 : Int) : Option (Int × cb_S) := (v_X7_isSign g x1).bind (fun r1 => if cb_w r1 = 0 then (some (0, g)) else ((v_X3_hasRoomFor g 1).bind (fun r2 => if cb_w r2 = 0 then (some (0, g)) else (cb_b (f_X8_keepForUndo g ) (fun r3 g3 => (v_X0_stand g3 ).bind (fun r4 => cb_b (f_X3_insert g3 r4 x1) (fun r5 g5 => cb_b (f_X8_layOut g5 ) (fun r6 g6 => (v_X0_stand g6 ).bind (fun r7 => cb_b (f_X0_settle g6 (r7 + 1) 0) (fun r8 g8 => some (1, g8)))))))))))
set_option maxRecDepth 100000 in
theorem C_X8_type {O : cb_O} (hJ : cb_J O skC) (x1 : Int) (g : cb_S) : ∀ q, f_X8_type g x1 = some q → cb_m O skC false yX8_type cX8_type 2 (some .boolean) rm_X8_type [.inr 0, .inl x1] g q := by
  intro q hq
  refine cb_of_body hJ (by decide) (Nat.le_of_ble_eq_true rfl) hq (fun M hok => ?_)
  show cb_j _ _ _ _ _ _ _ [some (.inr 0), some (.inl x1)] _ _ ((v_X7_isSign g x1).bind (fun r1 => if cb_w r1 = 0 then (some (0, g)) else ((v_X3_hasRoomFor g 1).bind (fun r2 => if cb_w r2 = 0 then (some (0, g)) else (cb_b (f_X8_keepForUndo g ) (fun r3 g3 => (v_X0_stand g3 ).bind (fun r4 => cb_b (f_X3_insert g3 r4 x1) (fun r5 g5 => cb_b (f_X8_layOut g5 ) (fun r6 g6 => (v_X0_stand g6 ).bind (fun r7 => cb_b (f_X0_settle g6 (r7 + 1) 0) (fun r8 g8 => some (1, g8))))))))))))
  refine cb_iload_n hok dX8_type_0 rfl ?_
  refine cb_csr (as := [.inl x1]) (rest := []) hok lk_RX8_75 (by decide) (by decide) dX8_type_1 (fun q1 hq1 => C_X7_isSign hJ _ _ q1 hq1) rfl rfl (Nat.le_of_ble_eq_true rfl) (fun r1 => ?_)
  refine cb_ifeq (tgt := 18) hok rfl dX8_type_4 (by decide) (fun _ => ?_) (fun _ => ?_)
  · refine cb_iconst hok dX8_type_18 ?_
    exact cb_zret hok dX8_type_19 (by decide)
  · refine cb_aload_n hok dX8_type_7 rfl ?_
    refine cb_gr hok dX8_type_8 fl_RX8_10 skC_b0 skC_c0 rfl ?_
    refine cb_iconst hok dX8_type_11 ?_
    refine cb_cvr (as := [.inl 1]) (rest := []) hok lk_RX8_81 (by decide) (by decide) dX8_type_12 (fun q1 hq1 => C_X3_hasRoomFor hJ _ _ q1 hq1) rfl rfl (Nat.le_of_ble_eq_true rfl) skC_b1 skC_c1 rfl (fun r2 => ?_)
    refine cb_ifne (tgt := 20) hok rfl dX8_type_15 (by decide) (fun _ => ?_) (fun _ => ?_)
    · refine cb_aload_n hok dX8_type_20 rfl ?_
      refine cb_cvv (as := []) (rest := []) hok lk_RX8_84 (by decide) (by decide) dX8_type_21 (fun q1 hq1 => C_X8_keepForUndo hJ _ q1 hq1) rfl rfl (Nat.le_of_ble_eq_true rfl) skC_b0 skC_c0 rfl (fun r3 g3 => ?_)
      refine cb_aload_n hok dX8_type_24 rfl ?_
      refine cb_gr hok dX8_type_25 fl_RX8_10 skC_b0 skC_c0 rfl ?_
      refine cb_aload_n hok dX8_type_28 rfl ?_
      refine cb_gr hok dX8_type_29 fl_RX8_42 skC_b0 skC_c0 rfl ?_
      refine cb_cvr (as := []) (rest := [.inr 1]) hok lk_RX8_91 (by decide) (by decide) dX8_type_32 (fun q1 hq1 => C_X0_stand hJ _ q1 hq1) rfl rfl (Nat.le_of_ble_eq_true rfl) skC_b5 skC_c5 rfl (fun r4 => ?_)
      refine cb_iload_n hok dX8_type_35 rfl ?_
      refine cb_cvv (as := [.inl r4, .inl x1]) (rest := []) hok lk_RX8_231 (by decide) (by decide) dX8_type_36 (fun q1 hq1 => C_X3_insert hJ _ _ _ q1 hq1) rfl rfl (Nat.le_of_ble_eq_true rfl) skC_b1 skC_c1 rfl (fun r5 g5 => ?_)
      refine cb_aload_n hok dX8_type_39 rfl ?_
      refine cb_cvv (as := []) (rest := []) hok lk_RX8_60 (by decide) (by decide) dX8_type_40 (fun q1 hq1 => C_X8_layOut hJ _ q1 hq1) rfl rfl (Nat.le_of_ble_eq_true rfl) skC_b0 skC_c0 rfl (fun r6 g6 => ?_)
      refine cb_aload_n hok dX8_type_43 rfl ?_
      refine cb_gr hok dX8_type_44 fl_RX8_42 skC_b0 skC_c0 rfl ?_
      refine cb_aload_n hok dX8_type_47 rfl ?_
      refine cb_gr hok dX8_type_48 fl_RX8_42 skC_b0 skC_c0 rfl ?_
      refine cb_cvr (as := []) (rest := [.inr 5]) hok lk_RX8_91 (by decide) (by decide) dX8_type_51 (fun q1 hq1 => C_X0_stand hJ _ q1 hq1) rfl rfl (Nat.le_of_ble_eq_true rfl) skC_b5 skC_c5 rfl (fun r7 => ?_)
      refine cb_iconst hok dX8_type_54 ?_
      refine cb_iadd hok dX8_type_55 ?_
      refine cb_iconst hok dX8_type_56 ?_
      refine cb_cvv (as := [.inl (r7 + 1), .inl 0]) (rest := []) hok lk_RX8_97 (by decide) (by decide) dX8_type_57 (fun q1 hq1 => C_X0_settle hJ _ _ _ q1 hq1) rfl rfl (Nat.le_of_ble_eq_true rfl) skC_b5 skC_c5 rfl (fun r8 g8 => ?_)
      refine cb_iconst hok dX8_type_60 ?_
      exact cb_zret hok dX8_type_61 (by decide)
    · refine cb_iconst hok dX8_type_18 ?_
      exact cb_zret hok dX8_type_19 (by decide)
/-! CaretBench cut(II)I -/
def f_X8_cut (g : cb_S) (x1 : Int) (x2 : Int) : Option (Int × cb_S) := (v_X1_isStand g x1).bind (fun r1 => if cb_w r1 = 0 then (some (-1, g)) else ((v_X1_isStand g x2).bind (fun r2 => if cb_w r2 = 0 then (some (-1, g)) else (cb_b (f_X8_strike g (if cb_w x1 ≤ cb_w x2 then x1 else x2) (if cb_w x1 < cb_w x2 then x2 else x1) 0) (fun r3 g3 => some (r3, g3))))))
set_option maxRecDepth 100000 in
theorem C_X8_cut {O : cb_O} (hJ : cb_J O skC) (x1 : Int) (x2 : Int) (g : cb_S) : ∀ q, f_X8_cut g x1 x2 = some q → cb_m O skC false yX8_cut cX8_cut 3 (some .int) rm_X8_cut [.inr 0, .inl x1, .inl x2] g q := by
  intro q hq
  refine cb_of_body hJ (by decide) (Nat.le_of_ble_eq_true rfl) hq (fun M hok => ?_)
  show cb_j _ _ _ _ _ _ _ [some (.inr 0), some (.inl x1), some (.inl x2)] _ _ ((v_X1_isStand g x1).bind (fun r1 => if cb_w r1 = 0 then (some (-1, g)) else ((v_X1_isStand g x2).bind (fun r2 => if cb_w r2 = 0 then (some (-1, g)) else (cb_b (f_X8_strike g (if cb_w x1 ≤ cb_w x2 then x1 else x2) (if cb_w x1 < cb_w x2 then x2 else x1) 0) (fun r3 g3 => some (r3, g3)))))))
  refine cb_aload_n hok dX8_cut_0 rfl ?_
  refine cb_gr hok dX8_cut_1 fl_RX8_19 skC_b0 skC_c0 rfl ?_
  refine cb_iload_n hok dX8_cut_4 rfl ?_
  refine cb_cvr (as := [.inl x1]) (rest := []) hok lk_RX8_168 (by decide) (by decide) dX8_cut_5 (fun q1 hq1 => C_X1_isStand hJ _ _ q1 hq1) rfl rfl (Nat.le_of_ble_eq_true rfl) skC_b2 skC_c2 rfl (fun r1 => ?_)
  refine cb_ifeq (tgt := 22) hok rfl dX8_cut_8 (by decide) (fun _ => ?_) (fun _ => ?_)
  · refine cb_iconst hok dX8_cut_22 ?_
    exact cb_iret hok dX8_cut_23
  · refine cb_aload_n hok dX8_cut_11 rfl ?_
    refine cb_gr hok dX8_cut_12 fl_RX8_19 skC_b0 skC_c0 rfl ?_
    refine cb_iload_n hok dX8_cut_15 rfl ?_
    refine cb_cvr (as := [.inl x2]) (rest := []) hok lk_RX8_168 (by decide) (by decide) dX8_cut_16 (fun q1 hq1 => C_X1_isStand hJ _ _ q1 hq1) rfl rfl (Nat.le_of_ble_eq_true rfl) skC_b2 skC_c2 rfl (fun r2 => ?_)
    refine cb_ifne (tgt := 24) hok rfl dX8_cut_19 (by decide) (fun _ => ?_) (fun _ => ?_)
    · refine cb_aload_n hok dX8_cut_24 rfl ?_
      refine cb_iload_n hok dX8_cut_25 rfl ?_
      refine cb_iload_n hok dX8_cut_26 rfl ?_
      refine cb_min hok lm_RX8_204 (by decide) (Nat.le_of_ble_eq_true rfl) dX8_cut_27 ?_
      refine cb_iload_n hok dX8_cut_30 rfl ?_
      refine cb_iload_n hok dX8_cut_31 rfl ?_
      refine cb_max hok lm_RX8_210 (by decide) (Nat.le_of_ble_eq_true rfl) dX8_cut_32 ?_
      refine cb_iconst hok dX8_cut_35 ?_
      refine cb_cvi (as := [.inl (if cb_w x1 ≤ cb_w x2 then x1 else x2), .inl (if cb_w x1 < cb_w x2 then x2 else x1), .inl 0]) (rest := []) hok lk_RX8_104 (by decide) (by decide) dX8_cut_36 (fun q1 hq1 => C_X8_strike hJ _ _ _ _ q1 hq1) rfl rfl (Nat.le_of_ble_eq_true rfl) skC_b0 skC_c0 rfl (fun r3 g3 => ?_)
      exact cb_iret hok dX8_cut_39
    · refine cb_iconst hok dX8_cut_22 ?_
      exact cb_iret hok dX8_cut_23
/-! CaretBench undo()I -/
def f_X8_undo (g : cb_S) : Option (Int × cb_S) := cb_b (f_X2_takeBack g ) (fun r1 g1 => if cb_w r1 = 0 then (some (-1, g1)) else (cb_b (f_X8_layOut g1 ) (fun r2 g2 => (v_X2_standTaken g2 ).bind (fun r3 => (v_X2_sideTaken g2 ).bind (fun r4 => cb_b (f_X0_settle g2 r3 r4) (fun r5 g5 => (v_X2_number g5 ).bind (fun r6 => some (r6, g5))))))))
set_option maxRecDepth 100000 in
theorem C_X8_undo {O : cb_O} (hJ : cb_J O skC) (g : cb_S) : ∀ q, f_X8_undo g = some q → cb_m O skC false yX8_undo cX8_undo 1 (some .int) rm_X8_undo [.inr 0] g q := by
  intro q hq
  refine cb_of_body hJ (by decide) (Nat.le_of_ble_eq_true rfl) hq (fun M hok => ?_)
  show cb_j _ _ _ _ _ _ _ [some (.inr 0)] _ _ (cb_b (f_X2_takeBack g ) (fun r1 g1 => if cb_w r1 = 0 then (some (-1, g1)) else (cb_b (f_X8_layOut g1 ) (fun r2 g2 => (v_X2_standTaken g2 ).bind (fun r3 => (v_X2_sideTaken g2 ).bind (fun r4 => cb_b (f_X0_settle g2 r3 r4) (fun r5 g5 => (v_X2_number g5 ).bind (fun r6 => some (r6, g5)))))))))
  refine cb_aload_n hok dX8_undo_0 rfl ?_
  refine cb_gr hok dX8_undo_1 fl_RX8_56 skC_b0 skC_c0 rfl ?_
  refine cb_aload_n hok dX8_undo_4 rfl ?_
  refine cb_gr hok dX8_undo_5 fl_RX8_10 skC_b0 skC_c0 rfl ?_
  refine cb_cvi (as := [.inr 1]) (rest := []) hok lk_RX8_234 (by decide) (by decide) dX8_undo_8 (fun q1 hq1 => C_X2_takeBack hJ _ q1 hq1) rfl rfl (Nat.le_of_ble_eq_true rfl) skC_b7 skC_c7 rfl (fun r1 g1 => ?_)
  refine cb_ifne (tgt := 16) hok rfl dX8_undo_11 (by decide) (fun _ => ?_) (fun _ => ?_)
  · refine cb_aload_n hok dX8_undo_16 rfl ?_
    refine cb_cvv (as := []) (rest := []) hok lk_RX8_60 (by decide) (by decide) dX8_undo_17 (fun q1 hq1 => C_X8_layOut hJ _ q1 hq1) rfl rfl (Nat.le_of_ble_eq_true rfl) skC_b0 skC_c0 rfl (fun r2 g2 => ?_)
    refine cb_aload_n hok dX8_undo_20 rfl ?_
    refine cb_gr hok dX8_undo_21 fl_RX8_42 skC_b0 skC_c0 rfl ?_
    refine cb_aload_n hok dX8_undo_24 rfl ?_
    refine cb_gr hok dX8_undo_25 fl_RX8_56 skC_b0 skC_c0 rfl ?_
    refine cb_cvr (as := []) (rest := [.inr 5]) hok lk_RX8_238 (by decide) (by decide) dX8_undo_28 (fun q1 hq1 => C_X2_standTaken hJ _ q1 hq1) rfl rfl (Nat.le_of_ble_eq_true rfl) skC_b7 skC_c7 rfl (fun r3 => ?_)
    refine cb_aload_n hok dX8_undo_31 rfl ?_
    refine cb_gr hok dX8_undo_32 fl_RX8_56 skC_b0 skC_c0 rfl ?_
    refine cb_cvr (as := []) (rest := [.inl r3, .inr 5]) hok lk_RX8_241 (by decide) (by decide) dX8_undo_35 (fun q1 hq1 => C_X2_sideTaken hJ _ q1 hq1) rfl rfl (Nat.le_of_ble_eq_true rfl) skC_b7 skC_c7 rfl (fun r4 => ?_)
    refine cb_cvv (as := [.inl r3, .inl r4]) (rest := []) hok lk_RX8_97 (by decide) (by decide) dX8_undo_38 (fun q1 hq1 => C_X0_settle hJ _ _ _ q1 hq1) rfl rfl (Nat.le_of_ble_eq_true rfl) skC_b5 skC_c5 rfl (fun r5 g5 => ?_)
    refine cb_aload_n hok dX8_undo_41 rfl ?_
    refine cb_gr hok dX8_undo_42 fl_RX8_56 skC_b0 skC_c0 rfl ?_
    refine cb_cvr (as := []) (rest := []) hok lk_RX8_244 (by decide) (by decide) dX8_undo_45 (fun q1 hq1 => C_X2_number hJ _ q1 hq1) rfl rfl (Nat.le_of_ble_eq_true rfl) skC_b7 skC_c7 rfl (fun r6 => ?_)
    exact cb_iret hok dX8_undo_48
  · refine cb_iconst hok dX8_undo_14 ?_
    exact cb_iret hok dX8_undo_15
/-! CaretBenchModel keeps()V -/
def f_X9_keeps_b142 : Nat → Int → cb_S → Option (Int × cb_S)
  | 0 => fun _ _ => none
  | n + 1 => fun x1 g => if 64 ≤ cb_w x1 then (some (0, cb_u g 0 5 ((g 0 5) + 1))) else (if 0 ≤ cb_w x1 ∧ cb_w x1 < (64 : Nat) then (if 0 ≤ cb_w ((64 * (g 0 5)) + x1) ∧ cb_w ((64 * (g 0 5)) + x1) < (512 : Nat) then ((f_X9_keeps_b142 n) (x1 + 1) (cb_u g 3 (cb_w ((64 * (g 0 5)) + x1)).toNat (g 1 ((cb_w x1).toNat)))) else none) else none)
set_option maxRecDepth 100000 in
theorem J_X9_keeps_b142 {O : cb_O} {M : cb_M} (hJ : cb_J O skM) (hok : cb_ok O skM M cX9_keeps 2 RX9 none) : ∀ (n : Nat) (x1 : Int) (g : cb_S), cb_j O skM true rm_X9_keeps M 2 142 [some (.inr 0), some (.inl x1)] [] g (f_X9_keeps_b142 n x1 g) := by
  intro n
  induction n with
  | zero => intros; exact cb_none
  | succ n hk142 =>
    intro x1 g
    show cb_j _ _ _ _ _ _ _ _ _ _ (if 64 ≤ cb_w x1 then (some (0, cb_u g 0 5 ((g 0 5) + 1))) else (if 0 ≤ cb_w x1 ∧ cb_w x1 < (64 : Nat) then (if 0 ≤ cb_w ((64 * (g 0 5)) + x1) ∧ cb_w ((64 * (g 0 5)) + x1) < (512 : Nat) then ((f_X9_keeps_b142 n) (x1 + 1) (cb_u g 3 (cb_w ((64 * (g 0 5)) + x1)).toNat (g 1 ((cb_w x1).toNat)))) else none) else none))
    refine cb_iload_n hok dX9_keeps_142 rfl ?_
    refine cb_bipush hok dX9_keeps_143 (by decide) ?_
    refine cb_icge (tgt := 174) hok rfl (by decide) dX9_keeps_145 (by decide) (fun _ => ?_) (fun _ => ?_)
    · refine cb_aload_n hok dX9_keeps_174 rfl ?_
      refine cb_dup hok dX9_keeps_175 ?_
      refine cb_gi hok dX9_keeps_176 fl_RX9_77 skM_b0 skM_c0 rfl ?_
      refine cb_iconst hok dX9_keeps_179 ?_
      refine cb_iadd hok dX9_keeps_180 ?_
      refine cb_pi hok dX9_keeps_181 fp_RX9_77 skM_b0 skM_c0 rfl ?_
      exact cb_vret hok dX9_keeps_184
    · refine cb_aload_n hok dX9_keeps_148 rfl ?_
      refine cb_gr hok dX9_keeps_149 fl_RX9_16 skM_b0 skM_c0 rfl ?_
      refine cb_bipush hok dX9_keeps_152 (by decide) ?_
      refine cb_aload_n hok dX9_keeps_154 rfl ?_
      refine cb_gi hok dX9_keeps_155 fl_RX9_77 skM_b0 skM_c0 rfl ?_
      refine cb_imul hok dX9_keeps_158 ?_
      refine cb_iload_n hok dX9_keeps_159 rfl ?_
      refine cb_iadd hok dX9_keeps_160 ?_
      refine cb_aload_n hok dX9_keeps_161 rfl ?_
      refine cb_gr hok dX9_keeps_162 fl_RX9_7 skM_b0 skM_c0 rfl ?_
      refine cb_iload_n hok dX9_keeps_165 rfl ?_
      refine cb_iald hok dX9_keeps_166 skM_b1 skM_c1 ?_
      refine cb_iast hok dX9_keeps_167 skM_b3 skM_c3 ?_
      refine cb_iinc (ls' := [some (.inr 0), some (.inl (x1 + 1))]) hok dX9_keeps_168 rfl (by decide) rfl ?_
      refine cb_goto (tgt := 142) hok dX9_keeps_171 (by decide) ?_
      refine cb_fewer (ls' := [some (.inr 0), some (.inl (x1 + 1))]) ⟨rfl, ⟨rfl, trivial⟩⟩ ?_
      exact hk142 _ _
def f_X9_keeps_b101 (g : cb_S) : Option (Int × cb_S) := if 0 ≤ cb_w (g 0 5) ∧ cb_w (g 0 5) < (8 : Nat) then (if 0 ≤ cb_w (g 0 5) ∧ cb_w (g 0 5) < (8 : Nat) then (if 0 ≤ cb_w (g 0 5) ∧ cb_w (g 0 5) < (8 : Nat) then (f_X9_keeps_b142  cb_N 0 (cb_u (cb_u (cb_u g 2 (cb_w (g 0 5)).toNat (g 0 1)) 4 (cb_w (g 0 5)).toNat (g 0 3)) 5 (cb_w (g 0 5)).toNat (g 0 4))) else none) else none) else none
set_option maxRecDepth 100000 in
theorem J_X9_keeps_b101 {O : cb_O} {M : cb_M} (hJ : cb_J O skM) (hok : cb_ok O skM M cX9_keeps 2 RX9 none) : ∀ (g : cb_S), cb_j O skM true rm_X9_keeps M 2 101 [some (.inr 0), none] [] g (f_X9_keeps_b101 g) := by
  intro g
  show cb_j _ _ _ _ _ _ _ _ _ _ (if 0 ≤ cb_w (g 0 5) ∧ cb_w (g 0 5) < (8 : Nat) then (if 0 ≤ cb_w (g 0 5) ∧ cb_w (g 0 5) < (8 : Nat) then (if 0 ≤ cb_w (g 0 5) ∧ cb_w (g 0 5) < (8 : Nat) then (f_X9_keeps_b142  cb_N 0 (cb_u (cb_u (cb_u g 2 (cb_w (g 0 5)).toNat (g 0 1)) 4 (cb_w (g 0 5)).toNat (g 0 3)) 5 (cb_w (g 0 5)).toNat (g 0 4))) else none) else none) else none)
  refine cb_aload_n hok dX9_keeps_101 rfl ?_
  refine cb_gr hok dX9_keeps_102 fl_RX9_13 skM_b0 skM_c0 rfl ?_
  refine cb_aload_n hok dX9_keeps_105 rfl ?_
  refine cb_gi hok dX9_keeps_106 fl_RX9_77 skM_b0 skM_c0 rfl ?_
  refine cb_aload_n hok dX9_keeps_109 rfl ?_
  refine cb_gi hok dX9_keeps_110 fl_RX9_81 skM_b0 skM_c0 rfl ?_
  refine cb_iast hok dX9_keeps_113 skM_b2 skM_c2 ?_
  refine cb_aload_n hok dX9_keeps_114 rfl ?_
  refine cb_gr hok dX9_keeps_115 fl_RX9_19 skM_b0 skM_c0 rfl ?_
  refine cb_aload_n hok dX9_keeps_118 rfl ?_
  refine cb_gi hok dX9_keeps_119 fl_RX9_77 skM_b0 skM_c0 rfl ?_
  refine cb_top (y := g 0 5) rfl ?_
  refine cb_aload_n hok dX9_keeps_122 rfl ?_
  refine cb_gi hok dX9_keeps_123 fl_RX9_84 skM_b0 skM_c0 rfl ?_
  refine cb_top (y := g 0 3) rfl ?_
  refine cb_iast hok dX9_keeps_126 skM_b4 skM_c4 ?_
  refine cb_aload_n hok dX9_keeps_127 rfl ?_
  refine cb_gr hok dX9_keeps_128 fl_RX9_22 skM_b0 skM_c0 rfl ?_
  refine cb_aload_n hok dX9_keeps_131 rfl ?_
  refine cb_gi hok dX9_keeps_132 fl_RX9_77 skM_b0 skM_c0 rfl ?_
  refine cb_top (y := g 0 5) rfl ?_
  refine cb_aload_n hok dX9_keeps_135 rfl ?_
  refine cb_gi hok dX9_keeps_136 fl_RX9_87 skM_b0 skM_c0 rfl ?_
  refine cb_top (y := g 0 4) rfl ?_
  refine cb_iast hok dX9_keeps_139 skM_b5 skM_c5 ?_
  refine cb_iconst hok dX9_keeps_140 ?_
  refine cb_istore_n (ls' := [some (.inr 0), some (.inl 0)]) hok dX9_keeps_141 (by decide) rfl ?_
  refine cb_fewer (ls' := [some (.inr 0), some (.inl 0)]) ⟨rfl, ⟨rfl, trivial⟩⟩ ?_
  exact J_X9_keeps_b142 hJ hok  cb_N _ _
def f_X9_keeps_b67 : Nat → Int → cb_S → Option (Int × cb_S)
  | 0 => fun _ _ => none
  | n + 1 => fun x1 g => if 448 ≤ cb_w x1 then (f_X9_keeps_b101  (cb_u g 0 5 7)) else (if 0 ≤ cb_w (x1 + 64) ∧ cb_w (x1 + 64) < (512 : Nat) then (if 0 ≤ cb_w x1 ∧ cb_w x1 < (512 : Nat) then ((f_X9_keeps_b67 n) (x1 + 1) (cb_u g 3 (cb_w x1).toNat (g 3 ((cb_w (x1 + 64)).toNat)))) else none) else none)
set_option maxRecDepth 100000 in
theorem J_X9_keeps_b67 {O : cb_O} {M : cb_M} (hJ : cb_J O skM) (hok : cb_ok O skM M cX9_keeps 2 RX9 none) : ∀ (n : Nat) (x1 : Int) (g : cb_S), cb_j O skM true rm_X9_keeps M 2 67 [some (.inr 0), some (.inl x1)] [] g (f_X9_keeps_b67 n x1 g) := by
  intro n
  induction n with
  | zero => intros; exact cb_none
  | succ n hk67 =>
    intro x1 g
    show cb_j _ _ _ _ _ _ _ _ _ _ (if 448 ≤ cb_w x1 then (f_X9_keeps_b101  (cb_u g 0 5 7)) else (if 0 ≤ cb_w (x1 + 64) ∧ cb_w (x1 + 64) < (512 : Nat) then (if 0 ≤ cb_w x1 ∧ cb_w x1 < (512 : Nat) then ((f_X9_keeps_b67 n) (x1 + 1) (cb_u g 3 (cb_w x1).toNat (g 3 ((cb_w (x1 + 64)).toNat)))) else none) else none))
    refine cb_iload_n hok dX9_keeps_67 rfl ?_
    refine cb_sipush hok dX9_keeps_68 (by decide) ?_
    refine cb_icge (tgt := 95) hok rfl (by decide) dX9_keeps_71 (by decide) (fun _ => ?_) (fun _ => ?_)
    · refine cb_aload_n hok dX9_keeps_95 rfl ?_
      refine cb_bipush hok dX9_keeps_96 (by decide) ?_
      refine cb_pi hok dX9_keeps_98 fp_RX9_77 skM_b0 skM_c0 rfl ?_
      refine cb_fewer (ls' := [some (.inr 0), none]) ⟨rfl, trivial⟩ ?_
      exact J_X9_keeps_b101 hJ hok  _
    · refine cb_aload_n hok dX9_keeps_74 rfl ?_
      refine cb_gr hok dX9_keeps_75 fl_RX9_16 skM_b0 skM_c0 rfl ?_
      refine cb_iload_n hok dX9_keeps_78 rfl ?_
      refine cb_aload_n hok dX9_keeps_79 rfl ?_
      refine cb_gr hok dX9_keeps_80 fl_RX9_16 skM_b0 skM_c0 rfl ?_
      refine cb_iload_n hok dX9_keeps_83 rfl ?_
      refine cb_bipush hok dX9_keeps_84 (by decide) ?_
      refine cb_iadd hok dX9_keeps_86 ?_
      refine cb_iald hok dX9_keeps_87 skM_b3 skM_c3 ?_
      refine cb_iast hok dX9_keeps_88 skM_b3 skM_c3 ?_
      refine cb_iinc (ls' := [some (.inr 0), some (.inl (x1 + 1))]) hok dX9_keeps_89 rfl (by decide) rfl ?_
      refine cb_goto (tgt := 67) hok dX9_keeps_92 (by decide) ?_
      refine cb_fewer (ls' := [some (.inr 0), some (.inl (x1 + 1))]) ⟨rfl, ⟨rfl, trivial⟩⟩ ?_
      exact hk67 _ _
def f_X9_keeps_b11 : Nat → Int → cb_S → Option (Int × cb_S)
  | 0 => fun _ _ => none
  | n + 1 => fun x1 g => if 7 ≤ cb_w x1 then (f_X9_keeps_b67  cb_N 0 g) else (if 0 ≤ cb_w (x1 + 1) ∧ cb_w (x1 + 1) < (8 : Nat) then (if 0 ≤ cb_w x1 ∧ cb_w x1 < (8 : Nat) then (if 0 ≤ cb_w (x1 + 1) ∧ cb_w (x1 + 1) < (8 : Nat) then (if 0 ≤ cb_w x1 ∧ cb_w x1 < (8 : Nat) then (if 0 ≤ cb_w (x1 + 1) ∧ cb_w (x1 + 1) < (8 : Nat) then (if 0 ≤ cb_w x1 ∧ cb_w x1 < (8 : Nat) then ((f_X9_keeps_b11 n) (x1 + 1) (cb_u (cb_u (cb_u g 2 (cb_w x1).toNat (g 2 ((cb_w (x1 + 1)).toNat))) 4 (cb_w x1).toNat (g 4 ((cb_w (x1 + 1)).toNat))) 5 (cb_w x1).toNat (g 5 ((cb_w (x1 + 1)).toNat)))) else none) else none) else none) else none) else none) else none)
set_option maxRecDepth 100000 in
theorem J_X9_keeps_b11 {O : cb_O} {M : cb_M} (hJ : cb_J O skM) (hok : cb_ok O skM M cX9_keeps 2 RX9 none) : ∀ (n : Nat) (x1 : Int) (g : cb_S), cb_j O skM true rm_X9_keeps M 2 11 [some (.inr 0), some (.inl x1)] [] g (f_X9_keeps_b11 n x1 g) := by
  intro n
  induction n with
  | zero => intros; exact cb_none
  | succ n hk11 =>
    intro x1 g
    show cb_j _ _ _ _ _ _ _ _ _ _ (if 7 ≤ cb_w x1 then (f_X9_keeps_b67  cb_N 0 g) else (if 0 ≤ cb_w (x1 + 1) ∧ cb_w (x1 + 1) < (8 : Nat) then (if 0 ≤ cb_w x1 ∧ cb_w x1 < (8 : Nat) then (if 0 ≤ cb_w (x1 + 1) ∧ cb_w (x1 + 1) < (8 : Nat) then (if 0 ≤ cb_w x1 ∧ cb_w x1 < (8 : Nat) then (if 0 ≤ cb_w (x1 + 1) ∧ cb_w (x1 + 1) < (8 : Nat) then (if 0 ≤ cb_w x1 ∧ cb_w x1 < (8 : Nat) then ((f_X9_keeps_b11 n) (x1 + 1) (cb_u (cb_u (cb_u g 2 (cb_w x1).toNat (g 2 ((cb_w (x1 + 1)).toNat))) 4 (cb_w x1).toNat (g 4 ((cb_w (x1 + 1)).toNat))) 5 (cb_w x1).toNat (g 5 ((cb_w (x1 + 1)).toNat)))) else none) else none) else none) else none) else none) else none))
    refine cb_iload_n hok dX9_keeps_11 rfl ?_
    refine cb_bipush hok dX9_keeps_12 (by decide) ?_
    refine cb_icge (tgt := 65) hok rfl (by decide) dX9_keeps_14 (by decide) (fun _ => ?_) (fun _ => ?_)
    · refine cb_iconst hok dX9_keeps_65 ?_
      refine cb_istore_n (ls' := [some (.inr 0), some (.inl 0)]) hok dX9_keeps_66 (by decide) rfl ?_
      refine cb_fewer (ls' := [some (.inr 0), some (.inl 0)]) ⟨rfl, ⟨rfl, trivial⟩⟩ ?_
      exact J_X9_keeps_b67 hJ hok  cb_N _ _
    · refine cb_aload_n hok dX9_keeps_17 rfl ?_
      refine cb_gr hok dX9_keeps_18 fl_RX9_13 skM_b0 skM_c0 rfl ?_
      refine cb_iload_n hok dX9_keeps_21 rfl ?_
      refine cb_aload_n hok dX9_keeps_22 rfl ?_
      refine cb_gr hok dX9_keeps_23 fl_RX9_13 skM_b0 skM_c0 rfl ?_
      refine cb_iload_n hok dX9_keeps_26 rfl ?_
      refine cb_iconst hok dX9_keeps_27 ?_
      refine cb_iadd hok dX9_keeps_28 ?_
      refine cb_iald hok dX9_keeps_29 skM_b2 skM_c2 ?_
      refine cb_iast hok dX9_keeps_30 skM_b2 skM_c2 ?_
      refine cb_aload_n hok dX9_keeps_31 rfl ?_
      refine cb_gr hok dX9_keeps_32 fl_RX9_19 skM_b0 skM_c0 rfl ?_
      refine cb_iload_n hok dX9_keeps_35 rfl ?_
      refine cb_aload_n hok dX9_keeps_36 rfl ?_
      refine cb_gr hok dX9_keeps_37 fl_RX9_19 skM_b0 skM_c0 rfl ?_
      refine cb_iload_n hok dX9_keeps_40 rfl ?_
      refine cb_iconst hok dX9_keeps_41 ?_
      refine cb_iadd hok dX9_keeps_42 ?_
      refine cb_iald hok dX9_keeps_43 skM_b4 skM_c4 ?_
      refine cb_top (y := g 4 ((cb_w (x1 + 1)).toNat)) (by first | rfl | (simp [cb_u])) ?_
      refine cb_iast hok dX9_keeps_44 skM_b4 skM_c4 ?_
      refine cb_aload_n hok dX9_keeps_45 rfl ?_
      refine cb_gr hok dX9_keeps_46 fl_RX9_22 skM_b0 skM_c0 rfl ?_
      refine cb_iload_n hok dX9_keeps_49 rfl ?_
      refine cb_aload_n hok dX9_keeps_50 rfl ?_
      refine cb_gr hok dX9_keeps_51 fl_RX9_22 skM_b0 skM_c0 rfl ?_
      refine cb_iload_n hok dX9_keeps_54 rfl ?_
      refine cb_iconst hok dX9_keeps_55 ?_
      refine cb_iadd hok dX9_keeps_56 ?_
      refine cb_iald hok dX9_keeps_57 skM_b5 skM_c5 ?_
      refine cb_top (y := g 5 ((cb_w (x1 + 1)).toNat)) (by first | rfl | (simp [cb_u])) ?_
      refine cb_iast hok dX9_keeps_58 skM_b5 skM_c5 ?_
      refine cb_iinc (ls' := [some (.inr 0), some (.inl (x1 + 1))]) hok dX9_keeps_59 rfl (by decide) rfl ?_
      refine cb_goto (tgt := 11) hok dX9_keeps_62 (by decide) ?_
      refine cb_fewer (ls' := [some (.inr 0), some (.inl (x1 + 1))]) ⟨rfl, ⟨rfl, trivial⟩⟩ ?_
      exact hk11 _ _
def f_X9_keeps (g : cb_S) : Option (Int × cb_S) := if cb_w (g 0 5) = 8 then (f_X9_keeps_b11  cb_N 0 g) else (f_X9_keeps_b101  g)
set_option maxRecDepth 100000 in
theorem C_X9_keeps {O : cb_O} (hJ : cb_J O skM) (g : cb_S) : ∀ q, f_X9_keeps g = some q → cb_m O skM true yX9_keeps cX9_keeps 2 none rm_X9_keeps [.inr 0] g q := by
  intro q hq
  refine cb_of_body hJ (by decide) (Nat.le_of_ble_eq_true rfl) hq (fun M hok => ?_)
  show cb_j _ _ _ _ _ _ _ [some (.inr 0), none] _ _ (if cb_w (g 0 5) = 8 then (f_X9_keeps_b11  cb_N 0 g) else (f_X9_keeps_b101  g))
  refine cb_aload_n hok dX9_keeps_0 rfl ?_
  refine cb_gi hok dX9_keeps_1 fl_RX9_77 skM_b0 skM_c0 rfl ?_
  refine cb_bipush hok dX9_keeps_4 (by decide) ?_
  refine cb_icne (tgt := 101) hok rfl (by decide) dX9_keeps_6 (by decide) (fun _ => ?_) (fun _ => ?_)
  · refine cb_fewer (ls' := [some (.inr 0), none]) ⟨rfl, trivial⟩ ?_
    exact J_X9_keeps_b101 hJ hok  _
  · refine cb_iconst hok dX9_keeps_9 ?_
    refine cb_istore_n (ls' := [some (.inr 0), some (.inl 0)]) hok dX9_keeps_10 (by decide) rfl ?_
    refine cb_fewer (ls' := [some (.inr 0), some (.inl 0)]) ⟨rfl, ⟨rfl, trivial⟩⟩ ?_
    exact J_X9_keeps_b11 hJ hok  cb_N _ _
