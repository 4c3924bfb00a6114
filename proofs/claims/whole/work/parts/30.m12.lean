/-! CaretBenchModel sign(I)I -/
def v_X9_sign (g : cb_S) (x1 : Int) : Option Int := if cb_w x1 < 0 then (some (-1)) else (if cb_w (g 0 1) ≤ cb_w x1 then (some (-1)) else (if 0 ≤ cb_w x1 ∧ cb_w x1 < (64 : Nat) then (some (g 1 ((cb_w x1).toNat))) else none))
set_option maxRecDepth 100000 in
theorem C_X9_sign {O : cb_O} (hJ : cb_J O skM) (x1 : Int) (g : cb_S) : ∀ q, v_X9_sign g x1 = some q → cb_m O skM false yX9_sign cX9_sign 2 (some .int) rm_X9_sign [.inr 0, .inl x1] g (q, g) := by
  intro q hq
  refine cr_of_body hJ (by decide) (Nat.le_of_ble_eq_true rfl) hq (fun M hok => ?_)
  show cb_jr _ _ _ _ _ _ [some (.inr 0), some (.inl x1)] _ _ (if cb_w x1 < 0 then (some (-1)) else (if cb_w (g 0 1) ≤ cb_w x1 then (some (-1)) else (if 0 ≤ cb_w x1 ∧ cb_w x1 < (64 : Nat) then (some (g 1 ((cb_w x1).toNat))) else none)))
  refine cr_iload_n hok dX9_sign_0 rfl ?_
  refine cr_iflt (tgt := 21) hok rfl dX9_sign_1 (by decide) (fun _ => ?_) (fun _ => ?_)
  · refine cr_iconst hok dX9_sign_21 ?_
    exact cr_iret hok dX9_sign_22
  · refine cr_iload_n hok dX9_sign_4 rfl ?_
    refine cr_aload_n hok dX9_sign_5 rfl ?_
    refine cr_gi hok dX9_sign_6 fl_RX9_81 skM_b0 skM_c0 rfl ?_
    refine cr_icge (tgt := 21) hok rfl rfl dX9_sign_9 (by decide) (fun _ => ?_) (fun _ => ?_)
    · refine cr_iconst hok dX9_sign_21 ?_
      exact cr_iret hok dX9_sign_22
    · refine cr_aload_n hok dX9_sign_12 rfl ?_
      refine cr_gr hok dX9_sign_13 fl_RX9_7 skM_b0 skM_c0 rfl ?_
      refine cr_iload_n hok dX9_sign_16 rfl ?_
      refine cr_iald hok dX9_sign_17 skM_b1 skM_c1 ?_
      refine cr_goto (tgt := 22) hok dX9_sign_18 (by decide) ?_
      exact cr_iret hok dX9_sign_22
/-! CaretBenchModel level(I)I -/
def f_X9_level (g : cb_S) (x1 : Int) : Option (Int × cb_S) := if cb_w x1 < 0 then (some (-1, g)) else (if cb_w x1 < cb_w (g 0 1) then (cb_b (f_X9_looks g ) (fun r1 g1 => if 0 ≤ cb_w x1 ∧ cb_w x1 < (64 : Nat) then (some (g1 11 ((cb_w x1).toNat), g1)) else none)) else (some (-1, g)))
set_option maxRecDepth 100000 in
theorem C_X9_level {O : cb_O} (hJ : cb_J O skM) (x1 : Int) (g : cb_S) : ∀ q, f_X9_level g x1 = some q → cb_m O skM false yX9_level cX9_level 2 (some .int) rm_X9_level [.inr 0, .inl x1] g q := by
  intro q hq
  refine cb_of_body hJ (by decide) (Nat.le_of_ble_eq_true rfl) hq (fun M hok => ?_)
  show cb_j _ _ _ _ _ _ _ [some (.inr 0), some (.inl x1)] _ _ (if cb_w x1 < 0 then (some (-1, g)) else (if cb_w x1 < cb_w (g 0 1) then (cb_b (f_X9_looks g ) (fun r1 g1 => if 0 ≤ cb_w x1 ∧ cb_w x1 < (64 : Nat) then (some (g1 11 ((cb_w x1).toNat), g1)) else none)) else (some (-1, g))))
  refine cb_iload_n hok dX9_level_0 rfl ?_
  refine cb_iflt (tgt := 12) hok rfl dX9_level_1 (by decide) (fun _ => ?_) (fun _ => ?_)
  · refine cb_iconst hok dX9_level_12 ?_
    exact cb_iret hok dX9_level_13
  · refine cb_iload_n hok dX9_level_4 rfl ?_
    refine cb_aload_n hok dX9_level_5 rfl ?_
    refine cb_gi hok dX9_level_6 fl_RX9_81 skM_b0 skM_c0 rfl ?_
    refine cb_iclt (tgt := 14) hok rfl rfl dX9_level_9 (by decide) (fun _ => ?_) (fun _ => ?_)
    · refine cb_aload_n hok dX9_level_14 rfl ?_
      refine cb_cvv (as := []) (rest := []) hok lk_RX9_162 (by decide) (by decide) dX9_level_15 (fun q1 hq1 => C_X9_looks hJ _ q1 hq1) rfl rfl (Nat.le_of_ble_eq_true rfl) skM_b0 skM_c0 rfl (fun r1 g1 => ?_)
      refine cb_aload_n hok dX9_level_18 rfl ?_
      refine cb_gr hok dX9_level_19 fl_RX9_41 skM_b0 skM_c0 rfl ?_
      refine cb_iload_n hok dX9_level_22 rfl ?_
      refine cb_iald hok dX9_level_23 skM_b11 skM_c11 ?_
      exact cb_iret hok dX9_level_24
    · refine cb_iconst hok dX9_level_12 ?_
      exact cb_iret hok dX9_level_13
/-! CaretBenchModel cluster(II)I -/
def f_X9_cluster (g : cb_S) (x1 : Int) (x2 : Int) : Option (Int × cb_S) := cb_b (f_X9_looks g ) (fun r1 g1 => if cb_w x1 < 0 then (some (-1, g1)) else (if cb_w x1 < cb_w (g1 0 20) then (if cb_w x2 = 0 then (if 0 ≤ cb_w x1 ∧ cb_w x1 < (64 : Nat) then (some (g1 14 ((cb_w x1).toNat), g1)) else none) else (if cb_w x2 = 1 then (if 0 ≤ cb_w x1 ∧ cb_w x1 < (64 : Nat) then (some (g1 15 ((cb_w x1).toNat), g1)) else none) else (if cb_w x2 = 2 then (if 0 ≤ cb_w x1 ∧ cb_w x1 < (64 : Nat) then (if 0 ≤ cb_w (g1 14 ((cb_w x1).toNat)) ∧ cb_w (g1 14 ((cb_w x1).toNat)) < (64 : Nat) then (some (g1 11 ((cb_w (g1 14 ((cb_w x1).toNat))).toNat), g1)) else none) else none) else (if cb_w x2 = 3 then (if 0 ≤ cb_w x1 ∧ cb_w x1 < (64 : Nat) then (some (g1 18 ((cb_w x1).toNat), g1)) else none) else (if cb_w x2 = 4 then (if 0 ≤ cb_w x1 ∧ cb_w x1 < (64 : Nat) then (some (g1 17 ((cb_w x1).toNat), g1)) else none) else (if cb_w x2 = 5 then (if 0 ≤ cb_w x1 ∧ cb_w x1 < (64 : Nat) then (if cb_w (g1 16 ((cb_w x1).toNat)) = 0 then (some (0, g1)) else (some (1, g1))) else none) else (if cb_w x2 = 6 then (if 0 ≤ cb_w x1 ∧ cb_w x1 < (64 : Nat) then (some (g1 19 ((cb_w x1).toNat), g1)) else none) else (some (-1, g1))))))))) else (some (-1, g1))))
set_option maxRecDepth 100000 in
theorem C_X9_cluster {O : cb_O} (hJ : cb_J O skM) (x1 : Int) (x2 : Int) (g : cb_S) : ∀ q, f_X9_cluster g x1 x2 = some q → cb_m O skM false yX9_cluster cX9_cluster 3 (some .int) rm_X9_cluster [.inr 0, .inl x1, .inl x2] g q := by
  intro q hq
  refine cb_of_body hJ (by decide) (Nat.le_of_ble_eq_true rfl) hq (fun M hok => ?_)
  show cb_j _ _ _ _ _ _ _ [some (.inr 0), some (.inl x1), some (.inl x2)] _ _ (cb_b (f_X9_looks g ) (fun r1 g1 => if cb_w x1 < 0 then (some (-1, g1)) else (if cb_w x1 < cb_w (g1 0 20) then (if cb_w x2 = 0 then (if 0 ≤ cb_w x1 ∧ cb_w x1 < (64 : Nat) then (some (g1 14 ((cb_w x1).toNat), g1)) else none) else (if cb_w x2 = 1 then (if 0 ≤ cb_w x1 ∧ cb_w x1 < (64 : Nat) then (some (g1 15 ((cb_w x1).toNat), g1)) else none) else (if cb_w x2 = 2 then (if 0 ≤ cb_w x1 ∧ cb_w x1 < (64 : Nat) then (if 0 ≤ cb_w (g1 14 ((cb_w x1).toNat)) ∧ cb_w (g1 14 ((cb_w x1).toNat)) < (64 : Nat) then (some (g1 11 ((cb_w (g1 14 ((cb_w x1).toNat))).toNat), g1)) else none) else none) else (if cb_w x2 = 3 then (if 0 ≤ cb_w x1 ∧ cb_w x1 < (64 : Nat) then (some (g1 18 ((cb_w x1).toNat), g1)) else none) else (if cb_w x2 = 4 then (if 0 ≤ cb_w x1 ∧ cb_w x1 < (64 : Nat) then (some (g1 17 ((cb_w x1).toNat), g1)) else none) else (if cb_w x2 = 5 then (if 0 ≤ cb_w x1 ∧ cb_w x1 < (64 : Nat) then (if cb_w (g1 16 ((cb_w x1).toNat)) = 0 then (some (0, g1)) else (some (1, g1))) else none) else (if cb_w x2 = 6 then (if 0 ≤ cb_w x1 ∧ cb_w x1 < (64 : Nat) then (some (g1 19 ((cb_w x1).toNat), g1)) else none) else (some (-1, g1))))))))) else (some (-1, g1)))))
  refine cb_aload_n hok dX9_cluster_0 rfl ?_
  refine cb_cvv (as := []) (rest := []) hok lk_RX9_162 (by decide) (by decide) dX9_cluster_1 (fun q1 hq1 => C_X9_looks hJ _ q1 hq1) rfl rfl (Nat.le_of_ble_eq_true rfl) skM_b0 skM_c0 rfl (fun r1 g1 => ?_)
  refine cb_iload_n hok dX9_cluster_4 rfl ?_
  refine cb_iflt (tgt := 16) hok rfl dX9_cluster_5 (by decide) (fun _ => ?_) (fun _ => ?_)
  · refine cb_iconst hok dX9_cluster_16 ?_
    exact cb_iret hok dX9_cluster_17
  · refine cb_iload_n hok dX9_cluster_8 rfl ?_
    refine cb_aload_n hok dX9_cluster_9 rfl ?_
    refine cb_gi hok dX9_cluster_10 fl_RX9_129 skM_b0 skM_c0 rfl ?_
    refine cb_iclt (tgt := 18) hok rfl rfl dX9_cluster_13 (by decide) (fun _ => ?_) (fun _ => ?_)
    · refine cb_iload_n hok dX9_cluster_18 rfl ?_
      refine cb_ite (fun hs1 => ?_) (fun hs1 => ?_)
      · refine cb_tabIn (tgt := 60) hok (0) hs1 dX9_cluster_19 (by decide) (by decide) rfl (by decide) ?_
        refine cb_aload_n hok dX9_cluster_60 rfl ?_
        refine cb_gr hok dX9_cluster_61 fl_RX9_50 skM_b0 skM_c0 rfl ?_
        refine cb_iload_n hok dX9_cluster_64 rfl ?_
        refine cb_iald hok dX9_cluster_65 skM_b14 skM_c14 ?_
        exact cb_iret hok dX9_cluster_66
      refine cb_ite (fun hs2 => ?_) (fun hs2 => ?_)
      · refine cb_tabIn (tgt := 67) hok (1) hs2 dX9_cluster_19 (by decide) (by decide) rfl (by decide) ?_
        refine cb_aload_n hok dX9_cluster_67 rfl ?_
        refine cb_gr hok dX9_cluster_68 fl_RX9_53 skM_b0 skM_c0 rfl ?_
        refine cb_iload_n hok dX9_cluster_71 rfl ?_
        refine cb_iald hok dX9_cluster_72 skM_b15 skM_c15 ?_
        exact cb_iret hok dX9_cluster_73
      refine cb_ite (fun hs3 => ?_) (fun hs3 => ?_)
      · refine cb_tabIn (tgt := 74) hok (2) hs3 dX9_cluster_19 (by decide) (by decide) rfl (by decide) ?_
        refine cb_aload_n hok dX9_cluster_74 rfl ?_
        refine cb_gr hok dX9_cluster_75 fl_RX9_41 skM_b0 skM_c0 rfl ?_
        refine cb_aload_n hok dX9_cluster_78 rfl ?_
        refine cb_gr hok dX9_cluster_79 fl_RX9_50 skM_b0 skM_c0 rfl ?_
        refine cb_iload_n hok dX9_cluster_82 rfl ?_
        refine cb_iald hok dX9_cluster_83 skM_b14 skM_c14 ?_
        refine cb_iald hok dX9_cluster_84 skM_b11 skM_c11 ?_
        exact cb_iret hok dX9_cluster_85
      refine cb_ite (fun hs4 => ?_) (fun hs4 => ?_)
      · refine cb_tabIn (tgt := 86) hok (3) hs4 dX9_cluster_19 (by decide) (by decide) rfl (by decide) ?_
        refine cb_aload_n hok dX9_cluster_86 rfl ?_
        refine cb_gr hok dX9_cluster_87 fl_RX9_62 skM_b0 skM_c0 rfl ?_
        refine cb_iload_n hok dX9_cluster_90 rfl ?_
        refine cb_iald hok dX9_cluster_91 skM_b18 skM_c18 ?_
        exact cb_iret hok dX9_cluster_92
      refine cb_ite (fun hs5 => ?_) (fun hs5 => ?_)
      · refine cb_tabIn (tgt := 93) hok (4) hs5 dX9_cluster_19 (by decide) (by decide) rfl (by decide) ?_
        refine cb_aload_n hok dX9_cluster_93 rfl ?_
        refine cb_gr hok dX9_cluster_94 fl_RX9_59 skM_b0 skM_c0 rfl ?_
        refine cb_iload_n hok dX9_cluster_97 rfl ?_
        refine cb_iald hok dX9_cluster_98 skM_b17 skM_c17 ?_
        exact cb_iret hok dX9_cluster_99
      refine cb_ite (fun hs6 => ?_) (fun hs6 => ?_)
      · refine cb_tabIn (tgt := 100) hok (5) hs6 dX9_cluster_19 (by decide) (by decide) rfl (by decide) ?_
        refine cb_aload_n hok dX9_cluster_100 rfl ?_
        refine cb_gr hok dX9_cluster_101 fl_RX9_56 skM_b0 skM_c0 rfl ?_
        refine cb_iload_n hok dX9_cluster_104 rfl ?_
        refine cb_zald hok dX9_cluster_105 skM_b16 skM_c16 ?_
        refine cb_ifeq (tgt := 113) hok rfl dX9_cluster_106 (by decide) (fun _ => ?_) (fun _ => ?_)
        · refine cb_iconst hok dX9_cluster_113 ?_
          exact cb_iret hok dX9_cluster_114
        · refine cb_iconst hok dX9_cluster_109 ?_
          refine cb_goto (tgt := 114) hok dX9_cluster_110 (by decide) ?_
          exact cb_iret hok dX9_cluster_114
      refine cb_ite (fun hs7 => ?_) (fun hs7 => ?_)
      · refine cb_tabIn (tgt := 115) hok (6) hs7 dX9_cluster_19 (by decide) (by decide) rfl (by decide) ?_
        refine cb_aload_n hok dX9_cluster_115 rfl ?_
        refine cb_gr hok dX9_cluster_116 fl_RX9_65 skM_b0 skM_c0 rfl ?_
        refine cb_iload_n hok dX9_cluster_119 rfl ?_
        refine cb_iald hok dX9_cluster_120 skM_b19 skM_c19 ?_
        exact cb_iret hok dX9_cluster_121
      refine cb_tabOut (tgt := 122) hok dX9_cluster_19 (by omega) (by decide) ?_
      refine cb_iconst hok dX9_cluster_122 ?_
      exact cb_iret hok dX9_cluster_123
    · refine cb_iconst hok dX9_cluster_16 ?_
      exact cb_iret hok dX9_cluster_17
/-! CaretBenchModel seen(I)I -/
def f_X9_seen (g : cb_S) (x1 : Int) : Option (Int × cb_S) := cb_b (f_X9_looks g ) (fun r1 g1 => if cb_w x1 < 0 then (some (-1, g1)) else (if cb_w x1 < cb_w (g1 0 20) then (if 0 ≤ cb_w x1 ∧ cb_w x1 < (64 : Nat) then (if 0 ≤ cb_w (g1 20 ((cb_w x1).toNat)) ∧ cb_w (g1 20 ((cb_w x1).toNat)) < (64 : Nat) then (if 0 ≤ cb_w (g1 14 ((cb_w (g1 20 ((cb_w x1).toNat))).toNat)) ∧ cb_w (g1 14 ((cb_w (g1 20 ((cb_w x1).toNat))).toNat)) < (64 : Nat) then (if 0 ≤ cb_w x1 ∧ cb_w x1 < (64 : Nat) then (if 0 ≤ cb_w (g1 20 ((cb_w x1).toNat)) ∧ cb_w (g1 20 ((cb_w x1).toNat)) < (64 : Nat) then (if 0 ≤ cb_w (g1 14 ((cb_w (g1 20 ((cb_w x1).toNat))).toNat)) ∧ cb_w (g1 14 ((cb_w (g1 20 ((cb_w x1).toNat))).toNat)) < (64 : Nat) then (if cb_w ((cb_w (g1 11 ((cb_w (g1 14 ((cb_w (g1 20 ((cb_w x1).toNat))).toNat))).toNat))).tmod 2) = 0 then (some (g1 1 ((cb_w (g1 14 ((cb_w (g1 20 ((cb_w x1).toNat))).toNat))).toNat), g1)) else (if cb_w (g1 1 ((cb_w (g1 14 ((cb_w (g1 20 ((cb_w x1).toNat))).toNat))).toNat)) = 40 then (some (41, g1)) else (if cb_w (g1 1 ((cb_w (g1 14 ((cb_w (g1 20 ((cb_w x1).toNat))).toNat))).toNat)) = 41 then (some (40, g1)) else (if cb_w (g1 1 ((cb_w (g1 14 ((cb_w (g1 20 ((cb_w x1).toNat))).toNat))).toNat)) = 60 then (some (62, g1)) else (if cb_w (g1 1 ((cb_w (g1 14 ((cb_w (g1 20 ((cb_w x1).toNat))).toNat))).toNat)) = 62 then (some (60, g1)) else (some (g1 1 ((cb_w (g1 14 ((cb_w (g1 20 ((cb_w x1).toNat))).toNat))).toNat), g1))))))) else none) else none) else none) else none) else none) else none) else (some (-1, g1))))
set_option maxRecDepth 100000 in
theorem C_X9_seen {O : cb_O} (hJ : cb_J O skM) (x1 : Int) (g : cb_S) : ∀ q, f_X9_seen g x1 = some q → cb_m O skM false yX9_seen cX9_seen 3 (some .int) rm_X9_seen [.inr 0, .inl x1] g q := by
  intro q hq
  refine cb_of_body hJ (by decide) (Nat.le_of_ble_eq_true rfl) hq (fun M hok => ?_)
  show cb_j _ _ _ _ _ _ _ [some (.inr 0), some (.inl x1), none] _ _ (cb_b (f_X9_looks g ) (fun r1 g1 => if cb_w x1 < 0 then (some (-1, g1)) else (if cb_w x1 < cb_w (g1 0 20) then (if 0 ≤ cb_w x1 ∧ cb_w x1 < (64 : Nat) then (if 0 ≤ cb_w (g1 20 ((cb_w x1).toNat)) ∧ cb_w (g1 20 ((cb_w x1).toNat)) < (64 : Nat) then (if 0 ≤ cb_w (g1 14 ((cb_w (g1 20 ((cb_w x1).toNat))).toNat)) ∧ cb_w (g1 14 ((cb_w (g1 20 ((cb_w x1).toNat))).toNat)) < (64 : Nat) then (if 0 ≤ cb_w x1 ∧ cb_w x1 < (64 : Nat) then (if 0 ≤ cb_w (g1 20 ((cb_w x1).toNat)) ∧ cb_w (g1 20 ((cb_w x1).toNat)) < (64 : Nat) then (if 0 ≤ cb_w (g1 14 ((cb_w (g1 20 ((cb_w x1).toNat))).toNat)) ∧ cb_w (g1 14 ((cb_w (g1 20 ((cb_w x1).toNat))).toNat)) < (64 : Nat) then (if cb_w ((cb_w (g1 11 ((cb_w (g1 14 ((cb_w (g1 20 ((cb_w x1).toNat))).toNat))).toNat))).tmod 2) = 0 then (some (g1 1 ((cb_w (g1 14 ((cb_w (g1 20 ((cb_w x1).toNat))).toNat))).toNat), g1)) else (if cb_w (g1 1 ((cb_w (g1 14 ((cb_w (g1 20 ((cb_w x1).toNat))).toNat))).toNat)) = 40 then (some (41, g1)) else (if cb_w (g1 1 ((cb_w (g1 14 ((cb_w (g1 20 ((cb_w x1).toNat))).toNat))).toNat)) = 41 then (some (40, g1)) else (if cb_w (g1 1 ((cb_w (g1 14 ((cb_w (g1 20 ((cb_w x1).toNat))).toNat))).toNat)) = 60 then (some (62, g1)) else (if cb_w (g1 1 ((cb_w (g1 14 ((cb_w (g1 20 ((cb_w x1).toNat))).toNat))).toNat)) = 62 then (some (60, g1)) else (some (g1 1 ((cb_w (g1 14 ((cb_w (g1 20 ((cb_w x1).toNat))).toNat))).toNat), g1))))))) else none) else none) else none) else none) else none) else none) else (some (-1, g1)))))
  refine cb_aload_n hok dX9_seen_0 rfl ?_
  refine cb_cvv (as := []) (rest := []) hok lk_RX9_162 (by decide) (by decide) dX9_seen_1 (fun q1 hq1 => C_X9_looks hJ _ q1 hq1) rfl rfl (Nat.le_of_ble_eq_true rfl) skM_b0 skM_c0 rfl (fun r1 g1 => ?_)
  refine cb_iload_n hok dX9_seen_4 rfl ?_
  refine cb_iflt (tgt := 16) hok rfl dX9_seen_5 (by decide) (fun _ => ?_) (fun _ => ?_)
  · refine cb_iconst hok dX9_seen_16 ?_
    exact cb_iret hok dX9_seen_17
  · refine cb_iload_n hok dX9_seen_8 rfl ?_
    refine cb_aload_n hok dX9_seen_9 rfl ?_
    refine cb_gi hok dX9_seen_10 fl_RX9_129 skM_b0 skM_c0 rfl ?_
    refine cb_iclt (tgt := 18) hok rfl rfl dX9_seen_13 (by decide) (fun _ => ?_) (fun _ => ?_)
    · refine cb_aload_n hok dX9_seen_18 rfl ?_
      refine cb_gr hok dX9_seen_19 fl_RX9_7 skM_b0 skM_c0 rfl ?_
      refine cb_aload_n hok dX9_seen_22 rfl ?_
      refine cb_gr hok dX9_seen_23 fl_RX9_50 skM_b0 skM_c0 rfl ?_
      refine cb_aload_n hok dX9_seen_26 rfl ?_
      refine cb_gr hok dX9_seen_27 fl_RX9_68 skM_b0 skM_c0 rfl ?_
      refine cb_iload_n hok dX9_seen_30 rfl ?_
      refine cb_iald hok dX9_seen_31 skM_b20 skM_c20 ?_
      refine cb_iald hok dX9_seen_32 skM_b14 skM_c14 ?_
      refine cb_iald hok dX9_seen_33 skM_b1 skM_c1 ?_
      refine cb_istore_n (ls' := [some (.inr 0), some (.inl x1), some (.inl (g1 1 ((cb_w (g1 14 ((cb_w (g1 20 ((cb_w x1).toNat))).toNat))).toNat)))]) hok dX9_seen_34 (by decide) rfl ?_
      refine cb_aload_n hok dX9_seen_35 rfl ?_
      refine cb_gr hok dX9_seen_36 fl_RX9_41 skM_b0 skM_c0 rfl ?_
      refine cb_aload_n hok dX9_seen_39 rfl ?_
      refine cb_gr hok dX9_seen_40 fl_RX9_50 skM_b0 skM_c0 rfl ?_
      refine cb_aload_n hok dX9_seen_43 rfl ?_
      refine cb_gr hok dX9_seen_44 fl_RX9_68 skM_b0 skM_c0 rfl ?_
      refine cb_iload_n hok dX9_seen_47 rfl ?_
      refine cb_iald hok dX9_seen_48 skM_b20 skM_c20 ?_
      refine cb_iald hok dX9_seen_49 skM_b14 skM_c14 ?_
      refine cb_iald hok dX9_seen_50 skM_b11 skM_c11 ?_
      refine cb_iconst hok dX9_seen_51 ?_
      refine cb_irem hok (b := 2) (by decide) dX9_seen_52 (by decide) ?_
      refine cb_ifne (tgt := 58) hok rfl dX9_seen_53 (by decide) (fun _ => ?_) (fun _ => ?_)
      · refine cb_iload_n hok dX9_seen_58 rfl ?_
        refine cb_bipush hok dX9_seen_59 (by decide) ?_
        refine cb_icne (tgt := 69) hok rfl (by decide) dX9_seen_61 (by decide) (fun _ => ?_) (fun _ => ?_)
        · refine cb_iload_n hok dX9_seen_69 rfl ?_
          refine cb_bipush hok dX9_seen_70 (by decide) ?_
          refine cb_icne (tgt := 80) hok rfl (by decide) dX9_seen_72 (by decide) (fun _ => ?_) (fun _ => ?_)
          · refine cb_iload_n hok dX9_seen_80 rfl ?_
            refine cb_bipush hok dX9_seen_81 (by decide) ?_
            refine cb_icne (tgt := 91) hok rfl (by decide) dX9_seen_83 (by decide) (fun _ => ?_) (fun _ => ?_)
            · refine cb_iload_n hok dX9_seen_91 rfl ?_
              refine cb_bipush hok dX9_seen_92 (by decide) ?_
              refine cb_icne (tgt := 102) hok rfl (by decide) dX9_seen_94 (by decide) (fun _ => ?_) (fun _ => ?_)
              · refine cb_iload_n hok dX9_seen_102 rfl ?_
                exact cb_iret hok dX9_seen_103
              · refine cb_bipush hok dX9_seen_97 (by decide) ?_
                refine cb_goto (tgt := 103) hok dX9_seen_99 (by decide) ?_
                exact cb_iret hok dX9_seen_103
            · refine cb_bipush hok dX9_seen_86 (by decide) ?_
              refine cb_goto (tgt := 103) hok dX9_seen_88 (by decide) ?_
              exact cb_iret hok dX9_seen_103
          · refine cb_bipush hok dX9_seen_75 (by decide) ?_
            refine cb_goto (tgt := 103) hok dX9_seen_77 (by decide) ?_
            exact cb_iret hok dX9_seen_103
        · refine cb_bipush hok dX9_seen_64 (by decide) ?_
          refine cb_goto (tgt := 103) hok dX9_seen_66 (by decide) ?_
          exact cb_iret hok dX9_seen_103
      · refine cb_iload_n hok dX9_seen_56 rfl ?_
        exact cb_iret hok dX9_seen_57
    · refine cb_iconst hok dX9_seen_16 ?_
      exact cb_iret hok dX9_seen_17
/-! CaretBenchModel isEven(I)Z -/
def v_X9_isEven (g : cb_S) (x1 : Int) : Option Int := if 0 ≤ cb_w x1 ∧ cb_w x1 < (64 : Nat) then (if 0 ≤ cb_w (g 14 ((cb_w x1).toNat)) ∧ cb_w (g 14 ((cb_w x1).toNat)) < (64 : Nat) then (if cb_w ((cb_w (g 11 ((cb_w (g 14 ((cb_w x1).toNat))).toNat))).tmod 2) = 0 then (some 1) else (some 0)) else none) else none
set_option maxRecDepth 100000 in
theorem C_X9_isEven {O : cb_O} (hJ : cb_J O skM) (x1 : Int) (g : cb_S) : ∀ q, v_X9_isEven g x1 = some q → cb_m O skM false yX9_isEven cX9_isEven 2 (some .boolean) rm_X9_isEven [.inr 0, .inl x1] g (q, g) := by
  intro q hq
  refine cr_of_body hJ (by decide) (Nat.le_of_ble_eq_true rfl) hq (fun M hok => ?_)
  show cb_jr _ _ _ _ _ _ [some (.inr 0), some (.inl x1)] _ _ (if 0 ≤ cb_w x1 ∧ cb_w x1 < (64 : Nat) then (if 0 ≤ cb_w (g 14 ((cb_w x1).toNat)) ∧ cb_w (g 14 ((cb_w x1).toNat)) < (64 : Nat) then (if cb_w ((cb_w (g 11 ((cb_w (g 14 ((cb_w x1).toNat))).toNat))).tmod 2) = 0 then (some 1) else (some 0)) else none) else none)
  refine cr_aload_n hok dX9_isEven_0 rfl ?_
  refine cr_gr hok dX9_isEven_1 fl_RX9_41 skM_b0 skM_c0 rfl ?_
  refine cr_aload_n hok dX9_isEven_4 rfl ?_
  refine cr_gr hok dX9_isEven_5 fl_RX9_50 skM_b0 skM_c0 rfl ?_
  refine cr_iload_n hok dX9_isEven_8 rfl ?_
  refine cr_iald hok dX9_isEven_9 skM_b14 skM_c14 ?_
  refine cr_iald hok dX9_isEven_10 skM_b11 skM_c11 ?_
  refine cr_iconst hok dX9_isEven_11 ?_
  refine cr_irem hok (b := 2) (by decide) dX9_isEven_12 (by decide) ?_
  refine cr_ifne (tgt := 20) hok rfl dX9_isEven_13 (by decide) (fun _ => ?_) (fun _ => ?_)
  · refine cr_iconst hok dX9_isEven_20 ?_
    exact cr_zret hok dX9_isEven_21 (by decide)
  · refine cr_iconst hok dX9_isEven_16 ?_
    refine cr_goto (tgt := 21) hok dX9_isEven_17 (by decide) ?_
    exact cr_zret hok dX9_isEven_21 (by decide)
/-! CaretBenchModel place()I -/
def v_X9_place_b104 (s0 s1 : Int) (g : cb_S) : Option Int := if cb_w s1 = cb_w s0 then (some 0) else (some (g 0 28))
set_option maxRecDepth 100000 in
theorem J_X9_place_b104 {O : cb_O} {M : cb_M} (hJ : cb_J O skM) (hok : cb_ok O skM M cX9_place 2 RX9 (some .int)) : ∀ (s0 s1 : Int) (g : cb_S), cb_jr O skM rm_X9_place M 2 104 [some (.inr 0), none] [.inl s0, .inl s1] g (v_X9_place_b104 s0 s1 g) := by
  intro s0 s1 g
  show cb_jr _ _ _ _ _ _ _ _ _ (if cb_w s1 = cb_w s0 then (some 0) else (some (g 0 28)))
  refine cr_icne (tgt := 111) hok rfl rfl dX9_place_104 (by decide) (fun _ => ?_) (fun _ => ?_)
  · refine cr_aload_n hok dX9_place_111 rfl ?_
    refine cr_gi hok dX9_place_112 fl_RX9_147 skM_b0 skM_c0 rfl ?_
    exact cr_iret hok dX9_place_115
  · refine cr_iconst hok dX9_place_107 ?_
    refine cr_goto (tgt := 115) hok dX9_place_108 (by decide) ?_
    exact cr_iret hok dX9_place_115
def v_X9_place_b92 (s0 : Int) (g : cb_S) : Option Int := if cb_w (g 0 0) = 0 then (v_X9_place_b104  1 s0 g) else (v_X9_place_b104  0 s0 g)
set_option maxRecDepth 100000 in
theorem J_X9_place_b92 {O : cb_O} {M : cb_M} (hJ : cb_J O skM) (hok : cb_ok O skM M cX9_place 2 RX9 (some .int)) : ∀ (s0 : Int) (g : cb_S), cb_jr O skM rm_X9_place M 2 92 [some (.inr 0), none] [.inl s0] g (v_X9_place_b92 s0 g) := by
  intro s0 g
  show cb_jr _ _ _ _ _ _ _ _ _ (if cb_w (g 0 0) = 0 then (v_X9_place_b104  1 s0 g) else (v_X9_place_b104  0 s0 g))
  refine cr_aload_n hok dX9_place_92 rfl ?_
  refine cr_gi hok dX9_place_93 fl_RX9_109 skM_b0 skM_c0 rfl ?_
  refine cr_ifne (tgt := 103) hok rfl dX9_place_96 (by decide) (fun _ => ?_) (fun _ => ?_)
  · refine cr_iconst hok dX9_place_103 ?_
    refine cr_fewer (ls' := [some (.inr 0), none]) ⟨rfl, trivial⟩ ?_
    exact J_X9_place_b104 hJ hok  _ _ _
  · refine cr_iconst hok dX9_place_99 ?_
    refine cr_goto (tgt := 104) hok dX9_place_100 (by decide) ?_
    refine cr_fewer (ls' := [some (.inr 0), none]) ⟨rfl, trivial⟩ ?_
    exact J_X9_place_b104 hJ hok  _ _ _
def v_X9_place_b80 (g : cb_S) : Option Int := if cb_w (g 0 3) = 0 then (v_X9_place_b92  1 g) else (v_X9_place_b92  0 g)
set_option maxRecDepth 100000 in
theorem J_X9_place_b80 {O : cb_O} {M : cb_M} (hJ : cb_J O skM) (hok : cb_ok O skM M cX9_place 2 RX9 (some .int)) : ∀ (g : cb_S), cb_jr O skM rm_X9_place M 2 80 [some (.inr 0), none] [] g (v_X9_place_b80 g) := by
  intro g
  show cb_jr _ _ _ _ _ _ _ _ _ (if cb_w (g 0 3) = 0 then (v_X9_place_b92  1 g) else (v_X9_place_b92  0 g))
  refine cr_aload_n hok dX9_place_80 rfl ?_
  refine cr_gi hok dX9_place_81 fl_RX9_84 skM_b0 skM_c0 rfl ?_
  refine cr_ifne (tgt := 91) hok rfl dX9_place_84 (by decide) (fun _ => ?_) (fun _ => ?_)
  · refine cr_iconst hok dX9_place_91 ?_
    refine cr_fewer (ls' := [some (.inr 0), none]) ⟨rfl, trivial⟩ ?_
    exact J_X9_place_b92 hJ hok  _ _
  · refine cr_iconst hok dX9_place_87 ?_
    refine cr_goto (tgt := 92) hok dX9_place_88 (by decide) ?_
    refine cr_fewer (ls' := [some (.inr 0), none]) ⟨rfl, trivial⟩ ?_
    exact J_X9_place_b92 hJ hok  _ _
def v_X9_place_b134 (x1 s0 s1 : Int) (g : cb_S) : Option Int := if cb_w s1 = cb_w s0 then (if 0 ≤ cb_w x1 ∧ cb_w x1 < (64 : Nat) then (some (g 18 ((cb_w x1).toNat))) else none) else (if 0 ≤ cb_w x1 ∧ cb_w x1 < (64 : Nat) then (if 0 ≤ cb_w x1 ∧ cb_w x1 < (64 : Nat) then (some ((g 18 ((cb_w x1).toNat)) + (g 17 ((cb_w x1).toNat)))) else none) else none)
set_option maxRecDepth 100000 in
theorem J_X9_place_b134 {O : cb_O} {M : cb_M} (hJ : cb_J O skM) (hok : cb_ok O skM M cX9_place 2 RX9 (some .int)) : ∀ (x1 s0 s1 : Int) (g : cb_S), cb_jr O skM rm_X9_place M 2 134 [some (.inr 0), some (.inl x1)] [.inl s0, .inl s1] g (v_X9_place_b134 x1 s0 s1 g) := by
  intro x1 s0 s1 g
  show cb_jr _ _ _ _ _ _ _ _ _ (if cb_w s1 = cb_w s0 then (if 0 ≤ cb_w x1 ∧ cb_w x1 < (64 : Nat) then (some (g 18 ((cb_w x1).toNat))) else none) else (if 0 ≤ cb_w x1 ∧ cb_w x1 < (64 : Nat) then (if 0 ≤ cb_w x1 ∧ cb_w x1 < (64 : Nat) then (some ((g 18 ((cb_w x1).toNat)) + (g 17 ((cb_w x1).toNat)))) else none) else none))
  refine cr_icne (tgt := 146) hok rfl rfl dX9_place_134 (by decide) (fun _ => ?_) (fun _ => ?_)
  · refine cr_aload_n hok dX9_place_146 rfl ?_
    refine cr_gr hok dX9_place_147 fl_RX9_62 skM_b0 skM_c0 rfl ?_
    refine cr_iload_n hok dX9_place_150 rfl ?_
    refine cr_iald hok dX9_place_151 skM_b18 skM_c18 ?_
    refine cr_aload_n hok dX9_place_152 rfl ?_
    refine cr_gr hok dX9_place_153 fl_RX9_59 skM_b0 skM_c0 rfl ?_
    refine cr_iload_n hok dX9_place_156 rfl ?_
    refine cr_iald hok dX9_place_157 skM_b17 skM_c17 ?_
    refine cr_iadd hok dX9_place_158 ?_
    exact cr_iret hok dX9_place_159
  · refine cr_aload_n hok dX9_place_137 rfl ?_
    refine cr_gr hok dX9_place_138 fl_RX9_62 skM_b0 skM_c0 rfl ?_
    refine cr_iload_n hok dX9_place_141 rfl ?_
    refine cr_iald hok dX9_place_142 skM_b18 skM_c18 ?_
    refine cr_goto (tgt := 159) hok dX9_place_143 (by decide) ?_
    exact cr_iret hok dX9_place_159
def v_X9_place_b116 (x1 : Int) (g : cb_S) : Option Int := (v_X9_isEven g x1).bind (fun r1 => if cb_w (g 0 4) = 1 then (v_X9_place_b134  x1 1 r1 g) else (v_X9_place_b134  x1 0 r1 g))
set_option maxRecDepth 100000 in
theorem J_X9_place_b116 {O : cb_O} {M : cb_M} (hJ : cb_J O skM) (hok : cb_ok O skM M cX9_place 2 RX9 (some .int)) : ∀ (x1 : Int) (g : cb_S), cb_jr O skM rm_X9_place M 2 116 [some (.inr 0), some (.inl x1)] [] g (v_X9_place_b116 x1 g) := by
  intro x1 g
  show cb_jr _ _ _ _ _ _ _ _ _ ((v_X9_isEven g x1).bind (fun r1 => if cb_w (g 0 4) = 1 then (v_X9_place_b134  x1 1 r1 g) else (v_X9_place_b134  x1 0 r1 g)))
  refine cr_aload_n hok dX9_place_116 rfl ?_
  refine cr_iload_n hok dX9_place_117 rfl ?_
  refine cr_cvr (as := [.inl x1]) (rest := []) hok lk_RX9_180 (by decide) (by decide) dX9_place_118 (fun q1 hq1 => C_X9_isEven hJ _ _ q1 hq1) rfl rfl (Nat.le_of_ble_eq_true rfl) skM_b0 skM_c0 rfl (fun r1 => ?_)
  refine cr_aload_n hok dX9_place_121 rfl ?_
  refine cr_gi hok dX9_place_122 fl_RX9_87 skM_b0 skM_c0 rfl ?_
  refine cr_iconst hok dX9_place_125 ?_
  refine cr_icne (tgt := 133) hok rfl (by decide) dX9_place_126 (by decide) (fun _ => ?_) (fun _ => ?_)
  · refine cr_iconst hok dX9_place_133 ?_
    refine cr_fewer (ls' := [some (.inr 0), some (.inl x1)]) ⟨rfl, ⟨rfl, trivial⟩⟩ ?_
    exact J_X9_place_b134 hJ hok  _ _ _ _
  · refine cr_iconst hok dX9_place_129 ?_
    refine cr_goto (tgt := 134) hok dX9_place_130 (by decide) ?_
    refine cr_fewer (ls' := [some (.inr 0), some (.inl x1)]) ⟨rfl, ⟨rfl, trivial⟩⟩ ?_
    exact J_X9_place_b134 hJ hok  _ _ _ _
def v_X9_place_b55 (s0 : Int) (g : cb_S) : Option Int := if cb_w s0 = (-1) then (v_X9_place_b80  g) else (if cb_w (g 0 4) = 1 then (if cb_w (g 0 3) = cb_w (g 0 1) then (v_X9_place_b80  g) else (v_X9_place_b116  s0 g)) else (v_X9_place_b116  s0 g))
set_option maxRecDepth 100000 in
theorem J_X9_place_b55 {O : cb_O} {M : cb_M} (hJ : cb_J O skM) (hok : cb_ok O skM M cX9_place 2 RX9 (some .int)) : ∀ (s0 : Int) (g : cb_S), cb_jr O skM rm_X9_place M 2 55 [some (.inr 0), none] [.inl s0] g (v_X9_place_b55 s0 g) := by
  intro s0 g
  show cb_jr _ _ _ _ _ _ _ _ _ (if cb_w s0 = (-1) then (v_X9_place_b80  g) else (if cb_w (g 0 4) = 1 then (if cb_w (g 0 3) = cb_w (g 0 1) then (v_X9_place_b80  g) else (v_X9_place_b116  s0 g)) else (v_X9_place_b116  s0 g)))
  refine cr_istore_n (ls' := [some (.inr 0), some (.inl s0)]) hok dX9_place_55 (by decide) rfl ?_
  refine cr_iload_n hok dX9_place_56 rfl ?_
  refine cr_iconst hok dX9_place_57 ?_
  refine cr_iceq (tgt := 80) hok rfl (by decide) dX9_place_58 (by decide) (fun _ => ?_) (fun _ => ?_)
  · refine cr_fewer (ls' := [some (.inr 0), none]) ⟨rfl, trivial⟩ ?_
    exact J_X9_place_b80 hJ hok  _
  · refine cr_aload_n hok dX9_place_61 rfl ?_
    refine cr_gi hok dX9_place_62 fl_RX9_87 skM_b0 skM_c0 rfl ?_
    refine cr_iconst hok dX9_place_65 ?_
    refine cr_icne (tgt := 116) hok rfl (by decide) dX9_place_66 (by decide) (fun _ => ?_) (fun _ => ?_)
    · refine cr_fewer (ls' := [some (.inr 0), some (.inl s0)]) ⟨rfl, ⟨rfl, trivial⟩⟩ ?_
      exact J_X9_place_b116 hJ hok  _ _
    · refine cr_aload_n hok dX9_place_69 rfl ?_
      refine cr_gi hok dX9_place_70 fl_RX9_84 skM_b0 skM_c0 rfl ?_
      refine cr_aload_n hok dX9_place_73 rfl ?_
      refine cr_gi hok dX9_place_74 fl_RX9_81 skM_b0 skM_c0 rfl ?_
      refine cr_icne (tgt := 116) hok rfl rfl dX9_place_77 (by decide) (fun _ => ?_) (fun _ => ?_)
      · refine cr_fewer (ls' := [some (.inr 0), some (.inl s0)]) ⟨rfl, ⟨rfl, trivial⟩⟩ ?_
        exact J_X9_place_b116 hJ hok  _ _
      · refine cr_fewer (ls' := [some (.inr 0), none]) ⟨rfl, trivial⟩ ?_
        exact J_X9_place_b80 hJ hok  _
def v_X9_place (g : cb_S) : Option Int := (v_X9_isBetween g (g 0 3)).bind (fun r1 => if cb_w r1 = 0 then ((v_X9_holds g (g 0 3)).bind (fun r4 => if 0 ≤ cb_w r4 ∧ cb_w r4 < (64 : Nat) then (some ((g 18 ((cb_w r4).toNat)) + 8)) else none)) else (if cb_w (g 0 4) = 1 then ((v_X9_beginsAt g (g 0 3)).bind (fun r3 => v_X9_place_b55  r3 g)) else ((v_X9_endsAt g (g 0 3)).bind (fun r2 => v_X9_place_b55  r2 g))))
set_option maxRecDepth 100000 in
theorem C_X9_place {O : cb_O} (hJ : cb_J O skM) (g : cb_S) : ∀ q, v_X9_place g = some q → cb_m O skM false yX9_place cX9_place 2 (some .int) rm_X9_place [.inr 0] g (q, g) := by
  intro q hq
  refine cr_of_body hJ (by decide) (Nat.le_of_ble_eq_true rfl) hq (fun M hok => ?_)
  show cb_jr _ _ _ _ _ _ [some (.inr 0), none] _ _ ((v_X9_isBetween g (g 0 3)).bind (fun r1 => if cb_w r1 = 0 then ((v_X9_holds g (g 0 3)).bind (fun r4 => if 0 ≤ cb_w r4 ∧ cb_w r4 < (64 : Nat) then (some ((g 18 ((cb_w r4).toNat)) + 8)) else none)) else (if cb_w (g 0 4) = 1 then ((v_X9_beginsAt g (g 0 3)).bind (fun r3 => v_X9_place_b55  r3 g)) else ((v_X9_endsAt g (g 0 3)).bind (fun r2 => v_X9_place_b55  r2 g)))))
  refine cr_aload_n hok dX9_place_0 rfl ?_
  refine cr_aload_n hok dX9_place_1 rfl ?_
  refine cr_gi hok dX9_place_2 fl_RX9_84 skM_b0 skM_c0 rfl ?_
  refine cr_cvr (as := [.inl (g 0 3)]) (rest := []) hok lk_RX9_156 (by decide) (by decide) dX9_place_5 (fun q1 hq1 => C_X9_isBetween hJ _ _ q1 hq1) rfl rfl (Nat.le_of_ble_eq_true rfl) skM_b0 skM_c0 rfl (fun r1 => ?_)
  refine cr_ifne (tgt := 28) hok rfl dX9_place_8 (by decide) (fun _ => ?_) (fun _ => ?_)
  · refine cr_aload_n hok dX9_place_28 rfl ?_
    refine cr_gi hok dX9_place_29 fl_RX9_87 skM_b0 skM_c0 rfl ?_
    refine cr_iconst hok dX9_place_32 ?_
    refine cr_icne (tgt := 47) hok rfl (by decide) dX9_place_33 (by decide) (fun _ => ?_) (fun _ => ?_)
    · refine cr_aload_n hok dX9_place_47 rfl ?_
      refine cr_aload_n hok dX9_place_48 rfl ?_
      refine cr_gi hok dX9_place_49 fl_RX9_84 skM_b0 skM_c0 rfl ?_
      refine cr_cvr (as := [.inl (g 0 3)]) (rest := []) hok lk_RX9_177 (by decide) (by decide) dX9_place_52 (fun q1 hq1 => C_X9_endsAt hJ _ _ q1 hq1) rfl rfl (Nat.le_of_ble_eq_true rfl) skM_b0 skM_c0 rfl (fun r2 => ?_)
      refine cr_fewer (ls' := [some (.inr 0), none]) ⟨rfl, trivial⟩ ?_
      exact J_X9_place_b55 hJ hok  _ _
    · refine cr_aload_n hok dX9_place_36 rfl ?_
      refine cr_aload_n hok dX9_place_37 rfl ?_
      refine cr_gi hok dX9_place_38 fl_RX9_84 skM_b0 skM_c0 rfl ?_
      refine cr_cvr (as := [.inl (g 0 3)]) (rest := []) hok lk_RX9_153 (by decide) (by decide) dX9_place_41 (fun q1 hq1 => C_X9_beginsAt hJ _ _ q1 hq1) rfl rfl (Nat.le_of_ble_eq_true rfl) skM_b0 skM_c0 rfl (fun r3 => ?_)
      refine cr_goto (tgt := 55) hok dX9_place_44 (by decide) ?_
      refine cr_fewer (ls' := [some (.inr 0), none]) ⟨rfl, trivial⟩ ?_
      exact J_X9_place_b55 hJ hok  _ _
  · refine cr_aload_n hok dX9_place_11 rfl ?_
    refine cr_gr hok dX9_place_12 fl_RX9_62 skM_b0 skM_c0 rfl ?_
    refine cr_aload_n hok dX9_place_15 rfl ?_
    refine cr_aload_n hok dX9_place_16 rfl ?_
    refine cr_gi hok dX9_place_17 fl_RX9_84 skM_b0 skM_c0 rfl ?_
    refine cr_cvr (as := [.inl (g 0 3)]) (rest := [.inr 18]) hok lk_RX9_159 (by decide) (by decide) dX9_place_20 (fun q1 hq1 => C_X9_holds hJ _ _ q1 hq1) rfl rfl (Nat.le_of_ble_eq_true rfl) skM_b0 skM_c0 rfl (fun r4 => ?_)
    refine cr_iald hok dX9_place_23 skM_b18 skM_c18 ?_
    refine cr_bipush hok dX9_place_24 (by decide) ?_
    refine cr_iadd hok dX9_place_26 ?_
    exact cr_iret hok dX9_place_27
/-! CaretBenchModel caret(I)I -/
def f_X9_caret (g : cb_S) (x1 : Int) : Option (Int × cb_S) := cb_b (f_X9_looks g ) (fun r1 g1 => if cb_w x1 = 0 then (some (g1 0 3, g1)) else (if cb_w x1 = 1 then (some (g1 0 4, g1)) else (if cb_w x1 = 2 then ((v_X9_place g1 ).bind (fun r2 => some (r2, g1))) else (some (-1, g1)))))
set_option maxRecDepth 100000 in
theorem C_X9_caret {O : cb_O} (hJ : cb_J O skM) (x1 : Int) (g : cb_S) : ∀ q, f_X9_caret g x1 = some q → cb_m O skM false yX9_caret cX9_caret 2 (some .int) rm_X9_caret [.inr 0, .inl x1] g q := by
  intro q hq
  refine cb_of_body hJ (by decide) (Nat.le_of_ble_eq_true rfl) hq (fun M hok => ?_)
  show cb_j _ _ _ _ _ _ _ [some (.inr 0), some (.inl x1)] _ _ (cb_b (f_X9_looks g ) (fun r1 g1 => if cb_w x1 = 0 then (some (g1 0 3, g1)) else (if cb_w x1 = 1 then (some (g1 0 4, g1)) else (if cb_w x1 = 2 then ((v_X9_place g1 ).bind (fun r2 => some (r2, g1))) else (some (-1, g1))))))
  refine cb_aload_n hok dX9_caret_0 rfl ?_
  refine cb_cvv (as := []) (rest := []) hok lk_RX9_162 (by decide) (by decide) dX9_caret_1 (fun q1 hq1 => C_X9_looks hJ _ q1 hq1) rfl rfl (Nat.le_of_ble_eq_true rfl) skM_b0 skM_c0 rfl (fun r1 g1 => ?_)
  refine cb_iload_n hok dX9_caret_4 rfl ?_
  refine cb_ifne (tgt := 15) hok rfl dX9_caret_5 (by decide) (fun _ => ?_) (fun _ => ?_)
  · refine cb_iload_n hok dX9_caret_15 rfl ?_
    refine cb_iconst hok dX9_caret_16 ?_
    refine cb_icne (tgt := 27) hok rfl (by decide) dX9_caret_17 (by decide) (fun _ => ?_) (fun _ => ?_)
    · refine cb_iload_n hok dX9_caret_27 rfl ?_
      refine cb_iconst hok dX9_caret_28 ?_
      refine cb_icne (tgt := 39) hok rfl (by decide) dX9_caret_29 (by decide) (fun _ => ?_) (fun _ => ?_)
      · refine cb_iconst hok dX9_caret_39 ?_
        exact cb_iret hok dX9_caret_40
      · refine cb_aload_n hok dX9_caret_32 rfl ?_
        refine cb_cvr (as := []) (rest := []) hok lk_RX9_183 (by decide) (by decide) dX9_caret_33 (fun q1 hq1 => C_X9_place hJ _ q1 hq1) rfl rfl (Nat.le_of_ble_eq_true rfl) skM_b0 skM_c0 rfl (fun r2 => ?_)
        refine cb_goto (tgt := 40) hok dX9_caret_36 (by decide) ?_
        exact cb_iret hok dX9_caret_40
    · refine cb_aload_n hok dX9_caret_20 rfl ?_
      refine cb_gi hok dX9_caret_21 fl_RX9_87 skM_b0 skM_c0 rfl ?_
      refine cb_goto (tgt := 40) hok dX9_caret_24 (by decide) ?_
      exact cb_iret hok dX9_caret_40
  · refine cb_aload_n hok dX9_caret_8 rfl ?_
    refine cb_gi hok dX9_caret_9 fl_RX9_84 skM_b0 skM_c0 rfl ?_
    refine cb_goto (tgt := 40) hok dX9_caret_12 (by decide) ?_
    exact cb_iret hok dX9_caret_40
/-! CaretBenchModel goes(II)V -/
def f_X9_goes (g : cb_S) (x1 : Int) (x2 : Int) : Option (Int × cb_S) := some (0, cb_u (cb_u g 0 3 x1) 0 4 x2)
set_option maxRecDepth 100000 in
theorem C_X9_goes {O : cb_O} (hJ : cb_J O skM) (x1 : Int) (x2 : Int) (g : cb_S) : ∀ q, f_X9_goes g x1 x2 = some q → cb_m O skM true yX9_goes cX9_goes 3 none rm_X9_goes [.inr 0, .inl x1, .inl x2] g q := by
  intro q hq
  refine cb_of_body hJ (by decide) (Nat.le_of_ble_eq_true rfl) hq (fun M hok => ?_)
  show cb_j _ _ _ _ _ _ _ [some (.inr 0), some (.inl x1), some (.inl x2)] _ _ (some (0, cb_u (cb_u g 0 3 x1) 0 4 x2))
  refine cb_aload_n hok dX9_goes_0 rfl ?_
  refine cb_iload_n hok dX9_goes_1 rfl ?_
  refine cb_pi hok dX9_goes_2 fp_RX9_84 skM_b0 skM_c0 rfl ?_
  refine cb_aload_n hok dX9_goes_5 rfl ?_
  refine cb_iload_n hok dX9_goes_6 rfl ?_
  refine cb_pi hok dX9_goes_7 fp_RX9_87 skM_b0 skM_c0 rfl ?_
  exact cb_vret hok dX9_goes_10
/-! CaretBenchModel go(II)Z -/
def f_X9_go_b48 (x1 x2 : Int) (g : cb_S) : Option (Int × cb_S) := cb_b (f_X9_goes g x1 x2) (fun r1 g1 => some (1, g1))
set_option maxRecDepth 100000 in
theorem J_X9_go_b48 {O : cb_O} {M : cb_M} (hJ : cb_J O skM) (hok : cb_ok O skM M cX9_go 3 RX9 (some .boolean)) : ∀ (x1 x2 : Int) (g : cb_S), cb_j O skM false rm_X9_go M 3 48 [some (.inr 0), some (.inl x1), some (.inl x2)] [] g (f_X9_go_b48 x1 x2 g) := by
  intro x1 x2 g
  show cb_j _ _ _ _ _ _ _ _ _ _ (cb_b (f_X9_goes g x1 x2) (fun r1 g1 => some (1, g1)))
  refine cb_aload_n hok dX9_go_48 rfl ?_
  refine cb_iload_n hok dX9_go_49 rfl ?_
  refine cb_iload_n hok dX9_go_50 rfl ?_
  refine cb_cvv (as := [.inl x1, .inl x2]) (rest := []) hok lk_RX9_187 (by decide) (by decide) dX9_go_51 (fun q1 hq1 => C_X9_goes hJ _ _ _ q1 hq1) rfl rfl (Nat.le_of_ble_eq_true rfl) skM_b0 skM_c0 rfl (fun r1 g1 => ?_)
  refine cb_iconst hok dX9_go_54 ?_
  exact cb_zret hok dX9_go_55 (by decide)
def f_X9_go_b33 (x1 x2 : Int) (g : cb_S) : Option (Int × cb_S) := if cb_w x2 = 1 then ((v_X9_isBetween g x1).bind (fun r1 => if cb_w r1 = 0 then (some (0, g)) else (f_X9_go_b48  x1 x2 g))) else (f_X9_go_b48  x1 x2 g)
set_option maxRecDepth 100000 in
theorem J_X9_go_b33 {O : cb_O} {M : cb_M} (hJ : cb_J O skM) (hok : cb_ok O skM M cX9_go 3 RX9 (some .boolean)) : ∀ (x1 x2 : Int) (g : cb_S), cb_j O skM false rm_X9_go M 3 33 [some (.inr 0), some (.inl x1), some (.inl x2)] [] g (f_X9_go_b33 x1 x2 g) := by
  intro x1 x2 g
  show cb_j _ _ _ _ _ _ _ _ _ _ (if cb_w x2 = 1 then ((v_X9_isBetween g x1).bind (fun r1 => if cb_w r1 = 0 then (some (0, g)) else (f_X9_go_b48  x1 x2 g))) else (f_X9_go_b48  x1 x2 g))
  refine cb_iload_n hok dX9_go_33 rfl ?_
  refine cb_iconst hok dX9_go_34 ?_
  refine cb_icne (tgt := 48) hok rfl (by decide) dX9_go_35 (by decide) (fun _ => ?_) (fun _ => ?_)
  · refine cb_fewer (ls' := [some (.inr 0), some (.inl x1), some (.inl x2)]) ⟨rfl, ⟨rfl, ⟨rfl, trivial⟩⟩⟩ ?_
    exact J_X9_go_b48 hJ hok  _ _ _
  · refine cb_aload_n hok dX9_go_38 rfl ?_
    refine cb_iload_n hok dX9_go_39 rfl ?_
    refine cb_cvr (as := [.inl x1]) (rest := []) hok lk_RX9_156 (by decide) (by decide) dX9_go_40 (fun q1 hq1 => C_X9_isBetween hJ _ _ q1 hq1) rfl rfl (Nat.le_of_ble_eq_true rfl) skM_b0 skM_c0 rfl (fun r1 => ?_)
    refine cb_ifne (tgt := 48) hok rfl dX9_go_43 (by decide) (fun _ => ?_) (fun _ => ?_)
    · refine cb_fewer (ls' := [some (.inr 0), some (.inl x1), some (.inl x2)]) ⟨rfl, ⟨rfl, ⟨rfl, trivial⟩⟩⟩ ?_
      exact J_X9_go_b48 hJ hok  _ _ _
    · refine cb_iconst hok dX9_go_46 ?_
      exact cb_zret hok dX9_go_47 (by decide)
def f_X9_go (g : cb_S) (x1 : Int) (x2 : Int) : Option (Int × cb_S) := cb_b (f_X9_looks g ) (fun r1 g1 => if cb_w x1 < 0 then (some (0, g1)) else (if cb_w (g1 0 1) < cb_w x1 then (some (0, g1)) else ((v_X9_isStand g1 x1).bind (fun r2 => if cb_w r2 = 0 then (some (0, g1)) else (if cb_w x2 = 0 then (f_X9_go_b33  x1 x2 g1) else (if cb_w x2 = 1 then (f_X9_go_b33  x1 x2 g1) else (some (0, g1))))))))
set_option maxRecDepth 100000 in
theorem C_X9_go {O : cb_O} (hJ : cb_J O skM) (x1 : Int) (x2 : Int) (g : cb_S) : ∀ q, f_X9_go g x1 x2 = some q → cb_m O skM false yX9_go cX9_go 3 (some .boolean) rm_X9_go [.inr 0, .inl x1, .inl x2] g q := by
  intro q hq
  refine cb_of_body hJ (by decide) (Nat.le_of_ble_eq_true rfl) hq (fun M hok => ?_)
  show cb_j _ _ _ _ _ _ _ [some (.inr 0), some (.inl x1), some (.inl x2)] _ _ (cb_b (f_X9_looks g ) (fun r1 g1 => if cb_w x1 < 0 then (some (0, g1)) else (if cb_w (g1 0 1) < cb_w x1 then (some (0, g1)) else ((v_X9_isStand g1 x1).bind (fun r2 => if cb_w r2 = 0 then (some (0, g1)) else (if cb_w x2 = 0 then (f_X9_go_b33  x1 x2 g1) else (if cb_w x2 = 1 then (f_X9_go_b33  x1 x2 g1) else (some (0, g1)))))))))
  refine cb_aload_n hok dX9_go_0 rfl ?_
  refine cb_cvv (as := []) (rest := []) hok lk_RX9_162 (by decide) (by decide) dX9_go_1 (fun q1 hq1 => C_X9_looks hJ _ q1 hq1) rfl rfl (Nat.le_of_ble_eq_true rfl) skM_b0 skM_c0 rfl (fun r1 g1 => ?_)
  refine cb_iload_n hok dX9_go_4 rfl ?_
  refine cb_iflt (tgt := 46) hok rfl dX9_go_5 (by decide) (fun _ => ?_) (fun _ => ?_)
  · refine cb_iconst hok dX9_go_46 ?_
    exact cb_zret hok dX9_go_47 (by decide)
  · refine cb_iload_n hok dX9_go_8 rfl ?_
    refine cb_aload_n hok dX9_go_9 rfl ?_
    refine cb_gi hok dX9_go_10 fl_RX9_81 skM_b0 skM_c0 rfl ?_
    refine cb_icgt (tgt := 46) hok rfl rfl dX9_go_13 (by decide) (fun _ => ?_) (fun _ => ?_)
    · refine cb_iconst hok dX9_go_46 ?_
      exact cb_zret hok dX9_go_47 (by decide)
    · refine cb_aload_n hok dX9_go_16 rfl ?_
      refine cb_iload_n hok dX9_go_17 rfl ?_
      refine cb_cvr (as := [.inl x1]) (rest := []) hok lk_RX9_165 (by decide) (by decide) dX9_go_18 (fun q1 hq1 => C_X9_isStand hJ _ _ q1 hq1) rfl rfl (Nat.le_of_ble_eq_true rfl) skM_b0 skM_c0 rfl (fun r2 => ?_)
      refine cb_ifeq (tgt := 46) hok rfl dX9_go_21 (by decide) (fun _ => ?_) (fun _ => ?_)
      · refine cb_iconst hok dX9_go_46 ?_
        exact cb_zret hok dX9_go_47 (by decide)
      · refine cb_iload_n hok dX9_go_24 rfl ?_
        refine cb_ifeq (tgt := 33) hok rfl dX9_go_25 (by decide) (fun _ => ?_) (fun _ => ?_)
        · refine cb_fewer (ls' := [some (.inr 0), some (.inl x1), some (.inl x2)]) ⟨rfl, ⟨rfl, ⟨rfl, trivial⟩⟩⟩ ?_
          exact J_X9_go_b33 hJ hok  _ _ _
        · refine cb_iload_n hok dX9_go_28 rfl ?_
          refine cb_iconst hok dX9_go_29 ?_
          refine cb_icne (tgt := 46) hok rfl (by decide) dX9_go_30 (by decide) (fun _ => ?_) (fun _ => ?_)
          · refine cb_iconst hok dX9_go_46 ?_
            exact cb_zret hok dX9_go_47 (by decide)
          · refine cb_fewer (ls' := [some (.inr 0), some (.inl x1), some (.inl x2)]) ⟨rfl, ⟨rfl, ⟨rfl, trivial⟩⟩⟩ ?_
            exact J_X9_go_b33 hJ hok  _ _ _
/-! CaretBenchModel on(Z)Z -/
def f_X9_on_b54 (kk24 : Int → Int → cb_S → Option (Int × cb_S)) (x1 s0 s1 : Int) (g : cb_S) : Option (Int × cb_S) := kk24 x1 (s1 + s0) g
set_option maxRecDepth 100000 in
theorem J_X9_on_b54 {O : cb_O} {M : cb_M} (hJ : cb_J O skM) (hok : cb_ok O skM M cX9_on 3 RX9 (some .boolean)) {kk24 : Int → Int → cb_S → Option (Int × cb_S)} (hk24 : ∀ (x1 x2 : Int) (g : cb_S), cb_j O skM false rm_X9_on M 3 24 [some (.inr 0), some (.inl x1), some (.inl x2)] [] g (kk24 x1 x2 g)) : ∀ (x1 s0 s1 : Int) (g : cb_S), cb_j O skM false rm_X9_on M 3 54 [some (.inr 0), some (.inl x1), none] [.inl s0, .inl s1] g (f_X9_on_b54 kk24 x1 s0 s1 g) := by
  intro x1 s0 s1 g
  show cb_j _ _ _ _ _ _ _ _ _ _ (kk24 x1 (s1 + s0) g)
  refine cb_iadd hok dX9_on_54 ?_
  refine cb_istore_n (ls' := [some (.inr 0), some (.inl x1), some (.inl (s1 + s0))]) hok dX9_on_55 (by decide) rfl ?_
  refine cb_goto (tgt := 24) hok dX9_on_56 (by decide) ?_
  refine cb_fewer (ls' := [some (.inr 0), some (.inl x1), some (.inl (s1 + s0))]) ⟨rfl, ⟨rfl, ⟨rfl, trivial⟩⟩⟩ ?_
  exact hk24 _ _ _
def f_X9_on_b92 (s0 s1 : Int) (g : cb_S) : Option (Int × cb_S) := cb_b (f_X9_goes g s1 s0) (fun r1 g1 => some (1, g1))
set_option maxRecDepth 100000 in
theorem J_X9_on_b92 {O : cb_O} {M : cb_M} (hJ : cb_J O skM) (hok : cb_ok O skM M cX9_on 3 RX9 (some .boolean)) : ∀ (s0 s1 : Int) (g : cb_S), cb_j O skM false rm_X9_on M 3 92 [none, none, none] [.inl s0, .inl s1, .inr 0] g (f_X9_on_b92 s0 s1 g) := by
  intro s0 s1 g
  show cb_j _ _ _ _ _ _ _ _ _ _ (cb_b (f_X9_goes g s1 s0) (fun r1 g1 => some (1, g1)))
  refine cb_cvv (as := [.inl s1, .inl s0]) (rest := []) hok lk_RX9_187 (by decide) (by decide) dX9_on_92 (fun q1 hq1 => C_X9_goes hJ _ _ _ q1 hq1) rfl rfl (Nat.le_of_ble_eq_true rfl) skM_b0 skM_c0 rfl (fun r1 g1 => ?_)
  refine cb_iconst hok dX9_on_95 ?_
  exact cb_zret hok dX9_on_96 (by decide)
def f_X9_on_b87 (s0 : Int) (g : cb_S) : Option (Int × cb_S) := f_X9_on_b92  0 s0 g
set_option maxRecDepth 100000 in
theorem J_X9_on_b87 {O : cb_O} {M : cb_M} (hJ : cb_J O skM) (hok : cb_ok O skM M cX9_on 3 RX9 (some .boolean)) : ∀ (s0 : Int) (g : cb_S), cb_j O skM false rm_X9_on M 3 87 [none, none, none] [.inl s0, .inr 0] g (f_X9_on_b87 s0 g) := by
  intro s0 g
  show cb_j _ _ _ _ _ _ _ _ _ _ (f_X9_on_b92  0 s0 g)
  refine cb_iconst hok dX9_on_87 ?_
  refine cb_goto (tgt := 92) hok dX9_on_88 (by decide) ?_
  refine cb_fewer (ls' := [none, none, none]) trivial ?_
  exact J_X9_on_b92 hJ hok  _ _ _
def f_X9_on_b59 (x1 x2 : Int) (g : cb_S) : Option (Int × cb_S) := if cb_w x2 < 0 then (some (0, g)) else (if cb_w x2 ≤ cb_w (g 0 1) then (if cb_w x1 = 0 then ((v_X9_isBetween g x2).bind (fun r1 => if cb_w r1 = 0 then (f_X9_on_b87  x2 g) else (f_X9_on_b92  1 x2 g))) else (f_X9_on_b87  x2 g)) else (some (0, g)))
set_option maxRecDepth 100000 in
theorem J_X9_on_b59 {O : cb_O} {M : cb_M} (hJ : cb_J O skM) (hok : cb_ok O skM M cX9_on 3 RX9 (some .boolean)) : ∀ (x1 x2 : Int) (g : cb_S), cb_j O skM false rm_X9_on M 3 59 [some (.inr 0), some (.inl x1), some (.inl x2)] [] g (f_X9_on_b59 x1 x2 g) := by
  intro x1 x2 g
  show cb_j _ _ _ _ _ _ _ _ _ _ (if cb_w x2 < 0 then (some (0, g)) else (if cb_w x2 ≤ cb_w (g 0 1) then (if cb_w x1 = 0 then ((v_X9_isBetween g x2).bind (fun r1 => if cb_w r1 = 0 then (f_X9_on_b87  x2 g) else (f_X9_on_b92  1 x2 g))) else (f_X9_on_b87  x2 g)) else (some (0, g))))
  refine cb_iload_n hok dX9_on_59 rfl ?_
  refine cb_iflt (tgt := 71) hok rfl dX9_on_60 (by decide) (fun _ => ?_) (fun _ => ?_)
  · refine cb_iconst hok dX9_on_71 ?_
    exact cb_zret hok dX9_on_72 (by decide)
  · refine cb_iload_n hok dX9_on_63 rfl ?_
    refine cb_aload_n hok dX9_on_64 rfl ?_
    refine cb_gi hok dX9_on_65 fl_RX9_81 skM_b0 skM_c0 rfl ?_
    refine cb_icle (tgt := 73) hok rfl rfl dX9_on_68 (by decide) (fun _ => ?_) (fun _ => ?_)
    · refine cb_aload_n hok dX9_on_73 rfl ?_
      refine cb_iload_n hok dX9_on_74 rfl ?_
      refine cb_iload_n hok dX9_on_75 rfl ?_
      refine cb_ifne (tgt := 87) hok rfl dX9_on_76 (by decide) (fun _ => ?_) (fun _ => ?_)
      · refine cb_fewer (ls' := [none, none, none]) trivial ?_
        exact J_X9_on_b87 hJ hok  _ _
      · refine cb_aload_n hok dX9_on_79 rfl ?_
        refine cb_iload_n hok dX9_on_80 rfl ?_
        refine cb_cvr (as := [.inl x2]) (rest := [.inl x2, .inr 0]) hok lk_RX9_156 (by decide) (by decide) dX9_on_81 (fun q1 hq1 => C_X9_isBetween hJ _ _ q1 hq1) rfl rfl (Nat.le_of_ble_eq_true rfl) skM_b0 skM_c0 rfl (fun r1 => ?_)
        refine cb_ifne (tgt := 91) hok rfl dX9_on_84 (by decide) (fun _ => ?_) (fun _ => ?_)
        · refine cb_iconst hok dX9_on_91 ?_
          refine cb_fewer (ls' := [none, none, none]) trivial ?_
          exact J_X9_on_b92 hJ hok  _ _ _
        · refine cb_fewer (ls' := [none, none, none]) trivial ?_
          exact J_X9_on_b87 hJ hok  _ _
    · refine cb_iconst hok dX9_on_71 ?_
      exact cb_zret hok dX9_on_72 (by decide)
def f_X9_on_b24 : Nat → Int → Int → cb_S → Option (Int × cb_S)
  | 0 => fun _ _ _ => none
  | n + 1 => fun x1 x2 g => if cb_w x2 < 0 then (f_X9_on_b59  x1 x2 g) else (if cb_w (g 0 1) < cb_w x2 then (f_X9_on_b59  x1 x2 g) else ((v_X9_isStand g x2).bind (fun r1 => if cb_w r1 = 0 then (if cb_w x1 = 0 then (f_X9_on_b54 (f_X9_on_b24 n) x1 (-1) x2 g) else (f_X9_on_b54 (f_X9_on_b24 n) x1 1 x2 g)) else (f_X9_on_b59  x1 x2 g))))
set_option maxRecDepth 100000 in
theorem J_X9_on_b24 {O : cb_O} {M : cb_M} (hJ : cb_J O skM) (hok : cb_ok O skM M cX9_on 3 RX9 (some .boolean)) : ∀ (n : Nat) (x1 x2 : Int) (g : cb_S), cb_j O skM false rm_X9_on M 3 24 [some (.inr 0), some (.inl x1), some (.inl x2)] [] g (f_X9_on_b24 n x1 x2 g) := by
  intro n
  induction n with
  | zero => intros; exact cb_none
  | succ n hk24 =>
    intro x1 x2 g
    show cb_j _ _ _ _ _ _ _ _ _ _ (if cb_w x2 < 0 then (f_X9_on_b59  x1 x2 g) else (if cb_w (g 0 1) < cb_w x2 then (f_X9_on_b59  x1 x2 g) else ((v_X9_isStand g x2).bind (fun r1 => if cb_w r1 = 0 then (if cb_w x1 = 0 then (f_X9_on_b54 (f_X9_on_b24 n) x1 (-1) x2 g) else (f_X9_on_b54 (f_X9_on_b24 n) x1 1 x2 g)) else (f_X9_on_b59  x1 x2 g)))))
    refine cb_iload_n hok dX9_on_24 rfl ?_
    refine cb_iflt (tgt := 59) hok rfl dX9_on_25 (by decide) (fun _ => ?_) (fun _ => ?_)
    · refine cb_fewer (ls' := [some (.inr 0), some (.inl x1), some (.inl x2)]) ⟨rfl, ⟨rfl, ⟨rfl, trivial⟩⟩⟩ ?_
      exact J_X9_on_b59 hJ hok  _ _ _
    · refine cb_iload_n hok dX9_on_28 rfl ?_
      refine cb_aload_n hok dX9_on_29 rfl ?_
      refine cb_gi hok dX9_on_30 fl_RX9_81 skM_b0 skM_c0 rfl ?_
      refine cb_icgt (tgt := 59) hok rfl rfl dX9_on_33 (by decide) (fun _ => ?_) (fun _ => ?_)
      · refine cb_fewer (ls' := [some (.inr 0), some (.inl x1), some (.inl x2)]) ⟨rfl, ⟨rfl, ⟨rfl, trivial⟩⟩⟩ ?_
        exact J_X9_on_b59 hJ hok  _ _ _
      · refine cb_aload_n hok dX9_on_36 rfl ?_
        refine cb_iload_n hok dX9_on_37 rfl ?_
        refine cb_cvr (as := [.inl x2]) (rest := []) hok lk_RX9_165 (by decide) (by decide) dX9_on_38 (fun q1 hq1 => C_X9_isStand hJ _ _ q1 hq1) rfl rfl (Nat.le_of_ble_eq_true rfl) skM_b0 skM_c0 rfl (fun r1 => ?_)
        refine cb_ifne (tgt := 59) hok rfl dX9_on_41 (by decide) (fun _ => ?_) (fun _ => ?_)
        · refine cb_fewer (ls' := [some (.inr 0), some (.inl x1), some (.inl x2)]) ⟨rfl, ⟨rfl, ⟨rfl, trivial⟩⟩⟩ ?_
          exact J_X9_on_b59 hJ hok  _ _ _
        · refine cb_iload_n hok dX9_on_44 rfl ?_
          refine cb_iload_n hok dX9_on_45 rfl ?_
          refine cb_ifeq (tgt := 53) hok rfl dX9_on_46 (by decide) (fun _ => ?_) (fun _ => ?_)
          · refine cb_iconst hok dX9_on_53 ?_
            refine cb_fewer (ls' := [some (.inr 0), some (.inl x1), none]) ⟨rfl, ⟨rfl, trivial⟩⟩ ?_
            exact J_X9_on_b54 hJ hok hk24 _ _ _ _
          · refine cb_iconst hok dX9_on_49 ?_
            refine cb_goto (tgt := 54) hok dX9_on_50 (by decide) ?_
            refine cb_fewer (ls' := [some (.inr 0), some (.inl x1), none]) ⟨rfl, ⟨rfl, trivial⟩⟩ ?_
            exact J_X9_on_b54 hJ hok hk24 _ _ _ _
def f_X9_on_b23 (x1 s0 : Int) (g : cb_S) : Option (Int × cb_S) := f_X9_on_b24  cb_N x1 s0 g
set_option maxRecDepth 100000 in
theorem J_X9_on_b23 {O : cb_O} {M : cb_M} (hJ : cb_J O skM) (hok : cb_ok O skM M cX9_on 3 RX9 (some .boolean)) : ∀ (x1 s0 : Int) (g : cb_S), cb_j O skM false rm_X9_on M 3 23 [some (.inr 0), some (.inl x1), none] [.inl s0] g (f_X9_on_b23 x1 s0 g) := by
  intro x1 s0 g
  show cb_j _ _ _ _ _ _ _ _ _ _ (f_X9_on_b24  cb_N x1 s0 g)
  refine cb_istore_n (ls' := [some (.inr 0), some (.inl x1), some (.inl s0)]) hok dX9_on_23 (by decide) rfl ?_
  refine cb_fewer (ls' := [some (.inr 0), some (.inl x1), some (.inl s0)]) ⟨rfl, ⟨rfl, ⟨rfl, trivial⟩⟩⟩ ?_
  exact J_X9_on_b24 hJ hok  cb_N _ _ _
def f_X9_on (g : cb_S) (x1 : Int) : Option (Int × cb_S) := cb_b (f_X9_looks g ) (fun r1 g1 => if cb_w x1 = 0 then (f_X9_on_b23  x1 ((g1 0 3) - 1) g1) else (f_X9_on_b23  x1 ((g1 0 3) + 1) g1))
set_option maxRecDepth 100000 in
theorem C_X9_on {O : cb_O} (hJ : cb_J O skM) (x1 : Int) (g : cb_S) : ∀ q, f_X9_on g x1 = some q → cb_m O skM false yX9_on cX9_on 3 (some .boolean) rm_X9_on [.inr 0, .inl x1] g q := by
  intro q hq
  refine cb_of_body hJ (by decide) (Nat.le_of_ble_eq_true rfl) hq (fun M hok => ?_)
  show cb_j _ _ _ _ _ _ _ [some (.inr 0), some (.inl x1), none] _ _ (cb_b (f_X9_looks g ) (fun r1 g1 => if cb_w x1 = 0 then (f_X9_on_b23  x1 ((g1 0 3) - 1) g1) else (f_X9_on_b23  x1 ((g1 0 3) + 1) g1)))
  refine cb_aload_n hok dX9_on_0 rfl ?_
  refine cb_cvv (as := []) (rest := []) hok lk_RX9_162 (by decide) (by decide) dX9_on_1 (fun q1 hq1 => C_X9_looks hJ _ q1 hq1) rfl rfl (Nat.le_of_ble_eq_true rfl) skM_b0 skM_c0 rfl (fun r1 g1 => ?_)
  refine cb_iload_n hok dX9_on_4 rfl ?_
  refine cb_ifeq (tgt := 17) hok rfl dX9_on_5 (by decide) (fun _ => ?_) (fun _ => ?_)
  · refine cb_aload_n hok dX9_on_17 rfl ?_
    refine cb_gi hok dX9_on_18 fl_RX9_84 skM_b0 skM_c0 rfl ?_
    refine cb_iconst hok dX9_on_21 ?_
    refine cb_isub hok dX9_on_22 ?_
    refine cb_fewer (ls' := [some (.inr 0), some (.inl x1), none]) ⟨rfl, ⟨rfl, trivial⟩⟩ ?_
    exact J_X9_on_b23 hJ hok  _ _ _
  · refine cb_aload_n hok dX9_on_8 rfl ?_
    refine cb_gi hok dX9_on_9 fl_RX9_84 skM_b0 skM_c0 rfl ?_
    refine cb_iconst hok dX9_on_12 ?_
    refine cb_iadd hok dX9_on_13 ?_
    refine cb_goto (tgt := 23) hok dX9_on_14 (by decide) ?_
    refine cb_fewer (ls' := [some (.inr 0), some (.inl x1), none]) ⟨rfl, ⟨rfl, trivial⟩⟩ ?_
    exact J_X9_on_b23 hJ hok  _ _ _
