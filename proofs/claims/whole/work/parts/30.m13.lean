/-! CaretBenchModel toRight(I)V -/
def f_X9_toRight (g : cb_S) (x1 : Int) : Option (Int × cb_S) := (v_X9_isEven g x1).bind (fun r1 => if cb_w r1 = 0 then (if 0 ≤ cb_w x1 ∧ cb_w x1 < (64 : Nat) then (cb_b (f_X9_goes g (g 14 ((cb_w x1).toNat)) 1) (fun r2 g2 => some (0, g2))) else none) else (if 0 ≤ cb_w x1 ∧ cb_w x1 < (64 : Nat) then (if 0 ≤ cb_w x1 ∧ cb_w x1 < (64 : Nat) then (cb_b (f_X9_goes g ((g 14 ((cb_w x1).toNat)) + (g 15 ((cb_w x1).toNat))) 0) (fun r3 g3 => some (0, g3))) else none) else none))
set_option maxRecDepth 100000 in
theorem C_X9_toRight {O : cb_O} (hJ : cb_J O skM) (x1 : Int) (g : cb_S) : ∀ q, f_X9_toRight g x1 = some q → cb_m O skM true yX9_toRight cX9_toRight 2 none rm_X9_toRight [.inr 0, .inl x1] g q := by
  intro q hq
  refine cb_of_body hJ (by decide) (Nat.le_of_ble_eq_true rfl) hq (fun M hok => ?_)
  show cb_j _ _ _ _ _ _ _ [some (.inr 0), some (.inl x1)] _ _ ((v_X9_isEven g x1).bind (fun r1 => if cb_w r1 = 0 then (if 0 ≤ cb_w x1 ∧ cb_w x1 < (64 : Nat) then (cb_b (f_X9_goes g (g 14 ((cb_w x1).toNat)) 1) (fun r2 g2 => some (0, g2))) else none) else (if 0 ≤ cb_w x1 ∧ cb_w x1 < (64 : Nat) then (if 0 ≤ cb_w x1 ∧ cb_w x1 < (64 : Nat) then (cb_b (f_X9_goes g ((g 14 ((cb_w x1).toNat)) + (g 15 ((cb_w x1).toNat))) 0) (fun r3 g3 => some (0, g3))) else none) else none)))
  refine cb_aload_n hok dX9_toRight_0 rfl ?_
  refine cb_iload_n hok dX9_toRight_1 rfl ?_
  refine cb_cvr (as := [.inl x1]) (rest := []) hok lk_RX9_180 (by decide) (by decide) dX9_toRight_2 (fun q1 hq1 => C_X9_isEven hJ _ _ q1 hq1) rfl rfl (Nat.le_of_ble_eq_true rfl) skM_b0 skM_c0 rfl (fun r1 => ?_)
  refine cb_ifeq (tgt := 29) hok rfl dX9_toRight_5 (by decide) (fun _ => ?_) (fun _ => ?_)
  · refine cb_aload_n hok dX9_toRight_29 rfl ?_
    refine cb_aload_n hok dX9_toRight_30 rfl ?_
    refine cb_gr hok dX9_toRight_31 fl_RX9_50 skM_b0 skM_c0 rfl ?_
    refine cb_iload_n hok dX9_toRight_34 rfl ?_
    refine cb_iald hok dX9_toRight_35 skM_b14 skM_c14 ?_
    refine cb_iconst hok dX9_toRight_36 ?_
    refine cb_cvv (as := [.inl (g 14 ((cb_w x1).toNat)), .inl 1]) (rest := []) hok lk_RX9_187 (by decide) (by decide) dX9_toRight_37 (fun q1 hq1 => C_X9_goes hJ _ _ _ q1 hq1) rfl rfl (Nat.le_of_ble_eq_true rfl) skM_b0 skM_c0 rfl (fun r2 g2 => ?_)
    exact cb_vret hok dX9_toRight_40
  · refine cb_aload_n hok dX9_toRight_8 rfl ?_
    refine cb_aload_n hok dX9_toRight_9 rfl ?_
    refine cb_gr hok dX9_toRight_10 fl_RX9_50 skM_b0 skM_c0 rfl ?_
    refine cb_iload_n hok dX9_toRight_13 rfl ?_
    refine cb_iald hok dX9_toRight_14 skM_b14 skM_c14 ?_
    refine cb_aload_n hok dX9_toRight_15 rfl ?_
    refine cb_gr hok dX9_toRight_16 fl_RX9_53 skM_b0 skM_c0 rfl ?_
    refine cb_iload_n hok dX9_toRight_19 rfl ?_
    refine cb_iald hok dX9_toRight_20 skM_b15 skM_c15 ?_
    refine cb_iadd hok dX9_toRight_21 ?_
    refine cb_iconst hok dX9_toRight_22 ?_
    refine cb_cvv (as := [.inl ((g 14 ((cb_w x1).toNat)) + (g 15 ((cb_w x1).toNat))), .inl 0]) (rest := []) hok lk_RX9_187 (by decide) (by decide) dX9_toRight_23 (fun q1 hq1 => C_X9_goes hJ _ _ _ q1 hq1) rfl rfl (Nat.le_of_ble_eq_true rfl) skM_b0 skM_c0 rfl (fun r3 g3 => ?_)
    refine cb_goto (tgt := 40) hok dX9_toRight_26 (by decide) ?_
    exact cb_vret hok dX9_toRight_40
/-! CaretBenchModel toLeft(I)V -/
def f_X9_toLeft (g : cb_S) (x1 : Int) : Option (Int × cb_S) := (v_X9_isEven g x1).bind (fun r1 => if cb_w r1 = 0 then (if 0 ≤ cb_w x1 ∧ cb_w x1 < (64 : Nat) then (if 0 ≤ cb_w x1 ∧ cb_w x1 < (64 : Nat) then (cb_b (f_X9_goes g ((g 14 ((cb_w x1).toNat)) + (g 15 ((cb_w x1).toNat))) 0) (fun r2 g2 => some (0, g2))) else none) else none) else (if 0 ≤ cb_w x1 ∧ cb_w x1 < (64 : Nat) then (cb_b (f_X9_goes g (g 14 ((cb_w x1).toNat)) 1) (fun r3 g3 => some (0, g3))) else none))
set_option maxRecDepth 100000 in
theorem C_X9_toLeft {O : cb_O} (hJ : cb_J O skM) (x1 : Int) (g : cb_S) : ∀ q, f_X9_toLeft g x1 = some q → cb_m O skM true yX9_toLeft cX9_toLeft 2 none rm_X9_toLeft [.inr 0, .inl x1] g q := by
  intro q hq
  refine cb_of_body hJ (by decide) (Nat.le_of_ble_eq_true rfl) hq (fun M hok => ?_)
  show cb_j _ _ _ _ _ _ _ [some (.inr 0), some (.inl x1)] _ _ ((v_X9_isEven g x1).bind (fun r1 => if cb_w r1 = 0 then (if 0 ≤ cb_w x1 ∧ cb_w x1 < (64 : Nat) then (if 0 ≤ cb_w x1 ∧ cb_w x1 < (64 : Nat) then (cb_b (f_X9_goes g ((g 14 ((cb_w x1).toNat)) + (g 15 ((cb_w x1).toNat))) 0) (fun r2 g2 => some (0, g2))) else none) else none) else (if 0 ≤ cb_w x1 ∧ cb_w x1 < (64 : Nat) then (cb_b (f_X9_goes g (g 14 ((cb_w x1).toNat)) 1) (fun r3 g3 => some (0, g3))) else none)))
  refine cb_aload_n hok dX9_toLeft_0 rfl ?_
  refine cb_iload_n hok dX9_toLeft_1 rfl ?_
  refine cb_cvr (as := [.inl x1]) (rest := []) hok lk_RX9_180 (by decide) (by decide) dX9_toLeft_2 (fun q1 hq1 => C_X9_isEven hJ _ _ q1 hq1) rfl rfl (Nat.le_of_ble_eq_true rfl) skM_b0 skM_c0 rfl (fun r1 => ?_)
  refine cb_ifeq (tgt := 22) hok rfl dX9_toLeft_5 (by decide) (fun _ => ?_) (fun _ => ?_)
  · refine cb_aload_n hok dX9_toLeft_22 rfl ?_
    refine cb_aload_n hok dX9_toLeft_23 rfl ?_
    refine cb_gr hok dX9_toLeft_24 fl_RX9_50 skM_b0 skM_c0 rfl ?_
    refine cb_iload_n hok dX9_toLeft_27 rfl ?_
    refine cb_iald hok dX9_toLeft_28 skM_b14 skM_c14 ?_
    refine cb_aload_n hok dX9_toLeft_29 rfl ?_
    refine cb_gr hok dX9_toLeft_30 fl_RX9_53 skM_b0 skM_c0 rfl ?_
    refine cb_iload_n hok dX9_toLeft_33 rfl ?_
    refine cb_iald hok dX9_toLeft_34 skM_b15 skM_c15 ?_
    refine cb_iadd hok dX9_toLeft_35 ?_
    refine cb_iconst hok dX9_toLeft_36 ?_
    refine cb_cvv (as := [.inl ((g 14 ((cb_w x1).toNat)) + (g 15 ((cb_w x1).toNat))), .inl 0]) (rest := []) hok lk_RX9_187 (by decide) (by decide) dX9_toLeft_37 (fun q1 hq1 => C_X9_goes hJ _ _ _ q1 hq1) rfl rfl (Nat.le_of_ble_eq_true rfl) skM_b0 skM_c0 rfl (fun r2 g2 => ?_)
    exact cb_vret hok dX9_toLeft_40
  · refine cb_aload_n hok dX9_toLeft_8 rfl ?_
    refine cb_aload_n hok dX9_toLeft_9 rfl ?_
    refine cb_gr hok dX9_toLeft_10 fl_RX9_50 skM_b0 skM_c0 rfl ?_
    refine cb_iload_n hok dX9_toLeft_13 rfl ?_
    refine cb_iald hok dX9_toLeft_14 skM_b14 skM_c14 ?_
    refine cb_iconst hok dX9_toLeft_15 ?_
    refine cb_cvv (as := [.inl (g 14 ((cb_w x1).toNat)), .inl 1]) (rest := []) hok lk_RX9_187 (by decide) (by decide) dX9_toLeft_16 (fun q1 hq1 => C_X9_goes hJ _ _ _ q1 hq1) rfl rfl (Nat.le_of_ble_eq_true rfl) skM_b0 skM_c0 rfl (fun r3 g3 => ?_)
    refine cb_goto (tgt := 40) hok dX9_toLeft_19 (by decide) ?_
    exact cb_vret hok dX9_toLeft_40
/-! CaretBenchModel step(Z)Z -/
def f_X9_step_b103 (kk48 : Int → Int → Int → Int → Int → cb_S → Option (Int × cb_S)) (x1 x2 x3 x4 x5 : Int) (g : cb_S) : Option (Int × cb_S) := kk48 x1 x2 x3 x4 (x5 + 1) g
set_option maxRecDepth 100000 in
theorem J_X9_step_b103 {O : cb_O} {M : cb_M} (hJ : cb_J O skM) (hok : cb_ok O skM M cX9_step 6 RX9 (some .boolean)) {kk48 : Int → Int → Int → Int → Int → cb_S → Option (Int × cb_S)} (hk48 : ∀ (x1 x2 x3 x4 x5 : Int) (g : cb_S), cb_j O skM false rm_X9_step M 6 48 [some (.inr 0), some (.inl x1), some (.inl x2), some (.inl x3), some (.inl x4), some (.inl x5)] [] g (kk48 x1 x2 x3 x4 x5 g)) : ∀ (x1 x2 x3 x4 x5 : Int) (g : cb_S), cb_j O skM false rm_X9_step M 6 103 [some (.inr 0), some (.inl x1), some (.inl x2), some (.inl x3), some (.inl x4), some (.inl x5)] [] g (f_X9_step_b103 kk48 x1 x2 x3 x4 x5 g) := by
  intro x1 x2 x3 x4 x5 g
  show cb_j _ _ _ _ _ _ _ _ _ _ (kk48 x1 x2 x3 x4 (x5 + 1) g)
  refine cb_iinc (ls' := [some (.inr 0), some (.inl x1), some (.inl x2), some (.inl x3), some (.inl x4), some (.inl (x5 + 1))]) hok dX9_step_103 rfl (by decide) rfl ?_
  refine cb_goto (tgt := 48) hok dX9_step_106 (by decide) ?_
  refine cb_fewer (ls' := [some (.inr 0), some (.inl x1), some (.inl x2), some (.inl x3), some (.inl x4), some (.inl (x5 + 1))]) ⟨rfl, ⟨rfl, ⟨rfl, ⟨rfl, ⟨rfl, ⟨rfl, trivial⟩⟩⟩⟩⟩⟩ ?_
  exact hk48 _ _ _ _ _ _
def f_X9_step_b100 (kk48 : Int → Int → Int → Int → Int → cb_S → Option (Int × cb_S)) (x1 x3 x4 x5 : Int) (g : cb_S) : Option (Int × cb_S) := f_X9_step_b103 kk48 x1 x5 x3 x4 x5 g
set_option maxRecDepth 100000 in
theorem J_X9_step_b100 {O : cb_O} {M : cb_M} (hJ : cb_J O skM) (hok : cb_ok O skM M cX9_step 6 RX9 (some .boolean)) {kk48 : Int → Int → Int → Int → Int → cb_S → Option (Int × cb_S)} (hk48 : ∀ (x1 x2 x3 x4 x5 : Int) (g : cb_S), cb_j O skM false rm_X9_step M 6 48 [some (.inr 0), some (.inl x1), some (.inl x2), some (.inl x3), some (.inl x4), some (.inl x5)] [] g (kk48 x1 x2 x3 x4 x5 g)) : ∀ (x1 x3 x4 x5 : Int) (g : cb_S), cb_j O skM false rm_X9_step M 6 100 [some (.inr 0), some (.inl x1), none, some (.inl x3), some (.inl x4), some (.inl x5)] [] g (f_X9_step_b100 kk48 x1 x3 x4 x5 g) := by
  intro x1 x3 x4 x5 g
  show cb_j _ _ _ _ _ _ _ _ _ _ (f_X9_step_b103 kk48 x1 x5 x3 x4 x5 g)
  refine cb_iload hok dX9_step_100 rfl ?_
  refine cb_istore_n (ls' := [some (.inr 0), some (.inl x1), some (.inl x5), some (.inl x3), some (.inl x4), some (.inl x5)]) hok dX9_step_102 (by decide) rfl ?_
  refine cb_fewer (ls' := [some (.inr 0), some (.inl x1), some (.inl x5), some (.inl x3), some (.inl x4), some (.inl x5)]) ⟨rfl, ⟨rfl, ⟨rfl, ⟨rfl, ⟨rfl, ⟨rfl, trivial⟩⟩⟩⟩⟩⟩ ?_
  exact J_X9_step_b103 hJ hok hk48 _ _ _ _ _ _
def f_X9_step_b145 (x1 x2 : Int) (g : cb_S) : Option (Int × cb_S) := if cb_w x1 = 0 then (cb_b (f_X9_toLeft g x2) (fun r1 g1 => some (1, g1))) else (cb_b (f_X9_toRight g x2) (fun r2 g2 => some (1, g2)))
set_option maxRecDepth 100000 in
theorem J_X9_step_b145 {O : cb_O} {M : cb_M} (hJ : cb_J O skM) (hok : cb_ok O skM M cX9_step 6 RX9 (some .boolean)) : ∀ (x1 x2 : Int) (g : cb_S), cb_j O skM false rm_X9_step M 6 145 [some (.inr 0), some (.inl x1), some (.inl x2), none, none, none] [] g (f_X9_step_b145 x1 x2 g) := by
  intro x1 x2 g
  show cb_j _ _ _ _ _ _ _ _ _ _ (if cb_w x1 = 0 then (cb_b (f_X9_toLeft g x2) (fun r1 g1 => some (1, g1))) else (cb_b (f_X9_toRight g x2) (fun r2 g2 => some (1, g2))))
  refine cb_iload_n hok dX9_step_145 rfl ?_
  refine cb_ifeq (tgt := 157) hok rfl dX9_step_146 (by decide) (fun _ => ?_) (fun _ => ?_)
  · refine cb_aload_n hok dX9_step_157 rfl ?_
    refine cb_iload_n hok dX9_step_158 rfl ?_
    refine cb_cvv (as := [.inl x2]) (rest := []) hok lk_RX9_194 (by decide) (by decide) dX9_step_159 (fun q1 hq1 => C_X9_toLeft hJ _ _ q1 hq1) rfl rfl (Nat.le_of_ble_eq_true rfl) skM_b0 skM_c0 rfl (fun r1 g1 => ?_)
    refine cb_iconst hok dX9_step_162 ?_
    exact cb_zret hok dX9_step_163 (by decide)
  · refine cb_aload_n hok dX9_step_149 rfl ?_
    refine cb_iload_n hok dX9_step_150 rfl ?_
    refine cb_cvv (as := [.inl x2]) (rest := []) hok lk_RX9_191 (by decide) (by decide) dX9_step_151 (fun q1 hq1 => C_X9_toRight hJ _ _ q1 hq1) rfl rfl (Nat.le_of_ble_eq_true rfl) skM_b0 skM_c0 rfl (fun r2 g2 => ?_)
    refine cb_goto (tgt := 162) hok dX9_step_154 (by decide) ?_
    refine cb_iconst hok dX9_step_162 ?_
    exact cb_zret hok dX9_step_163 (by decide)
def f_X9_step_b109 (x1 x2 x3 : Int) (g : cb_S) : Option (Int × cb_S) := if cb_w x2 = (-1) then (some (0, g)) else (if 0 ≤ cb_w x2 ∧ cb_w x2 < (64 : Nat) then (if cb_w (g 16 ((cb_w x2).toNat)) = 0 then (f_X9_step_b145  x1 x2 g) else (if cb_w x3 = 0 then (if 0 ≤ cb_w x2 ∧ cb_w x2 < (64 : Nat) then (cb_b (f_X9_goes g ((g 14 ((cb_w x2).toNat)) + 2) 0) (fun r1 g1 => some (1, g1))) else none) else (f_X9_step_b145  x1 x2 g))) else none)
set_option maxRecDepth 100000 in
theorem J_X9_step_b109 {O : cb_O} {M : cb_M} (hJ : cb_J O skM) (hok : cb_ok O skM M cX9_step 6 RX9 (some .boolean)) : ∀ (x1 x2 x3 : Int) (g : cb_S), cb_j O skM false rm_X9_step M 6 109 [some (.inr 0), some (.inl x1), some (.inl x2), some (.inl x3), none, none] [] g (f_X9_step_b109 x1 x2 x3 g) := by
  intro x1 x2 x3 g
  show cb_j _ _ _ _ _ _ _ _ _ _ (if cb_w x2 = (-1) then (some (0, g)) else (if 0 ≤ cb_w x2 ∧ cb_w x2 < (64 : Nat) then (if cb_w (g 16 ((cb_w x2).toNat)) = 0 then (f_X9_step_b145  x1 x2 g) else (if cb_w x3 = 0 then (if 0 ≤ cb_w x2 ∧ cb_w x2 < (64 : Nat) then (cb_b (f_X9_goes g ((g 14 ((cb_w x2).toNat)) + 2) 0) (fun r1 g1 => some (1, g1))) else none) else (f_X9_step_b145  x1 x2 g))) else none))
  refine cb_iload_n hok dX9_step_109 rfl ?_
  refine cb_iconst hok dX9_step_110 ?_
  refine cb_icne (tgt := 116) hok rfl (by decide) dX9_step_111 (by decide) (fun _ => ?_) (fun _ => ?_)
  · refine cb_aload_n hok dX9_step_116 rfl ?_
    refine cb_gr hok dX9_step_117 fl_RX9_56 skM_b0 skM_c0 rfl ?_
    refine cb_iload_n hok dX9_step_120 rfl ?_
    refine cb_zald hok dX9_step_121 skM_b16 skM_c16 ?_
    refine cb_ifeq (tgt := 145) hok rfl dX9_step_122 (by decide) (fun _ => ?_) (fun _ => ?_)
    · refine cb_fewer (ls' := [some (.inr 0), some (.inl x1), some (.inl x2), none, none, none]) ⟨rfl, ⟨rfl, ⟨rfl, trivial⟩⟩⟩ ?_
      exact J_X9_step_b145 hJ hok  _ _ _
    · refine cb_iload_n hok dX9_step_125 rfl ?_
      refine cb_ifne (tgt := 145) hok rfl dX9_step_126 (by decide) (fun _ => ?_) (fun _ => ?_)
      · refine cb_fewer (ls' := [some (.inr 0), some (.inl x1), some (.inl x2), none, none, none]) ⟨rfl, ⟨rfl, ⟨rfl, trivial⟩⟩⟩ ?_
        exact J_X9_step_b145 hJ hok  _ _ _
      · refine cb_aload_n hok dX9_step_129 rfl ?_
        refine cb_aload_n hok dX9_step_130 rfl ?_
        refine cb_gr hok dX9_step_131 fl_RX9_50 skM_b0 skM_c0 rfl ?_
        refine cb_iload_n hok dX9_step_134 rfl ?_
        refine cb_iald hok dX9_step_135 skM_b14 skM_c14 ?_
        refine cb_iconst hok dX9_step_136 ?_
        refine cb_iadd hok dX9_step_137 ?_
        refine cb_iconst hok dX9_step_138 ?_
        refine cb_cvv (as := [.inl ((g 14 ((cb_w x2).toNat)) + 2), .inl 0]) (rest := []) hok lk_RX9_187 (by decide) (by decide) dX9_step_139 (fun q1 hq1 => C_X9_goes hJ _ _ _ q1 hq1) rfl rfl (Nat.le_of_ble_eq_true rfl) skM_b0 skM_c0 rfl (fun r1 g1 => ?_)
        refine cb_goto (tgt := 162) hok dX9_step_142 (by decide) ?_
        refine cb_iconst hok dX9_step_162 ?_
        exact cb_zret hok dX9_step_163 (by decide)
  · refine cb_iconst hok dX9_step_114 ?_
    exact cb_zret hok dX9_step_115 (by decide)
def f_X9_step_b48 : Nat → Int → Int → Int → Int → Int → cb_S → Option (Int × cb_S)
  | 0 => fun _ _ _ _ _ _ => none
  | n + 1 => fun x1 x2 x3 x4 x5 g => if cb_w (g 0 20) ≤ cb_w x5 then (f_X9_step_b109  x1 x2 x3 g) else (if cb_w x3 = 0 then (if cb_w x1 = 0 then (if 0 ≤ cb_w x5 ∧ cb_w x5 < (64 : Nat) then (if 0 ≤ cb_w x5 ∧ cb_w x5 < (64 : Nat) then (if cb_w ((g 18 ((cb_w x5).toNat)) + (g 17 ((cb_w x5).toNat))) = cb_w x4 then (f_X9_step_b100 (f_X9_step_b48 n) x1 x3 x4 x5 g) else (f_X9_step_b103 (f_X9_step_b48 n) x1 x2 x3 x4 x5 g)) else none) else none) else (if 0 ≤ cb_w x5 ∧ cb_w x5 < (64 : Nat) then (if cb_w (g 18 ((cb_w x5).toNat)) = cb_w x4 then (f_X9_step_b100 (f_X9_step_b48 n) x1 x3 x4 x5 g) else (f_X9_step_b103 (f_X9_step_b48 n) x1 x2 x3 x4 x5 g)) else none)) else (f_X9_step_b109  x1 x2 x3 g))
set_option maxRecDepth 100000 in
theorem J_X9_step_b48 {O : cb_O} {M : cb_M} (hJ : cb_J O skM) (hok : cb_ok O skM M cX9_step 6 RX9 (some .boolean)) : ∀ (n : Nat) (x1 x2 x3 x4 x5 : Int) (g : cb_S), cb_j O skM false rm_X9_step M 6 48 [some (.inr 0), some (.inl x1), some (.inl x2), some (.inl x3), some (.inl x4), some (.inl x5)] [] g (f_X9_step_b48 n x1 x2 x3 x4 x5 g) := by
  intro n
  induction n with
  | zero => intros; exact cb_none
  | succ n hk48 =>
    intro x1 x2 x3 x4 x5 g
    show cb_j _ _ _ _ _ _ _ _ _ _ (if cb_w (g 0 20) ≤ cb_w x5 then (f_X9_step_b109  x1 x2 x3 g) else (if cb_w x3 = 0 then (if cb_w x1 = 0 then (if 0 ≤ cb_w x5 ∧ cb_w x5 < (64 : Nat) then (if 0 ≤ cb_w x5 ∧ cb_w x5 < (64 : Nat) then (if cb_w ((g 18 ((cb_w x5).toNat)) + (g 17 ((cb_w x5).toNat))) = cb_w x4 then (f_X9_step_b100 (f_X9_step_b48 n) x1 x3 x4 x5 g) else (f_X9_step_b103 (f_X9_step_b48 n) x1 x2 x3 x4 x5 g)) else none) else none) else (if 0 ≤ cb_w x5 ∧ cb_w x5 < (64 : Nat) then (if cb_w (g 18 ((cb_w x5).toNat)) = cb_w x4 then (f_X9_step_b100 (f_X9_step_b48 n) x1 x3 x4 x5 g) else (f_X9_step_b103 (f_X9_step_b48 n) x1 x2 x3 x4 x5 g)) else none)) else (f_X9_step_b109  x1 x2 x3 g)))
    refine cb_iload hok dX9_step_48 rfl ?_
    refine cb_aload_n hok dX9_step_50 rfl ?_
    refine cb_gi hok dX9_step_51 fl_RX9_129 skM_b0 skM_c0 rfl ?_
    refine cb_icge (tgt := 109) hok rfl rfl dX9_step_54 (by decide) (fun _ => ?_) (fun _ => ?_)
    · refine cb_fewer (ls' := [some (.inr 0), some (.inl x1), some (.inl x2), some (.inl x3), none, none]) ⟨rfl, ⟨rfl, ⟨rfl, ⟨rfl, trivial⟩⟩⟩⟩ ?_
      exact J_X9_step_b109 hJ hok  _ _ _ _
    · refine cb_iload_n hok dX9_step_57 rfl ?_
      refine cb_ifne (tgt := 109) hok rfl dX9_step_58 (by decide) (fun _ => ?_) (fun _ => ?_)
      · refine cb_fewer (ls' := [some (.inr 0), some (.inl x1), some (.inl x2), some (.inl x3), none, none]) ⟨rfl, ⟨rfl, ⟨rfl, ⟨rfl, trivial⟩⟩⟩⟩ ?_
        exact J_X9_step_b109 hJ hok  _ _ _ _
      · refine cb_iload_n hok dX9_step_61 rfl ?_
        refine cb_ifeq (tgt := 80) hok rfl dX9_step_62 (by decide) (fun _ => ?_) (fun _ => ?_)
        · refine cb_aload_n hok dX9_step_80 rfl ?_
          refine cb_gr hok dX9_step_81 fl_RX9_62 skM_b0 skM_c0 rfl ?_
          refine cb_iload hok dX9_step_84 rfl ?_
          refine cb_iald hok dX9_step_86 skM_b18 skM_c18 ?_
          refine cb_aload_n hok dX9_step_87 rfl ?_
          refine cb_gr hok dX9_step_88 fl_RX9_59 skM_b0 skM_c0 rfl ?_
          refine cb_iload hok dX9_step_91 rfl ?_
          refine cb_iald hok dX9_step_93 skM_b17 skM_c17 ?_
          refine cb_iadd hok dX9_step_94 ?_
          refine cb_iload hok dX9_step_95 rfl ?_
          refine cb_icne (tgt := 103) hok rfl rfl dX9_step_97 (by decide) (fun _ => ?_) (fun _ => ?_)
          · refine cb_fewer (ls' := [some (.inr 0), some (.inl x1), some (.inl x2), some (.inl x3), some (.inl x4), some (.inl x5)]) ⟨rfl, ⟨rfl, ⟨rfl, ⟨rfl, ⟨rfl, ⟨rfl, trivial⟩⟩⟩⟩⟩⟩ ?_
            exact J_X9_step_b103 hJ hok hk48 _ _ _ _ _ _
          · refine cb_fewer (ls' := [some (.inr 0), some (.inl x1), none, some (.inl x3), some (.inl x4), some (.inl x5)]) ⟨rfl, ⟨rfl, ⟨rfl, ⟨rfl, ⟨rfl, trivial⟩⟩⟩⟩⟩ ?_
            exact J_X9_step_b100 hJ hok hk48 _ _ _ _ _
        · refine cb_aload_n hok dX9_step_65 rfl ?_
          refine cb_gr hok dX9_step_66 fl_RX9_62 skM_b0 skM_c0 rfl ?_
          refine cb_iload hok dX9_step_69 rfl ?_
          refine cb_iald hok dX9_step_71 skM_b18 skM_c18 ?_
          refine cb_iload hok dX9_step_72 rfl ?_
          refine cb_icne (tgt := 103) hok rfl rfl dX9_step_74 (by decide) (fun _ => ?_) (fun _ => ?_)
          · refine cb_fewer (ls' := [some (.inr 0), some (.inl x1), some (.inl x2), some (.inl x3), some (.inl x4), some (.inl x5)]) ⟨rfl, ⟨rfl, ⟨rfl, ⟨rfl, ⟨rfl, ⟨rfl, trivial⟩⟩⟩⟩⟩⟩ ?_
            exact J_X9_step_b103 hJ hok hk48 _ _ _ _ _ _
          · refine cb_goto (tgt := 100) hok dX9_step_77 (by decide) ?_
            refine cb_fewer (ls' := [some (.inr 0), some (.inl x1), none, some (.inl x3), some (.inl x4), some (.inl x5)]) ⟨rfl, ⟨rfl, ⟨rfl, ⟨rfl, ⟨rfl, trivial⟩⟩⟩⟩⟩ ?_
            exact J_X9_step_b100 hJ hok hk48 _ _ _ _ _
def f_X9_step_b38 (x1 x2 s0 : Int) (g : cb_S) : Option (Int × cb_S) := (v_X9_place g ).bind (fun r1 => f_X9_step_b48  cb_N x1 x2 s0 r1 0 g)
set_option maxRecDepth 100000 in
theorem J_X9_step_b38 {O : cb_O} {M : cb_M} (hJ : cb_J O skM) (hok : cb_ok O skM M cX9_step 6 RX9 (some .boolean)) : ∀ (x1 x2 s0 : Int) (g : cb_S), cb_j O skM false rm_X9_step M 6 38 [some (.inr 0), some (.inl x1), some (.inl x2), none, none, none] [.inl s0] g (f_X9_step_b38 x1 x2 s0 g) := by
  intro x1 x2 s0 g
  show cb_j _ _ _ _ _ _ _ _ _ _ ((v_X9_place g ).bind (fun r1 => f_X9_step_b48  cb_N x1 x2 s0 r1 0 g))
  refine cb_istore_n (ls' := [some (.inr 0), some (.inl x1), some (.inl x2), some (.inl s0), none, none]) hok dX9_step_38 (by decide) rfl ?_
  refine cb_aload_n hok dX9_step_39 rfl ?_
  refine cb_cvr (as := []) (rest := []) hok lk_RX9_183 (by decide) (by decide) dX9_step_40 (fun q1 hq1 => C_X9_place hJ _ q1 hq1) rfl rfl (Nat.le_of_ble_eq_true rfl) skM_b0 skM_c0 rfl (fun r1 => ?_)
  refine cb_istore (ls' := [some (.inr 0), some (.inl x1), some (.inl x2), some (.inl s0), some (.inl r1), none]) hok dX9_step_43 (by decide) rfl ?_
  refine cb_iconst hok dX9_step_45 ?_
  refine cb_istore (ls' := [some (.inr 0), some (.inl x1), some (.inl x2), some (.inl s0), some (.inl r1), some (.inl 0)]) hok dX9_step_46 (by decide) rfl ?_
  refine cb_fewer (ls' := [some (.inr 0), some (.inl x1), some (.inl x2), some (.inl s0), some (.inl r1), some (.inl 0)]) ⟨rfl, ⟨rfl, ⟨rfl, ⟨rfl, ⟨rfl, ⟨rfl, trivial⟩⟩⟩⟩⟩⟩ ?_
  exact J_X9_step_b48 hJ hok  cb_N _ _ _ _ _ _
def f_X9_step_b27 (x1 s0 : Int) (g : cb_S) : Option (Int × cb_S) := if cb_w s0 = (-1) then (f_X9_step_b38  x1 s0 0 g) else (f_X9_step_b38  x1 s0 1 g)
set_option maxRecDepth 100000 in
theorem J_X9_step_b27 {O : cb_O} {M : cb_M} (hJ : cb_J O skM) (hok : cb_ok O skM M cX9_step 6 RX9 (some .boolean)) : ∀ (x1 s0 : Int) (g : cb_S), cb_j O skM false rm_X9_step M 6 27 [some (.inr 0), some (.inl x1), none, none, none, none] [.inl s0] g (f_X9_step_b27 x1 s0 g) := by
  intro x1 s0 g
  show cb_j _ _ _ _ _ _ _ _ _ _ (if cb_w s0 = (-1) then (f_X9_step_b38  x1 s0 0 g) else (f_X9_step_b38  x1 s0 1 g))
  refine cb_istore_n (ls' := [some (.inr 0), some (.inl x1), some (.inl s0), none, none, none]) hok dX9_step_27 (by decide) rfl ?_
  refine cb_iload_n hok dX9_step_28 rfl ?_
  refine cb_iconst hok dX9_step_29 ?_
  refine cb_iceq (tgt := 37) hok rfl (by decide) dX9_step_30 (by decide) (fun _ => ?_) (fun _ => ?_)
  · refine cb_iconst hok dX9_step_37 ?_
    refine cb_fewer (ls' := [some (.inr 0), some (.inl x1), some (.inl s0), none, none, none]) ⟨rfl, ⟨rfl, ⟨rfl, trivial⟩⟩⟩ ?_
    exact J_X9_step_b38 hJ hok  _ _ _ _
  · refine cb_iconst hok dX9_step_33 ?_
    refine cb_goto (tgt := 38) hok dX9_step_34 (by decide) ?_
    refine cb_fewer (ls' := [some (.inr 0), some (.inl x1), some (.inl s0), none, none, none]) ⟨rfl, ⟨rfl, ⟨rfl, trivial⟩⟩⟩ ?_
    exact J_X9_step_b38 hJ hok  _ _ _ _
def f_X9_step (g : cb_S) (x1 : Int) : Option (Int × cb_S) := cb_b (f_X9_looks g ) (fun r1 g1 => (v_X9_isBetween g1 (g1 0 3)).bind (fun r2 => if cb_w r2 = 0 then ((v_X9_holds g1 (g1 0 3)).bind (fun r3 => f_X9_step_b27  x1 r3 g1)) else (f_X9_step_b27  x1 (-1) g1)))
set_option maxRecDepth 100000 in
theorem C_X9_step {O : cb_O} (hJ : cb_J O skM) (x1 : Int) (g : cb_S) : ∀ q, f_X9_step g x1 = some q → cb_m O skM false yX9_step cX9_step 6 (some .boolean) rm_X9_step [.inr 0, .inl x1] g q := by
  intro q hq
  refine cb_of_body hJ (by decide) (Nat.le_of_ble_eq_true rfl) hq (fun M hok => ?_)
  show cb_j _ _ _ _ _ _ _ [some (.inr 0), some (.inl x1), none, none, none, none] _ _ (cb_b (f_X9_looks g ) (fun r1 g1 => (v_X9_isBetween g1 (g1 0 3)).bind (fun r2 => if cb_w r2 = 0 then ((v_X9_holds g1 (g1 0 3)).bind (fun r3 => f_X9_step_b27  x1 r3 g1)) else (f_X9_step_b27  x1 (-1) g1))))
  refine cb_aload_n hok dX9_step_0 rfl ?_
  refine cb_cvv (as := []) (rest := []) hok lk_RX9_162 (by decide) (by decide) dX9_step_1 (fun q1 hq1 => C_X9_looks hJ _ q1 hq1) rfl rfl (Nat.le_of_ble_eq_true rfl) skM_b0 skM_c0 rfl (fun r1 g1 => ?_)
  refine cb_aload_n hok dX9_step_4 rfl ?_
  refine cb_aload_n hok dX9_step_5 rfl ?_
  refine cb_gi hok dX9_step_6 fl_RX9_84 skM_b0 skM_c0 rfl ?_
  refine cb_cvr (as := [.inl (g1 0 3)]) (rest := []) hok lk_RX9_156 (by decide) (by decide) dX9_step_9 (fun q1 hq1 => C_X9_isBetween hJ _ _ q1 hq1) rfl rfl (Nat.le_of_ble_eq_true rfl) skM_b0 skM_c0 rfl (fun r2 => ?_)
  refine cb_ifeq (tgt := 19) hok rfl dX9_step_12 (by decide) (fun _ => ?_) (fun _ => ?_)
  · refine cb_aload_n hok dX9_step_19 rfl ?_
    refine cb_aload_n hok dX9_step_20 rfl ?_
    refine cb_gi hok dX9_step_21 fl_RX9_84 skM_b0 skM_c0 rfl ?_
    refine cb_cvr (as := [.inl (g1 0 3)]) (rest := []) hok lk_RX9_159 (by decide) (by decide) dX9_step_24 (fun q1 hq1 => C_X9_holds hJ _ _ q1 hq1) rfl rfl (Nat.le_of_ble_eq_true rfl) skM_b0 skM_c0 rfl (fun r3 => ?_)
    refine cb_fewer (ls' := [some (.inr 0), some (.inl x1), none, none, none, none]) ⟨rfl, ⟨rfl, trivial⟩⟩ ?_
    exact J_X9_step_b27 hJ hok  _ _ _
  · refine cb_iconst hok dX9_step_15 ?_
    refine cb_goto (tgt := 27) hok dX9_step_16 (by decide) ?_
    refine cb_fewer (ls' := [some (.inr 0), some (.inl x1), none, none, none, none]) ⟨rfl, ⟨rfl, trivial⟩⟩ ?_
    exact J_X9_step_b27 hJ hok  _ _ _
/-! CaretBenchModel isWord(I)Z -/
def v_X9_isWord_b66 (x4 : Int) (g : cb_S) : Option Int := (v_X9_isLetter g x4).bind (fun r1 => if cb_w r1 = 0 then ((v_X9_isDigit g x4).bind (fun r2 => if cb_w r2 = 0 then (some 1) else (some 0))) else (some 0))
set_option maxRecDepth 100000 in
theorem J_X9_isWord_b66 {O : cb_O} {M : cb_M} (hJ : cb_J O skM) (hok : cb_ok O skM M cX9_isWord 6 RX9 (some .boolean)) : ∀ (x4 : Int) (g : cb_S), cb_jr O skM rm_X9_isWord M 6 66 [none, none, none, none, some (.inl x4), none] [] g (v_X9_isWord_b66 x4 g) := by
  intro x4 g
  show cb_jr _ _ _ _ _ _ _ _ _ ((v_X9_isLetter g x4).bind (fun r1 => if cb_w r1 = 0 then ((v_X9_isDigit g x4).bind (fun r2 => if cb_w r2 = 0 then (some 1) else (some 0))) else (some 0)))
  refine cr_iload hok dX9_isWord_66 rfl ?_
  refine cr_csr (as := [.inl x4]) (rest := []) hok lk_RX9_97 (by decide) (by decide) dX9_isWord_68 (fun q1 hq1 => C_X9_isLetter hJ _ _ q1 hq1) rfl rfl (Nat.le_of_ble_eq_true rfl) (fun r1 => ?_)
  refine cr_ifne (tgt := 86) hok rfl dX9_isWord_71 (by decide) (fun _ => ?_) (fun _ => ?_)
  · refine cr_iconst hok dX9_isWord_86 ?_
    exact cr_zret hok dX9_isWord_87 (by decide)
  · refine cr_iload hok dX9_isWord_74 rfl ?_
    refine cr_csr (as := [.inl x4]) (rest := []) hok lk_RX9_100 (by decide) (by decide) dX9_isWord_76 (fun q1 hq1 => C_X9_isDigit hJ _ _ q1 hq1) rfl rfl (Nat.le_of_ble_eq_true rfl) (fun r2 => ?_)
    refine cr_ifne (tgt := 86) hok rfl dX9_isWord_79 (by decide) (fun _ => ?_) (fun _ => ?_)
    · refine cr_iconst hok dX9_isWord_86 ?_
      exact cr_zret hok dX9_isWord_87 (by decide)
    · refine cr_iconst hok dX9_isWord_82 ?_
      refine cr_goto (tgt := 87) hok dX9_isWord_83 (by decide) ?_
      exact cr_zret hok dX9_isWord_87 (by decide)
def v_X9_isWord (g : cb_S) (x1 : Int) : Option Int := (v_X9_endsAt g x1).bind (fun r1 => (v_X9_beginsAt g x1).bind (fun r2 => if cb_w r1 = (-1) then (some 0) else (if cb_w r2 = (-1) then (some 0) else (if 0 ≤ cb_w r1 ∧ cb_w r1 < (64 : Nat) then (if 0 ≤ cb_w (g 14 ((cb_w r1).toNat)) ∧ cb_w (g 14 ((cb_w r1).toNat)) < (64 : Nat) then (if 0 ≤ cb_w r2 ∧ cb_w r2 < (64 : Nat) then (if 0 ≤ cb_w (g 14 ((cb_w r2).toNat)) ∧ cb_w (g 14 ((cb_w r2).toNat)) < (64 : Nat) then ((v_X9_isLetter g (g 1 ((cb_w (g 14 ((cb_w r2).toNat))).toNat))).bind (fun r3 => if cb_w r3 = 0 then ((v_X9_isDigit g (g 1 ((cb_w (g 14 ((cb_w r2).toNat))).toNat))).bind (fun r4 => if cb_w r4 = 0 then (some 0) else (v_X9_isWord_b66  (g 1 ((cb_w (g 14 ((cb_w r1).toNat))).toNat)) g))) else (v_X9_isWord_b66  (g 1 ((cb_w (g 14 ((cb_w r1).toNat))).toNat)) g))) else none) else none) else none) else none))))
set_option maxRecDepth 100000 in
theorem C_X9_isWord {O : cb_O} (hJ : cb_J O skM) (x1 : Int) (g : cb_S) : ∀ q, v_X9_isWord g x1 = some q → cb_m O skM false yX9_isWord cX9_isWord 6 (some .boolean) rm_X9_isWord [.inr 0, .inl x1] g (q, g) := by
  intro q hq
  refine cr_of_body hJ (by decide) (Nat.le_of_ble_eq_true rfl) hq (fun M hok => ?_)
  show cb_jr _ _ _ _ _ _ [some (.inr 0), some (.inl x1), none, none, none, none] _ _ ((v_X9_endsAt g x1).bind (fun r1 => (v_X9_beginsAt g x1).bind (fun r2 => if cb_w r1 = (-1) then (some 0) else (if cb_w r2 = (-1) then (some 0) else (if 0 ≤ cb_w r1 ∧ cb_w r1 < (64 : Nat) then (if 0 ≤ cb_w (g 14 ((cb_w r1).toNat)) ∧ cb_w (g 14 ((cb_w r1).toNat)) < (64 : Nat) then (if 0 ≤ cb_w r2 ∧ cb_w r2 < (64 : Nat) then (if 0 ≤ cb_w (g 14 ((cb_w r2).toNat)) ∧ cb_w (g 14 ((cb_w r2).toNat)) < (64 : Nat) then ((v_X9_isLetter g (g 1 ((cb_w (g 14 ((cb_w r2).toNat))).toNat))).bind (fun r3 => if cb_w r3 = 0 then ((v_X9_isDigit g (g 1 ((cb_w (g 14 ((cb_w r2).toNat))).toNat))).bind (fun r4 => if cb_w r4 = 0 then (some 0) else (v_X9_isWord_b66  (g 1 ((cb_w (g 14 ((cb_w r1).toNat))).toNat)) g))) else (v_X9_isWord_b66  (g 1 ((cb_w (g 14 ((cb_w r1).toNat))).toNat)) g))) else none) else none) else none) else none)))))
  refine cr_aload_n hok dX9_isWord_0 rfl ?_
  refine cr_iload_n hok dX9_isWord_1 rfl ?_
  refine cr_cvr (as := [.inl x1]) (rest := []) hok lk_RX9_177 (by decide) (by decide) dX9_isWord_2 (fun q1 hq1 => C_X9_endsAt hJ _ _ q1 hq1) rfl rfl (Nat.le_of_ble_eq_true rfl) skM_b0 skM_c0 rfl (fun r1 => ?_)
  refine cr_istore_n (ls' := [some (.inr 0), some (.inl x1), some (.inl r1), none, none, none]) hok dX9_isWord_5 (by decide) rfl ?_
  refine cr_aload_n hok dX9_isWord_6 rfl ?_
  refine cr_iload_n hok dX9_isWord_7 rfl ?_
  refine cr_cvr (as := [.inl x1]) (rest := []) hok lk_RX9_153 (by decide) (by decide) dX9_isWord_8 (fun q1 hq1 => C_X9_beginsAt hJ _ _ q1 hq1) rfl rfl (Nat.le_of_ble_eq_true rfl) skM_b0 skM_c0 rfl (fun r2 => ?_)
  refine cr_istore_n (ls' := [some (.inr 0), some (.inl x1), some (.inl r1), some (.inl r2), none, none]) hok dX9_isWord_11 (by decide) rfl ?_
  refine cr_iload_n hok dX9_isWord_12 rfl ?_
  refine cr_iconst hok dX9_isWord_13 ?_
  refine cr_iceq (tgt := 22) hok rfl (by decide) dX9_isWord_14 (by decide) (fun _ => ?_) (fun _ => ?_)
  · refine cr_iconst hok dX9_isWord_22 ?_
    exact cr_zret hok dX9_isWord_23 (by decide)
  · refine cr_iload_n hok dX9_isWord_17 rfl ?_
    refine cr_iconst hok dX9_isWord_18 ?_
    refine cr_icne (tgt := 24) hok rfl (by decide) dX9_isWord_19 (by decide) (fun _ => ?_) (fun _ => ?_)
    · refine cr_aload_n hok dX9_isWord_24 rfl ?_
      refine cr_gr hok dX9_isWord_25 fl_RX9_7 skM_b0 skM_c0 rfl ?_
      refine cr_aload_n hok dX9_isWord_28 rfl ?_
      refine cr_gr hok dX9_isWord_29 fl_RX9_50 skM_b0 skM_c0 rfl ?_
      refine cr_iload_n hok dX9_isWord_32 rfl ?_
      refine cr_iald hok dX9_isWord_33 skM_b14 skM_c14 ?_
      refine cr_iald hok dX9_isWord_34 skM_b1 skM_c1 ?_
      refine cr_istore (ls' := [some (.inr 0), some (.inl x1), some (.inl r1), some (.inl r2), some (.inl (g 1 ((cb_w (g 14 ((cb_w r1).toNat))).toNat))), none]) hok dX9_isWord_35 (by decide) rfl ?_
      refine cr_aload_n hok dX9_isWord_37 rfl ?_
      refine cr_gr hok dX9_isWord_38 fl_RX9_7 skM_b0 skM_c0 rfl ?_
      refine cr_aload_n hok dX9_isWord_41 rfl ?_
      refine cr_gr hok dX9_isWord_42 fl_RX9_50 skM_b0 skM_c0 rfl ?_
      refine cr_iload_n hok dX9_isWord_45 rfl ?_
      refine cr_iald hok dX9_isWord_46 skM_b14 skM_c14 ?_
      refine cr_iald hok dX9_isWord_47 skM_b1 skM_c1 ?_
      refine cr_istore (ls' := [some (.inr 0), some (.inl x1), some (.inl r1), some (.inl r2), some (.inl (g 1 ((cb_w (g 14 ((cb_w r1).toNat))).toNat))), some (.inl (g 1 ((cb_w (g 14 ((cb_w r2).toNat))).toNat)))]) hok dX9_isWord_48 (by decide) rfl ?_
      refine cr_iload hok dX9_isWord_50 rfl ?_
      refine cr_csr (as := [.inl (g 1 ((cb_w (g 14 ((cb_w r2).toNat))).toNat))]) (rest := []) hok lk_RX9_97 (by decide) (by decide) dX9_isWord_52 (fun q1 hq1 => C_X9_isLetter hJ _ _ q1 hq1) rfl rfl (Nat.le_of_ble_eq_true rfl) (fun r3 => ?_)
      refine cr_ifne (tgt := 66) hok rfl dX9_isWord_55 (by decide) (fun _ => ?_) (fun _ => ?_)
      · refine cr_fewer (ls' := [none, none, none, none, some (.inl (g 1 ((cb_w (g 14 ((cb_w r1).toNat))).toNat))), none]) ⟨rfl, trivial⟩ ?_
        exact J_X9_isWord_b66 hJ hok  _ _
      · refine cr_iload hok dX9_isWord_58 rfl ?_
        refine cr_csr (as := [.inl (g 1 ((cb_w (g 14 ((cb_w r2).toNat))).toNat))]) (rest := []) hok lk_RX9_100 (by decide) (by decide) dX9_isWord_60 (fun q1 hq1 => C_X9_isDigit hJ _ _ q1 hq1) rfl rfl (Nat.le_of_ble_eq_true rfl) (fun r4 => ?_)
        refine cr_ifeq (tgt := 86) hok rfl dX9_isWord_63 (by decide) (fun _ => ?_) (fun _ => ?_)
        · refine cr_iconst hok dX9_isWord_86 ?_
          exact cr_zret hok dX9_isWord_87 (by decide)
        · refine cr_fewer (ls' := [none, none, none, none, some (.inl (g 1 ((cb_w (g 14 ((cb_w r1).toNat))).toNat))), none]) ⟨rfl, trivial⟩ ?_
          exact J_X9_isWord_b66 hJ hok  _ _
    · refine cr_iconst hok dX9_isWord_22 ?_
      exact cr_zret hok dX9_isWord_23 (by decide)
/-! CaretBenchModel word(Z)Z -/
def f_X9_word_b81 (kk51 : Int → Int → cb_S → Option (Int × cb_S)) (x1 s0 s1 : Int) (g : cb_S) : Option (Int × cb_S) := kk51 x1 (s1 + s0) g
set_option maxRecDepth 100000 in
theorem J_X9_word_b81 {O : cb_O} {M : cb_M} (hJ : cb_J O skM) (hok : cb_ok O skM M cX9_word 3 RX9 (some .boolean)) {kk51 : Int → Int → cb_S → Option (Int × cb_S)} (hk51 : ∀ (x1 x2 : Int) (g : cb_S), cb_j O skM false rm_X9_word M 3 51 [some (.inr 0), some (.inl x1), some (.inl x2)] [] g (kk51 x1 x2 g)) : ∀ (x1 s0 s1 : Int) (g : cb_S), cb_j O skM false rm_X9_word M 3 81 [some (.inr 0), some (.inl x1), none] [.inl s0, .inl s1] g (f_X9_word_b81 kk51 x1 s0 s1 g) := by
  intro x1 s0 s1 g
  show cb_j _ _ _ _ _ _ _ _ _ _ (kk51 x1 (s1 + s0) g)
  refine cb_iadd hok dX9_word_81 ?_
  refine cb_istore_n (ls' := [some (.inr 0), some (.inl x1), some (.inl (s1 + s0))]) hok dX9_word_82 (by decide) rfl ?_
  refine cb_goto (tgt := 51) hok dX9_word_83 (by decide) ?_
  refine cb_fewer (ls' := [some (.inr 0), some (.inl x1), some (.inl (s1 + s0))]) ⟨rfl, ⟨rfl, ⟨rfl, trivial⟩⟩⟩ ?_
  exact hk51 _ _ _
def f_X9_word_b105 (s0 s1 : Int) (g : cb_S) : Option (Int × cb_S) := cb_b (f_X9_goes g s1 s0) (fun r1 g1 => some (1, g1))
set_option maxRecDepth 100000 in
theorem J_X9_word_b105 {O : cb_O} {M : cb_M} (hJ : cb_J O skM) (hok : cb_ok O skM M cX9_word 3 RX9 (some .boolean)) : ∀ (s0 s1 : Int) (g : cb_S), cb_j O skM false rm_X9_word M 3 105 [none, none, none] [.inl s0, .inl s1, .inr 0] g (f_X9_word_b105 s0 s1 g) := by
  intro s0 s1 g
  show cb_j _ _ _ _ _ _ _ _ _ _ (cb_b (f_X9_goes g s1 s0) (fun r1 g1 => some (1, g1)))
  refine cb_cvv (as := [.inl s1, .inl s0]) (rest := []) hok lk_RX9_187 (by decide) (by decide) dX9_word_105 (fun q1 hq1 => C_X9_goes hJ _ _ _ q1 hq1) rfl rfl (Nat.le_of_ble_eq_true rfl) skM_b0 skM_c0 rfl (fun r1 g1 => ?_)
  refine cb_iconst hok dX9_word_108 ?_
  exact cb_zret hok dX9_word_109 (by decide)
def f_X9_word_b104 (s0 : Int) (g : cb_S) : Option (Int × cb_S) := f_X9_word_b105  1 s0 g
set_option maxRecDepth 100000 in
theorem J_X9_word_b104 {O : cb_O} {M : cb_M} (hJ : cb_J O skM) (hok : cb_ok O skM M cX9_word 3 RX9 (some .boolean)) : ∀ (s0 : Int) (g : cb_S), cb_j O skM false rm_X9_word M 3 104 [none, none, none] [.inl s0, .inr 0] g (f_X9_word_b104 s0 g) := by
  intro s0 g
  show cb_j _ _ _ _ _ _ _ _ _ _ (f_X9_word_b105  1 s0 g)
  refine cb_iconst hok dX9_word_104 ?_
  refine cb_fewer (ls' := [none, none, none]) trivial ?_
  exact J_X9_word_b105 hJ hok  _ _ _
def f_X9_word_b86 (x1 x2 : Int) (g : cb_S) : Option (Int × cb_S) := if cb_w x2 = cb_w (g 0 1) then (if cb_w x1 = 0 then (f_X9_word_b104  x2 g) else (f_X9_word_b105  0 x2 g)) else (f_X9_word_b104  x2 g)
set_option maxRecDepth 100000 in
theorem J_X9_word_b86 {O : cb_O} {M : cb_M} (hJ : cb_J O skM) (hok : cb_ok O skM M cX9_word 3 RX9 (some .boolean)) : ∀ (x1 x2 : Int) (g : cb_S), cb_j O skM false rm_X9_word M 3 86 [some (.inr 0), some (.inl x1), some (.inl x2)] [] g (f_X9_word_b86 x1 x2 g) := by
  intro x1 x2 g
  show cb_j _ _ _ _ _ _ _ _ _ _ (if cb_w x2 = cb_w (g 0 1) then (if cb_w x1 = 0 then (f_X9_word_b104  x2 g) else (f_X9_word_b105  0 x2 g)) else (f_X9_word_b104  x2 g))
  refine cb_aload_n hok dX9_word_86 rfl ?_
  refine cb_iload_n hok dX9_word_87 rfl ?_
  refine cb_iload_n hok dX9_word_88 rfl ?_
  refine cb_aload_n hok dX9_word_89 rfl ?_
  refine cb_gi hok dX9_word_90 fl_RX9_81 skM_b0 skM_c0 rfl ?_
  refine cb_icne (tgt := 104) hok rfl rfl dX9_word_93 (by decide) (fun _ => ?_) (fun _ => ?_)
  · refine cb_fewer (ls' := [none, none, none]) trivial ?_
    exact J_X9_word_b104 hJ hok  _ _
  · refine cb_iload_n hok dX9_word_96 rfl ?_
    refine cb_ifeq (tgt := 104) hok rfl dX9_word_97 (by decide) (fun _ => ?_) (fun _ => ?_)
    · refine cb_fewer (ls' := [none, none, none]) trivial ?_
      exact J_X9_word_b104 hJ hok  _ _
    · refine cb_iconst hok dX9_word_100 ?_
      refine cb_goto (tgt := 105) hok dX9_word_101 (by decide) ?_
      refine cb_fewer (ls' := [none, none, none]) trivial ?_
      exact J_X9_word_b105 hJ hok  _ _ _
def f_X9_word_b51 : Nat → Int → Int → cb_S → Option (Int × cb_S)
  | 0 => fun _ _ _ => none
  | n + 1 => fun x1 x2 g => if cb_w x2 ≤ 0 then (f_X9_word_b86  x1 x2 g) else (if cb_w (g 0 1) ≤ cb_w x2 then (f_X9_word_b86  x1 x2 g) else ((v_X9_isWord g x2).bind (fun r1 => if cb_w r1 = 0 then (if cb_w x1 = 0 then (f_X9_word_b81 (f_X9_word_b51 n) x1 (-1) x2 g) else (f_X9_word_b81 (f_X9_word_b51 n) x1 1 x2 g)) else (f_X9_word_b86  x1 x2 g))))
set_option maxRecDepth 100000 in
theorem J_X9_word_b51 {O : cb_O} {M : cb_M} (hJ : cb_J O skM) (hok : cb_ok O skM M cX9_word 3 RX9 (some .boolean)) : ∀ (n : Nat) (x1 x2 : Int) (g : cb_S), cb_j O skM false rm_X9_word M 3 51 [some (.inr 0), some (.inl x1), some (.inl x2)] [] g (f_X9_word_b51 n x1 x2 g) := by
  intro n
  induction n with
  | zero => intros; exact cb_none
  | succ n hk51 =>
    intro x1 x2 g
    show cb_j _ _ _ _ _ _ _ _ _ _ (if cb_w x2 ≤ 0 then (f_X9_word_b86  x1 x2 g) else (if cb_w (g 0 1) ≤ cb_w x2 then (f_X9_word_b86  x1 x2 g) else ((v_X9_isWord g x2).bind (fun r1 => if cb_w r1 = 0 then (if cb_w x1 = 0 then (f_X9_word_b81 (f_X9_word_b51 n) x1 (-1) x2 g) else (f_X9_word_b81 (f_X9_word_b51 n) x1 1 x2 g)) else (f_X9_word_b86  x1 x2 g)))))
    refine cb_iload_n hok dX9_word_51 rfl ?_
    refine cb_ifle (tgt := 86) hok rfl dX9_word_52 (by decide) (fun _ => ?_) (fun _ => ?_)
    · refine cb_fewer (ls' := [some (.inr 0), some (.inl x1), some (.inl x2)]) ⟨rfl, ⟨rfl, ⟨rfl, trivial⟩⟩⟩ ?_
      exact J_X9_word_b86 hJ hok  _ _ _
    · refine cb_iload_n hok dX9_word_55 rfl ?_
      refine cb_aload_n hok dX9_word_56 rfl ?_
      refine cb_gi hok dX9_word_57 fl_RX9_81 skM_b0 skM_c0 rfl ?_
      refine cb_icge (tgt := 86) hok rfl rfl dX9_word_60 (by decide) (fun _ => ?_) (fun _ => ?_)
      · refine cb_fewer (ls' := [some (.inr 0), some (.inl x1), some (.inl x2)]) ⟨rfl, ⟨rfl, ⟨rfl, trivial⟩⟩⟩ ?_
        exact J_X9_word_b86 hJ hok  _ _ _
      · refine cb_aload_n hok dX9_word_63 rfl ?_
        refine cb_iload_n hok dX9_word_64 rfl ?_
        refine cb_cvr (as := [.inl x2]) (rest := []) hok lk_RX9_197 (by decide) (by decide) dX9_word_65 (fun q1 hq1 => C_X9_isWord hJ _ _ q1 hq1) rfl rfl (Nat.le_of_ble_eq_true rfl) skM_b0 skM_c0 rfl (fun r1 => ?_)
        refine cb_ifne (tgt := 86) hok rfl dX9_word_68 (by decide) (fun _ => ?_) (fun _ => ?_)
        · refine cb_fewer (ls' := [some (.inr 0), some (.inl x1), some (.inl x2)]) ⟨rfl, ⟨rfl, ⟨rfl, trivial⟩⟩⟩ ?_
          exact J_X9_word_b86 hJ hok  _ _ _
        · refine cb_iload_n hok dX9_word_71 rfl ?_
          refine cb_iload_n hok dX9_word_72 rfl ?_
          refine cb_ifeq (tgt := 80) hok rfl dX9_word_73 (by decide) (fun _ => ?_) (fun _ => ?_)
          · refine cb_iconst hok dX9_word_80 ?_
            refine cb_fewer (ls' := [some (.inr 0), some (.inl x1), none]) ⟨rfl, ⟨rfl, trivial⟩⟩ ?_
            exact J_X9_word_b81 hJ hok hk51 _ _ _ _
          · refine cb_iconst hok dX9_word_76 ?_
            refine cb_goto (tgt := 81) hok dX9_word_77 (by decide) ?_
            refine cb_fewer (ls' := [some (.inr 0), some (.inl x1), none]) ⟨rfl, ⟨rfl, trivial⟩⟩ ?_
            exact J_X9_word_b81 hJ hok hk51 _ _ _ _
def f_X9_word_b50 (x1 s0 : Int) (g : cb_S) : Option (Int × cb_S) := f_X9_word_b51  cb_N x1 s0 g
set_option maxRecDepth 100000 in
theorem J_X9_word_b50 {O : cb_O} {M : cb_M} (hJ : cb_J O skM) (hok : cb_ok O skM M cX9_word 3 RX9 (some .boolean)) : ∀ (x1 s0 : Int) (g : cb_S), cb_j O skM false rm_X9_word M 3 50 [some (.inr 0), some (.inl x1), none] [.inl s0] g (f_X9_word_b50 x1 s0 g) := by
  intro x1 s0 g
  show cb_j _ _ _ _ _ _ _ _ _ _ (f_X9_word_b51  cb_N x1 s0 g)
  refine cb_istore_n (ls' := [some (.inr 0), some (.inl x1), some (.inl s0)]) hok dX9_word_50 (by decide) rfl ?_
  refine cb_fewer (ls' := [some (.inr 0), some (.inl x1), some (.inl s0)]) ⟨rfl, ⟨rfl, ⟨rfl, trivial⟩⟩⟩ ?_
  exact J_X9_word_b51 hJ hok  cb_N _ _ _
def f_X9_word_b31 (x1 : Int) (g : cb_S) : Option (Int × cb_S) := if cb_w x1 = 0 then (f_X9_word_b50  x1 ((g 0 3) - 1) g) else (f_X9_word_b50  x1 ((g 0 3) + 1) g)
set_option maxRecDepth 100000 in
theorem J_X9_word_b31 {O : cb_O} {M : cb_M} (hJ : cb_J O skM) (hok : cb_ok O skM M cX9_word 3 RX9 (some .boolean)) : ∀ (x1 : Int) (g : cb_S), cb_j O skM false rm_X9_word M 3 31 [some (.inr 0), some (.inl x1), none] [] g (f_X9_word_b31 x1 g) := by
  intro x1 g
  show cb_j _ _ _ _ _ _ _ _ _ _ (if cb_w x1 = 0 then (f_X9_word_b50  x1 ((g 0 3) - 1) g) else (f_X9_word_b50  x1 ((g 0 3) + 1) g))
  refine cb_iload_n hok dX9_word_31 rfl ?_
  refine cb_ifeq (tgt := 44) hok rfl dX9_word_32 (by decide) (fun _ => ?_) (fun _ => ?_)
  · refine cb_aload_n hok dX9_word_44 rfl ?_
    refine cb_gi hok dX9_word_45 fl_RX9_84 skM_b0 skM_c0 rfl ?_
    refine cb_iconst hok dX9_word_48 ?_
    refine cb_isub hok dX9_word_49 ?_
    refine cb_fewer (ls' := [some (.inr 0), some (.inl x1), none]) ⟨rfl, ⟨rfl, trivial⟩⟩ ?_
    exact J_X9_word_b50 hJ hok  _ _ _
  · refine cb_aload_n hok dX9_word_35 rfl ?_
    refine cb_gi hok dX9_word_36 fl_RX9_84 skM_b0 skM_c0 rfl ?_
    refine cb_iconst hok dX9_word_39 ?_
    refine cb_iadd hok dX9_word_40 ?_
    refine cb_goto (tgt := 50) hok dX9_word_41 (by decide) ?_
    refine cb_fewer (ls' := [some (.inr 0), some (.inl x1), none]) ⟨rfl, ⟨rfl, trivial⟩⟩ ?_
    exact J_X9_word_b50 hJ hok  _ _ _
def f_X9_word (g : cb_S) (x1 : Int) : Option (Int × cb_S) := cb_b (f_X9_looks g ) (fun r1 g1 => if cb_w x1 = 0 then (if cb_w (g1 0 3) = 0 then (some (0, g1)) else (f_X9_word_b31  x1 g1)) else (if cb_w (g1 0 3) = cb_w (g1 0 1) then (some (0, g1)) else (f_X9_word_b31  x1 g1)))
set_option maxRecDepth 100000 in
theorem C_X9_word {O : cb_O} (hJ : cb_J O skM) (x1 : Int) (g : cb_S) : ∀ q, f_X9_word g x1 = some q → cb_m O skM false yX9_word cX9_word 3 (some .boolean) rm_X9_word [.inr 0, .inl x1] g q := by
  intro q hq
  refine cb_of_body hJ (by decide) (Nat.le_of_ble_eq_true rfl) hq (fun M hok => ?_)
  show cb_j _ _ _ _ _ _ _ [some (.inr 0), some (.inl x1), none] _ _ (cb_b (f_X9_looks g ) (fun r1 g1 => if cb_w x1 = 0 then (if cb_w (g1 0 3) = 0 then (some (0, g1)) else (f_X9_word_b31  x1 g1)) else (if cb_w (g1 0 3) = cb_w (g1 0 1) then (some (0, g1)) else (f_X9_word_b31  x1 g1))))
  refine cb_aload_n hok dX9_word_0 rfl ?_
  refine cb_cvv (as := []) (rest := []) hok lk_RX9_162 (by decide) (by decide) dX9_word_1 (fun q1 hq1 => C_X9_looks hJ _ q1 hq1) rfl rfl (Nat.le_of_ble_eq_true rfl) skM_b0 skM_c0 rfl (fun r1 g1 => ?_)
  refine cb_iload_n hok dX9_word_4 rfl ?_
  refine cb_ifeq (tgt := 22) hok rfl dX9_word_5 (by decide) (fun _ => ?_) (fun _ => ?_)
  · refine cb_aload_n hok dX9_word_22 rfl ?_
    refine cb_gi hok dX9_word_23 fl_RX9_84 skM_b0 skM_c0 rfl ?_
    refine cb_ifne (tgt := 31) hok rfl dX9_word_26 (by decide) (fun _ => ?_) (fun _ => ?_)
    · refine cb_fewer (ls' := [some (.inr 0), some (.inl x1), none]) ⟨rfl, ⟨rfl, trivial⟩⟩ ?_
      exact J_X9_word_b31 hJ hok  _ _
    · refine cb_iconst hok dX9_word_29 ?_
      exact cb_zret hok dX9_word_30 (by decide)
  · refine cb_aload_n hok dX9_word_8 rfl ?_
    refine cb_gi hok dX9_word_9 fl_RX9_84 skM_b0 skM_c0 rfl ?_
    refine cb_aload_n hok dX9_word_12 rfl ?_
    refine cb_gi hok dX9_word_13 fl_RX9_81 skM_b0 skM_c0 rfl ?_
    refine cb_icne (tgt := 31) hok rfl rfl dX9_word_16 (by decide) (fun _ => ?_) (fun _ => ?_)
    · refine cb_fewer (ls' := [some (.inr 0), some (.inl x1), none]) ⟨rfl, ⟨rfl, trivial⟩⟩ ?_
      exact J_X9_word_b31 hJ hok  _ _
    · refine cb_goto (tgt := 29) hok dX9_word_19 (by decide) ?_
      refine cb_iconst hok dX9_word_29 ?_
      exact cb_zret hok dX9_word_30 (by decide)
/-! CaretBenchModel far(II)I -/
def v_X9_far (g : cb_S) (x0 : Int) (x1 : Int) : Option Int := if cb_w x1 ≤ cb_w x0 then (some (x0 - x1)) else (some (x1 - x0))
set_option maxRecDepth 100000 in
theorem C_X9_far {O : cb_O} (hJ : cb_J O skM) (x0 : Int) (x1 : Int) (g : cb_S) : ∀ q, v_X9_far g x0 x1 = some q → cb_m O skM false yX9_far cX9_far 2 (some .int) rm_X9_far [.inl x0, .inl x1] g (q, g) := by
  intro q hq
  refine cr_of_body hJ (by decide) (Nat.le_of_ble_eq_true rfl) hq (fun M hok => ?_)
  show cb_jr _ _ _ _ _ _ [some (.inl x0), some (.inl x1)] _ _ (if cb_w x1 ≤ cb_w x0 then (some (x0 - x1)) else (some (x1 - x0)))
  refine cr_iload_n hok dX9_far_0 rfl ?_
  refine cr_iload_n hok dX9_far_1 rfl ?_
  refine cr_icge (tgt := 11) hok rfl rfl dX9_far_2 (by decide) (fun _ => ?_) (fun _ => ?_)
  · refine cr_iload_n hok dX9_far_11 rfl ?_
    refine cr_iload_n hok dX9_far_12 rfl ?_
    refine cr_isub hok dX9_far_13 ?_
    exact cr_iret hok dX9_far_14
  · refine cr_iload_n hok dX9_far_5 rfl ?_
    refine cr_iload_n hok dX9_far_6 rfl ?_
    refine cr_isub hok dX9_far_7 ?_
    refine cr_goto (tgt := 14) hok dX9_far_8 (by decide) ?_
    exact cr_iret hok dX9_far_14
/-! CaretBenchModel pick(I)I -/
def f_X9_pick_b95 (kk68 : Int → Int → cb_S → Option (Int × cb_S)) (x1 x2 : Int) (g : cb_S) : Option (Int × cb_S) := kk68 x1 (x2 + 1) g
set_option maxRecDepth 100000 in
theorem J_X9_pick_b95 {O : cb_O} {M : cb_M} (hJ : cb_J O skM) (hok : cb_ok O skM M cX9_pick 6 RX9 (some .int)) {kk68 : Int → Int → cb_S → Option (Int × cb_S)} (hk68 : ∀ (x1 x2 : Int) (g : cb_S), cb_j O skM false rm_X9_pick M 6 68 [some (.inr 0), some (.inl x1), some (.inl x2), none, none, none] [] g (kk68 x1 x2 g)) : ∀ (x1 x2 : Int) (g : cb_S), cb_j O skM false rm_X9_pick M 6 95 [some (.inr 0), some (.inl x1), some (.inl x2), none, none, none] [] g (f_X9_pick_b95 kk68 x1 x2 g) := by
  intro x1 x2 g
  show cb_j _ _ _ _ _ _ _ _ _ _ (kk68 x1 (x2 + 1) g)
  refine cb_iinc (ls' := [some (.inr 0), some (.inl x1), some (.inl (x2 + 1)), none, none, none]) hok dX9_pick_95 rfl (by decide) rfl ?_
  refine cb_goto (tgt := 68) hok dX9_pick_98 (by decide) ?_
  refine cb_fewer (ls' := [some (.inr 0), some (.inl x1), some (.inl (x2 + 1)), none, none, none]) ⟨rfl, ⟨rfl, ⟨rfl, trivial⟩⟩⟩ ?_
  exact hk68 _ _ _
def f_X9_pick_b184 (x2 x3 x4 : Int) (g : cb_S) : Option (Int × cb_S) := if cb_w x4 ≤ cb_w x3 then (cb_b (f_X9_toRight g x2) (fun r1 g1 => some (g1 0 3, g1))) else (cb_b (f_X9_toLeft g x2) (fun r2 g2 => some (g2 0 3, g2)))
set_option maxRecDepth 100000 in
theorem J_X9_pick_b184 {O : cb_O} {M : cb_M} (hJ : cb_J O skM) (hok : cb_ok O skM M cX9_pick 6 RX9 (some .int)) : ∀ (x2 x3 x4 : Int) (g : cb_S), cb_j O skM false rm_X9_pick M 6 184 [some (.inr 0), none, some (.inl x2), some (.inl x3), some (.inl x4), none] [] g (f_X9_pick_b184 x2 x3 x4 g) := by
  intro x2 x3 x4 g
  show cb_j _ _ _ _ _ _ _ _ _ _ (if cb_w x4 ≤ cb_w x3 then (cb_b (f_X9_toRight g x2) (fun r1 g1 => some (g1 0 3, g1))) else (cb_b (f_X9_toLeft g x2) (fun r2 g2 => some (g2 0 3, g2))))
  refine cb_iload_n hok dX9_pick_184 rfl ?_
  refine cb_iload hok dX9_pick_185 rfl ?_
  refine cb_icge (tgt := 198) hok rfl rfl dX9_pick_187 (by decide) (fun _ => ?_) (fun _ => ?_)
  · refine cb_aload_n hok dX9_pick_198 rfl ?_
    refine cb_iload_n hok dX9_pick_199 rfl ?_
    refine cb_cvv (as := [.inl x2]) (rest := []) hok lk_RX9_191 (by decide) (by decide) dX9_pick_200 (fun q1 hq1 => C_X9_toRight hJ _ _ q1 hq1) rfl rfl (Nat.le_of_ble_eq_true rfl) skM_b0 skM_c0 rfl (fun r1 g1 => ?_)
    refine cb_aload_n hok dX9_pick_203 rfl ?_
    refine cb_gi hok dX9_pick_204 fl_RX9_84 skM_b0 skM_c0 rfl ?_
    exact cb_iret hok dX9_pick_207
  · refine cb_aload_n hok dX9_pick_190 rfl ?_
    refine cb_iload_n hok dX9_pick_191 rfl ?_
    refine cb_cvv (as := [.inl x2]) (rest := []) hok lk_RX9_194 (by decide) (by decide) dX9_pick_192 (fun q1 hq1 => C_X9_toLeft hJ _ _ q1 hq1) rfl rfl (Nat.le_of_ble_eq_true rfl) skM_b0 skM_c0 rfl (fun r2 g2 => ?_)
    refine cb_goto (tgt := 203) hok dX9_pick_195 (by decide) ?_
    refine cb_aload_n hok dX9_pick_203 rfl ?_
    refine cb_gi hok dX9_pick_204 fl_RX9_84 skM_b0 skM_c0 rfl ?_
    exact cb_iret hok dX9_pick_207
def f_X9_pick_b68 : Nat → Int → Int → cb_S → Option (Int × cb_S)
  | 0 => fun _ _ _ => none
  | n + 1 => fun x1 x2 g => if 0 ≤ cb_w x2 ∧ cb_w x2 < (64 : Nat) then (if cb_w x1 < cb_w (g 18 ((cb_w x2).toNat)) then (f_X9_pick_b95 (f_X9_pick_b68 n) x1 x2 g) else (if 0 ≤ cb_w x2 ∧ cb_w x2 < (64 : Nat) then (if 0 ≤ cb_w x2 ∧ cb_w x2 < (64 : Nat) then (if cb_w x1 < cb_w ((g 18 ((cb_w x2).toNat)) + (g 17 ((cb_w x2).toNat))) then (if 0 ≤ cb_w x2 ∧ cb_w x2 < (64 : Nat) then ((v_X9_far g x1 (g 18 ((cb_w x2).toNat))).bind (fun r1 => if 0 ≤ cb_w x2 ∧ cb_w x2 < (64 : Nat) then (if 0 ≤ cb_w x2 ∧ cb_w x2 < (64 : Nat) then ((v_X9_far g x1 ((g 18 ((cb_w x2).toNat)) + (g 17 ((cb_w x2).toNat)))).bind (fun r2 => if 0 ≤ cb_w x2 ∧ cb_w x2 < (64 : Nat) then ((v_X9_far g x1 ((g 18 ((cb_w x2).toNat)) + 8)).bind (fun r3 => if 0 ≤ cb_w x2 ∧ cb_w x2 < (64 : Nat) then (if cb_w (g 16 ((cb_w x2).toNat)) = 0 then (f_X9_pick_b184  x2 r1 r2 g) else (if cb_w r1 < cb_w r3 then (f_X9_pick_b184  x2 r1 r2 g) else (if cb_w r2 ≤ cb_w r3 then (f_X9_pick_b184  x2 r1 r2 g) else (if 0 ≤ cb_w x2 ∧ cb_w x2 < (64 : Nat) then (cb_b (f_X9_goes g ((g 14 ((cb_w x2).toNat)) + 2) 0) (fun r4 g4 => some (g4 0 3, g4))) else none)))) else none)) else none)) else none) else none)) else none) else (f_X9_pick_b95 (f_X9_pick_b68 n) x1 x2 g)) else none) else none)) else none
set_option maxRecDepth 100000 in
theorem J_X9_pick_b68 {O : cb_O} {M : cb_M} (hJ : cb_J O skM) (hok : cb_ok O skM M cX9_pick 6 RX9 (some .int)) : ∀ (n : Nat) (x1 x2 : Int) (g : cb_S), cb_j O skM false rm_X9_pick M 6 68 [some (.inr 0), some (.inl x1), some (.inl x2), none, none, none] [] g (f_X9_pick_b68 n x1 x2 g) := by
  intro n
  induction n with
  | zero => intros; exact cb_none
  | succ n hk68 =>
    intro x1 x2 g
    show cb_j _ _ _ _ _ _ _ _ _ _ (if 0 ≤ cb_w x2 ∧ cb_w x2 < (64 : Nat) then (if cb_w x1 < cb_w (g 18 ((cb_w x2).toNat)) then (f_X9_pick_b95 (f_X9_pick_b68 n) x1 x2 g) else (if 0 ≤ cb_w x2 ∧ cb_w x2 < (64 : Nat) then (if 0 ≤ cb_w x2 ∧ cb_w x2 < (64 : Nat) then (if cb_w x1 < cb_w ((g 18 ((cb_w x2).toNat)) + (g 17 ((cb_w x2).toNat))) then (if 0 ≤ cb_w x2 ∧ cb_w x2 < (64 : Nat) then ((v_X9_far g x1 (g 18 ((cb_w x2).toNat))).bind (fun r1 => if 0 ≤ cb_w x2 ∧ cb_w x2 < (64 : Nat) then (if 0 ≤ cb_w x2 ∧ cb_w x2 < (64 : Nat) then ((v_X9_far g x1 ((g 18 ((cb_w x2).toNat)) + (g 17 ((cb_w x2).toNat)))).bind (fun r2 => if 0 ≤ cb_w x2 ∧ cb_w x2 < (64 : Nat) then ((v_X9_far g x1 ((g 18 ((cb_w x2).toNat)) + 8)).bind (fun r3 => if 0 ≤ cb_w x2 ∧ cb_w x2 < (64 : Nat) then (if cb_w (g 16 ((cb_w x2).toNat)) = 0 then (f_X9_pick_b184  x2 r1 r2 g) else (if cb_w r1 < cb_w r3 then (f_X9_pick_b184  x2 r1 r2 g) else (if cb_w r2 ≤ cb_w r3 then (f_X9_pick_b184  x2 r1 r2 g) else (if 0 ≤ cb_w x2 ∧ cb_w x2 < (64 : Nat) then (cb_b (f_X9_goes g ((g 14 ((cb_w x2).toNat)) + 2) 0) (fun r4 g4 => some (g4 0 3, g4))) else none)))) else none)) else none)) else none) else none)) else none) else (f_X9_pick_b95 (f_X9_pick_b68 n) x1 x2 g)) else none) else none)) else none)
    refine cb_iload_n hok dX9_pick_68 rfl ?_
    refine cb_aload_n hok dX9_pick_69 rfl ?_
    refine cb_gr hok dX9_pick_70 fl_RX9_62 skM_b0 skM_c0 rfl ?_
    refine cb_iload_n hok dX9_pick_73 rfl ?_
    refine cb_iald hok dX9_pick_74 skM_b18 skM_c18 ?_
    refine cb_iclt (tgt := 95) hok rfl rfl dX9_pick_75 (by decide) (fun _ => ?_) (fun _ => ?_)
    · refine cb_fewer (ls' := [some (.inr 0), some (.inl x1), some (.inl x2), none, none, none]) ⟨rfl, ⟨rfl, ⟨rfl, trivial⟩⟩⟩ ?_
      exact J_X9_pick_b95 hJ hok hk68 _ _ _
    · refine cb_iload_n hok dX9_pick_78 rfl ?_
      refine cb_aload_n hok dX9_pick_79 rfl ?_
      refine cb_gr hok dX9_pick_80 fl_RX9_62 skM_b0 skM_c0 rfl ?_
      refine cb_iload_n hok dX9_pick_83 rfl ?_
      refine cb_iald hok dX9_pick_84 skM_b18 skM_c18 ?_
      refine cb_aload_n hok dX9_pick_85 rfl ?_
      refine cb_gr hok dX9_pick_86 fl_RX9_59 skM_b0 skM_c0 rfl ?_
      refine cb_iload_n hok dX9_pick_89 rfl ?_
      refine cb_iald hok dX9_pick_90 skM_b17 skM_c17 ?_
      refine cb_iadd hok dX9_pick_91 ?_
      refine cb_iclt (tgt := 101) hok rfl rfl dX9_pick_92 (by decide) (fun _ => ?_) (fun _ => ?_)
      · refine cb_iload_n hok dX9_pick_101 rfl ?_
        refine cb_aload_n hok dX9_pick_102 rfl ?_
        refine cb_gr hok dX9_pick_103 fl_RX9_62 skM_b0 skM_c0 rfl ?_
        refine cb_iload_n hok dX9_pick_106 rfl ?_
        refine cb_iald hok dX9_pick_107 skM_b18 skM_c18 ?_
        refine cb_csr (as := [.inl x1, .inl (g 18 ((cb_w x2).toNat))]) (rest := []) hok lk_RX9_200 (by decide) (by decide) dX9_pick_108 (fun q1 hq1 => C_X9_far hJ _ _ _ q1 hq1) rfl rfl (Nat.le_of_ble_eq_true rfl) (fun r1 => ?_)
        refine cb_istore_n (ls' := [some (.inr 0), some (.inl x1), some (.inl x2), some (.inl r1), none, none]) hok dX9_pick_111 (by decide) rfl ?_
        refine cb_iload_n hok dX9_pick_112 rfl ?_
        refine cb_aload_n hok dX9_pick_113 rfl ?_
        refine cb_gr hok dX9_pick_114 fl_RX9_62 skM_b0 skM_c0 rfl ?_
        refine cb_iload_n hok dX9_pick_117 rfl ?_
        refine cb_iald hok dX9_pick_118 skM_b18 skM_c18 ?_
        refine cb_aload_n hok dX9_pick_119 rfl ?_
        refine cb_gr hok dX9_pick_120 fl_RX9_59 skM_b0 skM_c0 rfl ?_
        refine cb_iload_n hok dX9_pick_123 rfl ?_
        refine cb_iald hok dX9_pick_124 skM_b17 skM_c17 ?_
        refine cb_iadd hok dX9_pick_125 ?_
        refine cb_csr (as := [.inl x1, .inl ((g 18 ((cb_w x2).toNat)) + (g 17 ((cb_w x2).toNat)))]) (rest := []) hok lk_RX9_200 (by decide) (by decide) dX9_pick_126 (fun q1 hq1 => C_X9_far hJ _ _ _ q1 hq1) rfl rfl (Nat.le_of_ble_eq_true rfl) (fun r2 => ?_)
        refine cb_istore (ls' := [some (.inr 0), some (.inl x1), some (.inl x2), some (.inl r1), some (.inl r2), none]) hok dX9_pick_129 (by decide) rfl ?_
        refine cb_iload_n hok dX9_pick_131 rfl ?_
        refine cb_aload_n hok dX9_pick_132 rfl ?_
        refine cb_gr hok dX9_pick_133 fl_RX9_62 skM_b0 skM_c0 rfl ?_
        refine cb_iload_n hok dX9_pick_136 rfl ?_
        refine cb_iald hok dX9_pick_137 skM_b18 skM_c18 ?_
        refine cb_bipush hok dX9_pick_138 (by decide) ?_
        refine cb_iadd hok dX9_pick_140 ?_
        refine cb_csr (as := [.inl x1, .inl ((g 18 ((cb_w x2).toNat)) + 8)]) (rest := []) hok lk_RX9_200 (by decide) (by decide) dX9_pick_141 (fun q1 hq1 => C_X9_far hJ _ _ _ q1 hq1) rfl rfl (Nat.le_of_ble_eq_true rfl) (fun r3 => ?_)
        refine cb_istore (ls' := [some (.inr 0), some (.inl x1), some (.inl x2), some (.inl r1), some (.inl r2), some (.inl r3)]) hok dX9_pick_144 (by decide) rfl ?_
        refine cb_aload_n hok dX9_pick_146 rfl ?_
        refine cb_gr hok dX9_pick_147 fl_RX9_56 skM_b0 skM_c0 rfl ?_
        refine cb_iload_n hok dX9_pick_150 rfl ?_
        refine cb_zald hok dX9_pick_151 skM_b16 skM_c16 ?_
        refine cb_ifeq (tgt := 184) hok rfl dX9_pick_152 (by decide) (fun _ => ?_) (fun _ => ?_)
        · refine cb_fewer (ls' := [some (.inr 0), none, some (.inl x2), some (.inl r1), some (.inl r2), none]) ⟨rfl, ⟨rfl, ⟨rfl, ⟨rfl, trivial⟩⟩⟩⟩ ?_
          exact J_X9_pick_b184 hJ hok  _ _ _ _
        · refine cb_iload hok dX9_pick_155 rfl ?_
          refine cb_iload_n hok dX9_pick_157 rfl ?_
          refine cb_icgt (tgt := 184) hok rfl rfl dX9_pick_158 (by decide) (fun _ => ?_) (fun _ => ?_)
          · refine cb_fewer (ls' := [some (.inr 0), none, some (.inl x2), some (.inl r1), some (.inl r2), none]) ⟨rfl, ⟨rfl, ⟨rfl, ⟨rfl, trivial⟩⟩⟩⟩ ?_
            exact J_X9_pick_b184 hJ hok  _ _ _ _
          · refine cb_iload hok dX9_pick_161 rfl ?_
            refine cb_iload hok dX9_pick_163 rfl ?_
            refine cb_icge (tgt := 184) hok rfl rfl dX9_pick_165 (by decide) (fun _ => ?_) (fun _ => ?_)
            · refine cb_fewer (ls' := [some (.inr 0), none, some (.inl x2), some (.inl r1), some (.inl r2), none]) ⟨rfl, ⟨rfl, ⟨rfl, ⟨rfl, trivial⟩⟩⟩⟩ ?_
              exact J_X9_pick_b184 hJ hok  _ _ _ _
            · refine cb_aload_n hok dX9_pick_168 rfl ?_
              refine cb_aload_n hok dX9_pick_169 rfl ?_
              refine cb_gr hok dX9_pick_170 fl_RX9_50 skM_b0 skM_c0 rfl ?_
              refine cb_iload_n hok dX9_pick_173 rfl ?_
              refine cb_iald hok dX9_pick_174 skM_b14 skM_c14 ?_
              refine cb_iconst hok dX9_pick_175 ?_
              refine cb_iadd hok dX9_pick_176 ?_
              refine cb_iconst hok dX9_pick_177 ?_
              refine cb_cvv (as := [.inl ((g 14 ((cb_w x2).toNat)) + 2), .inl 0]) (rest := []) hok lk_RX9_187 (by decide) (by decide) dX9_pick_178 (fun q1 hq1 => C_X9_goes hJ _ _ _ q1 hq1) rfl rfl (Nat.le_of_ble_eq_true rfl) skM_b0 skM_c0 rfl (fun r4 g4 => ?_)
              refine cb_goto (tgt := 203) hok dX9_pick_181 (by decide) ?_
              refine cb_aload_n hok dX9_pick_203 rfl ?_
              refine cb_gi hok dX9_pick_204 fl_RX9_84 skM_b0 skM_c0 rfl ?_
              exact cb_iret hok dX9_pick_207
      · refine cb_fewer (ls' := [some (.inr 0), some (.inl x1), some (.inl x2), none, none, none]) ⟨rfl, ⟨rfl, ⟨rfl, trivial⟩⟩⟩ ?_
        exact J_X9_pick_b95 hJ hok hk68 _ _ _
def f_X9_pick (g : cb_S) (x1 : Int) : Option (Int × cb_S) := cb_b (f_X9_looks g ) (fun r1 g1 => if cb_w (g1 0 20) = 0 then (cb_b (f_X9_goes g1 0 0) (fun r4 g4 => some (0, g4))) else (if 0 ≤ cb_w x1 then (if cb_w x1 < cb_w (g1 0 28) then (f_X9_pick_b68  cb_N x1 0 g1) else (if 0 ≤ cb_w ((g1 0 20) - 1) ∧ cb_w ((g1 0 20) - 1) < (64 : Nat) then (cb_b (f_X9_toRight g1 (g1 20 ((cb_w ((g1 0 20) - 1)).toNat))) (fun r2 g2 => some (g2 0 3, g2))) else none)) else (if 0 ≤ cb_w 0 ∧ cb_w 0 < (64 : Nat) then (cb_b (f_X9_toLeft g1 (g1 20 ((cb_w 0).toNat))) (fun r3 g3 => some (g3 0 3, g3))) else none)))
set_option maxRecDepth 100000 in
theorem C_X9_pick {O : cb_O} (hJ : cb_J O skM) (x1 : Int) (g : cb_S) : ∀ q, f_X9_pick g x1 = some q → cb_m O skM false yX9_pick cX9_pick 6 (some .int) rm_X9_pick [.inr 0, .inl x1] g q := by
  intro q hq
  refine cb_of_body hJ (by decide) (Nat.le_of_ble_eq_true rfl) hq (fun M hok => ?_)
  show cb_j _ _ _ _ _ _ _ [some (.inr 0), some (.inl x1), none, none, none, none] _ _ (cb_b (f_X9_looks g ) (fun r1 g1 => if cb_w (g1 0 20) = 0 then (cb_b (f_X9_goes g1 0 0) (fun r4 g4 => some (0, g4))) else (if 0 ≤ cb_w x1 then (if cb_w x1 < cb_w (g1 0 28) then (f_X9_pick_b68  cb_N x1 0 g1) else (if 0 ≤ cb_w ((g1 0 20) - 1) ∧ cb_w ((g1 0 20) - 1) < (64 : Nat) then (cb_b (f_X9_toRight g1 (g1 20 ((cb_w ((g1 0 20) - 1)).toNat))) (fun r2 g2 => some (g2 0 3, g2))) else none)) else (if 0 ≤ cb_w 0 ∧ cb_w 0 < (64 : Nat) then (cb_b (f_X9_toLeft g1 (g1 20 ((cb_w 0).toNat))) (fun r3 g3 => some (g3 0 3, g3))) else none))))
  refine cb_aload_n hok dX9_pick_0 rfl ?_
  refine cb_cvv (as := []) (rest := []) hok lk_RX9_162 (by decide) (by decide) dX9_pick_1 (fun q1 hq1 => C_X9_looks hJ _ q1 hq1) rfl rfl (Nat.le_of_ble_eq_true rfl) skM_b0 skM_c0 rfl (fun r1 g1 => ?_)
  refine cb_aload_n hok dX9_pick_4 rfl ?_
  refine cb_gi hok dX9_pick_5 fl_RX9_129 skM_b0 skM_c0 rfl ?_
  refine cb_ifne (tgt := 19) hok rfl dX9_pick_8 (by decide) (fun _ => ?_) (fun _ => ?_)
  · refine cb_iload_n hok dX9_pick_19 rfl ?_
    refine cb_ifge (tgt := 38) hok rfl dX9_pick_20 (by decide) (fun _ => ?_) (fun _ => ?_)
    · refine cb_iload_n hok dX9_pick_38 rfl ?_
      refine cb_aload_n hok dX9_pick_39 rfl ?_
      refine cb_gi hok dX9_pick_40 fl_RX9_147 skM_b0 skM_c0 rfl ?_
      refine cb_iclt (tgt := 66) hok rfl rfl dX9_pick_43 (by decide) (fun _ => ?_) (fun _ => ?_)
      · refine cb_iconst hok dX9_pick_66 ?_
        refine cb_istore_n (ls' := [some (.inr 0), some (.inl x1), some (.inl 0), none, none, none]) hok dX9_pick_67 (by decide) rfl ?_
        refine cb_fewer (ls' := [some (.inr 0), some (.inl x1), some (.inl 0), none, none, none]) ⟨rfl, ⟨rfl, ⟨rfl, trivial⟩⟩⟩ ?_
        exact J_X9_pick_b68 hJ hok  cb_N _ _ _
      · refine cb_aload_n hok dX9_pick_46 rfl ?_
        refine cb_aload_n hok dX9_pick_47 rfl ?_
        refine cb_gr hok dX9_pick_48 fl_RX9_68 skM_b0 skM_c0 rfl ?_
        refine cb_aload_n hok dX9_pick_51 rfl ?_
        refine cb_gi hok dX9_pick_52 fl_RX9_129 skM_b0 skM_c0 rfl ?_
        refine cb_iconst hok dX9_pick_55 ?_
        refine cb_isub hok dX9_pick_56 ?_
        refine cb_iald hok dX9_pick_57 skM_b20 skM_c20 ?_
        refine cb_cvv (as := [.inl (g1 20 ((cb_w ((g1 0 20) - 1)).toNat))]) (rest := []) hok lk_RX9_191 (by decide) (by decide) dX9_pick_58 (fun q1 hq1 => C_X9_toRight hJ _ _ q1 hq1) rfl rfl (Nat.le_of_ble_eq_true rfl) skM_b0 skM_c0 rfl (fun r2 g2 => ?_)
        refine cb_aload_n hok dX9_pick_61 rfl ?_
        refine cb_gi hok dX9_pick_62 fl_RX9_84 skM_b0 skM_c0 rfl ?_
        exact cb_iret hok dX9_pick_65
    · refine cb_aload_n hok dX9_pick_23 rfl ?_
      refine cb_aload_n hok dX9_pick_24 rfl ?_
      refine cb_gr hok dX9_pick_25 fl_RX9_68 skM_b0 skM_c0 rfl ?_
      refine cb_iconst hok dX9_pick_28 ?_
      refine cb_iald hok dX9_pick_29 skM_b20 skM_c20 ?_
      refine cb_cvv (as := [.inl (g1 20 ((cb_w 0).toNat))]) (rest := []) hok lk_RX9_194 (by decide) (by decide) dX9_pick_30 (fun q1 hq1 => C_X9_toLeft hJ _ _ q1 hq1) rfl rfl (Nat.le_of_ble_eq_true rfl) skM_b0 skM_c0 rfl (fun r3 g3 => ?_)
      refine cb_aload_n hok dX9_pick_33 rfl ?_
      refine cb_gi hok dX9_pick_34 fl_RX9_84 skM_b0 skM_c0 rfl ?_
      exact cb_iret hok dX9_pick_37
  · refine cb_aload_n hok dX9_pick_11 rfl ?_
    refine cb_iconst hok dX9_pick_12 ?_
    refine cb_iconst hok dX9_pick_13 ?_
    refine cb_cvv (as := [.inl 0, .inl 0]) (rest := []) hok lk_RX9_187 (by decide) (by decide) dX9_pick_14 (fun q1 hq1 => C_X9_goes hJ _ _ _ q1 hq1) rfl rfl (Nat.le_of_ble_eq_true rfl) skM_b0 skM_c0 rfl (fun r4 g4 => ?_)
    refine cb_iconst hok dX9_pick_17 ?_
    exact cb_iret hok dX9_pick_18
