/-! CaretBench$Caret stand()I -/
def v_X0_stand (g : cb_S) : Option Int := some (g 5 2)
set_option maxRecDepth 100000 in
theorem C_X0_stand {O : cb_O} (hJ : cb_J O skC) (g : cb_S) : ∀ q, v_X0_stand g = some q → cb_m O skC false yX0_stand cX0_stand 1 (some .int) rm_X0_stand [.inr 5] g (q, g) := by
  intro q hq
  refine cr_of_body hJ (by decide) (Nat.le_of_ble_eq_true rfl) hq (fun M hok => ?_)
  show cb_jr _ _ _ _ _ _ [some (.inr 5)] _ _ (some (g 5 2))
  refine cr_aload_n hok dX0_stand_0 rfl ?_
  refine cr_gi hok dX0_stand_1 fl_RX0_19 skC_b5 skC_c5 rfl ?_
  exact cr_iret hok dX0_stand_4
/-! CaretBench$Caret side()I -/
def v_X0_side (g : cb_S) : Option Int := some (g 5 3)
set_option maxRecDepth 100000 in
theorem C_X0_side {O : cb_O} (hJ : cb_J O skC) (g : cb_S) : ∀ q, v_X0_side g = some q → cb_m O skC false yX0_side cX0_side 1 (some .int) rm_X0_side [.inr 5] g (q, g) := by
  intro q hq
  refine cr_of_body hJ (by decide) (Nat.le_of_ble_eq_true rfl) hq (fun M hok => ?_)
  show cb_jr _ _ _ _ _ _ [some (.inr 5)] _ _ (some (g 5 3))
  refine cr_aload_n hok dX0_side_0 rfl ?_
  refine cr_gi hok dX0_side_1 fl_RX0_23 skC_b5 skC_c5 rfl ?_
  exact cr_iret hok dX0_side_4
/-! CaretBench valueAt([III)I -/
def v_X8_valueAt (g : cb_S) (a0 la0 : Nat) (x1 : Int) (x2 : Int) : Option Int := if cb_w x1 < 0 then (some x2) else (if cb_w (la0 : Nat) ≤ cb_w x1 then (some x2) else (if 0 ≤ cb_w x1 ∧ cb_w x1 < (la0 : Nat) then (some (g a0 ((cb_w x1).toNat))) else none))
set_option maxRecDepth 100000 in
theorem C_X8_valueAt {O : cb_O} (hJ : cb_J O skC) (a0 la0 : Nat) (ha0 : a0 < skC.2) (hc0 : skC.1 a0 = .inl (0, la0)) (x1 : Int) (x2 : Int) (g : cb_S) : ∀ q, v_X8_valueAt g a0 la0 x1 x2 = some q → cb_m O skC false yX8_valueAt cX8_valueAt 3 (some .int) rm_X8_valueAt [.inr a0, .inl x1, .inl x2] g (q, g) := by
  intro q hq
  refine cr_of_body hJ (by decide) (Nat.le_of_ble_eq_true rfl) hq (fun M hok => ?_)
  show cb_jr _ _ _ _ _ _ [some (.inr a0), some (.inl x1), some (.inl x2)] _ _ (if cb_w x1 < 0 then (some x2) else (if cb_w (la0 : Nat) ≤ cb_w x1 then (some x2) else (if 0 ≤ cb_w x1 ∧ cb_w x1 < (la0 : Nat) then (some (g a0 ((cb_w x1).toNat))) else none)))
  refine cr_iload_n hok dX8_valueAt_0 rfl ?_
  refine cr_iflt (tgt := 16) hok rfl dX8_valueAt_1 (by decide) (fun _ => ?_) (fun _ => ?_)
  · refine cr_iload_n hok dX8_valueAt_16 rfl ?_
    exact cr_iret hok dX8_valueAt_17
  · refine cr_iload_n hok dX8_valueAt_4 rfl ?_
    refine cr_aload_n hok dX8_valueAt_5 rfl ?_
    refine cr_alen hok dX8_valueAt_6 ha0 hc0 (Or.inl rfl) ?_
    refine cr_icge (tgt := 16) hok rfl rfl dX8_valueAt_7 (by decide) (fun _ => ?_) (fun _ => ?_)
    · refine cr_iload_n hok dX8_valueAt_16 rfl ?_
      exact cr_iret hok dX8_valueAt_17
    · refine cr_aload_n hok dX8_valueAt_10 rfl ?_
      refine cr_iload_n hok dX8_valueAt_11 rfl ?_
      refine cr_iald hok dX8_valueAt_12 ha0 hc0 ?_
      refine cr_goto (tgt := 17) hok dX8_valueAt_13 (by decide) ?_
      exact cr_iret hok dX8_valueAt_17
/-! CaretBench$Clusters joinedAround(I)I -/
def v_X1_joinedAround (g : cb_S) (x1 : Int) : Option Int := (v_X8_valueAt g 15 61 x1 (-1)).bind (fun r1 => some r1)
set_option maxRecDepth 100000 in
theorem C_X1_joinedAround {O : cb_O} (hJ : cb_J O skC) (x1 : Int) (g : cb_S) : ∀ q, v_X1_joinedAround g x1 = some q → cb_m O skC false yX1_joinedAround cX1_joinedAround 2 (some .int) rm_X1_joinedAround [.inr 2, .inl x1] g (q, g) := by
  intro q hq
  refine cr_of_body hJ (by decide) (Nat.le_of_ble_eq_true rfl) hq (fun M hok => ?_)
  show cb_jr _ _ _ _ _ _ [some (.inr 2), some (.inl x1)] _ _ ((v_X8_valueAt g 15 61 x1 (-1)).bind (fun r1 => some r1))
  refine cr_aload_n hok dX1_joinedAround_0 rfl ?_
  refine cr_gr hok dX1_joinedAround_1 fl_RX1_31 skC_b2 skC_c2 rfl ?_
  refine cr_iload_n hok dX1_joinedAround_4 rfl ?_
  refine cr_iconst hok dX1_joinedAround_5 ?_
  refine cr_cnr (as := [.inr 15, .inl x1, .inl (-1)]) (rest := []) hok lk_RX1_93 (by decide) (by decide) dX1_joinedAround_6 (fun q1 hq1 => C_X8_valueAt hJ 15 61 skC_b15 skC_c15 _ _ _ q1 hq1) rfl rfl (Nat.le_of_ble_eq_true rfl) (fun r1 => ?_)
  exact cr_iret hok dX1_joinedAround_9
/-! CaretBench$Caret place(II)V -/
def f_X0_place_b23 (s0 : Int) (g : cb_S) : Option (Int × cb_S) := some (0, cb_u g 5 3 s0)
set_option maxRecDepth 100000 in
theorem J_X0_place_b23 {O : cb_O} {M : cb_M} (hJ : cb_J O skC) (hok : cb_ok O skC M cX0_place 3 RX0 none) : ∀ (s0 : Int) (g : cb_S), cb_j O skC true rm_X0_place M 3 23 [none, none, none] [.inl s0, .inr 5] g (f_X0_place_b23 s0 g) := by
  intro s0 g
  show cb_j _ _ _ _ _ _ _ _ _ _ (some (0, cb_u g 5 3 s0))
  refine cb_pi hok dX0_place_23 fp_RX0_23 skC_b5 skC_c5 rfl ?_
  exact cb_vret hok dX0_place_26
def f_X0_place (g : cb_S) (x1 : Int) (x2 : Int) : Option (Int × cb_S) := (v_X1_joinedAround (cb_u g 5 2 x1) x1).bind (fun r1 => if cb_w r1 = (-1) then (f_X0_place_b23  x2 (cb_u g 5 2 x1)) else (f_X0_place_b23  0 (cb_u g 5 2 x1)))
set_option maxRecDepth 100000 in
theorem C_X0_place {O : cb_O} (hJ : cb_J O skC) (x1 : Int) (x2 : Int) (g : cb_S) : ∀ q, f_X0_place g x1 x2 = some q → cb_m O skC true yX0_place cX0_place 3 none rm_X0_place [.inr 5, .inl x1, .inl x2] g q := by
  intro q hq
  refine cb_of_body hJ (by decide) (Nat.le_of_ble_eq_true rfl) hq (fun M hok => ?_)
  show cb_j _ _ _ _ _ _ _ [some (.inr 5), some (.inl x1), some (.inl x2)] _ _ ((v_X1_joinedAround (cb_u g 5 2 x1) x1).bind (fun r1 => if cb_w r1 = (-1) then (f_X0_place_b23  x2 (cb_u g 5 2 x1)) else (f_X0_place_b23  0 (cb_u g 5 2 x1))))
  refine cb_aload_n hok dX0_place_0 rfl ?_
  refine cb_iload_n hok dX0_place_1 rfl ?_
  refine cb_pi hok dX0_place_2 fp_RX0_19 skC_b5 skC_c5 rfl ?_
  refine cb_aload_n hok dX0_place_5 rfl ?_
  refine cb_aload_n hok dX0_place_6 rfl ?_
  refine cb_gr hok dX0_place_7 fl_RX0_9 skC_b5 skC_c5 rfl ?_
  refine cb_iload_n hok dX0_place_10 rfl ?_
  refine cb_cvr (as := [.inl x1]) (rest := [.inr 5]) hok lk_RX0_26 (by decide) (by decide) dX0_place_11 (fun q1 hq1 => C_X1_joinedAround hJ _ _ q1 hq1) rfl rfl (Nat.le_of_ble_eq_true rfl) skC_b2 skC_c2 rfl (fun r1 => ?_)
  refine cb_iconst hok dX0_place_14 ?_
  refine cb_icne (tgt := 22) hok rfl (by decide) dX0_place_15 (by decide) (fun _ => ?_) (fun _ => ?_)
  · refine cb_iconst hok dX0_place_22 ?_
    refine cb_fewer (ls' := [none, none, none]) trivial ?_
    exact J_X0_place_b23 hJ hok  _ _
  · refine cb_iload_n hok dX0_place_18 rfl ?_
    refine cb_goto (tgt := 23) hok dX0_place_19 (by decide) ?_
    refine cb_fewer (ls' := [none, none, none]) trivial ?_
    exact J_X0_place_b23 hJ hok  _ _
/-! CaretBench$Clusters isBetween(I)Z -/
def v_X1_isBetween (g : cb_S) (x1 : Int) : Option Int := if cb_w x1 = cb_w (g 2 9) then (some 1) else ((v_X8_valueAt g 13 61 x1 (-1)).bind (fun r1 => if cb_w r1 = (-1) then (some 0) else (some 1)))
set_option maxRecDepth 100000 in
theorem C_X1_isBetween {O : cb_O} (hJ : cb_J O skC) (x1 : Int) (g : cb_S) : ∀ q, v_X1_isBetween g x1 = some q → cb_m O skC false yX1_isBetween cX1_isBetween 2 (some .boolean) rm_X1_isBetween [.inr 2, .inl x1] g (q, g) := by
  intro q hq
  refine cr_of_body hJ (by decide) (Nat.le_of_ble_eq_true rfl) hq (fun M hok => ?_)
  show cb_jr _ _ _ _ _ _ [some (.inr 2), some (.inl x1)] _ _ (if cb_w x1 = cb_w (g 2 9) then (some 1) else ((v_X8_valueAt g 13 61 x1 (-1)).bind (fun r1 => if cb_w r1 = (-1) then (some 0) else (some 1))))
  refine cr_iload_n hok dX1_isBetween_0 rfl ?_
  refine cr_aload_n hok dX1_isBetween_1 rfl ?_
  refine cr_gi hok dX1_isBetween_2 fl_RX1_57 skC_b2 skC_c2 rfl ?_
  refine cr_iceq (tgt := 21) hok rfl rfl dX1_isBetween_5 (by decide) (fun _ => ?_) (fun _ => ?_)
  · refine cr_iconst hok dX1_isBetween_21 ?_
    refine cr_goto (tgt := 26) hok dX1_isBetween_22 (by decide) ?_
    exact cr_zret hok dX1_isBetween_26 (by decide)
  · refine cr_aload_n hok dX1_isBetween_8 rfl ?_
    refine cr_gr hok dX1_isBetween_9 fl_RX1_25 skC_b2 skC_c2 rfl ?_
    refine cr_iload_n hok dX1_isBetween_12 rfl ?_
    refine cr_iconst hok dX1_isBetween_13 ?_
    refine cr_cnr (as := [.inr 13, .inl x1, .inl (-1)]) (rest := []) hok lk_RX1_93 (by decide) (by decide) dX1_isBetween_14 (fun q1 hq1 => C_X8_valueAt hJ 13 61 skC_b13 skC_c13 _ _ _ q1 hq1) rfl rfl (Nat.le_of_ble_eq_true rfl) (fun r1 => ?_)
    refine cr_iconst hok dX1_isBetween_17 ?_
    refine cr_iceq (tgt := 25) hok rfl (by decide) dX1_isBetween_18 (by decide) (fun _ => ?_) (fun _ => ?_)
    · refine cr_iconst hok dX1_isBetween_25 ?_
      exact cr_zret hok dX1_isBetween_26 (by decide)
    · refine cr_iconst hok dX1_isBetween_21 ?_
      refine cr_goto (tgt := 26) hok dX1_isBetween_22 (by decide) ?_
      exact cr_zret hok dX1_isBetween_26 (by decide)
/-! CaretBench$Clusters isStand(I)Z -/
def v_X1_isStand (g : cb_S) (x1 : Int) : Option Int := (v_X1_isBetween g x1).bind (fun r1 => if cb_w r1 = 0 then ((v_X8_valueAt g 15 61 x1 (-1)).bind (fun r2 => if cb_w r2 = (-1) then (some 0) else (some 1))) else (some 1))
set_option maxRecDepth 100000 in
theorem C_X1_isStand {O : cb_O} (hJ : cb_J O skC) (x1 : Int) (g : cb_S) : ∀ q, v_X1_isStand g x1 = some q → cb_m O skC false yX1_isStand cX1_isStand 2 (some .boolean) rm_X1_isStand [.inr 2, .inl x1] g (q, g) := by
  intro q hq
  refine cr_of_body hJ (by decide) (Nat.le_of_ble_eq_true rfl) hq (fun M hok => ?_)
  show cb_jr _ _ _ _ _ _ [some (.inr 2), some (.inl x1)] _ _ ((v_X1_isBetween g x1).bind (fun r1 => if cb_w r1 = 0 then ((v_X8_valueAt g 15 61 x1 (-1)).bind (fun r2 => if cb_w r2 = (-1) then (some 0) else (some 1))) else (some 1)))
  refine cr_aload_n hok dX1_isStand_0 rfl ?_
  refine cr_iload_n hok dX1_isStand_1 rfl ?_
  refine cr_cvr (as := [.inl x1]) (rest := []) hok lk_RX1_106 (by decide) (by decide) dX1_isStand_2 (fun q1 hq1 => C_X1_isBetween hJ _ _ q1 hq1) rfl rfl (Nat.le_of_ble_eq_true rfl) skC_b2 skC_c2 rfl (fun r1 => ?_)
  refine cr_ifne (tgt := 21) hok rfl dX1_isStand_5 (by decide) (fun _ => ?_) (fun _ => ?_)
  · refine cr_iconst hok dX1_isStand_21 ?_
    refine cr_goto (tgt := 26) hok dX1_isStand_22 (by decide) ?_
    exact cr_zret hok dX1_isStand_26 (by decide)
  · refine cr_aload_n hok dX1_isStand_8 rfl ?_
    refine cr_gr hok dX1_isStand_9 fl_RX1_31 skC_b2 skC_c2 rfl ?_
    refine cr_iload_n hok dX1_isStand_12 rfl ?_
    refine cr_iconst hok dX1_isStand_13 ?_
    refine cr_cnr (as := [.inr 15, .inl x1, .inl (-1)]) (rest := []) hok lk_RX1_93 (by decide) (by decide) dX1_isStand_14 (fun q1 hq1 => C_X8_valueAt hJ 15 61 skC_b15 skC_c15 _ _ _ q1 hq1) rfl rfl (Nat.le_of_ble_eq_true rfl) (fun r2 => ?_)
    refine cr_iconst hok dX1_isStand_17 ?_
    refine cr_iceq (tgt := 25) hok rfl (by decide) dX1_isStand_18 (by decide) (fun _ => ?_) (fun _ => ?_)
    · refine cr_iconst hok dX1_isStand_25 ?_
      exact cr_zret hok dX1_isStand_26 (by decide)
    · refine cr_iconst hok dX1_isStand_21 ?_
      refine cr_goto (tgt := 26) hok dX1_isStand_22 (by decide) ?_
      exact cr_zret hok dX1_isStand_26 (by decide)
/-! CaretBench$Clusters standFrom(I)I -/
def v_X1_standFrom_b6 : Nat → Int → cb_S → Option Int
  | 0 => fun _ _ => none
  | n + 1 => fun x2 g => if cb_w (g 2 9) < cb_w x2 then (some (-1)) else ((v_X1_isStand g x2).bind (fun r1 => if cb_w r1 = 0 then ((v_X1_standFrom_b6 n) (x2 + 1) g) else (some x2)))
set_option maxRecDepth 100000 in
theorem J_X1_standFrom_b6 {O : cb_O} {M : cb_M} (hJ : cb_J O skC) (hok : cb_ok O skC M cX1_standFrom 3 RX1 (some .int)) : ∀ (n : Nat) (x2 : Int) (g : cb_S), cb_jr O skC rm_X1_standFrom M 3 6 [some (.inr 2), none, some (.inl x2)] [] g (v_X1_standFrom_b6 n x2 g) := by
  intro n
  induction n with
  | zero => intros; exact cr_none
  | succ n hk6 =>
    intro x2 g
    show cb_jr _ _ _ _ _ _ _ _ _ (if cb_w (g 2 9) < cb_w x2 then (some (-1)) else ((v_X1_isStand g x2).bind (fun r1 => if cb_w r1 = 0 then ((v_X1_standFrom_b6 n) (x2 + 1) g) else (some x2))))
    refine cr_iload_n hok dX1_standFrom_6 rfl ?_
    refine cr_aload_n hok dX1_standFrom_7 rfl ?_
    refine cr_gi hok dX1_standFrom_8 fl_RX1_57 skC_b2 skC_c2 rfl ?_
    refine cr_icgt (tgt := 30) hok rfl rfl dX1_standFrom_11 (by decide) (fun _ => ?_) (fun _ => ?_)
    · refine cr_iconst hok dX1_standFrom_30 ?_
      exact cr_iret hok dX1_standFrom_31
    · refine cr_aload_n hok dX1_standFrom_14 rfl ?_
      refine cr_iload_n hok dX1_standFrom_15 rfl ?_
      refine cr_cvr (as := [.inl x2]) (rest := []) hok lk_RX1_115 (by decide) (by decide) dX1_standFrom_16 (fun q1 hq1 => C_X1_isStand hJ _ _ q1 hq1) rfl rfl (Nat.le_of_ble_eq_true rfl) skC_b2 skC_c2 rfl (fun r1 => ?_)
      refine cr_ifeq (tgt := 24) hok rfl dX1_standFrom_19 (by decide) (fun _ => ?_) (fun _ => ?_)
      · refine cr_iinc (ls' := [some (.inr 2), none, some (.inl (x2 + 1))]) hok dX1_standFrom_24 rfl (by decide) rfl ?_
        refine cr_goto (tgt := 6) hok dX1_standFrom_27 (by decide) ?_
        refine cr_fewer (ls' := [some (.inr 2), none, some (.inl (x2 + 1))]) ⟨rfl, ⟨rfl, trivial⟩⟩ ?_
        exact hk6 _ _
      · refine cr_iload_n hok dX1_standFrom_22 rfl ?_
        exact cr_iret hok dX1_standFrom_23
def v_X1_standFrom (g : cb_S) (x1 : Int) : Option Int := v_X1_standFrom_b6  cb_N (if cb_w x1 < cb_w 0 then 0 else x1) g
set_option maxRecDepth 100000 in
theorem C_X1_standFrom {O : cb_O} (hJ : cb_J O skC) (x1 : Int) (g : cb_S) : ∀ q, v_X1_standFrom g x1 = some q → cb_m O skC false yX1_standFrom cX1_standFrom 3 (some .int) rm_X1_standFrom [.inr 2, .inl x1] g (q, g) := by
  intro q hq
  refine cr_of_body hJ (by decide) (Nat.le_of_ble_eq_true rfl) hq (fun M hok => ?_)
  show cb_jr _ _ _ _ _ _ [some (.inr 2), some (.inl x1), none] _ _ (v_X1_standFrom_b6  cb_N (if cb_w x1 < cb_w 0 then 0 else x1) g)
  refine cr_iload_n hok dX1_standFrom_0 rfl ?_
  refine cr_iconst hok dX1_standFrom_1 ?_
  refine cr_max hok lm_RX1_109 (by decide) (Nat.le_of_ble_eq_true rfl) dX1_standFrom_2 ?_
  refine cr_istore_n (ls' := [some (.inr 2), some (.inl x1), some (.inl (if cb_w x1 < cb_w 0 then 0 else x1))]) hok dX1_standFrom_5 (by decide) rfl ?_
  refine cr_fewer (ls' := [some (.inr 2), none, some (.inl (if cb_w x1 < cb_w 0 then 0 else x1))]) ⟨rfl, ⟨rfl, trivial⟩⟩ ?_
  exact J_X1_standFrom_b6 hJ hok  cb_N _ _
/-! CaretBench$Caret settle(II)V -/
def f_X0_settle (g : cb_S) (x1 : Int) (x2 : Int) : Option (Int × cb_S) := (v_X1_standFrom g x1).bind (fun r1 => if cb_w r1 = cb_w x1 then (cb_b (f_X0_place g x1 x2) (fun r3 g3 => some (0, g3))) else (cb_b (f_X0_place g (if cb_w r1 < cb_w 0 then 0 else r1) 0) (fun r2 g2 => some (0, g2))))
set_option maxRecDepth 100000 in
theorem C_X0_settle {O : cb_O} (hJ : cb_J O skC) (x1 : Int) (x2 : Int) (g : cb_S) : ∀ q, f_X0_settle g x1 x2 = some q → cb_m O skC true yX0_settle cX0_settle 4 none rm_X0_settle [.inr 5, .inl x1, .inl x2] g q := by
  intro q hq
  refine cb_of_body hJ (by decide) (Nat.le_of_ble_eq_true rfl) hq (fun M hok => ?_)
  show cb_j _ _ _ _ _ _ _ [some (.inr 5), some (.inl x1), some (.inl x2), none] _ _ ((v_X1_standFrom g x1).bind (fun r1 => if cb_w r1 = cb_w x1 then (cb_b (f_X0_place g x1 x2) (fun r3 g3 => some (0, g3))) else (cb_b (f_X0_place g (if cb_w r1 < cb_w 0 then 0 else r1) 0) (fun r2 g2 => some (0, g2)))))
  refine cb_aload_n hok dX0_settle_0 rfl ?_
  refine cb_gr hok dX0_settle_1 fl_RX0_9 skC_b5 skC_c5 rfl ?_
  refine cb_iload_n hok dX0_settle_4 rfl ?_
  refine cb_cvr (as := [.inl x1]) (rest := []) hok lk_RX0_32 (by decide) (by decide) dX0_settle_5 (fun q1 hq1 => C_X1_standFrom hJ _ _ q1 hq1) rfl rfl (Nat.le_of_ble_eq_true rfl) skC_b2 skC_c2 rfl (fun r1 => ?_)
  refine cb_istore_n (ls' := [some (.inr 5), some (.inl x1), some (.inl x2), some (.inl r1)]) hok dX0_settle_8 (by decide) rfl ?_
  refine cb_iload_n hok dX0_settle_9 rfl ?_
  refine cb_iload_n hok dX0_settle_10 rfl ?_
  refine cb_icne (tgt := 23) hok rfl rfl dX0_settle_11 (by decide) (fun _ => ?_) (fun _ => ?_)
  · refine cb_aload_n hok dX0_settle_23 rfl ?_
    refine cb_iload_n hok dX0_settle_24 rfl ?_
    refine cb_iconst hok dX0_settle_25 ?_
    refine cb_max hok lm_RX0_39 (by decide) (Nat.le_of_ble_eq_true rfl) dX0_settle_26 ?_
    refine cb_iconst hok dX0_settle_29 ?_
    refine cb_cvv (as := [.inl (if cb_w r1 < cb_w 0 then 0 else r1), .inl 0]) (rest := []) hok lk_RX0_35 (by decide) (by decide) dX0_settle_30 (fun q1 hq1 => C_X0_place hJ _ _ _ q1 hq1) rfl rfl (Nat.le_of_ble_eq_true rfl) skC_b5 skC_c5 rfl (fun r2 g2 => ?_)
    exact cb_vret hok dX0_settle_33
  · refine cb_aload_n hok dX0_settle_14 rfl ?_
    refine cb_iload_n hok dX0_settle_15 rfl ?_
    refine cb_iload_n hok dX0_settle_16 rfl ?_
    refine cb_cvv (as := [.inl x1, .inl x2]) (rest := []) hok lk_RX0_35 (by decide) (by decide) dX0_settle_17 (fun q1 hq1 => C_X0_place hJ _ _ _ q1 hq1) rfl rfl (Nat.le_of_ble_eq_true rfl) skC_b5 skC_c5 rfl (fun r3 g3 => ?_)
    refine cb_goto (tgt := 33) hok dX0_settle_20 (by decide) ?_
    exact cb_vret hok dX0_settle_33
/-! CaretBench$Sight leftOf(I)I -/
def v_X6_leftOf (g : cb_S) (x1 : Int) : Option Int := (v_X8_valueAt g 29 60 x1 (-1)).bind (fun r1 => some r1)
set_option maxRecDepth 100000 in
theorem C_X6_leftOf {O : cb_O} (hJ : cb_J O skC) (x1 : Int) (g : cb_S) : ∀ q, v_X6_leftOf g x1 = some q → cb_m O skC false yX6_leftOf cX6_leftOf 2 (some .int) rm_X6_leftOf [.inr 4, .inl x1] g (q, g) := by
  intro q hq
  refine cr_of_body hJ (by decide) (Nat.le_of_ble_eq_true rfl) hq (fun M hok => ?_)
  show cb_jr _ _ _ _ _ _ [some (.inr 4), some (.inl x1)] _ _ ((v_X8_valueAt g 29 60 x1 (-1)).bind (fun r1 => some r1))
  refine cr_aload_n hok dX6_leftOf_0 rfl ?_
  refine cr_gr hok dX6_leftOf_1 fl_RX6_21 skC_b4 skC_c4 rfl ?_
  refine cr_iload_n hok dX6_leftOf_4 rfl ?_
  refine cr_iconst hok dX6_leftOf_5 ?_
  refine cr_cnr (as := [.inr 29, .inl x1, .inl (-1)]) (rest := []) hok lk_RX6_68 (by decide) (by decide) dX6_leftOf_6 (fun q1 hq1 => C_X8_valueAt hJ 29 60 skC_b29 skC_c29 _ _ _ q1 hq1) rfl rfl (Nat.le_of_ble_eq_true rfl) (fun r1 => ?_)
  exact cr_iret hok dX6_leftOf_9
/-! CaretBench$Clusters has(I)Z -/
def v_X1_has (g : cb_S) (x1 : Int) : Option Int := if cb_w x1 < 0 then (some 0) else (if cb_w (g 2 7) ≤ cb_w x1 then (some 0) else (some 1))
set_option maxRecDepth 100000 in
theorem C_X1_has {O : cb_O} (hJ : cb_J O skC) (x1 : Int) (g : cb_S) : ∀ q, v_X1_has g x1 = some q → cb_m O skC false yX1_has cX1_has 2 (some .boolean) rm_X1_has [.inr 2, .inl x1] g (q, g) := by
  intro q hq
  refine cr_of_body hJ (by decide) (Nat.le_of_ble_eq_true rfl) hq (fun M hok => ?_)
  show cb_jr _ _ _ _ _ _ [some (.inr 2), some (.inl x1)] _ _ (if cb_w x1 < 0 then (some 0) else (if cb_w (g 2 7) ≤ cb_w x1 then (some 0) else (some 1)))
  refine cr_iload_n hok dX1_has_0 rfl ?_
  refine cr_iflt (tgt := 16) hok rfl dX1_has_1 (by decide) (fun _ => ?_) (fun _ => ?_)
  · refine cr_iconst hok dX1_has_16 ?_
    exact cr_zret hok dX1_has_17 (by decide)
  · refine cr_iload_n hok dX1_has_4 rfl ?_
    refine cr_aload_n hok dX1_has_5 rfl ?_
    refine cr_gi hok dX1_has_6 fl_RX1_44 skC_b2 skC_c2 rfl ?_
    refine cr_icge (tgt := 16) hok rfl rfl dX1_has_9 (by decide) (fun _ => ?_) (fun _ => ?_)
    · refine cr_iconst hok dX1_has_16 ?_
      exact cr_zret hok dX1_has_17 (by decide)
    · refine cr_iconst hok dX1_has_12 ?_
      refine cr_goto (tgt := 17) hok dX1_has_13 (by decide) ?_
      exact cr_zret hok dX1_has_17 (by decide)
/-! CaretBench$Clusters widthOf(I)I -/
def v_X1_widthOf (g : cb_S) (x1 : Int) : Option Int := (v_X1_has g x1).bind (fun r1 => if cb_w r1 = 0 then (some 0) else (if 0 ≤ cb_w x1 ∧ cb_w x1 < (60 : Nat) then (some (g 12 ((cb_w x1).toNat))) else none))
set_option maxRecDepth 100000 in
theorem C_X1_widthOf {O : cb_O} (hJ : cb_J O skC) (x1 : Int) (g : cb_S) : ∀ q, v_X1_widthOf g x1 = some q → cb_m O skC false yX1_widthOf cX1_widthOf 2 (some .int) rm_X1_widthOf [.inr 2, .inl x1] g (q, g) := by
  intro q hq
  refine cr_of_body hJ (by decide) (Nat.le_of_ble_eq_true rfl) hq (fun M hok => ?_)
  show cb_jr _ _ _ _ _ _ [some (.inr 2), some (.inl x1)] _ _ ((v_X1_has g x1).bind (fun r1 => if cb_w r1 = 0 then (some 0) else (if 0 ≤ cb_w x1 ∧ cb_w x1 < (60 : Nat) then (some (g 12 ((cb_w x1).toNat))) else none)))
  refine cr_aload_n hok dX1_widthOf_0 rfl ?_
  refine cr_iload_n hok dX1_widthOf_1 rfl ?_
  refine cr_cvr (as := [.inl x1]) (rest := []) hok lk_RX1_90 (by decide) (by decide) dX1_widthOf_2 (fun q1 hq1 => C_X1_has hJ _ _ q1 hq1) rfl rfl (Nat.le_of_ble_eq_true rfl) skC_b2 skC_c2 rfl (fun r1 => ?_)
  refine cr_ifeq (tgt := 17) hok rfl dX1_widthOf_5 (by decide) (fun _ => ?_) (fun _ => ?_)
  · refine cr_iconst hok dX1_widthOf_17 ?_
    exact cr_iret hok dX1_widthOf_18
  · refine cr_aload_n hok dX1_widthOf_8 rfl ?_
    refine cr_gr hok dX1_widthOf_9 fl_RX1_22 skC_b2 skC_c2 rfl ?_
    refine cr_iload_n hok dX1_widthOf_12 rfl ?_
    refine cr_iald hok dX1_widthOf_13 skC_b12 skC_c12 ?_
    refine cr_goto (tgt := 18) hok dX1_widthOf_14 (by decide) ?_
    exact cr_iret hok dX1_widthOf_18
/-! CaretBench$Clusters beginningAt(I)I -/
def v_X1_beginningAt (g : cb_S) (x1 : Int) : Option Int := (v_X8_valueAt g 13 61 x1 (-1)).bind (fun r1 => some r1)
set_option maxRecDepth 100000 in
theorem C_X1_beginningAt {O : cb_O} (hJ : cb_J O skC) (x1 : Int) (g : cb_S) : ∀ q, v_X1_beginningAt g x1 = some q → cb_m O skC false yX1_beginningAt cX1_beginningAt 2 (some .int) rm_X1_beginningAt [.inr 2, .inl x1] g (q, g) := by
  intro q hq
  refine cr_of_body hJ (by decide) (Nat.le_of_ble_eq_true rfl) hq (fun M hok => ?_)
  show cb_jr _ _ _ _ _ _ [some (.inr 2), some (.inl x1)] _ _ ((v_X8_valueAt g 13 61 x1 (-1)).bind (fun r1 => some r1))
  refine cr_aload_n hok dX1_beginningAt_0 rfl ?_
  refine cr_gr hok dX1_beginningAt_1 fl_RX1_25 skC_b2 skC_c2 rfl ?_
  refine cr_iload_n hok dX1_beginningAt_4 rfl ?_
  refine cr_iconst hok dX1_beginningAt_5 ?_
  refine cr_cnr (as := [.inr 13, .inl x1, .inl (-1)]) (rest := []) hok lk_RX1_93 (by decide) (by decide) dX1_beginningAt_6 (fun q1 hq1 => C_X8_valueAt hJ 13 61 skC_b13 skC_c13 _ _ _ q1 hq1) rfl rfl (Nat.le_of_ble_eq_true rfl) (fun r1 => ?_)
  exact cr_iret hok dX1_beginningAt_9
/-! CaretBench$Sight xOfEnd()I -/
def v_X6_xOfEnd (g : cb_S) : Option Int := if cb_w (g 4 7) = 0 then (some (g 4 6)) else (some 0)
set_option maxRecDepth 100000 in
theorem C_X6_xOfEnd {O : cb_O} (hJ : cb_J O skC) (g : cb_S) : ∀ q, v_X6_xOfEnd g = some q → cb_m O skC false yX6_xOfEnd cX6_xOfEnd 1 (some .int) rm_X6_xOfEnd [.inr 4] g (q, g) := by
  intro q hq
  refine cr_of_body hJ (by decide) (Nat.le_of_ble_eq_true rfl) hq (fun M hok => ?_)
  show cb_jr _ _ _ _ _ _ [some (.inr 4)] _ _ (if cb_w (g 4 7) = 0 then (some (g 4 6)) else (some 0))
  refine cr_aload_n hok dX6_xOfEnd_0 rfl ?_
  refine cr_gi hok dX6_xOfEnd_1 fl_RX6_39 skC_b4 skC_c4 rfl ?_
  refine cr_ifne (tgt := 14) hok rfl dX6_xOfEnd_4 (by decide) (fun _ => ?_) (fun _ => ?_)
  · refine cr_iconst hok dX6_xOfEnd_14 ?_
    exact cr_iret hok dX6_xOfEnd_15
  · refine cr_aload_n hok dX6_xOfEnd_7 rfl ?_
    refine cr_gi hok dX6_xOfEnd_8 fl_RX6_76 skC_b4 skC_c4 rfl ?_
    refine cr_goto (tgt := 15) hok dX6_xOfEnd_11 (by decide) ?_
    exact cr_iret hok dX6_xOfEnd_15
/-! CaretBench$Sight levelOf(I)I -/
def v_X6_levelOf (g : cb_S) (x1 : Int) : Option Int := (v_X8_valueAt g 26 60 x1 (-1)).bind (fun r1 => some r1)
set_option maxRecDepth 100000 in
theorem C_X6_levelOf {O : cb_O} (hJ : cb_J O skC) (x1 : Int) (g : cb_S) : ∀ q, v_X6_levelOf g x1 = some q → cb_m O skC false yX6_levelOf cX6_levelOf 2 (some .int) rm_X6_levelOf [.inr 4, .inl x1] g (q, g) := by
  intro q hq
  refine cr_of_body hJ (by decide) (Nat.le_of_ble_eq_true rfl) hq (fun M hok => ?_)
  show cb_jr _ _ _ _ _ _ [some (.inr 4), some (.inl x1)] _ _ ((v_X8_valueAt g 26 60 x1 (-1)).bind (fun r1 => some r1))
  refine cr_aload_n hok dX6_levelOf_0 rfl ?_
  refine cr_gr hok dX6_levelOf_1 fl_RX6_9 skC_b4 skC_c4 rfl ?_
  refine cr_iload_n hok dX6_levelOf_4 rfl ?_
  refine cr_iconst hok dX6_levelOf_5 ?_
  refine cr_cnr (as := [.inr 26, .inl x1, .inl (-1)]) (rest := []) hok lk_RX6_68 (by decide) (by decide) dX6_levelOf_6 (fun q1 hq1 => C_X8_valueAt hJ 26 60 skC_b26 skC_c26 _ _ _ q1 hq1) rfl rfl (Nat.le_of_ble_eq_true rfl) (fun r1 => ?_)
  exact cr_iret hok dX6_levelOf_9
/-! CaretBench isEven(I)Z -/
def v_X8_isEven (g : cb_S) (x0 : Int) : Option Int := if cb_w (x0 % 2) = 0 then (some 1) else (some 0)
set_option maxRecDepth 100000 in
theorem C_X8_isEven {O : cb_O} (hJ : cb_J O skC) (x0 : Int) (g : cb_S) : ∀ q, v_X8_isEven g x0 = some q → cb_m O skC false yX8_isEven cX8_isEven 1 (some .boolean) rm_X8_isEven [.inl x0] g (q, g) := by
  intro q hq
  refine cr_of_body hJ (by decide) (Nat.le_of_ble_eq_true rfl) hq (fun M hok => ?_)
  show cb_jr _ _ _ _ _ _ [some (.inl x0)] _ _ (if cb_w (x0 % 2) = 0 then (some 1) else (some 0))
  refine cr_iload_n hok dX8_isEven_0 rfl ?_
  refine cr_iconst hok dX8_isEven_1 ?_
  refine cr_iand hok dX8_isEven_2 (cb_and1 _) ?_
  refine cr_ifne (tgt := 10) hok rfl dX8_isEven_3 (by decide) (fun _ => ?_) (fun _ => ?_)
  · refine cr_iconst hok dX8_isEven_10 ?_
    exact cr_zret hok dX8_isEven_11 (by decide)
  · refine cr_iconst hok dX8_isEven_6 ?_
    refine cr_goto (tgt := 11) hok dX8_isEven_7 (by decide) ?_
    exact cr_zret hok dX8_isEven_11 (by decide)
/-! CaretBench$Sight placeOf(I)I -/
def v_X6_placeOf (g : cb_S) (x1 : Int) : Option Int := (v_X8_valueAt g 28 60 x1 (-1)).bind (fun r1 => some r1)
set_option maxRecDepth 100000 in
theorem C_X6_placeOf {O : cb_O} (hJ : cb_J O skC) (x1 : Int) (g : cb_S) : ∀ q, v_X6_placeOf g x1 = some q → cb_m O skC false yX6_placeOf cX6_placeOf 2 (some .int) rm_X6_placeOf [.inr 4, .inl x1] g (q, g) := by
  intro q hq
  refine cr_of_body hJ (by decide) (Nat.le_of_ble_eq_true rfl) hq (fun M hok => ?_)
  show cb_jr _ _ _ _ _ _ [some (.inr 4), some (.inl x1)] _ _ ((v_X8_valueAt g 28 60 x1 (-1)).bind (fun r1 => some r1))
  refine cr_aload_n hok dX6_placeOf_0 rfl ?_
  refine cr_gr hok dX6_placeOf_1 fl_RX6_18 skC_b4 skC_c4 rfl ?_
  refine cr_iload_n hok dX6_placeOf_4 rfl ?_
  refine cr_iconst hok dX6_placeOf_5 ?_
  refine cr_cnr (as := [.inr 28, .inl x1, .inl (-1)]) (rest := []) hok lk_RX6_68 (by decide) (by decide) dX6_placeOf_6 (fun q1 hq1 => C_X8_valueAt hJ 28 60 skC_b28 skC_c28 _ _ _ q1 hq1) rfl rfl (Nat.le_of_ble_eq_true rfl) (fun r1 => ?_)
  exact cr_iret hok dX6_placeOf_9
/-! CaretBench$Sight clusterAtPlace(I)I -/
def v_X6_clusterAtPlace (g : cb_S) (x1 : Int) : Option Int := if cb_w x1 < 0 then (some (-1)) else (if cb_w (g 4 4) ≤ cb_w x1 then (some (-1)) else (if 0 ≤ cb_w x1 ∧ cb_w x1 < (60 : Nat) then (some (g 27 ((cb_w x1).toNat))) else none))
set_option maxRecDepth 100000 in
theorem C_X6_clusterAtPlace {O : cb_O} (hJ : cb_J O skC) (x1 : Int) (g : cb_S) : ∀ q, v_X6_clusterAtPlace g x1 = some q → cb_m O skC false yX6_clusterAtPlace cX6_clusterAtPlace 2 (some .int) rm_X6_clusterAtPlace [.inr 4, .inl x1] g (q, g) := by
  intro q hq
  refine cr_of_body hJ (by decide) (Nat.le_of_ble_eq_true rfl) hq (fun M hok => ?_)
  show cb_jr _ _ _ _ _ _ [some (.inr 4), some (.inl x1)] _ _ (if cb_w x1 < 0 then (some (-1)) else (if cb_w (g 4 4) ≤ cb_w x1 then (some (-1)) else (if 0 ≤ cb_w x1 ∧ cb_w x1 < (60 : Nat) then (some (g 27 ((cb_w x1).toNat))) else none)))
  refine cr_iload_n hok dX6_clusterAtPlace_0 rfl ?_
  refine cr_iflt (tgt := 21) hok rfl dX6_clusterAtPlace_1 (by decide) (fun _ => ?_) (fun _ => ?_)
  · refine cr_iconst hok dX6_clusterAtPlace_21 ?_
    exact cr_iret hok dX6_clusterAtPlace_22
  · refine cr_iload_n hok dX6_clusterAtPlace_4 rfl ?_
    refine cr_aload_n hok dX6_clusterAtPlace_5 rfl ?_
    refine cr_gi hok dX6_clusterAtPlace_6 fl_RX6_30 skC_b4 skC_c4 rfl ?_
    refine cr_icge (tgt := 21) hok rfl rfl dX6_clusterAtPlace_9 (by decide) (fun _ => ?_) (fun _ => ?_)
    · refine cr_iconst hok dX6_clusterAtPlace_21 ?_
      exact cr_iret hok dX6_clusterAtPlace_22
    · refine cr_aload_n hok dX6_clusterAtPlace_12 rfl ?_
      refine cr_gr hok dX6_clusterAtPlace_13 fl_RX6_15 skC_b4 skC_c4 rfl ?_
      refine cr_iload_n hok dX6_clusterAtPlace_16 rfl ?_
      refine cr_iald hok dX6_clusterAtPlace_17 skC_b27 skC_c27 ?_
      refine cr_goto (tgt := 22) hok dX6_clusterAtPlace_18 (by decide) ?_
      exact cr_iret hok dX6_clusterAtPlace_22
/-! CaretBench$Sight rightOf(I)I -/
def v_X6_rightOf (g : cb_S) (x1 : Int) : Option Int := (v_X6_placeOf g x1).bind (fun r1 => if cb_w (g 4 4) ≤ cb_w (r1 + 1) then (some (g 4 6)) else ((v_X6_clusterAtPlace g (r1 + 1)).bind (fun r2 => (v_X6_leftOf g r2).bind (fun r3 => some r3))))
set_option maxRecDepth 100000 in
theorem C_X6_rightOf {O : cb_O} (hJ : cb_J O skC) (x1 : Int) (g : cb_S) : ∀ q, v_X6_rightOf g x1 = some q → cb_m O skC false yX6_rightOf cX6_rightOf 3 (some .int) rm_X6_rightOf [.inr 4, .inl x1] g (q, g) := by
  intro q hq
  refine cr_of_body hJ (by decide) (Nat.le_of_ble_eq_true rfl) hq (fun M hok => ?_)
  show cb_jr _ _ _ _ _ _ [some (.inr 4), some (.inl x1), none] _ _ ((v_X6_placeOf g x1).bind (fun r1 => if cb_w (g 4 4) ≤ cb_w (r1 + 1) then (some (g 4 6)) else ((v_X6_clusterAtPlace g (r1 + 1)).bind (fun r2 => (v_X6_leftOf g r2).bind (fun r3 => some r3)))))
  refine cr_aload_n hok dX6_rightOf_0 rfl ?_
  refine cr_iload_n hok dX6_rightOf_1 rfl ?_
  refine cr_cvr (as := [.inl x1]) (rest := []) hok lk_RX6_86 (by decide) (by decide) dX6_rightOf_2 (fun q1 hq1 => C_X6_placeOf hJ _ _ q1 hq1) rfl rfl (Nat.le_of_ble_eq_true rfl) skC_b4 skC_c4 rfl (fun r1 => ?_)
  refine cr_iconst hok dX6_rightOf_5 ?_
  refine cr_iadd hok dX6_rightOf_6 ?_
  refine cr_istore_n (ls' := [some (.inr 4), some (.inl x1), some (.inl (r1 + 1))]) hok dX6_rightOf_7 (by decide) rfl ?_
  refine cr_iload_n hok dX6_rightOf_8 rfl ?_
  refine cr_aload_n hok dX6_rightOf_9 rfl ?_
  refine cr_gi hok dX6_rightOf_10 fl_RX6_30 skC_b4 skC_c4 rfl ?_
  refine cr_icge (tgt := 28) hok rfl rfl dX6_rightOf_13 (by decide) (fun _ => ?_) (fun _ => ?_)
  · refine cr_aload_n hok dX6_rightOf_28 rfl ?_
    refine cr_gi hok dX6_rightOf_29 fl_RX6_76 skC_b4 skC_c4 rfl ?_
    exact cr_iret hok dX6_rightOf_32
  · refine cr_aload_n hok dX6_rightOf_16 rfl ?_
    refine cr_aload_n hok dX6_rightOf_17 rfl ?_
    refine cr_iload_n hok dX6_rightOf_18 rfl ?_
    refine cr_cvr (as := [.inl (r1 + 1)]) (rest := [.inr 4]) hok lk_RX6_89 (by decide) (by decide) dX6_rightOf_19 (fun q1 hq1 => C_X6_clusterAtPlace hJ _ _ q1 hq1) rfl rfl (Nat.le_of_ble_eq_true rfl) skC_b4 skC_c4 rfl (fun r2 => ?_)
    refine cr_cvr (as := [.inl r2]) (rest := []) hok lk_RX6_92 (by decide) (by decide) dX6_rightOf_22 (fun q1 hq1 => C_X6_leftOf hJ _ _ q1 hq1) rfl rfl (Nat.le_of_ble_eq_true rfl) skC_b4 skC_c4 rfl (fun r3 => ?_)
    refine cr_goto (tgt := 32) hok dX6_rightOf_25 (by decide) ?_
    exact cr_iret hok dX6_rightOf_32
/-! CaretBench$Caret xWithBehind()I -/
def v_X0_xWithBehind (g : cb_S) : Option Int := (v_X1_beginningAt g (g 5 2)).bind (fun r1 => if cb_w r1 = (-1) then ((v_X6_xOfEnd g ).bind (fun r6 => some r6)) else ((v_X6_levelOf g r1).bind (fun r2 => (v_X8_isEven g r2).bind (fun r3 => if cb_w r3 = 0 then ((v_X6_rightOf g r1).bind (fun r4 => some r4)) else ((v_X6_leftOf g r1).bind (fun r5 => some r5))))))
set_option maxRecDepth 100000 in
theorem C_X0_xWithBehind {O : cb_O} (hJ : cb_J O skC) (g : cb_S) : ∀ q, v_X0_xWithBehind g = some q → cb_m O skC false yX0_xWithBehind cX0_xWithBehind 2 (some .int) rm_X0_xWithBehind [.inr 5] g (q, g) := by
  intro q hq
  refine cr_of_body hJ (by decide) (Nat.le_of_ble_eq_true rfl) hq (fun M hok => ?_)
  show cb_jr _ _ _ _ _ _ [some (.inr 5), none] _ _ ((v_X1_beginningAt g (g 5 2)).bind (fun r1 => if cb_w r1 = (-1) then ((v_X6_xOfEnd g ).bind (fun r6 => some r6)) else ((v_X6_levelOf g r1).bind (fun r2 => (v_X8_isEven g r2).bind (fun r3 => if cb_w r3 = 0 then ((v_X6_rightOf g r1).bind (fun r4 => some r4)) else ((v_X6_leftOf g r1).bind (fun r5 => some r5)))))))
  refine cr_aload_n hok dX0_xWithBehind_0 rfl ?_
  refine cr_gr hok dX0_xWithBehind_1 fl_RX0_9 skC_b5 skC_c5 rfl ?_
  refine cr_aload_n hok dX0_xWithBehind_4 rfl ?_
  refine cr_gi hok dX0_xWithBehind_5 fl_RX0_19 skC_b5 skC_c5 rfl ?_
  refine cr_cvr (as := [.inl (g 5 2)]) (rest := []) hok lk_RX0_60 (by decide) (by decide) dX0_xWithBehind_8 (fun q1 hq1 => C_X1_beginningAt hJ _ _ q1 hq1) rfl rfl (Nat.le_of_ble_eq_true rfl) skC_b2 skC_c2 rfl (fun r1 => ?_)
  refine cr_istore_n (ls' := [some (.inr 5), some (.inl r1)]) hok dX0_xWithBehind_11 (by decide) rfl ?_
  refine cr_iload_n hok dX0_xWithBehind_12 rfl ?_
  refine cr_iconst hok dX0_xWithBehind_13 ?_
  refine cr_icne (tgt := 25) hok rfl (by decide) dX0_xWithBehind_14 (by decide) (fun _ => ?_) (fun _ => ?_)
  · refine cr_aload_n hok dX0_xWithBehind_25 rfl ?_
    refine cr_gr hok dX0_xWithBehind_26 fl_RX0_15 skC_b5 skC_c5 rfl ?_
    refine cr_iload_n hok dX0_xWithBehind_29 rfl ?_
    refine cr_cvr (as := [.inl r1]) (rest := []) hok lk_RX0_66 (by decide) (by decide) dX0_xWithBehind_30 (fun q1 hq1 => C_X6_levelOf hJ _ _ q1 hq1) rfl rfl (Nat.le_of_ble_eq_true rfl) skC_b4 skC_c4 rfl (fun r2 => ?_)
    refine cr_cnr (as := [.inl r2]) (rest := []) hok lk_RX0_69 (by decide) (by decide) dX0_xWithBehind_33 (fun q1 hq1 => C_X8_isEven hJ _ _ q1 hq1) rfl rfl (Nat.le_of_ble_eq_true rfl) (fun r3 => ?_)
    refine cr_ifeq (tgt := 50) hok rfl dX0_xWithBehind_36 (by decide) (fun _ => ?_) (fun _ => ?_)
    · refine cr_aload_n hok dX0_xWithBehind_50 rfl ?_
      refine cr_gr hok dX0_xWithBehind_51 fl_RX0_15 skC_b5 skC_c5 rfl ?_
      refine cr_iload_n hok dX0_xWithBehind_54 rfl ?_
      refine cr_cvr (as := [.inl r1]) (rest := []) hok lk_RX0_73 (by decide) (by decide) dX0_xWithBehind_55 (fun q1 hq1 => C_X6_rightOf hJ _ _ q1 hq1) rfl rfl (Nat.le_of_ble_eq_true rfl) skC_b4 skC_c4 rfl (fun r4 => ?_)
      exact cr_iret hok dX0_xWithBehind_58
    · refine cr_aload_n hok dX0_xWithBehind_39 rfl ?_
      refine cr_gr hok dX0_xWithBehind_40 fl_RX0_15 skC_b5 skC_c5 rfl ?_
      refine cr_iload_n hok dX0_xWithBehind_43 rfl ?_
      refine cr_cvr (as := [.inl r1]) (rest := []) hok lk_RX0_45 (by decide) (by decide) dX0_xWithBehind_44 (fun q1 hq1 => C_X6_leftOf hJ _ _ q1 hq1) rfl rfl (Nat.le_of_ble_eq_true rfl) skC_b4 skC_c4 rfl (fun r5 => ?_)
      refine cr_goto (tgt := 58) hok dX0_xWithBehind_47 (by decide) ?_
      exact cr_iret hok dX0_xWithBehind_58
  · refine cr_aload_n hok dX0_xWithBehind_17 rfl ?_
    refine cr_gr hok dX0_xWithBehind_18 fl_RX0_15 skC_b5 skC_c5 rfl ?_
    refine cr_cvr (as := []) (rest := []) hok lk_RX0_63 (by decide) (by decide) dX0_xWithBehind_21 (fun q1 hq1 => C_X6_xOfEnd hJ _ q1 hq1) rfl rfl (Nat.le_of_ble_eq_true rfl) skC_b4 skC_c4 rfl (fun r6 => ?_)
    exact cr_iret hok dX0_xWithBehind_24
/-! CaretBench$Clusters endingAt(I)I -/
def v_X1_endingAt (g : cb_S) (x1 : Int) : Option Int := (v_X8_valueAt g 14 61 x1 (-1)).bind (fun r1 => some r1)
set_option maxRecDepth 100000 in
theorem C_X1_endingAt {O : cb_O} (hJ : cb_J O skC) (x1 : Int) (g : cb_S) : ∀ q, v_X1_endingAt g x1 = some q → cb_m O skC false yX1_endingAt cX1_endingAt 2 (some .int) rm_X1_endingAt [.inr 2, .inl x1] g (q, g) := by
  intro q hq
  refine cr_of_body hJ (by decide) (Nat.le_of_ble_eq_true rfl) hq (fun M hok => ?_)
  show cb_jr _ _ _ _ _ _ [some (.inr 2), some (.inl x1)] _ _ ((v_X8_valueAt g 14 61 x1 (-1)).bind (fun r1 => some r1))
  refine cr_aload_n hok dX1_endingAt_0 rfl ?_
  refine cr_gr hok dX1_endingAt_1 fl_RX1_28 skC_b2 skC_c2 rfl ?_
  refine cr_iload_n hok dX1_endingAt_4 rfl ?_
  refine cr_iconst hok dX1_endingAt_5 ?_
  refine cr_cnr (as := [.inr 14, .inl x1, .inl (-1)]) (rest := []) hok lk_RX1_93 (by decide) (by decide) dX1_endingAt_6 (fun q1 hq1 => C_X8_valueAt hJ 14 61 skC_b14 skC_c14 _ _ _ q1 hq1) rfl rfl (Nat.le_of_ble_eq_true rfl) (fun r1 => ?_)
  exact cr_iret hok dX1_endingAt_9
/-! CaretBench$Sight xOfBeginning()I -/
def v_X6_xOfBeginning (g : cb_S) : Option Int := if cb_w (g 4 7) = 0 then (some 0) else (some (g 4 6))
set_option maxRecDepth 100000 in
theorem C_X6_xOfBeginning {O : cb_O} (hJ : cb_J O skC) (g : cb_S) : ∀ q, v_X6_xOfBeginning g = some q → cb_m O skC false yX6_xOfBeginning cX6_xOfBeginning 1 (some .int) rm_X6_xOfBeginning [.inr 4] g (q, g) := by
  intro q hq
  refine cr_of_body hJ (by decide) (Nat.le_of_ble_eq_true rfl) hq (fun M hok => ?_)
  show cb_jr _ _ _ _ _ _ [some (.inr 4)] _ _ (if cb_w (g 4 7) = 0 then (some 0) else (some (g 4 6)))
  refine cr_aload_n hok dX6_xOfBeginning_0 rfl ?_
  refine cr_gi hok dX6_xOfBeginning_1 fl_RX6_39 skC_b4 skC_c4 rfl ?_
  refine cr_ifne (tgt := 11) hok rfl dX6_xOfBeginning_4 (by decide) (fun _ => ?_) (fun _ => ?_)
  · refine cr_aload_n hok dX6_xOfBeginning_11 rfl ?_
    refine cr_gi hok dX6_xOfBeginning_12 fl_RX6_76 skC_b4 skC_c4 rfl ?_
    exact cr_iret hok dX6_xOfBeginning_15
  · refine cr_iconst hok dX6_xOfBeginning_7 ?_
    refine cr_goto (tgt := 15) hok dX6_xOfBeginning_8 (by decide) ?_
    exact cr_iret hok dX6_xOfBeginning_15
/-! CaretBench$Caret xWithAhead()I -/
def v_X0_xWithAhead (g : cb_S) : Option Int := (v_X1_endingAt g (g 5 2)).bind (fun r1 => if cb_w r1 = (-1) then ((v_X6_xOfBeginning g ).bind (fun r6 => some r6)) else ((v_X6_levelOf g r1).bind (fun r2 => (v_X8_isEven g r2).bind (fun r3 => if cb_w r3 = 0 then ((v_X6_leftOf g r1).bind (fun r4 => some r4)) else ((v_X6_rightOf g r1).bind (fun r5 => some r5))))))
set_option maxRecDepth 100000 in
theorem C_X0_xWithAhead {O : cb_O} (hJ : cb_J O skC) (g : cb_S) : ∀ q, v_X0_xWithAhead g = some q → cb_m O skC false yX0_xWithAhead cX0_xWithAhead 2 (some .int) rm_X0_xWithAhead [.inr 5] g (q, g) := by
  intro q hq
  refine cr_of_body hJ (by decide) (Nat.le_of_ble_eq_true rfl) hq (fun M hok => ?_)
  show cb_jr _ _ _ _ _ _ [some (.inr 5), none] _ _ ((v_X1_endingAt g (g 5 2)).bind (fun r1 => if cb_w r1 = (-1) then ((v_X6_xOfBeginning g ).bind (fun r6 => some r6)) else ((v_X6_levelOf g r1).bind (fun r2 => (v_X8_isEven g r2).bind (fun r3 => if cb_w r3 = 0 then ((v_X6_leftOf g r1).bind (fun r4 => some r4)) else ((v_X6_rightOf g r1).bind (fun r5 => some r5)))))))
  refine cr_aload_n hok dX0_xWithAhead_0 rfl ?_
  refine cr_gr hok dX0_xWithAhead_1 fl_RX0_9 skC_b5 skC_c5 rfl ?_
  refine cr_aload_n hok dX0_xWithAhead_4 rfl ?_
  refine cr_gi hok dX0_xWithAhead_5 fl_RX0_19 skC_b5 skC_c5 rfl ?_
  refine cr_cvr (as := [.inl (g 5 2)]) (rest := []) hok lk_RX0_76 (by decide) (by decide) dX0_xWithAhead_8 (fun q1 hq1 => C_X1_endingAt hJ _ _ q1 hq1) rfl rfl (Nat.le_of_ble_eq_true rfl) skC_b2 skC_c2 rfl (fun r1 => ?_)
  refine cr_istore_n (ls' := [some (.inr 5), some (.inl r1)]) hok dX0_xWithAhead_11 (by decide) rfl ?_
  refine cr_iload_n hok dX0_xWithAhead_12 rfl ?_
  refine cr_iconst hok dX0_xWithAhead_13 ?_
  refine cr_icne (tgt := 25) hok rfl (by decide) dX0_xWithAhead_14 (by decide) (fun _ => ?_) (fun _ => ?_)
  · refine cr_aload_n hok dX0_xWithAhead_25 rfl ?_
    refine cr_gr hok dX0_xWithAhead_26 fl_RX0_15 skC_b5 skC_c5 rfl ?_
    refine cr_iload_n hok dX0_xWithAhead_29 rfl ?_
    refine cr_cvr (as := [.inl r1]) (rest := []) hok lk_RX0_66 (by decide) (by decide) dX0_xWithAhead_30 (fun q1 hq1 => C_X6_levelOf hJ _ _ q1 hq1) rfl rfl (Nat.le_of_ble_eq_true rfl) skC_b4 skC_c4 rfl (fun r2 => ?_)
    refine cr_cnr (as := [.inl r2]) (rest := []) hok lk_RX0_69 (by decide) (by decide) dX0_xWithAhead_33 (fun q1 hq1 => C_X8_isEven hJ _ _ q1 hq1) rfl rfl (Nat.le_of_ble_eq_true rfl) (fun r3 => ?_)
    refine cr_ifeq (tgt := 50) hok rfl dX0_xWithAhead_36 (by decide) (fun _ => ?_) (fun _ => ?_)
    · refine cr_aload_n hok dX0_xWithAhead_50 rfl ?_
      refine cr_gr hok dX0_xWithAhead_51 fl_RX0_15 skC_b5 skC_c5 rfl ?_
      refine cr_iload_n hok dX0_xWithAhead_54 rfl ?_
      refine cr_cvr (as := [.inl r1]) (rest := []) hok lk_RX0_45 (by decide) (by decide) dX0_xWithAhead_55 (fun q1 hq1 => C_X6_leftOf hJ _ _ q1 hq1) rfl rfl (Nat.le_of_ble_eq_true rfl) skC_b4 skC_c4 rfl (fun r4 => ?_)
      exact cr_iret hok dX0_xWithAhead_58
    · refine cr_aload_n hok dX0_xWithAhead_39 rfl ?_
      refine cr_gr hok dX0_xWithAhead_40 fl_RX0_15 skC_b5 skC_c5 rfl ?_
      refine cr_iload_n hok dX0_xWithAhead_43 rfl ?_
      refine cr_cvr (as := [.inl r1]) (rest := []) hok lk_RX0_73 (by decide) (by decide) dX0_xWithAhead_44 (fun q1 hq1 => C_X6_rightOf hJ _ _ q1 hq1) rfl rfl (Nat.le_of_ble_eq_true rfl) skC_b4 skC_c4 rfl (fun r5 => ?_)
      refine cr_goto (tgt := 58) hok dX0_xWithAhead_47 (by decide) ?_
      exact cr_iret hok dX0_xWithAhead_58
  · refine cr_aload_n hok dX0_xWithAhead_17 rfl ?_
    refine cr_gr hok dX0_xWithAhead_18 fl_RX0_15 skC_b5 skC_c5 rfl ?_
    refine cr_cvr (as := []) (rest := []) hok lk_RX0_79 (by decide) (by decide) dX0_xWithAhead_21 (fun q1 hq1 => C_X6_xOfBeginning hJ _ q1 hq1) rfl rfl (Nat.le_of_ble_eq_true rfl) skC_b4 skC_c4 rfl (fun r6 => ?_)
    exact cr_iret hok dX0_xWithAhead_24
/-! CaretBench$Caret x()I -/
def v_X0_x (g : cb_S) : Option Int := (v_X1_joinedAround g (g 5 2)).bind (fun r1 => if cb_w r1 = (-1) then (if cb_w (g 5 3) = 1 then ((v_X0_xWithBehind g ).bind (fun r3 => some r3)) else ((v_X0_xWithAhead g ).bind (fun r2 => some r2))) else ((v_X6_leftOf g r1).bind (fun r4 => (v_X1_widthOf g r1).bind (fun r5 => some (r4 + ((cb_w r5).tdiv 2))))))
set_option maxRecDepth 100000 in
theorem C_X0_x {O : cb_O} (hJ : cb_J O skC) (g : cb_S) : ∀ q, v_X0_x g = some q → cb_m O skC false yX0_x cX0_x 2 (some .int) rm_X0_x [.inr 5] g (q, g) := by
  intro q hq
  refine cr_of_body hJ (by decide) (Nat.le_of_ble_eq_true rfl) hq (fun M hok => ?_)
  show cb_jr _ _ _ _ _ _ [some (.inr 5), none] _ _ ((v_X1_joinedAround g (g 5 2)).bind (fun r1 => if cb_w r1 = (-1) then (if cb_w (g 5 3) = 1 then ((v_X0_xWithBehind g ).bind (fun r3 => some r3)) else ((v_X0_xWithAhead g ).bind (fun r2 => some r2))) else ((v_X6_leftOf g r1).bind (fun r4 => (v_X1_widthOf g r1).bind (fun r5 => some (r4 + ((cb_w r5).tdiv 2)))))))
  refine cr_aload_n hok dX0_x_0 rfl ?_
  refine cr_gr hok dX0_x_1 fl_RX0_9 skC_b5 skC_c5 rfl ?_
  refine cr_aload_n hok dX0_x_4 rfl ?_
  refine cr_gi hok dX0_x_5 fl_RX0_19 skC_b5 skC_c5 rfl ?_
  refine cr_cvr (as := [.inl (g 5 2)]) (rest := []) hok lk_RX0_26 (by decide) (by decide) dX0_x_8 (fun q1 hq1 => C_X1_joinedAround hJ _ _ q1 hq1) rfl rfl (Nat.le_of_ble_eq_true rfl) skC_b2 skC_c2 rfl (fun r1 => ?_)
  refine cr_istore_n (ls' := [some (.inr 5), some (.inl r1)]) hok dX0_x_11 (by decide) rfl ?_
  refine cr_iload_n hok dX0_x_12 rfl ?_
  refine cr_iconst hok dX0_x_13 ?_
  refine cr_iceq (tgt := 37) hok rfl (by decide) dX0_x_14 (by decide) (fun _ => ?_) (fun _ => ?_)
  · refine cr_aload_n hok dX0_x_37 rfl ?_
    refine cr_gi hok dX0_x_38 fl_RX0_23 skC_b5 skC_c5 rfl ?_
    refine cr_iconst hok dX0_x_41 ?_
    refine cr_icne (tgt := 52) hok rfl (by decide) dX0_x_42 (by decide) (fun _ => ?_) (fun _ => ?_)
    · refine cr_aload_n hok dX0_x_52 rfl ?_
      refine cr_cvr (as := []) (rest := []) hok lk_RX0_57 (by decide) (by decide) dX0_x_53 (fun q1 hq1 => C_X0_xWithAhead hJ _ q1 hq1) rfl rfl (Nat.le_of_ble_eq_true rfl) skC_b5 skC_c5 rfl (fun r2 => ?_)
      exact cr_iret hok dX0_x_56
    · refine cr_aload_n hok dX0_x_45 rfl ?_
      refine cr_cvr (as := []) (rest := []) hok lk_RX0_53 (by decide) (by decide) dX0_x_46 (fun q1 hq1 => C_X0_xWithBehind hJ _ q1 hq1) rfl rfl (Nat.le_of_ble_eq_true rfl) skC_b5 skC_c5 rfl (fun r3 => ?_)
      refine cr_goto (tgt := 56) hok dX0_x_49 (by decide) ?_
      exact cr_iret hok dX0_x_56
  · refine cr_aload_n hok dX0_x_17 rfl ?_
    refine cr_gr hok dX0_x_18 fl_RX0_15 skC_b5 skC_c5 rfl ?_
    refine cr_iload_n hok dX0_x_21 rfl ?_
    refine cr_cvr (as := [.inl r1]) (rest := []) hok lk_RX0_45 (by decide) (by decide) dX0_x_22 (fun q1 hq1 => C_X6_leftOf hJ _ _ q1 hq1) rfl rfl (Nat.le_of_ble_eq_true rfl) skC_b4 skC_c4 rfl (fun r4 => ?_)
    refine cr_aload_n hok dX0_x_25 rfl ?_
    refine cr_gr hok dX0_x_26 fl_RX0_9 skC_b5 skC_c5 rfl ?_
    refine cr_iload_n hok dX0_x_29 rfl ?_
    refine cr_cvr (as := [.inl r1]) (rest := [.inl r4]) hok lk_RX0_50 (by decide) (by decide) dX0_x_30 (fun q1 hq1 => C_X1_widthOf hJ _ _ q1 hq1) rfl rfl (Nat.le_of_ble_eq_true rfl) skC_b2 skC_c2 rfl (fun r5 => ?_)
    refine cr_iconst hok dX0_x_33 ?_
    refine cr_idiv hok (b := 2) (by decide) dX0_x_34 (by decide) ?_
    refine cr_iadd hok dX0_x_35 ?_
    exact cr_iret hok dX0_x_36
/-! CaretBench$Clusters endOf(I)I -/
def v_X1_endOf (g : cb_S) (x1 : Int) : Option Int := (v_X1_has g x1).bind (fun r1 => if cb_w r1 = 0 then (some (-1)) else (if 0 ≤ cb_w x1 ∧ cb_w x1 < (60 : Nat) then (some (g 11 ((cb_w x1).toNat))) else none))
set_option maxRecDepth 100000 in
theorem C_X1_endOf {O : cb_O} (hJ : cb_J O skC) (x1 : Int) (g : cb_S) : ∀ q, v_X1_endOf g x1 = some q → cb_m O skC false yX1_endOf cX1_endOf 2 (some .int) rm_X1_endOf [.inr 2, .inl x1] g (q, g) := by
  intro q hq
  refine cr_of_body hJ (by decide) (Nat.le_of_ble_eq_true rfl) hq (fun M hok => ?_)
  show cb_jr _ _ _ _ _ _ [some (.inr 2), some (.inl x1)] _ _ ((v_X1_has g x1).bind (fun r1 => if cb_w r1 = 0 then (some (-1)) else (if 0 ≤ cb_w x1 ∧ cb_w x1 < (60 : Nat) then (some (g 11 ((cb_w x1).toNat))) else none)))
  refine cr_aload_n hok dX1_endOf_0 rfl ?_
  refine cr_iload_n hok dX1_endOf_1 rfl ?_
  refine cr_cvr (as := [.inl x1]) (rest := []) hok lk_RX1_90 (by decide) (by decide) dX1_endOf_2 (fun q1 hq1 => C_X1_has hJ _ _ q1 hq1) rfl rfl (Nat.le_of_ble_eq_true rfl) skC_b2 skC_c2 rfl (fun r1 => ?_)
  refine cr_ifeq (tgt := 17) hok rfl dX1_endOf_5 (by decide) (fun _ => ?_) (fun _ => ?_)
  · refine cr_iconst hok dX1_endOf_17 ?_
    exact cr_iret hok dX1_endOf_18
  · refine cr_aload_n hok dX1_endOf_8 rfl ?_
    refine cr_gr hok dX1_endOf_9 fl_RX1_19 skC_b2 skC_c2 rfl ?_
    refine cr_iload_n hok dX1_endOf_12 rfl ?_
    refine cr_iald hok dX1_endOf_13 skC_b11 skC_c11 ?_
    refine cr_goto (tgt := 18) hok dX1_endOf_14 (by decide) ?_
    exact cr_iret hok dX1_endOf_18
/-! CaretBench$Clusters firstOf(I)I -/
def v_X1_firstOf (g : cb_S) (x1 : Int) : Option Int := (v_X1_has g x1).bind (fun r1 => if cb_w r1 = 0 then (some (-1)) else (if 0 ≤ cb_w x1 ∧ cb_w x1 < (60 : Nat) then (some (g 10 ((cb_w x1).toNat))) else none))
set_option maxRecDepth 100000 in
theorem C_X1_firstOf {O : cb_O} (hJ : cb_J O skC) (x1 : Int) (g : cb_S) : ∀ q, v_X1_firstOf g x1 = some q → cb_m O skC false yX1_firstOf cX1_firstOf 2 (some .int) rm_X1_firstOf [.inr 2, .inl x1] g (q, g) := by
  intro q hq
  refine cr_of_body hJ (by decide) (Nat.le_of_ble_eq_true rfl) hq (fun M hok => ?_)
  show cb_jr _ _ _ _ _ _ [some (.inr 2), some (.inl x1)] _ _ ((v_X1_has g x1).bind (fun r1 => if cb_w r1 = 0 then (some (-1)) else (if 0 ≤ cb_w x1 ∧ cb_w x1 < (60 : Nat) then (some (g 10 ((cb_w x1).toNat))) else none)))
  refine cr_aload_n hok dX1_firstOf_0 rfl ?_
  refine cr_iload_n hok dX1_firstOf_1 rfl ?_
  refine cr_cvr (as := [.inl x1]) (rest := []) hok lk_RX1_90 (by decide) (by decide) dX1_firstOf_2 (fun q1 hq1 => C_X1_has hJ _ _ q1 hq1) rfl rfl (Nat.le_of_ble_eq_true rfl) skC_b2 skC_c2 rfl (fun r1 => ?_)
  refine cr_ifeq (tgt := 17) hok rfl dX1_firstOf_5 (by decide) (fun _ => ?_) (fun _ => ?_)
  · refine cr_iconst hok dX1_firstOf_17 ?_
    exact cr_iret hok dX1_firstOf_18
  · refine cr_aload_n hok dX1_firstOf_8 rfl ?_
    refine cr_gr hok dX1_firstOf_9 fl_RX1_15 skC_b2 skC_c2 rfl ?_
    refine cr_iload_n hok dX1_firstOf_12 rfl ?_
    refine cr_iald hok dX1_firstOf_13 skC_b10 skC_c10 ?_
    refine cr_goto (tgt := 18) hok dX1_firstOf_14 (by decide) ?_
    exact cr_iret hok dX1_firstOf_18
/-! CaretBench$Caret toSideOf(IZ)V -/
def f_X0_toSideOf (g : cb_S) (x1 : Int) (x2 : Int) : Option (Int × cb_S) := (v_X1_has g x1).bind (fun r1 => if cb_w r1 = 0 then (some (0, g)) else ((v_X6_levelOf g x1).bind (fun r2 => (v_X8_isEven g r2).bind (fun r3 => if cb_w r3 = cb_w x2 then ((v_X1_endOf g x1).bind (fun r6 => cb_b (f_X0_place g r6 0) (fun r7 g7 => some (0, g7)))) else ((v_X1_firstOf g x1).bind (fun r4 => cb_b (f_X0_place g r4 1) (fun r5 g5 => some (0, g5))))))))
set_option maxRecDepth 100000 in
theorem C_X0_toSideOf {O : cb_O} (hJ : cb_J O skC) (x1 : Int) (x2 : Int) (g : cb_S) : ∀ q, f_X0_toSideOf g x1 x2 = some q → cb_m O skC true yX0_toSideOf cX0_toSideOf 3 none rm_X0_toSideOf [.inr 5, .inl x1, .inl x2] g q := by
  intro q hq
  refine cb_of_body hJ (by decide) (Nat.le_of_ble_eq_true rfl) hq (fun M hok => ?_)
  show cb_j _ _ _ _ _ _ _ [some (.inr 5), some (.inl x1), some (.inl x2)] _ _ ((v_X1_has g x1).bind (fun r1 => if cb_w r1 = 0 then (some (0, g)) else ((v_X6_levelOf g x1).bind (fun r2 => (v_X8_isEven g r2).bind (fun r3 => if cb_w r3 = cb_w x2 then ((v_X1_endOf g x1).bind (fun r6 => cb_b (f_X0_place g r6 0) (fun r7 g7 => some (0, g7)))) else ((v_X1_firstOf g x1).bind (fun r4 => cb_b (f_X0_place g r4 1) (fun r5 g5 => some (0, g5)))))))))
  refine cb_aload_n hok dX0_toSideOf_0 rfl ?_
  refine cb_gr hok dX0_toSideOf_1 fl_RX0_9 skC_b5 skC_c5 rfl ?_
  refine cb_iload_n hok dX0_toSideOf_4 rfl ?_
  refine cb_cvr (as := [.inl x1]) (rest := []) hok lk_RX0_82 (by decide) (by decide) dX0_toSideOf_5 (fun q1 hq1 => C_X1_has hJ _ _ q1 hq1) rfl rfl (Nat.le_of_ble_eq_true rfl) skC_b2 skC_c2 rfl (fun r1 => ?_)
  refine cb_ifne (tgt := 12) hok rfl dX0_toSideOf_8 (by decide) (fun _ => ?_) (fun _ => ?_)
  · refine cb_aload_n hok dX0_toSideOf_12 rfl ?_
    refine cb_gr hok dX0_toSideOf_13 fl_RX0_15 skC_b5 skC_c5 rfl ?_
    refine cb_iload_n hok dX0_toSideOf_16 rfl ?_
    refine cb_cvr (as := [.inl x1]) (rest := []) hok lk_RX0_66 (by decide) (by decide) dX0_toSideOf_17 (fun q1 hq1 => C_X6_levelOf hJ _ _ q1 hq1) rfl rfl (Nat.le_of_ble_eq_true rfl) skC_b4 skC_c4 rfl (fun r2 => ?_)
    refine cb_cnr (as := [.inl r2]) (rest := []) hok lk_RX0_69 (by decide) (by decide) dX0_toSideOf_20 (fun q1 hq1 => C_X8_isEven hJ _ _ q1 hq1) rfl rfl (Nat.le_of_ble_eq_true rfl) (fun r3 => ?_)
    refine cb_iload_n hok dX0_toSideOf_23 rfl ?_
    refine cb_icne (tgt := 43) hok rfl rfl dX0_toSideOf_24 (by decide) (fun _ => ?_) (fun _ => ?_)
    · refine cb_aload_n hok dX0_toSideOf_43 rfl ?_
      refine cb_aload_n hok dX0_toSideOf_44 rfl ?_
      refine cb_gr hok dX0_toSideOf_45 fl_RX0_9 skC_b5 skC_c5 rfl ?_
      refine cb_iload_n hok dX0_toSideOf_48 rfl ?_
      refine cb_cvr (as := [.inl x1]) (rest := [.inr 5]) hok lk_RX0_88 (by decide) (by decide) dX0_toSideOf_49 (fun q1 hq1 => C_X1_firstOf hJ _ _ q1 hq1) rfl rfl (Nat.le_of_ble_eq_true rfl) skC_b2 skC_c2 rfl (fun r4 => ?_)
      refine cb_iconst hok dX0_toSideOf_52 ?_
      refine cb_cvv (as := [.inl r4, .inl 1]) (rest := []) hok lk_RX0_35 (by decide) (by decide) dX0_toSideOf_53 (fun q1 hq1 => C_X0_place hJ _ _ _ q1 hq1) rfl rfl (Nat.le_of_ble_eq_true rfl) skC_b5 skC_c5 rfl (fun r5 g5 => ?_)
      exact cb_vret hok dX0_toSideOf_56
    · refine cb_aload_n hok dX0_toSideOf_27 rfl ?_
      refine cb_aload_n hok dX0_toSideOf_28 rfl ?_
      refine cb_gr hok dX0_toSideOf_29 fl_RX0_9 skC_b5 skC_c5 rfl ?_
      refine cb_iload_n hok dX0_toSideOf_32 rfl ?_
      refine cb_cvr (as := [.inl x1]) (rest := [.inr 5]) hok lk_RX0_85 (by decide) (by decide) dX0_toSideOf_33 (fun q1 hq1 => C_X1_endOf hJ _ _ q1 hq1) rfl rfl (Nat.le_of_ble_eq_true rfl) skC_b2 skC_c2 rfl (fun r6 => ?_)
      refine cb_iconst hok dX0_toSideOf_36 ?_
      refine cb_cvv (as := [.inl r6, .inl 0]) (rest := []) hok lk_RX0_35 (by decide) (by decide) dX0_toSideOf_37 (fun q1 hq1 => C_X0_place hJ _ _ _ q1 hq1) rfl rfl (Nat.le_of_ble_eq_true rfl) skC_b5 skC_c5 rfl (fun r7 g7 => ?_)
      refine cb_goto (tgt := 56) hok dX0_toSideOf_40 (by decide) ?_
      exact cb_vret hok dX0_toSideOf_56
  · exact cb_vret hok dX0_toSideOf_11
