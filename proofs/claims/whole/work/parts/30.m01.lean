/-! CaretBench$Clusters joinsAt(I)Z -/
def v_X1_joinsAt (g : cb_S) (x1 : Int) : Option Int := if cb_w x1 < 0 then (some 0) else (if cb_w (60 : Nat) ≤ cb_w x1 then (some 0) else (if 0 ≤ cb_w x1 ∧ cb_w x1 < (60 : Nat) then (if cb_w (g 9 ((cb_w x1).toNat)) = 0 then (some 0) else (some 1)) else none))
set_option maxRecDepth 100000 in
theorem C_X1_joinsAt {O : cb_O} (hJ : cb_J O skC) (x1 : Int) (g : cb_S) : ∀ q, v_X1_joinsAt g x1 = some q → cb_m O skC false yX1_joinsAt cX1_joinsAt 2 (some .boolean) rm_X1_joinsAt [.inr 2, .inl x1] g (q, g) := by
  intro q hq
  refine cr_of_body hJ (by decide) (Nat.le_of_ble_eq_true rfl) hq (fun M hok => ?_)
  show cb_jr _ _ _ _ _ _ [some (.inr 2), some (.inl x1)] _ _ (if cb_w x1 < 0 then (some 0) else (if cb_w (60 : Nat) ≤ cb_w x1 then (some 0) else (if 0 ≤ cb_w x1 ∧ cb_w x1 < (60 : Nat) then (if cb_w (g 9 ((cb_w x1).toNat)) = 0 then (some 0) else (some 1)) else none)))
  refine cr_iload_n hok dX1_joinsAt_0 rfl ?_
  refine cr_iflt (tgt := 26) hok rfl dX1_joinsAt_1 (by decide) (fun _ => ?_) (fun _ => ?_)
  · refine cr_iconst hok dX1_joinsAt_26 ?_
    exact cr_zret hok dX1_joinsAt_27 (by decide)
  · refine cr_iload_n hok dX1_joinsAt_4 rfl ?_
    refine cr_aload_n hok dX1_joinsAt_5 rfl ?_
    refine cr_gr hok dX1_joinsAt_6 fl_RX1_9 skC_b2 skC_c2 rfl ?_
    refine cr_alen hok dX1_joinsAt_9 skC_b9 skC_c9 (Or.inr rfl) ?_
    refine cr_icge (tgt := 26) hok rfl rfl dX1_joinsAt_10 (by decide) (fun _ => ?_) (fun _ => ?_)
    · refine cr_iconst hok dX1_joinsAt_26 ?_
      exact cr_zret hok dX1_joinsAt_27 (by decide)
    · refine cr_aload_n hok dX1_joinsAt_13 rfl ?_
      refine cr_gr hok dX1_joinsAt_14 fl_RX1_9 skC_b2 skC_c2 rfl ?_
      refine cr_iload_n hok dX1_joinsAt_17 rfl ?_
      refine cr_zald hok dX1_joinsAt_18 skC_b9 skC_c9 ?_
      refine cr_ifeq (tgt := 26) hok rfl dX1_joinsAt_19 (by decide) (fun _ => ?_) (fun _ => ?_)
      · refine cr_iconst hok dX1_joinsAt_26 ?_
        exact cr_zret hok dX1_joinsAt_27 (by decide)
      · refine cr_iconst hok dX1_joinsAt_22 ?_
        refine cr_goto (tgt := 27) hok dX1_joinsAt_23 (by decide) ?_
        exact cr_zret hok dX1_joinsAt_27 (by decide)
/-! CaretBench$Clusters isJoined(I)Z -/
def v_X1_isJoined (g : cb_S) (x1 : Int) : Option Int := (v_X1_has g x1).bind (fun r1 => if cb_w r1 = 0 then (some 0) else (if 0 ≤ cb_w x1 ∧ cb_w x1 < (60 : Nat) then ((v_X1_joinsAt g ((g 10 ((cb_w x1).toNat)) + 1)).bind (fun r2 => if cb_w r2 = 0 then (some 0) else (some 1))) else none))
set_option maxRecDepth 100000 in
theorem C_X1_isJoined {O : cb_O} (hJ : cb_J O skC) (x1 : Int) (g : cb_S) : ∀ q, v_X1_isJoined g x1 = some q → cb_m O skC false yX1_isJoined cX1_isJoined 2 (some .boolean) rm_X1_isJoined [.inr 2, .inl x1] g (q, g) := by
  intro q hq
  refine cr_of_body hJ (by decide) (Nat.le_of_ble_eq_true rfl) hq (fun M hok => ?_)
  show cb_jr _ _ _ _ _ _ [some (.inr 2), some (.inl x1)] _ _ ((v_X1_has g x1).bind (fun r1 => if cb_w r1 = 0 then (some 0) else (if 0 ≤ cb_w x1 ∧ cb_w x1 < (60 : Nat) then ((v_X1_joinsAt g ((g 10 ((cb_w x1).toNat)) + 1)).bind (fun r2 => if cb_w r2 = 0 then (some 0) else (some 1))) else none)))
  refine cr_aload_n hok dX1_isJoined_0 rfl ?_
  refine cr_iload_n hok dX1_isJoined_1 rfl ?_
  refine cr_cvr (as := [.inl x1]) (rest := []) hok lk_RX1_90 (by decide) (by decide) dX1_isJoined_2 (fun q1 hq1 => C_X1_has hJ _ _ q1 hq1) rfl rfl (Nat.le_of_ble_eq_true rfl) skC_b2 skC_c2 rfl (fun r1 => ?_)
  refine cr_ifeq (tgt := 27) hok rfl dX1_isJoined_5 (by decide) (fun _ => ?_) (fun _ => ?_)
  · refine cr_iconst hok dX1_isJoined_27 ?_
    exact cr_zret hok dX1_isJoined_28 (by decide)
  · refine cr_aload_n hok dX1_isJoined_8 rfl ?_
    refine cr_aload_n hok dX1_isJoined_9 rfl ?_
    refine cr_gr hok dX1_isJoined_10 fl_RX1_15 skC_b2 skC_c2 rfl ?_
    refine cr_iload_n hok dX1_isJoined_13 rfl ?_
    refine cr_iald hok dX1_isJoined_14 skC_b10 skC_c10 ?_
    refine cr_iconst hok dX1_isJoined_15 ?_
    refine cr_iadd hok dX1_isJoined_16 ?_
    refine cr_cvr (as := [.inl ((g 10 ((cb_w x1).toNat)) + 1)]) (rest := []) hok lk_RX1_84 (by decide) (by decide) dX1_isJoined_17 (fun q1 hq1 => C_X1_joinsAt hJ _ _ q1 hq1) rfl rfl (Nat.le_of_ble_eq_true rfl) skC_b2 skC_c2 rfl (fun r2 => ?_)
    refine cr_ifeq (tgt := 27) hok rfl dX1_isJoined_20 (by decide) (fun _ => ?_) (fun _ => ?_)
    · refine cr_iconst hok dX1_isJoined_27 ?_
      exact cr_zret hok dX1_isJoined_28 (by decide)
    · refine cr_iconst hok dX1_isJoined_23 ?_
      refine cr_goto (tgt := 28) hok dX1_isJoined_24 (by decide) ?_
      exact cr_zret hok dX1_isJoined_28 (by decide)
/-! CaretBench$Caret toMiddleOf(I)V -/
def f_X0_toMiddleOf (g : cb_S) (x1 : Int) : Option (Int × cb_S) := (v_X1_isJoined g x1).bind (fun r1 => if cb_w r1 = 0 then (some (0, g)) else ((v_X1_firstOf g x1).bind (fun r2 => cb_b (f_X0_place g (r2 + 2) 0) (fun r3 g3 => some (0, g3)))))
set_option maxRecDepth 100000 in
theorem C_X0_toMiddleOf {O : cb_O} (hJ : cb_J O skC) (x1 : Int) (g : cb_S) : ∀ q, f_X0_toMiddleOf g x1 = some q → cb_m O skC true yX0_toMiddleOf cX0_toMiddleOf 2 none rm_X0_toMiddleOf [.inr 5, .inl x1] g q := by
  intro q hq
  refine cb_of_body hJ (by decide) (Nat.le_of_ble_eq_true rfl) hq (fun M hok => ?_)
  show cb_j _ _ _ _ _ _ _ [some (.inr 5), some (.inl x1)] _ _ ((v_X1_isJoined g x1).bind (fun r1 => if cb_w r1 = 0 then (some (0, g)) else ((v_X1_firstOf g x1).bind (fun r2 => cb_b (f_X0_place g (r2 + 2) 0) (fun r3 g3 => some (0, g3))))))
  refine cb_aload_n hok dX0_toMiddleOf_0 rfl ?_
  refine cb_gr hok dX0_toMiddleOf_1 fl_RX0_9 skC_b5 skC_c5 rfl ?_
  refine cb_iload_n hok dX0_toMiddleOf_4 rfl ?_
  refine cb_cvr (as := [.inl x1]) (rest := []) hok lk_RX0_91 (by decide) (by decide) dX0_toMiddleOf_5 (fun q1 hq1 => C_X1_isJoined hJ _ _ q1 hq1) rfl rfl (Nat.le_of_ble_eq_true rfl) skC_b2 skC_c2 rfl (fun r1 => ?_)
  refine cb_ifeq (tgt := 26) hok rfl dX0_toMiddleOf_8 (by decide) (fun _ => ?_) (fun _ => ?_)
  · exact cb_vret hok dX0_toMiddleOf_26
  · refine cb_aload_n hok dX0_toMiddleOf_11 rfl ?_
    refine cb_aload_n hok dX0_toMiddleOf_12 rfl ?_
    refine cb_gr hok dX0_toMiddleOf_13 fl_RX0_9 skC_b5 skC_c5 rfl ?_
    refine cb_iload_n hok dX0_toMiddleOf_16 rfl ?_
    refine cb_cvr (as := [.inl x1]) (rest := [.inr 5]) hok lk_RX0_88 (by decide) (by decide) dX0_toMiddleOf_17 (fun q1 hq1 => C_X1_firstOf hJ _ _ q1 hq1) rfl rfl (Nat.le_of_ble_eq_true rfl) skC_b2 skC_c2 rfl (fun r2 => ?_)
    refine cb_iconst hok dX0_toMiddleOf_20 ?_
    refine cb_iadd hok dX0_toMiddleOf_21 ?_
    refine cb_iconst hok dX0_toMiddleOf_22 ?_
    refine cb_cvv (as := [.inl (r2 + 2), .inl 0]) (rest := []) hok lk_RX0_35 (by decide) (by decide) dX0_toMiddleOf_23 (fun q1 hq1 => C_X0_place hJ _ _ _ q1 hq1) rfl rfl (Nat.le_of_ble_eq_true rfl) skC_b5 skC_c5 rfl (fun r3 g3 => ?_)
    exact cb_vret hok dX0_toMiddleOf_26
/-! CaretBench$Sight clusterOver(I)I -/
def v_X6_clusterOver_b37 (kk2 : Int → Int → cb_S → Option Int) (x1 x2 : Int) (g : cb_S) : Option Int := kk2 x1 (x2 + 1) g
set_option maxRecDepth 100000 in
theorem J_X6_clusterOver_b37 {O : cb_O} {M : cb_M} (hJ : cb_J O skC) (hok : cb_ok O skC M cX6_clusterOver 4 RX6 (some .int)) {kk2 : Int → Int → cb_S → Option Int} (hk2 : ∀ (x1 x2 : Int) (g : cb_S), cb_jr O skC rm_X6_clusterOver M 4 2 [some (.inr 4), some (.inl x1), some (.inl x2), none] [] g (kk2 x1 x2 g)) : ∀ (x1 x2 : Int) (g : cb_S), cb_jr O skC rm_X6_clusterOver M 4 37 [some (.inr 4), some (.inl x1), some (.inl x2), none] [] g (v_X6_clusterOver_b37 kk2 x1 x2 g) := by
  intro x1 x2 g
  show cb_jr _ _ _ _ _ _ _ _ _ (kk2 x1 (x2 + 1) g)
  refine cr_iinc (ls' := [some (.inr 4), some (.inl x1), some (.inl (x2 + 1)), none]) hok dX6_clusterOver_37 rfl (by decide) rfl ?_
  refine cr_goto (tgt := 2) hok dX6_clusterOver_40 (by decide) ?_
  refine cr_fewer (ls' := [some (.inr 4), some (.inl x1), some (.inl (x2 + 1)), none]) ⟨rfl, ⟨rfl, ⟨rfl, trivial⟩⟩⟩ ?_
  exact hk2 _ _ _
def v_X6_clusterOver_b2 : Nat → Int → Int → cb_S → Option Int
  | 0 => fun _ _ _ => none
  | n + 1 => fun x1 x2 g => if cb_w (g 4 4) ≤ cb_w x2 then (some (-1)) else (if 0 ≤ cb_w x2 ∧ cb_w x2 < (60 : Nat) then ((v_X6_leftOf g (g 27 ((cb_w x2).toNat))).bind (fun r1 => if cb_w x1 < cb_w r1 then (v_X6_clusterOver_b37 (v_X6_clusterOver_b2 n) x1 x2 g) else ((v_X6_rightOf g (g 27 ((cb_w x2).toNat))).bind (fun r2 => if cb_w r2 ≤ cb_w x1 then (v_X6_clusterOver_b37 (v_X6_clusterOver_b2 n) x1 x2 g) else (some (g 27 ((cb_w x2).toNat))))))) else none)
set_option maxRecDepth 100000 in
theorem J_X6_clusterOver_b2 {O : cb_O} {M : cb_M} (hJ : cb_J O skC) (hok : cb_ok O skC M cX6_clusterOver 4 RX6 (some .int)) : ∀ (n : Nat) (x1 x2 : Int) (g : cb_S), cb_jr O skC rm_X6_clusterOver M 4 2 [some (.inr 4), some (.inl x1), some (.inl x2), none] [] g (v_X6_clusterOver_b2 n x1 x2 g) := by
  intro n
  induction n with
  | zero => intros; exact cr_none
  | succ n hk2 =>
    intro x1 x2 g
    show cb_jr _ _ _ _ _ _ _ _ _ (if cb_w (g 4 4) ≤ cb_w x2 then (some (-1)) else (if 0 ≤ cb_w x2 ∧ cb_w x2 < (60 : Nat) then ((v_X6_leftOf g (g 27 ((cb_w x2).toNat))).bind (fun r1 => if cb_w x1 < cb_w r1 then (v_X6_clusterOver_b37 (v_X6_clusterOver_b2 n) x1 x2 g) else ((v_X6_rightOf g (g 27 ((cb_w x2).toNat))).bind (fun r2 => if cb_w r2 ≤ cb_w x1 then (v_X6_clusterOver_b37 (v_X6_clusterOver_b2 n) x1 x2 g) else (some (g 27 ((cb_w x2).toNat))))))) else none))
    refine cr_iload_n hok dX6_clusterOver_2 rfl ?_
    refine cr_aload_n hok dX6_clusterOver_3 rfl ?_
    refine cr_gi hok dX6_clusterOver_4 fl_RX6_30 skC_b4 skC_c4 rfl ?_
    refine cr_icge (tgt := 43) hok rfl rfl dX6_clusterOver_7 (by decide) (fun _ => ?_) (fun _ => ?_)
    · refine cr_iconst hok dX6_clusterOver_43 ?_
      exact cr_iret hok dX6_clusterOver_44
    · refine cr_aload_n hok dX6_clusterOver_10 rfl ?_
      refine cr_gr hok dX6_clusterOver_11 fl_RX6_15 skC_b4 skC_c4 rfl ?_
      refine cr_iload_n hok dX6_clusterOver_14 rfl ?_
      refine cr_iald hok dX6_clusterOver_15 skC_b27 skC_c27 ?_
      refine cr_istore_n (ls' := [some (.inr 4), some (.inl x1), some (.inl x2), some (.inl (g 27 ((cb_w x2).toNat)))]) hok dX6_clusterOver_16 (by decide) rfl ?_
      refine cr_aload_n hok dX6_clusterOver_17 rfl ?_
      refine cr_iload_n hok dX6_clusterOver_18 rfl ?_
      refine cr_cvr (as := [.inl (g 27 ((cb_w x2).toNat))]) (rest := []) hok lk_RX6_92 (by decide) (by decide) dX6_clusterOver_19 (fun q1 hq1 => C_X6_leftOf hJ _ _ q1 hq1) rfl rfl (Nat.le_of_ble_eq_true rfl) skC_b4 skC_c4 rfl (fun r1 => ?_)
      refine cr_iload_n hok dX6_clusterOver_22 rfl ?_
      refine cr_icgt (tgt := 37) hok rfl rfl dX6_clusterOver_23 (by decide) (fun _ => ?_) (fun _ => ?_)
      · refine cr_fewer (ls' := [some (.inr 4), some (.inl x1), some (.inl x2), none]) ⟨rfl, ⟨rfl, ⟨rfl, trivial⟩⟩⟩ ?_
        exact J_X6_clusterOver_b37 hJ hok hk2 _ _ _
      · refine cr_iload_n hok dX6_clusterOver_26 rfl ?_
        refine cr_aload_n hok dX6_clusterOver_27 rfl ?_
        refine cr_iload_n hok dX6_clusterOver_28 rfl ?_
        refine cr_cvr (as := [.inl (g 27 ((cb_w x2).toNat))]) (rest := [.inl x1]) hok lk_RX6_98 (by decide) (by decide) dX6_clusterOver_29 (fun q1 hq1 => C_X6_rightOf hJ _ _ q1 hq1) rfl rfl (Nat.le_of_ble_eq_true rfl) skC_b4 skC_c4 rfl (fun r2 => ?_)
        refine cr_icge (tgt := 37) hok rfl rfl dX6_clusterOver_32 (by decide) (fun _ => ?_) (fun _ => ?_)
        · refine cr_fewer (ls' := [some (.inr 4), some (.inl x1), some (.inl x2), none]) ⟨rfl, ⟨rfl, ⟨rfl, trivial⟩⟩⟩ ?_
          exact J_X6_clusterOver_b37 hJ hok hk2 _ _ _
        · refine cr_iload_n hok dX6_clusterOver_35 rfl ?_
          exact cr_iret hok dX6_clusterOver_36
def v_X6_clusterOver (g : cb_S) (x1 : Int) : Option Int := v_X6_clusterOver_b2  cb_N x1 0 g
set_option maxRecDepth 100000 in
theorem C_X6_clusterOver {O : cb_O} (hJ : cb_J O skC) (x1 : Int) (g : cb_S) : ∀ q, v_X6_clusterOver g x1 = some q → cb_m O skC false yX6_clusterOver cX6_clusterOver 4 (some .int) rm_X6_clusterOver [.inr 4, .inl x1] g (q, g) := by
  intro q hq
  refine cr_of_body hJ (by decide) (Nat.le_of_ble_eq_true rfl) hq (fun M hok => ?_)
  show cb_jr _ _ _ _ _ _ [some (.inr 4), some (.inl x1), none, none] _ _ (v_X6_clusterOver_b2  cb_N x1 0 g)
  refine cr_iconst hok dX6_clusterOver_0 ?_
  refine cr_istore_n (ls' := [some (.inr 4), some (.inl x1), some (.inl 0), none]) hok dX6_clusterOver_1 (by decide) rfl ?_
  refine cr_fewer (ls' := [some (.inr 4), some (.inl x1), some (.inl 0), none]) ⟨rfl, ⟨rfl, ⟨rfl, trivial⟩⟩⟩ ?_
  exact J_X6_clusterOver_b2 hJ hok  cb_N _ _ _
/-! CaretBench$Sight clusterWithLeft(I)I -/
def v_X6_clusterWithLeft (g : cb_S) (x1 : Int) : Option Int := (v_X6_clusterOver g x1).bind (fun r1 => if cb_w r1 = (-1) then (some (-1)) else ((v_X6_leftOf g r1).bind (fun r2 => if cb_w r2 = cb_w x1 then (some r1) else (some (-1)))))
set_option maxRecDepth 100000 in
theorem C_X6_clusterWithLeft {O : cb_O} (hJ : cb_J O skC) (x1 : Int) (g : cb_S) : ∀ q, v_X6_clusterWithLeft g x1 = some q → cb_m O skC false yX6_clusterWithLeft cX6_clusterWithLeft 3 (some .int) rm_X6_clusterWithLeft [.inr 4, .inl x1] g (q, g) := by
  intro q hq
  refine cr_of_body hJ (by decide) (Nat.le_of_ble_eq_true rfl) hq (fun M hok => ?_)
  show cb_jr _ _ _ _ _ _ [some (.inr 4), some (.inl x1), none] _ _ ((v_X6_clusterOver g x1).bind (fun r1 => if cb_w r1 = (-1) then (some (-1)) else ((v_X6_leftOf g r1).bind (fun r2 => if cb_w r2 = cb_w x1 then (some r1) else (some (-1))))))
  refine cr_aload_n hok dX6_clusterWithLeft_0 rfl ?_
  refine cr_iload_n hok dX6_clusterWithLeft_1 rfl ?_
  refine cr_cvr (as := [.inl x1]) (rest := []) hok lk_RX6_95 (by decide) (by decide) dX6_clusterWithLeft_2 (fun q1 hq1 => C_X6_clusterOver hJ _ _ q1 hq1) rfl rfl (Nat.le_of_ble_eq_true rfl) skC_b4 skC_c4 rfl (fun r1 => ?_)
  refine cr_istore_n (ls' := [some (.inr 4), some (.inl x1), some (.inl r1)]) hok dX6_clusterWithLeft_5 (by decide) rfl ?_
  refine cr_iload_n hok dX6_clusterWithLeft_6 rfl ?_
  refine cr_iconst hok dX6_clusterWithLeft_7 ?_
  refine cr_iceq (tgt := 24) hok rfl (by decide) dX6_clusterWithLeft_8 (by decide) (fun _ => ?_) (fun _ => ?_)
  · refine cr_iconst hok dX6_clusterWithLeft_24 ?_
    exact cr_iret hok dX6_clusterWithLeft_25
  · refine cr_aload_n hok dX6_clusterWithLeft_11 rfl ?_
    refine cr_iload_n hok dX6_clusterWithLeft_12 rfl ?_
    refine cr_cvr (as := [.inl r1]) (rest := []) hok lk_RX6_92 (by decide) (by decide) dX6_clusterWithLeft_13 (fun q1 hq1 => C_X6_leftOf hJ _ _ q1 hq1) rfl rfl (Nat.le_of_ble_eq_true rfl) skC_b4 skC_c4 rfl (fun r2 => ?_)
    refine cr_iload_n hok dX6_clusterWithLeft_16 rfl ?_
    refine cr_icne (tgt := 24) hok rfl rfl dX6_clusterWithLeft_17 (by decide) (fun _ => ?_) (fun _ => ?_)
    · refine cr_iconst hok dX6_clusterWithLeft_24 ?_
      exact cr_iret hok dX6_clusterWithLeft_25
    · refine cr_iload_n hok dX6_clusterWithLeft_20 rfl ?_
      refine cr_goto (tgt := 25) hok dX6_clusterWithLeft_21 (by decide) ?_
      exact cr_iret hok dX6_clusterWithLeft_25
/-! CaretBench$Sight clusterWithRight(I)I -/
def v_X6_clusterWithRight (g : cb_S) (x1 : Int) : Option Int := (v_X6_clusterOver g (x1 - 1)).bind (fun r1 => some r1)
set_option maxRecDepth 100000 in
theorem C_X6_clusterWithRight {O : cb_O} (hJ : cb_J O skC) (x1 : Int) (g : cb_S) : ∀ q, v_X6_clusterWithRight g x1 = some q → cb_m O skC false yX6_clusterWithRight cX6_clusterWithRight 2 (some .int) rm_X6_clusterWithRight [.inr 4, .inl x1] g (q, g) := by
  intro q hq
  refine cr_of_body hJ (by decide) (Nat.le_of_ble_eq_true rfl) hq (fun M hok => ?_)
  show cb_jr _ _ _ _ _ _ [some (.inr 4), some (.inl x1)] _ _ ((v_X6_clusterOver g (x1 - 1)).bind (fun r1 => some r1))
  refine cr_aload_n hok dX6_clusterWithRight_0 rfl ?_
  refine cr_iload_n hok dX6_clusterWithRight_1 rfl ?_
  refine cr_iconst hok dX6_clusterWithRight_2 ?_
  refine cr_isub hok dX6_clusterWithRight_3 ?_
  refine cr_cvr (as := [.inl (x1 - 1)]) (rest := []) hok lk_RX6_95 (by decide) (by decide) dX6_clusterWithRight_4 (fun q1 hq1 => C_X6_clusterOver hJ _ _ q1 hq1) rfl rfl (Nat.le_of_ble_eq_true rfl) skC_b4 skC_c4 rfl (fun r1 => ?_)
  exact cr_iret hok dX6_clusterWithRight_7
/-! CaretBench$Caret stepOver(Z)Z -/
def f_X0_stepOver_b54 (x1 s0 : Int) (g : cb_S) : Option (Int × cb_S) := if cb_w s0 = (-1) then (some (0, g)) else ((v_X1_isJoined g s0).bind (fun r1 => if cb_w r1 = 0 then (cb_b (f_X0_toSideOf g s0 x1) (fun r2 g2 => some (1, g2))) else (cb_b (f_X0_toMiddleOf g s0) (fun r3 g3 => some (1, g3)))))
set_option maxRecDepth 100000 in
theorem J_X0_stepOver_b54 {O : cb_O} {M : cb_M} (hJ : cb_J O skC) (hok : cb_ok O skC M cX0_stepOver 4 RX0 (some .boolean)) : ∀ (x1 s0 : Int) (g : cb_S), cb_j O skC false rm_X0_stepOver M 4 54 [some (.inr 5), some (.inl x1), none, none] [.inl s0] g (f_X0_stepOver_b54 x1 s0 g) := by
  intro x1 s0 g
  show cb_j _ _ _ _ _ _ _ _ _ _ (if cb_w s0 = (-1) then (some (0, g)) else ((v_X1_isJoined g s0).bind (fun r1 => if cb_w r1 = 0 then (cb_b (f_X0_toSideOf g s0 x1) (fun r2 g2 => some (1, g2))) else (cb_b (f_X0_toMiddleOf g s0) (fun r3 g3 => some (1, g3))))))
  refine cb_istore_n (ls' := [some (.inr 5), some (.inl x1), none, some (.inl s0)]) hok dX0_stepOver_54 (by decide) rfl ?_
  refine cb_iload_n hok dX0_stepOver_55 rfl ?_
  refine cb_iconst hok dX0_stepOver_56 ?_
  refine cb_icne (tgt := 62) hok rfl (by decide) dX0_stepOver_57 (by decide) (fun _ => ?_) (fun _ => ?_)
  · refine cb_aload_n hok dX0_stepOver_62 rfl ?_
    refine cb_gr hok dX0_stepOver_63 fl_RX0_9 skC_b5 skC_c5 rfl ?_
    refine cb_iload_n hok dX0_stepOver_66 rfl ?_
    refine cb_cvr (as := [.inl s0]) (rest := []) hok lk_RX0_91 (by decide) (by decide) dX0_stepOver_67 (fun q1 hq1 => C_X1_isJoined hJ _ _ q1 hq1) rfl rfl (Nat.le_of_ble_eq_true rfl) skC_b2 skC_c2 rfl (fun r1 => ?_)
    refine cb_ifeq (tgt := 81) hok rfl dX0_stepOver_70 (by decide) (fun _ => ?_) (fun _ => ?_)
    · refine cb_aload_n hok dX0_stepOver_81 rfl ?_
      refine cb_iload_n hok dX0_stepOver_82 rfl ?_
      refine cb_iload_n hok dX0_stepOver_83 rfl ?_
      refine cb_cvv (as := [.inl s0, .inl x1]) (rest := []) hok lk_RX0_94 (by decide) (by decide) dX0_stepOver_84 (fun q1 hq1 => C_X0_toSideOf hJ _ _ _ q1 hq1) rfl rfl (Nat.le_of_ble_eq_true rfl) skC_b5 skC_c5 rfl (fun r2 g2 => ?_)
      refine cb_iconst hok dX0_stepOver_87 ?_
      exact cb_zret hok dX0_stepOver_88 (by decide)
    · refine cb_aload_n hok dX0_stepOver_73 rfl ?_
      refine cb_iload_n hok dX0_stepOver_74 rfl ?_
      refine cb_cvv (as := [.inl s0]) (rest := []) hok lk_RX0_107 (by decide) (by decide) dX0_stepOver_75 (fun q1 hq1 => C_X0_toMiddleOf hJ _ _ q1 hq1) rfl rfl (Nat.le_of_ble_eq_true rfl) skC_b5 skC_c5 rfl (fun r3 g3 => ?_)
      refine cb_goto (tgt := 87) hok dX0_stepOver_78 (by decide) ?_
      refine cb_iconst hok dX0_stepOver_87 ?_
      exact cb_zret hok dX0_stepOver_88 (by decide)
  · refine cb_iconst hok dX0_stepOver_60 ?_
    exact cb_zret hok dX0_stepOver_61 (by decide)
def f_X0_stepOver (g : cb_S) (x1 : Int) : Option (Int × cb_S) := (v_X1_joinedAround g (g 5 2)).bind (fun r1 => if cb_w r1 = (-1) then (if cb_w x1 = 0 then ((v_X0_x g ).bind (fun r2 => (v_X6_clusterWithRight g r2).bind (fun r3 => f_X0_stepOver_b54  x1 r3 g))) else ((v_X0_x g ).bind (fun r4 => (v_X6_clusterWithLeft g r4).bind (fun r5 => f_X0_stepOver_b54  x1 r5 g)))) else (cb_b (f_X0_toSideOf g r1 x1) (fun r6 g6 => some (1, g6))))
set_option maxRecDepth 100000 in
theorem C_X0_stepOver {O : cb_O} (hJ : cb_J O skC) (x1 : Int) (g : cb_S) : ∀ q, f_X0_stepOver g x1 = some q → cb_m O skC false yX0_stepOver cX0_stepOver 4 (some .boolean) rm_X0_stepOver [.inr 5, .inl x1] g q := by
  intro q hq
  refine cb_of_body hJ (by decide) (Nat.le_of_ble_eq_true rfl) hq (fun M hok => ?_)
  show cb_j _ _ _ _ _ _ _ [some (.inr 5), some (.inl x1), none, none] _ _ ((v_X1_joinedAround g (g 5 2)).bind (fun r1 => if cb_w r1 = (-1) then (if cb_w x1 = 0 then ((v_X0_x g ).bind (fun r2 => (v_X6_clusterWithRight g r2).bind (fun r3 => f_X0_stepOver_b54  x1 r3 g))) else ((v_X0_x g ).bind (fun r4 => (v_X6_clusterWithLeft g r4).bind (fun r5 => f_X0_stepOver_b54  x1 r5 g)))) else (cb_b (f_X0_toSideOf g r1 x1) (fun r6 g6 => some (1, g6)))))
  refine cb_aload_n hok dX0_stepOver_0 rfl ?_
  refine cb_gr hok dX0_stepOver_1 fl_RX0_9 skC_b5 skC_c5 rfl ?_
  refine cb_aload_n hok dX0_stepOver_4 rfl ?_
  refine cb_gi hok dX0_stepOver_5 fl_RX0_19 skC_b5 skC_c5 rfl ?_
  refine cb_cvr (as := [.inl (g 5 2)]) (rest := []) hok lk_RX0_26 (by decide) (by decide) dX0_stepOver_8 (fun q1 hq1 => C_X1_joinedAround hJ _ _ q1 hq1) rfl rfl (Nat.le_of_ble_eq_true rfl) skC_b2 skC_c2 rfl (fun r1 => ?_)
  refine cb_istore_n (ls' := [some (.inr 5), some (.inl x1), some (.inl r1), none]) hok dX0_stepOver_11 (by decide) rfl ?_
  refine cb_iload_n hok dX0_stepOver_12 rfl ?_
  refine cb_iconst hok dX0_stepOver_13 ?_
  refine cb_iceq (tgt := 25) hok rfl (by decide) dX0_stepOver_14 (by decide) (fun _ => ?_) (fun _ => ?_)
  · refine cb_iload_n hok dX0_stepOver_25 rfl ?_
    refine cb_ifeq (tgt := 43) hok rfl dX0_stepOver_26 (by decide) (fun _ => ?_) (fun _ => ?_)
    · refine cb_aload_n hok dX0_stepOver_43 rfl ?_
      refine cb_gr hok dX0_stepOver_44 fl_RX0_15 skC_b5 skC_c5 rfl ?_
      refine cb_aload_n hok dX0_stepOver_47 rfl ?_
      refine cb_cvr (as := []) (rest := [.inr 4]) hok lk_RX0_98 (by decide) (by decide) dX0_stepOver_48 (fun q1 hq1 => C_X0_x hJ _ q1 hq1) rfl rfl (Nat.le_of_ble_eq_true rfl) skC_b5 skC_c5 rfl (fun r2 => ?_)
      refine cb_cvr (as := [.inl r2]) (rest := []) hok lk_RX0_104 (by decide) (by decide) dX0_stepOver_51 (fun q1 hq1 => C_X6_clusterWithRight hJ _ _ q1 hq1) rfl rfl (Nat.le_of_ble_eq_true rfl) skC_b4 skC_c4 rfl (fun r3 => ?_)
      refine cb_fewer (ls' := [some (.inr 5), some (.inl x1), none, none]) ⟨rfl, ⟨rfl, trivial⟩⟩ ?_
      exact J_X0_stepOver_b54 hJ hok  _ _ _
    · refine cb_aload_n hok dX0_stepOver_29 rfl ?_
      refine cb_gr hok dX0_stepOver_30 fl_RX0_15 skC_b5 skC_c5 rfl ?_
      refine cb_aload_n hok dX0_stepOver_33 rfl ?_
      refine cb_cvr (as := []) (rest := [.inr 4]) hok lk_RX0_98 (by decide) (by decide) dX0_stepOver_34 (fun q1 hq1 => C_X0_x hJ _ q1 hq1) rfl rfl (Nat.le_of_ble_eq_true rfl) skC_b5 skC_c5 rfl (fun r4 => ?_)
      refine cb_cvr (as := [.inl r4]) (rest := []) hok lk_RX0_101 (by decide) (by decide) dX0_stepOver_37 (fun q1 hq1 => C_X6_clusterWithLeft hJ _ _ q1 hq1) rfl rfl (Nat.le_of_ble_eq_true rfl) skC_b4 skC_c4 rfl (fun r5 => ?_)
      refine cb_goto (tgt := 54) hok dX0_stepOver_40 (by decide) ?_
      refine cb_fewer (ls' := [some (.inr 5), some (.inl x1), none, none]) ⟨rfl, ⟨rfl, trivial⟩⟩ ?_
      exact J_X0_stepOver_b54 hJ hok  _ _ _
  · refine cb_aload_n hok dX0_stepOver_17 rfl ?_
    refine cb_iload_n hok dX0_stepOver_18 rfl ?_
    refine cb_iload_n hok dX0_stepOver_19 rfl ?_
    refine cb_cvv (as := [.inl r1, .inl x1]) (rest := []) hok lk_RX0_94 (by decide) (by decide) dX0_stepOver_20 (fun q1 hq1 => C_X0_toSideOf hJ _ _ _ q1 hq1) rfl rfl (Nat.le_of_ble_eq_true rfl) skC_b5 skC_c5 rfl (fun r6 g6 => ?_)
    refine cb_iconst hok dX0_stepOver_23 ?_
    exact cb_zret hok dX0_stepOver_24 (by decide)
/-! CaretBench$Line length()I -/
def v_X3_length (g : cb_S) : Option Int := some (g 1 1)
set_option maxRecDepth 100000 in
theorem C_X3_length {O : cb_O} (hJ : cb_J O skC) (g : cb_S) : ∀ q, v_X3_length g = some q → cb_m O skC false yX3_length cX3_length 1 (some .int) rm_X3_length [.inr 1] g (q, g) := by
  intro q hq
  refine cr_of_body hJ (by decide) (Nat.le_of_ble_eq_true rfl) hq (fun M hok => ?_)
  show cb_jr _ _ _ _ _ _ [some (.inr 1)] _ _ (some (g 1 1))
  refine cr_aload_n hok dX3_length_0 rfl ?_
  refine cr_gi hok dX3_length_1 fl_RX3_15 skC_b1 skC_c1 rfl ?_
  exact cr_iret hok dX3_length_4
/-! CaretBench$Line has(I)Z -/
def v_X3_has (g : cb_S) (x1 : Int) : Option Int := if cb_w x1 < 0 then (some 0) else (if cb_w (g 1 1) ≤ cb_w x1 then (some 0) else (some 1))
set_option maxRecDepth 100000 in
theorem C_X3_has {O : cb_O} (hJ : cb_J O skC) (x1 : Int) (g : cb_S) : ∀ q, v_X3_has g x1 = some q → cb_m O skC false yX3_has cX3_has 2 (some .boolean) rm_X3_has [.inr 1, .inl x1] g (q, g) := by
  intro q hq
  refine cr_of_body hJ (by decide) (Nat.le_of_ble_eq_true rfl) hq (fun M hok => ?_)
  show cb_jr _ _ _ _ _ _ [some (.inr 1), some (.inl x1)] _ _ (if cb_w x1 < 0 then (some 0) else (if cb_w (g 1 1) ≤ cb_w x1 then (some 0) else (some 1)))
  refine cr_iload_n hok dX3_has_0 rfl ?_
  refine cr_iflt (tgt := 16) hok rfl dX3_has_1 (by decide) (fun _ => ?_) (fun _ => ?_)
  · refine cr_iconst hok dX3_has_16 ?_
    exact cr_zret hok dX3_has_17 (by decide)
  · refine cr_iload_n hok dX3_has_4 rfl ?_
    refine cr_aload_n hok dX3_has_5 rfl ?_
    refine cr_gi hok dX3_has_6 fl_RX3_15 skC_b1 skC_c1 rfl ?_
    refine cr_icge (tgt := 16) hok rfl rfl dX3_has_9 (by decide) (fun _ => ?_) (fun _ => ?_)
    · refine cr_iconst hok dX3_has_16 ?_
      exact cr_zret hok dX3_has_17 (by decide)
    · refine cr_iconst hok dX3_has_12 ?_
      refine cr_goto (tgt := 17) hok dX3_has_13 (by decide) ?_
      exact cr_zret hok dX3_has_17 (by decide)
/-! CaretBench$Line at(I)I -/
def v_X3_at (g : cb_S) (x1 : Int) : Option Int := (v_X3_has g x1).bind (fun r1 => if cb_w r1 = 0 then (some (-1)) else (if 0 ≤ cb_w x1 ∧ cb_w x1 < (60 : Nat) then (some (g 8 ((cb_w x1).toNat))) else none))
set_option maxRecDepth 100000 in
theorem C_X3_at {O : cb_O} (hJ : cb_J O skC) (x1 : Int) (g : cb_S) : ∀ q, v_X3_at g x1 = some q → cb_m O skC false yX3_at cX3_at 2 (some .int) rm_X3_at [.inr 1, .inl x1] g (q, g) := by
  intro q hq
  refine cr_of_body hJ (by decide) (Nat.le_of_ble_eq_true rfl) hq (fun M hok => ?_)
  show cb_jr _ _ _ _ _ _ [some (.inr 1), some (.inl x1)] _ _ ((v_X3_has g x1).bind (fun r1 => if cb_w r1 = 0 then (some (-1)) else (if 0 ≤ cb_w x1 ∧ cb_w x1 < (60 : Nat) then (some (g 8 ((cb_w x1).toNat))) else none)))
  refine cr_aload_n hok dX3_at_0 rfl ?_
  refine cr_iload_n hok dX3_at_1 rfl ?_
  refine cr_cvr (as := [.inl x1]) (rest := []) hok lk_RX3_22 (by decide) (by decide) dX3_at_2 (fun q1 hq1 => C_X3_has hJ _ _ q1 hq1) rfl rfl (Nat.le_of_ble_eq_true rfl) skC_b1 skC_c1 rfl (fun r1 => ?_)
  refine cr_ifeq (tgt := 17) hok rfl dX3_at_5 (by decide) (fun _ => ?_) (fun _ => ?_)
  · refine cr_iconst hok dX3_at_17 ?_
    exact cr_iret hok dX3_at_18
  · refine cr_aload_n hok dX3_at_8 rfl ?_
    refine cr_gr hok dX3_at_9 fl_RX3_9 skC_b1 skC_c1 rfl ?_
    refine cr_iload_n hok dX3_at_12 rfl ?_
    refine cr_iald hok dX3_at_13 skC_b8 skC_c8 ?_
    refine cr_goto (tgt := 18) hok dX3_at_14 (by decide) ?_
    exact cr_iret hok dX3_at_18
/-! CaretBench$Signs kindOf(I)I -/
def v_X7_kindOf_b42 (x0 : Int) (g : cb_S) : Option Int := if cb_w x0 = 32 then (some 4) else (if cb_w x0 = 33 then (some 4) else (if cb_w x0 = 39 then (some 5) else (if cb_w x0 = 40 then (some 4) else (if cb_w x0 = 41 then (some 4) else (if cb_w x0 = 43 then (some 3) else (if cb_w x0 = 44 then (some 3) else (if cb_w x0 = 45 then (some 3) else (if cb_w x0 = 46 then (some 3) else (if cb_w x0 = 60 then (some 4) else (if cb_w x0 = 62 then (some 4) else (if cb_w x0 = 91 then (some 4) else (if cb_w x0 = 93 then (some 4) else (if cb_w x0 = 94 then (some 4) else (if cb_w x0 = 123 then (some 4) else (if cb_w x0 = 126 then (some 5) else (some (-1)))))))))))))))))
set_option maxRecDepth 100000 in
theorem J_X7_kindOf_b42 {O : cb_O} {M : cb_M} (hJ : cb_J O skC) (hok : cb_ok O skC M cX7_kindOf 1 RX7 (some .int)) : ∀ (x0 : Int) (g : cb_S), cb_jr O skC rm_X7_kindOf M 1 42 [some (.inl x0)] [] g (v_X7_kindOf_b42 x0 g) := by
  intro x0 g
  show cb_jr _ _ _ _ _ _ _ _ _ (if cb_w x0 = 32 then (some 4) else (if cb_w x0 = 33 then (some 4) else (if cb_w x0 = 39 then (some 5) else (if cb_w x0 = 40 then (some 4) else (if cb_w x0 = 41 then (some 4) else (if cb_w x0 = 43 then (some 3) else (if cb_w x0 = 44 then (some 3) else (if cb_w x0 = 45 then (some 3) else (if cb_w x0 = 46 then (some 3) else (if cb_w x0 = 60 then (some 4) else (if cb_w x0 = 62 then (some 4) else (if cb_w x0 = 91 then (some 4) else (if cb_w x0 = 93 then (some 4) else (if cb_w x0 = 94 then (some 4) else (if cb_w x0 = 123 then (some 4) else (if cb_w x0 = 126 then (some 5) else (some (-1))))))))))))))))))
  refine cr_iload_n hok dX7_kindOf_42 rfl ?_
  refine cr_ite (fun hs1 => ?_) (fun hs1 => ?_)
  · refine cr_lookup (tgt := 184) (off := 141) hok dX7_kindOf_43 (by decide) (by rw [hs1]; decide) (by decide) ?_
    refine cr_iconst hok dX7_kindOf_184 ?_
    exact cr_iret hok dX7_kindOf_185
  refine cr_ite (fun hs2 => ?_) (fun hs2 => ?_)
  · refine cr_lookup (tgt := 184) (off := 141) hok dX7_kindOf_43 (by decide) (by rw [hs2]; decide) (by decide) ?_
    refine cr_iconst hok dX7_kindOf_184 ?_
    exact cr_iret hok dX7_kindOf_185
  refine cr_ite (fun hs3 => ?_) (fun hs3 => ?_)
  · refine cr_lookup (tgt := 182) (off := 139) hok dX7_kindOf_43 (by decide) (by rw [hs3]; decide) (by decide) ?_
    refine cr_iconst hok dX7_kindOf_182 ?_
    exact cr_iret hok dX7_kindOf_183
  refine cr_ite (fun hs4 => ?_) (fun hs4 => ?_)
  · refine cr_lookup (tgt := 184) (off := 141) hok dX7_kindOf_43 (by decide) (by rw [hs4]; decide) (by decide) ?_
    refine cr_iconst hok dX7_kindOf_184 ?_
    exact cr_iret hok dX7_kindOf_185
  refine cr_ite (fun hs5 => ?_) (fun hs5 => ?_)
  · refine cr_lookup (tgt := 184) (off := 141) hok dX7_kindOf_43 (by decide) (by rw [hs5]; decide) (by decide) ?_
    refine cr_iconst hok dX7_kindOf_184 ?_
    exact cr_iret hok dX7_kindOf_185
  refine cr_ite (fun hs6 => ?_) (fun hs6 => ?_)
  · refine cr_lookup (tgt := 180) (off := 137) hok dX7_kindOf_43 (by decide) (by rw [hs6]; decide) (by decide) ?_
    refine cr_iconst hok dX7_kindOf_180 ?_
    exact cr_iret hok dX7_kindOf_181
  refine cr_ite (fun hs7 => ?_) (fun hs7 => ?_)
  · refine cr_lookup (tgt := 180) (off := 137) hok dX7_kindOf_43 (by decide) (by rw [hs7]; decide) (by decide) ?_
    refine cr_iconst hok dX7_kindOf_180 ?_
    exact cr_iret hok dX7_kindOf_181
  refine cr_ite (fun hs8 => ?_) (fun hs8 => ?_)
  · refine cr_lookup (tgt := 180) (off := 137) hok dX7_kindOf_43 (by decide) (by rw [hs8]; decide) (by decide) ?_
    refine cr_iconst hok dX7_kindOf_180 ?_
    exact cr_iret hok dX7_kindOf_181
  refine cr_ite (fun hs9 => ?_) (fun hs9 => ?_)
  · refine cr_lookup (tgt := 180) (off := 137) hok dX7_kindOf_43 (by decide) (by rw [hs9]; decide) (by decide) ?_
    refine cr_iconst hok dX7_kindOf_180 ?_
    exact cr_iret hok dX7_kindOf_181
  refine cr_ite (fun hs10 => ?_) (fun hs10 => ?_)
  · refine cr_lookup (tgt := 184) (off := 141) hok dX7_kindOf_43 (by decide) (by rw [hs10]; decide) (by decide) ?_
    refine cr_iconst hok dX7_kindOf_184 ?_
    exact cr_iret hok dX7_kindOf_185
  refine cr_ite (fun hs11 => ?_) (fun hs11 => ?_)
  · refine cr_lookup (tgt := 184) (off := 141) hok dX7_kindOf_43 (by decide) (by rw [hs11]; decide) (by decide) ?_
    refine cr_iconst hok dX7_kindOf_184 ?_
    exact cr_iret hok dX7_kindOf_185
  refine cr_ite (fun hs12 => ?_) (fun hs12 => ?_)
  · refine cr_lookup (tgt := 184) (off := 141) hok dX7_kindOf_43 (by decide) (by rw [hs12]; decide) (by decide) ?_
    refine cr_iconst hok dX7_kindOf_184 ?_
    exact cr_iret hok dX7_kindOf_185
  refine cr_ite (fun hs13 => ?_) (fun hs13 => ?_)
  · refine cr_lookup (tgt := 184) (off := 141) hok dX7_kindOf_43 (by decide) (by rw [hs13]; decide) (by decide) ?_
    refine cr_iconst hok dX7_kindOf_184 ?_
    exact cr_iret hok dX7_kindOf_185
  refine cr_ite (fun hs14 => ?_) (fun hs14 => ?_)
  · refine cr_lookup (tgt := 184) (off := 141) hok dX7_kindOf_43 (by decide) (by rw [hs14]; decide) (by decide) ?_
    refine cr_iconst hok dX7_kindOf_184 ?_
    exact cr_iret hok dX7_kindOf_185
  refine cr_ite (fun hs15 => ?_) (fun hs15 => ?_)
  · refine cr_lookup (tgt := 184) (off := 141) hok dX7_kindOf_43 (by decide) (by rw [hs15]; decide) (by decide) ?_
    refine cr_iconst hok dX7_kindOf_184 ?_
    exact cr_iret hok dX7_kindOf_185
  refine cr_ite (fun hs16 => ?_) (fun hs16 => ?_)
  · refine cr_lookup (tgt := 182) (off := 139) hok dX7_kindOf_43 (by decide) (by rw [hs16]; decide) (by decide) ?_
    refine cr_iconst hok dX7_kindOf_182 ?_
    exact cr_iret hok dX7_kindOf_183
  refine cr_lookup (tgt := 186) (off := 143) hok dX7_kindOf_43 (by decide) (by simp [Op.lookupswitch.offset, hs1, Ne.symm hs1, hs2, Ne.symm hs2, hs3, Ne.symm hs3, hs4, Ne.symm hs4, hs5, Ne.symm hs5, hs6, Ne.symm hs6, hs7, Ne.symm hs7, hs8, Ne.symm hs8, hs9, Ne.symm hs9, hs10, Ne.symm hs10, hs11, Ne.symm hs11, hs12, Ne.symm hs12, hs13, Ne.symm hs13, hs14, Ne.symm hs14, hs15, Ne.symm hs15, hs16, Ne.symm hs16]) (by decide) ?_
  refine cr_iconst hok dX7_kindOf_186 ?_
  exact cr_iret hok dX7_kindOf_187
def v_X7_kindOf_b28 (x0 : Int) (g : cb_S) : Option Int := if cb_w x0 < 48 then (v_X7_kindOf_b42  x0 g) else (if 57 < cb_w x0 then (v_X7_kindOf_b42  x0 g) else (some 2))
set_option maxRecDepth 100000 in
theorem J_X7_kindOf_b28 {O : cb_O} {M : cb_M} (hJ : cb_J O skC) (hok : cb_ok O skC M cX7_kindOf 1 RX7 (some .int)) : ∀ (x0 : Int) (g : cb_S), cb_jr O skC rm_X7_kindOf M 1 28 [some (.inl x0)] [] g (v_X7_kindOf_b28 x0 g) := by
  intro x0 g
  show cb_jr _ _ _ _ _ _ _ _ _ (if cb_w x0 < 48 then (v_X7_kindOf_b42  x0 g) else (if 57 < cb_w x0 then (v_X7_kindOf_b42  x0 g) else (some 2)))
  refine cr_iload_n hok dX7_kindOf_28 rfl ?_
  refine cr_bipush hok dX7_kindOf_29 (by decide) ?_
  refine cr_iclt (tgt := 42) hok rfl (by decide) dX7_kindOf_31 (by decide) (fun _ => ?_) (fun _ => ?_)
  · refine cr_fewer (ls' := [some (.inl x0)]) ⟨rfl, trivial⟩ ?_
    exact J_X7_kindOf_b42 hJ hok  _ _
  · refine cr_iload_n hok dX7_kindOf_34 rfl ?_
    refine cr_bipush hok dX7_kindOf_35 (by decide) ?_
    refine cr_icgt (tgt := 42) hok rfl (by decide) dX7_kindOf_37 (by decide) (fun _ => ?_) (fun _ => ?_)
    · refine cr_fewer (ls' := [some (.inl x0)]) ⟨rfl, trivial⟩ ?_
      exact J_X7_kindOf_b42 hJ hok  _ _
    · refine cr_iconst hok dX7_kindOf_40 ?_
      exact cr_iret hok dX7_kindOf_41
def v_X7_kindOf_b14 (x0 : Int) (g : cb_S) : Option Int := if cb_w x0 < 65 then (v_X7_kindOf_b28  x0 g) else (if 90 < cb_w x0 then (v_X7_kindOf_b28  x0 g) else (some 1))
set_option maxRecDepth 100000 in
theorem J_X7_kindOf_b14 {O : cb_O} {M : cb_M} (hJ : cb_J O skC) (hok : cb_ok O skC M cX7_kindOf 1 RX7 (some .int)) : ∀ (x0 : Int) (g : cb_S), cb_jr O skC rm_X7_kindOf M 1 14 [some (.inl x0)] [] g (v_X7_kindOf_b14 x0 g) := by
  intro x0 g
  show cb_jr _ _ _ _ _ _ _ _ _ (if cb_w x0 < 65 then (v_X7_kindOf_b28  x0 g) else (if 90 < cb_w x0 then (v_X7_kindOf_b28  x0 g) else (some 1)))
  refine cr_iload_n hok dX7_kindOf_14 rfl ?_
  refine cr_bipush hok dX7_kindOf_15 (by decide) ?_
  refine cr_iclt (tgt := 28) hok rfl (by decide) dX7_kindOf_17 (by decide) (fun _ => ?_) (fun _ => ?_)
  · refine cr_fewer (ls' := [some (.inl x0)]) ⟨rfl, trivial⟩ ?_
    exact J_X7_kindOf_b28 hJ hok  _ _
  · refine cr_iload_n hok dX7_kindOf_20 rfl ?_
    refine cr_bipush hok dX7_kindOf_21 (by decide) ?_
    refine cr_icgt (tgt := 28) hok rfl (by decide) dX7_kindOf_23 (by decide) (fun _ => ?_) (fun _ => ?_)
    · refine cr_fewer (ls' := [some (.inl x0)]) ⟨rfl, trivial⟩ ?_
      exact J_X7_kindOf_b28 hJ hok  _ _
    · refine cr_iconst hok dX7_kindOf_26 ?_
      exact cr_iret hok dX7_kindOf_27
def v_X7_kindOf (g : cb_S) (x0 : Int) : Option Int := if cb_w x0 < 97 then (v_X7_kindOf_b14  x0 g) else (if 122 < cb_w x0 then (v_X7_kindOf_b14  x0 g) else (some 0))
set_option maxRecDepth 100000 in
theorem C_X7_kindOf {O : cb_O} (hJ : cb_J O skC) (x0 : Int) (g : cb_S) : ∀ q, v_X7_kindOf g x0 = some q → cb_m O skC false yX7_kindOf cX7_kindOf 1 (some .int) rm_X7_kindOf [.inl x0] g (q, g) := by
  intro q hq
  refine cr_of_body hJ (by decide) (Nat.le_of_ble_eq_true rfl) hq (fun M hok => ?_)
  show cb_jr _ _ _ _ _ _ [some (.inl x0)] _ _ (if cb_w x0 < 97 then (v_X7_kindOf_b14  x0 g) else (if 122 < cb_w x0 then (v_X7_kindOf_b14  x0 g) else (some 0)))
  refine cr_iload_n hok dX7_kindOf_0 rfl ?_
  refine cr_bipush hok dX7_kindOf_1 (by decide) ?_
  refine cr_iclt (tgt := 14) hok rfl (by decide) dX7_kindOf_3 (by decide) (fun _ => ?_) (fun _ => ?_)
  · refine cr_fewer (ls' := [some (.inl x0)]) ⟨rfl, trivial⟩ ?_
    exact J_X7_kindOf_b14 hJ hok  _ _
  · refine cr_iload_n hok dX7_kindOf_6 rfl ?_
    refine cr_bipush hok dX7_kindOf_7 (by decide) ?_
    refine cr_icgt (tgt := 14) hok rfl (by decide) dX7_kindOf_9 (by decide) (fun _ => ?_) (fun _ => ?_)
    · refine cr_fewer (ls' := [some (.inl x0)]) ⟨rfl, trivial⟩ ?_
      exact J_X7_kindOf_b14 hJ hok  _ _
    · refine cr_iconst hok dX7_kindOf_12 ?_
      exact cr_iret hok dX7_kindOf_13
/-! CaretBench$Signs isStrong(I)Z -/
def v_X7_isStrong (g : cb_S) (x0 : Int) : Option Int := if cb_w x0 = 0 then (some 1) else (if cb_w x0 = 1 then (some 1) else (some 0))
set_option maxRecDepth 100000 in
theorem C_X7_isStrong {O : cb_O} (hJ : cb_J O skC) (x0 : Int) (g : cb_S) : ∀ q, v_X7_isStrong g x0 = some q → cb_m O skC false yX7_isStrong cX7_isStrong 1 (some .boolean) rm_X7_isStrong [.inl x0] g (q, g) := by
  intro q hq
  refine cr_of_body hJ (by decide) (Nat.le_of_ble_eq_true rfl) hq (fun M hok => ?_)
  show cb_jr _ _ _ _ _ _ [some (.inl x0)] _ _ (if cb_w x0 = 0 then (some 1) else (if cb_w x0 = 1 then (some 1) else (some 0)))
  refine cr_iload_n hok dX7_isStrong_0 rfl ?_
  refine cr_ifeq (tgt := 9) hok rfl dX7_isStrong_1 (by decide) (fun _ => ?_) (fun _ => ?_)
  · refine cr_iconst hok dX7_isStrong_9 ?_
    refine cr_goto (tgt := 14) hok dX7_isStrong_10 (by decide) ?_
    exact cr_zret hok dX7_isStrong_14 (by decide)
  · refine cr_iload_n hok dX7_isStrong_4 rfl ?_
    refine cr_iconst hok dX7_isStrong_5 ?_
    refine cr_icne (tgt := 13) hok rfl (by decide) dX7_isStrong_6 (by decide) (fun _ => ?_) (fun _ => ?_)
    · refine cr_iconst hok dX7_isStrong_13 ?_
      exact cr_zret hok dX7_isStrong_14 (by decide)
    · refine cr_iconst hok dX7_isStrong_9 ?_
      refine cr_goto (tgt := 14) hok dX7_isStrong_10 (by decide) ?_
      exact cr_zret hok dX7_isStrong_14 (by decide)
/-! CaretBench$Signs isLetter(I)Z -/
def v_X7_isLetter (g : cb_S) (x0 : Int) : Option Int := (v_X7_kindOf g x0).bind (fun r1 => (v_X7_isStrong g r1).bind (fun r2 => if r2 = 0 ∨ r2 = 1 then some r2 else none))
set_option maxRecDepth 100000 in
theorem C_X7_isLetter {O : cb_O} (hJ : cb_J O skC) (x0 : Int) (g : cb_S) : ∀ q, v_X7_isLetter g x0 = some q → cb_m O skC false yX7_isLetter cX7_isLetter 1 (some .boolean) rm_X7_isLetter [.inl x0] g (q, g) := by
  intro q hq
  refine cr_of_body hJ (by decide) (Nat.le_of_ble_eq_true rfl) hq (fun M hok => ?_)
  show cb_jr _ _ _ _ _ _ [some (.inl x0)] _ _ ((v_X7_kindOf g x0).bind (fun r1 => (v_X7_isStrong g r1).bind (fun r2 => if r2 = 0 ∨ r2 = 1 then some r2 else none)))
  refine cr_iload_n hok dX7_isLetter_0 rfl ?_
  refine cr_csr (as := [.inl x0]) (rest := []) hok lk_RX7_9 (by decide) (by decide) dX7_isLetter_1 (fun q1 hq1 => C_X7_kindOf hJ _ _ q1 hq1) rfl rfl (Nat.le_of_ble_eq_true rfl) (fun r1 => ?_)
  refine cr_csr (as := [.inl r1]) (rest := []) hok lk_RX7_15 (by decide) (by decide) dX7_isLetter_4 (fun q1 hq1 => C_X7_isStrong hJ _ _ q1 hq1) rfl rfl (Nat.le_of_ble_eq_true rfl) (fun r2 => ?_)
  exact cr_zretq hok dX7_isLetter_7
/-! CaretBench$Clusters findJoins(LCaretBench$Line;)V -/
def f_X1_findJoins_b76 (kk2 : Int → cb_S → Option (Int × cb_S)) (x2 s0 s1 : Int) (g : cb_S) : Option (Int × cb_S) := if (0 ≤ cb_w s1 ∧ cb_w s1 < (60 : Nat)) ∧ ((s0 : Int) = 0 ∨ (s0 : Int) = 1) then (kk2 (x2 + 1) (cb_u g 9 (cb_w s1).toNat s0)) else none
set_option maxRecDepth 100000 in
theorem J_X1_findJoins_b76 {O : cb_O} {M : cb_M} (hJ : cb_J O skC) (hok : cb_ok O skC M cX1_findJoins 3 RX1 none) {kk2 : Int → cb_S → Option (Int × cb_S)} (hk2 : ∀ (x2 : Int) (g : cb_S), cb_j O skC true rm_X1_findJoins M 3 2 [some (.inr 2), some (.inr 1), some (.inl x2)] [] g (kk2 x2 g)) : ∀ (x2 s0 s1 : Int) (g : cb_S), cb_j O skC true rm_X1_findJoins M 3 76 [some (.inr 2), some (.inr 1), some (.inl x2)] [.inl s0, .inl s1, .inr 9] g (f_X1_findJoins_b76 kk2 x2 s0 s1 g) := by
  intro x2 s0 s1 g
  show cb_j _ _ _ _ _ _ _ _ _ _ (if (0 ≤ cb_w s1 ∧ cb_w s1 < (60 : Nat)) ∧ ((s0 : Int) = 0 ∨ (s0 : Int) = 1) then (kk2 (x2 + 1) (cb_u g 9 (cb_w s1).toNat s0)) else none)
  refine cb_zast hok dX1_findJoins_76 skC_b9 skC_c9 ?_
  refine cb_iinc (ls' := [some (.inr 2), some (.inr 1), some (.inl (x2 + 1))]) hok dX1_findJoins_77 rfl (by decide) rfl ?_
  refine cb_goto (tgt := 2) hok dX1_findJoins_80 (by decide) ?_
  refine cb_fewer (ls' := [some (.inr 2), some (.inr 1), some (.inl (x2 + 1))]) ⟨rfl, ⟨rfl, ⟨rfl, trivial⟩⟩⟩ ?_
  exact hk2 _ _
def f_X1_findJoins_b75 (kk2 : Int → cb_S → Option (Int × cb_S)) (x2 s0 : Int) (g : cb_S) : Option (Int × cb_S) := f_X1_findJoins_b76 kk2 x2 0 s0 g
set_option maxRecDepth 100000 in
theorem J_X1_findJoins_b75 {O : cb_O} {M : cb_M} (hJ : cb_J O skC) (hok : cb_ok O skC M cX1_findJoins 3 RX1 none) {kk2 : Int → cb_S → Option (Int × cb_S)} (hk2 : ∀ (x2 : Int) (g : cb_S), cb_j O skC true rm_X1_findJoins M 3 2 [some (.inr 2), some (.inr 1), some (.inl x2)] [] g (kk2 x2 g)) : ∀ (x2 s0 : Int) (g : cb_S), cb_j O skC true rm_X1_findJoins M 3 75 [some (.inr 2), some (.inr 1), some (.inl x2)] [.inl s0, .inr 9] g (f_X1_findJoins_b75 kk2 x2 s0 g) := by
  intro x2 s0 g
  show cb_j _ _ _ _ _ _ _ _ _ _ (f_X1_findJoins_b76 kk2 x2 0 s0 g)
  refine cb_iconst hok dX1_findJoins_75 ?_
  refine cb_fewer (ls' := [some (.inr 2), some (.inr 1), some (.inl x2)]) ⟨rfl, ⟨rfl, ⟨rfl, trivial⟩⟩⟩ ?_
  exact J_X1_findJoins_b76 hJ hok hk2 _ _ _ _
def f_X1_findJoins_b88 : Nat → Int → cb_S → Option (Int × cb_S)
  | 0 => fun _ _ => none
  | n + 1 => fun x2 g => if 60 ≤ cb_w x2 then (some (0, g)) else (if (0 ≤ cb_w x2 ∧ cb_w x2 < (60 : Nat)) ∧ ((0 : Int) = 0 ∨ (0 : Int) = 1) then ((f_X1_findJoins_b88 n) (x2 + 1) (cb_u g 9 (cb_w x2).toNat 0)) else none)
set_option maxRecDepth 100000 in
theorem J_X1_findJoins_b88 {O : cb_O} {M : cb_M} (hJ : cb_J O skC) (hok : cb_ok O skC M cX1_findJoins 3 RX1 none) : ∀ (n : Nat) (x2 : Int) (g : cb_S), cb_j O skC true rm_X1_findJoins M 3 88 [some (.inr 2), none, some (.inl x2)] [] g (f_X1_findJoins_b88 n x2 g) := by
  intro n
  induction n with
  | zero => intros; exact cb_none
  | succ n hk88 =>
    intro x2 g
    show cb_j _ _ _ _ _ _ _ _ _ _ (if 60 ≤ cb_w x2 then (some (0, g)) else (if (0 ≤ cb_w x2 ∧ cb_w x2 < (60 : Nat)) ∧ ((0 : Int) = 0 ∨ (0 : Int) = 1) then ((f_X1_findJoins_b88 n) (x2 + 1) (cb_u g 9 (cb_w x2).toNat 0)) else none))
    refine cb_iload_n hok dX1_findJoins_88 rfl ?_
    refine cb_bipush hok dX1_findJoins_89 (by decide) ?_
    refine cb_icge (tgt := 107) hok rfl (by decide) dX1_findJoins_91 (by decide) (fun _ => ?_) (fun _ => ?_)
    · exact cb_vret hok dX1_findJoins_107
    · refine cb_aload_n hok dX1_findJoins_94 rfl ?_
      refine cb_gr hok dX1_findJoins_95 fl_RX1_9 skC_b2 skC_c2 rfl ?_
      refine cb_iload_n hok dX1_findJoins_98 rfl ?_
      refine cb_iconst hok dX1_findJoins_99 ?_
      refine cb_zast hok dX1_findJoins_100 skC_b9 skC_c9 ?_
      refine cb_iinc (ls' := [some (.inr 2), none, some (.inl (x2 + 1))]) hok dX1_findJoins_101 rfl (by decide) rfl ?_
      refine cb_goto (tgt := 88) hok dX1_findJoins_104 (by decide) ?_
      refine cb_fewer (ls' := [some (.inr 2), none, some (.inl (x2 + 1))]) ⟨rfl, ⟨rfl, trivial⟩⟩ ?_
      exact hk88 _ _
def f_X1_findJoins_b2 : Nat → Int → cb_S → Option (Int × cb_S)
  | 0 => fun _ _ => none
  | n + 1 => fun x2 g => (v_X3_length g ).bind (fun r1 => if cb_w r1 ≤ cb_w x2 then ((v_X3_length g ).bind (fun r2 => f_X1_findJoins_b88  cb_N r2 g)) else ((v_X3_at g x2).bind (fun r3 => if cb_w r3 = 94 then ((v_X3_at g (x2 - 1)).bind (fun r4 => (v_X7_isLetter g r4).bind (fun r5 => if cb_w r5 = 0 then (f_X1_findJoins_b75 (f_X1_findJoins_b2 n) x2 x2 g) else ((v_X3_at g (x2 - 1)).bind (fun r6 => (v_X7_kindOf g r6).bind (fun r7 => (v_X3_at g (x2 + 1)).bind (fun r8 => (v_X7_kindOf g r8).bind (fun r9 => if cb_w r7 = cb_w r9 then ((v_X1_joinsAt g (x2 - 2)).bind (fun r10 => if cb_w r10 = 0 then (f_X1_findJoins_b76 (f_X1_findJoins_b2 n) x2 1 x2 g) else (f_X1_findJoins_b75 (f_X1_findJoins_b2 n) x2 x2 g))) else (f_X1_findJoins_b75 (f_X1_findJoins_b2 n) x2 x2 g))))))))) else (f_X1_findJoins_b75 (f_X1_findJoins_b2 n) x2 x2 g))))
set_option maxRecDepth 100000 in
theorem J_X1_findJoins_b2 {O : cb_O} {M : cb_M} (hJ : cb_J O skC) (hok : cb_ok O skC M cX1_findJoins 3 RX1 none) : ∀ (n : Nat) (x2 : Int) (g : cb_S), cb_j O skC true rm_X1_findJoins M 3 2 [some (.inr 2), some (.inr 1), some (.inl x2)] [] g (f_X1_findJoins_b2 n x2 g) := by
  intro n
  induction n with
  | zero => intros; exact cb_none
  | succ n hk2 =>
    intro x2 g
    show cb_j _ _ _ _ _ _ _ _ _ _ ((v_X3_length g ).bind (fun r1 => if cb_w r1 ≤ cb_w x2 then ((v_X3_length g ).bind (fun r2 => f_X1_findJoins_b88  cb_N r2 g)) else ((v_X3_at g x2).bind (fun r3 => if cb_w r3 = 94 then ((v_X3_at g (x2 - 1)).bind (fun r4 => (v_X7_isLetter g r4).bind (fun r5 => if cb_w r5 = 0 then (f_X1_findJoins_b75 (f_X1_findJoins_b2 n) x2 x2 g) else ((v_X3_at g (x2 - 1)).bind (fun r6 => (v_X7_kindOf g r6).bind (fun r7 => (v_X3_at g (x2 + 1)).bind (fun r8 => (v_X7_kindOf g r8).bind (fun r9 => if cb_w r7 = cb_w r9 then ((v_X1_joinsAt g (x2 - 2)).bind (fun r10 => if cb_w r10 = 0 then (f_X1_findJoins_b76 (f_X1_findJoins_b2 n) x2 1 x2 g) else (f_X1_findJoins_b75 (f_X1_findJoins_b2 n) x2 x2 g))) else (f_X1_findJoins_b75 (f_X1_findJoins_b2 n) x2 x2 g))))))))) else (f_X1_findJoins_b75 (f_X1_findJoins_b2 n) x2 x2 g)))))
    refine cb_iload_n hok dX1_findJoins_2 rfl ?_
    refine cb_aload_n hok dX1_findJoins_3 rfl ?_
    refine cb_cvr (as := []) (rest := [.inl x2]) hok lk_RX1_51 (by decide) (by decide) dX1_findJoins_4 (fun q1 hq1 => C_X3_length hJ _ q1 hq1) rfl rfl (Nat.le_of_ble_eq_true rfl) skC_b1 skC_c1 rfl (fun r1 => ?_)
    refine cb_icge (tgt := 83) hok rfl rfl dX1_findJoins_7 (by decide) (fun _ => ?_) (fun _ => ?_)
    · refine cb_aload_n hok dX1_findJoins_83 rfl ?_
      refine cb_cvr (as := []) (rest := []) hok lk_RX1_51 (by decide) (by decide) dX1_findJoins_84 (fun q1 hq1 => C_X3_length hJ _ q1 hq1) rfl rfl (Nat.le_of_ble_eq_true rfl) skC_b1 skC_c1 rfl (fun r2 => ?_)
      refine cb_istore_n (ls' := [some (.inr 2), some (.inr 1), some (.inl r2)]) hok dX1_findJoins_87 (by decide) rfl ?_
      refine cb_fewer (ls' := [some (.inr 2), none, some (.inl r2)]) ⟨rfl, ⟨rfl, trivial⟩⟩ ?_
      exact J_X1_findJoins_b88 hJ hok  cb_N _ _
    · refine cb_aload_n hok dX1_findJoins_10 rfl ?_
      refine cb_gr hok dX1_findJoins_11 fl_RX1_9 skC_b2 skC_c2 rfl ?_
      refine cb_iload_n hok dX1_findJoins_14 rfl ?_
      refine cb_aload_n hok dX1_findJoins_15 rfl ?_
      refine cb_iload_n hok dX1_findJoins_16 rfl ?_
      refine cb_cvr (as := [.inl x2]) (rest := [.inl x2, .inr 9]) hok lk_RX1_60 (by decide) (by decide) dX1_findJoins_17 (fun q1 hq1 => C_X3_at hJ _ _ q1 hq1) rfl rfl (Nat.le_of_ble_eq_true rfl) skC_b1 skC_c1 rfl (fun r3 => ?_)
      refine cb_bipush hok dX1_findJoins_20 (by decide) ?_
      refine cb_icne (tgt := 75) hok rfl (by decide) dX1_findJoins_22 (by decide) (fun _ => ?_) (fun _ => ?_)
      · refine cb_fewer (ls' := [some (.inr 2), some (.inr 1), some (.inl x2)]) ⟨rfl, ⟨rfl, ⟨rfl, trivial⟩⟩⟩ ?_
        exact J_X1_findJoins_b75 hJ hok hk2 _ _ _
      · refine cb_aload_n hok dX1_findJoins_25 rfl ?_
        refine cb_iload_n hok dX1_findJoins_26 rfl ?_
        refine cb_iconst hok dX1_findJoins_27 ?_
        refine cb_isub hok dX1_findJoins_28 ?_
        refine cb_cvr (as := [.inl (x2 - 1)]) (rest := [.inl x2, .inr 9]) hok lk_RX1_60 (by decide) (by decide) dX1_findJoins_29 (fun q1 hq1 => C_X3_at hJ _ _ q1 hq1) rfl rfl (Nat.le_of_ble_eq_true rfl) skC_b1 skC_c1 rfl (fun r4 => ?_)
        refine cb_csr (as := [.inl r4]) (rest := [.inl x2, .inr 9]) hok lk_RX1_78 (by decide) (by decide) dX1_findJoins_32 (fun q1 hq1 => C_X7_isLetter hJ _ _ q1 hq1) rfl rfl (Nat.le_of_ble_eq_true rfl) (fun r5 => ?_)
        refine cb_ifeq (tgt := 75) hok rfl dX1_findJoins_35 (by decide) (fun _ => ?_) (fun _ => ?_)
        · refine cb_fewer (ls' := [some (.inr 2), some (.inr 1), some (.inl x2)]) ⟨rfl, ⟨rfl, ⟨rfl, trivial⟩⟩⟩ ?_
          exact J_X1_findJoins_b75 hJ hok hk2 _ _ _
        · refine cb_aload_n hok dX1_findJoins_38 rfl ?_
          refine cb_iload_n hok dX1_findJoins_39 rfl ?_
          refine cb_iconst hok dX1_findJoins_40 ?_
          refine cb_isub hok dX1_findJoins_41 ?_
          refine cb_cvr (as := [.inl (x2 - 1)]) (rest := [.inl x2, .inr 9]) hok lk_RX1_60 (by decide) (by decide) dX1_findJoins_42 (fun q1 hq1 => C_X3_at hJ _ _ q1 hq1) rfl rfl (Nat.le_of_ble_eq_true rfl) skC_b1 skC_c1 rfl (fun r6 => ?_)
          refine cb_csr (as := [.inl r6]) (rest := [.inl x2, .inr 9]) hok lk_RX1_81 (by decide) (by decide) dX1_findJoins_45 (fun q1 hq1 => C_X7_kindOf hJ _ _ q1 hq1) rfl rfl (Nat.le_of_ble_eq_true rfl) (fun r7 => ?_)
          refine cb_aload_n hok dX1_findJoins_48 rfl ?_
          refine cb_iload_n hok dX1_findJoins_49 rfl ?_
          refine cb_iconst hok dX1_findJoins_50 ?_
          refine cb_iadd hok dX1_findJoins_51 ?_
          refine cb_cvr (as := [.inl (x2 + 1)]) (rest := [.inl r7, .inl x2, .inr 9]) hok lk_RX1_60 (by decide) (by decide) dX1_findJoins_52 (fun q1 hq1 => C_X3_at hJ _ _ q1 hq1) rfl rfl (Nat.le_of_ble_eq_true rfl) skC_b1 skC_c1 rfl (fun r8 => ?_)
          refine cb_csr (as := [.inl r8]) (rest := [.inl r7, .inl x2, .inr 9]) hok lk_RX1_81 (by decide) (by decide) dX1_findJoins_55 (fun q1 hq1 => C_X7_kindOf hJ _ _ q1 hq1) rfl rfl (Nat.le_of_ble_eq_true rfl) (fun r9 => ?_)
          refine cb_icne (tgt := 75) hok rfl rfl dX1_findJoins_58 (by decide) (fun _ => ?_) (fun _ => ?_)
          · refine cb_fewer (ls' := [some (.inr 2), some (.inr 1), some (.inl x2)]) ⟨rfl, ⟨rfl, ⟨rfl, trivial⟩⟩⟩ ?_
            exact J_X1_findJoins_b75 hJ hok hk2 _ _ _
          · refine cb_aload_n hok dX1_findJoins_61 rfl ?_
            refine cb_iload_n hok dX1_findJoins_62 rfl ?_
            refine cb_iconst hok dX1_findJoins_63 ?_
            refine cb_isub hok dX1_findJoins_64 ?_
            refine cb_cvr (as := [.inl (x2 - 2)]) (rest := [.inl x2, .inr 9]) hok lk_RX1_84 (by decide) (by decide) dX1_findJoins_65 (fun q1 hq1 => C_X1_joinsAt hJ _ _ q1 hq1) rfl rfl (Nat.le_of_ble_eq_true rfl) skC_b2 skC_c2 rfl (fun r10 => ?_)
            refine cb_ifne (tgt := 75) hok rfl dX1_findJoins_68 (by decide) (fun _ => ?_) (fun _ => ?_)
            · refine cb_fewer (ls' := [some (.inr 2), some (.inr 1), some (.inl x2)]) ⟨rfl, ⟨rfl, ⟨rfl, trivial⟩⟩⟩ ?_
              exact J_X1_findJoins_b75 hJ hok hk2 _ _ _
            · refine cb_iconst hok dX1_findJoins_71 ?_
              refine cb_goto (tgt := 76) hok dX1_findJoins_72 (by decide) ?_
              refine cb_fewer (ls' := [some (.inr 2), some (.inr 1), some (.inl x2)]) ⟨rfl, ⟨rfl, ⟨rfl, trivial⟩⟩⟩ ?_
              exact J_X1_findJoins_b76 hJ hok hk2 _ _ _ _
def f_X1_findJoins (g : cb_S) : Option (Int × cb_S) := f_X1_findJoins_b2  cb_N 0 g
set_option maxRecDepth 100000 in
theorem C_X1_findJoins {O : cb_O} (hJ : cb_J O skC) (g : cb_S) : ∀ q, f_X1_findJoins g = some q → cb_m O skC true yX1_findJoins cX1_findJoins 3 none rm_X1_findJoins [.inr 2, .inr 1] g q := by
  intro q hq
  refine cb_of_body hJ (by decide) (Nat.le_of_ble_eq_true rfl) hq (fun M hok => ?_)
  show cb_j _ _ _ _ _ _ _ [some (.inr 2), some (.inr 1), none] _ _ (f_X1_findJoins_b2  cb_N 0 g)
  refine cb_iconst hok dX1_findJoins_0 ?_
  refine cb_istore_n (ls' := [some (.inr 2), some (.inr 1), some (.inl 0)]) hok dX1_findJoins_1 (by decide) rfl ?_
  refine cb_fewer (ls' := [some (.inr 2), some (.inr 1), some (.inl 0)]) ⟨rfl, ⟨rfl, ⟨rfl, trivial⟩⟩⟩ ?_
  exact J_X1_findJoins_b2 hJ hok  cb_N _ _
/-! java/util/Arrays fill([II)V -/
def f_J7_fill_53178_b5 (a0 la0 : Nat) : Nat → Int → Int → Int → cb_S → Option (Int × cb_S)
  | 0 => fun _ _ _ _ => none
  | n + 1 => fun x1 x2 x3 g => if cb_w x3 ≤ cb_w x2 then (some (0, g)) else (if 0 ≤ cb_w x2 ∧ cb_w x2 < (la0 : Nat) then ((f_J7_fill_53178_b5 a0 la0 n) x1 (x2 + 1) x3 (cb_u g a0 (cb_w x2).toNat x1)) else none)
set_option maxRecDepth 100000 in
theorem J_J7_fill_53178_b5 {O : cb_O} {M : cb_M} (hJ : cb_J O skC) (hok : cb_ok O skC M cJ7_fill_53178 4 RJ7 none) (a0 la0 : Nat) (ha0 : a0 < skC.2) (hc0 : skC.1 a0 = .inl (0, la0)) : ∀ (n : Nat) (x1 x2 x3 : Int) (g : cb_S), cb_j O skC true rm_J7_fill_53178 M 4 5 [some (.inr a0), some (.inl x1), some (.inl x2), some (.inl x3)] [] g (f_J7_fill_53178_b5 a0 la0 n x1 x2 x3 g) := by
  intro n
  induction n with
  | zero => intros; exact cb_none
  | succ n hk5 =>
    intro x1 x2 x3 g
    show cb_j _ _ _ _ _ _ _ _ _ _ (if cb_w x3 ≤ cb_w x2 then (some (0, g)) else (if 0 ≤ cb_w x2 ∧ cb_w x2 < (la0 : Nat) then ((f_J7_fill_53178_b5 a0 la0 n) x1 (x2 + 1) x3 (cb_u g a0 (cb_w x2).toNat x1)) else none))
    refine cb_iload_n hok dJ7_fill_53178_5 rfl ?_
    refine cb_iload_n hok dJ7_fill_53178_6 rfl ?_
    refine cb_icge (tgt := 20) hok rfl rfl dJ7_fill_53178_7 (by decide) (fun _ => ?_) (fun _ => ?_)
    · exact cb_vret hok dJ7_fill_53178_20
    · refine cb_aload_n hok dJ7_fill_53178_10 rfl ?_
      refine cb_iload_n hok dJ7_fill_53178_11 rfl ?_
      refine cb_iload_n hok dJ7_fill_53178_12 rfl ?_
      refine cb_iast hok dJ7_fill_53178_13 ha0 hc0 ?_
      refine cb_iinc (ls' := [some (.inr a0), some (.inl x1), some (.inl (x2 + 1)), some (.inl x3)]) hok dJ7_fill_53178_14 rfl (by decide) rfl ?_
      refine cb_goto (tgt := 5) hok dJ7_fill_53178_17 (by decide) ?_
      refine cb_fewer (ls' := [some (.inr a0), some (.inl x1), some (.inl (x2 + 1)), some (.inl x3)]) ⟨rfl, ⟨rfl, ⟨rfl, ⟨rfl, trivial⟩⟩⟩⟩ ?_
      exact hk5 _ _ _ _
def f_J7_fill_53178 (g : cb_S) (a0 la0 : Nat) (x1 : Int) : Option (Int × cb_S) := f_J7_fill_53178_b5 a0 la0  cb_N x1 0 (la0 : Nat) g
set_option maxRecDepth 100000 in
theorem C_J7_fill_53178 {O : cb_O} (hJ : cb_J O skC) (a0 la0 : Nat) (ha0 : a0 < skC.2) (hc0 : skC.1 a0 = .inl (0, la0)) (x1 : Int) (g : cb_S) : ∀ q, f_J7_fill_53178 g a0 la0 x1 = some q → cb_m O skC true yJ7_fill_53178 cJ7_fill_53178 4 none rm_J7_fill_53178 [.inr a0, .inl x1] g q := by
  intro q hq
  refine cb_of_body hJ (by decide) (Nat.le_of_ble_eq_true rfl) hq (fun M hok => ?_)
  show cb_j _ _ _ _ _ _ _ [some (.inr a0), some (.inl x1), none, none] _ _ (f_J7_fill_53178_b5 a0 la0  cb_N x1 0 (la0 : Nat) g)
  refine cb_iconst hok dJ7_fill_53178_0 ?_
  refine cb_istore_n (ls' := [some (.inr a0), some (.inl x1), some (.inl 0), none]) hok dJ7_fill_53178_1 (by decide) rfl ?_
  refine cb_aload_n hok dJ7_fill_53178_2 rfl ?_
  refine cb_alen hok dJ7_fill_53178_3 ha0 hc0 (Or.inl rfl) ?_
  refine cb_istore_n (ls' := [some (.inr a0), some (.inl x1), some (.inl 0), some (.inl (la0 : Nat))]) hok dJ7_fill_53178_4 (by decide) rfl ?_
  refine cb_fewer (ls' := [some (.inr a0), some (.inl x1), some (.inl 0), some (.inl (la0 : Nat))]) ⟨rfl, ⟨rfl, ⟨rfl, ⟨rfl, trivial⟩⟩⟩⟩ ?_
  exact J_J7_fill_53178_b5 hJ hok a0 la0 ha0 hc0  cb_N _ _ _ _
/-! CaretBench$Signs isMark(I)Z -/
def v_X7_isMark (g : cb_S) (x0 : Int) : Option Int := (v_X7_kindOf g x0).bind (fun r1 => if cb_w r1 = 5 then (some 1) else (some 0))
set_option maxRecDepth 100000 in
theorem C_X7_isMark {O : cb_O} (hJ : cb_J O skC) (x0 : Int) (g : cb_S) : ∀ q, v_X7_isMark g x0 = some q → cb_m O skC false yX7_isMark cX7_isMark 1 (some .boolean) rm_X7_isMark [.inl x0] g (q, g) := by
  intro q hq
  refine cr_of_body hJ (by decide) (Nat.le_of_ble_eq_true rfl) hq (fun M hok => ?_)
  show cb_jr _ _ _ _ _ _ [some (.inl x0)] _ _ ((v_X7_kindOf g x0).bind (fun r1 => if cb_w r1 = 5 then (some 1) else (some 0)))
  refine cr_iload_n hok dX7_isMark_0 rfl ?_
  refine cr_csr (as := [.inl x0]) (rest := []) hok lk_RX7_9 (by decide) (by decide) dX7_isMark_1 (fun q1 hq1 => C_X7_kindOf hJ _ _ q1 hq1) rfl rfl (Nat.le_of_ble_eq_true rfl) (fun r1 => ?_)
  refine cr_iconst hok dX7_isMark_4 ?_
  refine cr_icne (tgt := 12) hok rfl (by decide) dX7_isMark_5 (by decide) (fun _ => ?_) (fun _ => ?_)
  · refine cr_iconst hok dX7_isMark_12 ?_
    exact cr_zret hok dX7_isMark_13 (by decide)
  · refine cr_iconst hok dX7_isMark_8 ?_
    refine cr_goto (tgt := 13) hok dX7_isMark_9 (by decide) ?_
    exact cr_zret hok dX7_isMark_13 (by decide)
/-! CaretBench$Clusters begins(LCaretBench$Line;IZ)Z -/
def v_X1_begins (g : cb_S) (x2 : Int) (x3 : Int) : Option Int := (v_X3_at g x2).bind (fun r1 => (v_X7_isMark g r1).bind (fun r2 => if cb_w r2 = 0 then ((v_X1_joinsAt g x2).bind (fun r3 => if cb_w r3 = 0 then ((v_X1_joinsAt g (x2 - 1)).bind (fun r4 => if cb_w r4 = 0 then (some 1) else (some 0))) else (some 0))) else (if x3 = 0 ∨ x3 = 1 then some x3 else none)))
set_option maxRecDepth 100000 in
theorem C_X1_begins {O : cb_O} (hJ : cb_J O skC) (x2 : Int) (x3 : Int) (g : cb_S) : ∀ q, v_X1_begins g x2 x3 = some q → cb_m O skC false yX1_begins cX1_begins 4 (some .boolean) rm_X1_begins [.inr 2, .inr 1, .inl x2, .inl x3] g (q, g) := by
  intro q hq
  refine cr_of_body hJ (by decide) (Nat.le_of_ble_eq_true rfl) hq (fun M hok => ?_)
  show cb_jr _ _ _ _ _ _ [some (.inr 2), some (.inr 1), some (.inl x2), some (.inl x3)] _ _ ((v_X3_at g x2).bind (fun r1 => (v_X7_isMark g r1).bind (fun r2 => if cb_w r2 = 0 then ((v_X1_joinsAt g x2).bind (fun r3 => if cb_w r3 = 0 then ((v_X1_joinsAt g (x2 - 1)).bind (fun r4 => if cb_w r4 = 0 then (some 1) else (some 0))) else (some 0))) else (if x3 = 0 ∨ x3 = 1 then some x3 else none))))
  refine cr_aload_n hok dX1_begins_0 rfl ?_
  refine cr_iload_n hok dX1_begins_1 rfl ?_
  refine cr_cvr (as := [.inl x2]) (rest := []) hok lk_RX1_60 (by decide) (by decide) dX1_begins_2 (fun q1 hq1 => C_X3_at hJ _ _ q1 hq1) rfl rfl (Nat.le_of_ble_eq_true rfl) skC_b1 skC_c1 rfl (fun r1 => ?_)
  refine cr_csr (as := [.inl r1]) (rest := []) hok lk_RX1_64 (by decide) (by decide) dX1_begins_5 (fun q1 hq1 => C_X7_isMark hJ _ _ q1 hq1) rfl rfl (Nat.le_of_ble_eq_true rfl) (fun r2 => ?_)
  refine cr_ifeq (tgt := 13) hok rfl dX1_begins_8 (by decide) (fun _ => ?_) (fun _ => ?_)
  · refine cr_aload_n hok dX1_begins_13 rfl ?_
    refine cr_iload_n hok dX1_begins_14 rfl ?_
    refine cr_cvr (as := [.inl x2]) (rest := []) hok lk_RX1_84 (by decide) (by decide) dX1_begins_15 (fun q1 hq1 => C_X1_joinsAt hJ _ _ q1 hq1) rfl rfl (Nat.le_of_ble_eq_true rfl) skC_b2 skC_c2 rfl (fun r3 => ?_)
    refine cr_ifne (tgt := 35) hok rfl dX1_begins_18 (by decide) (fun _ => ?_) (fun _ => ?_)
    · refine cr_iconst hok dX1_begins_35 ?_
      exact cr_zret hok dX1_begins_36 (by decide)
    · refine cr_aload_n hok dX1_begins_21 rfl ?_
      refine cr_iload_n hok dX1_begins_22 rfl ?_
      refine cr_iconst hok dX1_begins_23 ?_
      refine cr_isub hok dX1_begins_24 ?_
      refine cr_cvr (as := [.inl (x2 - 1)]) (rest := []) hok lk_RX1_84 (by decide) (by decide) dX1_begins_25 (fun q1 hq1 => C_X1_joinsAt hJ _ _ q1 hq1) rfl rfl (Nat.le_of_ble_eq_true rfl) skC_b2 skC_c2 rfl (fun r4 => ?_)
      refine cr_ifne (tgt := 35) hok rfl dX1_begins_28 (by decide) (fun _ => ?_) (fun _ => ?_)
      · refine cr_iconst hok dX1_begins_35 ?_
        exact cr_zret hok dX1_begins_36 (by decide)
      · refine cr_iconst hok dX1_begins_31 ?_
        refine cr_goto (tgt := 36) hok dX1_begins_32 (by decide) ?_
        exact cr_zret hok dX1_begins_36 (by decide)
  · refine cr_iload_n hok dX1_begins_11 rfl ?_
    exact cr_zretq hok dX1_begins_12
/-! CaretBench$Signs widthOf(I)I -/
def v_X7_widthOf (g : cb_S) (x0 : Int) : Option Int := (v_X7_kindOf g x0).bind (fun r1 => if cb_w r1 = 0 then (some 10) else (if cb_w r1 = 1 then (some 10) else (if cb_w r1 = 2 then (some 8) else (if cb_w x0 = 32 then (some 5) else (some 6)))))
set_option maxRecDepth 100000 in
theorem C_X7_widthOf {O : cb_O} (hJ : cb_J O skC) (x0 : Int) (g : cb_S) : ∀ q, v_X7_widthOf g x0 = some q → cb_m O skC false yX7_widthOf cX7_widthOf 1 (some .int) rm_X7_widthOf [.inl x0] g (q, g) := by
  intro q hq
  refine cr_of_body hJ (by decide) (Nat.le_of_ble_eq_true rfl) hq (fun M hok => ?_)
  show cb_jr _ _ _ _ _ _ [some (.inl x0)] _ _ ((v_X7_kindOf g x0).bind (fun r1 => if cb_w r1 = 0 then (some 10) else (if cb_w r1 = 1 then (some 10) else (if cb_w r1 = 2 then (some 8) else (if cb_w x0 = 32 then (some 5) else (some 6))))))
  refine cr_iload_n hok dX7_widthOf_0 rfl ?_
  refine cr_csr (as := [.inl x0]) (rest := []) hok lk_RX7_9 (by decide) (by decide) dX7_widthOf_1 (fun q1 hq1 => C_X7_kindOf hJ _ _ q1 hq1) rfl rfl (Nat.le_of_ble_eq_true rfl) (fun r1 => ?_)
  refine cr_ite (fun hs1 => ?_) (fun hs1 => ?_)
  · refine cr_tabIn (tgt := 32) hok (0) hs1 dX7_widthOf_4 (by decide) (by decide) rfl (by decide) ?_
    refine cr_bipush hok dX7_widthOf_32 (by decide) ?_
    exact cr_iret hok dX7_widthOf_34
  refine cr_ite (fun hs2 => ?_) (fun hs2 => ?_)
  · refine cr_tabIn (tgt := 32) hok (1) hs2 dX7_widthOf_4 (by decide) (by decide) rfl (by decide) ?_
    refine cr_bipush hok dX7_widthOf_32 (by decide) ?_
    exact cr_iret hok dX7_widthOf_34
  refine cr_ite (fun hs3 => ?_) (fun hs3 => ?_)
  · refine cr_tabIn (tgt := 35) hok (2) hs3 dX7_widthOf_4 (by decide) (by decide) rfl (by decide) ?_
    refine cr_bipush hok dX7_widthOf_35 (by decide) ?_
    exact cr_iret hok dX7_widthOf_37
  refine cr_tabOut (tgt := 38) hok dX7_widthOf_4 (by omega) (by decide) ?_
  refine cr_iload_n hok dX7_widthOf_38 rfl ?_
  refine cr_bipush hok dX7_widthOf_39 (by decide) ?_
  refine cr_icne (tgt := 48) hok rfl (by decide) dX7_widthOf_41 (by decide) (fun _ => ?_) (fun _ => ?_)
  · refine cr_bipush hok dX7_widthOf_48 (by decide) ?_
    exact cr_iret hok dX7_widthOf_50
  · refine cr_iconst hok dX7_widthOf_44 ?_
    refine cr_goto (tgt := 50) hok dX7_widthOf_45 (by decide) ?_
    exact cr_iret hok dX7_widthOf_50
/-! CaretBench$Clusters add(LCaretBench$Line;II)V -/
def f_X1_add_b125 (g : cb_S) : Option (Int × cb_S) := some (0, cb_u g 2 7 ((g 2 7) + 1))
set_option maxRecDepth 100000 in
theorem J_X1_add_b125 {O : cb_O} {M : cb_M} (hJ : cb_J O skC) (hok : cb_ok O skC M cX1_add 4 RX1 none) : ∀ (g : cb_S), cb_j O skC true rm_X1_add M 4 125 [some (.inr 2), none, none, none] [] g (f_X1_add_b125 g) := by
  intro g
  show cb_j _ _ _ _ _ _ _ _ _ _ (some (0, cb_u g 2 7 ((g 2 7) + 1)))
  refine cb_aload_n hok dX1_add_125 rfl ?_
  refine cb_dup hok dX1_add_126 ?_
  refine cb_gi hok dX1_add_127 fl_RX1_44 skC_b2 skC_c2 rfl ?_
  refine cb_iconst hok dX1_add_130 ?_
  refine cb_iadd hok dX1_add_131 ?_
  refine cb_pi hok dX1_add_132 fp_RX1_44 skC_b2 skC_c2 rfl ?_
  exact cb_vret hok dX1_add_135
def f_X1_add (g : cb_S) (x2 : Int) (x3 : Int) : Option (Int × cb_S) := if 60 ≤ cb_w (g 2 7) then (some (0, g)) else (if cb_w x2 < 0 then (some (0, g)) else (if cb_w x3 ≤ cb_w x2 then (some (0, g)) else (if cb_w x3 ≤ 60 then (if 0 ≤ cb_w (g 2 7) ∧ cb_w (g 2 7) < (60 : Nat) then (if 0 ≤ cb_w (g 2 7) ∧ cb_w (g 2 7) < (60 : Nat) then ((v_X3_at (cb_u (cb_u g 10 (cb_w (g 2 7)).toNat x2) 11 (cb_w (g 2 7)).toNat x3) x2).bind (fun r1 => (v_X7_widthOf (cb_u (cb_u g 10 (cb_w (g 2 7)).toNat x2) 11 (cb_w (g 2 7)).toNat x3) r1).bind (fun r2 => if 0 ≤ cb_w (g 2 7) ∧ cb_w (g 2 7) < (60 : Nat) then (if 0 ≤ cb_w x2 ∧ cb_w x2 < (61 : Nat) then (if 0 ≤ cb_w x3 ∧ cb_w x3 < (61 : Nat) then ((v_X1_joinsAt (cb_u (cb_u (cb_u (cb_u (cb_u g 10 (cb_w (g 2 7)).toNat x2) 11 (cb_w (g 2 7)).toNat x3) 12 (cb_w (g 2 7)).toNat r2) 13 (cb_w x2).toNat (g 2 7)) 14 (cb_w x3).toNat (g 2 7)) (x2 + 1)).bind (fun r3 => if cb_w r3 = 0 then (f_X1_add_b125  (cb_u (cb_u (cb_u (cb_u (cb_u g 10 (cb_w (g 2 7)).toNat x2) 11 (cb_w (g 2 7)).toNat x3) 12 (cb_w (g 2 7)).toNat r2) 13 (cb_w x2).toNat (g 2 7)) 14 (cb_w x3).toNat (g 2 7))) else (if 0 ≤ cb_w (g 2 7) ∧ cb_w (g 2 7) < (60 : Nat) then (if 0 ≤ cb_w (x2 + 2) ∧ cb_w (x2 + 2) < (61 : Nat) then (f_X1_add_b125  (cb_u (cb_u (cb_u (cb_u (cb_u (cb_u (cb_u (cb_u g 10 (cb_w (g 2 7)).toNat x2) 11 (cb_w (g 2 7)).toNat x3) 12 (cb_w (g 2 7)).toNat r2) 13 (cb_w x2).toNat (g 2 7)) 14 (cb_w x3).toNat (g 2 7)) 12 (cb_w (g 2 7)).toNat 16) 15 (cb_w (x2 + 2)).toNat (g 2 7)) 2 8 ((g 2 8) + 1))) else none) else none))) else none) else none) else none))) else none) else none) else (some (0, g)))))
set_option maxRecDepth 100000 in
theorem C_X1_add {O : cb_O} (hJ : cb_J O skC) (x2 : Int) (x3 : Int) (g : cb_S) : ∀ q, f_X1_add g x2 x3 = some q → cb_m O skC true yX1_add cX1_add 4 none rm_X1_add [.inr 2, .inr 1, .inl x2, .inl x3] g q := by
  intro q hq
  refine cb_of_body hJ (by decide) (Nat.le_of_ble_eq_true rfl) hq (fun M hok => ?_)
  show cb_j _ _ _ _ _ _ _ [some (.inr 2), some (.inr 1), some (.inl x2), some (.inl x3)] _ _ (if 60 ≤ cb_w (g 2 7) then (some (0, g)) else (if cb_w x2 < 0 then (some (0, g)) else (if cb_w x3 ≤ cb_w x2 then (some (0, g)) else (if cb_w x3 ≤ 60 then (if 0 ≤ cb_w (g 2 7) ∧ cb_w (g 2 7) < (60 : Nat) then (if 0 ≤ cb_w (g 2 7) ∧ cb_w (g 2 7) < (60 : Nat) then ((v_X3_at (cb_u (cb_u g 10 (cb_w (g 2 7)).toNat x2) 11 (cb_w (g 2 7)).toNat x3) x2).bind (fun r1 => (v_X7_widthOf (cb_u (cb_u g 10 (cb_w (g 2 7)).toNat x2) 11 (cb_w (g 2 7)).toNat x3) r1).bind (fun r2 => if 0 ≤ cb_w (g 2 7) ∧ cb_w (g 2 7) < (60 : Nat) then (if 0 ≤ cb_w x2 ∧ cb_w x2 < (61 : Nat) then (if 0 ≤ cb_w x3 ∧ cb_w x3 < (61 : Nat) then ((v_X1_joinsAt (cb_u (cb_u (cb_u (cb_u (cb_u g 10 (cb_w (g 2 7)).toNat x2) 11 (cb_w (g 2 7)).toNat x3) 12 (cb_w (g 2 7)).toNat r2) 13 (cb_w x2).toNat (g 2 7)) 14 (cb_w x3).toNat (g 2 7)) (x2 + 1)).bind (fun r3 => if cb_w r3 = 0 then (f_X1_add_b125  (cb_u (cb_u (cb_u (cb_u (cb_u g 10 (cb_w (g 2 7)).toNat x2) 11 (cb_w (g 2 7)).toNat x3) 12 (cb_w (g 2 7)).toNat r2) 13 (cb_w x2).toNat (g 2 7)) 14 (cb_w x3).toNat (g 2 7))) else (if 0 ≤ cb_w (g 2 7) ∧ cb_w (g 2 7) < (60 : Nat) then (if 0 ≤ cb_w (x2 + 2) ∧ cb_w (x2 + 2) < (61 : Nat) then (f_X1_add_b125  (cb_u (cb_u (cb_u (cb_u (cb_u (cb_u (cb_u (cb_u g 10 (cb_w (g 2 7)).toNat x2) 11 (cb_w (g 2 7)).toNat x3) 12 (cb_w (g 2 7)).toNat r2) 13 (cb_w x2).toNat (g 2 7)) 14 (cb_w x3).toNat (g 2 7)) 12 (cb_w (g 2 7)).toNat 16) 15 (cb_w (x2 + 2)).toNat (g 2 7)) 2 8 ((g 2 8) + 1))) else none) else none))) else none) else none) else none))) else none) else none) else (some (0, g))))))
  refine cb_aload_n hok dX1_add_0 rfl ?_
  refine cb_gi hok dX1_add_1 fl_RX1_44 skC_b2 skC_c2 rfl ?_
  refine cb_bipush hok dX1_add_4 (by decide) ?_
  refine cb_icge (tgt := 24) hok rfl (by decide) dX1_add_6 (by decide) (fun _ => ?_) (fun _ => ?_)
  · exact cb_vret hok dX1_add_24
  · refine cb_iload_n hok dX1_add_9 rfl ?_
    refine cb_iflt (tgt := 24) hok rfl dX1_add_10 (by decide) (fun _ => ?_) (fun _ => ?_)
    · exact cb_vret hok dX1_add_24
    · refine cb_iload_n hok dX1_add_13 rfl ?_
      refine cb_iload_n hok dX1_add_14 rfl ?_
      refine cb_icge (tgt := 24) hok rfl rfl dX1_add_15 (by decide) (fun _ => ?_) (fun _ => ?_)
      · exact cb_vret hok dX1_add_24
      · refine cb_iload_n hok dX1_add_18 rfl ?_
        refine cb_bipush hok dX1_add_19 (by decide) ?_
        refine cb_icle (tgt := 25) hok rfl (by decide) dX1_add_21 (by decide) (fun _ => ?_) (fun _ => ?_)
        · refine cb_aload_n hok dX1_add_25 rfl ?_
          refine cb_gr hok dX1_add_26 fl_RX1_15 skC_b2 skC_c2 rfl ?_
          refine cb_aload_n hok dX1_add_29 rfl ?_
          refine cb_gi hok dX1_add_30 fl_RX1_44 skC_b2 skC_c2 rfl ?_
          refine cb_iload_n hok dX1_add_33 rfl ?_
          refine cb_iast hok dX1_add_34 skC_b10 skC_c10 ?_
          refine cb_aload_n hok dX1_add_35 rfl ?_
          refine cb_gr hok dX1_add_36 fl_RX1_19 skC_b2 skC_c2 rfl ?_
          refine cb_aload_n hok dX1_add_39 rfl ?_
          refine cb_gi hok dX1_add_40 fl_RX1_44 skC_b2 skC_c2 rfl ?_
          refine cb_top (y := g 2 7) rfl ?_
          refine cb_iload_n hok dX1_add_43 rfl ?_
          refine cb_iast hok dX1_add_44 skC_b11 skC_c11 ?_
          refine cb_aload_n hok dX1_add_45 rfl ?_
          refine cb_gr hok dX1_add_46 fl_RX1_22 skC_b2 skC_c2 rfl ?_
          refine cb_aload_n hok dX1_add_49 rfl ?_
          refine cb_gi hok dX1_add_50 fl_RX1_44 skC_b2 skC_c2 rfl ?_
          refine cb_top (y := g 2 7) rfl ?_
          refine cb_aload_n hok dX1_add_53 rfl ?_
          refine cb_iload_n hok dX1_add_54 rfl ?_
          refine cb_cvr (as := [.inl x2]) (rest := [.inl (g 2 7), .inr 12]) hok lk_RX1_60 (by decide) (by decide) dX1_add_55 (fun q1 hq1 => C_X3_at hJ _ _ q1 hq1) rfl rfl (Nat.le_of_ble_eq_true rfl) skC_b1 skC_c1 rfl (fun r1 => ?_)
          refine cb_csr (as := [.inl r1]) (rest := [.inl (g 2 7), .inr 12]) hok lk_RX1_87 (by decide) (by decide) dX1_add_58 (fun q1 hq1 => C_X7_widthOf hJ _ _ q1 hq1) rfl rfl (Nat.le_of_ble_eq_true rfl) (fun r2 => ?_)
          refine cb_iast hok dX1_add_61 skC_b12 skC_c12 ?_
          refine cb_aload_n hok dX1_add_62 rfl ?_
          refine cb_gr hok dX1_add_63 fl_RX1_25 skC_b2 skC_c2 rfl ?_
          refine cb_iload_n hok dX1_add_66 rfl ?_
          refine cb_aload_n hok dX1_add_67 rfl ?_
          refine cb_gi hok dX1_add_68 fl_RX1_44 skC_b2 skC_c2 rfl ?_
          refine cb_top (y := g 2 7) rfl ?_
          refine cb_iast hok dX1_add_71 skC_b13 skC_c13 ?_
          refine cb_aload_n hok dX1_add_72 rfl ?_
          refine cb_gr hok dX1_add_73 fl_RX1_28 skC_b2 skC_c2 rfl ?_
          refine cb_iload_n hok dX1_add_76 rfl ?_
          refine cb_aload_n hok dX1_add_77 rfl ?_
          refine cb_gi hok dX1_add_78 fl_RX1_44 skC_b2 skC_c2 rfl ?_
          refine cb_top (y := g 2 7) rfl ?_
          refine cb_iast hok dX1_add_81 skC_b14 skC_c14 ?_
          refine cb_aload_n hok dX1_add_82 rfl ?_
          refine cb_iload_n hok dX1_add_83 rfl ?_
          refine cb_iconst hok dX1_add_84 ?_
          refine cb_iadd hok dX1_add_85 ?_
          refine cb_cvr (as := [.inl (x2 + 1)]) (rest := []) hok lk_RX1_84 (by decide) (by decide) dX1_add_86 (fun q1 hq1 => C_X1_joinsAt hJ _ _ q1 hq1) rfl rfl (Nat.le_of_ble_eq_true rfl) skC_b2 skC_c2 rfl (fun r3 => ?_)
          refine cb_ifeq (tgt := 125) hok rfl dX1_add_89 (by decide) (fun _ => ?_) (fun _ => ?_)
          · refine cb_fewer (ls' := [some (.inr 2), none, none, none]) ⟨rfl, trivial⟩ ?_
            exact J_X1_add_b125 hJ hok  _
          · refine cb_aload_n hok dX1_add_92 rfl ?_
            refine cb_gr hok dX1_add_93 fl_RX1_22 skC_b2 skC_c2 rfl ?_
            refine cb_aload_n hok dX1_add_96 rfl ?_
            refine cb_gi hok dX1_add_97 fl_RX1_44 skC_b2 skC_c2 rfl ?_
            refine cb_top (y := g 2 7) rfl ?_
            refine cb_bipush hok dX1_add_100 (by decide) ?_
            refine cb_iast hok dX1_add_102 skC_b12 skC_c12 ?_
            refine cb_aload_n hok dX1_add_103 rfl ?_
            refine cb_gr hok dX1_add_104 fl_RX1_31 skC_b2 skC_c2 rfl ?_
            refine cb_iload_n hok dX1_add_107 rfl ?_
            refine cb_iconst hok dX1_add_108 ?_
            refine cb_iadd hok dX1_add_109 ?_
            refine cb_aload_n hok dX1_add_110 rfl ?_
            refine cb_gi hok dX1_add_111 fl_RX1_44 skC_b2 skC_c2 rfl ?_
            refine cb_top (y := g 2 7) rfl ?_
            refine cb_iast hok dX1_add_114 skC_b15 skC_c15 ?_
            refine cb_aload_n hok dX1_add_115 rfl ?_
            refine cb_dup hok dX1_add_116 ?_
            refine cb_gi hok dX1_add_117 fl_RX1_48 skC_b2 skC_c2 rfl ?_
            refine cb_top (y := g 2 8) rfl ?_
            refine cb_iconst hok dX1_add_120 ?_
            refine cb_iadd hok dX1_add_121 ?_
            refine cb_pi hok dX1_add_122 fp_RX1_48 skC_b2 skC_c2 rfl ?_
            refine cb_fewer (ls' := [some (.inr 2), none, none, none]) ⟨rfl, trivial⟩ ?_
            exact J_X1_add_b125 hJ hok  _
        · exact cb_vret hok dX1_add_24
