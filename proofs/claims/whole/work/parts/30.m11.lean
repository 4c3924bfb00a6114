/-! CaretBenchModel endsAt(I)I -/
def v_X9_endsAt_b2 : Nat → Int → Int → cb_S → Option Int
  | 0 => fun _ _ _ => none
  | n + 1 => fun x1 x2 g => if cb_w (g 0 20) ≤ cb_w x2 then (some (-1)) else (if 0 ≤ cb_w x2 ∧ cb_w x2 < (64 : Nat) then (if 0 ≤ cb_w x2 ∧ cb_w x2 < (64 : Nat) then (if cb_w ((g 14 ((cb_w x2).toNat)) + (g 15 ((cb_w x2).toNat))) = cb_w x1 then (some x2) else ((v_X9_endsAt_b2 n) x1 (x2 + 1) g)) else none) else none)
set_option maxRecDepth 100000 in
theorem J_X9_endsAt_b2 {O : cb_O} {M : cb_M} (hJ : cb_J O skM) (hok : cb_ok O skM M cX9_endsAt 3 RX9 (some .int)) : ∀ (n : Nat) (x1 x2 : Int) (g : cb_S), cb_jr O skM rm_X9_endsAt M 3 2 [some (.inr 0), some (.inl x1), some (.inl x2)] [] g (v_X9_endsAt_b2 n x1 x2 g) := by
  intro n
  induction n with
  | zero => intros; exact cr_none
  | succ n hk2 =>
    intro x1 x2 g
    show cb_jr _ _ _ _ _ _ _ _ _ (if cb_w (g 0 20) ≤ cb_w x2 then (some (-1)) else (if 0 ≤ cb_w x2 ∧ cb_w x2 < (64 : Nat) then (if 0 ≤ cb_w x2 ∧ cb_w x2 < (64 : Nat) then (if cb_w ((g 14 ((cb_w x2).toNat)) + (g 15 ((cb_w x2).toNat))) = cb_w x1 then (some x2) else ((v_X9_endsAt_b2 n) x1 (x2 + 1) g)) else none) else none))
    refine cr_iload_n hok dX9_endsAt_2 rfl ?_
    refine cr_aload_n hok dX9_endsAt_3 rfl ?_
    refine cr_gi hok dX9_endsAt_4 fl_RX9_129 skM_b0 skM_c0 rfl ?_
    refine cr_icge (tgt := 35) hok rfl rfl dX9_endsAt_7 (by decide) (fun _ => ?_) (fun _ => ?_)
    · refine cr_iconst hok dX9_endsAt_35 ?_
      exact cr_iret hok dX9_endsAt_36
    · refine cr_aload_n hok dX9_endsAt_10 rfl ?_
      refine cr_gr hok dX9_endsAt_11 fl_RX9_50 skM_b0 skM_c0 rfl ?_
      refine cr_iload_n hok dX9_endsAt_14 rfl ?_
      refine cr_iald hok dX9_endsAt_15 skM_b14 skM_c14 ?_
      refine cr_aload_n hok dX9_endsAt_16 rfl ?_
      refine cr_gr hok dX9_endsAt_17 fl_RX9_53 skM_b0 skM_c0 rfl ?_
      refine cr_iload_n hok dX9_endsAt_20 rfl ?_
      refine cr_iald hok dX9_endsAt_21 skM_b15 skM_c15 ?_
      refine cr_iadd hok dX9_endsAt_22 ?_
      refine cr_iload_n hok dX9_endsAt_23 rfl ?_
      refine cr_icne (tgt := 29) hok rfl rfl dX9_endsAt_24 (by decide) (fun _ => ?_) (fun _ => ?_)
      · refine cr_iinc (ls' := [some (.inr 0), some (.inl x1), some (.inl (x2 + 1))]) hok dX9_endsAt_29 rfl (by decide) rfl ?_
        refine cr_goto (tgt := 2) hok dX9_endsAt_32 (by decide) ?_
        refine cr_fewer (ls' := [some (.inr 0), some (.inl x1), some (.inl (x2 + 1))]) ⟨rfl, ⟨rfl, ⟨rfl, trivial⟩⟩⟩ ?_
        exact hk2 _ _ _
      · refine cr_iload_n hok dX9_endsAt_27 rfl ?_
        exact cr_iret hok dX9_endsAt_28
def v_X9_endsAt (g : cb_S) (x1 : Int) : Option Int := v_X9_endsAt_b2  cb_N x1 0 g
set_option maxRecDepth 100000 in
theorem C_X9_endsAt {O : cb_O} (hJ : cb_J O skM) (x1 : Int) (g : cb_S) : ∀ q, v_X9_endsAt g x1 = some q → cb_m O skM false yX9_endsAt cX9_endsAt 3 (some .int) rm_X9_endsAt [.inr 0, .inl x1] g (q, g) := by
  intro q hq
  refine cr_of_body hJ (by decide) (Nat.le_of_ble_eq_true rfl) hq (fun M hok => ?_)
  show cb_jr _ _ _ _ _ _ [some (.inr 0), some (.inl x1), none] _ _ (v_X9_endsAt_b2  cb_N x1 0 g)
  refine cr_iconst hok dX9_endsAt_0 ?_
  refine cr_istore_n (ls' := [some (.inr 0), some (.inl x1), some (.inl 0)]) hok dX9_endsAt_1 (by decide) rfl ?_
  refine cr_fewer (ls' := [some (.inr 0), some (.inl x1), some (.inl 0)]) ⟨rfl, ⟨rfl, ⟨rfl, trivial⟩⟩⟩ ?_
  exact J_X9_endsAt_b2 hJ hok  cb_N _ _ _
/-! CaretBenchModel holds(I)I -/
def v_X9_holds_b33 (kk2 : Int → Int → cb_S → Option Int) (x1 x2 : Int) (g : cb_S) : Option Int := kk2 x1 (x2 + 1) g
set_option maxRecDepth 100000 in
theorem J_X9_holds_b33 {O : cb_O} {M : cb_M} (hJ : cb_J O skM) (hok : cb_ok O skM M cX9_holds 3 RX9 (some .int)) {kk2 : Int → Int → cb_S → Option Int} (hk2 : ∀ (x1 x2 : Int) (g : cb_S), cb_jr O skM rm_X9_holds M 3 2 [some (.inr 0), some (.inl x1), some (.inl x2)] [] g (kk2 x1 x2 g)) : ∀ (x1 x2 : Int) (g : cb_S), cb_jr O skM rm_X9_holds M 3 33 [some (.inr 0), some (.inl x1), some (.inl x2)] [] g (v_X9_holds_b33 kk2 x1 x2 g) := by
  intro x1 x2 g
  show cb_jr _ _ _ _ _ _ _ _ _ (kk2 x1 (x2 + 1) g)
  refine cr_iinc (ls' := [some (.inr 0), some (.inl x1), some (.inl (x2 + 1))]) hok dX9_holds_33 rfl (by decide) rfl ?_
  refine cr_goto (tgt := 2) hok dX9_holds_36 (by decide) ?_
  refine cr_fewer (ls' := [some (.inr 0), some (.inl x1), some (.inl (x2 + 1))]) ⟨rfl, ⟨rfl, ⟨rfl, trivial⟩⟩⟩ ?_
  exact hk2 _ _ _
def v_X9_holds_b2 : Nat → Int → Int → cb_S → Option Int
  | 0 => fun _ _ _ => none
  | n + 1 => fun x1 x2 g => if cb_w (g 0 20) ≤ cb_w x2 then (some (-1)) else (if 0 ≤ cb_w x2 ∧ cb_w x2 < (64 : Nat) then (if cb_w (g 16 ((cb_w x2).toNat)) = 0 then (v_X9_holds_b33 (v_X9_holds_b2 n) x1 x2 g) else (if 0 ≤ cb_w x2 ∧ cb_w x2 < (64 : Nat) then (if cb_w ((g 14 ((cb_w x2).toNat)) + 2) = cb_w x1 then (some x2) else (v_X9_holds_b33 (v_X9_holds_b2 n) x1 x2 g)) else none)) else none)
set_option maxRecDepth 100000 in
theorem J_X9_holds_b2 {O : cb_O} {M : cb_M} (hJ : cb_J O skM) (hok : cb_ok O skM M cX9_holds 3 RX9 (some .int)) : ∀ (n : Nat) (x1 x2 : Int) (g : cb_S), cb_jr O skM rm_X9_holds M 3 2 [some (.inr 0), some (.inl x1), some (.inl x2)] [] g (v_X9_holds_b2 n x1 x2 g) := by
  intro n
  induction n with
  | zero => intros; exact cr_none
  | succ n hk2 =>
    intro x1 x2 g
    show cb_jr _ _ _ _ _ _ _ _ _ (if cb_w (g 0 20) ≤ cb_w x2 then (some (-1)) else (if 0 ≤ cb_w x2 ∧ cb_w x2 < (64 : Nat) then (if cb_w (g 16 ((cb_w x2).toNat)) = 0 then (v_X9_holds_b33 (v_X9_holds_b2 n) x1 x2 g) else (if 0 ≤ cb_w x2 ∧ cb_w x2 < (64 : Nat) then (if cb_w ((g 14 ((cb_w x2).toNat)) + 2) = cb_w x1 then (some x2) else (v_X9_holds_b33 (v_X9_holds_b2 n) x1 x2 g)) else none)) else none))
    refine cr_iload_n hok dX9_holds_2 rfl ?_
    refine cr_aload_n hok dX9_holds_3 rfl ?_
    refine cr_gi hok dX9_holds_4 fl_RX9_129 skM_b0 skM_c0 rfl ?_
    refine cr_icge (tgt := 39) hok rfl rfl dX9_holds_7 (by decide) (fun _ => ?_) (fun _ => ?_)
    · refine cr_iconst hok dX9_holds_39 ?_
      exact cr_iret hok dX9_holds_40
    · refine cr_aload_n hok dX9_holds_10 rfl ?_
      refine cr_gr hok dX9_holds_11 fl_RX9_56 skM_b0 skM_c0 rfl ?_
      refine cr_iload_n hok dX9_holds_14 rfl ?_
      refine cr_zald hok dX9_holds_15 skM_b16 skM_c16 ?_
      refine cr_ifeq (tgt := 33) hok rfl dX9_holds_16 (by decide) (fun _ => ?_) (fun _ => ?_)
      · refine cr_fewer (ls' := [some (.inr 0), some (.inl x1), some (.inl x2)]) ⟨rfl, ⟨rfl, ⟨rfl, trivial⟩⟩⟩ ?_
        exact J_X9_holds_b33 hJ hok hk2 _ _ _
      · refine cr_aload_n hok dX9_holds_19 rfl ?_
        refine cr_gr hok dX9_holds_20 fl_RX9_50 skM_b0 skM_c0 rfl ?_
        refine cr_iload_n hok dX9_holds_23 rfl ?_
        refine cr_iald hok dX9_holds_24 skM_b14 skM_c14 ?_
        refine cr_iconst hok dX9_holds_25 ?_
        refine cr_iadd hok dX9_holds_26 ?_
        refine cr_iload_n hok dX9_holds_27 rfl ?_
        refine cr_icne (tgt := 33) hok rfl rfl dX9_holds_28 (by decide) (fun _ => ?_) (fun _ => ?_)
        · refine cr_fewer (ls' := [some (.inr 0), some (.inl x1), some (.inl x2)]) ⟨rfl, ⟨rfl, ⟨rfl, trivial⟩⟩⟩ ?_
          exact J_X9_holds_b33 hJ hok hk2 _ _ _
        · refine cr_iload_n hok dX9_holds_31 rfl ?_
          exact cr_iret hok dX9_holds_32
def v_X9_holds (g : cb_S) (x1 : Int) : Option Int := v_X9_holds_b2  cb_N x1 0 g
set_option maxRecDepth 100000 in
theorem C_X9_holds {O : cb_O} (hJ : cb_J O skM) (x1 : Int) (g : cb_S) : ∀ q, v_X9_holds g x1 = some q → cb_m O skM false yX9_holds cX9_holds 3 (some .int) rm_X9_holds [.inr 0, .inl x1] g (q, g) := by
  intro q hq
  refine cr_of_body hJ (by decide) (Nat.le_of_ble_eq_true rfl) hq (fun M hok => ?_)
  show cb_jr _ _ _ _ _ _ [some (.inr 0), some (.inl x1), none] _ _ (v_X9_holds_b2  cb_N x1 0 g)
  refine cr_iconst hok dX9_holds_0 ?_
  refine cr_istore_n (ls' := [some (.inr 0), some (.inl x1), some (.inl 0)]) hok dX9_holds_1 (by decide) rfl ?_
  refine cr_fewer (ls' := [some (.inr 0), some (.inl x1), some (.inl 0)]) ⟨rfl, ⟨rfl, ⟨rfl, trivial⟩⟩⟩ ?_
  exact J_X9_holds_b2 hJ hok  cb_N _ _ _
/-! CaretBenchModel isBetween(I)Z -/
def v_X9_isBetween (g : cb_S) (x1 : Int) : Option Int := if cb_w x1 = 0 then (some 1) else (if cb_w x1 = cb_w (g 0 1) then (some 1) else (if cb_w x1 ≤ 0 then (some 0) else (if cb_w (g 0 1) ≤ cb_w x1 then (some 0) else ((v_X9_beginsAt g x1).bind (fun r1 => if cb_w r1 = (-1) then (some 0) else (some 1))))))
set_option maxRecDepth 100000 in
theorem C_X9_isBetween {O : cb_O} (hJ : cb_J O skM) (x1 : Int) (g : cb_S) : ∀ q, v_X9_isBetween g x1 = some q → cb_m O skM false yX9_isBetween cX9_isBetween 2 (some .boolean) rm_X9_isBetween [.inr 0, .inl x1] g (q, g) := by
  intro q hq
  refine cr_of_body hJ (by decide) (Nat.le_of_ble_eq_true rfl) hq (fun M hok => ?_)
  show cb_jr _ _ _ _ _ _ [some (.inr 0), some (.inl x1)] _ _ (if cb_w x1 = 0 then (some 1) else (if cb_w x1 = cb_w (g 0 1) then (some 1) else (if cb_w x1 ≤ 0 then (some 0) else (if cb_w (g 0 1) ≤ cb_w x1 then (some 0) else ((v_X9_beginsAt g x1).bind (fun r1 => if cb_w r1 = (-1) then (some 0) else (some 1)))))))
  refine cr_iload_n hok dX9_isBetween_0 rfl ?_
  refine cr_ifeq (tgt := 33) hok rfl dX9_isBetween_1 (by decide) (fun _ => ?_) (fun _ => ?_)
  · refine cr_iconst hok dX9_isBetween_33 ?_
    refine cr_goto (tgt := 38) hok dX9_isBetween_34 (by decide) ?_
    exact cr_zret hok dX9_isBetween_38 (by decide)
  · refine cr_iload_n hok dX9_isBetween_4 rfl ?_
    refine cr_aload_n hok dX9_isBetween_5 rfl ?_
    refine cr_gi hok dX9_isBetween_6 fl_RX9_81 skM_b0 skM_c0 rfl ?_
    refine cr_iceq (tgt := 33) hok rfl rfl dX9_isBetween_9 (by decide) (fun _ => ?_) (fun _ => ?_)
    · refine cr_iconst hok dX9_isBetween_33 ?_
      refine cr_goto (tgt := 38) hok dX9_isBetween_34 (by decide) ?_
      exact cr_zret hok dX9_isBetween_38 (by decide)
    · refine cr_iload_n hok dX9_isBetween_12 rfl ?_
      refine cr_ifle (tgt := 37) hok rfl dX9_isBetween_13 (by decide) (fun _ => ?_) (fun _ => ?_)
      · refine cr_iconst hok dX9_isBetween_37 ?_
        exact cr_zret hok dX9_isBetween_38 (by decide)
      · refine cr_iload_n hok dX9_isBetween_16 rfl ?_
        refine cr_aload_n hok dX9_isBetween_17 rfl ?_
        refine cr_gi hok dX9_isBetween_18 fl_RX9_81 skM_b0 skM_c0 rfl ?_
        refine cr_icge (tgt := 37) hok rfl rfl dX9_isBetween_21 (by decide) (fun _ => ?_) (fun _ => ?_)
        · refine cr_iconst hok dX9_isBetween_37 ?_
          exact cr_zret hok dX9_isBetween_38 (by decide)
        · refine cr_aload_n hok dX9_isBetween_24 rfl ?_
          refine cr_iload_n hok dX9_isBetween_25 rfl ?_
          refine cr_cvr (as := [.inl x1]) (rest := []) hok lk_RX9_153 (by decide) (by decide) dX9_isBetween_26 (fun q1 hq1 => C_X9_beginsAt hJ _ _ q1 hq1) rfl rfl (Nat.le_of_ble_eq_true rfl) skM_b0 skM_c0 rfl (fun r1 => ?_)
          refine cr_iconst hok dX9_isBetween_29 ?_
          refine cr_iceq (tgt := 37) hok rfl (by decide) dX9_isBetween_30 (by decide) (fun _ => ?_) (fun _ => ?_)
          · refine cr_iconst hok dX9_isBetween_37 ?_
            exact cr_zret hok dX9_isBetween_38 (by decide)
          · refine cr_iconst hok dX9_isBetween_33 ?_
            refine cr_goto (tgt := 38) hok dX9_isBetween_34 (by decide) ?_
            exact cr_zret hok dX9_isBetween_38 (by decide)
/-! CaretBenchModel isStand(I)Z -/
def v_X9_isStand (g : cb_S) (x1 : Int) : Option Int := (v_X9_isBetween g x1).bind (fun r1 => if cb_w r1 = 0 then (if cb_w x1 ≤ 0 then (some 0) else (if cb_w (g 0 1) ≤ cb_w x1 then (some 0) else ((v_X9_holds g x1).bind (fun r2 => if cb_w r2 = (-1) then (some 0) else (some 1))))) else (some 1))
set_option maxRecDepth 100000 in
theorem C_X9_isStand {O : cb_O} (hJ : cb_J O skM) (x1 : Int) (g : cb_S) : ∀ q, v_X9_isStand g x1 = some q → cb_m O skM false yX9_isStand cX9_isStand 2 (some .boolean) rm_X9_isStand [.inr 0, .inl x1] g (q, g) := by
  intro q hq
  refine cr_of_body hJ (by decide) (Nat.le_of_ble_eq_true rfl) hq (fun M hok => ?_)
  show cb_jr _ _ _ _ _ _ [some (.inr 0), some (.inl x1)] _ _ ((v_X9_isBetween g x1).bind (fun r1 => if cb_w r1 = 0 then (if cb_w x1 ≤ 0 then (some 0) else (if cb_w (g 0 1) ≤ cb_w x1 then (some 0) else ((v_X9_holds g x1).bind (fun r2 => if cb_w r2 = (-1) then (some 0) else (some 1))))) else (some 1)))
  refine cr_aload_n hok dX9_isStand_0 rfl ?_
  refine cr_iload_n hok dX9_isStand_1 rfl ?_
  refine cr_cvr (as := [.inl x1]) (rest := []) hok lk_RX9_156 (by decide) (by decide) dX9_isStand_2 (fun q1 hq1 => C_X9_isBetween hJ _ _ q1 hq1) rfl rfl (Nat.le_of_ble_eq_true rfl) skM_b0 skM_c0 rfl (fun r1 => ?_)
  refine cr_ifne (tgt := 29) hok rfl dX9_isStand_5 (by decide) (fun _ => ?_) (fun _ => ?_)
  · refine cr_iconst hok dX9_isStand_29 ?_
    refine cr_goto (tgt := 34) hok dX9_isStand_30 (by decide) ?_
    exact cr_zret hok dX9_isStand_34 (by decide)
  · refine cr_iload_n hok dX9_isStand_8 rfl ?_
    refine cr_ifle (tgt := 33) hok rfl dX9_isStand_9 (by decide) (fun _ => ?_) (fun _ => ?_)
    · refine cr_iconst hok dX9_isStand_33 ?_
      exact cr_zret hok dX9_isStand_34 (by decide)
    · refine cr_iload_n hok dX9_isStand_12 rfl ?_
      refine cr_aload_n hok dX9_isStand_13 rfl ?_
      refine cr_gi hok dX9_isStand_14 fl_RX9_81 skM_b0 skM_c0 rfl ?_
      refine cr_icge (tgt := 33) hok rfl rfl dX9_isStand_17 (by decide) (fun _ => ?_) (fun _ => ?_)
      · refine cr_iconst hok dX9_isStand_33 ?_
        exact cr_zret hok dX9_isStand_34 (by decide)
      · refine cr_aload_n hok dX9_isStand_20 rfl ?_
        refine cr_iload_n hok dX9_isStand_21 rfl ?_
        refine cr_cvr (as := [.inl x1]) (rest := []) hok lk_RX9_159 (by decide) (by decide) dX9_isStand_22 (fun q1 hq1 => C_X9_holds hJ _ _ q1 hq1) rfl rfl (Nat.le_of_ble_eq_true rfl) skM_b0 skM_c0 rfl (fun r2 => ?_)
        refine cr_iconst hok dX9_isStand_25 ?_
        refine cr_iceq (tgt := 33) hok rfl (by decide) dX9_isStand_26 (by decide) (fun _ => ?_) (fun _ => ?_)
        · refine cr_iconst hok dX9_isStand_33 ?_
          exact cr_zret hok dX9_isStand_34 (by decide)
        · refine cr_iconst hok dX9_isStand_29 ?_
          refine cr_goto (tgt := 34) hok dX9_isStand_30 (by decide) ?_
          exact cr_zret hok dX9_isStand_34 (by decide)
/-! CaretBenchModel settles()V -/
def f_X9_settles_b44 (g : cb_S) : Option (Int × cb_S) := (v_X9_isBetween g (g 0 3)).bind (fun r1 => if cb_w r1 = 0 then (some (0, cb_u g 0 4 0)) else (some (0, g)))
set_option maxRecDepth 100000 in
theorem J_X9_settles_b44 {O : cb_O} {M : cb_M} (hJ : cb_J O skM) (hok : cb_ok O skM M cX9_settles 1 RX9 none) : ∀ (g : cb_S), cb_j O skM true rm_X9_settles M 1 44 [some (.inr 0)] [] g (f_X9_settles_b44 g) := by
  intro g
  show cb_j _ _ _ _ _ _ _ _ _ _ ((v_X9_isBetween g (g 0 3)).bind (fun r1 => if cb_w r1 = 0 then (some (0, cb_u g 0 4 0)) else (some (0, g))))
  refine cb_aload_n hok dX9_settles_44 rfl ?_
  refine cb_aload_n hok dX9_settles_45 rfl ?_
  refine cb_gi hok dX9_settles_46 fl_RX9_84 skM_b0 skM_c0 rfl ?_
  refine cb_cvr (as := [.inl (g 0 3)]) (rest := []) hok lk_RX9_156 (by decide) (by decide) dX9_settles_49 (fun q1 hq1 => C_X9_isBetween hJ _ _ q1 hq1) rfl rfl (Nat.le_of_ble_eq_true rfl) skM_b0 skM_c0 rfl (fun r1 => ?_)
  refine cb_ifne (tgt := 60) hok rfl dX9_settles_52 (by decide) (fun _ => ?_) (fun _ => ?_)
  · exact cb_vret hok dX9_settles_60
  · refine cb_aload_n hok dX9_settles_55 rfl ?_
    refine cb_iconst hok dX9_settles_56 ?_
    refine cb_pi hok dX9_settles_57 fp_RX9_87 skM_b0 skM_c0 rfl ?_
    exact cb_vret hok dX9_settles_60
def f_X9_settles_b20 : Nat → cb_S → Option (Int × cb_S)
  | 0 => fun _ => none
  | n + 1 => fun g => (v_X9_isStand g (g 0 3)).bind (fun r1 => if cb_w r1 = 0 then ((f_X9_settles_b20 n) (cb_u g 0 3 ((g 0 3) + 1))) else (f_X9_settles_b44  g))
set_option maxRecDepth 100000 in
theorem J_X9_settles_b20 {O : cb_O} {M : cb_M} (hJ : cb_J O skM) (hok : cb_ok O skM M cX9_settles 1 RX9 none) : ∀ (n : Nat) (g : cb_S), cb_j O skM true rm_X9_settles M 1 20 [some (.inr 0)] [] g (f_X9_settles_b20 n g) := by
  intro n
  induction n with
  | zero => intros; exact cb_none
  | succ n hk20 =>
    intro g
    show cb_j _ _ _ _ _ _ _ _ _ _ ((v_X9_isStand g (g 0 3)).bind (fun r1 => if cb_w r1 = 0 then ((f_X9_settles_b20 n) (cb_u g 0 3 ((g 0 3) + 1))) else (f_X9_settles_b44  g)))
    refine cb_aload_n hok dX9_settles_20 rfl ?_
    refine cb_aload_n hok dX9_settles_21 rfl ?_
    refine cb_gi hok dX9_settles_22 fl_RX9_84 skM_b0 skM_c0 rfl ?_
    refine cb_cvr (as := [.inl (g 0 3)]) (rest := []) hok lk_RX9_165 (by decide) (by decide) dX9_settles_25 (fun q1 hq1 => C_X9_isStand hJ _ _ q1 hq1) rfl rfl (Nat.le_of_ble_eq_true rfl) skM_b0 skM_c0 rfl (fun r1 => ?_)
    refine cb_ifne (tgt := 44) hok rfl dX9_settles_28 (by decide) (fun _ => ?_) (fun _ => ?_)
    · refine cb_fewer (ls' := [some (.inr 0)]) ⟨rfl, trivial⟩ ?_
      exact J_X9_settles_b44 hJ hok  _
    · refine cb_aload_n hok dX9_settles_31 rfl ?_
      refine cb_dup hok dX9_settles_32 ?_
      refine cb_gi hok dX9_settles_33 fl_RX9_84 skM_b0 skM_c0 rfl ?_
      refine cb_iconst hok dX9_settles_36 ?_
      refine cb_iadd hok dX9_settles_37 ?_
      refine cb_pi hok dX9_settles_38 fp_RX9_84 skM_b0 skM_c0 rfl ?_
      refine cb_goto (tgt := 20) hok dX9_settles_41 (by decide) ?_
      refine cb_fewer (ls' := [some (.inr 0)]) ⟨rfl, trivial⟩ ?_
      exact hk20 _
def f_X9_settles (g : cb_S) : Option (Int × cb_S) := cb_b (f_X9_looks g ) (fun r1 g1 => (v_X9_isStand g1 (g1 0 3)).bind (fun r2 => if cb_w r2 = 0 then (f_X9_settles_b20  cb_N (cb_u g1 0 4 0)) else (f_X9_settles_b44  g1)))
set_option maxRecDepth 100000 in
theorem C_X9_settles {O : cb_O} (hJ : cb_J O skM) (g : cb_S) : ∀ q, f_X9_settles g = some q → cb_m O skM true yX9_settles cX9_settles 1 none rm_X9_settles [.inr 0] g q := by
  intro q hq
  refine cb_of_body hJ (by decide) (Nat.le_of_ble_eq_true rfl) hq (fun M hok => ?_)
  show cb_j _ _ _ _ _ _ _ [some (.inr 0)] _ _ (cb_b (f_X9_looks g ) (fun r1 g1 => (v_X9_isStand g1 (g1 0 3)).bind (fun r2 => if cb_w r2 = 0 then (f_X9_settles_b20  cb_N (cb_u g1 0 4 0)) else (f_X9_settles_b44  g1))))
  refine cb_aload_n hok dX9_settles_0 rfl ?_
  refine cb_cvv (as := []) (rest := []) hok lk_RX9_162 (by decide) (by decide) dX9_settles_1 (fun q1 hq1 => C_X9_looks hJ _ q1 hq1) rfl rfl (Nat.le_of_ble_eq_true rfl) skM_b0 skM_c0 rfl (fun r1 g1 => ?_)
  refine cb_aload_n hok dX9_settles_4 rfl ?_
  refine cb_aload_n hok dX9_settles_5 rfl ?_
  refine cb_gi hok dX9_settles_6 fl_RX9_84 skM_b0 skM_c0 rfl ?_
  refine cb_cvr (as := [.inl (g1 0 3)]) (rest := []) hok lk_RX9_165 (by decide) (by decide) dX9_settles_9 (fun q1 hq1 => C_X9_isStand hJ _ _ q1 hq1) rfl rfl (Nat.le_of_ble_eq_true rfl) skM_b0 skM_c0 rfl (fun r2 => ?_)
  refine cb_ifne (tgt := 44) hok rfl dX9_settles_12 (by decide) (fun _ => ?_) (fun _ => ?_)
  · refine cb_fewer (ls' := [some (.inr 0)]) ⟨rfl, trivial⟩ ?_
    exact J_X9_settles_b44 hJ hok  _
  · refine cb_aload_n hok dX9_settles_15 rfl ?_
    refine cb_iconst hok dX9_settles_16 ?_
    refine cb_pi hok dX9_settles_17 fp_RX9_87 skM_b0 skM_c0 rfl ?_
    refine cb_fewer (ls' := [some (.inr 0)]) ⟨rfl, trivial⟩ ?_
    exact J_X9_settles_b20 hJ hok  cb_N _
/-! CaretBenchModel put(IIII)I -/
def f_X9_put_b99 (kk52 : Int → Int → Int → Int → Int → Int → Int → Int → Int → cb_S → Option (Int × cb_S)) (kk9 : Int → Int → Int → Int → Int → Int → Int → cb_S → Option (Int × cb_S)) (x1 x2 x3 x4 x5 x7 x8 x9 s0 : Int) (g : cb_S) : Option (Int × cb_S) := kk52 x1 x2 x3 x4 x5 s0 x7 x8 (x9 + (-8)) g
set_option maxRecDepth 100000 in
theorem J_X9_put_b99 {O : cb_O} {M : cb_M} (hJ : cb_J O skM) (hok : cb_ok O skM M cX9_put 11 RX9 (some .int)) {kk52 : Int → Int → Int → Int → Int → Int → Int → Int → Int → cb_S → Option (Int × cb_S)} {kk9 : Int → Int → Int → Int → Int → Int → Int → cb_S → Option (Int × cb_S)} (hk52 : ∀ (x1 x2 x3 x4 x5 x6 x7 x8 x9 : Int) (g : cb_S), cb_j O skM false rm_X9_put M 11 52 [some (.inr 0), some (.inl x1), some (.inl x2), some (.inl x3), some (.inl x4), some (.inl x5), some (.inl x6), some (.inl x7), some (.inl x8), some (.inl x9), none] [] g (kk52 x1 x2 x3 x4 x5 x6 x7 x8 x9 g)) (hk9 : ∀ (x1 x2 x3 x4 x5 x6 x7 : Int) (g : cb_S), cb_j O skM false rm_X9_put M 11 9 [some (.inr 0), some (.inl x1), some (.inl x2), some (.inl x3), some (.inl x4), some (.inl x5), some (.inl x6), some (.inl x7), none, none, none] [] g (kk9 x1 x2 x3 x4 x5 x6 x7 g)) : ∀ (x1 x2 x3 x4 x5 x7 x8 x9 s0 : Int) (g : cb_S), cb_j O skM false rm_X9_put M 11 99 [some (.inr 0), some (.inl x1), some (.inl x2), some (.inl x3), some (.inl x4), some (.inl x5), none, some (.inl x7), some (.inl x8), some (.inl x9), none] [.inl s0] g (f_X9_put_b99 kk52 kk9 x1 x2 x3 x4 x5 x7 x8 x9 s0 g) := by
  intro x1 x2 x3 x4 x5 x7 x8 x9 s0 g
  show cb_j _ _ _ _ _ _ _ _ _ _ (kk52 x1 x2 x3 x4 x5 s0 x7 x8 (x9 + (-8)) g)
  refine cb_istore (ls' := [some (.inr 0), some (.inl x1), some (.inl x2), some (.inl x3), some (.inl x4), some (.inl x5), some (.inl s0), some (.inl x7), some (.inl x8), some (.inl x9), none]) hok dX9_put_99 (by decide) rfl ?_
  refine cb_iinc (ls' := [some (.inr 0), some (.inl x1), some (.inl x2), some (.inl x3), some (.inl x4), some (.inl x5), some (.inl s0), some (.inl x7), some (.inl x8), some (.inl (x9 + (-8))), none]) hok dX9_put_101 rfl (by decide) rfl ?_
  refine cb_goto (tgt := 52) hok dX9_put_104 (by decide) ?_
  refine cb_fewer (ls' := [some (.inr 0), some (.inl x1), some (.inl x2), some (.inl x3), some (.inl x4), some (.inl x5), some (.inl s0), some (.inl x7), some (.inl x8), some (.inl (x9 + (-8))), none]) ⟨rfl, ⟨rfl, ⟨rfl, ⟨rfl, ⟨rfl, ⟨rfl, ⟨rfl, ⟨rfl, ⟨rfl, ⟨rfl, trivial⟩⟩⟩⟩⟩⟩⟩⟩⟩⟩ ?_
  exact hk52 _ _ _ _ _ _ _ _ _ _
def f_X9_put_b94 (kk52 : Int → Int → Int → Int → Int → Int → Int → Int → Int → cb_S → Option (Int × cb_S)) (kk9 : Int → Int → Int → Int → Int → Int → Int → cb_S → Option (Int × cb_S)) (x1 x2 x3 x4 x5 x7 x8 x9 : Int) (g : cb_S) : Option (Int × cb_S) := f_X9_put_b99 kk52 kk9 x1 x2 x3 x4 x5 x7 x8 x9 1 g
set_option maxRecDepth 100000 in
theorem J_X9_put_b94 {O : cb_O} {M : cb_M} (hJ : cb_J O skM) (hok : cb_ok O skM M cX9_put 11 RX9 (some .int)) {kk52 : Int → Int → Int → Int → Int → Int → Int → Int → Int → cb_S → Option (Int × cb_S)} {kk9 : Int → Int → Int → Int → Int → Int → Int → cb_S → Option (Int × cb_S)} (hk52 : ∀ (x1 x2 x3 x4 x5 x6 x7 x8 x9 : Int) (g : cb_S), cb_j O skM false rm_X9_put M 11 52 [some (.inr 0), some (.inl x1), some (.inl x2), some (.inl x3), some (.inl x4), some (.inl x5), some (.inl x6), some (.inl x7), some (.inl x8), some (.inl x9), none] [] g (kk52 x1 x2 x3 x4 x5 x6 x7 x8 x9 g)) (hk9 : ∀ (x1 x2 x3 x4 x5 x6 x7 : Int) (g : cb_S), cb_j O skM false rm_X9_put M 11 9 [some (.inr 0), some (.inl x1), some (.inl x2), some (.inl x3), some (.inl x4), some (.inl x5), some (.inl x6), some (.inl x7), none, none, none] [] g (kk9 x1 x2 x3 x4 x5 x6 x7 g)) : ∀ (x1 x2 x3 x4 x5 x7 x8 x9 : Int) (g : cb_S), cb_j O skM false rm_X9_put M 11 94 [some (.inr 0), some (.inl x1), some (.inl x2), some (.inl x3), some (.inl x4), some (.inl x5), none, some (.inl x7), some (.inl x8), some (.inl x9), none] [] g (f_X9_put_b94 kk52 kk9 x1 x2 x3 x4 x5 x7 x8 x9 g) := by
  intro x1 x2 x3 x4 x5 x7 x8 x9 g
  show cb_j _ _ _ _ _ _ _ _ _ _ (f_X9_put_b99 kk52 kk9 x1 x2 x3 x4 x5 x7 x8 x9 1 g)
  refine cb_iconst hok dX9_put_94 ?_
  refine cb_goto (tgt := 99) hok dX9_put_95 (by decide) ?_
  refine cb_fewer (ls' := [some (.inr 0), some (.inl x1), some (.inl x2), some (.inl x3), some (.inl x4), some (.inl x5), none, some (.inl x7), some (.inl x8), some (.inl x9), none]) ⟨rfl, ⟨rfl, ⟨rfl, ⟨rfl, ⟨rfl, ⟨rfl, ⟨rfl, ⟨rfl, ⟨rfl, trivial⟩⟩⟩⟩⟩⟩⟩⟩⟩ ?_
  exact J_X9_put_b99 hJ hok hk52 hk9 _ _ _ _ _ _ _ _ _ _
def f_X9_put_b98 (kk52 : Int → Int → Int → Int → Int → Int → Int → Int → Int → cb_S → Option (Int × cb_S)) (kk9 : Int → Int → Int → Int → Int → Int → Int → cb_S → Option (Int × cb_S)) (x1 x2 x3 x4 x5 x7 x8 x9 : Int) (g : cb_S) : Option (Int × cb_S) := f_X9_put_b99 kk52 kk9 x1 x2 x3 x4 x5 x7 x8 x9 0 g
set_option maxRecDepth 100000 in
theorem J_X9_put_b98 {O : cb_O} {M : cb_M} (hJ : cb_J O skM) (hok : cb_ok O skM M cX9_put 11 RX9 (some .int)) {kk52 : Int → Int → Int → Int → Int → Int → Int → Int → Int → cb_S → Option (Int × cb_S)} {kk9 : Int → Int → Int → Int → Int → Int → Int → cb_S → Option (Int × cb_S)} (hk52 : ∀ (x1 x2 x3 x4 x5 x6 x7 x8 x9 : Int) (g : cb_S), cb_j O skM false rm_X9_put M 11 52 [some (.inr 0), some (.inl x1), some (.inl x2), some (.inl x3), some (.inl x4), some (.inl x5), some (.inl x6), some (.inl x7), some (.inl x8), some (.inl x9), none] [] g (kk52 x1 x2 x3 x4 x5 x6 x7 x8 x9 g)) (hk9 : ∀ (x1 x2 x3 x4 x5 x6 x7 : Int) (g : cb_S), cb_j O skM false rm_X9_put M 11 9 [some (.inr 0), some (.inl x1), some (.inl x2), some (.inl x3), some (.inl x4), some (.inl x5), some (.inl x6), some (.inl x7), none, none, none] [] g (kk9 x1 x2 x3 x4 x5 x6 x7 g)) : ∀ (x1 x2 x3 x4 x5 x7 x8 x9 : Int) (g : cb_S), cb_j O skM false rm_X9_put M 11 98 [some (.inr 0), some (.inl x1), some (.inl x2), some (.inl x3), some (.inl x4), some (.inl x5), none, some (.inl x7), some (.inl x8), some (.inl x9), none] [] g (f_X9_put_b98 kk52 kk9 x1 x2 x3 x4 x5 x7 x8 x9 g) := by
  intro x1 x2 x3 x4 x5 x7 x8 x9 g
  show cb_j _ _ _ _ _ _ _ _ _ _ (f_X9_put_b99 kk52 kk9 x1 x2 x3 x4 x5 x7 x8 x9 0 g)
  refine cb_iconst hok dX9_put_98 ?_
  refine cb_fewer (ls' := [some (.inr 0), some (.inl x1), some (.inl x2), some (.inl x3), some (.inl x4), some (.inl x5), none, some (.inl x7), some (.inl x8), some (.inl x9), none]) ⟨rfl, ⟨rfl, ⟨rfl, ⟨rfl, ⟨rfl, ⟨rfl, ⟨rfl, ⟨rfl, ⟨rfl, trivial⟩⟩⟩⟩⟩⟩⟩⟩⟩ ?_
  exact J_X9_put_b99 hJ hok hk52 hk9 _ _ _ _ _ _ _ _ _ _
def f_X9_put_b76 (kk52 : Int → Int → Int → Int → Int → Int → Int → Int → Int → cb_S → Option (Int × cb_S)) (kk9 : Int → Int → Int → Int → Int → Int → Int → cb_S → Option (Int × cb_S)) (x1 x2 x3 x4 x5 x6 x7 x8 x9 x10 : Int) (g : cb_S) : Option (Int × cb_S) := if cb_w x6 = 0 then (f_X9_put_b98 kk52 kk9 x1 x2 x3 x4 x5 x7 x8 x9 g) else (if cb_w x10 = 0 then (f_X9_put_b94 kk52 kk9 x1 x2 x3 x4 x5 x7 x8 x9 g) else ((v_X9_isSign g x10).bind (fun r1 => if cb_w r1 = 0 then (f_X9_put_b98 kk52 kk9 x1 x2 x3 x4 x5 x7 x8 x9 g) else (f_X9_put_b94 kk52 kk9 x1 x2 x3 x4 x5 x7 x8 x9 g))))
set_option maxRecDepth 100000 in
theorem J_X9_put_b76 {O : cb_O} {M : cb_M} (hJ : cb_J O skM) (hok : cb_ok O skM M cX9_put 11 RX9 (some .int)) {kk52 : Int → Int → Int → Int → Int → Int → Int → Int → Int → cb_S → Option (Int × cb_S)} {kk9 : Int → Int → Int → Int → Int → Int → Int → cb_S → Option (Int × cb_S)} (hk52 : ∀ (x1 x2 x3 x4 x5 x6 x7 x8 x9 : Int) (g : cb_S), cb_j O skM false rm_X9_put M 11 52 [some (.inr 0), some (.inl x1), some (.inl x2), some (.inl x3), some (.inl x4), some (.inl x5), some (.inl x6), some (.inl x7), some (.inl x8), some (.inl x9), none] [] g (kk52 x1 x2 x3 x4 x5 x6 x7 x8 x9 g)) (hk9 : ∀ (x1 x2 x3 x4 x5 x6 x7 : Int) (g : cb_S), cb_j O skM false rm_X9_put M 11 9 [some (.inr 0), some (.inl x1), some (.inl x2), some (.inl x3), some (.inl x4), some (.inl x5), some (.inl x6), some (.inl x7), none, none, none] [] g (kk9 x1 x2 x3 x4 x5 x6 x7 g)) : ∀ (x1 x2 x3 x4 x5 x6 x7 x8 x9 x10 : Int) (g : cb_S), cb_j O skM false rm_X9_put M 11 76 [some (.inr 0), some (.inl x1), some (.inl x2), some (.inl x3), some (.inl x4), some (.inl x5), some (.inl x6), some (.inl x7), some (.inl x8), some (.inl x9), some (.inl x10)] [] g (f_X9_put_b76 kk52 kk9 x1 x2 x3 x4 x5 x6 x7 x8 x9 x10 g) := by
  intro x1 x2 x3 x4 x5 x6 x7 x8 x9 x10 g
  show cb_j _ _ _ _ _ _ _ _ _ _ (if cb_w x6 = 0 then (f_X9_put_b98 kk52 kk9 x1 x2 x3 x4 x5 x7 x8 x9 g) else (if cb_w x10 = 0 then (f_X9_put_b94 kk52 kk9 x1 x2 x3 x4 x5 x7 x8 x9 g) else ((v_X9_isSign g x10).bind (fun r1 => if cb_w r1 = 0 then (f_X9_put_b98 kk52 kk9 x1 x2 x3 x4 x5 x7 x8 x9 g) else (f_X9_put_b94 kk52 kk9 x1 x2 x3 x4 x5 x7 x8 x9 g)))))
  refine cb_iload hok dX9_put_76 rfl ?_
  refine cb_ifeq (tgt := 98) hok rfl dX9_put_78 (by decide) (fun _ => ?_) (fun _ => ?_)
  · refine cb_fewer (ls' := [some (.inr 0), some (.inl x1), some (.inl x2), some (.inl x3), some (.inl x4), some (.inl x5), none, some (.inl x7), some (.inl x8), some (.inl x9), none]) ⟨rfl, ⟨rfl, ⟨rfl, ⟨rfl, ⟨rfl, ⟨rfl, ⟨rfl, ⟨rfl, ⟨rfl, trivial⟩⟩⟩⟩⟩⟩⟩⟩⟩ ?_
    exact J_X9_put_b98 hJ hok hk52 hk9 _ _ _ _ _ _ _ _ _
  · refine cb_iload hok dX9_put_81 rfl ?_
    refine cb_ifeq (tgt := 94) hok rfl dX9_put_83 (by decide) (fun _ => ?_) (fun _ => ?_)
    · refine cb_fewer (ls' := [some (.inr 0), some (.inl x1), some (.inl x2), some (.inl x3), some (.inl x4), some (.inl x5), none, some (.inl x7), some (.inl x8), some (.inl x9), none]) ⟨rfl, ⟨rfl, ⟨rfl, ⟨rfl, ⟨rfl, ⟨rfl, ⟨rfl, ⟨rfl, ⟨rfl, trivial⟩⟩⟩⟩⟩⟩⟩⟩⟩ ?_
      exact J_X9_put_b94 hJ hok hk52 hk9 _ _ _ _ _ _ _ _ _
    · refine cb_iload hok dX9_put_86 rfl ?_
      refine cb_csr (as := [.inl x10]) (rest := []) hok lk_RX9_168 (by decide) (by decide) dX9_put_88 (fun q1 hq1 => C_X9_isSign hJ _ _ q1 hq1) rfl rfl (Nat.le_of_ble_eq_true rfl) (fun r1 => ?_)
      refine cb_ifeq (tgt := 98) hok rfl dX9_put_91 (by decide) (fun _ => ?_) (fun _ => ?_)
      · refine cb_fewer (ls' := [some (.inr 0), some (.inl x1), some (.inl x2), some (.inl x3), some (.inl x4), some (.inl x5), none, some (.inl x7), some (.inl x8), some (.inl x9), none]) ⟨rfl, ⟨rfl, ⟨rfl, ⟨rfl, ⟨rfl, ⟨rfl, ⟨rfl, ⟨rfl, ⟨rfl, trivial⟩⟩⟩⟩⟩⟩⟩⟩⟩ ?_
        exact J_X9_put_b98 hJ hok hk52 hk9 _ _ _ _ _ _ _ _ _
      · refine cb_fewer (ls' := [some (.inr 0), some (.inl x1), some (.inl x2), some (.inl x3), some (.inl x4), some (.inl x5), none, some (.inl x7), some (.inl x8), some (.inl x9), none]) ⟨rfl, ⟨rfl, ⟨rfl, ⟨rfl, ⟨rfl, ⟨rfl, ⟨rfl, ⟨rfl, ⟨rfl, trivial⟩⟩⟩⟩⟩⟩⟩⟩⟩ ?_
        exact J_X9_put_b94 hJ hok hk52 hk9 _ _ _ _ _ _ _ _ _
def f_X9_put_b52 (kk9 : Int → Int → Int → Int → Int → Int → Int → cb_S → Option (Int × cb_S)) : Nat → Int → Int → Int → Int → Int → Int → Int → Int → Int → cb_S → Option (Int × cb_S)
  | 0 => fun _ _ _ _ _ _ _ _ _ _ => none
  | n + 1 => fun x1 x2 x3 x4 x5 x6 x7 x8 x9 g => if cb_w x9 < 0 then (kk9 x1 x2 x3 x4 x5 x6 (x7 + 1) g) else (if cb_w ((cb_w x8 / 2 ^ (x9 % 32).toNat) % 256) = 0 then (f_X9_put_b76 (f_X9_put_b52 kk9 n) kk9 x1 x2 x3 x4 x5 x6 x7 x8 x9 ((cb_w x8 / 2 ^ (x9 % 32).toNat) % 256) g) else (f_X9_put_b76 (f_X9_put_b52 kk9 n) kk9 x1 x2 x3 x4 (x5 + 1) x6 x7 x8 x9 ((cb_w x8 / 2 ^ (x9 % 32).toNat) % 256) g))
set_option maxRecDepth 100000 in
theorem J_X9_put_b52 {O : cb_O} {M : cb_M} (hJ : cb_J O skM) (hok : cb_ok O skM M cX9_put 11 RX9 (some .int)) {kk9 : Int → Int → Int → Int → Int → Int → Int → cb_S → Option (Int × cb_S)} (hk9 : ∀ (x1 x2 x3 x4 x5 x6 x7 : Int) (g : cb_S), cb_j O skM false rm_X9_put M 11 9 [some (.inr 0), some (.inl x1), some (.inl x2), some (.inl x3), some (.inl x4), some (.inl x5), some (.inl x6), some (.inl x7), none, none, none] [] g (kk9 x1 x2 x3 x4 x5 x6 x7 g)) : ∀ (n : Nat) (x1 x2 x3 x4 x5 x6 x7 x8 x9 : Int) (g : cb_S), cb_j O skM false rm_X9_put M 11 52 [some (.inr 0), some (.inl x1), some (.inl x2), some (.inl x3), some (.inl x4), some (.inl x5), some (.inl x6), some (.inl x7), some (.inl x8), some (.inl x9), none] [] g (f_X9_put_b52 kk9 n x1 x2 x3 x4 x5 x6 x7 x8 x9 g) := by
  intro n
  induction n with
  | zero => intros; exact cb_none
  | succ n hk52 =>
    intro x1 x2 x3 x4 x5 x6 x7 x8 x9 g
    show cb_j _ _ _ _ _ _ _ _ _ _ (if cb_w x9 < 0 then (kk9 x1 x2 x3 x4 x5 x6 (x7 + 1) g) else (if cb_w ((cb_w x8 / 2 ^ (x9 % 32).toNat) % 256) = 0 then (f_X9_put_b76 (f_X9_put_b52 kk9 n) kk9 x1 x2 x3 x4 x5 x6 x7 x8 x9 ((cb_w x8 / 2 ^ (x9 % 32).toNat) % 256) g) else (f_X9_put_b76 (f_X9_put_b52 kk9 n) kk9 x1 x2 x3 x4 (x5 + 1) x6 x7 x8 x9 ((cb_w x8 / 2 ^ (x9 % 32).toNat) % 256) g)))
    refine cb_iload hok dX9_put_52 rfl ?_
    refine cb_iflt (tgt := 107) hok rfl dX9_put_54 (by decide) (fun _ => ?_) (fun _ => ?_)
    · refine cb_iinc (ls' := [some (.inr 0), some (.inl x1), some (.inl x2), some (.inl x3), some (.inl x4), some (.inl x5), some (.inl x6), some (.inl (x7 + 1)), some (.inl x8), some (.inl x9), none]) hok dX9_put_107 rfl (by decide) rfl ?_
      refine cb_goto (tgt := 9) hok dX9_put_110 (by decide) ?_
      refine cb_fewer (ls' := [some (.inr 0), some (.inl x1), some (.inl x2), some (.inl x3), some (.inl x4), some (.inl x5), some (.inl x6), some (.inl (x7 + 1)), none, none, none]) ⟨rfl, ⟨rfl, ⟨rfl, ⟨rfl, ⟨rfl, ⟨rfl, ⟨rfl, ⟨rfl, trivial⟩⟩⟩⟩⟩⟩⟩⟩ ?_
      exact hk9 _ _ _ _ _ _ _ _
    · refine cb_iload hok dX9_put_57 rfl ?_
      refine cb_iload hok dX9_put_59 rfl ?_
      refine cb_ishr hok dX9_put_61 ?_
      refine cb_sipush hok dX9_put_62 (by decide) ?_
      refine cb_iand hok dX9_put_65 (cb_and255 _) ?_
      refine cb_istore (ls' := [some (.inr 0), some (.inl x1), some (.inl x2), some (.inl x3), some (.inl x4), some (.inl x5), some (.inl x6), some (.inl x7), some (.inl x8), some (.inl x9), some (.inl ((cb_w x8 / 2 ^ (x9 % 32).toNat) % 256))]) hok dX9_put_66 (by decide) rfl ?_
      refine cb_iload hok dX9_put_68 rfl ?_
      refine cb_ifeq (tgt := 76) hok rfl dX9_put_70 (by decide) (fun _ => ?_) (fun _ => ?_)
      · refine cb_fewer (ls' := [some (.inr 0), some (.inl x1), some (.inl x2), some (.inl x3), some (.inl x4), some (.inl x5), some (.inl x6), some (.inl x7), some (.inl x8), some (.inl x9), some (.inl ((cb_w x8 / 2 ^ (x9 % 32).toNat) % 256))]) ⟨rfl, ⟨rfl, ⟨rfl, ⟨rfl, ⟨rfl, ⟨rfl, ⟨rfl, ⟨rfl, ⟨rfl, ⟨rfl, ⟨rfl, trivial⟩⟩⟩⟩⟩⟩⟩⟩⟩⟩⟩ ?_
        exact J_X9_put_b76 hJ hok hk52 hk9 _ _ _ _ _ _ _ _ _ _ _
      · refine cb_iinc (ls' := [some (.inr 0), some (.inl x1), some (.inl x2), some (.inl x3), some (.inl x4), some (.inl (x5 + 1)), some (.inl x6), some (.inl x7), some (.inl x8), some (.inl x9), some (.inl ((cb_w x8 / 2 ^ (x9 % 32).toNat) % 256))]) hok dX9_put_73 rfl (by decide) rfl ?_
        refine cb_fewer (ls' := [some (.inr 0), some (.inl x1), some (.inl x2), some (.inl x3), some (.inl x4), some (.inl (x5 + 1)), some (.inl x6), some (.inl x7), some (.inl x8), some (.inl x9), some (.inl ((cb_w x8 / 2 ^ (x9 % 32).toNat) % 256))]) ⟨rfl, ⟨rfl, ⟨rfl, ⟨rfl, ⟨rfl, ⟨rfl, ⟨rfl, ⟨rfl, ⟨rfl, ⟨rfl, ⟨rfl, trivial⟩⟩⟩⟩⟩⟩⟩⟩⟩⟩⟩ ?_
        exact J_X9_put_b76 hJ hok hk52 hk9 _ _ _ _ _ _ _ _ _ _ _
def f_X9_put_b46 (kk9 : Int → Int → Int → Int → Int → Int → Int → cb_S → Option (Int × cb_S)) (x1 x2 x3 x4 x5 x6 x7 s0 : Int) (g : cb_S) : Option (Int × cb_S) := f_X9_put_b52 kk9 cb_N x1 x2 x3 x4 x5 x6 x7 s0 24 g
set_option maxRecDepth 100000 in
theorem J_X9_put_b46 {O : cb_O} {M : cb_M} (hJ : cb_J O skM) (hok : cb_ok O skM M cX9_put 11 RX9 (some .int)) {kk9 : Int → Int → Int → Int → Int → Int → Int → cb_S → Option (Int × cb_S)} (hk9 : ∀ (x1 x2 x3 x4 x5 x6 x7 : Int) (g : cb_S), cb_j O skM false rm_X9_put M 11 9 [some (.inr 0), some (.inl x1), some (.inl x2), some (.inl x3), some (.inl x4), some (.inl x5), some (.inl x6), some (.inl x7), none, none, none] [] g (kk9 x1 x2 x3 x4 x5 x6 x7 g)) : ∀ (x1 x2 x3 x4 x5 x6 x7 s0 : Int) (g : cb_S), cb_j O skM false rm_X9_put M 11 46 [some (.inr 0), some (.inl x1), some (.inl x2), some (.inl x3), some (.inl x4), some (.inl x5), some (.inl x6), some (.inl x7), none, none, none] [.inl s0] g (f_X9_put_b46 kk9 x1 x2 x3 x4 x5 x6 x7 s0 g) := by
  intro x1 x2 x3 x4 x5 x6 x7 s0 g
  show cb_j _ _ _ _ _ _ _ _ _ _ (f_X9_put_b52 kk9 cb_N x1 x2 x3 x4 x5 x6 x7 s0 24 g)
  refine cb_istore (ls' := [some (.inr 0), some (.inl x1), some (.inl x2), some (.inl x3), some (.inl x4), some (.inl x5), some (.inl x6), some (.inl x7), some (.inl s0), none, none]) hok dX9_put_46 (by decide) rfl ?_
  refine cb_bipush hok dX9_put_48 (by decide) ?_
  refine cb_istore (ls' := [some (.inr 0), some (.inl x1), some (.inl x2), some (.inl x3), some (.inl x4), some (.inl x5), some (.inl x6), some (.inl x7), some (.inl s0), some (.inl 24), none]) hok dX9_put_50 (by decide) rfl ?_
  refine cb_fewer (ls' := [some (.inr 0), some (.inl x1), some (.inl x2), some (.inl x3), some (.inl x4), some (.inl x5), some (.inl x6), some (.inl x7), some (.inl s0), some (.inl 24), none]) ⟨rfl, ⟨rfl, ⟨rfl, ⟨rfl, ⟨rfl, ⟨rfl, ⟨rfl, ⟨rfl, ⟨rfl, ⟨rfl, trivial⟩⟩⟩⟩⟩⟩⟩⟩⟩⟩ ?_
  exact J_X9_put_b52 hJ hok hk9 cb_N _ _ _ _ _ _ _ _ _ _
def f_X9_put_b235 (kk190 : Int → Int → Int → Int → Int → Int → Int → cb_S → Option (Int × cb_S)) (kk147 : Int → Int → Int → Int → Int → cb_S → Option (Int × cb_S)) (x1 x2 x3 x4 x7 x8 x9 : Int) (g : cb_S) : Option (Int × cb_S) := kk190 x1 x2 x3 x4 x7 x8 (x9 + (-8)) g
set_option maxRecDepth 100000 in
theorem J_X9_put_b235 {O : cb_O} {M : cb_M} (hJ : cb_J O skM) (hok : cb_ok O skM M cX9_put 11 RX9 (some .int)) {kk190 : Int → Int → Int → Int → Int → Int → Int → cb_S → Option (Int × cb_S)} {kk147 : Int → Int → Int → Int → Int → cb_S → Option (Int × cb_S)} (hk190 : ∀ (x1 x2 x3 x4 x7 x8 x9 : Int) (g : cb_S), cb_j O skM false rm_X9_put M 11 190 [some (.inr 0), some (.inl x1), some (.inl x2), some (.inl x3), some (.inl x4), none, none, some (.inl x7), some (.inl x8), some (.inl x9), none] [] g (kk190 x1 x2 x3 x4 x7 x8 x9 g)) (hk147 : ∀ (x1 x2 x3 x4 x7 : Int) (g : cb_S), cb_j O skM false rm_X9_put M 11 147 [some (.inr 0), some (.inl x1), some (.inl x2), some (.inl x3), some (.inl x4), none, none, some (.inl x7), none, none, none] [] g (kk147 x1 x2 x3 x4 x7 g)) : ∀ (x1 x2 x3 x4 x7 x8 x9 : Int) (g : cb_S), cb_j O skM false rm_X9_put M 11 235 [some (.inr 0), some (.inl x1), some (.inl x2), some (.inl x3), some (.inl x4), none, none, some (.inl x7), some (.inl x8), some (.inl x9), none] [] g (f_X9_put_b235 kk190 kk147 x1 x2 x3 x4 x7 x8 x9 g) := by
  intro x1 x2 x3 x4 x7 x8 x9 g
  show cb_j _ _ _ _ _ _ _ _ _ _ (kk190 x1 x2 x3 x4 x7 x8 (x9 + (-8)) g)
  refine cb_iinc (ls' := [some (.inr 0), some (.inl x1), some (.inl x2), some (.inl x3), some (.inl x4), none, none, some (.inl x7), some (.inl x8), some (.inl (x9 + (-8))), none]) hok dX9_put_235 rfl (by decide) rfl ?_
  refine cb_goto (tgt := 190) hok dX9_put_238 (by decide) ?_
  refine cb_fewer (ls' := [some (.inr 0), some (.inl x1), some (.inl x2), some (.inl x3), some (.inl x4), none, none, some (.inl x7), some (.inl x8), some (.inl (x9 + (-8))), none]) ⟨rfl, ⟨rfl, ⟨rfl, ⟨rfl, ⟨rfl, ⟨rfl, ⟨rfl, ⟨rfl, trivial⟩⟩⟩⟩⟩⟩⟩⟩ ?_
  exact hk190 _ _ _ _ _ _ _ _
def f_X9_put_b190 (kk147 : Int → Int → Int → Int → Int → cb_S → Option (Int × cb_S)) : Nat → Int → Int → Int → Int → Int → Int → Int → cb_S → Option (Int × cb_S)
  | 0 => fun _ _ _ _ _ _ _ _ => none
  | n + 1 => fun x1 x2 x3 x4 x7 x8 x9 g => if cb_w x9 < 0 then (kk147 x1 x2 x3 x4 (x7 + 1) g) else (if cb_w ((cb_w x8 / 2 ^ (x9 % 32).toNat) % 256) = 0 then (f_X9_put_b235 (f_X9_put_b190 kk147 n) kk147 x1 x2 x3 x4 x7 x8 x9 g) else (if 0 ≤ cb_w (g 0 1) ∧ cb_w (g 0 1) < (64 : Nat) then (f_X9_put_b235 (f_X9_put_b190 kk147 n) kk147 x1 x2 x3 x4 x7 x8 x9 (cb_u (cb_u g 1 (cb_w (g 0 1)).toNat ((cb_w x8 / 2 ^ (x9 % 32).toNat) % 256)) 0 1 ((g 0 1) + 1))) else none))
set_option maxRecDepth 100000 in
theorem J_X9_put_b190 {O : cb_O} {M : cb_M} (hJ : cb_J O skM) (hok : cb_ok O skM M cX9_put 11 RX9 (some .int)) {kk147 : Int → Int → Int → Int → Int → cb_S → Option (Int × cb_S)} (hk147 : ∀ (x1 x2 x3 x4 x7 : Int) (g : cb_S), cb_j O skM false rm_X9_put M 11 147 [some (.inr 0), some (.inl x1), some (.inl x2), some (.inl x3), some (.inl x4), none, none, some (.inl x7), none, none, none] [] g (kk147 x1 x2 x3 x4 x7 g)) : ∀ (n : Nat) (x1 x2 x3 x4 x7 x8 x9 : Int) (g : cb_S), cb_j O skM false rm_X9_put M 11 190 [some (.inr 0), some (.inl x1), some (.inl x2), some (.inl x3), some (.inl x4), none, none, some (.inl x7), some (.inl x8), some (.inl x9), none] [] g (f_X9_put_b190 kk147 n x1 x2 x3 x4 x7 x8 x9 g) := by
  intro n
  induction n with
  | zero => intros; exact cb_none
  | succ n hk190 =>
    intro x1 x2 x3 x4 x7 x8 x9 g
    show cb_j _ _ _ _ _ _ _ _ _ _ (if cb_w x9 < 0 then (kk147 x1 x2 x3 x4 (x7 + 1) g) else (if cb_w ((cb_w x8 / 2 ^ (x9 % 32).toNat) % 256) = 0 then (f_X9_put_b235 (f_X9_put_b190 kk147 n) kk147 x1 x2 x3 x4 x7 x8 x9 g) else (if 0 ≤ cb_w (g 0 1) ∧ cb_w (g 0 1) < (64 : Nat) then (f_X9_put_b235 (f_X9_put_b190 kk147 n) kk147 x1 x2 x3 x4 x7 x8 x9 (cb_u (cb_u g 1 (cb_w (g 0 1)).toNat ((cb_w x8 / 2 ^ (x9 % 32).toNat) % 256)) 0 1 ((g 0 1) + 1))) else none)))
    refine cb_iload hok dX9_put_190 rfl ?_
    refine cb_iflt (tgt := 241) hok rfl dX9_put_192 (by decide) (fun _ => ?_) (fun _ => ?_)
    · refine cb_iinc (ls' := [some (.inr 0), some (.inl x1), some (.inl x2), some (.inl x3), some (.inl x4), none, none, some (.inl (x7 + 1)), some (.inl x8), some (.inl x9), none]) hok dX9_put_241 rfl (by decide) rfl ?_
      refine cb_goto (tgt := 147) hok dX9_put_244 (by decide) ?_
      refine cb_fewer (ls' := [some (.inr 0), some (.inl x1), some (.inl x2), some (.inl x3), some (.inl x4), none, none, some (.inl (x7 + 1)), none, none, none]) ⟨rfl, ⟨rfl, ⟨rfl, ⟨rfl, ⟨rfl, ⟨rfl, trivial⟩⟩⟩⟩⟩⟩ ?_
      exact hk147 _ _ _ _ _ _
    · refine cb_iload hok dX9_put_195 rfl ?_
      refine cb_iload hok dX9_put_197 rfl ?_
      refine cb_ishr hok dX9_put_199 ?_
      refine cb_sipush hok dX9_put_200 (by decide) ?_
      refine cb_iand hok dX9_put_203 (cb_and255 _) ?_
      refine cb_istore (ls' := [some (.inr 0), some (.inl x1), some (.inl x2), some (.inl x3), some (.inl x4), none, none, some (.inl x7), some (.inl x8), some (.inl x9), some (.inl ((cb_w x8 / 2 ^ (x9 % 32).toNat) % 256))]) hok dX9_put_204 (by decide) rfl ?_
      refine cb_iload hok dX9_put_206 rfl ?_
      refine cb_ifne (tgt := 214) hok rfl dX9_put_208 (by decide) (fun _ => ?_) (fun _ => ?_)
      · refine cb_aload_n hok dX9_put_214 rfl ?_
        refine cb_gr hok dX9_put_215 fl_RX9_7 skM_b0 skM_c0 rfl ?_
        refine cb_aload_n hok dX9_put_218 rfl ?_
        refine cb_gi hok dX9_put_219 fl_RX9_81 skM_b0 skM_c0 rfl ?_
        refine cb_iload hok dX9_put_222 rfl ?_
        refine cb_iast hok dX9_put_224 skM_b1 skM_c1 ?_
        refine cb_aload_n hok dX9_put_225 rfl ?_
        refine cb_dup hok dX9_put_226 ?_
        refine cb_gi hok dX9_put_227 fl_RX9_81 skM_b0 skM_c0 rfl ?_
        refine cb_top (y := g 0 1) rfl ?_
        refine cb_iconst hok dX9_put_230 ?_
        refine cb_iadd hok dX9_put_231 ?_
        refine cb_pi hok dX9_put_232 fp_RX9_81 skM_b0 skM_c0 rfl ?_
        refine cb_fewer (ls' := [some (.inr 0), some (.inl x1), some (.inl x2), some (.inl x3), some (.inl x4), none, none, some (.inl x7), some (.inl x8), some (.inl x9), none]) ⟨rfl, ⟨rfl, ⟨rfl, ⟨rfl, ⟨rfl, ⟨rfl, ⟨rfl, ⟨rfl, trivial⟩⟩⟩⟩⟩⟩⟩⟩ ?_
        exact J_X9_put_b235 hJ hok hk190 hk147 _ _ _ _ _ _ _ _
      · refine cb_goto (tgt := 235) hok dX9_put_211 (by decide) ?_
        refine cb_fewer (ls' := [some (.inr 0), some (.inl x1), some (.inl x2), some (.inl x3), some (.inl x4), none, none, some (.inl x7), some (.inl x8), some (.inl x9), none]) ⟨rfl, ⟨rfl, ⟨rfl, ⟨rfl, ⟨rfl, ⟨rfl, ⟨rfl, ⟨rfl, trivial⟩⟩⟩⟩⟩⟩⟩⟩ ?_
        exact J_X9_put_b235 hJ hok hk190 hk147 _ _ _ _ _ _ _ _
def f_X9_put_b184 (kk147 : Int → Int → Int → Int → Int → cb_S → Option (Int × cb_S)) (x1 x2 x3 x4 x7 s0 : Int) (g : cb_S) : Option (Int × cb_S) := f_X9_put_b190 kk147 cb_N x1 x2 x3 x4 x7 s0 24 g
set_option maxRecDepth 100000 in
theorem J_X9_put_b184 {O : cb_O} {M : cb_M} (hJ : cb_J O skM) (hok : cb_ok O skM M cX9_put 11 RX9 (some .int)) {kk147 : Int → Int → Int → Int → Int → cb_S → Option (Int × cb_S)} (hk147 : ∀ (x1 x2 x3 x4 x7 : Int) (g : cb_S), cb_j O skM false rm_X9_put M 11 147 [some (.inr 0), some (.inl x1), some (.inl x2), some (.inl x3), some (.inl x4), none, none, some (.inl x7), none, none, none] [] g (kk147 x1 x2 x3 x4 x7 g)) : ∀ (x1 x2 x3 x4 x7 s0 : Int) (g : cb_S), cb_j O skM false rm_X9_put M 11 184 [some (.inr 0), some (.inl x1), some (.inl x2), some (.inl x3), some (.inl x4), none, none, some (.inl x7), none, none, none] [.inl s0] g (f_X9_put_b184 kk147 x1 x2 x3 x4 x7 s0 g) := by
  intro x1 x2 x3 x4 x7 s0 g
  show cb_j _ _ _ _ _ _ _ _ _ _ (f_X9_put_b190 kk147 cb_N x1 x2 x3 x4 x7 s0 24 g)
  refine cb_istore (ls' := [some (.inr 0), some (.inl x1), some (.inl x2), some (.inl x3), some (.inl x4), none, none, some (.inl x7), some (.inl s0), none, none]) hok dX9_put_184 (by decide) rfl ?_
  refine cb_bipush hok dX9_put_186 (by decide) ?_
  refine cb_istore (ls' := [some (.inr 0), some (.inl x1), some (.inl x2), some (.inl x3), some (.inl x4), none, none, some (.inl x7), some (.inl s0), some (.inl 24), none]) hok dX9_put_188 (by decide) rfl ?_
  refine cb_fewer (ls' := [some (.inr 0), some (.inl x1), some (.inl x2), some (.inl x3), some (.inl x4), none, none, some (.inl x7), some (.inl s0), some (.inl 24), none]) ⟨rfl, ⟨rfl, ⟨rfl, ⟨rfl, ⟨rfl, ⟨rfl, ⟨rfl, ⟨rfl, trivial⟩⟩⟩⟩⟩⟩⟩⟩ ?_
  exact J_X9_put_b190 hJ hok hk147 cb_N _ _ _ _ _ _ _ _
def f_X9_put_b147 : Nat → Int → Int → Int → Int → Int → cb_S → Option (Int × cb_S)
  | 0 => fun _ _ _ _ _ _ => none
  | n + 1 => fun x1 x2 x3 x4 x7 g => if 4 ≤ cb_w x7 then (cb_b (f_X9_settles g ) (fun r1 g1 => some (g1 0 1, g1))) else (if cb_w x7 = 0 then (f_X9_put_b184 (f_X9_put_b147 n) x1 x2 x3 x4 x7 x1 g) else (if cb_w x7 = 1 then (f_X9_put_b184 (f_X9_put_b147 n) x1 x2 x3 x4 x7 x2 g) else (if cb_w x7 = 2 then (f_X9_put_b184 (f_X9_put_b147 n) x1 x2 x3 x4 x7 x3 g) else (f_X9_put_b184 (f_X9_put_b147 n) x1 x2 x3 x4 x7 x4 g))))
set_option maxRecDepth 100000 in
theorem J_X9_put_b147 {O : cb_O} {M : cb_M} (hJ : cb_J O skM) (hok : cb_ok O skM M cX9_put 11 RX9 (some .int)) : ∀ (n : Nat) (x1 x2 x3 x4 x7 : Int) (g : cb_S), cb_j O skM false rm_X9_put M 11 147 [some (.inr 0), some (.inl x1), some (.inl x2), some (.inl x3), some (.inl x4), none, none, some (.inl x7), none, none, none] [] g (f_X9_put_b147 n x1 x2 x3 x4 x7 g) := by
  intro n
  induction n with
  | zero => intros; exact cb_none
  | succ n hk147 =>
    intro x1 x2 x3 x4 x7 g
    show cb_j _ _ _ _ _ _ _ _ _ _ (if 4 ≤ cb_w x7 then (cb_b (f_X9_settles g ) (fun r1 g1 => some (g1 0 1, g1))) else (if cb_w x7 = 0 then (f_X9_put_b184 (f_X9_put_b147 n) x1 x2 x3 x4 x7 x1 g) else (if cb_w x7 = 1 then (f_X9_put_b184 (f_X9_put_b147 n) x1 x2 x3 x4 x7 x2 g) else (if cb_w x7 = 2 then (f_X9_put_b184 (f_X9_put_b147 n) x1 x2 x3 x4 x7 x3 g) else (f_X9_put_b184 (f_X9_put_b147 n) x1 x2 x3 x4 x7 x4 g)))))
    refine cb_iload hok dX9_put_147 rfl ?_
    refine cb_iconst hok dX9_put_149 ?_
    refine cb_icge (tgt := 247) hok rfl (by decide) dX9_put_150 (by decide) (fun _ => ?_) (fun _ => ?_)
    · refine cb_aload_n hok dX9_put_247 rfl ?_
      refine cb_cvv (as := []) (rest := []) hok lk_RX9_174 (by decide) (by decide) dX9_put_248 (fun q1 hq1 => C_X9_settles hJ _ q1 hq1) rfl rfl (Nat.le_of_ble_eq_true rfl) skM_b0 skM_c0 rfl (fun r1 g1 => ?_)
      refine cb_aload_n hok dX9_put_251 rfl ?_
      refine cb_gi hok dX9_put_252 fl_RX9_81 skM_b0 skM_c0 rfl ?_
      exact cb_iret hok dX9_put_255
    · refine cb_iload hok dX9_put_153 rfl ?_
      refine cb_ifne (tgt := 162) hok rfl dX9_put_155 (by decide) (fun _ => ?_) (fun _ => ?_)
      · refine cb_iload hok dX9_put_162 rfl ?_
        refine cb_iconst hok dX9_put_164 ?_
        refine cb_icne (tgt := 172) hok rfl (by decide) dX9_put_165 (by decide) (fun _ => ?_) (fun _ => ?_)
        · refine cb_iload hok dX9_put_172 rfl ?_
          refine cb_iconst hok dX9_put_174 ?_
          refine cb_icne (tgt := 182) hok rfl (by decide) dX9_put_175 (by decide) (fun _ => ?_) (fun _ => ?_)
          · refine cb_iload hok dX9_put_182 rfl ?_
            refine cb_fewer (ls' := [some (.inr 0), some (.inl x1), some (.inl x2), some (.inl x3), some (.inl x4), none, none, some (.inl x7), none, none, none]) ⟨rfl, ⟨rfl, ⟨rfl, ⟨rfl, ⟨rfl, ⟨rfl, trivial⟩⟩⟩⟩⟩⟩ ?_
            exact J_X9_put_b184 hJ hok hk147 _ _ _ _ _ _ _
          · refine cb_iload_n hok dX9_put_178 rfl ?_
            refine cb_goto (tgt := 184) hok dX9_put_179 (by decide) ?_
            refine cb_fewer (ls' := [some (.inr 0), some (.inl x1), some (.inl x2), some (.inl x3), some (.inl x4), none, none, some (.inl x7), none, none, none]) ⟨rfl, ⟨rfl, ⟨rfl, ⟨rfl, ⟨rfl, ⟨rfl, trivial⟩⟩⟩⟩⟩⟩ ?_
            exact J_X9_put_b184 hJ hok hk147 _ _ _ _ _ _ _
        · refine cb_iload_n hok dX9_put_168 rfl ?_
          refine cb_goto (tgt := 184) hok dX9_put_169 (by decide) ?_
          refine cb_fewer (ls' := [some (.inr 0), some (.inl x1), some (.inl x2), some (.inl x3), some (.inl x4), none, none, some (.inl x7), none, none, none]) ⟨rfl, ⟨rfl, ⟨rfl, ⟨rfl, ⟨rfl, ⟨rfl, trivial⟩⟩⟩⟩⟩⟩ ?_
          exact J_X9_put_b184 hJ hok hk147 _ _ _ _ _ _ _
      · refine cb_iload_n hok dX9_put_158 rfl ?_
        refine cb_goto (tgt := 184) hok dX9_put_159 (by decide) ?_
        refine cb_fewer (ls' := [some (.inr 0), some (.inl x1), some (.inl x2), some (.inl x3), some (.inl x4), none, none, some (.inl x7), none, none, none]) ⟨rfl, ⟨rfl, ⟨rfl, ⟨rfl, ⟨rfl, ⟨rfl, trivial⟩⟩⟩⟩⟩⟩ ?_
        exact J_X9_put_b184 hJ hok hk147 _ _ _ _ _ _ _
def f_X9_put_b144 (x1 x2 x3 x4 : Int) (g : cb_S) : Option (Int × cb_S) := f_X9_put_b147  cb_N x1 x2 x3 x4 0 g
set_option maxRecDepth 100000 in
theorem J_X9_put_b144 {O : cb_O} {M : cb_M} (hJ : cb_J O skM) (hok : cb_ok O skM M cX9_put 11 RX9 (some .int)) : ∀ (x1 x2 x3 x4 : Int) (g : cb_S), cb_j O skM false rm_X9_put M 11 144 [some (.inr 0), some (.inl x1), some (.inl x2), some (.inl x3), some (.inl x4), none, none, none, none, none, none] [] g (f_X9_put_b144 x1 x2 x3 x4 g) := by
  intro x1 x2 x3 x4 g
  show cb_j _ _ _ _ _ _ _ _ _ _ (f_X9_put_b147  cb_N x1 x2 x3 x4 0 g)
  refine cb_iconst hok dX9_put_144 ?_
  refine cb_istore (ls' := [some (.inr 0), some (.inl x1), some (.inl x2), some (.inl x3), some (.inl x4), none, none, some (.inl 0), none, none, none]) hok dX9_put_145 (by decide) rfl ?_
  refine cb_fewer (ls' := [some (.inr 0), some (.inl x1), some (.inl x2), some (.inl x3), some (.inl x4), none, none, some (.inl 0), none, none, none]) ⟨rfl, ⟨rfl, ⟨rfl, ⟨rfl, ⟨rfl, ⟨rfl, trivial⟩⟩⟩⟩⟩⟩ ?_
  exact J_X9_put_b147 hJ hok  cb_N _ _ _ _ _ _
def f_X9_put_b9 : Nat → Int → Int → Int → Int → Int → Int → Int → cb_S → Option (Int × cb_S)
  | 0 => fun _ _ _ _ _ _ _ _ => none
  | n + 1 => fun x1 x2 x3 x4 x5 x6 x7 g => if 4 ≤ cb_w x7 then (if cb_w x6 = 0 then (some (-1, g)) else (if cb_w ((g 0 1) + x5) ≤ 60 then (if cb_w x5 ≤ 0 then (f_X9_put_b144  x1 x2 x3 x4 g) else (cb_b (f_X9_keeps g ) (fun r1 g1 => f_X9_put_b144  x1 x2 x3 x4 g1))) else (some (-2, g)))) else (if cb_w x7 = 0 then (f_X9_put_b46 (f_X9_put_b9 n) x1 x2 x3 x4 x5 x6 x7 x1 g) else (if cb_w x7 = 1 then (f_X9_put_b46 (f_X9_put_b9 n) x1 x2 x3 x4 x5 x6 x7 x2 g) else (if cb_w x7 = 2 then (f_X9_put_b46 (f_X9_put_b9 n) x1 x2 x3 x4 x5 x6 x7 x3 g) else (f_X9_put_b46 (f_X9_put_b9 n) x1 x2 x3 x4 x5 x6 x7 x4 g))))
set_option maxRecDepth 100000 in
theorem J_X9_put_b9 {O : cb_O} {M : cb_M} (hJ : cb_J O skM) (hok : cb_ok O skM M cX9_put 11 RX9 (some .int)) : ∀ (n : Nat) (x1 x2 x3 x4 x5 x6 x7 : Int) (g : cb_S), cb_j O skM false rm_X9_put M 11 9 [some (.inr 0), some (.inl x1), some (.inl x2), some (.inl x3), some (.inl x4), some (.inl x5), some (.inl x6), some (.inl x7), none, none, none] [] g (f_X9_put_b9 n x1 x2 x3 x4 x5 x6 x7 g) := by
  intro n
  induction n with
  | zero => intros; exact cb_none
  | succ n hk9 =>
    intro x1 x2 x3 x4 x5 x6 x7 g
    show cb_j _ _ _ _ _ _ _ _ _ _ (if 4 ≤ cb_w x7 then (if cb_w x6 = 0 then (some (-1, g)) else (if cb_w ((g 0 1) + x5) ≤ 60 then (if cb_w x5 ≤ 0 then (f_X9_put_b144  x1 x2 x3 x4 g) else (cb_b (f_X9_keeps g ) (fun r1 g1 => f_X9_put_b144  x1 x2 x3 x4 g1))) else (some (-2, g)))) else (if cb_w x7 = 0 then (f_X9_put_b46 (f_X9_put_b9 n) x1 x2 x3 x4 x5 x6 x7 x1 g) else (if cb_w x7 = 1 then (f_X9_put_b46 (f_X9_put_b9 n) x1 x2 x3 x4 x5 x6 x7 x2 g) else (if cb_w x7 = 2 then (f_X9_put_b46 (f_X9_put_b9 n) x1 x2 x3 x4 x5 x6 x7 x3 g) else (f_X9_put_b46 (f_X9_put_b9 n) x1 x2 x3 x4 x5 x6 x7 x4 g)))))
    refine cb_iload hok dX9_put_9 rfl ?_
    refine cb_iconst hok dX9_put_11 ?_
    refine cb_icge (tgt := 113) hok rfl (by decide) dX9_put_12 (by decide) (fun _ => ?_) (fun _ => ?_)
    · refine cb_iload hok dX9_put_113 rfl ?_
      refine cb_ifne (tgt := 120) hok rfl dX9_put_115 (by decide) (fun _ => ?_) (fun _ => ?_)
      · refine cb_aload_n hok dX9_put_120 rfl ?_
        refine cb_gi hok dX9_put_121 fl_RX9_81 skM_b0 skM_c0 rfl ?_
        refine cb_iload hok dX9_put_124 rfl ?_
        refine cb_iadd hok dX9_put_126 ?_
        refine cb_bipush hok dX9_put_127 (by decide) ?_
        refine cb_icle (tgt := 135) hok rfl (by decide) dX9_put_129 (by decide) (fun _ => ?_) (fun _ => ?_)
        · refine cb_iload hok dX9_put_135 rfl ?_
          refine cb_ifle (tgt := 144) hok rfl dX9_put_137 (by decide) (fun _ => ?_) (fun _ => ?_)
          · refine cb_fewer (ls' := [some (.inr 0), some (.inl x1), some (.inl x2), some (.inl x3), some (.inl x4), none, none, none, none, none, none]) ⟨rfl, ⟨rfl, ⟨rfl, ⟨rfl, ⟨rfl, trivial⟩⟩⟩⟩⟩ ?_
            exact J_X9_put_b144 hJ hok  _ _ _ _ _
          · refine cb_aload_n hok dX9_put_140 rfl ?_
            refine cb_cvv (as := []) (rest := []) hok lk_RX9_171 (by decide) (by decide) dX9_put_141 (fun q1 hq1 => C_X9_keeps hJ _ q1 hq1) rfl rfl (Nat.le_of_ble_eq_true rfl) skM_b0 skM_c0 rfl (fun r1 g1 => ?_)
            refine cb_fewer (ls' := [some (.inr 0), some (.inl x1), some (.inl x2), some (.inl x3), some (.inl x4), none, none, none, none, none, none]) ⟨rfl, ⟨rfl, ⟨rfl, ⟨rfl, ⟨rfl, trivial⟩⟩⟩⟩⟩ ?_
            exact J_X9_put_b144 hJ hok  _ _ _ _ _
        · refine cb_bipush hok dX9_put_132 (by decide) ?_
          exact cb_iret hok dX9_put_134
      · refine cb_iconst hok dX9_put_118 ?_
        exact cb_iret hok dX9_put_119
    · refine cb_iload hok dX9_put_15 rfl ?_
      refine cb_ifne (tgt := 24) hok rfl dX9_put_17 (by decide) (fun _ => ?_) (fun _ => ?_)
      · refine cb_iload hok dX9_put_24 rfl ?_
        refine cb_iconst hok dX9_put_26 ?_
        refine cb_icne (tgt := 34) hok rfl (by decide) dX9_put_27 (by decide) (fun _ => ?_) (fun _ => ?_)
        · refine cb_iload hok dX9_put_34 rfl ?_
          refine cb_iconst hok dX9_put_36 ?_
          refine cb_icne (tgt := 44) hok rfl (by decide) dX9_put_37 (by decide) (fun _ => ?_) (fun _ => ?_)
          · refine cb_iload hok dX9_put_44 rfl ?_
            refine cb_fewer (ls' := [some (.inr 0), some (.inl x1), some (.inl x2), some (.inl x3), some (.inl x4), some (.inl x5), some (.inl x6), some (.inl x7), none, none, none]) ⟨rfl, ⟨rfl, ⟨rfl, ⟨rfl, ⟨rfl, ⟨rfl, ⟨rfl, ⟨rfl, trivial⟩⟩⟩⟩⟩⟩⟩⟩ ?_
            exact J_X9_put_b46 hJ hok hk9 _ _ _ _ _ _ _ _ _
          · refine cb_iload_n hok dX9_put_40 rfl ?_
            refine cb_goto (tgt := 46) hok dX9_put_41 (by decide) ?_
            refine cb_fewer (ls' := [some (.inr 0), some (.inl x1), some (.inl x2), some (.inl x3), some (.inl x4), some (.inl x5), some (.inl x6), some (.inl x7), none, none, none]) ⟨rfl, ⟨rfl, ⟨rfl, ⟨rfl, ⟨rfl, ⟨rfl, ⟨rfl, ⟨rfl, trivial⟩⟩⟩⟩⟩⟩⟩⟩ ?_
            exact J_X9_put_b46 hJ hok hk9 _ _ _ _ _ _ _ _ _
        · refine cb_iload_n hok dX9_put_30 rfl ?_
          refine cb_goto (tgt := 46) hok dX9_put_31 (by decide) ?_
          refine cb_fewer (ls' := [some (.inr 0), some (.inl x1), some (.inl x2), some (.inl x3), some (.inl x4), some (.inl x5), some (.inl x6), some (.inl x7), none, none, none]) ⟨rfl, ⟨rfl, ⟨rfl, ⟨rfl, ⟨rfl, ⟨rfl, ⟨rfl, ⟨rfl, trivial⟩⟩⟩⟩⟩⟩⟩⟩ ?_
          exact J_X9_put_b46 hJ hok hk9 _ _ _ _ _ _ _ _ _
      · refine cb_iload_n hok dX9_put_20 rfl ?_
        refine cb_goto (tgt := 46) hok dX9_put_21 (by decide) ?_
        refine cb_fewer (ls' := [some (.inr 0), some (.inl x1), some (.inl x2), some (.inl x3), some (.inl x4), some (.inl x5), some (.inl x6), some (.inl x7), none, none, none]) ⟨rfl, ⟨rfl, ⟨rfl, ⟨rfl, ⟨rfl, ⟨rfl, ⟨rfl, ⟨rfl, trivial⟩⟩⟩⟩⟩⟩⟩⟩ ?_
        exact J_X9_put_b46 hJ hok hk9 _ _ _ _ _ _ _ _ _
def f_X9_put (g : cb_S) (x1 : Int) (x2 : Int) (x3 : Int) (x4 : Int) : Option (Int × cb_S) := f_X9_put_b9  cb_N x1 x2 x3 x4 0 1 0 g
set_option maxRecDepth 100000 in
theorem C_X9_put {O : cb_O} (hJ : cb_J O skM) (x1 : Int) (x2 : Int) (x3 : Int) (x4 : Int) (g : cb_S) : ∀ q, f_X9_put g x1 x2 x3 x4 = some q → cb_m O skM false yX9_put cX9_put 11 (some .int) rm_X9_put [.inr 0, .inl x1, .inl x2, .inl x3, .inl x4] g q := by
  intro q hq
  refine cb_of_body hJ (by decide) (Nat.le_of_ble_eq_true rfl) hq (fun M hok => ?_)
  show cb_j _ _ _ _ _ _ _ [some (.inr 0), some (.inl x1), some (.inl x2), some (.inl x3), some (.inl x4), none, none, none, none, none, none] _ _ (f_X9_put_b9  cb_N x1 x2 x3 x4 0 1 0 g)
  refine cb_iconst hok dX9_put_0 ?_
  refine cb_istore (ls' := [some (.inr 0), some (.inl x1), some (.inl x2), some (.inl x3), some (.inl x4), some (.inl 0), none, none, none, none, none]) hok dX9_put_1 (by decide) rfl ?_
  refine cb_iconst hok dX9_put_3 ?_
  refine cb_istore (ls' := [some (.inr 0), some (.inl x1), some (.inl x2), some (.inl x3), some (.inl x4), some (.inl 0), some (.inl 1), none, none, none, none]) hok dX9_put_4 (by decide) rfl ?_
  refine cb_iconst hok dX9_put_6 ?_
  refine cb_istore (ls' := [some (.inr 0), some (.inl x1), some (.inl x2), some (.inl x3), some (.inl x4), some (.inl 0), some (.inl 1), some (.inl 0), none, none, none]) hok dX9_put_7 (by decide) rfl ?_
  refine cb_fewer (ls' := [some (.inr 0), some (.inl x1), some (.inl x2), some (.inl x3), some (.inl x4), some (.inl 0), some (.inl 1), some (.inl 0), none, none, none]) ⟨rfl, ⟨rfl, ⟨rfl, ⟨rfl, ⟨rfl, ⟨rfl, ⟨rfl, ⟨rfl, trivial⟩⟩⟩⟩⟩⟩⟩⟩ ?_
  exact J_X9_put_b9 hJ hok  cb_N _ _ _ _ _ _ _ _
/-! CaretBenchModel clear()I -/
def f_X9_clear_b13 (x1 : Int) (g : cb_S) : Option (Int × cb_S) := some (x1, cb_u (cb_u (cb_u g 0 1 0) 0 3 0) 0 4 0)
set_option maxRecDepth 100000 in
theorem J_X9_clear_b13 {O : cb_O} {M : cb_M} (hJ : cb_J O skM) (hok : cb_ok O skM M cX9_clear 2 RX9 (some .int)) : ∀ (x1 : Int) (g : cb_S), cb_j O skM false rm_X9_clear M 2 13 [some (.inr 0), some (.inl x1)] [] g (f_X9_clear_b13 x1 g) := by
  intro x1 g
  show cb_j _ _ _ _ _ _ _ _ _ _ (some (x1, cb_u (cb_u (cb_u g 0 1 0) 0 3 0) 0 4 0))
  refine cb_aload_n hok dX9_clear_13 rfl ?_
  refine cb_iconst hok dX9_clear_14 ?_
  refine cb_pi hok dX9_clear_15 fp_RX9_81 skM_b0 skM_c0 rfl ?_
  refine cb_aload_n hok dX9_clear_18 rfl ?_
  refine cb_iconst hok dX9_clear_19 ?_
  refine cb_pi hok dX9_clear_20 fp_RX9_84 skM_b0 skM_c0 rfl ?_
  refine cb_aload_n hok dX9_clear_23 rfl ?_
  refine cb_iconst hok dX9_clear_24 ?_
  refine cb_pi hok dX9_clear_25 fp_RX9_87 skM_b0 skM_c0 rfl ?_
  refine cb_iload_n hok dX9_clear_28 rfl ?_
  exact cb_iret hok dX9_clear_29
def f_X9_clear (g : cb_S) : Option (Int × cb_S) := if cb_w (g 0 1) ≤ 0 then (f_X9_clear_b13  (g 0 1) g) else (cb_b (f_X9_keeps g ) (fun r1 g1 => f_X9_clear_b13  (g 0 1) g1))
set_option maxRecDepth 100000 in
theorem C_X9_clear {O : cb_O} (hJ : cb_J O skM) (g : cb_S) : ∀ q, f_X9_clear g = some q → cb_m O skM false yX9_clear cX9_clear 2 (some .int) rm_X9_clear [.inr 0] g q := by
  intro q hq
  refine cb_of_body hJ (by decide) (Nat.le_of_ble_eq_true rfl) hq (fun M hok => ?_)
  show cb_j _ _ _ _ _ _ _ [some (.inr 0), none] _ _ (if cb_w (g 0 1) ≤ 0 then (f_X9_clear_b13  (g 0 1) g) else (cb_b (f_X9_keeps g ) (fun r1 g1 => f_X9_clear_b13  (g 0 1) g1)))
  refine cb_aload_n hok dX9_clear_0 rfl ?_
  refine cb_gi hok dX9_clear_1 fl_RX9_81 skM_b0 skM_c0 rfl ?_
  refine cb_istore_n (ls' := [some (.inr 0), some (.inl (g 0 1))]) hok dX9_clear_4 (by decide) rfl ?_
  refine cb_iload_n hok dX9_clear_5 rfl ?_
  refine cb_ifle (tgt := 13) hok rfl dX9_clear_6 (by decide) (fun _ => ?_) (fun _ => ?_)
  · refine cb_fewer (ls' := [some (.inr 0), some (.inl (g 0 1))]) ⟨rfl, ⟨rfl, trivial⟩⟩ ?_
    exact J_X9_clear_b13 hJ hok  _ _
  · refine cb_aload_n hok dX9_clear_9 rfl ?_
    refine cb_cvv (as := []) (rest := []) hok lk_RX9_171 (by decide) (by decide) dX9_clear_10 (fun q1 hq1 => C_X9_keeps hJ _ q1 hq1) rfl rfl (Nat.le_of_ble_eq_true rfl) skM_b0 skM_c0 rfl (fun r1 g1 => ?_)
    refine cb_fewer (ls' := [some (.inr 0), some (.inl (g 0 1))]) ⟨rfl, ⟨rfl, trivial⟩⟩ ?_
    exact J_X9_clear_b13 hJ hok  _ _
/-! CaretBenchModel count(I)I -/
def f_X9_count_b75 (kk56 : Int → Int → cb_S → Option (Int × cb_S)) (x2 x3 : Int) (g : cb_S) : Option (Int × cb_S) := kk56 x2 (x3 + 1) g
set_option maxRecDepth 100000 in
theorem J_X9_count_b75 {O : cb_O} {M : cb_M} (hJ : cb_J O skM) (hok : cb_ok O skM M cX9_count 6 RX9 (some .int)) {kk56 : Int → Int → cb_S → Option (Int × cb_S)} (hk56 : ∀ (x2 x3 : Int) (g : cb_S), cb_j O skM false rm_X9_count M 6 56 [some (.inr 0), none, some (.inl x2), some (.inl x3), none, none] [] g (kk56 x2 x3 g)) : ∀ (x2 x3 : Int) (g : cb_S), cb_j O skM false rm_X9_count M 6 75 [some (.inr 0), none, some (.inl x2), some (.inl x3), none, none] [] g (f_X9_count_b75 kk56 x2 x3 g) := by
  intro x2 x3 g
  show cb_j _ _ _ _ _ _ _ _ _ _ (kk56 x2 (x3 + 1) g)
  refine cb_iinc (ls' := [some (.inr 0), none, some (.inl x2), some (.inl (x3 + 1)), none, none]) hok dX9_count_75 rfl (by decide) rfl ?_
  refine cb_goto (tgt := 56) hok dX9_count_78 (by decide) ?_
  refine cb_fewer (ls' := [some (.inr 0), none, some (.inl x2), some (.inl (x3 + 1)), none, none]) ⟨rfl, ⟨rfl, ⟨rfl, trivial⟩⟩⟩ ?_
  exact hk56 _ _ _
def f_X9_count_b56 : Nat → Int → Int → cb_S → Option (Int × cb_S)
  | 0 => fun _ _ _ => none
  | n + 1 => fun x2 x3 g => if cb_w (g 0 1) < cb_w x3 then (some (x2, g)) else ((v_X9_isStand g x3).bind (fun r1 => if cb_w r1 = 0 then (f_X9_count_b75 (f_X9_count_b56 n) x2 x3 g) else (f_X9_count_b75 (f_X9_count_b56 n) (x2 + 1) x3 g)))
set_option maxRecDepth 100000 in
theorem J_X9_count_b56 {O : cb_O} {M : cb_M} (hJ : cb_J O skM) (hok : cb_ok O skM M cX9_count 6 RX9 (some .int)) : ∀ (n : Nat) (x2 x3 : Int) (g : cb_S), cb_j O skM false rm_X9_count M 6 56 [some (.inr 0), none, some (.inl x2), some (.inl x3), none, none] [] g (f_X9_count_b56 n x2 x3 g) := by
  intro n
  induction n with
  | zero => intros; exact cb_none
  | succ n hk56 =>
    intro x2 x3 g
    show cb_j _ _ _ _ _ _ _ _ _ _ (if cb_w (g 0 1) < cb_w x3 then (some (x2, g)) else ((v_X9_isStand g x3).bind (fun r1 => if cb_w r1 = 0 then (f_X9_count_b75 (f_X9_count_b56 n) x2 x3 g) else (f_X9_count_b75 (f_X9_count_b56 n) (x2 + 1) x3 g))))
    refine cb_iload_n hok dX9_count_56 rfl ?_
    refine cb_aload_n hok dX9_count_57 rfl ?_
    refine cb_gi hok dX9_count_58 fl_RX9_81 skM_b0 skM_c0 rfl ?_
    refine cb_icgt (tgt := 81) hok rfl rfl dX9_count_61 (by decide) (fun _ => ?_) (fun _ => ?_)
    · refine cb_iload_n hok dX9_count_81 rfl ?_
      exact cb_iret hok dX9_count_82
    · refine cb_aload_n hok dX9_count_64 rfl ?_
      refine cb_iload_n hok dX9_count_65 rfl ?_
      refine cb_cvr (as := [.inl x3]) (rest := []) hok lk_RX9_165 (by decide) (by decide) dX9_count_66 (fun q1 hq1 => C_X9_isStand hJ _ _ q1 hq1) rfl rfl (Nat.le_of_ble_eq_true rfl) skM_b0 skM_c0 rfl (fun r1 => ?_)
      refine cb_ifeq (tgt := 75) hok rfl dX9_count_69 (by decide) (fun _ => ?_) (fun _ => ?_)
      · refine cb_fewer (ls' := [some (.inr 0), none, some (.inl x2), some (.inl x3), none, none]) ⟨rfl, ⟨rfl, ⟨rfl, trivial⟩⟩⟩ ?_
        exact J_X9_count_b75 hJ hok hk56 _ _ _
      · refine cb_iinc (ls' := [some (.inr 0), none, some (.inl (x2 + 1)), some (.inl x3), none, none]) hok dX9_count_72 rfl (by decide) rfl ?_
        refine cb_fewer (ls' := [some (.inr 0), none, some (.inl (x2 + 1)), some (.inl x3), none, none]) ⟨rfl, ⟨rfl, ⟨rfl, trivial⟩⟩⟩ ?_
        exact J_X9_count_b75 hJ hok hk56 _ _ _
def f_X9_count_b134 (kk104 : Int → Int → Int → Int → cb_S → Option (Int × cb_S)) (kk90 : Int → Int → cb_S → Option (Int × cb_S)) (x2 x3 x5 s0 : Int) (g : cb_S) : Option (Int × cb_S) := kk104 x2 x3 s0 (x5 + 1) g
set_option maxRecDepth 100000 in
theorem J_X9_count_b134 {O : cb_O} {M : cb_M} (hJ : cb_J O skM) (hok : cb_ok O skM M cX9_count 6 RX9 (some .int)) {kk104 : Int → Int → Int → Int → cb_S → Option (Int × cb_S)} {kk90 : Int → Int → cb_S → Option (Int × cb_S)} (hk104 : ∀ (x2 x3 x4 x5 : Int) (g : cb_S), cb_j O skM false rm_X9_count M 6 104 [some (.inr 0), none, some (.inl x2), some (.inl x3), some (.inl x4), some (.inl x5)] [] g (kk104 x2 x3 x4 x5 g)) (hk90 : ∀ (x2 x3 : Int) (g : cb_S), cb_j O skM false rm_X9_count M 6 90 [some (.inr 0), none, some (.inl x2), some (.inl x3), none, none] [] g (kk90 x2 x3 g)) : ∀ (x2 x3 x5 s0 : Int) (g : cb_S), cb_j O skM false rm_X9_count M 6 134 [some (.inr 0), none, some (.inl x2), some (.inl x3), none, some (.inl x5)] [.inl s0] g (f_X9_count_b134 kk104 kk90 x2 x3 x5 s0 g) := by
  intro x2 x3 x5 s0 g
  show cb_j _ _ _ _ _ _ _ _ _ _ (kk104 x2 x3 s0 (x5 + 1) g)
  refine cb_istore (ls' := [some (.inr 0), none, some (.inl x2), some (.inl x3), some (.inl s0), some (.inl x5)]) hok dX9_count_134 (by decide) rfl ?_
  refine cb_iinc (ls' := [some (.inr 0), none, some (.inl x2), some (.inl x3), some (.inl s0), some (.inl (x5 + 1))]) hok dX9_count_136 rfl (by decide) rfl ?_
  refine cb_goto (tgt := 104) hok dX9_count_139 (by decide) ?_
  refine cb_fewer (ls' := [some (.inr 0), none, some (.inl x2), some (.inl x3), some (.inl s0), some (.inl (x5 + 1))]) ⟨rfl, ⟨rfl, ⟨rfl, ⟨rfl, ⟨rfl, trivial⟩⟩⟩⟩⟩ ?_
  exact hk104 _ _ _ _ _
def f_X9_count_b129 (kk104 : Int → Int → Int → Int → cb_S → Option (Int × cb_S)) (kk90 : Int → Int → cb_S → Option (Int × cb_S)) (x2 x3 x5 : Int) (g : cb_S) : Option (Int × cb_S) := f_X9_count_b134 kk104 kk90 x2 x3 x5 1 g
set_option maxRecDepth 100000 in
theorem J_X9_count_b129 {O : cb_O} {M : cb_M} (hJ : cb_J O skM) (hok : cb_ok O skM M cX9_count 6 RX9 (some .int)) {kk104 : Int → Int → Int → Int → cb_S → Option (Int × cb_S)} {kk90 : Int → Int → cb_S → Option (Int × cb_S)} (hk104 : ∀ (x2 x3 x4 x5 : Int) (g : cb_S), cb_j O skM false rm_X9_count M 6 104 [some (.inr 0), none, some (.inl x2), some (.inl x3), some (.inl x4), some (.inl x5)] [] g (kk104 x2 x3 x4 x5 g)) (hk90 : ∀ (x2 x3 : Int) (g : cb_S), cb_j O skM false rm_X9_count M 6 90 [some (.inr 0), none, some (.inl x2), some (.inl x3), none, none] [] g (kk90 x2 x3 g)) : ∀ (x2 x3 x5 : Int) (g : cb_S), cb_j O skM false rm_X9_count M 6 129 [some (.inr 0), none, some (.inl x2), some (.inl x3), none, some (.inl x5)] [] g (f_X9_count_b129 kk104 kk90 x2 x3 x5 g) := by
  intro x2 x3 x5 g
  show cb_j _ _ _ _ _ _ _ _ _ _ (f_X9_count_b134 kk104 kk90 x2 x3 x5 1 g)
  refine cb_iconst hok dX9_count_129 ?_
  refine cb_goto (tgt := 134) hok dX9_count_130 (by decide) ?_
  refine cb_fewer (ls' := [some (.inr 0), none, some (.inl x2), some (.inl x3), none, some (.inl x5)]) ⟨rfl, ⟨rfl, ⟨rfl, ⟨rfl, trivial⟩⟩⟩⟩ ?_
  exact J_X9_count_b134 hJ hok hk104 hk90 _ _ _ _ _
def f_X9_count_b150 (kk90 : Int → Int → cb_S → Option (Int × cb_S)) (x2 x3 : Int) (g : cb_S) : Option (Int × cb_S) := kk90 x2 (x3 + 1) g
set_option maxRecDepth 100000 in
theorem J_X9_count_b150 {O : cb_O} {M : cb_M} (hJ : cb_J O skM) (hok : cb_ok O skM M cX9_count 6 RX9 (some .int)) {kk90 : Int → Int → cb_S → Option (Int × cb_S)} (hk90 : ∀ (x2 x3 : Int) (g : cb_S), cb_j O skM false rm_X9_count M 6 90 [some (.inr 0), none, some (.inl x2), some (.inl x3), none, none] [] g (kk90 x2 x3 g)) : ∀ (x2 x3 : Int) (g : cb_S), cb_j O skM false rm_X9_count M 6 150 [some (.inr 0), none, some (.inl x2), some (.inl x3), none, none] [] g (f_X9_count_b150 kk90 x2 x3 g) := by
  intro x2 x3 g
  show cb_j _ _ _ _ _ _ _ _ _ _ (kk90 x2 (x3 + 1) g)
  refine cb_iinc (ls' := [some (.inr 0), none, some (.inl x2), some (.inl (x3 + 1)), none, none]) hok dX9_count_150 rfl (by decide) rfl ?_
  refine cb_goto (tgt := 90) hok dX9_count_153 (by decide) ?_
  refine cb_fewer (ls' := [some (.inr 0), none, some (.inl x2), some (.inl (x3 + 1)), none, none]) ⟨rfl, ⟨rfl, ⟨rfl, trivial⟩⟩⟩ ?_
  exact hk90 _ _ _
def f_X9_count_b104 (kk90 : Int → Int → cb_S → Option (Int × cb_S)) : Nat → Int → Int → Int → Int → cb_S → Option (Int × cb_S)
  | 0 => fun _ _ _ _ _ => none
  | n + 1 => fun x2 x3 x4 x5 g => if cb_w (g 0 1) ≤ cb_w x5 then (if cb_w x4 = 0 then (f_X9_count_b150 kk90 x2 x3 g) else (f_X9_count_b150 kk90 (x2 + 1) x3 g)) else (if cb_w x4 = 0 then (if 0 ≤ cb_w x5 ∧ cb_w x5 < (64 : Nat) then (if cb_w (g 6 ((cb_w x5).toNat)) = cb_w x3 then (f_X9_count_b129 (f_X9_count_b104 kk90 n) kk90 x2 x3 x5 g) else (f_X9_count_b134 (f_X9_count_b104 kk90 n) kk90 x2 x3 x5 0 g)) else none) else (f_X9_count_b129 (f_X9_count_b104 kk90 n) kk90 x2 x3 x5 g))
set_option maxRecDepth 100000 in
theorem J_X9_count_b104 {O : cb_O} {M : cb_M} (hJ : cb_J O skM) (hok : cb_ok O skM M cX9_count 6 RX9 (some .int)) {kk90 : Int → Int → cb_S → Option (Int × cb_S)} (hk90 : ∀ (x2 x3 : Int) (g : cb_S), cb_j O skM false rm_X9_count M 6 90 [some (.inr 0), none, some (.inl x2), some (.inl x3), none, none] [] g (kk90 x2 x3 g)) : ∀ (n : Nat) (x2 x3 x4 x5 : Int) (g : cb_S), cb_j O skM false rm_X9_count M 6 104 [some (.inr 0), none, some (.inl x2), some (.inl x3), some (.inl x4), some (.inl x5)] [] g (f_X9_count_b104 kk90 n x2 x3 x4 x5 g) := by
  intro n
  induction n with
  | zero => intros; exact cb_none
  | succ n hk104 =>
    intro x2 x3 x4 x5 g
    show cb_j _ _ _ _ _ _ _ _ _ _ (if cb_w (g 0 1) ≤ cb_w x5 then (if cb_w x4 = 0 then (f_X9_count_b150 kk90 x2 x3 g) else (f_X9_count_b150 kk90 (x2 + 1) x3 g)) else (if cb_w x4 = 0 then (if 0 ≤ cb_w x5 ∧ cb_w x5 < (64 : Nat) then (if cb_w (g 6 ((cb_w x5).toNat)) = cb_w x3 then (f_X9_count_b129 (f_X9_count_b104 kk90 n) kk90 x2 x3 x5 g) else (f_X9_count_b134 (f_X9_count_b104 kk90 n) kk90 x2 x3 x5 0 g)) else none) else (f_X9_count_b129 (f_X9_count_b104 kk90 n) kk90 x2 x3 x5 g)))
    refine cb_iload hok dX9_count_104 rfl ?_
    refine cb_aload_n hok dX9_count_106 rfl ?_
    refine cb_gi hok dX9_count_107 fl_RX9_81 skM_b0 skM_c0 rfl ?_
    refine cb_icge (tgt := 142) hok rfl rfl dX9_count_110 (by decide) (fun _ => ?_) (fun _ => ?_)
    · refine cb_iload hok dX9_count_142 rfl ?_
      refine cb_ifeq (tgt := 150) hok rfl dX9_count_144 (by decide) (fun _ => ?_) (fun _ => ?_)
      · refine cb_fewer (ls' := [some (.inr 0), none, some (.inl x2), some (.inl x3), none, none]) ⟨rfl, ⟨rfl, ⟨rfl, trivial⟩⟩⟩ ?_
        exact J_X9_count_b150 hJ hok hk90 _ _ _
      · refine cb_iinc (ls' := [some (.inr 0), none, some (.inl (x2 + 1)), some (.inl x3), some (.inl x4), some (.inl x5)]) hok dX9_count_147 rfl (by decide) rfl ?_
        refine cb_fewer (ls' := [some (.inr 0), none, some (.inl (x2 + 1)), some (.inl x3), none, none]) ⟨rfl, ⟨rfl, ⟨rfl, trivial⟩⟩⟩ ?_
        exact J_X9_count_b150 hJ hok hk90 _ _ _
    · refine cb_iload hok dX9_count_113 rfl ?_
      refine cb_ifne (tgt := 129) hok rfl dX9_count_115 (by decide) (fun _ => ?_) (fun _ => ?_)
      · refine cb_fewer (ls' := [some (.inr 0), none, some (.inl x2), some (.inl x3), none, some (.inl x5)]) ⟨rfl, ⟨rfl, ⟨rfl, ⟨rfl, trivial⟩⟩⟩⟩ ?_
        exact J_X9_count_b129 hJ hok hk104 hk90 _ _ _ _
      · refine cb_aload_n hok dX9_count_118 rfl ?_
        refine cb_gr hok dX9_count_119 fl_RX9_25 skM_b0 skM_c0 rfl ?_
        refine cb_iload hok dX9_count_122 rfl ?_
        refine cb_iald hok dX9_count_124 skM_b6 skM_c6 ?_
        refine cb_iload_n hok dX9_count_125 rfl ?_
        refine cb_icne (tgt := 133) hok rfl rfl dX9_count_126 (by decide) (fun _ => ?_) (fun _ => ?_)
        · refine cb_iconst hok dX9_count_133 ?_
          refine cb_fewer (ls' := [some (.inr 0), none, some (.inl x2), some (.inl x3), none, some (.inl x5)]) ⟨rfl, ⟨rfl, ⟨rfl, ⟨rfl, trivial⟩⟩⟩⟩ ?_
          exact J_X9_count_b134 hJ hok hk104 hk90 _ _ _ _ _
        · refine cb_fewer (ls' := [some (.inr 0), none, some (.inl x2), some (.inl x3), none, some (.inl x5)]) ⟨rfl, ⟨rfl, ⟨rfl, ⟨rfl, trivial⟩⟩⟩⟩ ?_
          exact J_X9_count_b129 hJ hok hk104 hk90 _ _ _ _
def f_X9_count_b90 : Nat → Int → Int → cb_S → Option (Int × cb_S)
  | 0 => fun _ _ _ => none
  | n + 1 => fun x2 x3 g => if cb_w (g 0 13) ≤ cb_w x3 then (some (x2, g)) else (f_X9_count_b104 (f_X9_count_b90 n) cb_N x2 x3 0 0 g)
set_option maxRecDepth 100000 in
theorem J_X9_count_b90 {O : cb_O} {M : cb_M} (hJ : cb_J O skM) (hok : cb_ok O skM M cX9_count 6 RX9 (some .int)) : ∀ (n : Nat) (x2 x3 : Int) (g : cb_S), cb_j O skM false rm_X9_count M 6 90 [some (.inr 0), none, some (.inl x2), some (.inl x3), none, none] [] g (f_X9_count_b90 n x2 x3 g) := by
  intro n
  induction n with
  | zero => intros; exact cb_none
  | succ n hk90 =>
    intro x2 x3 g
    show cb_j _ _ _ _ _ _ _ _ _ _ (if cb_w (g 0 13) ≤ cb_w x3 then (some (x2, g)) else (f_X9_count_b104 (f_X9_count_b90 n) cb_N x2 x3 0 0 g))
    refine cb_iload_n hok dX9_count_90 rfl ?_
    refine cb_aload_n hok dX9_count_91 rfl ?_
    refine cb_gi hok dX9_count_92 fl_RX9_112 skM_b0 skM_c0 rfl ?_
    refine cb_icge (tgt := 156) hok rfl rfl dX9_count_95 (by decide) (fun _ => ?_) (fun _ => ?_)
    · refine cb_iload_n hok dX9_count_156 rfl ?_
      exact cb_iret hok dX9_count_157
    · refine cb_iconst hok dX9_count_98 ?_
      refine cb_istore (ls' := [some (.inr 0), none, some (.inl x2), some (.inl x3), some (.inl 0), none]) hok dX9_count_99 (by decide) rfl ?_
      refine cb_iconst hok dX9_count_101 ?_
      refine cb_istore (ls' := [some (.inr 0), none, some (.inl x2), some (.inl x3), some (.inl 0), some (.inl 0)]) hok dX9_count_102 (by decide) rfl ?_
      refine cb_fewer (ls' := [some (.inr 0), none, some (.inl x2), some (.inl x3), some (.inl 0), some (.inl 0)]) ⟨rfl, ⟨rfl, ⟨rfl, ⟨rfl, ⟨rfl, trivial⟩⟩⟩⟩⟩ ?_
      exact J_X9_count_b104 hJ hok hk90 cb_N _ _ _ _ _
def f_X9_count_b201 (kk176 : Int → Int → cb_S → Option (Int × cb_S)) (x2 x3 : Int) (g : cb_S) : Option (Int × cb_S) := kk176 x2 (x3 + 1) g
set_option maxRecDepth 100000 in
theorem J_X9_count_b201 {O : cb_O} {M : cb_M} (hJ : cb_J O skM) (hok : cb_ok O skM M cX9_count 6 RX9 (some .int)) {kk176 : Int → Int → cb_S → Option (Int × cb_S)} (hk176 : ∀ (x2 x3 : Int) (g : cb_S), cb_j O skM false rm_X9_count M 6 176 [some (.inr 0), none, some (.inl x2), some (.inl x3), none, none] [] g (kk176 x2 x3 g)) : ∀ (x2 x3 : Int) (g : cb_S), cb_j O skM false rm_X9_count M 6 201 [some (.inr 0), none, some (.inl x2), some (.inl x3), none, none] [] g (f_X9_count_b201 kk176 x2 x3 g) := by
  intro x2 x3 g
  show cb_j _ _ _ _ _ _ _ _ _ _ (kk176 x2 (x3 + 1) g)
  refine cb_iinc (ls' := [some (.inr 0), none, some (.inl x2), some (.inl (x3 + 1)), none, none]) hok dX9_count_201 rfl (by decide) rfl ?_
  refine cb_goto (tgt := 176) hok dX9_count_204 (by decide) ?_
  refine cb_fewer (ls' := [some (.inr 0), none, some (.inl x2), some (.inl (x3 + 1)), none, none]) ⟨rfl, ⟨rfl, ⟨rfl, trivial⟩⟩⟩ ?_
  exact hk176 _ _ _
def f_X9_count_b176 : Nat → Int → Int → cb_S → Option (Int × cb_S)
  | 0 => fun _ _ _ => none
  | n + 1 => fun x2 x3 g => if cb_w (g 0 1) ≤ cb_w x3 then (some (x2, g)) else (if 0 ≤ cb_w x3 ∧ cb_w x3 < (64 : Nat) then (if cb_w (g 11 ((cb_w x3).toNat)) ≤ cb_w x2 then (f_X9_count_b201 (f_X9_count_b176 n) x2 x3 g) else (if 0 ≤ cb_w x3 ∧ cb_w x3 < (64 : Nat) then (f_X9_count_b201 (f_X9_count_b176 n) (g 11 ((cb_w x3).toNat)) x3 g) else none)) else none)
set_option maxRecDepth 100000 in
theorem J_X9_count_b176 {O : cb_O} {M : cb_M} (hJ : cb_J O skM) (hok : cb_ok O skM M cX9_count 6 RX9 (some .int)) : ∀ (n : Nat) (x2 x3 : Int) (g : cb_S), cb_j O skM false rm_X9_count M 6 176 [some (.inr 0), none, some (.inl x2), some (.inl x3), none, none] [] g (f_X9_count_b176 n x2 x3 g) := by
  intro n
  induction n with
  | zero => intros; exact cb_none
  | succ n hk176 =>
    intro x2 x3 g
    show cb_j _ _ _ _ _ _ _ _ _ _ (if cb_w (g 0 1) ≤ cb_w x3 then (some (x2, g)) else (if 0 ≤ cb_w x3 ∧ cb_w x3 < (64 : Nat) then (if cb_w (g 11 ((cb_w x3).toNat)) ≤ cb_w x2 then (f_X9_count_b201 (f_X9_count_b176 n) x2 x3 g) else (if 0 ≤ cb_w x3 ∧ cb_w x3 < (64 : Nat) then (f_X9_count_b201 (f_X9_count_b176 n) (g 11 ((cb_w x3).toNat)) x3 g) else none)) else none))
    refine cb_iload_n hok dX9_count_176 rfl ?_
    refine cb_aload_n hok dX9_count_177 rfl ?_
    refine cb_gi hok dX9_count_178 fl_RX9_81 skM_b0 skM_c0 rfl ?_
    refine cb_icge (tgt := 207) hok rfl rfl dX9_count_181 (by decide) (fun _ => ?_) (fun _ => ?_)
    · refine cb_iload_n hok dX9_count_207 rfl ?_
      exact cb_iret hok dX9_count_208
    · refine cb_aload_n hok dX9_count_184 rfl ?_
      refine cb_gr hok dX9_count_185 fl_RX9_41 skM_b0 skM_c0 rfl ?_
      refine cb_iload_n hok dX9_count_188 rfl ?_
      refine cb_iald hok dX9_count_189 skM_b11 skM_c11 ?_
      refine cb_iload_n hok dX9_count_190 rfl ?_
      refine cb_icle (tgt := 201) hok rfl rfl dX9_count_191 (by decide) (fun _ => ?_) (fun _ => ?_)
      · refine cb_fewer (ls' := [some (.inr 0), none, some (.inl x2), some (.inl x3), none, none]) ⟨rfl, ⟨rfl, ⟨rfl, trivial⟩⟩⟩ ?_
        exact J_X9_count_b201 hJ hok hk176 _ _ _
      · refine cb_aload_n hok dX9_count_194 rfl ?_
        refine cb_gr hok dX9_count_195 fl_RX9_41 skM_b0 skM_c0 rfl ?_
        refine cb_iload_n hok dX9_count_198 rfl ?_
        refine cb_iald hok dX9_count_199 skM_b11 skM_c11 ?_
        refine cb_istore_n (ls' := [some (.inr 0), none, some (.inl (g 11 ((cb_w x3).toNat))), some (.inl x3), none, none]) hok dX9_count_200 (by decide) rfl ?_
        refine cb_fewer (ls' := [some (.inr 0), none, some (.inl (g 11 ((cb_w x3).toNat))), some (.inl x3), none, none]) ⟨rfl, ⟨rfl, ⟨rfl, trivial⟩⟩⟩ ?_
        exact J_X9_count_b201 hJ hok hk176 _ _ _
def f_X9_count_b173 (s0 : Int) (g : cb_S) : Option (Int × cb_S) := f_X9_count_b176  cb_N s0 0 g
set_option maxRecDepth 100000 in
theorem J_X9_count_b173 {O : cb_O} {M : cb_M} (hJ : cb_J O skM) (hok : cb_ok O skM M cX9_count 6 RX9 (some .int)) : ∀ (s0 : Int) (g : cb_S), cb_j O skM false rm_X9_count M 6 173 [some (.inr 0), none, none, none, none, none] [.inl s0] g (f_X9_count_b173 s0 g) := by
  intro s0 g
  show cb_j _ _ _ _ _ _ _ _ _ _ (f_X9_count_b176  cb_N s0 0 g)
  refine cb_istore_n (ls' := [some (.inr 0), none, some (.inl s0), none, none, none]) hok dX9_count_173 (by decide) rfl ?_
  refine cb_iconst hok dX9_count_174 ?_
  refine cb_istore_n (ls' := [some (.inr 0), none, some (.inl s0), some (.inl 0), none, none]) hok dX9_count_175 (by decide) rfl ?_
  refine cb_fewer (ls' := [some (.inr 0), none, some (.inl s0), some (.inl 0), none, none]) ⟨rfl, ⟨rfl, ⟨rfl, trivial⟩⟩⟩ ?_
  exact J_X9_count_b176 hJ hok  cb_N _ _ _
def f_X9_count (g : cb_S) (x1 : Int) : Option (Int × cb_S) := cb_b (f_X9_looks g ) (fun r1 g1 => if cb_w x1 = 0 then (some (g1 0 1, g1)) else (if cb_w x1 = 1 then (some (g1 0 20, g1)) else (if cb_w x1 = 2 then (f_X9_count_b56  cb_N 0 0 g1) else (if cb_w x1 = 3 then (some (g1 0 28, g1)) else (if cb_w x1 = 4 then (f_X9_count_b90  cb_N 0 0 g1) else (if cb_w x1 = 5 then (if cb_w (g1 0 1) = 0 then (f_X9_count_b173  (g1 0 0) g1) else (f_X9_count_b173  0 g1)) else (some (-1, g1))))))))
set_option maxRecDepth 100000 in
theorem C_X9_count {O : cb_O} (hJ : cb_J O skM) (x1 : Int) (g : cb_S) : ∀ q, f_X9_count g x1 = some q → cb_m O skM false yX9_count cX9_count 6 (some .int) rm_X9_count [.inr 0, .inl x1] g q := by
  intro q hq
  refine cb_of_body hJ (by decide) (Nat.le_of_ble_eq_true rfl) hq (fun M hok => ?_)
  show cb_j _ _ _ _ _ _ _ [some (.inr 0), some (.inl x1), none, none, none, none] _ _ (cb_b (f_X9_looks g ) (fun r1 g1 => if cb_w x1 = 0 then (some (g1 0 1, g1)) else (if cb_w x1 = 1 then (some (g1 0 20, g1)) else (if cb_w x1 = 2 then (f_X9_count_b56  cb_N 0 0 g1) else (if cb_w x1 = 3 then (some (g1 0 28, g1)) else (if cb_w x1 = 4 then (f_X9_count_b90  cb_N 0 0 g1) else (if cb_w x1 = 5 then (if cb_w (g1 0 1) = 0 then (f_X9_count_b173  (g1 0 0) g1) else (f_X9_count_b173  0 g1)) else (some (-1, g1)))))))))
  refine cb_aload_n hok dX9_count_0 rfl ?_
  refine cb_cvv (as := []) (rest := []) hok lk_RX9_162 (by decide) (by decide) dX9_count_1 (fun q1 hq1 => C_X9_looks hJ _ q1 hq1) rfl rfl (Nat.le_of_ble_eq_true rfl) skM_b0 skM_c0 rfl (fun r1 g1 => ?_)
  refine cb_iconst hok dX9_count_4 ?_
  refine cb_istore_n (ls' := [some (.inr 0), some (.inl x1), some (.inl 0), none, none, none]) hok dX9_count_5 (by decide) rfl ?_
  refine cb_iload_n hok dX9_count_6 rfl ?_
  refine cb_ite (fun hs1 => ?_) (fun hs1 => ?_)
  · refine cb_tabIn (tgt := 44) hok (0) hs1 dX9_count_7 (by decide) (by decide) rfl (by decide) ?_
    refine cb_aload_n hok dX9_count_44 rfl ?_
    refine cb_gi hok dX9_count_45 fl_RX9_81 skM_b0 skM_c0 rfl ?_
    exact cb_iret hok dX9_count_48
  refine cb_ite (fun hs2 => ?_) (fun hs2 => ?_)
  · refine cb_tabIn (tgt := 49) hok (1) hs2 dX9_count_7 (by decide) (by decide) rfl (by decide) ?_
    refine cb_aload_n hok dX9_count_49 rfl ?_
    refine cb_gi hok dX9_count_50 fl_RX9_129 skM_b0 skM_c0 rfl ?_
    exact cb_iret hok dX9_count_53
  refine cb_ite (fun hs3 => ?_) (fun hs3 => ?_)
  · refine cb_tabIn (tgt := 54) hok (2) hs3 dX9_count_7 (by decide) (by decide) rfl (by decide) ?_
    refine cb_iconst hok dX9_count_54 ?_
    refine cb_istore_n (ls' := [some (.inr 0), some (.inl x1), some (.inl 0), some (.inl 0), none, none]) hok dX9_count_55 (by decide) rfl ?_
    refine cb_fewer (ls' := [some (.inr 0), none, some (.inl 0), some (.inl 0), none, none]) ⟨rfl, ⟨rfl, ⟨rfl, trivial⟩⟩⟩ ?_
    exact J_X9_count_b56 hJ hok  cb_N _ _ _
  refine cb_ite (fun hs4 => ?_) (fun hs4 => ?_)
  · refine cb_tabIn (tgt := 83) hok (3) hs4 dX9_count_7 (by decide) (by decide) rfl (by decide) ?_
    refine cb_aload_n hok dX9_count_83 rfl ?_
    refine cb_gi hok dX9_count_84 fl_RX9_147 skM_b0 skM_c0 rfl ?_
    exact cb_iret hok dX9_count_87
  refine cb_ite (fun hs5 => ?_) (fun hs5 => ?_)
  · refine cb_tabIn (tgt := 88) hok (4) hs5 dX9_count_7 (by decide) (by decide) rfl (by decide) ?_
    refine cb_iconst hok dX9_count_88 ?_
    refine cb_istore_n (ls' := [some (.inr 0), some (.inl x1), some (.inl 0), some (.inl 0), none, none]) hok dX9_count_89 (by decide) rfl ?_
    refine cb_fewer (ls' := [some (.inr 0), none, some (.inl 0), some (.inl 0), none, none]) ⟨rfl, ⟨rfl, ⟨rfl, trivial⟩⟩⟩ ?_
    exact J_X9_count_b90 hJ hok  cb_N _ _ _
  refine cb_ite (fun hs6 => ?_) (fun hs6 => ?_)
  · refine cb_tabIn (tgt := 158) hok (5) hs6 dX9_count_7 (by decide) (by decide) rfl (by decide) ?_
    refine cb_aload_n hok dX9_count_158 rfl ?_
    refine cb_gi hok dX9_count_159 fl_RX9_81 skM_b0 skM_c0 rfl ?_
    refine cb_ifne (tgt := 172) hok rfl dX9_count_162 (by decide) (fun _ => ?_) (fun _ => ?_)
    · refine cb_iconst hok dX9_count_172 ?_
      refine cb_fewer (ls' := [some (.inr 0), none, none, none, none, none]) ⟨rfl, trivial⟩ ?_
      exact J_X9_count_b173 hJ hok  _ _
    · refine cb_aload_n hok dX9_count_165 rfl ?_
      refine cb_gi hok dX9_count_166 fl_RX9_109 skM_b0 skM_c0 rfl ?_
      refine cb_goto (tgt := 173) hok dX9_count_169 (by decide) ?_
      refine cb_fewer (ls' := [some (.inr 0), none, none, none, none, none]) ⟨rfl, trivial⟩ ?_
      exact J_X9_count_b173 hJ hok  _ _
  refine cb_tabOut (tgt := 209) hok dX9_count_7 (by omega) (by decide) ?_
  refine cb_iconst hok dX9_count_209 ?_
  exact cb_iret hok dX9_count_210
