/-! CaretBench$Sight turn(II)V -/
def f_X6_turn_b5 : Nat → Int → Int → cb_S → Option (Int × cb_S)
  | 0 => fun _ _ _ => none
  | n + 1 => fun x3 x4 g => if cb_w x4 ≤ cb_w x3 then (some (0, g)) else (if 0 ≤ cb_w x3 ∧ cb_w x3 < (60 : Nat) then (if 0 ≤ cb_w x4 ∧ cb_w x4 < (60 : Nat) then (if 0 ≤ cb_w x3 ∧ cb_w x3 < (60 : Nat) then (if 0 ≤ cb_w x4 ∧ cb_w x4 < (60 : Nat) then ((f_X6_turn_b5 n) (x3 + 1) (x4 + (-1)) (cb_u (cb_u g 27 (cb_w x3).toNat (g 27 ((cb_w x4).toNat))) 27 (cb_w x4).toNat (g 27 ((cb_w x3).toNat)))) else none) else none) else none) else none)
set_option maxRecDepth 100000 in
theorem J_X6_turn_b5 {O : cb_O} {M : cb_M} (hJ : cb_J O skC) (hok : cb_ok O skC M cX6_turn 6 RX6 none) : ∀ (n : Nat) (x3 x4 : Int) (g : cb_S), cb_j O skC true rm_X6_turn M 6 5 [some (.inr 4), none, none, some (.inl x3), some (.inl x4), none] [] g (f_X6_turn_b5 n x3 x4 g) := by
  intro n
  induction n with
  | zero => intros; exact cb_none
  | succ n hk5 =>
    intro x3 x4 g
    show cb_j _ _ _ _ _ _ _ _ _ _ (if cb_w x4 ≤ cb_w x3 then (some (0, g)) else (if 0 ≤ cb_w x3 ∧ cb_w x3 < (60 : Nat) then (if 0 ≤ cb_w x4 ∧ cb_w x4 < (60 : Nat) then (if 0 ≤ cb_w x3 ∧ cb_w x3 < (60 : Nat) then (if 0 ≤ cb_w x4 ∧ cb_w x4 < (60 : Nat) then ((f_X6_turn_b5 n) (x3 + 1) (x4 + (-1)) (cb_u (cb_u g 27 (cb_w x3).toNat (g 27 ((cb_w x4).toNat))) 27 (cb_w x4).toNat (g 27 ((cb_w x3).toNat)))) else none) else none) else none) else none))
    refine cb_iload_n hok dX6_turn_5 rfl ?_
    refine cb_iload hok dX6_turn_6 rfl ?_
    refine cb_icge (tgt := 50) hok rfl rfl dX6_turn_8 (by decide) (fun _ => ?_) (fun _ => ?_)
    · exact cb_vret hok dX6_turn_50
    · refine cb_aload_n hok dX6_turn_11 rfl ?_
      refine cb_gr hok dX6_turn_12 fl_RX6_15 skC_b4 skC_c4 rfl ?_
      refine cb_iload_n hok dX6_turn_15 rfl ?_
      refine cb_iald hok dX6_turn_16 skC_b27 skC_c27 ?_
      refine cb_istore (ls' := [some (.inr 4), none, none, some (.inl x3), some (.inl x4), some (.inl (g 27 ((cb_w x3).toNat)))]) hok dX6_turn_17 (by decide) rfl ?_
      refine cb_aload_n hok dX6_turn_19 rfl ?_
      refine cb_gr hok dX6_turn_20 fl_RX6_15 skC_b4 skC_c4 rfl ?_
      refine cb_iload_n hok dX6_turn_23 rfl ?_
      refine cb_aload_n hok dX6_turn_24 rfl ?_
      refine cb_gr hok dX6_turn_25 fl_RX6_15 skC_b4 skC_c4 rfl ?_
      refine cb_iload hok dX6_turn_28 rfl ?_
      refine cb_iald hok dX6_turn_30 skC_b27 skC_c27 ?_
      refine cb_iast hok dX6_turn_31 skC_b27 skC_c27 ?_
      refine cb_aload_n hok dX6_turn_32 rfl ?_
      refine cb_gr hok dX6_turn_33 fl_RX6_15 skC_b4 skC_c4 rfl ?_
      refine cb_iload hok dX6_turn_36 rfl ?_
      refine cb_iload hok dX6_turn_38 rfl ?_
      refine cb_iast hok dX6_turn_40 skC_b27 skC_c27 ?_
      refine cb_iinc (ls' := [some (.inr 4), none, none, some (.inl (x3 + 1)), some (.inl x4), some (.inl (g 27 ((cb_w x3).toNat)))]) hok dX6_turn_41 rfl (by decide) rfl ?_
      refine cb_iinc (ls' := [some (.inr 4), none, none, some (.inl (x3 + 1)), some (.inl (x4 + (-1))), some (.inl (g 27 ((cb_w x3).toNat)))]) hok dX6_turn_44 rfl (by decide) rfl ?_
      refine cb_goto (tgt := 5) hok dX6_turn_47 (by decide) ?_
      refine cb_fewer (ls' := [some (.inr 4), none, none, some (.inl (x3 + 1)), some (.inl (x4 + (-1))), none]) ⟨rfl, ⟨rfl, ⟨rfl, trivial⟩⟩⟩ ?_
      exact hk5 _ _ _
def f_X6_turn (g : cb_S) (x1 : Int) (x2 : Int) : Option (Int × cb_S) := f_X6_turn_b5  cb_N x1 x2 g
set_option maxRecDepth 100000 in
theorem C_X6_turn {O : cb_O} (hJ : cb_J O skC) (x1 : Int) (x2 : Int) (g : cb_S) : ∀ q, f_X6_turn g x1 x2 = some q → cb_m O skC true yX6_turn cX6_turn 6 none rm_X6_turn [.inr 4, .inl x1, .inl x2] g q := by
  intro q hq
  refine cb_of_body hJ (by decide) (Nat.le_of_ble_eq_true rfl) hq (fun M hok => ?_)
  show cb_j _ _ _ _ _ _ _ [some (.inr 4), some (.inl x1), some (.inl x2), none, none, none] _ _ (f_X6_turn_b5  cb_N x1 x2 g)
  refine cb_iload_n hok dX6_turn_0 rfl ?_
  refine cb_istore_n (ls' := [some (.inr 4), some (.inl x1), some (.inl x2), some (.inl x1), none, none]) hok dX6_turn_1 (by decide) rfl ?_
  refine cb_iload_n hok dX6_turn_2 rfl ?_
  refine cb_istore (ls' := [some (.inr 4), some (.inl x1), some (.inl x2), some (.inl x1), some (.inl x2), none]) hok dX6_turn_3 (by decide) rfl ?_
  refine cb_fewer (ls' := [some (.inr 4), none, none, some (.inl x1), some (.inl x2), none]) ⟨rfl, ⟨rfl, ⟨rfl, trivial⟩⟩⟩ ?_
  exact J_X6_turn_b5 hJ hok  cb_N _ _ _
/-! CaretBench$Sight turnRuns(I)V -/
def f_X6_turnRuns_b50 (kk4 : Int → Int → Int → cb_S → Option (Int × cb_S)) (x1 x2 x3 : Int) (g : cb_S) : Option (Int × cb_S) := kk4 x1 x2 (x3 + 1) g
set_option maxRecDepth 100000 in
theorem J_X6_turnRuns_b50 {O : cb_O} {M : cb_M} (hJ : cb_J O skC) (hok : cb_ok O skC M cX6_turnRuns 4 RX6 none) {kk4 : Int → Int → Int → cb_S → Option (Int × cb_S)} (hk4 : ∀ (x1 x2 x3 : Int) (g : cb_S), cb_j O skC true rm_X6_turnRuns M 4 4 [some (.inr 4), some (.inl x1), some (.inl x2), some (.inl x3)] [] g (kk4 x1 x2 x3 g)) : ∀ (x1 x2 x3 : Int) (g : cb_S), cb_j O skC true rm_X6_turnRuns M 4 50 [some (.inr 4), some (.inl x1), some (.inl x2), some (.inl x3)] [] g (f_X6_turnRuns_b50 kk4 x1 x2 x3 g) := by
  intro x1 x2 x3 g
  show cb_j _ _ _ _ _ _ _ _ _ _ (kk4 x1 x2 (x3 + 1) g)
  refine cb_iinc (ls' := [some (.inr 4), some (.inl x1), some (.inl x2), some (.inl (x3 + 1))]) hok dX6_turnRuns_50 rfl (by decide) rfl ?_
  refine cb_goto (tgt := 4) hok dX6_turnRuns_53 (by decide) ?_
  refine cb_fewer (ls' := [some (.inr 4), some (.inl x1), some (.inl x2), some (.inl (x3 + 1))]) ⟨rfl, ⟨rfl, ⟨rfl, ⟨rfl, trivial⟩⟩⟩⟩ ?_
  exact hk4 _ _ _ _
def f_X6_turnRuns_b38 (kk4 : Int → Int → Int → cb_S → Option (Int × cb_S)) (x1 x2 x3 : Int) (g : cb_S) : Option (Int × cb_S) := cb_b (f_X6_turn g x2 (x3 - 1)) (fun r1 g1 => f_X6_turnRuns_b50 kk4 x1 (x3 + 1) x3 g1)
set_option maxRecDepth 100000 in
theorem J_X6_turnRuns_b38 {O : cb_O} {M : cb_M} (hJ : cb_J O skC) (hok : cb_ok O skC M cX6_turnRuns 4 RX6 none) {kk4 : Int → Int → Int → cb_S → Option (Int × cb_S)} (hk4 : ∀ (x1 x2 x3 : Int) (g : cb_S), cb_j O skC true rm_X6_turnRuns M 4 4 [some (.inr 4), some (.inl x1), some (.inl x2), some (.inl x3)] [] g (kk4 x1 x2 x3 g)) : ∀ (x1 x2 x3 : Int) (g : cb_S), cb_j O skC true rm_X6_turnRuns M 4 38 [some (.inr 4), some (.inl x1), some (.inl x2), some (.inl x3)] [] g (f_X6_turnRuns_b38 kk4 x1 x2 x3 g) := by
  intro x1 x2 x3 g
  show cb_j _ _ _ _ _ _ _ _ _ _ (cb_b (f_X6_turn g x2 (x3 - 1)) (fun r1 g1 => f_X6_turnRuns_b50 kk4 x1 (x3 + 1) x3 g1))
  refine cb_aload_n hok dX6_turnRuns_38 rfl ?_
  refine cb_iload_n hok dX6_turnRuns_39 rfl ?_
  refine cb_iload_n hok dX6_turnRuns_40 rfl ?_
  refine cb_iconst hok dX6_turnRuns_41 ?_
  refine cb_isub hok dX6_turnRuns_42 ?_
  refine cb_cvv (as := [.inl x2, .inl (x3 - 1)]) (rest := []) hok lk_RX6_72 (by decide) (by decide) dX6_turnRuns_43 (fun q1 hq1 => C_X6_turn hJ _ _ _ q1 hq1) rfl rfl (Nat.le_of_ble_eq_true rfl) skC_b4 skC_c4 rfl (fun r1 g1 => ?_)
  refine cb_iload_n hok dX6_turnRuns_46 rfl ?_
  refine cb_iconst hok dX6_turnRuns_47 ?_
  refine cb_iadd hok dX6_turnRuns_48 ?_
  refine cb_istore_n (ls' := [some (.inr 4), some (.inl x1), some (.inl (x3 + 1)), some (.inl x3)]) hok dX6_turnRuns_49 (by decide) rfl ?_
  refine cb_fewer (ls' := [some (.inr 4), some (.inl x1), some (.inl (x3 + 1)), some (.inl x3)]) ⟨rfl, ⟨rfl, ⟨rfl, ⟨rfl, trivial⟩⟩⟩⟩ ?_
  exact J_X6_turnRuns_b50 hJ hok hk4 _ _ _ _
def f_X6_turnRuns_b4 : Nat → Int → Int → Int → cb_S → Option (Int × cb_S)
  | 0 => fun _ _ _ _ => none
  | n + 1 => fun x1 x2 x3 g => if cb_w (g 4 4) < cb_w x3 then (some (0, g)) else (if cb_w x3 = cb_w (g 4 4) then (f_X6_turnRuns_b38 (f_X6_turnRuns_b4 n) x1 x2 x3 g) else (if 0 ≤ cb_w x3 ∧ cb_w x3 < (60 : Nat) then ((v_X8_valueAt g 26 60 (g 27 ((cb_w x3).toNat)) 0).bind (fun r1 => if cb_w x1 ≤ cb_w r1 then (f_X6_turnRuns_b50 (f_X6_turnRuns_b4 n) x1 x2 x3 g) else (f_X6_turnRuns_b38 (f_X6_turnRuns_b4 n) x1 x2 x3 g))) else none))
set_option maxRecDepth 100000 in
theorem J_X6_turnRuns_b4 {O : cb_O} {M : cb_M} (hJ : cb_J O skC) (hok : cb_ok O skC M cX6_turnRuns 4 RX6 none) : ∀ (n : Nat) (x1 x2 x3 : Int) (g : cb_S), cb_j O skC true rm_X6_turnRuns M 4 4 [some (.inr 4), some (.inl x1), some (.inl x2), some (.inl x3)] [] g (f_X6_turnRuns_b4 n x1 x2 x3 g) := by
  intro n
  induction n with
  | zero => intros; exact cb_none
  | succ n hk4 =>
    intro x1 x2 x3 g
    show cb_j _ _ _ _ _ _ _ _ _ _ (if cb_w (g 4 4) < cb_w x3 then (some (0, g)) else (if cb_w x3 = cb_w (g 4 4) then (f_X6_turnRuns_b38 (f_X6_turnRuns_b4 n) x1 x2 x3 g) else (if 0 ≤ cb_w x3 ∧ cb_w x3 < (60 : Nat) then ((v_X8_valueAt g 26 60 (g 27 ((cb_w x3).toNat)) 0).bind (fun r1 => if cb_w x1 ≤ cb_w r1 then (f_X6_turnRuns_b50 (f_X6_turnRuns_b4 n) x1 x2 x3 g) else (f_X6_turnRuns_b38 (f_X6_turnRuns_b4 n) x1 x2 x3 g))) else none)))
    refine cb_iload_n hok dX6_turnRuns_4 rfl ?_
    refine cb_aload_n hok dX6_turnRuns_5 rfl ?_
    refine cb_gi hok dX6_turnRuns_6 fl_RX6_30 skC_b4 skC_c4 rfl ?_
    refine cb_icgt (tgt := 56) hok rfl rfl dX6_turnRuns_9 (by decide) (fun _ => ?_) (fun _ => ?_)
    · exact cb_vret hok dX6_turnRuns_56
    · refine cb_iload_n hok dX6_turnRuns_12 rfl ?_
      refine cb_aload_n hok dX6_turnRuns_13 rfl ?_
      refine cb_gi hok dX6_turnRuns_14 fl_RX6_30 skC_b4 skC_c4 rfl ?_
      refine cb_iceq (tgt := 38) hok rfl rfl dX6_turnRuns_17 (by decide) (fun _ => ?_) (fun _ => ?_)
      · refine cb_fewer (ls' := [some (.inr 4), some (.inl x1), some (.inl x2), some (.inl x3)]) ⟨rfl, ⟨rfl, ⟨rfl, ⟨rfl, trivial⟩⟩⟩⟩ ?_
        exact J_X6_turnRuns_b38 hJ hok hk4 _ _ _ _
      · refine cb_aload_n hok dX6_turnRuns_20 rfl ?_
        refine cb_gr hok dX6_turnRuns_21 fl_RX6_9 skC_b4 skC_c4 rfl ?_
        refine cb_aload_n hok dX6_turnRuns_24 rfl ?_
        refine cb_gr hok dX6_turnRuns_25 fl_RX6_15 skC_b4 skC_c4 rfl ?_
        refine cb_iload_n hok dX6_turnRuns_28 rfl ?_
        refine cb_iald hok dX6_turnRuns_29 skC_b27 skC_c27 ?_
        refine cb_iconst hok dX6_turnRuns_30 ?_
        refine cb_cnr (as := [.inr 26, .inl (g 27 ((cb_w x3).toNat)), .inl 0]) (rest := []) hok lk_RX6_68 (by decide) (by decide) dX6_turnRuns_31 (fun q1 hq1 => C_X8_valueAt hJ 26 60 skC_b26 skC_c26 _ _ _ q1 hq1) rfl rfl (Nat.le_of_ble_eq_true rfl) (fun r1 => ?_)
        refine cb_iload_n hok dX6_turnRuns_34 rfl ?_
        refine cb_icge (tgt := 50) hok rfl rfl dX6_turnRuns_35 (by decide) (fun _ => ?_) (fun _ => ?_)
        · refine cb_fewer (ls' := [some (.inr 4), some (.inl x1), some (.inl x2), some (.inl x3)]) ⟨rfl, ⟨rfl, ⟨rfl, ⟨rfl, trivial⟩⟩⟩⟩ ?_
          exact J_X6_turnRuns_b50 hJ hok hk4 _ _ _ _
        · refine cb_fewer (ls' := [some (.inr 4), some (.inl x1), some (.inl x2), some (.inl x3)]) ⟨rfl, ⟨rfl, ⟨rfl, ⟨rfl, trivial⟩⟩⟩⟩ ?_
          exact J_X6_turnRuns_b38 hJ hok hk4 _ _ _ _
def f_X6_turnRuns (g : cb_S) (x1 : Int) : Option (Int × cb_S) := f_X6_turnRuns_b4  cb_N x1 0 0 g
set_option maxRecDepth 100000 in
theorem C_X6_turnRuns {O : cb_O} (hJ : cb_J O skC) (x1 : Int) (g : cb_S) : ∀ q, f_X6_turnRuns g x1 = some q → cb_m O skC true yX6_turnRuns cX6_turnRuns 4 none rm_X6_turnRuns [.inr 4, .inl x1] g q := by
  intro q hq
  refine cb_of_body hJ (by decide) (Nat.le_of_ble_eq_true rfl) hq (fun M hok => ?_)
  show cb_j _ _ _ _ _ _ _ [some (.inr 4), some (.inl x1), none, none] _ _ (f_X6_turnRuns_b4  cb_N x1 0 0 g)
  refine cb_iconst hok dX6_turnRuns_0 ?_
  refine cb_istore_n (ls' := [some (.inr 4), some (.inl x1), some (.inl 0), none]) hok dX6_turnRuns_1 (by decide) rfl ?_
  refine cb_iconst hok dX6_turnRuns_2 ?_
  refine cb_istore_n (ls' := [some (.inr 4), some (.inl x1), some (.inl 0), some (.inl 0)]) hok dX6_turnRuns_3 (by decide) rfl ?_
  refine cb_fewer (ls' := [some (.inr 4), some (.inl x1), some (.inl 0), some (.inl 0)]) ⟨rfl, ⟨rfl, ⟨rfl, ⟨rfl, trivial⟩⟩⟩⟩ ?_
  exact J_X6_turnRuns_b4 hJ hok  cb_N _ _ _ _
/-! CaretBench$Sight placeAll(LCaretBench$Clusters;)V -/
def f_X6_placeAll_b61 (kk7 : Int → cb_S → Option (Int × cb_S)) (x2 : Int) (g : cb_S) : Option (Int × cb_S) := kk7 (x2 + 1) g
set_option maxRecDepth 100000 in
theorem J_X6_placeAll_b61 {O : cb_O} {M : cb_M} (hJ : cb_J O skC) (hok : cb_ok O skC M cX6_placeAll 4 RX6 none) {kk7 : Int → cb_S → Option (Int × cb_S)} (hk7 : ∀ (x2 : Int) (g : cb_S), cb_j O skC true rm_X6_placeAll M 4 7 [some (.inr 4), some (.inr 2), some (.inl x2), none] [] g (kk7 x2 g)) : ∀ (x2 : Int) (g : cb_S), cb_j O skC true rm_X6_placeAll M 4 61 [some (.inr 4), some (.inr 2), some (.inl x2), none] [] g (f_X6_placeAll_b61 kk7 x2 g) := by
  intro x2 g
  show cb_j _ _ _ _ _ _ _ _ _ _ (kk7 (x2 + 1) g)
  refine cb_iinc (ls' := [some (.inr 4), some (.inr 2), some (.inl (x2 + 1)), none]) hok dX6_placeAll_61 rfl (by decide) rfl ?_
  refine cb_goto (tgt := 7) hok dX6_placeAll_64 (by decide) ?_
  refine cb_fewer (ls' := [some (.inr 4), some (.inr 2), some (.inl (x2 + 1)), none]) ⟨rfl, ⟨rfl, ⟨rfl, trivial⟩⟩⟩ ?_
  exact hk7 _ _
def f_X6_placeAll_b7 : Nat → Int → cb_S → Option (Int × cb_S)
  | 0 => fun _ _ => none
  | n + 1 => fun x2 g => if cb_w (g 4 4) ≤ cb_w x2 then (some (0, g)) else (if 0 ≤ cb_w x2 ∧ cb_w x2 < (60 : Nat) then ((v_X1_has g (g 27 ((cb_w x2).toNat))).bind (fun r1 => if cb_w r1 = 0 then (f_X6_placeAll_b61 (f_X6_placeAll_b7 n) x2 g) else (if 0 ≤ cb_w (g 27 ((cb_w x2).toNat)) ∧ cb_w (g 27 ((cb_w x2).toNat)) < (60 : Nat) then (if 0 ≤ cb_w (g 27 ((cb_w x2).toNat)) ∧ cb_w (g 27 ((cb_w x2).toNat)) < (60 : Nat) then ((v_X1_widthOf (cb_u (cb_u g 28 (cb_w (g 27 ((cb_w x2).toNat))).toNat x2) 29 (cb_w (g 27 ((cb_w x2).toNat))).toNat (g 4 6)) (g 27 ((cb_w x2).toNat))).bind (fun r2 => f_X6_placeAll_b61 (f_X6_placeAll_b7 n) x2 (cb_u (cb_u (cb_u g 28 (cb_w (g 27 ((cb_w x2).toNat))).toNat x2) 29 (cb_w (g 27 ((cb_w x2).toNat))).toNat (g 4 6)) 4 6 ((g 4 6) + r2)))) else none) else none))) else none)
set_option maxRecDepth 100000 in
theorem J_X6_placeAll_b7 {O : cb_O} {M : cb_M} (hJ : cb_J O skC) (hok : cb_ok O skC M cX6_placeAll 4 RX6 none) : ∀ (n : Nat) (x2 : Int) (g : cb_S), cb_j O skC true rm_X6_placeAll M 4 7 [some (.inr 4), some (.inr 2), some (.inl x2), none] [] g (f_X6_placeAll_b7 n x2 g) := by
  intro n
  induction n with
  | zero => intros; exact cb_none
  | succ n hk7 =>
    intro x2 g
    show cb_j _ _ _ _ _ _ _ _ _ _ (if cb_w (g 4 4) ≤ cb_w x2 then (some (0, g)) else (if 0 ≤ cb_w x2 ∧ cb_w x2 < (60 : Nat) then ((v_X1_has g (g 27 ((cb_w x2).toNat))).bind (fun r1 => if cb_w r1 = 0 then (f_X6_placeAll_b61 (f_X6_placeAll_b7 n) x2 g) else (if 0 ≤ cb_w (g 27 ((cb_w x2).toNat)) ∧ cb_w (g 27 ((cb_w x2).toNat)) < (60 : Nat) then (if 0 ≤ cb_w (g 27 ((cb_w x2).toNat)) ∧ cb_w (g 27 ((cb_w x2).toNat)) < (60 : Nat) then ((v_X1_widthOf (cb_u (cb_u g 28 (cb_w (g 27 ((cb_w x2).toNat))).toNat x2) 29 (cb_w (g 27 ((cb_w x2).toNat))).toNat (g 4 6)) (g 27 ((cb_w x2).toNat))).bind (fun r2 => f_X6_placeAll_b61 (f_X6_placeAll_b7 n) x2 (cb_u (cb_u (cb_u g 28 (cb_w (g 27 ((cb_w x2).toNat))).toNat x2) 29 (cb_w (g 27 ((cb_w x2).toNat))).toNat (g 4 6)) 4 6 ((g 4 6) + r2)))) else none) else none))) else none))
    refine cb_iload_n hok dX6_placeAll_7 rfl ?_
    refine cb_aload_n hok dX6_placeAll_8 rfl ?_
    refine cb_gi hok dX6_placeAll_9 fl_RX6_30 skC_b4 skC_c4 rfl ?_
    refine cb_icge (tgt := 67) hok rfl rfl dX6_placeAll_12 (by decide) (fun _ => ?_) (fun _ => ?_)
    · exact cb_vret hok dX6_placeAll_67
    · refine cb_aload_n hok dX6_placeAll_15 rfl ?_
      refine cb_gr hok dX6_placeAll_16 fl_RX6_15 skC_b4 skC_c4 rfl ?_
      refine cb_iload_n hok dX6_placeAll_19 rfl ?_
      refine cb_iald hok dX6_placeAll_20 skC_b27 skC_c27 ?_
      refine cb_istore_n (ls' := [some (.inr 4), some (.inr 2), some (.inl x2), some (.inl (g 27 ((cb_w x2).toNat)))]) hok dX6_placeAll_21 (by decide) rfl ?_
      refine cb_aload_n hok dX6_placeAll_22 rfl ?_
      refine cb_iload_n hok dX6_placeAll_23 rfl ?_
      refine cb_cvr (as := [.inl (g 27 ((cb_w x2).toNat))]) (rest := []) hok lk_RX6_79 (by decide) (by decide) dX6_placeAll_24 (fun q1 hq1 => C_X1_has hJ _ _ q1 hq1) rfl rfl (Nat.le_of_ble_eq_true rfl) skC_b2 skC_c2 rfl (fun r1 => ?_)
      refine cb_ifeq (tgt := 61) hok rfl dX6_placeAll_27 (by decide) (fun _ => ?_) (fun _ => ?_)
      · refine cb_fewer (ls' := [some (.inr 4), some (.inr 2), some (.inl x2), none]) ⟨rfl, ⟨rfl, ⟨rfl, trivial⟩⟩⟩ ?_
        exact J_X6_placeAll_b61 hJ hok hk7 _ _
      · refine cb_aload_n hok dX6_placeAll_30 rfl ?_
        refine cb_gr hok dX6_placeAll_31 fl_RX6_18 skC_b4 skC_c4 rfl ?_
        refine cb_iload_n hok dX6_placeAll_34 rfl ?_
        refine cb_iload_n hok dX6_placeAll_35 rfl ?_
        refine cb_iast hok dX6_placeAll_36 skC_b28 skC_c28 ?_
        refine cb_aload_n hok dX6_placeAll_37 rfl ?_
        refine cb_gr hok dX6_placeAll_38 fl_RX6_21 skC_b4 skC_c4 rfl ?_
        refine cb_iload_n hok dX6_placeAll_41 rfl ?_
        refine cb_aload_n hok dX6_placeAll_42 rfl ?_
        refine cb_gi hok dX6_placeAll_43 fl_RX6_76 skC_b4 skC_c4 rfl ?_
        refine cb_top (y := g 4 6) rfl ?_
        refine cb_iast hok dX6_placeAll_46 skC_b29 skC_c29 ?_
        refine cb_aload_n hok dX6_placeAll_47 rfl ?_
        refine cb_dup hok dX6_placeAll_48 ?_
        refine cb_gi hok dX6_placeAll_49 fl_RX6_76 skC_b4 skC_c4 rfl ?_
        refine cb_top (y := g 4 6) rfl ?_
        refine cb_aload_n hok dX6_placeAll_52 rfl ?_
        refine cb_iload_n hok dX6_placeAll_53 rfl ?_
        refine cb_cvr (as := [.inl (g 27 ((cb_w x2).toNat))]) (rest := [.inl (g 4 6), .inr 4]) hok lk_RX6_83 (by decide) (by decide) dX6_placeAll_54 (fun q1 hq1 => C_X1_widthOf hJ _ _ q1 hq1) rfl rfl (Nat.le_of_ble_eq_true rfl) skC_b2 skC_c2 rfl (fun r2 => ?_)
        refine cb_iadd hok dX6_placeAll_57 ?_
        refine cb_pi hok dX6_placeAll_58 fp_RX6_76 skC_b4 skC_c4 rfl ?_
        refine cb_fewer (ls' := [some (.inr 4), some (.inr 2), some (.inl x2), none]) ⟨rfl, ⟨rfl, ⟨rfl, trivial⟩⟩⟩ ?_
        exact J_X6_placeAll_b61 hJ hok hk7 _ _
def f_X6_placeAll (g : cb_S) : Option (Int × cb_S) := f_X6_placeAll_b7  cb_N 0 (cb_u g 4 6 0)
set_option maxRecDepth 100000 in
theorem C_X6_placeAll {O : cb_O} (hJ : cb_J O skC) (g : cb_S) : ∀ q, f_X6_placeAll g = some q → cb_m O skC true yX6_placeAll cX6_placeAll 4 none rm_X6_placeAll [.inr 4, .inr 2] g q := by
  intro q hq
  refine cb_of_body hJ (by decide) (Nat.le_of_ble_eq_true rfl) hq (fun M hok => ?_)
  show cb_j _ _ _ _ _ _ _ [some (.inr 4), some (.inr 2), none, none] _ _ (f_X6_placeAll_b7  cb_N 0 (cb_u g 4 6 0))
  refine cb_aload_n hok dX6_placeAll_0 rfl ?_
  refine cb_iconst hok dX6_placeAll_1 ?_
  refine cb_pi hok dX6_placeAll_2 fp_RX6_76 skC_b4 skC_c4 rfl ?_
  refine cb_iconst hok dX6_placeAll_5 ?_
  refine cb_istore_n (ls' := [some (.inr 4), some (.inr 2), some (.inl 0), none]) hok dX6_placeAll_6 (by decide) rfl ?_
  refine cb_fewer (ls' := [some (.inr 4), some (.inr 2), some (.inl 0), none]) ⟨rfl, ⟨rfl, ⟨rfl, trivial⟩⟩⟩ ?_
  exact J_X6_placeAll_b7 hJ hok  cb_N _ _
/-! CaretBench$Sight lay(LCaretBench$Line;LCaretBench$Clusters;LCaretBench$Rows;)V -/
def f_X6_lay_b89 : Nat → Int → cb_S → Option (Int × cb_S)
  | 0 => fun _ _ => none
  | n + 1 => fun x4 g => if cb_w x4 < 1 then (cb_b (f_X6_placeAll g ) (fun r1 g1 => some (0, g1))) else (cb_b (f_X6_turnRuns g x4) (fun r2 g2 => (f_X6_lay_b89 n) (x4 + (-1)) g2))
set_option maxRecDepth 100000 in
theorem J_X6_lay_b89 {O : cb_O} {M : cb_M} (hJ : cb_J O skC) (hok : cb_ok O skC M cX6_lay 5 RX6 none) : ∀ (n : Nat) (x4 : Int) (g : cb_S), cb_j O skC true rm_X6_lay M 5 89 [some (.inr 4), none, some (.inr 2), none, some (.inl x4)] [] g (f_X6_lay_b89 n x4 g) := by
  intro n
  induction n with
  | zero => intros; exact cb_none
  | succ n hk89 =>
    intro x4 g
    show cb_j _ _ _ _ _ _ _ _ _ _ (if cb_w x4 < 1 then (cb_b (f_X6_placeAll g ) (fun r1 g1 => some (0, g1))) else (cb_b (f_X6_turnRuns g x4) (fun r2 g2 => (f_X6_lay_b89 n) (x4 + (-1)) g2)))
    refine cb_iload hok dX6_lay_89 rfl ?_
    refine cb_iconst hok dX6_lay_91 ?_
    refine cb_iclt (tgt := 107) hok rfl (by decide) dX6_lay_92 (by decide) (fun _ => ?_) (fun _ => ?_)
    · refine cb_aload_n hok dX6_lay_107 rfl ?_
      refine cb_aload_n hok dX6_lay_108 rfl ?_
      refine cb_cvv (as := [.inr 2]) (rest := []) hok lk_RX6_64 (by decide) (by decide) dX6_lay_109 (fun q1 hq1 => C_X6_placeAll hJ _ q1 hq1) rfl rfl (Nat.le_of_ble_eq_true rfl) skC_b4 skC_c4 rfl (fun r1 g1 => ?_)
      exact cb_vret hok dX6_lay_112
    · refine cb_aload_n hok dX6_lay_95 rfl ?_
      refine cb_iload hok dX6_lay_96 rfl ?_
      refine cb_cvv (as := [.inl x4]) (rest := []) hok lk_RX6_60 (by decide) (by decide) dX6_lay_98 (fun q1 hq1 => C_X6_turnRuns hJ _ _ q1 hq1) rfl rfl (Nat.le_of_ble_eq_true rfl) skC_b4 skC_c4 rfl (fun r2 g2 => ?_)
      refine cb_iinc (ls' := [some (.inr 4), none, some (.inr 2), none, some (.inl (x4 + (-1)))]) hok dX6_lay_101 rfl (by decide) rfl ?_
      refine cb_goto (tgt := 89) hok dX6_lay_104 (by decide) ?_
      refine cb_fewer (ls' := [some (.inr 4), none, some (.inr 2), none, some (.inl (x4 + (-1)))]) ⟨rfl, ⟨rfl, ⟨rfl, trivial⟩⟩⟩ ?_
      exact hk89 _ _
def f_X6_lay_b24 : Nat → Int → cb_S → Option (Int × cb_S)
  | 0 => fun _ _ => none
  | n + 1 => fun x4 g => if cb_w (g 4 4) ≤ cb_w x4 then (f_X6_lay_b89  cb_N (g 4 5) g) else ((v_X1_firstOf g x4).bind (fun r1 => (v_X5_levelOf g r1).bind (fun r2 => if 0 ≤ cb_w x4 ∧ cb_w x4 < (60 : Nat) then (if 0 ≤ cb_w x4 ∧ cb_w x4 < (60 : Nat) then (if 0 ≤ cb_w x4 ∧ cb_w x4 < (60 : Nat) then ((f_X6_lay_b24 n) (x4 + 1) (cb_u (cb_u (cb_u g 26 (cb_w x4).toNat r2) 27 (cb_w x4).toNat x4) 4 5 (if cb_w (g 4 5) < cb_w r2 then r2 else g 4 5))) else none) else none) else none)))
set_option maxRecDepth 100000 in
theorem J_X6_lay_b24 {O : cb_O} {M : cb_M} (hJ : cb_J O skC) (hok : cb_ok O skC M cX6_lay 5 RX6 none) : ∀ (n : Nat) (x4 : Int) (g : cb_S), cb_j O skC true rm_X6_lay M 5 24 [some (.inr 4), none, some (.inr 2), some (.inr 3), some (.inl x4)] [] g (f_X6_lay_b24 n x4 g) := by
  intro n
  induction n with
  | zero => intros; exact cb_none
  | succ n hk24 =>
    intro x4 g
    show cb_j _ _ _ _ _ _ _ _ _ _ (if cb_w (g 4 4) ≤ cb_w x4 then (f_X6_lay_b89  cb_N (g 4 5) g) else ((v_X1_firstOf g x4).bind (fun r1 => (v_X5_levelOf g r1).bind (fun r2 => if 0 ≤ cb_w x4 ∧ cb_w x4 < (60 : Nat) then (if 0 ≤ cb_w x4 ∧ cb_w x4 < (60 : Nat) then (if 0 ≤ cb_w x4 ∧ cb_w x4 < (60 : Nat) then ((f_X6_lay_b24 n) (x4 + 1) (cb_u (cb_u (cb_u g 26 (cb_w x4).toNat r2) 27 (cb_w x4).toNat x4) 4 5 (if cb_w (g 4 5) < cb_w r2 then r2 else g 4 5))) else none) else none) else none))))
    refine cb_iload hok dX6_lay_24 rfl ?_
    refine cb_aload_n hok dX6_lay_26 rfl ?_
    refine cb_gi hok dX6_lay_27 fl_RX6_30 skC_b4 skC_c4 rfl ?_
    refine cb_icge (tgt := 83) hok rfl rfl dX6_lay_30 (by decide) (fun _ => ?_) (fun _ => ?_)
    · refine cb_aload_n hok dX6_lay_83 rfl ?_
      refine cb_gi hok dX6_lay_84 fl_RX6_42 skC_b4 skC_c4 rfl ?_
      refine cb_istore (ls' := [some (.inr 4), none, some (.inr 2), some (.inr 3), some (.inl (g 4 5))]) hok dX6_lay_87 (by decide) rfl ?_
      refine cb_fewer (ls' := [some (.inr 4), none, some (.inr 2), none, some (.inl (g 4 5))]) ⟨rfl, ⟨rfl, ⟨rfl, trivial⟩⟩⟩ ?_
      exact J_X6_lay_b89 hJ hok  cb_N _ _
    · refine cb_aload_n hok dX6_lay_33 rfl ?_
      refine cb_gr hok dX6_lay_34 fl_RX6_9 skC_b4 skC_c4 rfl ?_
      refine cb_iload hok dX6_lay_37 rfl ?_
      refine cb_aload_n hok dX6_lay_39 rfl ?_
      refine cb_aload_n hok dX6_lay_40 rfl ?_
      refine cb_iload hok dX6_lay_41 rfl ?_
      refine cb_cvr (as := [.inl x4]) (rest := [.inr 3, .inl x4, .inr 26]) hok lk_RX6_45 (by decide) (by decide) dX6_lay_43 (fun q1 hq1 => C_X1_firstOf hJ _ _ q1 hq1) rfl rfl (Nat.le_of_ble_eq_true rfl) skC_b2 skC_c2 rfl (fun r1 => ?_)
      refine cb_cvr (as := [.inl r1]) (rest := [.inl x4, .inr 26]) hok lk_RX6_49 (by decide) (by decide) dX6_lay_46 (fun q1 hq1 => C_X5_levelOf hJ _ _ q1 hq1) rfl rfl (Nat.le_of_ble_eq_true rfl) skC_b3 skC_c3 rfl (fun r2 => ?_)
      refine cb_iast hok dX6_lay_49 skC_b26 skC_c26 ?_
      refine cb_aload_n hok dX6_lay_50 rfl ?_
      refine cb_gr hok dX6_lay_51 fl_RX6_15 skC_b4 skC_c4 rfl ?_
      refine cb_iload hok dX6_lay_54 rfl ?_
      refine cb_iload hok dX6_lay_56 rfl ?_
      refine cb_iast hok dX6_lay_58 skC_b27 skC_c27 ?_
      refine cb_aload_n hok dX6_lay_59 rfl ?_
      refine cb_aload_n hok dX6_lay_60 rfl ?_
      refine cb_gi hok dX6_lay_61 fl_RX6_42 skC_b4 skC_c4 rfl ?_
      refine cb_top (y := g 4 5) rfl ?_
      refine cb_aload_n hok dX6_lay_64 rfl ?_
      refine cb_gr hok dX6_lay_65 fl_RX6_9 skC_b4 skC_c4 rfl ?_
      refine cb_iload hok dX6_lay_68 rfl ?_
      refine cb_iald hok dX6_lay_70 skC_b26 skC_c26 ?_
      refine cb_top (y := r2) (by first | rfl | (simp [cb_u])) ?_
      refine cb_max hok lm_RX6_54 (by decide) (Nat.le_of_ble_eq_true rfl) dX6_lay_71 ?_
      refine cb_pi hok dX6_lay_74 fp_RX6_42 skC_b4 skC_c4 rfl ?_
      refine cb_iinc (ls' := [some (.inr 4), none, some (.inr 2), some (.inr 3), some (.inl (x4 + 1))]) hok dX6_lay_77 rfl (by decide) rfl ?_
      refine cb_goto (tgt := 24) hok dX6_lay_80 (by decide) ?_
      refine cb_fewer (ls' := [some (.inr 4), none, some (.inr 2), some (.inr 3), some (.inl (x4 + 1))]) ⟨rfl, ⟨rfl, ⟨rfl, ⟨rfl, trivial⟩⟩⟩⟩ ?_
      exact hk24 _ _
def f_X6_lay (g : cb_S) : Option (Int × cb_S) := (v_X1_number g ).bind (fun r1 => (v_X3_base (cb_u g 4 4 r1) ).bind (fun r2 => f_X6_lay_b24  cb_N 0 (cb_u (cb_u (cb_u g 4 4 r1) 4 7 r2) 4 5 0)))
set_option maxRecDepth 100000 in
theorem C_X6_lay {O : cb_O} (hJ : cb_J O skC) (g : cb_S) : ∀ q, f_X6_lay g = some q → cb_m O skC true yX6_lay cX6_lay 5 none rm_X6_lay [.inr 4, .inr 1, .inr 2, .inr 3] g q := by
  intro q hq
  refine cb_of_body hJ (by decide) (Nat.le_of_ble_eq_true rfl) hq (fun M hok => ?_)
  show cb_j _ _ _ _ _ _ _ [some (.inr 4), some (.inr 1), some (.inr 2), some (.inr 3), none] _ _ ((v_X1_number g ).bind (fun r1 => (v_X3_base (cb_u g 4 4 r1) ).bind (fun r2 => f_X6_lay_b24  cb_N 0 (cb_u (cb_u (cb_u g 4 4 r1) 4 7 r2) 4 5 0))))
  refine cb_aload_n hok dX6_lay_0 rfl ?_
  refine cb_aload_n hok dX6_lay_1 rfl ?_
  refine cb_cvr (as := []) (rest := [.inr 4]) hok lk_RX6_24 (by decide) (by decide) dX6_lay_2 (fun q1 hq1 => C_X1_number hJ _ q1 hq1) rfl rfl (Nat.le_of_ble_eq_true rfl) skC_b2 skC_c2 rfl (fun r1 => ?_)
  refine cb_pi hok dX6_lay_5 fp_RX6_30 skC_b4 skC_c4 rfl ?_
  refine cb_aload_n hok dX6_lay_8 rfl ?_
  refine cb_aload_n hok dX6_lay_9 rfl ?_
  refine cb_cvr (as := []) (rest := [.inr 4]) hok lk_RX6_34 (by decide) (by decide) dX6_lay_10 (fun q1 hq1 => C_X3_base hJ _ q1 hq1) rfl rfl (Nat.le_of_ble_eq_true rfl) skC_b1 skC_c1 rfl (fun r2 => ?_)
  refine cb_pi hok dX6_lay_13 fp_RX6_39 skC_b4 skC_c4 rfl ?_
  refine cb_aload_n hok dX6_lay_16 rfl ?_
  refine cb_iconst hok dX6_lay_17 ?_
  refine cb_pi hok dX6_lay_18 fp_RX6_42 skC_b4 skC_c4 rfl ?_
  refine cb_iconst hok dX6_lay_21 ?_
  refine cb_istore (ls' := [some (.inr 4), some (.inr 1), some (.inr 2), some (.inr 3), some (.inl 0)]) hok dX6_lay_22 (by decide) rfl ?_
  refine cb_fewer (ls' := [some (.inr 4), none, some (.inr 2), some (.inr 3), some (.inl 0)]) ⟨rfl, ⟨rfl, ⟨rfl, ⟨rfl, trivial⟩⟩⟩⟩ ?_
  exact J_X6_lay_b24 hJ hok  cb_N _ _
/-! CaretBench$Sight width()I -/
def v_X6_width (g : cb_S) : Option Int := some (g 4 6)
set_option maxRecDepth 100000 in
theorem C_X6_width {O : cb_O} (hJ : cb_J O skC) (g : cb_S) : ∀ q, v_X6_width g = some q → cb_m O skC false yX6_width cX6_width 1 (some .int) rm_X6_width [.inr 4] g (q, g) := by
  intro q hq
  refine cr_of_body hJ (by decide) (Nat.le_of_ble_eq_true rfl) hq (fun M hok => ?_)
  show cb_jr _ _ _ _ _ _ [some (.inr 4)] _ _ (some (g 4 6))
  refine cr_aload_n hok dX6_width_0 rfl ?_
  refine cr_gi hok dX6_width_1 fl_RX6_76 skC_b4 skC_c4 rfl ?_
  exact cr_iret hok dX6_width_4
/-! CaretBench$Signs isSign(I)Z -/
def v_X7_isSign (g : cb_S) (x0 : Int) : Option Int := (v_X7_kindOf g x0).bind (fun r1 => if cb_w r1 = (-1) then (some 0) else (some 1))
set_option maxRecDepth 100000 in
theorem C_X7_isSign {O : cb_O} (hJ : cb_J O skC) (x0 : Int) (g : cb_S) : ∀ q, v_X7_isSign g x0 = some q → cb_m O skC false yX7_isSign cX7_isSign 1 (some .boolean) rm_X7_isSign [.inl x0] g (q, g) := by
  intro q hq
  refine cr_of_body hJ (by decide) (Nat.le_of_ble_eq_true rfl) hq (fun M hok => ?_)
  show cb_jr _ _ _ _ _ _ [some (.inl x0)] _ _ ((v_X7_kindOf g x0).bind (fun r1 => if cb_w r1 = (-1) then (some 0) else (some 1)))
  refine cr_iload_n hok dX7_isSign_0 rfl ?_
  refine cr_csr (as := [.inl x0]) (rest := []) hok lk_RX7_9 (by decide) (by decide) dX7_isSign_1 (fun q1 hq1 => C_X7_kindOf hJ _ _ q1 hq1) rfl rfl (Nat.le_of_ble_eq_true rfl) (fun r1 => ?_)
  refine cr_iconst hok dX7_isSign_4 ?_
  refine cr_iceq (tgt := 12) hok rfl (by decide) dX7_isSign_5 (by decide) (fun _ => ?_) (fun _ => ?_)
  · refine cr_iconst hok dX7_isSign_12 ?_
    exact cr_zret hok dX7_isSign_13 (by decide)
  · refine cr_iconst hok dX7_isSign_8 ?_
    refine cr_goto (tgt := 13) hok dX7_isSign_9 (by decide) ?_
    exact cr_zret hok dX7_isSign_13 (by decide)
/-! CaretBench$Signs isOfWord(I)Z -/
def v_X7_isOfWord (g : cb_S) (x0 : Int) : Option Int := (v_X7_isLetter g x0).bind (fun r1 => if cb_w r1 = 0 then ((v_X7_kindOf g x0).bind (fun r2 => if cb_w r2 = 2 then (some 1) else (some 0))) else (some 1))
set_option maxRecDepth 100000 in
theorem C_X7_isOfWord {O : cb_O} (hJ : cb_J O skC) (x0 : Int) (g : cb_S) : ∀ q, v_X7_isOfWord g x0 = some q → cb_m O skC false yX7_isOfWord cX7_isOfWord 1 (some .boolean) rm_X7_isOfWord [.inl x0] g (q, g) := by
  intro q hq
  refine cr_of_body hJ (by decide) (Nat.le_of_ble_eq_true rfl) hq (fun M hok => ?_)
  show cb_jr _ _ _ _ _ _ [some (.inl x0)] _ _ ((v_X7_isLetter g x0).bind (fun r1 => if cb_w r1 = 0 then ((v_X7_kindOf g x0).bind (fun r2 => if cb_w r2 = 2 then (some 1) else (some 0))) else (some 1)))
  refine cr_iload_n hok dX7_isOfWord_0 rfl ?_
  refine cr_csr (as := [.inl x0]) (rest := []) hok lk_RX7_19 (by decide) (by decide) dX7_isOfWord_1 (fun q1 hq1 => C_X7_isLetter hJ _ _ q1 hq1) rfl rfl (Nat.le_of_ble_eq_true rfl) (fun r1 => ?_)
  refine cr_ifne (tgt := 15) hok rfl dX7_isOfWord_4 (by decide) (fun _ => ?_) (fun _ => ?_)
  · refine cr_iconst hok dX7_isOfWord_15 ?_
    refine cr_goto (tgt := 20) hok dX7_isOfWord_16 (by decide) ?_
    exact cr_zret hok dX7_isOfWord_20 (by decide)
  · refine cr_iload_n hok dX7_isOfWord_7 rfl ?_
    refine cr_csr (as := [.inl x0]) (rest := []) hok lk_RX7_9 (by decide) (by decide) dX7_isOfWord_8 (fun q1 hq1 => C_X7_kindOf hJ _ _ q1 hq1) rfl rfl (Nat.le_of_ble_eq_true rfl) (fun r2 => ?_)
    refine cr_iconst hok dX7_isOfWord_11 ?_
    refine cr_icne (tgt := 19) hok rfl (by decide) dX7_isOfWord_12 (by decide) (fun _ => ?_) (fun _ => ?_)
    · refine cr_iconst hok dX7_isOfWord_19 ?_
      exact cr_zret hok dX7_isOfWord_20 (by decide)
    · refine cr_iconst hok dX7_isOfWord_15 ?_
      refine cr_goto (tgt := 20) hok dX7_isOfWord_16 (by decide) ?_
      exact cr_zret hok dX7_isOfWord_20 (by decide)
/-! CaretBench$Signs mateOf(I)I -/
def v_X7_mateOf (g : cb_S) (x0 : Int) : Option Int := if cb_w x0 = 40 then (some 41) else (if cb_w x0 = 41 then (some 40) else (if cb_w x0 = 60 then (some 62) else (if cb_w x0 = 62 then (some 60) else (some x0))))
set_option maxRecDepth 100000 in
theorem C_X7_mateOf {O : cb_O} (hJ : cb_J O skC) (x0 : Int) (g : cb_S) : ∀ q, v_X7_mateOf g x0 = some q → cb_m O skC false yX7_mateOf cX7_mateOf 1 (some .int) rm_X7_mateOf [.inl x0] g (q, g) := by
  intro q hq
  refine cr_of_body hJ (by decide) (Nat.le_of_ble_eq_true rfl) hq (fun M hok => ?_)
  show cb_jr _ _ _ _ _ _ [some (.inl x0)] _ _ (if cb_w x0 = 40 then (some 41) else (if cb_w x0 = 41 then (some 40) else (if cb_w x0 = 60 then (some 62) else (if cb_w x0 = 62 then (some 60) else (some x0)))))
  refine cr_iload_n hok dX7_mateOf_0 rfl ?_
  refine cr_ite (fun hs1 => ?_) (fun hs1 => ?_)
  · refine cr_lookup (tgt := 44) (off := 43) hok dX7_mateOf_1 (by decide) (by rw [hs1]; decide) (by decide) ?_
    refine cr_bipush hok dX7_mateOf_44 (by decide) ?_
    exact cr_iret hok dX7_mateOf_46
  refine cr_ite (fun hs2 => ?_) (fun hs2 => ?_)
  · refine cr_lookup (tgt := 47) (off := 46) hok dX7_mateOf_1 (by decide) (by rw [hs2]; decide) (by decide) ?_
    refine cr_bipush hok dX7_mateOf_47 (by decide) ?_
    exact cr_iret hok dX7_mateOf_49
  refine cr_ite (fun hs3 => ?_) (fun hs3 => ?_)
  · refine cr_lookup (tgt := 50) (off := 49) hok dX7_mateOf_1 (by decide) (by rw [hs3]; decide) (by decide) ?_
    refine cr_bipush hok dX7_mateOf_50 (by decide) ?_
    exact cr_iret hok dX7_mateOf_52
  refine cr_ite (fun hs4 => ?_) (fun hs4 => ?_)
  · refine cr_lookup (tgt := 53) (off := 52) hok dX7_mateOf_1 (by decide) (by rw [hs4]; decide) (by decide) ?_
    refine cr_bipush hok dX7_mateOf_53 (by decide) ?_
    exact cr_iret hok dX7_mateOf_55
  refine cr_lookup (tgt := 56) (off := 55) hok dX7_mateOf_1 (by decide) (by simp [Op.lookupswitch.offset, hs1, Ne.symm hs1, hs2, Ne.symm hs2, hs3, Ne.symm hs3, hs4, Ne.symm hs4]) (by decide) ?_
  refine cr_iload_n hok dX7_mateOf_56 rfl ?_
  exact cr_iret hok dX7_mateOf_57
/-! CaretBench layOut()V -/
def f_X8_layOut (g : cb_S) : Option (Int × cb_S) := cb_b (f_X1_gather g ) (fun r1 g1 => cb_b (f_X5_lay g1 ) (fun r2 g2 => cb_b (f_X6_lay g2 ) (fun r3 g3 => some (0, g3))))
set_option maxRecDepth 100000 in
theorem C_X8_layOut {O : cb_O} (hJ : cb_J O skC) (g : cb_S) : ∀ q, f_X8_layOut g = some q → cb_m O skC true yX8_layOut cX8_layOut 1 none rm_X8_layOut [.inr 0] g q := by
  intro q hq
  refine cb_of_body hJ (by decide) (Nat.le_of_ble_eq_true rfl) hq (fun M hok => ?_)
  show cb_j _ _ _ _ _ _ _ [some (.inr 0)] _ _ (cb_b (f_X1_gather g ) (fun r1 g1 => cb_b (f_X5_lay g1 ) (fun r2 g2 => cb_b (f_X6_lay g2 ) (fun r3 g3 => some (0, g3)))))
  refine cb_aload_n hok dX8_layOut_0 rfl ?_
  refine cb_gr hok dX8_layOut_1 fl_RX8_19 skC_b0 skC_c0 rfl ?_
  refine cb_aload_n hok dX8_layOut_4 rfl ?_
  refine cb_gr hok dX8_layOut_5 fl_RX8_10 skC_b0 skC_c0 rfl ?_
  refine cb_cvv (as := [.inr 1]) (rest := []) hok lk_RX8_245 (by decide) (by decide) dX8_layOut_8 (fun q1 hq1 => C_X1_gather hJ _ q1 hq1) rfl rfl (Nat.le_of_ble_eq_true rfl) skC_b2 skC_c2 rfl (fun r1 g1 => ?_)
  refine cb_aload_n hok dX8_layOut_11 rfl ?_
  refine cb_gr hok dX8_layOut_12 fl_RX8_26 skC_b0 skC_c0 rfl ?_
  refine cb_aload_n hok dX8_layOut_15 rfl ?_
  refine cb_gr hok dX8_layOut_16 fl_RX8_10 skC_b0 skC_c0 rfl ?_
  refine cb_aload_n hok dX8_layOut_19 rfl ?_
  refine cb_gr hok dX8_layOut_20 fl_RX8_19 skC_b0 skC_c0 rfl ?_
  refine cb_cvv (as := [.inr 1, .inr 2]) (rest := []) hok lk_RX8_248 (by decide) (by decide) dX8_layOut_23 (fun q1 hq1 => C_X5_lay hJ _ q1 hq1) rfl rfl (Nat.le_of_ble_eq_true rfl) skC_b3 skC_c3 rfl (fun r2 g2 => ?_)
  refine cb_aload_n hok dX8_layOut_26 rfl ?_
  refine cb_gr hok dX8_layOut_27 fl_RX8_33 skC_b0 skC_c0 rfl ?_
  refine cb_aload_n hok dX8_layOut_30 rfl ?_
  refine cb_gr hok dX8_layOut_31 fl_RX8_10 skC_b0 skC_c0 rfl ?_
  refine cb_aload_n hok dX8_layOut_34 rfl ?_
  refine cb_gr hok dX8_layOut_35 fl_RX8_19 skC_b0 skC_c0 rfl ?_
  refine cb_aload_n hok dX8_layOut_38 rfl ?_
  refine cb_gr hok dX8_layOut_39 fl_RX8_26 skC_b0 skC_c0 rfl ?_
  refine cb_cvv (as := [.inr 1, .inr 2, .inr 3]) (rest := []) hok lk_RX8_252 (by decide) (by decide) dX8_layOut_42 (fun q1 hq1 => C_X6_lay hJ _ q1 hq1) rfl rfl (Nat.le_of_ble_eq_true rfl) skC_b4 skC_c4 rfl (fun r3 g3 => ?_)
  exact cb_vret hok dX8_layOut_45
/-! CaretBench way(I)I -/
def f_X8_way_b11 (x1 : Int) (g : cb_S) : Option (Int × cb_S) := (v_X3_base g ).bind (fun r1 => cb_b (f_X3_turnTo g x1) (fun r2 g2 => cb_b (f_X8_layOut g2 ) (fun r3 g3 => some (r1, g3))))
set_option maxRecDepth 100000 in
theorem J_X8_way_b11 {O : cb_O} {M : cb_M} (hJ : cb_J O skC) (hok : cb_ok O skC M cX8_way 3 RX8 (some .int)) : ∀ (x1 : Int) (g : cb_S), cb_j O skC false rm_X8_way M 3 11 [some (.inr 0), some (.inl x1), none] [] g (f_X8_way_b11 x1 g) := by
  intro x1 g
  show cb_j _ _ _ _ _ _ _ _ _ _ ((v_X3_base g ).bind (fun r1 => cb_b (f_X3_turnTo g x1) (fun r2 g2 => cb_b (f_X8_layOut g2 ) (fun r3 g3 => some (r1, g3)))))
  refine cb_aload_n hok dX8_way_11 rfl ?_
  refine cb_gr hok dX8_way_12 fl_RX8_10 skC_b0 skC_c0 rfl ?_
  refine cb_cvr (as := []) (rest := []) hok lk_RX8_63 (by decide) (by decide) dX8_way_15 (fun q1 hq1 => C_X3_base hJ _ q1 hq1) rfl rfl (Nat.le_of_ble_eq_true rfl) skC_b1 skC_c1 rfl (fun r1 => ?_)
  refine cb_istore_n (ls' := [some (.inr 0), some (.inl x1), some (.inl r1)]) hok dX8_way_18 (by decide) rfl ?_
  refine cb_aload_n hok dX8_way_19 rfl ?_
  refine cb_gr hok dX8_way_20 fl_RX8_10 skC_b0 skC_c0 rfl ?_
  refine cb_iload_n hok dX8_way_23 rfl ?_
  refine cb_cvv (as := [.inl x1]) (rest := []) hok lk_RX8_67 (by decide) (by decide) dX8_way_24 (fun q1 hq1 => C_X3_turnTo hJ _ _ q1 hq1) rfl rfl (Nat.le_of_ble_eq_true rfl) skC_b1 skC_c1 rfl (fun r2 g2 => ?_)
  refine cb_aload_n hok dX8_way_27 rfl ?_
  refine cb_cvv (as := []) (rest := []) hok lk_RX8_60 (by decide) (by decide) dX8_way_28 (fun q1 hq1 => C_X8_layOut hJ _ q1 hq1) rfl rfl (Nat.le_of_ble_eq_true rfl) skC_b0 skC_c0 rfl (fun r3 g3 => ?_)
  refine cb_iload_n hok dX8_way_31 rfl ?_
  exact cb_iret hok dX8_way_32
def f_X8_way (g : cb_S) (x1 : Int) : Option (Int × cb_S) := if cb_w x1 = 0 then (f_X8_way_b11  x1 g) else (if cb_w x1 = 1 then (f_X8_way_b11  x1 g) else (some (-1, g)))
set_option maxRecDepth 100000 in
theorem C_X8_way {O : cb_O} (hJ : cb_J O skC) (x1 : Int) (g : cb_S) : ∀ q, f_X8_way g x1 = some q → cb_m O skC false yX8_way cX8_way 3 (some .int) rm_X8_way [.inr 0, .inl x1] g q := by
  intro q hq
  refine cb_of_body hJ (by decide) (Nat.le_of_ble_eq_true rfl) hq (fun M hok => ?_)
  show cb_j _ _ _ _ _ _ _ [some (.inr 0), some (.inl x1), none] _ _ (if cb_w x1 = 0 then (f_X8_way_b11  x1 g) else (if cb_w x1 = 1 then (f_X8_way_b11  x1 g) else (some (-1, g))))
  refine cb_iload_n hok dX8_way_0 rfl ?_
  refine cb_ifeq (tgt := 11) hok rfl dX8_way_1 (by decide) (fun _ => ?_) (fun _ => ?_)
  · refine cb_fewer (ls' := [some (.inr 0), some (.inl x1), none]) ⟨rfl, ⟨rfl, trivial⟩⟩ ?_
    exact J_X8_way_b11 hJ hok  _ _
  · refine cb_iload_n hok dX8_way_4 rfl ?_
    refine cb_iconst hok dX8_way_5 ?_
    refine cb_iceq (tgt := 11) hok rfl (by decide) dX8_way_6 (by decide) (fun _ => ?_) (fun _ => ?_)
    · refine cb_fewer (ls' := [some (.inr 0), some (.inl x1), none]) ⟨rfl, ⟨rfl, trivial⟩⟩ ?_
      exact J_X8_way_b11 hJ hok  _ _
    · refine cb_iconst hok dX8_way_9 ?_
      exact cb_iret hok dX8_way_10
/-! CaretBench byteOf(IIIII)I -/
def v_X8_byteOf_b33 (x4 s0 : Int) (g : cb_S) : Option Int := some ((s0 % 4294967296 / 2 ^ ((24 - (8 * (x4 % 4))) % 32).toNat) % 256)
set_option maxRecDepth 100000 in
theorem J_X8_byteOf_b33 {O : cb_O} {M : cb_M} (hJ : cb_J O skC) (hok : cb_ok O skC M cX8_byteOf 6 RX8 (some .int)) : ∀ (x4 s0 : Int) (g : cb_S), cb_jr O skC rm_X8_byteOf M 6 33 [none, none, none, none, some (.inl x4), none] [.inl s0] g (v_X8_byteOf_b33 x4 s0 g) := by
  intro x4 s0 g
  show cb_jr _ _ _ _ _ _ _ _ _ (some ((s0 % 4294967296 / 2 ^ ((24 - (8 * (x4 % 4))) % 32).toNat) % 256))
  refine cr_istore (ls' := [none, none, none, none, some (.inl x4), some (.inl s0)]) hok dX8_byteOf_33 (by decide) rfl ?_
  refine cr_iload hok dX8_byteOf_35 rfl ?_
  refine cr_bipush hok dX8_byteOf_37 (by decide) ?_
  refine cr_bipush hok dX8_byteOf_39 (by decide) ?_
  refine cr_iload hok dX8_byteOf_41 rfl ?_
  refine cr_iconst hok dX8_byteOf_43 ?_
  refine cr_iand hok dX8_byteOf_44 (cb_and3 _) ?_
  refine cr_imul hok dX8_byteOf_45 ?_
  refine cr_isub hok dX8_byteOf_46 ?_
  refine cr_iushr hok dX8_byteOf_47 ?_
  refine cr_sipush hok dX8_byteOf_48 (by decide) ?_
  refine cr_iand hok dX8_byteOf_51 (cb_and255 _) ?_
  exact cr_iret hok dX8_byteOf_52
def v_X8_byteOf (g : cb_S) (x0 : Int) (x1 : Int) (x2 : Int) (x3 : Int) (x4 : Int) : Option Int := if 4 ≤ cb_w x4 then (if 8 ≤ cb_w x4 then (if 12 ≤ cb_w x4 then (v_X8_byteOf_b33  x4 x3 g) else (v_X8_byteOf_b33  x4 x2 g)) else (v_X8_byteOf_b33  x4 x1 g)) else (v_X8_byteOf_b33  x4 x0 g)
set_option maxRecDepth 100000 in
theorem C_X8_byteOf {O : cb_O} (hJ : cb_J O skC) (x0 : Int) (x1 : Int) (x2 : Int) (x3 : Int) (x4 : Int) (g : cb_S) : ∀ q, v_X8_byteOf g x0 x1 x2 x3 x4 = some q → cb_m O skC false yX8_byteOf cX8_byteOf 6 (some .int) rm_X8_byteOf [.inl x0, .inl x1, .inl x2, .inl x3, .inl x4] g (q, g) := by
  intro q hq
  refine cr_of_body hJ (by decide) (Nat.le_of_ble_eq_true rfl) hq (fun M hok => ?_)
  show cb_jr _ _ _ _ _ _ [some (.inl x0), some (.inl x1), some (.inl x2), some (.inl x3), some (.inl x4), none] _ _ (if 4 ≤ cb_w x4 then (if 8 ≤ cb_w x4 then (if 12 ≤ cb_w x4 then (v_X8_byteOf_b33  x4 x3 g) else (v_X8_byteOf_b33  x4 x2 g)) else (v_X8_byteOf_b33  x4 x1 g)) else (v_X8_byteOf_b33  x4 x0 g))
  refine cr_iload hok dX8_byteOf_0 rfl ?_
  refine cr_iconst hok dX8_byteOf_2 ?_
  refine cr_icge (tgt := 10) hok rfl (by decide) dX8_byteOf_3 (by decide) (fun _ => ?_) (fun _ => ?_)
  · refine cr_iload hok dX8_byteOf_10 rfl ?_
    refine cr_bipush hok dX8_byteOf_12 (by decide) ?_
    refine cr_icge (tgt := 21) hok rfl (by decide) dX8_byteOf_14 (by decide) (fun _ => ?_) (fun _ => ?_)
    · refine cr_iload hok dX8_byteOf_21 rfl ?_
      refine cr_bipush hok dX8_byteOf_23 (by decide) ?_
      refine cr_icge (tgt := 32) hok rfl (by decide) dX8_byteOf_25 (by decide) (fun _ => ?_) (fun _ => ?_)
      · refine cr_iload_n hok dX8_byteOf_32 rfl ?_
        refine cr_fewer (ls' := [none, none, none, none, some (.inl x4), none]) ⟨rfl, trivial⟩ ?_
        exact J_X8_byteOf_b33 hJ hok  _ _ _
      · refine cr_iload_n hok dX8_byteOf_28 rfl ?_
        refine cr_goto (tgt := 33) hok dX8_byteOf_29 (by decide) ?_
        refine cr_fewer (ls' := [none, none, none, none, some (.inl x4), none]) ⟨rfl, trivial⟩ ?_
        exact J_X8_byteOf_b33 hJ hok  _ _ _
    · refine cr_iload_n hok dX8_byteOf_17 rfl ?_
      refine cr_goto (tgt := 33) hok dX8_byteOf_18 (by decide) ?_
      refine cr_fewer (ls' := [none, none, none, none, some (.inl x4), none]) ⟨rfl, trivial⟩ ?_
      exact J_X8_byteOf_b33 hJ hok  _ _ _
  · refine cr_iload_n hok dX8_byteOf_6 rfl ?_
    refine cr_goto (tgt := 33) hok dX8_byteOf_7 (by decide) ?_
    refine cr_fewer (ls' := [none, none, none, none, some (.inl x4), none]) ⟨rfl, trivial⟩ ?_
    exact J_X8_byteOf_b33 hJ hok  _ _ _
/-! CaretBench keepForUndo()V -/
def f_X8_keepForUndo (g : cb_S) : Option (Int × cb_S) := (v_X0_stand g ).bind (fun r1 => (v_X0_side g ).bind (fun r2 => cb_b (f_X2_keep g r1 r2) (fun r3 g3 => some (0, g3))))
set_option maxRecDepth 100000 in
theorem C_X8_keepForUndo {O : cb_O} (hJ : cb_J O skC) (g : cb_S) : ∀ q, f_X8_keepForUndo g = some q → cb_m O skC true yX8_keepForUndo cX8_keepForUndo 1 none rm_X8_keepForUndo [.inr 0] g q := by
  intro q hq
  refine cb_of_body hJ (by decide) (Nat.le_of_ble_eq_true rfl) hq (fun M hok => ?_)
  show cb_j _ _ _ _ _ _ _ [some (.inr 0)] _ _ ((v_X0_stand g ).bind (fun r1 => (v_X0_side g ).bind (fun r2 => cb_b (f_X2_keep g r1 r2) (fun r3 g3 => some (0, g3)))))
  refine cb_aload_n hok dX8_keepForUndo_0 rfl ?_
  refine cb_gr hok dX8_keepForUndo_1 fl_RX8_56 skC_b0 skC_c0 rfl ?_
  refine cb_aload_n hok dX8_keepForUndo_4 rfl ?_
  refine cb_gr hok dX8_keepForUndo_5 fl_RX8_10 skC_b0 skC_c0 rfl ?_
  refine cb_aload_n hok dX8_keepForUndo_8 rfl ?_
  refine cb_gr hok dX8_keepForUndo_9 fl_RX8_42 skC_b0 skC_c0 rfl ?_
  refine cb_cvr (as := []) (rest := [.inr 1, .inr 7]) hok lk_RX8_91 (by decide) (by decide) dX8_keepForUndo_12 (fun q1 hq1 => C_X0_stand hJ _ q1 hq1) rfl rfl (Nat.le_of_ble_eq_true rfl) skC_b5 skC_c5 rfl (fun r1 => ?_)
  refine cb_aload_n hok dX8_keepForUndo_15 rfl ?_
  refine cb_gr hok dX8_keepForUndo_16 fl_RX8_42 skC_b0 skC_c0 rfl ?_
  refine cb_cvr (as := []) (rest := [.inl r1, .inr 1, .inr 7]) hok lk_RX8_94 (by decide) (by decide) dX8_keepForUndo_19 (fun q1 hq1 => C_X0_side hJ _ q1 hq1) rfl rfl (Nat.le_of_ble_eq_true rfl) skC_b5 skC_c5 rfl (fun r2 => ?_)
  refine cb_cvv (as := [.inr 1, .inl r1, .inl r2]) (rest := []) hok lk_RX8_255 (by decide) (by decide) dX8_keepForUndo_22 (fun q1 hq1 => C_X2_keep hJ _ _ _ q1 hq1) rfl rfl (Nat.le_of_ble_eq_true rfl) skC_b7 skC_c7 rfl (fun r3 g3 => ?_)
  exact cb_vret hok dX8_keepForUndo_25
/-! CaretBench appendBytes(IIII)V -/
def f_X8_appendBytes_b43 (kk3 : Int → Int → Int → Int → Int → cb_S → Option (Int × cb_S)) (x1 x2 x3 x4 x5 : Int) (g : cb_S) : Option (Int × cb_S) := kk3 x1 x2 x3 x4 (x5 + 1) g
set_option maxRecDepth 100000 in
theorem J_X8_appendBytes_b43 {O : cb_O} {M : cb_M} (hJ : cb_J O skC) (hok : cb_ok O skC M cX8_appendBytes 7 RX8 none) {kk3 : Int → Int → Int → Int → Int → cb_S → Option (Int × cb_S)} (hk3 : ∀ (x1 x2 x3 x4 x5 : Int) (g : cb_S), cb_j O skC true rm_X8_appendBytes M 7 3 [some (.inr 0), some (.inl x1), some (.inl x2), some (.inl x3), some (.inl x4), some (.inl x5), none] [] g (kk3 x1 x2 x3 x4 x5 g)) : ∀ (x1 x2 x3 x4 x5 : Int) (g : cb_S), cb_j O skC true rm_X8_appendBytes M 7 43 [some (.inr 0), some (.inl x1), some (.inl x2), some (.inl x3), some (.inl x4), some (.inl x5), none] [] g (f_X8_appendBytes_b43 kk3 x1 x2 x3 x4 x5 g) := by
  intro x1 x2 x3 x4 x5 g
  show cb_j _ _ _ _ _ _ _ _ _ _ (kk3 x1 x2 x3 x4 (x5 + 1) g)
  refine cb_iinc (ls' := [some (.inr 0), some (.inl x1), some (.inl x2), some (.inl x3), some (.inl x4), some (.inl (x5 + 1)), none]) hok dX8_appendBytes_43 rfl (by decide) rfl ?_
  refine cb_goto (tgt := 3) hok dX8_appendBytes_46 (by decide) ?_
  refine cb_fewer (ls' := [some (.inr 0), some (.inl x1), some (.inl x2), some (.inl x3), some (.inl x4), some (.inl (x5 + 1)), none]) ⟨rfl, ⟨rfl, ⟨rfl, ⟨rfl, ⟨rfl, ⟨rfl, trivial⟩⟩⟩⟩⟩⟩ ?_
  exact hk3 _ _ _ _ _ _
def f_X8_appendBytes_b3 : Nat → Int → Int → Int → Int → Int → cb_S → Option (Int × cb_S)
  | 0 => fun _ _ _ _ _ _ => none
  | n + 1 => fun x1 x2 x3 x4 x5 g => if 16 ≤ cb_w x5 then (some (0, g)) else ((v_X8_byteOf g x1 x2 x3 x4 x5).bind (fun r1 => if cb_w r1 = 0 then (f_X8_appendBytes_b43 (f_X8_appendBytes_b3 n) x1 x2 x3 x4 x5 g) else ((v_X3_length g ).bind (fun r2 => cb_b (f_X3_insert g r2 r1) (fun r3 g3 => f_X8_appendBytes_b43 (f_X8_appendBytes_b3 n) x1 x2 x3 x4 x5 g3)))))
set_option maxRecDepth 100000 in
theorem J_X8_appendBytes_b3 {O : cb_O} {M : cb_M} (hJ : cb_J O skC) (hok : cb_ok O skC M cX8_appendBytes 7 RX8 none) : ∀ (n : Nat) (x1 x2 x3 x4 x5 : Int) (g : cb_S), cb_j O skC true rm_X8_appendBytes M 7 3 [some (.inr 0), some (.inl x1), some (.inl x2), some (.inl x3), some (.inl x4), some (.inl x5), none] [] g (f_X8_appendBytes_b3 n x1 x2 x3 x4 x5 g) := by
  intro n
  induction n with
  | zero => intros; exact cb_none
  | succ n hk3 =>
    intro x1 x2 x3 x4 x5 g
    show cb_j _ _ _ _ _ _ _ _ _ _ (if 16 ≤ cb_w x5 then (some (0, g)) else ((v_X8_byteOf g x1 x2 x3 x4 x5).bind (fun r1 => if cb_w r1 = 0 then (f_X8_appendBytes_b43 (f_X8_appendBytes_b3 n) x1 x2 x3 x4 x5 g) else ((v_X3_length g ).bind (fun r2 => cb_b (f_X3_insert g r2 r1) (fun r3 g3 => f_X8_appendBytes_b43 (f_X8_appendBytes_b3 n) x1 x2 x3 x4 x5 g3))))))
    refine cb_iload hok dX8_appendBytes_3 rfl ?_
    refine cb_bipush hok dX8_appendBytes_5 (by decide) ?_
    refine cb_icge (tgt := 49) hok rfl (by decide) dX8_appendBytes_7 (by decide) (fun _ => ?_) (fun _ => ?_)
    · exact cb_vret hok dX8_appendBytes_49
    · refine cb_iload_n hok dX8_appendBytes_10 rfl ?_
      refine cb_iload_n hok dX8_appendBytes_11 rfl ?_
      refine cb_iload_n hok dX8_appendBytes_12 rfl ?_
      refine cb_iload hok dX8_appendBytes_13 rfl ?_
      refine cb_iload hok dX8_appendBytes_15 rfl ?_
      refine cb_csr (as := [.inl x1, .inl x2, .inl x3, .inl x4, .inl x5]) (rest := []) hok lk_RX8_71 (by decide) (by decide) dX8_appendBytes_17 (fun q1 hq1 => C_X8_byteOf hJ _ _ _ _ _ _ q1 hq1) rfl rfl (Nat.le_of_ble_eq_true rfl) (fun r1 => ?_)
      refine cb_istore (ls' := [some (.inr 0), some (.inl x1), some (.inl x2), some (.inl x3), some (.inl x4), some (.inl x5), some (.inl r1)]) hok dX8_appendBytes_20 (by decide) rfl ?_
      refine cb_iload hok dX8_appendBytes_22 rfl ?_
      refine cb_ifeq (tgt := 43) hok rfl dX8_appendBytes_24 (by decide) (fun _ => ?_) (fun _ => ?_)
      · refine cb_fewer (ls' := [some (.inr 0), some (.inl x1), some (.inl x2), some (.inl x3), some (.inl x4), some (.inl x5), none]) ⟨rfl, ⟨rfl, ⟨rfl, ⟨rfl, ⟨rfl, ⟨rfl, trivial⟩⟩⟩⟩⟩⟩ ?_
        exact J_X8_appendBytes_b43 hJ hok hk3 _ _ _ _ _ _
      · refine cb_aload_n hok dX8_appendBytes_27 rfl ?_
        refine cb_gr hok dX8_appendBytes_28 fl_RX8_10 skC_b0 skC_c0 rfl ?_
        refine cb_aload_n hok dX8_appendBytes_31 rfl ?_
        refine cb_gr hok dX8_appendBytes_32 fl_RX8_10 skC_b0 skC_c0 rfl ?_
        refine cb_cvr (as := []) (rest := [.inr 1]) hok lk_RX8_101 (by decide) (by decide) dX8_appendBytes_35 (fun q1 hq1 => C_X3_length hJ _ q1 hq1) rfl rfl (Nat.le_of_ble_eq_true rfl) skC_b1 skC_c1 rfl (fun r2 => ?_)
        refine cb_iload hok dX8_appendBytes_38 rfl ?_
        refine cb_cvv (as := [.inl r2, .inl r1]) (rest := []) hok lk_RX8_231 (by decide) (by decide) dX8_appendBytes_40 (fun q1 hq1 => C_X3_insert hJ _ _ _ q1 hq1) rfl rfl (Nat.le_of_ble_eq_true rfl) skC_b1 skC_c1 rfl (fun r3 g3 => ?_)
        refine cb_fewer (ls' := [some (.inr 0), some (.inl x1), some (.inl x2), some (.inl x3), some (.inl x4), some (.inl x5), none]) ⟨rfl, ⟨rfl, ⟨rfl, ⟨rfl, ⟨rfl, ⟨rfl, trivial⟩⟩⟩⟩⟩⟩ ?_
        exact J_X8_appendBytes_b43 hJ hok hk3 _ _ _ _ _ _
def f_X8_appendBytes (g : cb_S) (x1 : Int) (x2 : Int) (x3 : Int) (x4 : Int) : Option (Int × cb_S) := f_X8_appendBytes_b3  cb_N x1 x2 x3 x4 0 g
set_option maxRecDepth 100000 in
theorem C_X8_appendBytes {O : cb_O} (hJ : cb_J O skC) (x1 : Int) (x2 : Int) (x3 : Int) (x4 : Int) (g : cb_S) : ∀ q, f_X8_appendBytes g x1 x2 x3 x4 = some q → cb_m O skC true yX8_appendBytes cX8_appendBytes 7 none rm_X8_appendBytes [.inr 0, .inl x1, .inl x2, .inl x3, .inl x4] g q := by
  intro q hq
  refine cb_of_body hJ (by decide) (Nat.le_of_ble_eq_true rfl) hq (fun M hok => ?_)
  show cb_j _ _ _ _ _ _ _ [some (.inr 0), some (.inl x1), some (.inl x2), some (.inl x3), some (.inl x4), none, none] _ _ (f_X8_appendBytes_b3  cb_N x1 x2 x3 x4 0 g)
  refine cb_iconst hok dX8_appendBytes_0 ?_
  refine cb_istore (ls' := [some (.inr 0), some (.inl x1), some (.inl x2), some (.inl x3), some (.inl x4), some (.inl 0), none]) hok dX8_appendBytes_1 (by decide) rfl ?_
  refine cb_fewer (ls' := [some (.inr 0), some (.inl x1), some (.inl x2), some (.inl x3), some (.inl x4), some (.inl 0), none]) ⟨rfl, ⟨rfl, ⟨rfl, ⟨rfl, ⟨rfl, ⟨rfl, trivial⟩⟩⟩⟩⟩⟩ ?_
  exact J_X8_appendBytes_b3 hJ hok  cb_N _ _ _ _ _ _
/-! CaretBench put(IIII)I -/
def f_X8_put_b43 (kk6 : Int → Int → Int → Int → Int → Int → cb_S → Option (Int × cb_S)) (x1 x2 x3 x4 x5 x6 : Int) (g : cb_S) : Option (Int × cb_S) := kk6 x1 x2 x3 x4 x5 (x6 + 1) g
set_option maxRecDepth 100000 in
theorem J_X8_put_b43 {O : cb_O} {M : cb_M} (hJ : cb_J O skC) (hok : cb_ok O skC M cX8_put 8 RX8 (some .int)) {kk6 : Int → Int → Int → Int → Int → Int → cb_S → Option (Int × cb_S)} (hk6 : ∀ (x1 x2 x3 x4 x5 x6 : Int) (g : cb_S), cb_j O skC false rm_X8_put M 8 6 [some (.inr 0), some (.inl x1), some (.inl x2), some (.inl x3), some (.inl x4), some (.inl x5), some (.inl x6), none] [] g (kk6 x1 x2 x3 x4 x5 x6 g)) : ∀ (x1 x2 x3 x4 x5 x6 : Int) (g : cb_S), cb_j O skC false rm_X8_put M 8 43 [some (.inr 0), some (.inl x1), some (.inl x2), some (.inl x3), some (.inl x4), some (.inl x5), some (.inl x6), none] [] g (f_X8_put_b43 kk6 x1 x2 x3 x4 x5 x6 g) := by
  intro x1 x2 x3 x4 x5 x6 g
  show cb_j _ _ _ _ _ _ _ _ _ _ (kk6 x1 x2 x3 x4 x5 (x6 + 1) g)
  refine cb_iinc (ls' := [some (.inr 0), some (.inl x1), some (.inl x2), some (.inl x3), some (.inl x4), some (.inl x5), some (.inl (x6 + 1)), none]) hok dX8_put_43 rfl (by decide) rfl ?_
  refine cb_goto (tgt := 6) hok dX8_put_46 (by decide) ?_
  refine cb_fewer (ls' := [some (.inr 0), some (.inl x1), some (.inl x2), some (.inl x3), some (.inl x4), some (.inl x5), some (.inl (x6 + 1)), none]) ⟨rfl, ⟨rfl, ⟨rfl, ⟨rfl, ⟨rfl, ⟨rfl, ⟨rfl, trivial⟩⟩⟩⟩⟩⟩⟩ ?_
  exact hk6 _ _ _ _ _ _ _
def f_X8_put_b107 (g : cb_S) : Option (Int × cb_S) := (v_X3_length g ).bind (fun r1 => some (r1, g))
set_option maxRecDepth 100000 in
theorem J_X8_put_b107 {O : cb_O} {M : cb_M} (hJ : cb_J O skC) (hok : cb_ok O skC M cX8_put 8 RX8 (some .int)) : ∀ (g : cb_S), cb_j O skC false rm_X8_put M 8 107 [some (.inr 0), none, none, none, none, none, none, none] [] g (f_X8_put_b107 g) := by
  intro g
  show cb_j _ _ _ _ _ _ _ _ _ _ ((v_X3_length g ).bind (fun r1 => some (r1, g)))
  refine cb_aload_n hok dX8_put_107 rfl ?_
  refine cb_gr hok dX8_put_108 fl_RX8_10 skC_b0 skC_c0 rfl ?_
  refine cb_cvr (as := []) (rest := []) hok lk_RX8_101 (by decide) (by decide) dX8_put_111 (fun q1 hq1 => C_X3_length hJ _ q1 hq1) rfl rfl (Nat.le_of_ble_eq_true rfl) skC_b1 skC_c1 rfl (fun r1 => ?_)
  exact cb_iret hok dX8_put_114
def f_X8_put_b6 : Nat → Int → Int → Int → Int → Int → Int → cb_S → Option (Int × cb_S)
  | 0 => fun _ _ _ _ _ _ _ => none
  | n + 1 => fun x1 x2 x3 x4 x5 x6 g => if 16 ≤ cb_w x6 then ((v_X3_hasRoomFor g x5).bind (fun r1 => if cb_w r1 = 0 then (some (-2, g)) else (if cb_w x5 ≤ 0 then (f_X8_put_b107  g) else (cb_b (f_X8_keepForUndo g ) (fun r2 g2 => cb_b (f_X8_appendBytes g2 x1 x2 x3 x4) (fun r3 g3 => cb_b (f_X8_layOut g3 ) (fun r4 g4 => (v_X0_stand g4 ).bind (fun r5 => (v_X0_side g4 ).bind (fun r6 => cb_b (f_X0_settle g4 r5 r6) (fun r7 g7 => f_X8_put_b107  g7)))))))))) else ((v_X8_byteOf g x1 x2 x3 x4 x6).bind (fun r8 => if cb_w r8 = 0 then (f_X8_put_b43 (f_X8_put_b6 n) x1 x2 x3 x4 x5 x6 g) else ((v_X7_isSign g r8).bind (fun r9 => if cb_w r9 = 0 then (some (-1, g)) else (f_X8_put_b43 (f_X8_put_b6 n) x1 x2 x3 x4 (x5 + 1) x6 g)))))
set_option maxRecDepth 100000 in
theorem J_X8_put_b6 {O : cb_O} {M : cb_M} (hJ : cb_J O skC) (hok : cb_ok O skC M cX8_put 8 RX8 (some .int)) : ∀ (n : Nat) (x1 x2 x3 x4 x5 x6 : Int) (g : cb_S), cb_j O skC false rm_X8_put M 8 6 [some (.inr 0), some (.inl x1), some (.inl x2), some (.inl x3), some (.inl x4), some (.inl x5), some (.inl x6), none] [] g (f_X8_put_b6 n x1 x2 x3 x4 x5 x6 g) := by
  intro n
  induction n with
  | zero => intros; exact cb_none
  | succ n hk6 =>
    intro x1 x2 x3 x4 x5 x6 g
    show cb_j _ _ _ _ _ _ _ _ _ _ (if 16 ≤ cb_w x6 then ((v_X3_hasRoomFor g x5).bind (fun r1 => if cb_w r1 = 0 then (some (-2, g)) else (if cb_w x5 ≤ 0 then (f_X8_put_b107  g) else (cb_b (f_X8_keepForUndo g ) (fun r2 g2 => cb_b (f_X8_appendBytes g2 x1 x2 x3 x4) (fun r3 g3 => cb_b (f_X8_layOut g3 ) (fun r4 g4 => (v_X0_stand g4 ).bind (fun r5 => (v_X0_side g4 ).bind (fun r6 => cb_b (f_X0_settle g4 r5 r6) (fun r7 g7 => f_X8_put_b107  g7)))))))))) else ((v_X8_byteOf g x1 x2 x3 x4 x6).bind (fun r8 => if cb_w r8 = 0 then (f_X8_put_b43 (f_X8_put_b6 n) x1 x2 x3 x4 x5 x6 g) else ((v_X7_isSign g r8).bind (fun r9 => if cb_w r9 = 0 then (some (-1, g)) else (f_X8_put_b43 (f_X8_put_b6 n) x1 x2 x3 x4 (x5 + 1) x6 g))))))
    refine cb_iload hok dX8_put_6 rfl ?_
    refine cb_bipush hok dX8_put_8 (by decide) ?_
    refine cb_icge (tgt := 49) hok rfl (by decide) dX8_put_10 (by decide) (fun _ => ?_) (fun _ => ?_)
    · refine cb_aload_n hok dX8_put_49 rfl ?_
      refine cb_gr hok dX8_put_50 fl_RX8_10 skC_b0 skC_c0 rfl ?_
      refine cb_iload hok dX8_put_53 rfl ?_
      refine cb_cvr (as := [.inl x5]) (rest := []) hok lk_RX8_81 (by decide) (by decide) dX8_put_55 (fun q1 hq1 => C_X3_hasRoomFor hJ _ _ q1 hq1) rfl rfl (Nat.le_of_ble_eq_true rfl) skC_b1 skC_c1 rfl (fun r1 => ?_)
      refine cb_ifne (tgt := 64) hok rfl dX8_put_58 (by decide) (fun _ => ?_) (fun _ => ?_)
      · refine cb_iload hok dX8_put_64 rfl ?_
        refine cb_ifle (tgt := 107) hok rfl dX8_put_66 (by decide) (fun _ => ?_) (fun _ => ?_)
        · refine cb_fewer (ls' := [some (.inr 0), none, none, none, none, none, none, none]) ⟨rfl, trivial⟩ ?_
          exact J_X8_put_b107 hJ hok  _
        · refine cb_aload_n hok dX8_put_69 rfl ?_
          refine cb_cvv (as := []) (rest := []) hok lk_RX8_84 (by decide) (by decide) dX8_put_70 (fun q1 hq1 => C_X8_keepForUndo hJ _ q1 hq1) rfl rfl (Nat.le_of_ble_eq_true rfl) skC_b0 skC_c0 rfl (fun r2 g2 => ?_)
          refine cb_aload_n hok dX8_put_73 rfl ?_
          refine cb_iload_n hok dX8_put_74 rfl ?_
          refine cb_iload_n hok dX8_put_75 rfl ?_
          refine cb_iload_n hok dX8_put_76 rfl ?_
          refine cb_iload hok dX8_put_77 rfl ?_
          refine cb_cvv (as := [.inl x1, .inl x2, .inl x3, .inl x4]) (rest := []) hok lk_RX8_87 (by decide) (by decide) dX8_put_79 (fun q1 hq1 => C_X8_appendBytes hJ _ _ _ _ _ q1 hq1) rfl rfl (Nat.le_of_ble_eq_true rfl) skC_b0 skC_c0 rfl (fun r3 g3 => ?_)
          refine cb_aload_n hok dX8_put_82 rfl ?_
          refine cb_cvv (as := []) (rest := []) hok lk_RX8_60 (by decide) (by decide) dX8_put_83 (fun q1 hq1 => C_X8_layOut hJ _ q1 hq1) rfl rfl (Nat.le_of_ble_eq_true rfl) skC_b0 skC_c0 rfl (fun r4 g4 => ?_)
          refine cb_aload_n hok dX8_put_86 rfl ?_
          refine cb_gr hok dX8_put_87 fl_RX8_42 skC_b0 skC_c0 rfl ?_
          refine cb_aload_n hok dX8_put_90 rfl ?_
          refine cb_gr hok dX8_put_91 fl_RX8_42 skC_b0 skC_c0 rfl ?_
          refine cb_cvr (as := []) (rest := [.inr 5]) hok lk_RX8_91 (by decide) (by decide) dX8_put_94 (fun q1 hq1 => C_X0_stand hJ _ q1 hq1) rfl rfl (Nat.le_of_ble_eq_true rfl) skC_b5 skC_c5 rfl (fun r5 => ?_)
          refine cb_aload_n hok dX8_put_97 rfl ?_
          refine cb_gr hok dX8_put_98 fl_RX8_42 skC_b0 skC_c0 rfl ?_
          refine cb_cvr (as := []) (rest := [.inl r5, .inr 5]) hok lk_RX8_94 (by decide) (by decide) dX8_put_101 (fun q1 hq1 => C_X0_side hJ _ q1 hq1) rfl rfl (Nat.le_of_ble_eq_true rfl) skC_b5 skC_c5 rfl (fun r6 => ?_)
          refine cb_cvv (as := [.inl r5, .inl r6]) (rest := []) hok lk_RX8_97 (by decide) (by decide) dX8_put_104 (fun q1 hq1 => C_X0_settle hJ _ _ _ q1 hq1) rfl rfl (Nat.le_of_ble_eq_true rfl) skC_b5 skC_c5 rfl (fun r7 g7 => ?_)
          refine cb_fewer (ls' := [some (.inr 0), none, none, none, none, none, none, none]) ⟨rfl, trivial⟩ ?_
          exact J_X8_put_b107 hJ hok  _
      · refine cb_bipush hok dX8_put_61 (by decide) ?_
        exact cb_iret hok dX8_put_63
    · refine cb_iload_n hok dX8_put_13 rfl ?_
      refine cb_iload_n hok dX8_put_14 rfl ?_
      refine cb_iload_n hok dX8_put_15 rfl ?_
      refine cb_iload hok dX8_put_16 rfl ?_
      refine cb_iload hok dX8_put_18 rfl ?_
      refine cb_csr (as := [.inl x1, .inl x2, .inl x3, .inl x4, .inl x6]) (rest := []) hok lk_RX8_71 (by decide) (by decide) dX8_put_20 (fun q1 hq1 => C_X8_byteOf hJ _ _ _ _ _ _ q1 hq1) rfl rfl (Nat.le_of_ble_eq_true rfl) (fun r8 => ?_)
      refine cb_istore (ls' := [some (.inr 0), some (.inl x1), some (.inl x2), some (.inl x3), some (.inl x4), some (.inl x5), some (.inl x6), some (.inl r8)]) hok dX8_put_23 (by decide) rfl ?_
      refine cb_iload hok dX8_put_25 rfl ?_
      refine cb_ifeq (tgt := 43) hok rfl dX8_put_27 (by decide) (fun _ => ?_) (fun _ => ?_)
      · refine cb_fewer (ls' := [some (.inr 0), some (.inl x1), some (.inl x2), some (.inl x3), some (.inl x4), some (.inl x5), some (.inl x6), none]) ⟨rfl, ⟨rfl, ⟨rfl, ⟨rfl, ⟨rfl, ⟨rfl, ⟨rfl, trivial⟩⟩⟩⟩⟩⟩⟩ ?_
        exact J_X8_put_b43 hJ hok hk6 _ _ _ _ _ _ _
      · refine cb_iload hok dX8_put_30 rfl ?_
        refine cb_csr (as := [.inl r8]) (rest := []) hok lk_RX8_75 (by decide) (by decide) dX8_put_32 (fun q1 hq1 => C_X7_isSign hJ _ _ q1 hq1) rfl rfl (Nat.le_of_ble_eq_true rfl) (fun r9 => ?_)
        refine cb_ifne (tgt := 40) hok rfl dX8_put_35 (by decide) (fun _ => ?_) (fun _ => ?_)
        · refine cb_iinc (ls' := [some (.inr 0), some (.inl x1), some (.inl x2), some (.inl x3), some (.inl x4), some (.inl (x5 + 1)), some (.inl x6), some (.inl r8)]) hok dX8_put_40 rfl (by decide) rfl ?_
          refine cb_fewer (ls' := [some (.inr 0), some (.inl x1), some (.inl x2), some (.inl x3), some (.inl x4), some (.inl (x5 + 1)), some (.inl x6), none]) ⟨rfl, ⟨rfl, ⟨rfl, ⟨rfl, ⟨rfl, ⟨rfl, ⟨rfl, trivial⟩⟩⟩⟩⟩⟩⟩ ?_
          exact J_X8_put_b43 hJ hok hk6 _ _ _ _ _ _ _
        · refine cb_iconst hok dX8_put_38 ?_
          exact cb_iret hok dX8_put_39
def f_X8_put (g : cb_S) (x1 : Int) (x2 : Int) (x3 : Int) (x4 : Int) : Option (Int × cb_S) := f_X8_put_b6  cb_N x1 x2 x3 x4 0 0 g
set_option maxRecDepth 100000 in
theorem C_X8_put {O : cb_O} (hJ : cb_J O skC) (x1 : Int) (x2 : Int) (x3 : Int) (x4 : Int) (g : cb_S) : ∀ q, f_X8_put g x1 x2 x3 x4 = some q → cb_m O skC false yX8_put cX8_put 8 (some .int) rm_X8_put [.inr 0, .inl x1, .inl x2, .inl x3, .inl x4] g q := by
  intro q hq
  refine cb_of_body hJ (by decide) (Nat.le_of_ble_eq_true rfl) hq (fun M hok => ?_)
  show cb_j _ _ _ _ _ _ _ [some (.inr 0), some (.inl x1), some (.inl x2), some (.inl x3), some (.inl x4), none, none, none] _ _ (f_X8_put_b6  cb_N x1 x2 x3 x4 0 0 g)
  refine cb_iconst hok dX8_put_0 ?_
  refine cb_istore (ls' := [some (.inr 0), some (.inl x1), some (.inl x2), some (.inl x3), some (.inl x4), some (.inl 0), none, none]) hok dX8_put_1 (by decide) rfl ?_
  refine cb_iconst hok dX8_put_3 ?_
  refine cb_istore (ls' := [some (.inr 0), some (.inl x1), some (.inl x2), some (.inl x3), some (.inl x4), some (.inl 0), some (.inl 0), none]) hok dX8_put_4 (by decide) rfl ?_
  refine cb_fewer (ls' := [some (.inr 0), some (.inl x1), some (.inl x2), some (.inl x3), some (.inl x4), some (.inl 0), some (.inl 0), none]) ⟨rfl, ⟨rfl, ⟨rfl, ⟨rfl, ⟨rfl, ⟨rfl, ⟨rfl, trivial⟩⟩⟩⟩⟩⟩⟩ ?_
  exact J_X8_put_b6 hJ hok  cb_N _ _ _ _ _ _ _
