/-! CaretBench$Rows settleSeparators()V -/
def f_X5_settleSeparators_b77 (kk2 : Int → cb_S → Option (Int × cb_S)) (x1 : Int) (g : cb_S) : Option (Int × cb_S) := kk2 (x1 + 1) g
set_option maxRecDepth 100000 in
theorem J_X5_settleSeparators_b77 {O : cb_O} {M : cb_M} (hJ : cb_J O skC) (hok : cb_ok O skC M cX5_settleSeparators 3 RX5 none) {kk2 : Int → cb_S → Option (Int × cb_S)} (hk2 : ∀ (x1 : Int) (g : cb_S), cb_j O skC true rm_X5_settleSeparators M 3 2 [some (.inr 3), some (.inl x1), none] [] g (kk2 x1 g)) : ∀ (x1 : Int) (g : cb_S), cb_j O skC true rm_X5_settleSeparators M 3 77 [some (.inr 3), some (.inl x1), none] [] g (f_X5_settleSeparators_b77 kk2 x1 g) := by
  intro x1 g
  show cb_j _ _ _ _ _ _ _ _ _ _ (kk2 (x1 + 1) g)
  refine cb_iinc (ls' := [some (.inr 3), some (.inl (x1 + 1)), none]) hok dX5_settleSeparators_77 rfl (by decide) rfl ?_
  refine cb_goto (tgt := 2) hok dX5_settleSeparators_80 (by decide) ?_
  refine cb_fewer (ls' := [some (.inr 3), some (.inl (x1 + 1)), none]) ⟨rfl, ⟨rfl, trivial⟩⟩ ?_
  exact hk2 _ _
def f_X5_settleSeparators_b76 (kk2 : Int → cb_S → Option (Int × cb_S)) (x1 s0 s1 : Int) (g : cb_S) : Option (Int × cb_S) := if 0 ≤ cb_w s1 ∧ cb_w s1 < (60 : Nat) then (f_X5_settleSeparators_b77 kk2 x1 (cb_u g 22 (cb_w s1).toNat s0)) else none
set_option maxRecDepth 100000 in
theorem J_X5_settleSeparators_b76 {O : cb_O} {M : cb_M} (hJ : cb_J O skC) (hok : cb_ok O skC M cX5_settleSeparators 3 RX5 none) {kk2 : Int → cb_S → Option (Int × cb_S)} (hk2 : ∀ (x1 : Int) (g : cb_S), cb_j O skC true rm_X5_settleSeparators M 3 2 [some (.inr 3), some (.inl x1), none] [] g (kk2 x1 g)) : ∀ (x1 s0 s1 : Int) (g : cb_S), cb_j O skC true rm_X5_settleSeparators M 3 76 [some (.inr 3), some (.inl x1), none] [.inl s0, .inl s1, .inr 22] g (f_X5_settleSeparators_b76 kk2 x1 s0 s1 g) := by
  intro x1 s0 s1 g
  show cb_j _ _ _ _ _ _ _ _ _ _ (if 0 ≤ cb_w s1 ∧ cb_w s1 < (60 : Nat) then (f_X5_settleSeparators_b77 kk2 x1 (cb_u g 22 (cb_w s1).toNat s0)) else none)
  refine cb_iast hok dX5_settleSeparators_76 skC_b22 skC_c22 ?_
  refine cb_fewer (ls' := [some (.inr 3), some (.inl x1), none]) ⟨rfl, ⟨rfl, trivial⟩⟩ ?_
  exact J_X5_settleSeparators_b77 hJ hok hk2 _ _
def f_X5_settleSeparators_b61 (kk2 : Int → cb_S → Option (Int × cb_S)) (x1 s0 : Int) (g : cb_S) : Option (Int × cb_S) := if cb_w s0 = 0 then (f_X5_settleSeparators_b76 kk2 x1 4 x1 g) else (f_X5_settleSeparators_b76 kk2 x1 2 x1 g)
set_option maxRecDepth 100000 in
theorem J_X5_settleSeparators_b61 {O : cb_O} {M : cb_M} (hJ : cb_J O skC) (hok : cb_ok O skC M cX5_settleSeparators 3 RX5 none) {kk2 : Int → cb_S → Option (Int × cb_S)} (hk2 : ∀ (x1 : Int) (g : cb_S), cb_j O skC true rm_X5_settleSeparators M 3 2 [some (.inr 3), some (.inl x1), none] [] g (kk2 x1 g)) : ∀ (x1 s0 : Int) (g : cb_S), cb_j O skC true rm_X5_settleSeparators M 3 61 [some (.inr 3), some (.inl x1), none] [.inl s0] g (f_X5_settleSeparators_b61 kk2 x1 s0 g) := by
  intro x1 s0 g
  show cb_j _ _ _ _ _ _ _ _ _ _ (if cb_w s0 = 0 then (f_X5_settleSeparators_b76 kk2 x1 4 x1 g) else (f_X5_settleSeparators_b76 kk2 x1 2 x1 g))
  refine cb_istore_n (ls' := [some (.inr 3), some (.inl x1), some (.inl s0)]) hok dX5_settleSeparators_61 (by decide) rfl ?_
  refine cb_aload_n hok dX5_settleSeparators_62 rfl ?_
  refine cb_gr hok dX5_settleSeparators_63 fl_RX5_30 skC_b3 skC_c3 rfl ?_
  refine cb_iload_n hok dX5_settleSeparators_66 rfl ?_
  refine cb_iload_n hok dX5_settleSeparators_67 rfl ?_
  refine cb_ifeq (tgt := 75) hok rfl dX5_settleSeparators_68 (by decide) (fun _ => ?_) (fun _ => ?_)
  · refine cb_iconst hok dX5_settleSeparators_75 ?_
    refine cb_fewer (ls' := [some (.inr 3), some (.inl x1), none]) ⟨rfl, ⟨rfl, trivial⟩⟩ ?_
    exact J_X5_settleSeparators_b76 hJ hok hk2 _ _ _ _
  · refine cb_iconst hok dX5_settleSeparators_71 ?_
    refine cb_goto (tgt := 76) hok dX5_settleSeparators_72 (by decide) ?_
    refine cb_fewer (ls' := [some (.inr 3), some (.inl x1), none]) ⟨rfl, ⟨rfl, trivial⟩⟩ ?_
    exact J_X5_settleSeparators_b76 hJ hok hk2 _ _ _ _
def f_X5_settleSeparators_b60 (kk2 : Int → cb_S → Option (Int × cb_S)) (x1 : Int) (g : cb_S) : Option (Int × cb_S) := f_X5_settleSeparators_b61 kk2 x1 0 g
set_option maxRecDepth 100000 in
theorem J_X5_settleSeparators_b60 {O : cb_O} {M : cb_M} (hJ : cb_J O skC) (hok : cb_ok O skC M cX5_settleSeparators 3 RX5 none) {kk2 : Int → cb_S → Option (Int × cb_S)} (hk2 : ∀ (x1 : Int) (g : cb_S), cb_j O skC true rm_X5_settleSeparators M 3 2 [some (.inr 3), some (.inl x1), none] [] g (kk2 x1 g)) : ∀ (x1 : Int) (g : cb_S), cb_j O skC true rm_X5_settleSeparators M 3 60 [some (.inr 3), some (.inl x1), none] [] g (f_X5_settleSeparators_b60 kk2 x1 g) := by
  intro x1 g
  show cb_j _ _ _ _ _ _ _ _ _ _ (f_X5_settleSeparators_b61 kk2 x1 0 g)
  refine cb_iconst hok dX5_settleSeparators_60 ?_
  refine cb_fewer (ls' := [some (.inr 3), some (.inl x1), none]) ⟨rfl, ⟨rfl, trivial⟩⟩ ?_
  exact J_X5_settleSeparators_b61 hJ hok hk2 _ _ _
def f_X5_settleSeparators_b2 : Nat → Int → cb_S → Option (Int × cb_S)
  | 0 => fun _ _ => none
  | n + 1 => fun x1 g => if cb_w (g 3 10) ≤ cb_w x1 then (some (0, g)) else (if 0 ≤ cb_w x1 ∧ cb_w x1 < (60 : Nat) then (if cb_w (g 22 ((cb_w x1).toNat)) = 3 then (if 0 ≤ cb_w x1 ∧ cb_w x1 < (60 : Nat) then ((v_X8_valueAt g 22 60 (g 20 ((cb_w x1).toNat)) 4).bind (fun r1 => if cb_w r1 = 2 then (if 0 ≤ cb_w x1 ∧ cb_w x1 < (60 : Nat) then ((v_X8_valueAt g 22 60 (g 21 ((cb_w x1).toNat)) 4).bind (fun r2 => if cb_w r2 = 2 then (f_X5_settleSeparators_b61 (f_X5_settleSeparators_b2 n) x1 1 g) else (f_X5_settleSeparators_b60 (f_X5_settleSeparators_b2 n) x1 g))) else none) else (f_X5_settleSeparators_b60 (f_X5_settleSeparators_b2 n) x1 g))) else none) else (f_X5_settleSeparators_b77 (f_X5_settleSeparators_b2 n) x1 g)) else none)
set_option maxRecDepth 100000 in
theorem J_X5_settleSeparators_b2 {O : cb_O} {M : cb_M} (hJ : cb_J O skC) (hok : cb_ok O skC M cX5_settleSeparators 3 RX5 none) : ∀ (n : Nat) (x1 : Int) (g : cb_S), cb_j O skC true rm_X5_settleSeparators M 3 2 [some (.inr 3), some (.inl x1), none] [] g (f_X5_settleSeparators_b2 n x1 g) := by
  intro n
  induction n with
  | zero => intros; exact cb_none
  | succ n hk2 =>
    intro x1 g
    show cb_j _ _ _ _ _ _ _ _ _ _ (if cb_w (g 3 10) ≤ cb_w x1 then (some (0, g)) else (if 0 ≤ cb_w x1 ∧ cb_w x1 < (60 : Nat) then (if cb_w (g 22 ((cb_w x1).toNat)) = 3 then (if 0 ≤ cb_w x1 ∧ cb_w x1 < (60 : Nat) then ((v_X8_valueAt g 22 60 (g 20 ((cb_w x1).toNat)) 4).bind (fun r1 => if cb_w r1 = 2 then (if 0 ≤ cb_w x1 ∧ cb_w x1 < (60 : Nat) then ((v_X8_valueAt g 22 60 (g 21 ((cb_w x1).toNat)) 4).bind (fun r2 => if cb_w r2 = 2 then (f_X5_settleSeparators_b61 (f_X5_settleSeparators_b2 n) x1 1 g) else (f_X5_settleSeparators_b60 (f_X5_settleSeparators_b2 n) x1 g))) else none) else (f_X5_settleSeparators_b60 (f_X5_settleSeparators_b2 n) x1 g))) else none) else (f_X5_settleSeparators_b77 (f_X5_settleSeparators_b2 n) x1 g)) else none))
    refine cb_iload_n hok dX5_settleSeparators_2 rfl ?_
    refine cb_aload_n hok dX5_settleSeparators_3 rfl ?_
    refine cb_gi hok dX5_settleSeparators_4 fl_RX5_48 skC_b3 skC_c3 rfl ?_
    refine cb_icge (tgt := 83) hok rfl rfl dX5_settleSeparators_7 (by decide) (fun _ => ?_) (fun _ => ?_)
    · exact cb_vret hok dX5_settleSeparators_83
    · refine cb_aload_n hok dX5_settleSeparators_10 rfl ?_
      refine cb_gr hok dX5_settleSeparators_11 fl_RX5_30 skC_b3 skC_c3 rfl ?_
      refine cb_iload_n hok dX5_settleSeparators_14 rfl ?_
      refine cb_iald hok dX5_settleSeparators_15 skC_b22 skC_c22 ?_
      refine cb_iconst hok dX5_settleSeparators_16 ?_
      refine cb_icne (tgt := 77) hok rfl (by decide) dX5_settleSeparators_17 (by decide) (fun _ => ?_) (fun _ => ?_)
      · refine cb_fewer (ls' := [some (.inr 3), some (.inl x1), none]) ⟨rfl, ⟨rfl, trivial⟩⟩ ?_
        exact J_X5_settleSeparators_b77 hJ hok hk2 _ _
      · refine cb_aload_n hok dX5_settleSeparators_20 rfl ?_
        refine cb_gr hok dX5_settleSeparators_21 fl_RX5_30 skC_b3 skC_c3 rfl ?_
        refine cb_aload_n hok dX5_settleSeparators_24 rfl ?_
        refine cb_gr hok dX5_settleSeparators_25 fl_RX5_24 skC_b3 skC_c3 rfl ?_
        refine cb_iload_n hok dX5_settleSeparators_28 rfl ?_
        refine cb_iald hok dX5_settleSeparators_29 skC_b20 skC_c20 ?_
        refine cb_iconst hok dX5_settleSeparators_30 ?_
        refine cb_cnr (as := [.inr 22, .inl (g 20 ((cb_w x1).toNat)), .inl 4]) (rest := []) hok lk_RX5_91 (by decide) (by decide) dX5_settleSeparators_31 (fun q1 hq1 => C_X8_valueAt hJ 22 60 skC_b22 skC_c22 _ _ _ q1 hq1) rfl rfl (Nat.le_of_ble_eq_true rfl) (fun r1 => ?_)
        refine cb_iconst hok dX5_settleSeparators_34 ?_
        refine cb_icne (tgt := 60) hok rfl (by decide) dX5_settleSeparators_35 (by decide) (fun _ => ?_) (fun _ => ?_)
        · refine cb_fewer (ls' := [some (.inr 3), some (.inl x1), none]) ⟨rfl, ⟨rfl, trivial⟩⟩ ?_
          exact J_X5_settleSeparators_b60 hJ hok hk2 _ _
        · refine cb_aload_n hok dX5_settleSeparators_38 rfl ?_
          refine cb_gr hok dX5_settleSeparators_39 fl_RX5_30 skC_b3 skC_c3 rfl ?_
          refine cb_aload_n hok dX5_settleSeparators_42 rfl ?_
          refine cb_gr hok dX5_settleSeparators_43 fl_RX5_27 skC_b3 skC_c3 rfl ?_
          refine cb_iload_n hok dX5_settleSeparators_46 rfl ?_
          refine cb_iald hok dX5_settleSeparators_47 skC_b21 skC_c21 ?_
          refine cb_iconst hok dX5_settleSeparators_48 ?_
          refine cb_cnr (as := [.inr 22, .inl (g 21 ((cb_w x1).toNat)), .inl 4]) (rest := []) hok lk_RX5_91 (by decide) (by decide) dX5_settleSeparators_49 (fun q1 hq1 => C_X8_valueAt hJ 22 60 skC_b22 skC_c22 _ _ _ q1 hq1) rfl rfl (Nat.le_of_ble_eq_true rfl) (fun r2 => ?_)
          refine cb_iconst hok dX5_settleSeparators_52 ?_
          refine cb_icne (tgt := 60) hok rfl (by decide) dX5_settleSeparators_53 (by decide) (fun _ => ?_) (fun _ => ?_)
          · refine cb_fewer (ls' := [some (.inr 3), some (.inl x1), none]) ⟨rfl, ⟨rfl, trivial⟩⟩ ?_
            exact J_X5_settleSeparators_b60 hJ hok hk2 _ _
          · refine cb_iconst hok dX5_settleSeparators_56 ?_
            refine cb_goto (tgt := 61) hok dX5_settleSeparators_57 (by decide) ?_
            refine cb_fewer (ls' := [some (.inr 3), some (.inl x1), none]) ⟨rfl, ⟨rfl, trivial⟩⟩ ?_
            exact J_X5_settleSeparators_b61 hJ hok hk2 _ _ _
def f_X5_settleSeparators (g : cb_S) : Option (Int × cb_S) := f_X5_settleSeparators_b2  cb_N 0 g
set_option maxRecDepth 100000 in
theorem C_X5_settleSeparators {O : cb_O} (hJ : cb_J O skC) (g : cb_S) : ∀ q, f_X5_settleSeparators g = some q → cb_m O skC true yX5_settleSeparators cX5_settleSeparators 3 none rm_X5_settleSeparators [.inr 3] g q := by
  intro q hq
  refine cb_of_body hJ (by decide) (Nat.le_of_ble_eq_true rfl) hq (fun M hok => ?_)
  show cb_j _ _ _ _ _ _ _ [some (.inr 3), none, none] _ _ (f_X5_settleSeparators_b2  cb_N 0 g)
  refine cb_iconst hok dX5_settleSeparators_0 ?_
  refine cb_istore_n (ls' := [some (.inr 3), some (.inl 0), none]) hok dX5_settleSeparators_1 (by decide) rfl ?_
  refine cb_fewer (ls' := [some (.inr 3), some (.inl 0), none]) ⟨rfl, ⟨rfl, trivial⟩⟩ ?_
  exact J_X5_settleSeparators_b2 hJ hok  cb_N _ _
/-! CaretBench$Rows settleDigits()V -/
def f_X5_settleDigits_b81 (kk2 : Int → cb_S → Option (Int × cb_S)) (x1 : Int) (g : cb_S) : Option (Int × cb_S) := kk2 (x1 + 1) g
set_option maxRecDepth 100000 in
theorem J_X5_settleDigits_b81 {O : cb_O} {M : cb_M} (hJ : cb_J O skC) (hok : cb_ok O skC M cX5_settleDigits 2 RX5 none) {kk2 : Int → cb_S → Option (Int × cb_S)} (hk2 : ∀ (x1 : Int) (g : cb_S), cb_j O skC true rm_X5_settleDigits M 2 2 [some (.inr 3), some (.inl x1)] [] g (kk2 x1 g)) : ∀ (x1 : Int) (g : cb_S), cb_j O skC true rm_X5_settleDigits M 2 81 [some (.inr 3), some (.inl x1)] [] g (f_X5_settleDigits_b81 kk2 x1 g) := by
  intro x1 g
  show cb_j _ _ _ _ _ _ _ _ _ _ (kk2 (x1 + 1) g)
  refine cb_iinc (ls' := [some (.inr 3), some (.inl (x1 + 1))]) hok dX5_settleDigits_81 rfl (by decide) rfl ?_
  refine cb_goto (tgt := 2) hok dX5_settleDigits_84 (by decide) ?_
  refine cb_fewer (ls' := [some (.inr 3), some (.inl (x1 + 1))]) ⟨rfl, ⟨rfl, trivial⟩⟩ ?_
  exact hk2 _ _
def f_X5_settleDigits_b54 (kk2 : Int → cb_S → Option (Int × cb_S)) (x1 s0 s1 : Int) (g : cb_S) : Option (Int × cb_S) := if 0 ≤ cb_w s1 ∧ cb_w s1 < (60 : Nat) then (if 0 ≤ cb_w x1 ∧ cb_w x1 < (60 : Nat) then (if cb_w (g 22 ((cb_w x1).toNat)) = 2 then (if 0 ≤ cb_w x1 ∧ cb_w x1 < (60 : Nat) then (if cb_w ((cb_u g 23 (cb_w s1).toNat s0) 23 ((cb_w x1).toNat)) = 0 then (if 0 ≤ cb_w x1 ∧ cb_w x1 < (60 : Nat) then (f_X5_settleDigits_b81 kk2 x1 (cb_u (cb_u g 23 (cb_w s1).toNat s0) 22 (cb_w x1).toNat 0)) else none) else (f_X5_settleDigits_b81 kk2 x1 (cb_u g 23 (cb_w s1).toNat s0))) else none) else (f_X5_settleDigits_b81 kk2 x1 (cb_u g 23 (cb_w s1).toNat s0))) else none) else none
set_option maxRecDepth 100000 in
theorem J_X5_settleDigits_b54 {O : cb_O} {M : cb_M} (hJ : cb_J O skC) (hok : cb_ok O skC M cX5_settleDigits 2 RX5 none) {kk2 : Int → cb_S → Option (Int × cb_S)} (hk2 : ∀ (x1 : Int) (g : cb_S), cb_j O skC true rm_X5_settleDigits M 2 2 [some (.inr 3), some (.inl x1)] [] g (kk2 x1 g)) : ∀ (x1 s0 s1 : Int) (g : cb_S), cb_j O skC true rm_X5_settleDigits M 2 54 [some (.inr 3), some (.inl x1)] [.inl s0, .inl s1, .inr 23] g (f_X5_settleDigits_b54 kk2 x1 s0 s1 g) := by
  intro x1 s0 s1 g
  show cb_j _ _ _ _ _ _ _ _ _ _ (if 0 ≤ cb_w s1 ∧ cb_w s1 < (60 : Nat) then (if 0 ≤ cb_w x1 ∧ cb_w x1 < (60 : Nat) then (if cb_w (g 22 ((cb_w x1).toNat)) = 2 then (if 0 ≤ cb_w x1 ∧ cb_w x1 < (60 : Nat) then (if cb_w ((cb_u g 23 (cb_w s1).toNat s0) 23 ((cb_w x1).toNat)) = 0 then (if 0 ≤ cb_w x1 ∧ cb_w x1 < (60 : Nat) then (f_X5_settleDigits_b81 kk2 x1 (cb_u (cb_u g 23 (cb_w s1).toNat s0) 22 (cb_w x1).toNat 0)) else none) else (f_X5_settleDigits_b81 kk2 x1 (cb_u g 23 (cb_w s1).toNat s0))) else none) else (f_X5_settleDigits_b81 kk2 x1 (cb_u g 23 (cb_w s1).toNat s0))) else none) else none)
  refine cb_iast hok dX5_settleDigits_54 skC_b23 skC_c23 ?_
  refine cb_aload_n hok dX5_settleDigits_55 rfl ?_
  refine cb_gr hok dX5_settleDigits_56 fl_RX5_30 skC_b3 skC_c3 rfl ?_
  refine cb_iload_n hok dX5_settleDigits_59 rfl ?_
  refine cb_iald hok dX5_settleDigits_60 skC_b22 skC_c22 ?_
  refine cb_top (y := g 22 ((cb_w x1).toNat)) (by first | rfl | (simp [cb_u])) ?_
  refine cb_iconst hok dX5_settleDigits_61 ?_
  refine cb_icne (tgt := 81) hok rfl (by decide) dX5_settleDigits_62 (by decide) (fun _ => ?_) (fun _ => ?_)
  · refine cb_fewer (ls' := [some (.inr 3), some (.inl x1)]) ⟨rfl, ⟨rfl, trivial⟩⟩ ?_
    exact J_X5_settleDigits_b81 hJ hok hk2 _ _
  · refine cb_aload_n hok dX5_settleDigits_65 rfl ?_
    refine cb_gr hok dX5_settleDigits_66 fl_RX5_33 skC_b3 skC_c3 rfl ?_
    refine cb_iload_n hok dX5_settleDigits_69 rfl ?_
    refine cb_iald hok dX5_settleDigits_70 skC_b23 skC_c23 ?_
    refine cb_ifne (tgt := 81) hok rfl dX5_settleDigits_71 (by decide) (fun _ => ?_) (fun _ => ?_)
    · refine cb_fewer (ls' := [some (.inr 3), some (.inl x1)]) ⟨rfl, ⟨rfl, trivial⟩⟩ ?_
      exact J_X5_settleDigits_b81 hJ hok hk2 _ _
    · refine cb_aload_n hok dX5_settleDigits_74 rfl ?_
      refine cb_gr hok dX5_settleDigits_75 fl_RX5_30 skC_b3 skC_c3 rfl ?_
      refine cb_iload_n hok dX5_settleDigits_78 rfl ?_
      refine cb_iconst hok dX5_settleDigits_79 ?_
      refine cb_iast hok dX5_settleDigits_80 skC_b22 skC_c22 ?_
      refine cb_fewer (ls' := [some (.inr 3), some (.inl x1)]) ⟨rfl, ⟨rfl, trivial⟩⟩ ?_
      exact J_X5_settleDigits_b81 hJ hok hk2 _ _
def f_X5_settleDigits_b2 : Nat → Int → cb_S → Option (Int × cb_S)
  | 0 => fun _ _ => none
  | n + 1 => fun x1 g => if cb_w (g 3 10) ≤ cb_w x1 then (some (0, g)) else (if 0 ≤ cb_w x1 ∧ cb_w x1 < (60 : Nat) then ((v_X7_isStrong g (g 22 ((cb_w x1).toNat))).bind (fun r1 => if cb_w r1 = 0 then (if 0 ≤ cb_w x1 ∧ cb_w x1 < (60 : Nat) then ((v_X5_wayAround g x1).bind (fun r2 => (v_X8_valueAt g 23 60 (g 20 ((cb_w x1).toNat)) r2).bind (fun r3 => f_X5_settleDigits_b54 (f_X5_settleDigits_b2 n) x1 r3 x1 g))) else none) else (if 0 ≤ cb_w x1 ∧ cb_w x1 < (60 : Nat) then (f_X5_settleDigits_b54 (f_X5_settleDigits_b2 n) x1 (g 22 ((cb_w x1).toNat)) x1 g) else none))) else none)
set_option maxRecDepth 100000 in
theorem J_X5_settleDigits_b2 {O : cb_O} {M : cb_M} (hJ : cb_J O skC) (hok : cb_ok O skC M cX5_settleDigits 2 RX5 none) : ∀ (n : Nat) (x1 : Int) (g : cb_S), cb_j O skC true rm_X5_settleDigits M 2 2 [some (.inr 3), some (.inl x1)] [] g (f_X5_settleDigits_b2 n x1 g) := by
  intro n
  induction n with
  | zero => intros; exact cb_none
  | succ n hk2 =>
    intro x1 g
    show cb_j _ _ _ _ _ _ _ _ _ _ (if cb_w (g 3 10) ≤ cb_w x1 then (some (0, g)) else (if 0 ≤ cb_w x1 ∧ cb_w x1 < (60 : Nat) then ((v_X7_isStrong g (g 22 ((cb_w x1).toNat))).bind (fun r1 => if cb_w r1 = 0 then (if 0 ≤ cb_w x1 ∧ cb_w x1 < (60 : Nat) then ((v_X5_wayAround g x1).bind (fun r2 => (v_X8_valueAt g 23 60 (g 20 ((cb_w x1).toNat)) r2).bind (fun r3 => f_X5_settleDigits_b54 (f_X5_settleDigits_b2 n) x1 r3 x1 g))) else none) else (if 0 ≤ cb_w x1 ∧ cb_w x1 < (60 : Nat) then (f_X5_settleDigits_b54 (f_X5_settleDigits_b2 n) x1 (g 22 ((cb_w x1).toNat)) x1 g) else none))) else none))
    refine cb_iload_n hok dX5_settleDigits_2 rfl ?_
    refine cb_aload_n hok dX5_settleDigits_3 rfl ?_
    refine cb_gi hok dX5_settleDigits_4 fl_RX5_48 skC_b3 skC_c3 rfl ?_
    refine cb_icge (tgt := 87) hok rfl rfl dX5_settleDigits_7 (by decide) (fun _ => ?_) (fun _ => ?_)
    · exact cb_vret hok dX5_settleDigits_87
    · refine cb_aload_n hok dX5_settleDigits_10 rfl ?_
      refine cb_gr hok dX5_settleDigits_11 fl_RX5_33 skC_b3 skC_c3 rfl ?_
      refine cb_iload_n hok dX5_settleDigits_14 rfl ?_
      refine cb_aload_n hok dX5_settleDigits_15 rfl ?_
      refine cb_gr hok dX5_settleDigits_16 fl_RX5_30 skC_b3 skC_c3 rfl ?_
      refine cb_iload_n hok dX5_settleDigits_19 rfl ?_
      refine cb_iald hok dX5_settleDigits_20 skC_b22 skC_c22 ?_
      refine cb_csr (as := [.inl (g 22 ((cb_w x1).toNat))]) (rest := [.inl x1, .inr 23]) hok lk_RX5_122 (by decide) (by decide) dX5_settleDigits_21 (fun q1 hq1 => C_X7_isStrong hJ _ _ q1 hq1) rfl rfl (Nat.le_of_ble_eq_true rfl) (fun r1 => ?_)
      refine cb_ifeq (tgt := 36) hok rfl dX5_settleDigits_24 (by decide) (fun _ => ?_) (fun _ => ?_)
      · refine cb_aload_n hok dX5_settleDigits_36 rfl ?_
        refine cb_gr hok dX5_settleDigits_37 fl_RX5_33 skC_b3 skC_c3 rfl ?_
        refine cb_aload_n hok dX5_settleDigits_40 rfl ?_
        refine cb_gr hok dX5_settleDigits_41 fl_RX5_24 skC_b3 skC_c3 rfl ?_
        refine cb_iload_n hok dX5_settleDigits_44 rfl ?_
        refine cb_iald hok dX5_settleDigits_45 skC_b20 skC_c20 ?_
        refine cb_aload_n hok dX5_settleDigits_46 rfl ?_
        refine cb_iload_n hok dX5_settleDigits_47 rfl ?_
        refine cb_cvr (as := [.inl x1]) (rest := [.inl (g 20 ((cb_w x1).toNat)), .inr 23, .inl x1, .inr 23]) hok lk_RX5_111 (by decide) (by decide) dX5_settleDigits_48 (fun q1 hq1 => C_X5_wayAround hJ _ _ q1 hq1) rfl rfl (Nat.le_of_ble_eq_true rfl) skC_b3 skC_c3 rfl (fun r2 => ?_)
        refine cb_cnr (as := [.inr 23, .inl (g 20 ((cb_w x1).toNat)), .inl r2]) (rest := [.inl x1, .inr 23]) hok lk_RX5_91 (by decide) (by decide) dX5_settleDigits_51 (fun q1 hq1 => C_X8_valueAt hJ 23 60 skC_b23 skC_c23 _ _ _ q1 hq1) rfl rfl (Nat.le_of_ble_eq_true rfl) (fun r3 => ?_)
        refine cb_fewer (ls' := [some (.inr 3), some (.inl x1)]) ⟨rfl, ⟨rfl, trivial⟩⟩ ?_
        exact J_X5_settleDigits_b54 hJ hok hk2 _ _ _ _
      · refine cb_aload_n hok dX5_settleDigits_27 rfl ?_
        refine cb_gr hok dX5_settleDigits_28 fl_RX5_30 skC_b3 skC_c3 rfl ?_
        refine cb_iload_n hok dX5_settleDigits_31 rfl ?_
        refine cb_iald hok dX5_settleDigits_32 skC_b22 skC_c22 ?_
        refine cb_goto (tgt := 54) hok dX5_settleDigits_33 (by decide) ?_
        refine cb_fewer (ls' := [some (.inr 3), some (.inl x1)]) ⟨rfl, ⟨rfl, trivial⟩⟩ ?_
        exact J_X5_settleDigits_b54 hJ hok hk2 _ _ _ _
def f_X5_settleDigits (g : cb_S) : Option (Int × cb_S) := f_X5_settleDigits_b2  cb_N 0 g
set_option maxRecDepth 100000 in
theorem C_X5_settleDigits {O : cb_O} (hJ : cb_J O skC) (g : cb_S) : ∀ q, f_X5_settleDigits g = some q → cb_m O skC true yX5_settleDigits cX5_settleDigits 2 none rm_X5_settleDigits [.inr 3] g q := by
  intro q hq
  refine cb_of_body hJ (by decide) (Nat.le_of_ble_eq_true rfl) hq (fun M hok => ?_)
  show cb_j _ _ _ _ _ _ _ [some (.inr 3), none] _ _ (f_X5_settleDigits_b2  cb_N 0 g)
  refine cb_iconst hok dX5_settleDigits_0 ?_
  refine cb_istore_n (ls' := [some (.inr 3), some (.inl 0)]) hok dX5_settleDigits_1 (by decide) rfl ?_
  refine cb_fewer (ls' := [some (.inr 3), some (.inl 0)]) ⟨rfl, ⟨rfl, trivial⟩⟩ ?_
  exact J_X5_settleDigits_b2 hJ hok  cb_N _ _
/-! CaretBench$Rows wayBesidePlain(I)I -/
def v_X5_wayBesidePlain (g : cb_S) (x0 : Int) : Option Int := if cb_w x0 = 0 then (some 0) else (some 1)
set_option maxRecDepth 100000 in
theorem C_X5_wayBesidePlain {O : cb_O} (hJ : cb_J O skC) (x0 : Int) (g : cb_S) : ∀ q, v_X5_wayBesidePlain g x0 = some q → cb_m O skC false yX5_wayBesidePlain cX5_wayBesidePlain 1 (some .int) rm_X5_wayBesidePlain [.inl x0] g (q, g) := by
  intro q hq
  refine cr_of_body hJ (by decide) (Nat.le_of_ble_eq_true rfl) hq (fun M hok => ?_)
  show cb_jr _ _ _ _ _ _ [some (.inl x0)] _ _ (if cb_w x0 = 0 then (some 0) else (some 1))
  refine cr_iload_n hok dX5_wayBesidePlain_0 rfl ?_
  refine cr_ifne (tgt := 8) hok rfl dX5_wayBesidePlain_1 (by decide) (fun _ => ?_) (fun _ => ?_)
  · refine cr_iconst hok dX5_wayBesidePlain_8 ?_
    exact cr_iret hok dX5_wayBesidePlain_9
  · refine cr_iconst hok dX5_wayBesidePlain_4 ?_
    refine cr_goto (tgt := 9) hok dX5_wayBesidePlain_5 (by decide) ?_
    exact cr_iret hok dX5_wayBesidePlain_9
/-! CaretBench$Rows settlePlain()V -/
def f_X5_settlePlain_b55 (kk2 : Int → cb_S → Option (Int × cb_S)) (x1 s0 s1 : Int) (g : cb_S) : Option (Int × cb_S) := if 0 ≤ cb_w s1 ∧ cb_w s1 < (60 : Nat) then (kk2 (x1 + 1) (cb_u g 23 (cb_w s1).toNat s0)) else none
set_option maxRecDepth 100000 in
theorem J_X5_settlePlain_b55 {O : cb_O} {M : cb_M} (hJ : cb_J O skC) (hok : cb_ok O skC M cX5_settlePlain 2 RX5 none) {kk2 : Int → cb_S → Option (Int × cb_S)} (hk2 : ∀ (x1 : Int) (g : cb_S), cb_j O skC true rm_X5_settlePlain M 2 2 [some (.inr 3), some (.inl x1)] [] g (kk2 x1 g)) : ∀ (x1 s0 s1 : Int) (g : cb_S), cb_j O skC true rm_X5_settlePlain M 2 55 [some (.inr 3), some (.inl x1)] [.inl s0, .inl s1, .inr 23] g (f_X5_settlePlain_b55 kk2 x1 s0 s1 g) := by
  intro x1 s0 s1 g
  show cb_j _ _ _ _ _ _ _ _ _ _ (if 0 ≤ cb_w s1 ∧ cb_w s1 < (60 : Nat) then (kk2 (x1 + 1) (cb_u g 23 (cb_w s1).toNat s0)) else none)
  refine cb_iast hok dX5_settlePlain_55 skC_b23 skC_c23 ?_
  refine cb_iinc (ls' := [some (.inr 3), some (.inl (x1 + 1))]) hok dX5_settlePlain_56 rfl (by decide) rfl ?_
  refine cb_goto (tgt := 2) hok dX5_settlePlain_59 (by decide) ?_
  refine cb_fewer (ls' := [some (.inr 3), some (.inl (x1 + 1))]) ⟨rfl, ⟨rfl, trivial⟩⟩ ?_
  exact hk2 _ _
def f_X5_settlePlain_b118 (kk69 : Int → cb_S → Option (Int × cb_S)) (x1 s0 s1 : Int) (g : cb_S) : Option (Int × cb_S) := if 0 ≤ cb_w s1 ∧ cb_w s1 < (60 : Nat) then (kk69 (x1 + (-1)) (cb_u g 24 (cb_w s1).toNat s0)) else none
set_option maxRecDepth 100000 in
theorem J_X5_settlePlain_b118 {O : cb_O} {M : cb_M} (hJ : cb_J O skC) (hok : cb_ok O skC M cX5_settlePlain 2 RX5 none) {kk69 : Int → cb_S → Option (Int × cb_S)} (hk69 : ∀ (x1 : Int) (g : cb_S), cb_j O skC true rm_X5_settlePlain M 2 69 [some (.inr 3), some (.inl x1)] [] g (kk69 x1 g)) : ∀ (x1 s0 s1 : Int) (g : cb_S), cb_j O skC true rm_X5_settlePlain M 2 118 [some (.inr 3), some (.inl x1)] [.inl s0, .inl s1, .inr 24] g (f_X5_settlePlain_b118 kk69 x1 s0 s1 g) := by
  intro x1 s0 s1 g
  show cb_j _ _ _ _ _ _ _ _ _ _ (if 0 ≤ cb_w s1 ∧ cb_w s1 < (60 : Nat) then (kk69 (x1 + (-1)) (cb_u g 24 (cb_w s1).toNat s0)) else none)
  refine cb_iast hok dX5_settlePlain_118 skC_b24 skC_c24 ?_
  refine cb_iinc (ls' := [some (.inr 3), some (.inl (x1 + (-1)))]) hok dX5_settlePlain_119 rfl (by decide) rfl ?_
  refine cb_goto (tgt := 69) hok dX5_settlePlain_122 (by decide) ?_
  refine cb_fewer (ls' := [some (.inr 3), some (.inl (x1 + (-1)))]) ⟨rfl, ⟨rfl, trivial⟩⟩ ?_
  exact hk69 _ _
def f_X5_settlePlain_b180 (kk127 : Int → cb_S → Option (Int × cb_S)) (x1 : Int) (g : cb_S) : Option (Int × cb_S) := kk127 (x1 + 1) g
set_option maxRecDepth 100000 in
theorem J_X5_settlePlain_b180 {O : cb_O} {M : cb_M} (hJ : cb_J O skC) (hok : cb_ok O skC M cX5_settlePlain 2 RX5 none) {kk127 : Int → cb_S → Option (Int × cb_S)} (hk127 : ∀ (x1 : Int) (g : cb_S), cb_j O skC true rm_X5_settlePlain M 2 127 [some (.inr 3), some (.inl x1)] [] g (kk127 x1 g)) : ∀ (x1 : Int) (g : cb_S), cb_j O skC true rm_X5_settlePlain M 2 180 [some (.inr 3), some (.inl x1)] [] g (f_X5_settlePlain_b180 kk127 x1 g) := by
  intro x1 g
  show cb_j _ _ _ _ _ _ _ _ _ _ (kk127 (x1 + 1) g)
  refine cb_iinc (ls' := [some (.inr 3), some (.inl (x1 + 1))]) hok dX5_settlePlain_180 rfl (by decide) rfl ?_
  refine cb_goto (tgt := 127) hok dX5_settlePlain_183 (by decide) ?_
  refine cb_fewer (ls' := [some (.inr 3), some (.inl (x1 + 1))]) ⟨rfl, ⟨rfl, trivial⟩⟩ ?_
  exact hk127 _ _
def f_X5_settlePlain_b179 (kk127 : Int → cb_S → Option (Int × cb_S)) (x1 s0 s1 : Int) (g : cb_S) : Option (Int × cb_S) := if 0 ≤ cb_w s1 ∧ cb_w s1 < (60 : Nat) then (f_X5_settlePlain_b180 kk127 x1 (cb_u g 22 (cb_w s1).toNat s0)) else none
set_option maxRecDepth 100000 in
theorem J_X5_settlePlain_b179 {O : cb_O} {M : cb_M} (hJ : cb_J O skC) (hok : cb_ok O skC M cX5_settlePlain 2 RX5 none) {kk127 : Int → cb_S → Option (Int × cb_S)} (hk127 : ∀ (x1 : Int) (g : cb_S), cb_j O skC true rm_X5_settlePlain M 2 127 [some (.inr 3), some (.inl x1)] [] g (kk127 x1 g)) : ∀ (x1 s0 s1 : Int) (g : cb_S), cb_j O skC true rm_X5_settlePlain M 2 179 [some (.inr 3), some (.inl x1)] [.inl s0, .inl s1, .inr 22] g (f_X5_settlePlain_b179 kk127 x1 s0 s1 g) := by
  intro x1 s0 s1 g
  show cb_j _ _ _ _ _ _ _ _ _ _ (if 0 ≤ cb_w s1 ∧ cb_w s1 < (60 : Nat) then (f_X5_settlePlain_b180 kk127 x1 (cb_u g 22 (cb_w s1).toNat s0)) else none)
  refine cb_iast hok dX5_settlePlain_179 skC_b22 skC_c22 ?_
  refine cb_fewer (ls' := [some (.inr 3), some (.inl x1)]) ⟨rfl, ⟨rfl, trivial⟩⟩ ?_
  exact J_X5_settlePlain_b180 hJ hok hk127 _ _
def f_X5_settlePlain_b127 : Nat → Int → cb_S → Option (Int × cb_S)
  | 0 => fun _ _ => none
  | n + 1 => fun x1 g => if cb_w (g 3 10) ≤ cb_w x1 then (some (0, g)) else (if 0 ≤ cb_w x1 ∧ cb_w x1 < (60 : Nat) then (if cb_w (g 22 ((cb_w x1).toNat)) = 4 then (if 0 ≤ cb_w x1 ∧ cb_w x1 < (60 : Nat) then (if 0 ≤ cb_w x1 ∧ cb_w x1 < (60 : Nat) then (if cb_w (g 23 ((cb_w x1).toNat)) = cb_w (g 24 ((cb_w x1).toNat)) then (if 0 ≤ cb_w x1 ∧ cb_w x1 < (60 : Nat) then (f_X5_settlePlain_b179 (f_X5_settlePlain_b127 n) x1 (g 23 ((cb_w x1).toNat)) x1 g) else none) else ((v_X5_wayAround g x1).bind (fun r1 => f_X5_settlePlain_b179 (f_X5_settlePlain_b127 n) x1 r1 x1 g))) else none) else none) else (f_X5_settlePlain_b180 (f_X5_settlePlain_b127 n) x1 g)) else none)
set_option maxRecDepth 100000 in
theorem J_X5_settlePlain_b127 {O : cb_O} {M : cb_M} (hJ : cb_J O skC) (hok : cb_ok O skC M cX5_settlePlain 2 RX5 none) : ∀ (n : Nat) (x1 : Int) (g : cb_S), cb_j O skC true rm_X5_settlePlain M 2 127 [some (.inr 3), some (.inl x1)] [] g (f_X5_settlePlain_b127 n x1 g) := by
  intro n
  induction n with
  | zero => intros; exact cb_none
  | succ n hk127 =>
    intro x1 g
    show cb_j _ _ _ _ _ _ _ _ _ _ (if cb_w (g 3 10) ≤ cb_w x1 then (some (0, g)) else (if 0 ≤ cb_w x1 ∧ cb_w x1 < (60 : Nat) then (if cb_w (g 22 ((cb_w x1).toNat)) = 4 then (if 0 ≤ cb_w x1 ∧ cb_w x1 < (60 : Nat) then (if 0 ≤ cb_w x1 ∧ cb_w x1 < (60 : Nat) then (if cb_w (g 23 ((cb_w x1).toNat)) = cb_w (g 24 ((cb_w x1).toNat)) then (if 0 ≤ cb_w x1 ∧ cb_w x1 < (60 : Nat) then (f_X5_settlePlain_b179 (f_X5_settlePlain_b127 n) x1 (g 23 ((cb_w x1).toNat)) x1 g) else none) else ((v_X5_wayAround g x1).bind (fun r1 => f_X5_settlePlain_b179 (f_X5_settlePlain_b127 n) x1 r1 x1 g))) else none) else none) else (f_X5_settlePlain_b180 (f_X5_settlePlain_b127 n) x1 g)) else none))
    refine cb_iload_n hok dX5_settlePlain_127 rfl ?_
    refine cb_aload_n hok dX5_settlePlain_128 rfl ?_
    refine cb_gi hok dX5_settlePlain_129 fl_RX5_48 skC_b3 skC_c3 rfl ?_
    refine cb_icge (tgt := 186) hok rfl rfl dX5_settlePlain_132 (by decide) (fun _ => ?_) (fun _ => ?_)
    · exact cb_vret hok dX5_settlePlain_186
    · refine cb_aload_n hok dX5_settlePlain_135 rfl ?_
      refine cb_gr hok dX5_settlePlain_136 fl_RX5_30 skC_b3 skC_c3 rfl ?_
      refine cb_iload_n hok dX5_settlePlain_139 rfl ?_
      refine cb_iald hok dX5_settlePlain_140 skC_b22 skC_c22 ?_
      refine cb_iconst hok dX5_settlePlain_141 ?_
      refine cb_icne (tgt := 180) hok rfl (by decide) dX5_settlePlain_142 (by decide) (fun _ => ?_) (fun _ => ?_)
      · refine cb_fewer (ls' := [some (.inr 3), some (.inl x1)]) ⟨rfl, ⟨rfl, trivial⟩⟩ ?_
        exact J_X5_settlePlain_b180 hJ hok hk127 _ _
      · refine cb_aload_n hok dX5_settlePlain_145 rfl ?_
        refine cb_gr hok dX5_settlePlain_146 fl_RX5_30 skC_b3 skC_c3 rfl ?_
        refine cb_iload_n hok dX5_settlePlain_149 rfl ?_
        refine cb_aload_n hok dX5_settlePlain_150 rfl ?_
        refine cb_gr hok dX5_settlePlain_151 fl_RX5_33 skC_b3 skC_c3 rfl ?_
        refine cb_iload_n hok dX5_settlePlain_154 rfl ?_
        refine cb_iald hok dX5_settlePlain_155 skC_b23 skC_c23 ?_
        refine cb_aload_n hok dX5_settlePlain_156 rfl ?_
        refine cb_gr hok dX5_settlePlain_157 fl_RX5_36 skC_b3 skC_c3 rfl ?_
        refine cb_iload_n hok dX5_settlePlain_160 rfl ?_
        refine cb_iald hok dX5_settlePlain_161 skC_b24 skC_c24 ?_
        refine cb_icne (tgt := 174) hok rfl rfl dX5_settlePlain_162 (by decide) (fun _ => ?_) (fun _ => ?_)
        · refine cb_aload_n hok dX5_settlePlain_174 rfl ?_
          refine cb_iload_n hok dX5_settlePlain_175 rfl ?_
          refine cb_cvr (as := [.inl x1]) (rest := [.inl x1, .inr 22]) hok lk_RX5_111 (by decide) (by decide) dX5_settlePlain_176 (fun q1 hq1 => C_X5_wayAround hJ _ _ q1 hq1) rfl rfl (Nat.le_of_ble_eq_true rfl) skC_b3 skC_c3 rfl (fun r1 => ?_)
          refine cb_fewer (ls' := [some (.inr 3), some (.inl x1)]) ⟨rfl, ⟨rfl, trivial⟩⟩ ?_
          exact J_X5_settlePlain_b179 hJ hok hk127 _ _ _ _
        · refine cb_aload_n hok dX5_settlePlain_165 rfl ?_
          refine cb_gr hok dX5_settlePlain_166 fl_RX5_33 skC_b3 skC_c3 rfl ?_
          refine cb_iload_n hok dX5_settlePlain_169 rfl ?_
          refine cb_iald hok dX5_settlePlain_170 skC_b23 skC_c23 ?_
          refine cb_goto (tgt := 179) hok dX5_settlePlain_171 (by decide) ?_
          refine cb_fewer (ls' := [some (.inr 3), some (.inl x1)]) ⟨rfl, ⟨rfl, trivial⟩⟩ ?_
          exact J_X5_settlePlain_b179 hJ hok hk127 _ _ _ _
def f_X5_settlePlain_b69 : Nat → Int → cb_S → Option (Int × cb_S)
  | 0 => fun _ _ => none
  | n + 1 => fun x1 g => if cb_w x1 < 0 then (f_X5_settlePlain_b127  cb_N 0 g) else (if 0 ≤ cb_w x1 ∧ cb_w x1 < (60 : Nat) then (if cb_w (g 22 ((cb_w x1).toNat)) = 4 then (if 0 ≤ cb_w x1 ∧ cb_w x1 < (60 : Nat) then ((v_X5_wayAround g x1).bind (fun r2 => (v_X8_valueAt g 24 60 (g 21 ((cb_w x1).toNat)) r2).bind (fun r3 => f_X5_settlePlain_b118 (f_X5_settlePlain_b69 n) x1 r3 x1 g))) else none) else (if 0 ≤ cb_w x1 ∧ cb_w x1 < (60 : Nat) then ((v_X5_wayBesidePlain g (g 22 ((cb_w x1).toNat))).bind (fun r1 => f_X5_settlePlain_b118 (f_X5_settlePlain_b69 n) x1 r1 x1 g)) else none)) else none)
set_option maxRecDepth 100000 in
theorem J_X5_settlePlain_b69 {O : cb_O} {M : cb_M} (hJ : cb_J O skC) (hok : cb_ok O skC M cX5_settlePlain 2 RX5 none) : ∀ (n : Nat) (x1 : Int) (g : cb_S), cb_j O skC true rm_X5_settlePlain M 2 69 [some (.inr 3), some (.inl x1)] [] g (f_X5_settlePlain_b69 n x1 g) := by
  intro n
  induction n with
  | zero => intros; exact cb_none
  | succ n hk69 =>
    intro x1 g
    show cb_j _ _ _ _ _ _ _ _ _ _ (if cb_w x1 < 0 then (f_X5_settlePlain_b127  cb_N 0 g) else (if 0 ≤ cb_w x1 ∧ cb_w x1 < (60 : Nat) then (if cb_w (g 22 ((cb_w x1).toNat)) = 4 then (if 0 ≤ cb_w x1 ∧ cb_w x1 < (60 : Nat) then ((v_X5_wayAround g x1).bind (fun r2 => (v_X8_valueAt g 24 60 (g 21 ((cb_w x1).toNat)) r2).bind (fun r3 => f_X5_settlePlain_b118 (f_X5_settlePlain_b69 n) x1 r3 x1 g))) else none) else (if 0 ≤ cb_w x1 ∧ cb_w x1 < (60 : Nat) then ((v_X5_wayBesidePlain g (g 22 ((cb_w x1).toNat))).bind (fun r1 => f_X5_settlePlain_b118 (f_X5_settlePlain_b69 n) x1 r1 x1 g)) else none)) else none))
    refine cb_iload_n hok dX5_settlePlain_69 rfl ?_
    refine cb_iflt (tgt := 125) hok rfl dX5_settlePlain_70 (by decide) (fun _ => ?_) (fun _ => ?_)
    · refine cb_iconst hok dX5_settlePlain_125 ?_
      refine cb_istore_n (ls' := [some (.inr 3), some (.inl 0)]) hok dX5_settlePlain_126 (by decide) rfl ?_
      refine cb_fewer (ls' := [some (.inr 3), some (.inl 0)]) ⟨rfl, ⟨rfl, trivial⟩⟩ ?_
      exact J_X5_settlePlain_b127 hJ hok  cb_N _ _
    · refine cb_aload_n hok dX5_settlePlain_73 rfl ?_
      refine cb_gr hok dX5_settlePlain_74 fl_RX5_36 skC_b3 skC_c3 rfl ?_
      refine cb_iload_n hok dX5_settlePlain_77 rfl ?_
      refine cb_aload_n hok dX5_settlePlain_78 rfl ?_
      refine cb_gr hok dX5_settlePlain_79 fl_RX5_30 skC_b3 skC_c3 rfl ?_
      refine cb_iload_n hok dX5_settlePlain_82 rfl ?_
      refine cb_iald hok dX5_settlePlain_83 skC_b22 skC_c22 ?_
      refine cb_iconst hok dX5_settlePlain_84 ?_
      refine cb_icne (tgt := 109) hok rfl (by decide) dX5_settlePlain_85 (by decide) (fun _ => ?_) (fun _ => ?_)
      · refine cb_aload_n hok dX5_settlePlain_109 rfl ?_
        refine cb_gr hok dX5_settlePlain_110 fl_RX5_30 skC_b3 skC_c3 rfl ?_
        refine cb_iload_n hok dX5_settlePlain_113 rfl ?_
        refine cb_iald hok dX5_settlePlain_114 skC_b22 skC_c22 ?_
        refine cb_csr (as := [.inl (g 22 ((cb_w x1).toNat))]) (rest := [.inl x1, .inr 24]) hok lk_RX5_125 (by decide) (by decide) dX5_settlePlain_115 (fun q1 hq1 => C_X5_wayBesidePlain hJ _ _ q1 hq1) rfl rfl (Nat.le_of_ble_eq_true rfl) (fun r1 => ?_)
        refine cb_fewer (ls' := [some (.inr 3), some (.inl x1)]) ⟨rfl, ⟨rfl, trivial⟩⟩ ?_
        exact J_X5_settlePlain_b118 hJ hok hk69 _ _ _ _
      · refine cb_aload_n hok dX5_settlePlain_88 rfl ?_
        refine cb_gr hok dX5_settlePlain_89 fl_RX5_36 skC_b3 skC_c3 rfl ?_
        refine cb_aload_n hok dX5_settlePlain_92 rfl ?_
        refine cb_gr hok dX5_settlePlain_93 fl_RX5_27 skC_b3 skC_c3 rfl ?_
        refine cb_iload_n hok dX5_settlePlain_96 rfl ?_
        refine cb_iald hok dX5_settlePlain_97 skC_b21 skC_c21 ?_
        refine cb_aload_n hok dX5_settlePlain_98 rfl ?_
        refine cb_iload_n hok dX5_settlePlain_99 rfl ?_
        refine cb_cvr (as := [.inl x1]) (rest := [.inl (g 21 ((cb_w x1).toNat)), .inr 24, .inl x1, .inr 24]) hok lk_RX5_111 (by decide) (by decide) dX5_settlePlain_100 (fun q1 hq1 => C_X5_wayAround hJ _ _ q1 hq1) rfl rfl (Nat.le_of_ble_eq_true rfl) skC_b3 skC_c3 rfl (fun r2 => ?_)
        refine cb_cnr (as := [.inr 24, .inl (g 21 ((cb_w x1).toNat)), .inl r2]) (rest := [.inl x1, .inr 24]) hok lk_RX5_91 (by decide) (by decide) dX5_settlePlain_103 (fun q1 hq1 => C_X8_valueAt hJ 24 60 skC_b24 skC_c24 _ _ _ q1 hq1) rfl rfl (Nat.le_of_ble_eq_true rfl) (fun r3 => ?_)
        refine cb_goto (tgt := 118) hok dX5_settlePlain_106 (by decide) ?_
        refine cb_fewer (ls' := [some (.inr 3), some (.inl x1)]) ⟨rfl, ⟨rfl, trivial⟩⟩ ?_
        exact J_X5_settlePlain_b118 hJ hok hk69 _ _ _ _
def f_X5_settlePlain_b2 : Nat → Int → cb_S → Option (Int × cb_S)
  | 0 => fun _ _ => none
  | n + 1 => fun x1 g => if cb_w (g 3 10) ≤ cb_w x1 then (f_X5_settlePlain_b69  cb_N ((g 3 10) - 1) g) else (if 0 ≤ cb_w x1 ∧ cb_w x1 < (60 : Nat) then (if cb_w (g 22 ((cb_w x1).toNat)) = 4 then (if 0 ≤ cb_w x1 ∧ cb_w x1 < (60 : Nat) then ((v_X5_wayAround g x1).bind (fun r2 => (v_X8_valueAt g 23 60 (g 20 ((cb_w x1).toNat)) r2).bind (fun r3 => f_X5_settlePlain_b55 (f_X5_settlePlain_b2 n) x1 r3 x1 g))) else none) else (if 0 ≤ cb_w x1 ∧ cb_w x1 < (60 : Nat) then ((v_X5_wayBesidePlain g (g 22 ((cb_w x1).toNat))).bind (fun r1 => f_X5_settlePlain_b55 (f_X5_settlePlain_b2 n) x1 r1 x1 g)) else none)) else none)
set_option maxRecDepth 100000 in
theorem J_X5_settlePlain_b2 {O : cb_O} {M : cb_M} (hJ : cb_J O skC) (hok : cb_ok O skC M cX5_settlePlain 2 RX5 none) : ∀ (n : Nat) (x1 : Int) (g : cb_S), cb_j O skC true rm_X5_settlePlain M 2 2 [some (.inr 3), some (.inl x1)] [] g (f_X5_settlePlain_b2 n x1 g) := by
  intro n
  induction n with
  | zero => intros; exact cb_none
  | succ n hk2 =>
    intro x1 g
    show cb_j _ _ _ _ _ _ _ _ _ _ (if cb_w (g 3 10) ≤ cb_w x1 then (f_X5_settlePlain_b69  cb_N ((g 3 10) - 1) g) else (if 0 ≤ cb_w x1 ∧ cb_w x1 < (60 : Nat) then (if cb_w (g 22 ((cb_w x1).toNat)) = 4 then (if 0 ≤ cb_w x1 ∧ cb_w x1 < (60 : Nat) then ((v_X5_wayAround g x1).bind (fun r2 => (v_X8_valueAt g 23 60 (g 20 ((cb_w x1).toNat)) r2).bind (fun r3 => f_X5_settlePlain_b55 (f_X5_settlePlain_b2 n) x1 r3 x1 g))) else none) else (if 0 ≤ cb_w x1 ∧ cb_w x1 < (60 : Nat) then ((v_X5_wayBesidePlain g (g 22 ((cb_w x1).toNat))).bind (fun r1 => f_X5_settlePlain_b55 (f_X5_settlePlain_b2 n) x1 r1 x1 g)) else none)) else none))
    refine cb_iload_n hok dX5_settlePlain_2 rfl ?_
    refine cb_aload_n hok dX5_settlePlain_3 rfl ?_
    refine cb_gi hok dX5_settlePlain_4 fl_RX5_48 skC_b3 skC_c3 rfl ?_
    refine cb_icge (tgt := 62) hok rfl rfl dX5_settlePlain_7 (by decide) (fun _ => ?_) (fun _ => ?_)
    · refine cb_aload_n hok dX5_settlePlain_62 rfl ?_
      refine cb_gi hok dX5_settlePlain_63 fl_RX5_48 skC_b3 skC_c3 rfl ?_
      refine cb_iconst hok dX5_settlePlain_66 ?_
      refine cb_isub hok dX5_settlePlain_67 ?_
      refine cb_istore_n (ls' := [some (.inr 3), some (.inl ((g 3 10) - 1))]) hok dX5_settlePlain_68 (by decide) rfl ?_
      refine cb_fewer (ls' := [some (.inr 3), some (.inl ((g 3 10) - 1))]) ⟨rfl, ⟨rfl, trivial⟩⟩ ?_
      exact J_X5_settlePlain_b69 hJ hok  cb_N _ _
    · refine cb_aload_n hok dX5_settlePlain_10 rfl ?_
      refine cb_gr hok dX5_settlePlain_11 fl_RX5_33 skC_b3 skC_c3 rfl ?_
      refine cb_iload_n hok dX5_settlePlain_14 rfl ?_
      refine cb_aload_n hok dX5_settlePlain_15 rfl ?_
      refine cb_gr hok dX5_settlePlain_16 fl_RX5_30 skC_b3 skC_c3 rfl ?_
      refine cb_iload_n hok dX5_settlePlain_19 rfl ?_
      refine cb_iald hok dX5_settlePlain_20 skC_b22 skC_c22 ?_
      refine cb_iconst hok dX5_settlePlain_21 ?_
      refine cb_icne (tgt := 46) hok rfl (by decide) dX5_settlePlain_22 (by decide) (fun _ => ?_) (fun _ => ?_)
      · refine cb_aload_n hok dX5_settlePlain_46 rfl ?_
        refine cb_gr hok dX5_settlePlain_47 fl_RX5_30 skC_b3 skC_c3 rfl ?_
        refine cb_iload_n hok dX5_settlePlain_50 rfl ?_
        refine cb_iald hok dX5_settlePlain_51 skC_b22 skC_c22 ?_
        refine cb_csr (as := [.inl (g 22 ((cb_w x1).toNat))]) (rest := [.inl x1, .inr 23]) hok lk_RX5_125 (by decide) (by decide) dX5_settlePlain_52 (fun q1 hq1 => C_X5_wayBesidePlain hJ _ _ q1 hq1) rfl rfl (Nat.le_of_ble_eq_true rfl) (fun r1 => ?_)
        refine cb_fewer (ls' := [some (.inr 3), some (.inl x1)]) ⟨rfl, ⟨rfl, trivial⟩⟩ ?_
        exact J_X5_settlePlain_b55 hJ hok hk2 _ _ _ _
      · refine cb_aload_n hok dX5_settlePlain_25 rfl ?_
        refine cb_gr hok dX5_settlePlain_26 fl_RX5_33 skC_b3 skC_c3 rfl ?_
        refine cb_aload_n hok dX5_settlePlain_29 rfl ?_
        refine cb_gr hok dX5_settlePlain_30 fl_RX5_24 skC_b3 skC_c3 rfl ?_
        refine cb_iload_n hok dX5_settlePlain_33 rfl ?_
        refine cb_iald hok dX5_settlePlain_34 skC_b20 skC_c20 ?_
        refine cb_aload_n hok dX5_settlePlain_35 rfl ?_
        refine cb_iload_n hok dX5_settlePlain_36 rfl ?_
        refine cb_cvr (as := [.inl x1]) (rest := [.inl (g 20 ((cb_w x1).toNat)), .inr 23, .inl x1, .inr 23]) hok lk_RX5_111 (by decide) (by decide) dX5_settlePlain_37 (fun q1 hq1 => C_X5_wayAround hJ _ _ q1 hq1) rfl rfl (Nat.le_of_ble_eq_true rfl) skC_b3 skC_c3 rfl (fun r2 => ?_)
        refine cb_cnr (as := [.inr 23, .inl (g 20 ((cb_w x1).toNat)), .inl r2]) (rest := [.inl x1, .inr 23]) hok lk_RX5_91 (by decide) (by decide) dX5_settlePlain_40 (fun q1 hq1 => C_X8_valueAt hJ 23 60 skC_b23 skC_c23 _ _ _ q1 hq1) rfl rfl (Nat.le_of_ble_eq_true rfl) (fun r3 => ?_)
        refine cb_goto (tgt := 55) hok dX5_settlePlain_43 (by decide) ?_
        refine cb_fewer (ls' := [some (.inr 3), some (.inl x1)]) ⟨rfl, ⟨rfl, trivial⟩⟩ ?_
        exact J_X5_settlePlain_b55 hJ hok hk2 _ _ _ _
def f_X5_settlePlain (g : cb_S) : Option (Int × cb_S) := f_X5_settlePlain_b2  cb_N 0 g
set_option maxRecDepth 100000 in
theorem C_X5_settlePlain {O : cb_O} (hJ : cb_J O skC) (g : cb_S) : ∀ q, f_X5_settlePlain g = some q → cb_m O skC true yX5_settlePlain cX5_settlePlain 2 none rm_X5_settlePlain [.inr 3] g q := by
  intro q hq
  refine cb_of_body hJ (by decide) (Nat.le_of_ble_eq_true rfl) hq (fun M hok => ?_)
  show cb_j _ _ _ _ _ _ _ [some (.inr 3), none] _ _ (f_X5_settlePlain_b2  cb_N 0 g)
  refine cb_iconst hok dX5_settlePlain_0 ?_
  refine cb_istore_n (ls' := [some (.inr 3), some (.inl 0)]) hok dX5_settlePlain_1 (by decide) rfl ?_
  refine cb_fewer (ls' := [some (.inr 3), some (.inl 0)]) ⟨rfl, ⟨rfl, trivial⟩⟩ ?_
  exact J_X5_settlePlain_b2 hJ hok  cb_N _ _
/-! CaretBench$Rows rise(II)I -/
def v_X5_rise (g : cb_S) (x0 : Int) (x1 : Int) : Option Int := if cb_w x0 = cb_w x1 then (some 0) else (if cb_w x0 = 2 then (if cb_w x1 = 0 then (some 2) else (some 1)) else (some 1))
set_option maxRecDepth 100000 in
theorem C_X5_rise {O : cb_O} (hJ : cb_J O skC) (x0 : Int) (x1 : Int) (g : cb_S) : ∀ q, v_X5_rise g x0 x1 = some q → cb_m O skC false yX5_rise cX5_rise 2 (some .int) rm_X5_rise [.inl x0, .inl x1] g (q, g) := by
  intro q hq
  refine cr_of_body hJ (by decide) (Nat.le_of_ble_eq_true rfl) hq (fun M hok => ?_)
  show cb_jr _ _ _ _ _ _ [some (.inl x0), some (.inl x1)] _ _ (if cb_w x0 = cb_w x1 then (some 0) else (if cb_w x0 = 2 then (if cb_w x1 = 0 then (some 2) else (some 1)) else (some 1)))
  refine cr_iload_n hok dX5_rise_0 rfl ?_
  refine cr_iload_n hok dX5_rise_1 rfl ?_
  refine cr_icne (tgt := 7) hok rfl rfl dX5_rise_2 (by decide) (fun _ => ?_) (fun _ => ?_)
  · refine cr_iload_n hok dX5_rise_7 rfl ?_
    refine cr_iconst hok dX5_rise_8 ?_
    refine cr_icne (tgt := 20) hok rfl (by decide) dX5_rise_9 (by decide) (fun _ => ?_) (fun _ => ?_)
    · refine cr_iconst hok dX5_rise_20 ?_
      exact cr_iret hok dX5_rise_21
    · refine cr_iload_n hok dX5_rise_12 rfl ?_
      refine cr_ifne (tgt := 20) hok rfl dX5_rise_13 (by decide) (fun _ => ?_) (fun _ => ?_)
      · refine cr_iconst hok dX5_rise_20 ?_
        exact cr_iret hok dX5_rise_21
      · refine cr_iconst hok dX5_rise_16 ?_
        refine cr_goto (tgt := 21) hok dX5_rise_17 (by decide) ?_
        exact cr_iret hok dX5_rise_21
  · refine cr_iconst hok dX5_rise_5 ?_
    exact cr_iret hok dX5_rise_6
/-! CaretBench$Rows findLevels()V -/
def f_X5_findLevels_b2 : Nat → Int → cb_S → Option (Int × cb_S)
  | 0 => fun _ _ => none
  | n + 1 => fun x1 g => if cb_w (g 3 10) ≤ cb_w x1 then (some (0, g)) else (if 0 ≤ cb_w x1 ∧ cb_w x1 < (60 : Nat) then (if 0 ≤ cb_w x1 ∧ cb_w x1 < (60 : Nat) then ((v_X5_wayAround g x1).bind (fun r1 => (v_X5_rise g (g 22 ((cb_w x1).toNat)) r1).bind (fun r2 => if 0 ≤ cb_w x1 ∧ cb_w x1 < (60 : Nat) then ((f_X5_findLevels_b2 n) (x1 + 1) (cb_u g 25 (cb_w x1).toNat ((g 19 ((cb_w x1).toNat)) + r2))) else none))) else none) else none)
set_option maxRecDepth 100000 in
theorem J_X5_findLevels_b2 {O : cb_O} {M : cb_M} (hJ : cb_J O skC) (hok : cb_ok O skC M cX5_findLevels 2 RX5 none) : ∀ (n : Nat) (x1 : Int) (g : cb_S), cb_j O skC true rm_X5_findLevels M 2 2 [some (.inr 3), some (.inl x1)] [] g (f_X5_findLevels_b2 n x1 g) := by
  intro n
  induction n with
  | zero => intros; exact cb_none
  | succ n hk2 =>
    intro x1 g
    show cb_j _ _ _ _ _ _ _ _ _ _ (if cb_w (g 3 10) ≤ cb_w x1 then (some (0, g)) else (if 0 ≤ cb_w x1 ∧ cb_w x1 < (60 : Nat) then (if 0 ≤ cb_w x1 ∧ cb_w x1 < (60 : Nat) then ((v_X5_wayAround g x1).bind (fun r1 => (v_X5_rise g (g 22 ((cb_w x1).toNat)) r1).bind (fun r2 => if 0 ≤ cb_w x1 ∧ cb_w x1 < (60 : Nat) then ((f_X5_findLevels_b2 n) (x1 + 1) (cb_u g 25 (cb_w x1).toNat ((g 19 ((cb_w x1).toNat)) + r2))) else none))) else none) else none))
    refine cb_iload_n hok dX5_findLevels_2 rfl ?_
    refine cb_aload_n hok dX5_findLevels_3 rfl ?_
    refine cb_gi hok dX5_findLevels_4 fl_RX5_48 skC_b3 skC_c3 rfl ?_
    refine cb_icge (tgt := 43) hok rfl rfl dX5_findLevels_7 (by decide) (fun _ => ?_) (fun _ => ?_)
    · exact cb_vret hok dX5_findLevels_43
    · refine cb_aload_n hok dX5_findLevels_10 rfl ?_
      refine cb_gr hok dX5_findLevels_11 fl_RX5_39 skC_b3 skC_c3 rfl ?_
      refine cb_iload_n hok dX5_findLevels_14 rfl ?_
      refine cb_aload_n hok dX5_findLevels_15 rfl ?_
      refine cb_gr hok dX5_findLevels_16 fl_RX5_21 skC_b3 skC_c3 rfl ?_
      refine cb_iload_n hok dX5_findLevels_19 rfl ?_
      refine cb_iald hok dX5_findLevels_20 skC_b19 skC_c19 ?_
      refine cb_aload_n hok dX5_findLevels_21 rfl ?_
      refine cb_gr hok dX5_findLevels_22 fl_RX5_30 skC_b3 skC_c3 rfl ?_
      refine cb_iload_n hok dX5_findLevels_25 rfl ?_
      refine cb_iald hok dX5_findLevels_26 skC_b22 skC_c22 ?_
      refine cb_aload_n hok dX5_findLevels_27 rfl ?_
      refine cb_iload_n hok dX5_findLevels_28 rfl ?_
      refine cb_cvr (as := [.inl x1]) (rest := [.inl (g 22 ((cb_w x1).toNat)), .inl (g 19 ((cb_w x1).toNat)), .inl x1, .inr 25]) hok lk_RX5_111 (by decide) (by decide) dX5_findLevels_29 (fun q1 hq1 => C_X5_wayAround hJ _ _ q1 hq1) rfl rfl (Nat.le_of_ble_eq_true rfl) skC_b3 skC_c3 rfl (fun r1 => ?_)
      refine cb_csr (as := [.inl (g 22 ((cb_w x1).toNat)), .inl r1]) (rest := [.inl (g 19 ((cb_w x1).toNat)), .inl x1, .inr 25]) hok lk_RX5_128 (by decide) (by decide) dX5_findLevels_32 (fun q1 hq1 => C_X5_rise hJ _ _ _ q1 hq1) rfl rfl (Nat.le_of_ble_eq_true rfl) (fun r2 => ?_)
      refine cb_iadd hok dX5_findLevels_35 ?_
      refine cb_iast hok dX5_findLevels_36 skC_b25 skC_c25 ?_
      refine cb_iinc (ls' := [some (.inr 3), some (.inl (x1 + 1))]) hok dX5_findLevels_37 rfl (by decide) rfl ?_
      refine cb_goto (tgt := 2) hok dX5_findLevels_40 (by decide) ?_
      refine cb_fewer (ls' := [some (.inr 3), some (.inl (x1 + 1))]) ⟨rfl, ⟨rfl, trivial⟩⟩ ?_
      exact hk2 _ _
def f_X5_findLevels (g : cb_S) : Option (Int × cb_S) := f_X5_findLevels_b2  cb_N 0 g
set_option maxRecDepth 100000 in
theorem C_X5_findLevels {O : cb_O} (hJ : cb_J O skC) (g : cb_S) : ∀ q, f_X5_findLevels g = some q → cb_m O skC true yX5_findLevels cX5_findLevels 2 none rm_X5_findLevels [.inr 3] g q := by
  intro q hq
  refine cb_of_body hJ (by decide) (Nat.le_of_ble_eq_true rfl) hq (fun M hok => ?_)
  show cb_j _ _ _ _ _ _ _ [some (.inr 3), none] _ _ (f_X5_findLevels_b2  cb_N 0 g)
  refine cb_iconst hok dX5_findLevels_0 ?_
  refine cb_istore_n (ls' := [some (.inr 3), some (.inl 0)]) hok dX5_findLevels_1 (by decide) rfl ?_
  refine cb_fewer (ls' := [some (.inr 3), some (.inl 0)]) ⟨rfl, ⟨rfl, trivial⟩⟩ ?_
  exact J_X5_findLevels_b2 hJ hok  cb_N _ _
/-! CaretBench$Signs fallsToBaseAtEnd(I)Z -/
def v_X7_fallsToBaseAtEnd (g : cb_S) (x0 : Int) : Option Int := if cb_w x0 = 32 then (some 1) else (if cb_w x0 = 93 then (some 1) else ((v_X7_beginsIsle g x0).bind (fun r1 => if cb_w r1 = 0 then (some 0) else (some 1))))
set_option maxRecDepth 100000 in
theorem C_X7_fallsToBaseAtEnd {O : cb_O} (hJ : cb_J O skC) (x0 : Int) (g : cb_S) : ∀ q, v_X7_fallsToBaseAtEnd g x0 = some q → cb_m O skC false yX7_fallsToBaseAtEnd cX7_fallsToBaseAtEnd 1 (some .boolean) rm_X7_fallsToBaseAtEnd [.inl x0] g (q, g) := by
  intro q hq
  refine cr_of_body hJ (by decide) (Nat.le_of_ble_eq_true rfl) hq (fun M hok => ?_)
  show cb_jr _ _ _ _ _ _ [some (.inl x0)] _ _ (if cb_w x0 = 32 then (some 1) else (if cb_w x0 = 93 then (some 1) else ((v_X7_beginsIsle g x0).bind (fun r1 => if cb_w r1 = 0 then (some 0) else (some 1)))))
  refine cr_iload_n hok dX7_fallsToBaseAtEnd_0 rfl ?_
  refine cr_bipush hok dX7_fallsToBaseAtEnd_1 (by decide) ?_
  refine cr_iceq (tgt := 19) hok rfl (by decide) dX7_fallsToBaseAtEnd_3 (by decide) (fun _ => ?_) (fun _ => ?_)
  · refine cr_iconst hok dX7_fallsToBaseAtEnd_19 ?_
    refine cr_goto (tgt := 24) hok dX7_fallsToBaseAtEnd_20 (by decide) ?_
    exact cr_zret hok dX7_fallsToBaseAtEnd_24 (by decide)
  · refine cr_iload_n hok dX7_fallsToBaseAtEnd_6 rfl ?_
    refine cr_bipush hok dX7_fallsToBaseAtEnd_7 (by decide) ?_
    refine cr_iceq (tgt := 19) hok rfl (by decide) dX7_fallsToBaseAtEnd_9 (by decide) (fun _ => ?_) (fun _ => ?_)
    · refine cr_iconst hok dX7_fallsToBaseAtEnd_19 ?_
      refine cr_goto (tgt := 24) hok dX7_fallsToBaseAtEnd_20 (by decide) ?_
      exact cr_zret hok dX7_fallsToBaseAtEnd_24 (by decide)
    · refine cr_iload_n hok dX7_fallsToBaseAtEnd_12 rfl ?_
      refine cr_csr (as := [.inl x0]) (rest := []) hok lk_RX7_22 (by decide) (by decide) dX7_fallsToBaseAtEnd_13 (fun q1 hq1 => C_X7_beginsIsle hJ _ _ q1 hq1) rfl rfl (Nat.le_of_ble_eq_true rfl) (fun r1 => ?_)
      refine cr_ifeq (tgt := 23) hok rfl dX7_fallsToBaseAtEnd_16 (by decide) (fun _ => ?_) (fun _ => ?_)
      · refine cr_iconst hok dX7_fallsToBaseAtEnd_23 ?_
        exact cr_zret hok dX7_fallsToBaseAtEnd_24 (by decide)
      · refine cr_iconst hok dX7_fallsToBaseAtEnd_19 ?_
        refine cr_goto (tgt := 24) hok dX7_fallsToBaseAtEnd_20 (by decide) ?_
        exact cr_zret hok dX7_fallsToBaseAtEnd_24 (by decide)
/-! CaretBench$Rows lowerEnd(LCaretBench$Line;)V -/
def f_X5_lowerEnd_b7 : Nat → Int → cb_S → Option (Int × cb_S)
  | 0 => fun _ _ => none
  | n + 1 => fun x2 g => if cb_w x2 < 0 then (some (0, g)) else ((v_X3_at g x2).bind (fun r1 => (v_X7_fallsToBaseAtEnd g r1).bind (fun r2 => if cb_w r2 = 0 then (some (0, g)) else (if 0 ≤ cb_w x2 ∧ cb_w x2 < (60 : Nat) then ((f_X5_lowerEnd_b7 n) (x2 + (-1)) (cb_u g 25 (cb_w x2).toNat (g 3 12))) else none))))
set_option maxRecDepth 100000 in
theorem J_X5_lowerEnd_b7 {O : cb_O} {M : cb_M} (hJ : cb_J O skC) (hok : cb_ok O skC M cX5_lowerEnd 3 RX5 none) : ∀ (n : Nat) (x2 : Int) (g : cb_S), cb_j O skC true rm_X5_lowerEnd M 3 7 [some (.inr 3), some (.inr 1), some (.inl x2)] [] g (f_X5_lowerEnd_b7 n x2 g) := by
  intro n
  induction n with
  | zero => intros; exact cb_none
  | succ n hk7 =>
    intro x2 g
    show cb_j _ _ _ _ _ _ _ _ _ _ (if cb_w x2 < 0 then (some (0, g)) else ((v_X3_at g x2).bind (fun r1 => (v_X7_fallsToBaseAtEnd g r1).bind (fun r2 => if cb_w r2 = 0 then (some (0, g)) else (if 0 ≤ cb_w x2 ∧ cb_w x2 < (60 : Nat) then ((f_X5_lowerEnd_b7 n) (x2 + (-1)) (cb_u g 25 (cb_w x2).toNat (g 3 12))) else none)))))
    refine cb_iload_n hok dX5_lowerEnd_7 rfl ?_
    refine cb_iflt (tgt := 38) hok rfl dX5_lowerEnd_8 (by decide) (fun _ => ?_) (fun _ => ?_)
    · exact cb_vret hok dX5_lowerEnd_38
    · refine cb_aload_n hok dX5_lowerEnd_11 rfl ?_
      refine cb_iload_n hok dX5_lowerEnd_12 rfl ?_
      refine cb_cvr (as := [.inl x2]) (rest := []) hok lk_RX5_87 (by decide) (by decide) dX5_lowerEnd_13 (fun q1 hq1 => C_X3_at hJ _ _ q1 hq1) rfl rfl (Nat.le_of_ble_eq_true rfl) skC_b1 skC_c1 rfl (fun r1 => ?_)
      refine cb_csr (as := [.inl r1]) (rest := []) hok lk_RX5_131 (by decide) (by decide) dX5_lowerEnd_16 (fun q1 hq1 => C_X7_fallsToBaseAtEnd hJ _ _ q1 hq1) rfl rfl (Nat.le_of_ble_eq_true rfl) (fun r2 => ?_)
      refine cb_ifeq (tgt := 38) hok rfl dX5_lowerEnd_19 (by decide) (fun _ => ?_) (fun _ => ?_)
      · exact cb_vret hok dX5_lowerEnd_38
      · refine cb_aload_n hok dX5_lowerEnd_22 rfl ?_
        refine cb_gr hok dX5_lowerEnd_23 fl_RX5_39 skC_b3 skC_c3 rfl ?_
        refine cb_iload_n hok dX5_lowerEnd_26 rfl ?_
        refine cb_aload_n hok dX5_lowerEnd_27 rfl ?_
        refine cb_gi hok dX5_lowerEnd_28 fl_RX5_54 skC_b3 skC_c3 rfl ?_
        refine cb_iast hok dX5_lowerEnd_31 skC_b25 skC_c25 ?_
        refine cb_iinc (ls' := [some (.inr 3), some (.inr 1), some (.inl (x2 + (-1)))]) hok dX5_lowerEnd_32 rfl (by decide) rfl ?_
        refine cb_goto (tgt := 7) hok dX5_lowerEnd_35 (by decide) ?_
        refine cb_fewer (ls' := [some (.inr 3), some (.inr 1), some (.inl (x2 + (-1)))]) ⟨rfl, ⟨rfl, ⟨rfl, trivial⟩⟩⟩ ?_
        exact hk7 _ _
def f_X5_lowerEnd (g : cb_S) : Option (Int × cb_S) := f_X5_lowerEnd_b7  cb_N ((g 3 10) - 1) g
set_option maxRecDepth 100000 in
theorem C_X5_lowerEnd {O : cb_O} (hJ : cb_J O skC) (g : cb_S) : ∀ q, f_X5_lowerEnd g = some q → cb_m O skC true yX5_lowerEnd cX5_lowerEnd 3 none rm_X5_lowerEnd [.inr 3, .inr 1] g q := by
  intro q hq
  refine cb_of_body hJ (by decide) (Nat.le_of_ble_eq_true rfl) hq (fun M hok => ?_)
  show cb_j _ _ _ _ _ _ _ [some (.inr 3), some (.inr 1), none] _ _ (f_X5_lowerEnd_b7  cb_N ((g 3 10) - 1) g)
  refine cb_aload_n hok dX5_lowerEnd_0 rfl ?_
  refine cb_gi hok dX5_lowerEnd_1 fl_RX5_48 skC_b3 skC_c3 rfl ?_
  refine cb_iconst hok dX5_lowerEnd_4 ?_
  refine cb_isub hok dX5_lowerEnd_5 ?_
  refine cb_istore_n (ls' := [some (.inr 3), some (.inr 1), some (.inl ((g 3 10) - 1))]) hok dX5_lowerEnd_6 (by decide) rfl ?_
  refine cb_fewer (ls' := [some (.inr 3), some (.inr 1), some (.inl ((g 3 10) - 1))]) ⟨rfl, ⟨rfl, ⟨rfl, trivial⟩⟩⟩ ?_
  exact J_X5_lowerEnd_b7 hJ hok  cb_N _ _
/-! CaretBench$Rows lay(LCaretBench$Line;LCaretBench$Clusters;)V -/
def f_X5_lay (g : cb_S) : Option (Int × cb_S) := (v_X3_length g ).bind (fun r1 => (v_X3_base (cb_u g 3 10 r1) ).bind (fun r2 => cb_b (f_X5_divide (cb_u (cb_u g 3 10 r1) 3 12 r2) ) (fun r3 g3 => cb_b (f_X5_findKinds g3 ) (fun r4 g4 => cb_b (f_X5_settleSeparators g4 ) (fun r5 g5 => cb_b (f_X5_settleDigits g5 ) (fun r6 g6 => cb_b (f_X5_settlePlain g6 ) (fun r7 g7 => cb_b (f_X5_findLevels g7 ) (fun r8 g8 => cb_b (f_X5_lowerEnd g8 ) (fun r9 g9 => some (0, g9))))))))))
set_option maxRecDepth 100000 in
theorem C_X5_lay {O : cb_O} (hJ : cb_J O skC) (g : cb_S) : ∀ q, f_X5_lay g = some q → cb_m O skC true yX5_lay cX5_lay 3 none rm_X5_lay [.inr 3, .inr 1, .inr 2] g q := by
  intro q hq
  refine cb_of_body hJ (by decide) (Nat.le_of_ble_eq_true rfl) hq (fun M hok => ?_)
  show cb_j _ _ _ _ _ _ _ [some (.inr 3), some (.inr 1), some (.inr 2)] _ _ ((v_X3_length g ).bind (fun r1 => (v_X3_base (cb_u g 3 10 r1) ).bind (fun r2 => cb_b (f_X5_divide (cb_u (cb_u g 3 10 r1) 3 12 r2) ) (fun r3 g3 => cb_b (f_X5_findKinds g3 ) (fun r4 g4 => cb_b (f_X5_settleSeparators g4 ) (fun r5 g5 => cb_b (f_X5_settleDigits g5 ) (fun r6 g6 => cb_b (f_X5_settlePlain g6 ) (fun r7 g7 => cb_b (f_X5_findLevels g7 ) (fun r8 g8 => cb_b (f_X5_lowerEnd g8 ) (fun r9 g9 => some (0, g9)))))))))))
  refine cb_aload_n hok dX5_lay_0 rfl ?_
  refine cb_aload_n hok dX5_lay_1 rfl ?_
  refine cb_cvr (as := []) (rest := [.inr 3]) hok lk_RX5_42 (by decide) (by decide) dX5_lay_2 (fun q1 hq1 => C_X3_length hJ _ q1 hq1) rfl rfl (Nat.le_of_ble_eq_true rfl) skC_b1 skC_c1 rfl (fun r1 => ?_)
  refine cb_pi hok dX5_lay_5 fp_RX5_48 skC_b3 skC_c3 rfl ?_
  refine cb_aload_n hok dX5_lay_8 rfl ?_
  refine cb_aload_n hok dX5_lay_9 rfl ?_
  refine cb_cvr (as := []) (rest := [.inr 3]) hok lk_RX5_51 (by decide) (by decide) dX5_lay_10 (fun q1 hq1 => C_X3_base hJ _ q1 hq1) rfl rfl (Nat.le_of_ble_eq_true rfl) skC_b1 skC_c1 rfl (fun r2 => ?_)
  refine cb_pi hok dX5_lay_13 fp_RX5_54 skC_b3 skC_c3 rfl ?_
  refine cb_aload_n hok dX5_lay_16 rfl ?_
  refine cb_aload_n hok dX5_lay_17 rfl ?_
  refine cb_cvv (as := [.inr 1]) (rest := []) hok lk_RX5_57 (by decide) (by decide) dX5_lay_18 (fun q1 hq1 => C_X5_divide hJ _ q1 hq1) rfl rfl (Nat.le_of_ble_eq_true rfl) skC_b3 skC_c3 rfl (fun r3 g3 => ?_)
  refine cb_aload_n hok dX5_lay_21 rfl ?_
  refine cb_aload_n hok dX5_lay_22 rfl ?_
  refine cb_aload_n hok dX5_lay_23 rfl ?_
  refine cb_cvv (as := [.inr 1, .inr 2]) (rest := []) hok lk_RX5_61 (by decide) (by decide) dX5_lay_24 (fun q1 hq1 => C_X5_findKinds hJ _ q1 hq1) rfl rfl (Nat.le_of_ble_eq_true rfl) skC_b3 skC_c3 rfl (fun r4 g4 => ?_)
  refine cb_aload_n hok dX5_lay_27 rfl ?_
  refine cb_cvv (as := []) (rest := []) hok lk_RX5_65 (by decide) (by decide) dX5_lay_28 (fun q1 hq1 => C_X5_settleSeparators hJ _ q1 hq1) rfl rfl (Nat.le_of_ble_eq_true rfl) skC_b3 skC_c3 rfl (fun r5 g5 => ?_)
  refine cb_aload_n hok dX5_lay_31 rfl ?_
  refine cb_cvv (as := []) (rest := []) hok lk_RX5_68 (by decide) (by decide) dX5_lay_32 (fun q1 hq1 => C_X5_settleDigits hJ _ q1 hq1) rfl rfl (Nat.le_of_ble_eq_true rfl) skC_b3 skC_c3 rfl (fun r6 g6 => ?_)
  refine cb_aload_n hok dX5_lay_35 rfl ?_
  refine cb_cvv (as := []) (rest := []) hok lk_RX5_71 (by decide) (by decide) dX5_lay_36 (fun q1 hq1 => C_X5_settlePlain hJ _ q1 hq1) rfl rfl (Nat.le_of_ble_eq_true rfl) skC_b3 skC_c3 rfl (fun r7 g7 => ?_)
  refine cb_aload_n hok dX5_lay_39 rfl ?_
  refine cb_cvv (as := []) (rest := []) hok lk_RX5_74 (by decide) (by decide) dX5_lay_40 (fun q1 hq1 => C_X5_findLevels hJ _ q1 hq1) rfl rfl (Nat.le_of_ble_eq_true rfl) skC_b3 skC_c3 rfl (fun r8 g8 => ?_)
  refine cb_aload_n hok dX5_lay_43 rfl ?_
  refine cb_aload_n hok dX5_lay_44 rfl ?_
  refine cb_cvv (as := [.inr 1]) (rest := []) hok lk_RX5_77 (by decide) (by decide) dX5_lay_45 (fun q1 hq1 => C_X5_lowerEnd hJ _ q1 hq1) rfl rfl (Nat.le_of_ble_eq_true rfl) skC_b3 skC_c3 rfl (fun r9 g9 => ?_)
  exact cb_vret hok dX5_lay_48
/-! CaretBench$Rows levelOf(I)I -/
def v_X5_levelOf (g : cb_S) (x1 : Int) : Option Int := (v_X8_valueAt g 25 60 x1 (-1)).bind (fun r1 => some r1)
set_option maxRecDepth 100000 in
theorem C_X5_levelOf {O : cb_O} (hJ : cb_J O skC) (x1 : Int) (g : cb_S) : ∀ q, v_X5_levelOf g x1 = some q → cb_m O skC false yX5_levelOf cX5_levelOf 2 (some .int) rm_X5_levelOf [.inr 3, .inl x1] g (q, g) := by
  intro q hq
  refine cr_of_body hJ (by decide) (Nat.le_of_ble_eq_true rfl) hq (fun M hok => ?_)
  show cb_jr _ _ _ _ _ _ [some (.inr 3), some (.inl x1)] _ _ ((v_X8_valueAt g 25 60 x1 (-1)).bind (fun r1 => some r1))
  refine cr_aload_n hok dX5_levelOf_0 rfl ?_
  refine cr_gr hok dX5_levelOf_1 fl_RX5_39 skC_b3 skC_c3 rfl ?_
  refine cr_iload_n hok dX5_levelOf_4 rfl ?_
  refine cr_iconst hok dX5_levelOf_5 ?_
  refine cr_cnr (as := [.inr 25, .inl x1, .inl (-1)]) (rest := []) hok lk_RX5_91 (by decide) (by decide) dX5_levelOf_6 (fun q1 hq1 => C_X8_valueAt hJ 25 60 skC_b25 skC_c25 _ _ _ q1 hq1) rfl rfl (Nat.le_of_ble_eq_true rfl) (fun r1 => ?_)
  exact cr_iret hok dX5_levelOf_9
/-! CaretBench$Rows highest()I -/
def v_X5_highest_b18 : Nat → Int → Int → cb_S → Option Int
  | 0 => fun _ _ _ => none
  | n + 1 => fun x1 x2 g => if cb_w (g 3 10) ≤ cb_w x2 then (some x1) else (if 0 ≤ cb_w x2 ∧ cb_w x2 < (60 : Nat) then ((v_X5_highest_b18 n) (if cb_w x1 < cb_w (g 25 ((cb_w x2).toNat)) then g 25 ((cb_w x2).toNat) else x1) (x2 + 1) g) else none)
set_option maxRecDepth 100000 in
theorem J_X5_highest_b18 {O : cb_O} {M : cb_M} (hJ : cb_J O skC) (hok : cb_ok O skC M cX5_highest 3 RX5 (some .int)) : ∀ (n : Nat) (x1 x2 : Int) (g : cb_S), cb_jr O skC rm_X5_highest M 3 18 [some (.inr 3), some (.inl x1), some (.inl x2)] [] g (v_X5_highest_b18 n x1 x2 g) := by
  intro n
  induction n with
  | zero => intros; exact cr_none
  | succ n hk18 =>
    intro x1 x2 g
    show cb_jr _ _ _ _ _ _ _ _ _ (if cb_w (g 3 10) ≤ cb_w x2 then (some x1) else (if 0 ≤ cb_w x2 ∧ cb_w x2 < (60 : Nat) then ((v_X5_highest_b18 n) (if cb_w x1 < cb_w (g 25 ((cb_w x2).toNat)) then g 25 ((cb_w x2).toNat) else x1) (x2 + 1) g) else none))
    refine cr_iload_n hok dX5_highest_18 rfl ?_
    refine cr_aload_n hok dX5_highest_19 rfl ?_
    refine cr_gi hok dX5_highest_20 fl_RX5_48 skC_b3 skC_c3 rfl ?_
    refine cr_icge (tgt := 43) hok rfl rfl dX5_highest_23 (by decide) (fun _ => ?_) (fun _ => ?_)
    · refine cr_iload_n hok dX5_highest_43 rfl ?_
      exact cr_iret hok dX5_highest_44
    · refine cr_iload_n hok dX5_highest_26 rfl ?_
      refine cr_aload_n hok dX5_highest_27 rfl ?_
      refine cr_gr hok dX5_highest_28 fl_RX5_39 skC_b3 skC_c3 rfl ?_
      refine cr_iload_n hok dX5_highest_31 rfl ?_
      refine cr_iald hok dX5_highest_32 skC_b25 skC_c25 ?_
      refine cr_max hok lm_RX5_134 (by decide) (Nat.le_of_ble_eq_true rfl) dX5_highest_33 ?_
      refine cr_istore_n (ls' := [some (.inr 3), some (.inl (if cb_w x1 < cb_w (g 25 ((cb_w x2).toNat)) then g 25 ((cb_w x2).toNat) else x1)), some (.inl x2)]) hok dX5_highest_36 (by decide) rfl ?_
      refine cr_iinc (ls' := [some (.inr 3), some (.inl (if cb_w x1 < cb_w (g 25 ((cb_w x2).toNat)) then g 25 ((cb_w x2).toNat) else x1)), some (.inl (x2 + 1))]) hok dX5_highest_37 rfl (by decide) rfl ?_
      refine cr_goto (tgt := 18) hok dX5_highest_40 (by decide) ?_
      refine cr_fewer (ls' := [some (.inr 3), some (.inl (if cb_w x1 < cb_w (g 25 ((cb_w x2).toNat)) then g 25 ((cb_w x2).toNat) else x1)), some (.inl (x2 + 1))]) ⟨rfl, ⟨rfl, ⟨rfl, trivial⟩⟩⟩ ?_
      exact hk18 _ _ _
def v_X5_highest_b15 (s0 : Int) (g : cb_S) : Option Int := v_X5_highest_b18  cb_N s0 0 g
set_option maxRecDepth 100000 in
theorem J_X5_highest_b15 {O : cb_O} {M : cb_M} (hJ : cb_J O skC) (hok : cb_ok O skC M cX5_highest 3 RX5 (some .int)) : ∀ (s0 : Int) (g : cb_S), cb_jr O skC rm_X5_highest M 3 15 [some (.inr 3), none, none] [.inl s0] g (v_X5_highest_b15 s0 g) := by
  intro s0 g
  show cb_jr _ _ _ _ _ _ _ _ _ (v_X5_highest_b18  cb_N s0 0 g)
  refine cr_istore_n (ls' := [some (.inr 3), some (.inl s0), none]) hok dX5_highest_15 (by decide) rfl ?_
  refine cr_iconst hok dX5_highest_16 ?_
  refine cr_istore_n (ls' := [some (.inr 3), some (.inl s0), some (.inl 0)]) hok dX5_highest_17 (by decide) rfl ?_
  refine cr_fewer (ls' := [some (.inr 3), some (.inl s0), some (.inl 0)]) ⟨rfl, ⟨rfl, ⟨rfl, trivial⟩⟩⟩ ?_
  exact J_X5_highest_b18 hJ hok  cb_N _ _ _
def v_X5_highest (g : cb_S) : Option Int := if cb_w (g 3 10) = 0 then (v_X5_highest_b15  (g 3 12) g) else (v_X5_highest_b15  0 g)
set_option maxRecDepth 100000 in
theorem C_X5_highest {O : cb_O} (hJ : cb_J O skC) (g : cb_S) : ∀ q, v_X5_highest g = some q → cb_m O skC false yX5_highest cX5_highest 3 (some .int) rm_X5_highest [.inr 3] g (q, g) := by
  intro q hq
  refine cr_of_body hJ (by decide) (Nat.le_of_ble_eq_true rfl) hq (fun M hok => ?_)
  show cb_jr _ _ _ _ _ _ [some (.inr 3), none, none] _ _ (if cb_w (g 3 10) = 0 then (v_X5_highest_b15  (g 3 12) g) else (v_X5_highest_b15  0 g))
  refine cr_aload_n hok dX5_highest_0 rfl ?_
  refine cr_gi hok dX5_highest_1 fl_RX5_48 skC_b3 skC_c3 rfl ?_
  refine cr_ifne (tgt := 14) hok rfl dX5_highest_4 (by decide) (fun _ => ?_) (fun _ => ?_)
  · refine cr_iconst hok dX5_highest_14 ?_
    refine cr_fewer (ls' := [some (.inr 3), none, none]) ⟨rfl, trivial⟩ ?_
    exact J_X5_highest_b15 hJ hok  _ _
  · refine cr_aload_n hok dX5_highest_7 rfl ?_
    refine cr_gi hok dX5_highest_8 fl_RX5_54 skC_b3 skC_c3 rfl ?_
    refine cr_goto (tgt := 15) hok dX5_highest_11 (by decide) ?_
    refine cr_fewer (ls' := [some (.inr 3), none, none]) ⟨rfl, trivial⟩ ?_
    exact J_X5_highest_b15 hJ hok  _ _
/-! CaretBench$Rows numberWithSigns()I -/
def v_X5_numberWithSigns_b25 (kk4 : Int → Int → cb_S → Option Int) (x1 x2 : Int) (g : cb_S) : Option Int := kk4 x1 (x2 + 1) g
set_option maxRecDepth 100000 in
theorem J_X5_numberWithSigns_b25 {O : cb_O} {M : cb_M} (hJ : cb_J O skC) (hok : cb_ok O skC M cX5_numberWithSigns 3 RX5 (some .int)) {kk4 : Int → Int → cb_S → Option Int} (hk4 : ∀ (x1 x2 : Int) (g : cb_S), cb_jr O skC rm_X5_numberWithSigns M 3 4 [some (.inr 3), some (.inl x1), some (.inl x2)] [] g (kk4 x1 x2 g)) : ∀ (x1 x2 : Int) (g : cb_S), cb_jr O skC rm_X5_numberWithSigns M 3 25 [some (.inr 3), some (.inl x1), some (.inl x2)] [] g (v_X5_numberWithSigns_b25 kk4 x1 x2 g) := by
  intro x1 x2 g
  show cb_jr _ _ _ _ _ _ _ _ _ (kk4 x1 (x2 + 1) g)
  refine cr_iinc (ls' := [some (.inr 3), some (.inl x1), some (.inl (x2 + 1))]) hok dX5_numberWithSigns_25 rfl (by decide) rfl ?_
  refine cr_goto (tgt := 4) hok dX5_numberWithSigns_28 (by decide) ?_
  refine cr_fewer (ls' := [some (.inr 3), some (.inl x1), some (.inl (x2 + 1))]) ⟨rfl, ⟨rfl, ⟨rfl, trivial⟩⟩⟩ ?_
  exact hk4 _ _ _
def v_X5_numberWithSigns_b4 : Nat → Int → Int → cb_S → Option Int
  | 0 => fun _ _ _ => none
  | n + 1 => fun x1 x2 g => if cb_w (g 3 11) ≤ cb_w x2 then (some x1) else (if 0 ≤ cb_w x2 ∧ cb_w x2 < (61 : Nat) then (if cb_w (g 18 ((cb_w x2).toNat)) = (-1) then (v_X5_numberWithSigns_b25 (v_X5_numberWithSigns_b4 n) x1 x2 g) else (v_X5_numberWithSigns_b25 (v_X5_numberWithSigns_b4 n) (x1 + 1) x2 g)) else none)
set_option maxRecDepth 100000 in
theorem J_X5_numberWithSigns_b4 {O : cb_O} {M : cb_M} (hJ : cb_J O skC) (hok : cb_ok O skC M cX5_numberWithSigns 3 RX5 (some .int)) : ∀ (n : Nat) (x1 x2 : Int) (g : cb_S), cb_jr O skC rm_X5_numberWithSigns M 3 4 [some (.inr 3), some (.inl x1), some (.inl x2)] [] g (v_X5_numberWithSigns_b4 n x1 x2 g) := by
  intro n
  induction n with
  | zero => intros; exact cr_none
  | succ n hk4 =>
    intro x1 x2 g
    show cb_jr _ _ _ _ _ _ _ _ _ (if cb_w (g 3 11) ≤ cb_w x2 then (some x1) else (if 0 ≤ cb_w x2 ∧ cb_w x2 < (61 : Nat) then (if cb_w (g 18 ((cb_w x2).toNat)) = (-1) then (v_X5_numberWithSigns_b25 (v_X5_numberWithSigns_b4 n) x1 x2 g) else (v_X5_numberWithSigns_b25 (v_X5_numberWithSigns_b4 n) (x1 + 1) x2 g)) else none))
    refine cr_iload_n hok dX5_numberWithSigns_4 rfl ?_
    refine cr_aload_n hok dX5_numberWithSigns_5 rfl ?_
    refine cr_gi hok dX5_numberWithSigns_6 fl_RX5_80 skC_b3 skC_c3 rfl ?_
    refine cr_icge (tgt := 31) hok rfl rfl dX5_numberWithSigns_9 (by decide) (fun _ => ?_) (fun _ => ?_)
    · refine cr_iload_n hok dX5_numberWithSigns_31 rfl ?_
      exact cr_iret hok dX5_numberWithSigns_32
    · refine cr_aload_n hok dX5_numberWithSigns_12 rfl ?_
      refine cr_gr hok dX5_numberWithSigns_13 fl_RX5_18 skC_b3 skC_c3 rfl ?_
      refine cr_iload_n hok dX5_numberWithSigns_16 rfl ?_
      refine cr_iald hok dX5_numberWithSigns_17 skC_b18 skC_c18 ?_
      refine cr_iconst hok dX5_numberWithSigns_18 ?_
      refine cr_iceq (tgt := 25) hok rfl (by decide) dX5_numberWithSigns_19 (by decide) (fun _ => ?_) (fun _ => ?_)
      · refine cr_fewer (ls' := [some (.inr 3), some (.inl x1), some (.inl x2)]) ⟨rfl, ⟨rfl, ⟨rfl, trivial⟩⟩⟩ ?_
        exact J_X5_numberWithSigns_b25 hJ hok hk4 _ _ _
      · refine cr_iinc (ls' := [some (.inr 3), some (.inl (x1 + 1)), some (.inl x2)]) hok dX5_numberWithSigns_22 rfl (by decide) rfl ?_
        refine cr_fewer (ls' := [some (.inr 3), some (.inl (x1 + 1)), some (.inl x2)]) ⟨rfl, ⟨rfl, ⟨rfl, trivial⟩⟩⟩ ?_
        exact J_X5_numberWithSigns_b25 hJ hok hk4 _ _ _
def v_X5_numberWithSigns (g : cb_S) : Option Int := v_X5_numberWithSigns_b4  cb_N 0 0 g
set_option maxRecDepth 100000 in
theorem C_X5_numberWithSigns {O : cb_O} (hJ : cb_J O skC) (g : cb_S) : ∀ q, v_X5_numberWithSigns g = some q → cb_m O skC false yX5_numberWithSigns cX5_numberWithSigns 3 (some .int) rm_X5_numberWithSigns [.inr 3] g (q, g) := by
  intro q hq
  refine cr_of_body hJ (by decide) (Nat.le_of_ble_eq_true rfl) hq (fun M hok => ?_)
  show cb_jr _ _ _ _ _ _ [some (.inr 3), none, none] _ _ (v_X5_numberWithSigns_b4  cb_N 0 0 g)
  refine cr_iconst hok dX5_numberWithSigns_0 ?_
  refine cr_istore_n (ls' := [some (.inr 3), some (.inl 0), none]) hok dX5_numberWithSigns_1 (by decide) rfl ?_
  refine cr_iconst hok dX5_numberWithSigns_2 ?_
  refine cr_istore_n (ls' := [some (.inr 3), some (.inl 0), some (.inl 0)]) hok dX5_numberWithSigns_3 (by decide) rfl ?_
  refine cr_fewer (ls' := [some (.inr 3), some (.inl 0), some (.inl 0)]) ⟨rfl, ⟨rfl, ⟨rfl, trivial⟩⟩⟩ ?_
  exact J_X5_numberWithSigns_b4 hJ hok  cb_N _ _ _
