/-! CaretBench$Pieces add(IIZ)V -/
def f_X4_add_b38 (x1 x2 : Int) (g : cb_S) : Option (Int × cb_S) := if cb_w (g 6 2) < 0 then (some (0, g)) else (if cb_w (60 : Nat) ≤ cb_w (g 6 2) then (some (0, g)) else (if 0 ≤ cb_w (g 6 2) ∧ cb_w (g 6 2) < (60 : Nat) then (if 0 ≤ cb_w (g 6 2) ∧ cb_w (g 6 2) < (60 : Nat) then (some (0, cb_u (cb_u (cb_u g 30 (cb_w (g 6 2)).toNat x1) 31 (cb_w (g 6 2)).toNat x2) 6 2 ((g 6 2) + 1))) else none) else none))
set_option maxRecDepth 100000 in
theorem J_X4_add_b38 {O : cb_O} {M : cb_M} (hJ : cb_J O skC) (hok : cb_ok O skC M cX4_add 4 RX4 none) : ∀ (x1 x2 : Int) (g : cb_S), cb_j O skC true rm_X4_add M 4 38 [some (.inr 6), some (.inl x1), some (.inl x2), none] [] g (f_X4_add_b38 x1 x2 g) := by
  intro x1 x2 g
  show cb_j _ _ _ _ _ _ _ _ _ _ (if cb_w (g 6 2) < 0 then (some (0, g)) else (if cb_w (60 : Nat) ≤ cb_w (g 6 2) then (some (0, g)) else (if 0 ≤ cb_w (g 6 2) ∧ cb_w (g 6 2) < (60 : Nat) then (if 0 ≤ cb_w (g 6 2) ∧ cb_w (g 6 2) < (60 : Nat) then (some (0, cb_u (cb_u (cb_u g 30 (cb_w (g 6 2)).toNat x1) 31 (cb_w (g 6 2)).toNat x2) 6 2 ((g 6 2) + 1))) else none) else none)))
  refine cb_aload_n hok dX4_add_38 rfl ?_
  refine cb_gi hok dX4_add_39 fl_RX4_18 skC_b6 skC_c6 rfl ?_
  refine cb_iflt (tgt := 87) hok rfl dX4_add_42 (by decide) (fun _ => ?_) (fun _ => ?_)
  · exact cb_vret hok dX4_add_87
  · refine cb_aload_n hok dX4_add_45 rfl ?_
    refine cb_gi hok dX4_add_46 fl_RX4_18 skC_b6 skC_c6 rfl ?_
    refine cb_aload_n hok dX4_add_49 rfl ?_
    refine cb_gr hok dX4_add_50 fl_RX4_9 skC_b6 skC_c6 rfl ?_
    refine cb_alen hok dX4_add_53 skC_b30 skC_c30 (Or.inl rfl) ?_
    refine cb_icge (tgt := 87) hok rfl rfl dX4_add_54 (by decide) (fun _ => ?_) (fun _ => ?_)
    · exact cb_vret hok dX4_add_87
    · refine cb_aload_n hok dX4_add_57 rfl ?_
      refine cb_gr hok dX4_add_58 fl_RX4_9 skC_b6 skC_c6 rfl ?_
      refine cb_aload_n hok dX4_add_61 rfl ?_
      refine cb_gi hok dX4_add_62 fl_RX4_18 skC_b6 skC_c6 rfl ?_
      refine cb_iload_n hok dX4_add_65 rfl ?_
      refine cb_iast hok dX4_add_66 skC_b30 skC_c30 ?_
      refine cb_aload_n hok dX4_add_67 rfl ?_
      refine cb_gr hok dX4_add_68 fl_RX4_15 skC_b6 skC_c6 rfl ?_
      refine cb_aload_n hok dX4_add_71 rfl ?_
      refine cb_gi hok dX4_add_72 fl_RX4_18 skC_b6 skC_c6 rfl ?_
      refine cb_top (y := g 6 2) rfl ?_
      refine cb_iload_n hok dX4_add_75 rfl ?_
      refine cb_iast hok dX4_add_76 skC_b31 skC_c31 ?_
      refine cb_aload_n hok dX4_add_77 rfl ?_
      refine cb_dup hok dX4_add_78 ?_
      refine cb_gi hok dX4_add_79 fl_RX4_18 skC_b6 skC_c6 rfl ?_
      refine cb_top (y := g 6 2) rfl ?_
      refine cb_iconst hok dX4_add_82 ?_
      refine cb_iadd hok dX4_add_83 ?_
      refine cb_pi hok dX4_add_84 fp_RX4_18 skC_b6 skC_c6 rfl ?_
      exact cb_vret hok dX4_add_87
def f_X4_add (g : cb_S) (x1 : Int) (x2 : Int) (x3 : Int) : Option (Int × cb_S) := if cb_w x3 = 0 then (f_X4_add_b38  x1 x2 g) else (if cb_w (g 6 2) ≤ 0 then (f_X4_add_b38  x1 x2 g) else (if cb_w (60 : Nat) < cb_w (g 6 2) then (f_X4_add_b38  x1 x2 g) else (if 0 ≤ cb_w ((g 6 2) - 1) ∧ cb_w ((g 6 2) - 1) < (60 : Nat) then (some (0, cb_u g 31 (cb_w ((g 6 2) - 1)).toNat x2)) else none)))
set_option maxRecDepth 100000 in
theorem C_X4_add {O : cb_O} (hJ : cb_J O skC) (x1 : Int) (x2 : Int) (x3 : Int) (g : cb_S) : ∀ q, f_X4_add g x1 x2 x3 = some q → cb_m O skC true yX4_add cX4_add 4 none rm_X4_add [.inr 6, .inl x1, .inl x2, .inl x3] g q := by
  intro q hq
  refine cb_of_body hJ (by decide) (Nat.le_of_ble_eq_true rfl) hq (fun M hok => ?_)
  show cb_j _ _ _ _ _ _ _ [some (.inr 6), some (.inl x1), some (.inl x2), some (.inl x3)] _ _ (if cb_w x3 = 0 then (f_X4_add_b38  x1 x2 g) else (if cb_w (g 6 2) ≤ 0 then (f_X4_add_b38  x1 x2 g) else (if cb_w (60 : Nat) < cb_w (g 6 2) then (f_X4_add_b38  x1 x2 g) else (if 0 ≤ cb_w ((g 6 2) - 1) ∧ cb_w ((g 6 2) - 1) < (60 : Nat) then (some (0, cb_u g 31 (cb_w ((g 6 2) - 1)).toNat x2)) else none))))
  refine cb_iload_n hok dX4_add_0 rfl ?_
  refine cb_ifeq (tgt := 38) hok rfl dX4_add_1 (by decide) (fun _ => ?_) (fun _ => ?_)
  · refine cb_fewer (ls' := [some (.inr 6), some (.inl x1), some (.inl x2), none]) ⟨rfl, ⟨rfl, ⟨rfl, trivial⟩⟩⟩ ?_
    exact J_X4_add_b38 hJ hok  _ _ _
  · refine cb_aload_n hok dX4_add_4 rfl ?_
    refine cb_gi hok dX4_add_5 fl_RX4_18 skC_b6 skC_c6 rfl ?_
    refine cb_ifle (tgt := 38) hok rfl dX4_add_8 (by decide) (fun _ => ?_) (fun _ => ?_)
    · refine cb_fewer (ls' := [some (.inr 6), some (.inl x1), some (.inl x2), none]) ⟨rfl, ⟨rfl, ⟨rfl, trivial⟩⟩⟩ ?_
      exact J_X4_add_b38 hJ hok  _ _ _
    · refine cb_aload_n hok dX4_add_11 rfl ?_
      refine cb_gi hok dX4_add_12 fl_RX4_18 skC_b6 skC_c6 rfl ?_
      refine cb_aload_n hok dX4_add_15 rfl ?_
      refine cb_gr hok dX4_add_16 fl_RX4_15 skC_b6 skC_c6 rfl ?_
      refine cb_alen hok dX4_add_19 skC_b31 skC_c31 (Or.inl rfl) ?_
      refine cb_icgt (tgt := 38) hok rfl rfl dX4_add_20 (by decide) (fun _ => ?_) (fun _ => ?_)
      · refine cb_fewer (ls' := [some (.inr 6), some (.inl x1), some (.inl x2), none]) ⟨rfl, ⟨rfl, ⟨rfl, trivial⟩⟩⟩ ?_
        exact J_X4_add_b38 hJ hok  _ _ _
      · refine cb_aload_n hok dX4_add_23 rfl ?_
        refine cb_gr hok dX4_add_24 fl_RX4_15 skC_b6 skC_c6 rfl ?_
        refine cb_aload_n hok dX4_add_27 rfl ?_
        refine cb_gi hok dX4_add_28 fl_RX4_18 skC_b6 skC_c6 rfl ?_
        refine cb_iconst hok dX4_add_31 ?_
        refine cb_isub hok dX4_add_32 ?_
        refine cb_iload_n hok dX4_add_33 rfl ?_
        refine cb_iast hok dX4_add_34 skC_b31 skC_c31 ?_
        refine cb_goto (tgt := 87) hok dX4_add_35 (by decide) ?_
        exact cb_vret hok dX4_add_87
/-! CaretBench$Pieces gather(LCaretBench$Clusters;LCaretBench$Sight;II)V -/
def f_X4_gather_b79 (kk11 : Int → Int → Int → Int → cb_S → Option (Int × cb_S)) (x3 x4 x6 x9 : Int) (g : cb_S) : Option (Int × cb_S) := kk11 x3 x4 x9 (x6 + 1) g
set_option maxRecDepth 100000 in
theorem J_X4_gather_b79 {O : cb_O} {M : cb_M} (hJ : cb_J O skC) (hok : cb_ok O skC M cX4_gather 10 RX4 none) {kk11 : Int → Int → Int → Int → cb_S → Option (Int × cb_S)} (hk11 : ∀ (x3 x4 x5 x6 : Int) (g : cb_S), cb_j O skC true rm_X4_gather M 10 11 [some (.inr 6), some (.inr 2), some (.inr 4), some (.inl x3), some (.inl x4), some (.inl x5), some (.inl x6), none, none, none] [] g (kk11 x3 x4 x5 x6 g)) : ∀ (x3 x4 x6 x9 : Int) (g : cb_S), cb_j O skC true rm_X4_gather M 10 79 [some (.inr 6), some (.inr 2), some (.inr 4), some (.inl x3), some (.inl x4), none, some (.inl x6), none, none, some (.inl x9)] [] g (f_X4_gather_b79 kk11 x3 x4 x6 x9 g) := by
  intro x3 x4 x6 x9 g
  show cb_j _ _ _ _ _ _ _ _ _ _ (kk11 x3 x4 x9 (x6 + 1) g)
  refine cb_iload hok dX4_gather_79 rfl ?_
  refine cb_istore (ls' := [some (.inr 6), some (.inr 2), some (.inr 4), some (.inl x3), some (.inl x4), some (.inl x9), some (.inl x6), none, none, some (.inl x9)]) hok dX4_gather_81 (by decide) rfl ?_
  refine cb_iinc (ls' := [some (.inr 6), some (.inr 2), some (.inr 4), some (.inl x3), some (.inl x4), some (.inl x9), some (.inl (x6 + 1)), none, none, some (.inl x9)]) hok dX4_gather_83 rfl (by decide) rfl ?_
  refine cb_goto (tgt := 11) hok dX4_gather_86 (by decide) ?_
  refine cb_fewer (ls' := [some (.inr 6), some (.inr 2), some (.inr 4), some (.inl x3), some (.inl x4), some (.inl x9), some (.inl (x6 + 1)), none, none, none]) ⟨rfl, ⟨rfl, ⟨rfl, ⟨rfl, ⟨rfl, ⟨rfl, ⟨rfl, trivial⟩⟩⟩⟩⟩⟩⟩ ?_
  exact hk11 _ _ _ _ _
def f_X4_gather_b54 (kk11 : Int → Int → Int → Int → cb_S → Option (Int × cb_S)) (x3 x4 x5 x6 x7 s0 : Int) (g : cb_S) : Option (Int × cb_S) := if cb_w s0 = 0 then (f_X4_gather_b79 kk11 x3 x4 x6 s0 g) else ((v_X6_leftOf g x7).bind (fun r1 => (v_X6_rightOf g x7).bind (fun r2 => cb_b (f_X4_add g r1 r2 x5) (fun r3 g3 => f_X4_gather_b79 kk11 x3 x4 x6 s0 g3))))
set_option maxRecDepth 100000 in
theorem J_X4_gather_b54 {O : cb_O} {M : cb_M} (hJ : cb_J O skC) (hok : cb_ok O skC M cX4_gather 10 RX4 none) {kk11 : Int → Int → Int → Int → cb_S → Option (Int × cb_S)} (hk11 : ∀ (x3 x4 x5 x6 : Int) (g : cb_S), cb_j O skC true rm_X4_gather M 10 11 [some (.inr 6), some (.inr 2), some (.inr 4), some (.inl x3), some (.inl x4), some (.inl x5), some (.inl x6), none, none, none] [] g (kk11 x3 x4 x5 x6 g)) : ∀ (x3 x4 x5 x6 x7 s0 : Int) (g : cb_S), cb_j O skC true rm_X4_gather M 10 54 [some (.inr 6), some (.inr 2), some (.inr 4), some (.inl x3), some (.inl x4), some (.inl x5), some (.inl x6), some (.inl x7), none, none] [.inl s0] g (f_X4_gather_b54 kk11 x3 x4 x5 x6 x7 s0 g) := by
  intro x3 x4 x5 x6 x7 s0 g
  show cb_j _ _ _ _ _ _ _ _ _ _ (if cb_w s0 = 0 then (f_X4_gather_b79 kk11 x3 x4 x6 s0 g) else ((v_X6_leftOf g x7).bind (fun r1 => (v_X6_rightOf g x7).bind (fun r2 => cb_b (f_X4_add g r1 r2 x5) (fun r3 g3 => f_X4_gather_b79 kk11 x3 x4 x6 s0 g3)))))
  refine cb_istore (ls' := [some (.inr 6), some (.inr 2), some (.inr 4), some (.inl x3), some (.inl x4), some (.inl x5), some (.inl x6), some (.inl x7), none, some (.inl s0)]) hok dX4_gather_54 (by decide) rfl ?_
  refine cb_iload hok dX4_gather_56 rfl ?_
  refine cb_ifeq (tgt := 79) hok rfl dX4_gather_58 (by decide) (fun _ => ?_) (fun _ => ?_)
  · refine cb_fewer (ls' := [some (.inr 6), some (.inr 2), some (.inr 4), some (.inl x3), some (.inl x4), none, some (.inl x6), none, none, some (.inl s0)]) ⟨rfl, ⟨rfl, ⟨rfl, ⟨rfl, ⟨rfl, ⟨rfl, ⟨rfl, trivial⟩⟩⟩⟩⟩⟩⟩ ?_
    exact J_X4_gather_b79 hJ hok hk11 _ _ _ _ _
  · refine cb_aload_n hok dX4_gather_61 rfl ?_
    refine cb_aload_n hok dX4_gather_62 rfl ?_
    refine cb_iload hok dX4_gather_63 rfl ?_
    refine cb_cvr (as := [.inl x7]) (rest := [.inr 6]) hok lk_RX4_36 (by decide) (by decide) dX4_gather_65 (fun q1 hq1 => C_X6_leftOf hJ _ _ q1 hq1) rfl rfl (Nat.le_of_ble_eq_true rfl) skC_b4 skC_c4 rfl (fun r1 => ?_)
    refine cb_aload_n hok dX4_gather_68 rfl ?_
    refine cb_iload hok dX4_gather_69 rfl ?_
    refine cb_cvr (as := [.inl x7]) (rest := [.inl r1, .inr 6]) hok lk_RX4_39 (by decide) (by decide) dX4_gather_71 (fun q1 hq1 => C_X6_rightOf hJ _ _ q1 hq1) rfl rfl (Nat.le_of_ble_eq_true rfl) skC_b4 skC_c4 rfl (fun r2 => ?_)
    refine cb_iload hok dX4_gather_74 rfl ?_
    refine cb_cvv (as := [.inl r1, .inl r2, .inl x5]) (rest := []) hok lk_RX4_42 (by decide) (by decide) dX4_gather_76 (fun q1 hq1 => C_X4_add hJ _ _ _ _ q1 hq1) rfl rfl (Nat.le_of_ble_eq_true rfl) skC_b6 skC_c6 rfl (fun r3 g3 => ?_)
    refine cb_fewer (ls' := [some (.inr 6), some (.inr 2), some (.inr 4), some (.inl x3), some (.inl x4), none, some (.inl x6), none, none, some (.inl s0)]) ⟨rfl, ⟨rfl, ⟨rfl, ⟨rfl, ⟨rfl, ⟨rfl, ⟨rfl, trivial⟩⟩⟩⟩⟩⟩⟩ ?_
    exact J_X4_gather_b79 hJ hok hk11 _ _ _ _ _
def f_X4_gather_b53 (kk11 : Int → Int → Int → Int → cb_S → Option (Int × cb_S)) (x3 x4 x5 x6 x7 : Int) (g : cb_S) : Option (Int × cb_S) := f_X4_gather_b54 kk11 x3 x4 x5 x6 x7 0 g
set_option maxRecDepth 100000 in
theorem J_X4_gather_b53 {O : cb_O} {M : cb_M} (hJ : cb_J O skC) (hok : cb_ok O skC M cX4_gather 10 RX4 none) {kk11 : Int → Int → Int → Int → cb_S → Option (Int × cb_S)} (hk11 : ∀ (x3 x4 x5 x6 : Int) (g : cb_S), cb_j O skC true rm_X4_gather M 10 11 [some (.inr 6), some (.inr 2), some (.inr 4), some (.inl x3), some (.inl x4), some (.inl x5), some (.inl x6), none, none, none] [] g (kk11 x3 x4 x5 x6 g)) : ∀ (x3 x4 x5 x6 x7 : Int) (g : cb_S), cb_j O skC true rm_X4_gather M 10 53 [some (.inr 6), some (.inr 2), some (.inr 4), some (.inl x3), some (.inl x4), some (.inl x5), some (.inl x6), some (.inl x7), none, none] [] g (f_X4_gather_b53 kk11 x3 x4 x5 x6 x7 g) := by
  intro x3 x4 x5 x6 x7 g
  show cb_j _ _ _ _ _ _ _ _ _ _ (f_X4_gather_b54 kk11 x3 x4 x5 x6 x7 0 g)
  refine cb_iconst hok dX4_gather_53 ?_
  refine cb_fewer (ls' := [some (.inr 6), some (.inr 2), some (.inr 4), some (.inl x3), some (.inl x4), some (.inl x5), some (.inl x6), some (.inl x7), none, none]) ⟨rfl, ⟨rfl, ⟨rfl, ⟨rfl, ⟨rfl, ⟨rfl, ⟨rfl, ⟨rfl, trivial⟩⟩⟩⟩⟩⟩⟩⟩ ?_
  exact J_X4_gather_b54 hJ hok hk11 _ _ _ _ _ _ _
def f_X4_gather_b11 : Nat → Int → Int → Int → Int → cb_S → Option (Int × cb_S)
  | 0 => fun _ _ _ _ _ => none
  | n + 1 => fun x3 x4 x5 x6 g => (v_X1_number g ).bind (fun r1 => if cb_w r1 ≤ cb_w x6 then (some (0, g)) else ((v_X6_clusterAtPlace g x6).bind (fun r2 => (v_X1_firstOf g r2).bind (fun r3 => if cb_w r3 < cb_w x3 then (f_X4_gather_b53 (f_X4_gather_b11 n) x3 x4 x5 x6 r2 g) else (if cb_w x4 ≤ cb_w r3 then (f_X4_gather_b53 (f_X4_gather_b11 n) x3 x4 x5 x6 r2 g) else (f_X4_gather_b54 (f_X4_gather_b11 n) x3 x4 x5 x6 r2 1 g))))))
set_option maxRecDepth 100000 in
theorem J_X4_gather_b11 {O : cb_O} {M : cb_M} (hJ : cb_J O skC) (hok : cb_ok O skC M cX4_gather 10 RX4 none) : ∀ (n : Nat) (x3 x4 x5 x6 : Int) (g : cb_S), cb_j O skC true rm_X4_gather M 10 11 [some (.inr 6), some (.inr 2), some (.inr 4), some (.inl x3), some (.inl x4), some (.inl x5), some (.inl x6), none, none, none] [] g (f_X4_gather_b11 n x3 x4 x5 x6 g) := by
  intro n
  induction n with
  | zero => intros; exact cb_none
  | succ n hk11 =>
    intro x3 x4 x5 x6 g
    show cb_j _ _ _ _ _ _ _ _ _ _ ((v_X1_number g ).bind (fun r1 => if cb_w r1 ≤ cb_w x6 then (some (0, g)) else ((v_X6_clusterAtPlace g x6).bind (fun r2 => (v_X1_firstOf g r2).bind (fun r3 => if cb_w r3 < cb_w x3 then (f_X4_gather_b53 (f_X4_gather_b11 n) x3 x4 x5 x6 r2 g) else (if cb_w x4 ≤ cb_w r3 then (f_X4_gather_b53 (f_X4_gather_b11 n) x3 x4 x5 x6 r2 g) else (f_X4_gather_b54 (f_X4_gather_b11 n) x3 x4 x5 x6 r2 1 g)))))))
    refine cb_iload hok dX4_gather_11 rfl ?_
    refine cb_aload_n hok dX4_gather_13 rfl ?_
    refine cb_cvr (as := []) (rest := [.inl x6]) hok lk_RX4_22 (by decide) (by decide) dX4_gather_14 (fun q1 hq1 => C_X1_number hJ _ q1 hq1) rfl rfl (Nat.le_of_ble_eq_true rfl) skC_b2 skC_c2 rfl (fun r1 => ?_)
    refine cb_icge (tgt := 89) hok rfl rfl dX4_gather_17 (by decide) (fun _ => ?_) (fun _ => ?_)
    · exact cb_vret hok dX4_gather_89
    · refine cb_aload_n hok dX4_gather_20 rfl ?_
      refine cb_iload hok dX4_gather_21 rfl ?_
      refine cb_cvr (as := [.inl x6]) (rest := []) hok lk_RX4_27 (by decide) (by decide) dX4_gather_23 (fun q1 hq1 => C_X6_clusterAtPlace hJ _ _ q1 hq1) rfl rfl (Nat.le_of_ble_eq_true rfl) skC_b4 skC_c4 rfl (fun r2 => ?_)
      refine cb_istore (ls' := [some (.inr 6), some (.inr 2), some (.inr 4), some (.inl x3), some (.inl x4), some (.inl x5), some (.inl x6), some (.inl r2), none, none]) hok dX4_gather_26 (by decide) rfl ?_
      refine cb_aload_n hok dX4_gather_28 rfl ?_
      refine cb_iload hok dX4_gather_29 rfl ?_
      refine cb_cvr (as := [.inl r2]) (rest := []) hok lk_RX4_33 (by decide) (by decide) dX4_gather_31 (fun q1 hq1 => C_X1_firstOf hJ _ _ q1 hq1) rfl rfl (Nat.le_of_ble_eq_true rfl) skC_b2 skC_c2 rfl (fun r3 => ?_)
      refine cb_istore (ls' := [some (.inr 6), some (.inr 2), some (.inr 4), some (.inl x3), some (.inl x4), some (.inl x5), some (.inl x6), some (.inl r2), some (.inl r3), none]) hok dX4_gather_34 (by decide) rfl ?_
      refine cb_iload hok dX4_gather_36 rfl ?_
      refine cb_iload_n hok dX4_gather_38 rfl ?_
      refine cb_iclt (tgt := 53) hok rfl rfl dX4_gather_39 (by decide) (fun _ => ?_) (fun _ => ?_)
      · refine cb_fewer (ls' := [some (.inr 6), some (.inr 2), some (.inr 4), some (.inl x3), some (.inl x4), some (.inl x5), some (.inl x6), some (.inl r2), none, none]) ⟨rfl, ⟨rfl, ⟨rfl, ⟨rfl, ⟨rfl, ⟨rfl, ⟨rfl, ⟨rfl, trivial⟩⟩⟩⟩⟩⟩⟩⟩ ?_
        exact J_X4_gather_b53 hJ hok hk11 _ _ _ _ _ _
      · refine cb_iload hok dX4_gather_42 rfl ?_
        refine cb_iload hok dX4_gather_44 rfl ?_
        refine cb_icge (tgt := 53) hok rfl rfl dX4_gather_46 (by decide) (fun _ => ?_) (fun _ => ?_)
        · refine cb_fewer (ls' := [some (.inr 6), some (.inr 2), some (.inr 4), some (.inl x3), some (.inl x4), some (.inl x5), some (.inl x6), some (.inl r2), none, none]) ⟨rfl, ⟨rfl, ⟨rfl, ⟨rfl, ⟨rfl, ⟨rfl, ⟨rfl, ⟨rfl, trivial⟩⟩⟩⟩⟩⟩⟩⟩ ?_
          exact J_X4_gather_b53 hJ hok hk11 _ _ _ _ _ _
        · refine cb_iconst hok dX4_gather_49 ?_
          refine cb_goto (tgt := 54) hok dX4_gather_50 (by decide) ?_
          refine cb_fewer (ls' := [some (.inr 6), some (.inr 2), some (.inr 4), some (.inl x3), some (.inl x4), some (.inl x5), some (.inl x6), some (.inl r2), none, none]) ⟨rfl, ⟨rfl, ⟨rfl, ⟨rfl, ⟨rfl, ⟨rfl, ⟨rfl, ⟨rfl, trivial⟩⟩⟩⟩⟩⟩⟩⟩ ?_
          exact J_X4_gather_b54 hJ hok hk11 _ _ _ _ _ _ _
def f_X4_gather (g : cb_S) (x3 : Int) (x4 : Int) : Option (Int × cb_S) := f_X4_gather_b11  cb_N x3 x4 0 0 (cb_u g 6 2 0)
set_option maxRecDepth 100000 in
theorem C_X4_gather {O : cb_O} (hJ : cb_J O skC) (x3 : Int) (x4 : Int) (g : cb_S) : ∀ q, f_X4_gather g x3 x4 = some q → cb_m O skC true yX4_gather cX4_gather 10 none rm_X4_gather [.inr 6, .inr 2, .inr 4, .inl x3, .inl x4] g q := by
  intro q hq
  refine cb_of_body hJ (by decide) (Nat.le_of_ble_eq_true rfl) hq (fun M hok => ?_)
  show cb_j _ _ _ _ _ _ _ [some (.inr 6), some (.inr 2), some (.inr 4), some (.inl x3), some (.inl x4), none, none, none, none, none] _ _ (f_X4_gather_b11  cb_N x3 x4 0 0 (cb_u g 6 2 0))
  refine cb_aload_n hok dX4_gather_0 rfl ?_
  refine cb_iconst hok dX4_gather_1 ?_
  refine cb_pi hok dX4_gather_2 fp_RX4_18 skC_b6 skC_c6 rfl ?_
  refine cb_iconst hok dX4_gather_5 ?_
  refine cb_istore (ls' := [some (.inr 6), some (.inr 2), some (.inr 4), some (.inl x3), some (.inl x4), some (.inl 0), none, none, none, none]) hok dX4_gather_6 (by decide) rfl ?_
  refine cb_iconst hok dX4_gather_8 ?_
  refine cb_istore (ls' := [some (.inr 6), some (.inr 2), some (.inr 4), some (.inl x3), some (.inl x4), some (.inl 0), some (.inl 0), none, none, none]) hok dX4_gather_9 (by decide) rfl ?_
  refine cb_fewer (ls' := [some (.inr 6), some (.inr 2), some (.inr 4), some (.inl x3), some (.inl x4), some (.inl 0), some (.inl 0), none, none, none]) ⟨rfl, ⟨rfl, ⟨rfl, ⟨rfl, ⟨rfl, ⟨rfl, ⟨rfl, trivial⟩⟩⟩⟩⟩⟩⟩ ?_
  exact J_X4_gather_b11 hJ hok  cb_N _ _ _ _ _
/-! CaretBench$Pieces number()I -/
def v_X4_number (g : cb_S) : Option Int := some (g 6 2)
set_option maxRecDepth 100000 in
theorem C_X4_number {O : cb_O} (hJ : cb_J O skC) (g : cb_S) : ∀ q, v_X4_number g = some q → cb_m O skC false yX4_number cX4_number 1 (some .int) rm_X4_number [.inr 6] g (q, g) := by
  intro q hq
  refine cr_of_body hJ (by decide) (Nat.le_of_ble_eq_true rfl) hq (fun M hok => ?_)
  show cb_jr _ _ _ _ _ _ [some (.inr 6)] _ _ (some (g 6 2))
  refine cr_aload_n hok dX4_number_0 rfl ?_
  refine cr_gi hok dX4_number_1 fl_RX4_18 skC_b6 skC_c6 rfl ?_
  exact cr_iret hok dX4_number_4
/-! CaretBench$Pieces leftOf(I)I -/
def v_X4_leftOf (g : cb_S) (x1 : Int) : Option Int := if cb_w (g 6 2) ≤ cb_w x1 then (some (-1)) else ((v_X8_valueAt g 30 60 x1 (-1)).bind (fun r1 => some r1))
set_option maxRecDepth 100000 in
theorem C_X4_leftOf {O : cb_O} (hJ : cb_J O skC) (x1 : Int) (g : cb_S) : ∀ q, v_X4_leftOf g x1 = some q → cb_m O skC false yX4_leftOf cX4_leftOf 2 (some .int) rm_X4_leftOf [.inr 6, .inl x1] g (q, g) := by
  intro q hq
  refine cr_of_body hJ (by decide) (Nat.le_of_ble_eq_true rfl) hq (fun M hok => ?_)
  show cb_jr _ _ _ _ _ _ [some (.inr 6), some (.inl x1)] _ _ (if cb_w (g 6 2) ≤ cb_w x1 then (some (-1)) else ((v_X8_valueAt g 30 60 x1 (-1)).bind (fun r1 => some r1)))
  refine cr_iload_n hok dX4_leftOf_0 rfl ?_
  refine cr_aload_n hok dX4_leftOf_1 rfl ?_
  refine cr_gi hok dX4_leftOf_2 fl_RX4_18 skC_b6 skC_c6 rfl ?_
  refine cr_icge (tgt := 20) hok rfl rfl dX4_leftOf_5 (by decide) (fun _ => ?_) (fun _ => ?_)
  · refine cr_iconst hok dX4_leftOf_20 ?_
    exact cr_iret hok dX4_leftOf_21
  · refine cr_aload_n hok dX4_leftOf_8 rfl ?_
    refine cr_gr hok dX4_leftOf_9 fl_RX4_9 skC_b6 skC_c6 rfl ?_
    refine cr_iload_n hok dX4_leftOf_12 rfl ?_
    refine cr_iconst hok dX4_leftOf_13 ?_
    refine cr_cnr (as := [.inr 30, .inl x1, .inl (-1)]) (rest := []) hok lk_RX4_46 (by decide) (by decide) dX4_leftOf_14 (fun q1 hq1 => C_X8_valueAt hJ 30 60 skC_b30 skC_c30 _ _ _ q1 hq1) rfl rfl (Nat.le_of_ble_eq_true rfl) (fun r1 => ?_)
    refine cr_goto (tgt := 21) hok dX4_leftOf_17 (by decide) ?_
    exact cr_iret hok dX4_leftOf_21
/-! CaretBench$Pieces rightOf(I)I -/
def v_X4_rightOf (g : cb_S) (x1 : Int) : Option Int := if cb_w (g 6 2) ≤ cb_w x1 then (some (-1)) else ((v_X8_valueAt g 31 60 x1 (-1)).bind (fun r1 => some r1))
set_option maxRecDepth 100000 in
theorem C_X4_rightOf {O : cb_O} (hJ : cb_J O skC) (x1 : Int) (g : cb_S) : ∀ q, v_X4_rightOf g x1 = some q → cb_m O skC false yX4_rightOf cX4_rightOf 2 (some .int) rm_X4_rightOf [.inr 6, .inl x1] g (q, g) := by
  intro q hq
  refine cr_of_body hJ (by decide) (Nat.le_of_ble_eq_true rfl) hq (fun M hok => ?_)
  show cb_jr _ _ _ _ _ _ [some (.inr 6), some (.inl x1)] _ _ (if cb_w (g 6 2) ≤ cb_w x1 then (some (-1)) else ((v_X8_valueAt g 31 60 x1 (-1)).bind (fun r1 => some r1)))
  refine cr_iload_n hok dX4_rightOf_0 rfl ?_
  refine cr_aload_n hok dX4_rightOf_1 rfl ?_
  refine cr_gi hok dX4_rightOf_2 fl_RX4_18 skC_b6 skC_c6 rfl ?_
  refine cr_icge (tgt := 20) hok rfl rfl dX4_rightOf_5 (by decide) (fun _ => ?_) (fun _ => ?_)
  · refine cr_iconst hok dX4_rightOf_20 ?_
    exact cr_iret hok dX4_rightOf_21
  · refine cr_aload_n hok dX4_rightOf_8 rfl ?_
    refine cr_gr hok dX4_rightOf_9 fl_RX4_15 skC_b6 skC_c6 rfl ?_
    refine cr_iload_n hok dX4_rightOf_12 rfl ?_
    refine cr_iconst hok dX4_rightOf_13 ?_
    refine cr_cnr (as := [.inr 31, .inl x1, .inl (-1)]) (rest := []) hok lk_RX4_46 (by decide) (by decide) dX4_rightOf_14 (fun q1 hq1 => C_X8_valueAt hJ 31 60 skC_b31 skC_c31 _ _ _ q1 hq1) rfl rfl (Nat.le_of_ble_eq_true rfl) (fun r1 => ?_)
    refine cr_goto (tgt := 21) hok dX4_rightOf_17 (by decide) ?_
    exact cr_iret hok dX4_rightOf_21
/-! CaretBench$Rows make(II)I -/
def f_X5_make (g : cb_S) (x1 : Int) (x2 : Int) : Option (Int × cb_S) := if cb_w (g 3 11) < cb_w (61 : Nat) then (if 0 ≤ cb_w (g 3 11) ∧ cb_w (g 3 11) < (61 : Nat) then (if 0 ≤ cb_w (g 3 11) ∧ cb_w (g 3 11) < (61 : Nat) then (if 0 ≤ cb_w (g 3 11) ∧ cb_w (g 3 11) < (61 : Nat) then (some (((g 3 11) + 1) - 1, cb_u (cb_u (cb_u (cb_u g 16 (cb_w (g 3 11)).toNat x1) 17 (cb_w (g 3 11)).toNat x2) 18 (cb_w (g 3 11)).toNat (-1)) 3 11 ((g 3 11) + 1))) else none) else none) else none) else (some (x2, g))
set_option maxRecDepth 100000 in
theorem C_X5_make {O : cb_O} (hJ : cb_J O skC) (x1 : Int) (x2 : Int) (g : cb_S) : ∀ q, f_X5_make g x1 x2 = some q → cb_m O skC false yX5_make cX5_make 3 (some .int) rm_X5_make [.inr 3, .inl x1, .inl x2] g q := by
  intro q hq
  refine cb_of_body hJ (by decide) (Nat.le_of_ble_eq_true rfl) hq (fun M hok => ?_)
  show cb_j _ _ _ _ _ _ _ [some (.inr 3), some (.inl x1), some (.inl x2)] _ _ (if cb_w (g 3 11) < cb_w (61 : Nat) then (if 0 ≤ cb_w (g 3 11) ∧ cb_w (g 3 11) < (61 : Nat) then (if 0 ≤ cb_w (g 3 11) ∧ cb_w (g 3 11) < (61 : Nat) then (if 0 ≤ cb_w (g 3 11) ∧ cb_w (g 3 11) < (61 : Nat) then (some (((g 3 11) + 1) - 1, cb_u (cb_u (cb_u (cb_u g 16 (cb_w (g 3 11)).toNat x1) 17 (cb_w (g 3 11)).toNat x2) 18 (cb_w (g 3 11)).toNat (-1)) 3 11 ((g 3 11) + 1))) else none) else none) else none) else (some (x2, g)))
  refine cb_aload_n hok dX5_make_0 rfl ?_
  refine cb_gi hok dX5_make_1 fl_RX5_80 skC_b3 skC_c3 rfl ?_
  refine cb_aload_n hok dX5_make_4 rfl ?_
  refine cb_gr hok dX5_make_5 fl_RX5_9 skC_b3 skC_c3 rfl ?_
  refine cb_alen hok dX5_make_8 skC_b16 skC_c16 (Or.inl rfl) ?_
  refine cb_iclt (tgt := 14) hok rfl rfl dX5_make_9 (by decide) (fun _ => ?_) (fun _ => ?_)
  · refine cb_aload_n hok dX5_make_14 rfl ?_
    refine cb_gr hok dX5_make_15 fl_RX5_9 skC_b3 skC_c3 rfl ?_
    refine cb_aload_n hok dX5_make_18 rfl ?_
    refine cb_gi hok dX5_make_19 fl_RX5_80 skC_b3 skC_c3 rfl ?_
    refine cb_iload_n hok dX5_make_22 rfl ?_
    refine cb_iast hok dX5_make_23 skC_b16 skC_c16 ?_
    refine cb_aload_n hok dX5_make_24 rfl ?_
    refine cb_gr hok dX5_make_25 fl_RX5_15 skC_b3 skC_c3 rfl ?_
    refine cb_aload_n hok dX5_make_28 rfl ?_
    refine cb_gi hok dX5_make_29 fl_RX5_80 skC_b3 skC_c3 rfl ?_
    refine cb_top (y := g 3 11) rfl ?_
    refine cb_iload_n hok dX5_make_32 rfl ?_
    refine cb_iast hok dX5_make_33 skC_b17 skC_c17 ?_
    refine cb_aload_n hok dX5_make_34 rfl ?_
    refine cb_gr hok dX5_make_35 fl_RX5_18 skC_b3 skC_c3 rfl ?_
    refine cb_aload_n hok dX5_make_38 rfl ?_
    refine cb_gi hok dX5_make_39 fl_RX5_80 skC_b3 skC_c3 rfl ?_
    refine cb_top (y := g 3 11) rfl ?_
    refine cb_iconst hok dX5_make_42 ?_
    refine cb_iast hok dX5_make_43 skC_b18 skC_c18 ?_
    refine cb_aload_n hok dX5_make_44 rfl ?_
    refine cb_dup hok dX5_make_45 ?_
    refine cb_gi hok dX5_make_46 fl_RX5_80 skC_b3 skC_c3 rfl ?_
    refine cb_top (y := g 3 11) rfl ?_
    refine cb_iconst hok dX5_make_49 ?_
    refine cb_iadd hok dX5_make_50 ?_
    refine cb_pi hok dX5_make_51 fp_RX5_80 skC_b3 skC_c3 rfl ?_
    refine cb_aload_n hok dX5_make_54 rfl ?_
    refine cb_gi hok dX5_make_55 fl_RX5_80 skC_b3 skC_c3 rfl ?_
    refine cb_top (y := (g 3 11) + 1) rfl ?_
    refine cb_iconst hok dX5_make_58 ?_
    refine cb_isub hok dX5_make_59 ?_
    exact cb_iret hok dX5_make_60
  · refine cb_iload_n hok dX5_make_12 rfl ?_
    exact cb_iret hok dX5_make_13
/-! CaretBench$Rows append(II)V -/
def f_X5_append_b71 (x1 x2 : Int) (g : cb_S) : Option (Int × cb_S) := if cb_w x2 < 0 then (some (0, g)) else (if cb_w (61 : Nat) ≤ cb_w x2 then (some (0, g)) else (if 0 ≤ cb_w x2 ∧ cb_w x2 < (61 : Nat) then (some (0, cb_u g 18 (cb_w x2).toNat x1)) else none))
set_option maxRecDepth 100000 in
theorem J_X5_append_b71 {O : cb_O} {M : cb_M} (hJ : cb_J O skC) (hok : cb_ok O skC M cX5_append 3 RX5 none) : ∀ (x1 x2 : Int) (g : cb_S), cb_j O skC true rm_X5_append M 3 71 [some (.inr 3), some (.inl x1), some (.inl x2)] [] g (f_X5_append_b71 x1 x2 g) := by
  intro x1 x2 g
  show cb_j _ _ _ _ _ _ _ _ _ _ (if cb_w x2 < 0 then (some (0, g)) else (if cb_w (61 : Nat) ≤ cb_w x2 then (some (0, g)) else (if 0 ≤ cb_w x2 ∧ cb_w x2 < (61 : Nat) then (some (0, cb_u g 18 (cb_w x2).toNat x1)) else none)))
  refine cb_iload_n hok dX5_append_71 rfl ?_
  refine cb_iflt (tgt := 91) hok rfl dX5_append_72 (by decide) (fun _ => ?_) (fun _ => ?_)
  · exact cb_vret hok dX5_append_91
  · refine cb_iload_n hok dX5_append_75 rfl ?_
    refine cb_aload_n hok dX5_append_76 rfl ?_
    refine cb_gr hok dX5_append_77 fl_RX5_18 skC_b3 skC_c3 rfl ?_
    refine cb_alen hok dX5_append_80 skC_b18 skC_c18 (Or.inl rfl) ?_
    refine cb_icge (tgt := 91) hok rfl rfl dX5_append_81 (by decide) (fun _ => ?_) (fun _ => ?_)
    · exact cb_vret hok dX5_append_91
    · refine cb_aload_n hok dX5_append_84 rfl ?_
      refine cb_gr hok dX5_append_85 fl_RX5_18 skC_b3 skC_c3 rfl ?_
      refine cb_iload_n hok dX5_append_88 rfl ?_
      refine cb_iload_n hok dX5_append_89 rfl ?_
      refine cb_iast hok dX5_append_90 skC_b18 skC_c18 ?_
      exact cb_vret hok dX5_append_91
def f_X5_append (g : cb_S) (x1 : Int) (x2 : Int) : Option (Int × cb_S) := (v_X8_valueAt g 16 61 x2 (g 3 12)).bind (fun r1 => if 0 ≤ cb_w x1 ∧ cb_w x1 < (60 : Nat) then ((v_X8_valueAt (cb_u g 19 (cb_w x1).toNat r1) 18 61 x2 (-1)).bind (fun r2 => if 0 ≤ cb_w x1 ∧ cb_w x1 < (60 : Nat) then (if 0 ≤ cb_w x1 ∧ cb_w x1 < (60 : Nat) then (if 0 ≤ cb_w x1 ∧ cb_w x1 < (60 : Nat) then (if cb_w r2 < 0 then (f_X5_append_b71  x1 x2 (cb_u (cb_u (cb_u g 19 (cb_w x1).toNat r1) 20 (cb_w x1).toNat r2) 21 (cb_w x1).toNat (-1))) else (if 0 ≤ cb_w x1 ∧ cb_w x1 < (60 : Nat) then (if cb_w x1 ≤ cb_w r2 then (f_X5_append_b71  x1 x2 (cb_u (cb_u (cb_u g 19 (cb_w x1).toNat r1) 20 (cb_w x1).toNat r2) 21 (cb_w x1).toNat (-1))) else (if 0 ≤ cb_w x1 ∧ cb_w x1 < (60 : Nat) then (if 0 ≤ cb_w r2 ∧ cb_w r2 < (60 : Nat) then (f_X5_append_b71  x1 x2 (cb_u (cb_u (cb_u (cb_u g 19 (cb_w x1).toNat r1) 20 (cb_w x1).toNat r2) 21 (cb_w x1).toNat (-1)) 21 (cb_w r2).toNat x1)) else none) else none)) else none)) else none) else none) else none)) else none)
set_option maxRecDepth 100000 in
theorem C_X5_append {O : cb_O} (hJ : cb_J O skC) (x1 : Int) (x2 : Int) (g : cb_S) : ∀ q, f_X5_append g x1 x2 = some q → cb_m O skC true yX5_append cX5_append 3 none rm_X5_append [.inr 3, .inl x1, .inl x2] g q := by
  intro q hq
  refine cb_of_body hJ (by decide) (Nat.le_of_ble_eq_true rfl) hq (fun M hok => ?_)
  show cb_j _ _ _ _ _ _ _ [some (.inr 3), some (.inl x1), some (.inl x2)] _ _ ((v_X8_valueAt g 16 61 x2 (g 3 12)).bind (fun r1 => if 0 ≤ cb_w x1 ∧ cb_w x1 < (60 : Nat) then ((v_X8_valueAt (cb_u g 19 (cb_w x1).toNat r1) 18 61 x2 (-1)).bind (fun r2 => if 0 ≤ cb_w x1 ∧ cb_w x1 < (60 : Nat) then (if 0 ≤ cb_w x1 ∧ cb_w x1 < (60 : Nat) then (if 0 ≤ cb_w x1 ∧ cb_w x1 < (60 : Nat) then (if cb_w r2 < 0 then (f_X5_append_b71  x1 x2 (cb_u (cb_u (cb_u g 19 (cb_w x1).toNat r1) 20 (cb_w x1).toNat r2) 21 (cb_w x1).toNat (-1))) else (if 0 ≤ cb_w x1 ∧ cb_w x1 < (60 : Nat) then (if cb_w x1 ≤ cb_w r2 then (f_X5_append_b71  x1 x2 (cb_u (cb_u (cb_u g 19 (cb_w x1).toNat r1) 20 (cb_w x1).toNat r2) 21 (cb_w x1).toNat (-1))) else (if 0 ≤ cb_w x1 ∧ cb_w x1 < (60 : Nat) then (if 0 ≤ cb_w r2 ∧ cb_w r2 < (60 : Nat) then (f_X5_append_b71  x1 x2 (cb_u (cb_u (cb_u (cb_u g 19 (cb_w x1).toNat r1) 20 (cb_w x1).toNat r2) 21 (cb_w x1).toNat (-1)) 21 (cb_w r2).toNat x1)) else none) else none)) else none)) else none) else none) else none)) else none))
  refine cb_aload_n hok dX5_append_0 rfl ?_
  refine cb_gr hok dX5_append_1 fl_RX5_21 skC_b3 skC_c3 rfl ?_
  refine cb_iload_n hok dX5_append_4 rfl ?_
  refine cb_aload_n hok dX5_append_5 rfl ?_
  refine cb_gr hok dX5_append_6 fl_RX5_9 skC_b3 skC_c3 rfl ?_
  refine cb_iload_n hok dX5_append_9 rfl ?_
  refine cb_aload_n hok dX5_append_10 rfl ?_
  refine cb_gi hok dX5_append_11 fl_RX5_54 skC_b3 skC_c3 rfl ?_
  refine cb_cnr (as := [.inr 16, .inl x2, .inl (g 3 12)]) (rest := [.inl x1, .inr 19]) hok lk_RX5_91 (by decide) (by decide) dX5_append_14 (fun q1 hq1 => C_X8_valueAt hJ 16 61 skC_b16 skC_c16 _ _ _ q1 hq1) rfl rfl (Nat.le_of_ble_eq_true rfl) (fun r1 => ?_)
  refine cb_iast hok dX5_append_17 skC_b19 skC_c19 ?_
  refine cb_aload_n hok dX5_append_18 rfl ?_
  refine cb_gr hok dX5_append_19 fl_RX5_24 skC_b3 skC_c3 rfl ?_
  refine cb_iload_n hok dX5_append_22 rfl ?_
  refine cb_aload_n hok dX5_append_23 rfl ?_
  refine cb_gr hok dX5_append_24 fl_RX5_18 skC_b3 skC_c3 rfl ?_
  refine cb_iload_n hok dX5_append_27 rfl ?_
  refine cb_iconst hok dX5_append_28 ?_
  refine cb_cnr (as := [.inr 18, .inl x2, .inl (-1)]) (rest := [.inl x1, .inr 20]) hok lk_RX5_91 (by decide) (by decide) dX5_append_29 (fun q1 hq1 => C_X8_valueAt hJ 18 61 skC_b18 skC_c18 _ _ _ q1 hq1) rfl rfl (Nat.le_of_ble_eq_true rfl) (fun r2 => ?_)
  refine cb_iast hok dX5_append_32 skC_b20 skC_c20 ?_
  refine cb_aload_n hok dX5_append_33 rfl ?_
  refine cb_gr hok dX5_append_34 fl_RX5_27 skC_b3 skC_c3 rfl ?_
  refine cb_iload_n hok dX5_append_37 rfl ?_
  refine cb_iconst hok dX5_append_38 ?_
  refine cb_iast hok dX5_append_39 skC_b21 skC_c21 ?_
  refine cb_aload_n hok dX5_append_40 rfl ?_
  refine cb_gr hok dX5_append_41 fl_RX5_24 skC_b3 skC_c3 rfl ?_
  refine cb_iload_n hok dX5_append_44 rfl ?_
  refine cb_iald hok dX5_append_45 skC_b20 skC_c20 ?_
  refine cb_top (y := r2) (by first | rfl | (simp [cb_u])) ?_
  refine cb_iflt (tgt := 71) hok rfl dX5_append_46 (by decide) (fun _ => ?_) (fun _ => ?_)
  · refine cb_fewer (ls' := [some (.inr 3), some (.inl x1), some (.inl x2)]) ⟨rfl, ⟨rfl, ⟨rfl, trivial⟩⟩⟩ ?_
    exact J_X5_append_b71 hJ hok  _ _ _
  · refine cb_aload_n hok dX5_append_49 rfl ?_
    refine cb_gr hok dX5_append_50 fl_RX5_24 skC_b3 skC_c3 rfl ?_
    refine cb_iload_n hok dX5_append_53 rfl ?_
    refine cb_iald hok dX5_append_54 skC_b20 skC_c20 ?_
    refine cb_top (y := r2) (by first | rfl | (simp [cb_u])) ?_
    refine cb_iload_n hok dX5_append_55 rfl ?_
    refine cb_icge (tgt := 71) hok rfl rfl dX5_append_56 (by decide) (fun _ => ?_) (fun _ => ?_)
    · refine cb_fewer (ls' := [some (.inr 3), some (.inl x1), some (.inl x2)]) ⟨rfl, ⟨rfl, ⟨rfl, trivial⟩⟩⟩ ?_
      exact J_X5_append_b71 hJ hok  _ _ _
    · refine cb_aload_n hok dX5_append_59 rfl ?_
      refine cb_gr hok dX5_append_60 fl_RX5_27 skC_b3 skC_c3 rfl ?_
      refine cb_aload_n hok dX5_append_63 rfl ?_
      refine cb_gr hok dX5_append_64 fl_RX5_24 skC_b3 skC_c3 rfl ?_
      refine cb_iload_n hok dX5_append_67 rfl ?_
      refine cb_iald hok dX5_append_68 skC_b20 skC_c20 ?_
      refine cb_top (y := r2) (by first | rfl | (simp [cb_u])) ?_
      refine cb_iload_n hok dX5_append_69 rfl ?_
      refine cb_iast hok dX5_append_70 skC_b21 skC_c21 ?_
      refine cb_fewer (ls' := [some (.inr 3), some (.inl x1), some (.inl x2)]) ⟨rfl, ⟨rfl, ⟨rfl, trivial⟩⟩⟩ ?_
      exact J_X5_append_b71 hJ hok  _ _ _
/-! CaretBench$Signs beginsIsle(I)Z -/
def v_X7_beginsIsle (g : cb_S) (x0 : Int) : Option Int := if cb_w x0 = 91 then (some 1) else (if cb_w x0 = 123 then (some 1) else (some 0))
set_option maxRecDepth 100000 in
theorem C_X7_beginsIsle {O : cb_O} (hJ : cb_J O skC) (x0 : Int) (g : cb_S) : ∀ q, v_X7_beginsIsle g x0 = some q → cb_m O skC false yX7_beginsIsle cX7_beginsIsle 1 (some .boolean) rm_X7_beginsIsle [.inl x0] g (q, g) := by
  intro q hq
  refine cr_of_body hJ (by decide) (Nat.le_of_ble_eq_true rfl) hq (fun M hok => ?_)
  show cb_jr _ _ _ _ _ _ [some (.inl x0)] _ _ (if cb_w x0 = 91 then (some 1) else (if cb_w x0 = 123 then (some 1) else (some 0)))
  refine cr_iload_n hok dX7_beginsIsle_0 rfl ?_
  refine cr_bipush hok dX7_beginsIsle_1 (by decide) ?_
  refine cr_iceq (tgt := 12) hok rfl (by decide) dX7_beginsIsle_3 (by decide) (fun _ => ?_) (fun _ => ?_)
  · refine cr_iconst hok dX7_beginsIsle_12 ?_
    refine cr_goto (tgt := 17) hok dX7_beginsIsle_13 (by decide) ?_
    exact cr_zret hok dX7_beginsIsle_17 (by decide)
  · refine cr_iload_n hok dX7_beginsIsle_6 rfl ?_
    refine cr_bipush hok dX7_beginsIsle_7 (by decide) ?_
    refine cr_icne (tgt := 16) hok rfl (by decide) dX7_beginsIsle_9 (by decide) (fun _ => ?_) (fun _ => ?_)
    · refine cr_iconst hok dX7_beginsIsle_16 ?_
      exact cr_zret hok dX7_beginsIsle_17 (by decide)
    · refine cr_iconst hok dX7_beginsIsle_12 ?_
      refine cr_goto (tgt := 17) hok dX7_beginsIsle_13 (by decide) ?_
      exact cr_zret hok dX7_beginsIsle_17 (by decide)
/-! CaretBench$Rows baseWithin(II)I -/
def v_X5_baseWithin (g : cb_S) (x0 : Int) (x1 : Int) : Option Int := if cb_w ((x0 + 1) % 2) = cb_w x1 then (some (x0 + 1)) else (some ((x0 + 1) + 1))
set_option maxRecDepth 100000 in
theorem C_X5_baseWithin {O : cb_O} (hJ : cb_J O skC) (x0 : Int) (x1 : Int) (g : cb_S) : ∀ q, v_X5_baseWithin g x0 x1 = some q → cb_m O skC false yX5_baseWithin cX5_baseWithin 3 (some .int) rm_X5_baseWithin [.inl x0, .inl x1] g (q, g) := by
  intro q hq
  refine cr_of_body hJ (by decide) (Nat.le_of_ble_eq_true rfl) hq (fun M hok => ?_)
  show cb_jr _ _ _ _ _ _ [some (.inl x0), some (.inl x1), none] _ _ (if cb_w ((x0 + 1) % 2) = cb_w x1 then (some (x0 + 1)) else (some ((x0 + 1) + 1)))
  refine cr_iload_n hok dX5_baseWithin_0 rfl ?_
  refine cr_iconst hok dX5_baseWithin_1 ?_
  refine cr_iadd hok dX5_baseWithin_2 ?_
  refine cr_istore_n (ls' := [some (.inl x0), some (.inl x1), some (.inl (x0 + 1))]) hok dX5_baseWithin_3 (by decide) rfl ?_
  refine cr_iload_n hok dX5_baseWithin_4 rfl ?_
  refine cr_iconst hok dX5_baseWithin_5 ?_
  refine cr_iand hok dX5_baseWithin_6 (cb_and1 _) ?_
  refine cr_iload_n hok dX5_baseWithin_7 rfl ?_
  refine cr_icne (tgt := 15) hok rfl rfl dX5_baseWithin_8 (by decide) (fun _ => ?_) (fun _ => ?_)
  · refine cr_iload_n hok dX5_baseWithin_15 rfl ?_
    refine cr_iconst hok dX5_baseWithin_16 ?_
    refine cr_iadd hok dX5_baseWithin_17 ?_
    exact cr_iret hok dX5_baseWithin_18
  · refine cr_iload_n hok dX5_baseWithin_11 rfl ?_
    refine cr_goto (tgt := 18) hok dX5_baseWithin_12 (by decide) ?_
    exact cr_iret hok dX5_baseWithin_18
/-! CaretBench$Rows divide(LCaretBench$Line;)V -/
def f_X5_divide_b94 (kk17 : Int → Int → cb_S → Option (Int × cb_S)) (x2 x3 : Int) (g : cb_S) : Option (Int × cb_S) := kk17 x2 (x3 + 1) g
set_option maxRecDepth 100000 in
theorem J_X5_divide_b94 {O : cb_O} {M : cb_M} (hJ : cb_J O skC) (hok : cb_ok O skC M cX5_divide 6 RX5 none) {kk17 : Int → Int → cb_S → Option (Int × cb_S)} (hk17 : ∀ (x2 x3 : Int) (g : cb_S), cb_j O skC true rm_X5_divide M 6 17 [some (.inr 3), some (.inr 1), some (.inl x2), some (.inl x3), none, none] [] g (kk17 x2 x3 g)) : ∀ (x2 x3 : Int) (g : cb_S), cb_j O skC true rm_X5_divide M 6 94 [some (.inr 3), some (.inr 1), some (.inl x2), some (.inl x3), none, none] [] g (f_X5_divide_b94 kk17 x2 x3 g) := by
  intro x2 x3 g
  show cb_j _ _ _ _ _ _ _ _ _ _ (kk17 x2 (x3 + 1) g)
  refine cb_iinc (ls' := [some (.inr 3), some (.inr 1), some (.inl x2), some (.inl (x3 + 1)), none, none]) hok dX5_divide_94 rfl (by decide) rfl ?_
  refine cb_goto (tgt := 17) hok dX5_divide_97 (by decide) ?_
  refine cb_fewer (ls' := [some (.inr 3), some (.inr 1), some (.inl x2), some (.inl (x3 + 1)), none, none]) ⟨rfl, ⟨rfl, ⟨rfl, ⟨rfl, trivial⟩⟩⟩⟩ ?_
  exact hk17 _ _ _
def f_X5_divide_b75 (kk17 : Int → Int → cb_S → Option (Int × cb_S)) (x2 x3 s0 : Int) (g : cb_S) : Option (Int × cb_S) := if 0 ≤ cb_w x3 ∧ cb_w x3 < (60 : Nat) then ((v_X5_baseWithin g (g 19 ((cb_w x3).toNat)) s0).bind (fun r1 => cb_b (f_X5_make g r1 x2) (fun r2 g2 => f_X5_divide_b94 kk17 r2 x3 g2))) else none
set_option maxRecDepth 100000 in
theorem J_X5_divide_b75 {O : cb_O} {M : cb_M} (hJ : cb_J O skC) (hok : cb_ok O skC M cX5_divide 6 RX5 none) {kk17 : Int → Int → cb_S → Option (Int × cb_S)} (hk17 : ∀ (x2 x3 : Int) (g : cb_S), cb_j O skC true rm_X5_divide M 6 17 [some (.inr 3), some (.inr 1), some (.inl x2), some (.inl x3), none, none] [] g (kk17 x2 x3 g)) : ∀ (x2 x3 s0 : Int) (g : cb_S), cb_j O skC true rm_X5_divide M 6 75 [some (.inr 3), some (.inr 1), some (.inl x2), some (.inl x3), none, none] [.inl s0] g (f_X5_divide_b75 kk17 x2 x3 s0 g) := by
  intro x2 x3 s0 g
  show cb_j _ _ _ _ _ _ _ _ _ _ (if 0 ≤ cb_w x3 ∧ cb_w x3 < (60 : Nat) then ((v_X5_baseWithin g (g 19 ((cb_w x3).toNat)) s0).bind (fun r1 => cb_b (f_X5_make g r1 x2) (fun r2 g2 => f_X5_divide_b94 kk17 r2 x3 g2))) else none)
  refine cb_istore (ls' := [some (.inr 3), some (.inr 1), some (.inl x2), some (.inl x3), none, some (.inl s0)]) hok dX5_divide_75 (by decide) rfl ?_
  refine cb_aload_n hok dX5_divide_77 rfl ?_
  refine cb_aload_n hok dX5_divide_78 rfl ?_
  refine cb_gr hok dX5_divide_79 fl_RX5_21 skC_b3 skC_c3 rfl ?_
  refine cb_iload_n hok dX5_divide_82 rfl ?_
  refine cb_iald hok dX5_divide_83 skC_b19 skC_c19 ?_
  refine cb_iload hok dX5_divide_84 rfl ?_
  refine cb_csr (as := [.inl (g 19 ((cb_w x3).toNat)), .inl s0]) (rest := [.inr 3]) hok lk_RX5_105 (by decide) (by decide) dX5_divide_86 (fun q1 hq1 => C_X5_baseWithin hJ _ _ _ q1 hq1) rfl rfl (Nat.le_of_ble_eq_true rfl) (fun r1 => ?_)
  refine cb_iload_n hok dX5_divide_89 rfl ?_
  refine cb_cvi (as := [.inl r1, .inl x2]) (rest := []) hok lk_RX5_83 (by decide) (by decide) dX5_divide_90 (fun q1 hq1 => C_X5_make hJ _ _ _ q1 hq1) rfl rfl (Nat.le_of_ble_eq_true rfl) skC_b3 skC_c3 rfl (fun r2 g2 => ?_)
  refine cb_istore_n (ls' := [some (.inr 3), some (.inr 1), some (.inl r2), some (.inl x3), none, some (.inl s0)]) hok dX5_divide_93 (by decide) rfl ?_
  refine cb_fewer (ls' := [some (.inr 3), some (.inr 1), some (.inl r2), some (.inl x3), none, none]) ⟨rfl, ⟨rfl, ⟨rfl, ⟨rfl, trivial⟩⟩⟩⟩ ?_
  exact J_X5_divide_b94 hJ hok hk17 _ _ _
def f_X5_divide_b49 (kk17 : Int → Int → cb_S → Option (Int × cb_S)) (x2 x3 x4 : Int) (g : cb_S) : Option (Int × cb_S) := cb_b (f_X5_append g x3 x2) (fun r1 g1 => (v_X7_beginsIsle g1 x4).bind (fun r2 => if cb_w r2 = 0 then (f_X5_divide_b94 kk17 x2 x3 g1) else (if cb_w x4 = 91 then (f_X5_divide_b75 kk17 x2 x3 0 g1) else (f_X5_divide_b75 kk17 x2 x3 1 g1))))
set_option maxRecDepth 100000 in
theorem J_X5_divide_b49 {O : cb_O} {M : cb_M} (hJ : cb_J O skC) (hok : cb_ok O skC M cX5_divide 6 RX5 none) {kk17 : Int → Int → cb_S → Option (Int × cb_S)} (hk17 : ∀ (x2 x3 : Int) (g : cb_S), cb_j O skC true rm_X5_divide M 6 17 [some (.inr 3), some (.inr 1), some (.inl x2), some (.inl x3), none, none] [] g (kk17 x2 x3 g)) : ∀ (x2 x3 x4 : Int) (g : cb_S), cb_j O skC true rm_X5_divide M 6 49 [some (.inr 3), some (.inr 1), some (.inl x2), some (.inl x3), some (.inl x4), none] [] g (f_X5_divide_b49 kk17 x2 x3 x4 g) := by
  intro x2 x3 x4 g
  show cb_j _ _ _ _ _ _ _ _ _ _ (cb_b (f_X5_append g x3 x2) (fun r1 g1 => (v_X7_beginsIsle g1 x4).bind (fun r2 => if cb_w r2 = 0 then (f_X5_divide_b94 kk17 x2 x3 g1) else (if cb_w x4 = 91 then (f_X5_divide_b75 kk17 x2 x3 0 g1) else (f_X5_divide_b75 kk17 x2 x3 1 g1)))))
  refine cb_aload_n hok dX5_divide_49 rfl ?_
  refine cb_iload_n hok dX5_divide_50 rfl ?_
  refine cb_iload_n hok dX5_divide_51 rfl ?_
  refine cb_cvv (as := [.inl x3, .inl x2]) (rest := []) hok lk_RX5_95 (by decide) (by decide) dX5_divide_52 (fun q1 hq1 => C_X5_append hJ _ _ _ q1 hq1) rfl rfl (Nat.le_of_ble_eq_true rfl) skC_b3 skC_c3 rfl (fun r1 g1 => ?_)
  refine cb_iload hok dX5_divide_55 rfl ?_
  refine cb_csr (as := [.inl x4]) (rest := []) hok lk_RX5_99 (by decide) (by decide) dX5_divide_57 (fun q1 hq1 => C_X7_beginsIsle hJ _ _ q1 hq1) rfl rfl (Nat.le_of_ble_eq_true rfl) (fun r2 => ?_)
  refine cb_ifeq (tgt := 94) hok rfl dX5_divide_60 (by decide) (fun _ => ?_) (fun _ => ?_)
  · refine cb_fewer (ls' := [some (.inr 3), some (.inr 1), some (.inl x2), some (.inl x3), none, none]) ⟨rfl, ⟨rfl, ⟨rfl, ⟨rfl, trivial⟩⟩⟩⟩ ?_
    exact J_X5_divide_b94 hJ hok hk17 _ _ _
  · refine cb_iload hok dX5_divide_63 rfl ?_
    refine cb_bipush hok dX5_divide_65 (by decide) ?_
    refine cb_icne (tgt := 74) hok rfl (by decide) dX5_divide_67 (by decide) (fun _ => ?_) (fun _ => ?_)
    · refine cb_iconst hok dX5_divide_74 ?_
      refine cb_fewer (ls' := [some (.inr 3), some (.inr 1), some (.inl x2), some (.inl x3), none, none]) ⟨rfl, ⟨rfl, ⟨rfl, ⟨rfl, trivial⟩⟩⟩⟩ ?_
      exact J_X5_divide_b75 hJ hok hk17 _ _ _ _
    · refine cb_iconst hok dX5_divide_70 ?_
      refine cb_goto (tgt := 75) hok dX5_divide_71 (by decide) ?_
      refine cb_fewer (ls' := [some (.inr 3), some (.inr 1), some (.inl x2), some (.inl x3), none, none]) ⟨rfl, ⟨rfl, ⟨rfl, ⟨rfl, trivial⟩⟩⟩⟩ ?_
      exact J_X5_divide_b75 hJ hok hk17 _ _ _ _
def f_X5_divide_b17 : Nat → Int → Int → cb_S → Option (Int × cb_S)
  | 0 => fun _ _ _ => none
  | n + 1 => fun x2 x3 g => if cb_w (g 3 10) ≤ cb_w x3 then (some (0, g)) else ((v_X3_at g x3).bind (fun r1 => if cb_w r1 = 93 then ((v_X8_valueAt g 17 61 x2 0).bind (fun r2 => f_X5_divide_b49 (f_X5_divide_b17 n) r2 x3 r1 g)) else (f_X5_divide_b49 (f_X5_divide_b17 n) x2 x3 r1 g)))
set_option maxRecDepth 100000 in
theorem J_X5_divide_b17 {O : cb_O} {M : cb_M} (hJ : cb_J O skC) (hok : cb_ok O skC M cX5_divide 6 RX5 none) : ∀ (n : Nat) (x2 x3 : Int) (g : cb_S), cb_j O skC true rm_X5_divide M 6 17 [some (.inr 3), some (.inr 1), some (.inl x2), some (.inl x3), none, none] [] g (f_X5_divide_b17 n x2 x3 g) := by
  intro n
  induction n with
  | zero => intros; exact cb_none
  | succ n hk17 =>
    intro x2 x3 g
    show cb_j _ _ _ _ _ _ _ _ _ _ (if cb_w (g 3 10) ≤ cb_w x3 then (some (0, g)) else ((v_X3_at g x3).bind (fun r1 => if cb_w r1 = 93 then ((v_X8_valueAt g 17 61 x2 0).bind (fun r2 => f_X5_divide_b49 (f_X5_divide_b17 n) r2 x3 r1 g)) else (f_X5_divide_b49 (f_X5_divide_b17 n) x2 x3 r1 g))))
    refine cb_iload_n hok dX5_divide_17 rfl ?_
    refine cb_aload_n hok dX5_divide_18 rfl ?_
    refine cb_gi hok dX5_divide_19 fl_RX5_48 skC_b3 skC_c3 rfl ?_
    refine cb_icge (tgt := 100) hok rfl rfl dX5_divide_22 (by decide) (fun _ => ?_) (fun _ => ?_)
    · exact cb_vret hok dX5_divide_100
    · refine cb_aload_n hok dX5_divide_25 rfl ?_
      refine cb_iload_n hok dX5_divide_26 rfl ?_
      refine cb_cvr (as := [.inl x3]) (rest := []) hok lk_RX5_87 (by decide) (by decide) dX5_divide_27 (fun q1 hq1 => C_X3_at hJ _ _ q1 hq1) rfl rfl (Nat.le_of_ble_eq_true rfl) skC_b1 skC_c1 rfl (fun r1 => ?_)
      refine cb_istore (ls' := [some (.inr 3), some (.inr 1), some (.inl x2), some (.inl x3), some (.inl r1), none]) hok dX5_divide_30 (by decide) rfl ?_
      refine cb_iload hok dX5_divide_32 rfl ?_
      refine cb_bipush hok dX5_divide_34 (by decide) ?_
      refine cb_icne (tgt := 49) hok rfl (by decide) dX5_divide_36 (by decide) (fun _ => ?_) (fun _ => ?_)
      · refine cb_fewer (ls' := [some (.inr 3), some (.inr 1), some (.inl x2), some (.inl x3), some (.inl r1), none]) ⟨rfl, ⟨rfl, ⟨rfl, ⟨rfl, ⟨rfl, trivial⟩⟩⟩⟩⟩ ?_
        exact J_X5_divide_b49 hJ hok hk17 _ _ _ _
      · refine cb_aload_n hok dX5_divide_39 rfl ?_
        refine cb_gr hok dX5_divide_40 fl_RX5_15 skC_b3 skC_c3 rfl ?_
        refine cb_iload_n hok dX5_divide_43 rfl ?_
        refine cb_iconst hok dX5_divide_44 ?_
        refine cb_cnr (as := [.inr 17, .inl x2, .inl 0]) (rest := []) hok lk_RX5_91 (by decide) (by decide) dX5_divide_45 (fun q1 hq1 => C_X8_valueAt hJ 17 61 skC_b17 skC_c17 _ _ _ q1 hq1) rfl rfl (Nat.le_of_ble_eq_true rfl) (fun r2 => ?_)
        refine cb_istore_n (ls' := [some (.inr 3), some (.inr 1), some (.inl r2), some (.inl x3), some (.inl r1), none]) hok dX5_divide_48 (by decide) rfl ?_
        refine cb_fewer (ls' := [some (.inr 3), some (.inr 1), some (.inl r2), some (.inl x3), some (.inl r1), none]) ⟨rfl, ⟨rfl, ⟨rfl, ⟨rfl, ⟨rfl, trivial⟩⟩⟩⟩⟩ ?_
        exact J_X5_divide_b49 hJ hok hk17 _ _ _ _
def f_X5_divide (g : cb_S) : Option (Int × cb_S) := cb_b (f_X5_make (cb_u g 3 11 0) (g 3 12) 0) (fun r1 g1 => f_X5_divide_b17  cb_N r1 0 g1)
set_option maxRecDepth 100000 in
theorem C_X5_divide {O : cb_O} (hJ : cb_J O skC) (g : cb_S) : ∀ q, f_X5_divide g = some q → cb_m O skC true yX5_divide cX5_divide 6 none rm_X5_divide [.inr 3, .inr 1] g q := by
  intro q hq
  refine cb_of_body hJ (by decide) (Nat.le_of_ble_eq_true rfl) hq (fun M hok => ?_)
  show cb_j _ _ _ _ _ _ _ [some (.inr 3), some (.inr 1), none, none, none, none] _ _ (cb_b (f_X5_make (cb_u g 3 11 0) (g 3 12) 0) (fun r1 g1 => f_X5_divide_b17  cb_N r1 0 g1))
  refine cb_aload_n hok dX5_divide_0 rfl ?_
  refine cb_iconst hok dX5_divide_1 ?_
  refine cb_pi hok dX5_divide_2 fp_RX5_80 skC_b3 skC_c3 rfl ?_
  refine cb_aload_n hok dX5_divide_5 rfl ?_
  refine cb_aload_n hok dX5_divide_6 rfl ?_
  refine cb_gi hok dX5_divide_7 fl_RX5_54 skC_b3 skC_c3 rfl ?_
  refine cb_top (y := g 3 12) rfl ?_
  refine cb_iconst hok dX5_divide_10 ?_
  refine cb_cvi (as := [.inl (g 3 12), .inl 0]) (rest := []) hok lk_RX5_83 (by decide) (by decide) dX5_divide_11 (fun q1 hq1 => C_X5_make hJ _ _ _ q1 hq1) rfl rfl (Nat.le_of_ble_eq_true rfl) skC_b3 skC_c3 rfl (fun r1 g1 => ?_)
  refine cb_istore_n (ls' := [some (.inr 3), some (.inr 1), some (.inl r1), none, none, none]) hok dX5_divide_14 (by decide) rfl ?_
  refine cb_iconst hok dX5_divide_15 ?_
  refine cb_istore_n (ls' := [some (.inr 3), some (.inr 1), some (.inl r1), some (.inl 0), none, none]) hok dX5_divide_16 (by decide) rfl ?_
  refine cb_fewer (ls' := [some (.inr 3), some (.inr 1), some (.inl r1), some (.inl 0), none, none]) ⟨rfl, ⟨rfl, ⟨rfl, ⟨rfl, trivial⟩⟩⟩⟩ ?_
  exact J_X5_divide_b17 hJ hok  cb_N _ _ _
/-! CaretBench$Rows wayAround(I)I -/
def v_X5_wayAround (g : cb_S) (x1 : Int) : Option Int := if 0 ≤ cb_w x1 ∧ cb_w x1 < (60 : Nat) then (some ((g 19 ((cb_w x1).toNat)) % 2)) else none
set_option maxRecDepth 100000 in
theorem C_X5_wayAround {O : cb_O} (hJ : cb_J O skC) (x1 : Int) (g : cb_S) : ∀ q, v_X5_wayAround g x1 = some q → cb_m O skC false yX5_wayAround cX5_wayAround 2 (some .int) rm_X5_wayAround [.inr 3, .inl x1] g (q, g) := by
  intro q hq
  refine cr_of_body hJ (by decide) (Nat.le_of_ble_eq_true rfl) hq (fun M hok => ?_)
  show cb_jr _ _ _ _ _ _ [some (.inr 3), some (.inl x1)] _ _ (if 0 ≤ cb_w x1 ∧ cb_w x1 < (60 : Nat) then (some ((g 19 ((cb_w x1).toNat)) % 2)) else none)
  refine cr_aload_n hok dX5_wayAround_0 rfl ?_
  refine cr_gr hok dX5_wayAround_1 fl_RX5_21 skC_b3 skC_c3 rfl ?_
  refine cr_iload_n hok dX5_wayAround_4 rfl ?_
  refine cr_iald hok dX5_wayAround_5 skC_b19 skC_c19 ?_
  refine cr_iconst hok dX5_wayAround_6 ?_
  refine cr_iand hok dX5_wayAround_7 (cb_and1 _) ?_
  exact cr_iret hok dX5_wayAround_8
/-! CaretBench$Rows findKinds(LCaretBench$Line;LCaretBench$Clusters;)V -/
def f_X5_findKinds_b91 (kk2 : Int → cb_S → Option (Int × cb_S)) (x3 : Int) (g : cb_S) : Option (Int × cb_S) := kk2 (x3 + 1) g
set_option maxRecDepth 100000 in
theorem J_X5_findKinds_b91 {O : cb_O} {M : cb_M} (hJ : cb_J O skC) (hok : cb_ok O skC M cX5_findKinds 5 RX5 none) {kk2 : Int → cb_S → Option (Int × cb_S)} (hk2 : ∀ (x3 : Int) (g : cb_S), cb_j O skC true rm_X5_findKinds M 5 2 [some (.inr 3), some (.inr 1), some (.inr 2), some (.inl x3), none] [] g (kk2 x3 g)) : ∀ (x3 : Int) (g : cb_S), cb_j O skC true rm_X5_findKinds M 5 91 [some (.inr 3), some (.inr 1), some (.inr 2), some (.inl x3), none] [] g (f_X5_findKinds_b91 kk2 x3 g) := by
  intro x3 g
  show cb_j _ _ _ _ _ _ _ _ _ _ (kk2 (x3 + 1) g)
  refine cb_iinc (ls' := [some (.inr 3), some (.inr 1), some (.inr 2), some (.inl (x3 + 1)), none]) hok dX5_findKinds_91 rfl (by decide) rfl ?_
  refine cb_goto (tgt := 2) hok dX5_findKinds_94 (by decide) ?_
  refine cb_fewer (ls' := [some (.inr 3), some (.inr 1), some (.inr 2), some (.inl (x3 + 1)), none]) ⟨rfl, ⟨rfl, ⟨rfl, ⟨rfl, trivial⟩⟩⟩⟩ ?_
  exact hk2 _ _
def f_X5_findKinds_b2 : Nat → Int → cb_S → Option (Int × cb_S)
  | 0 => fun _ _ => none
  | n + 1 => fun x3 g => if cb_w (g 3 10) ≤ cb_w x3 then (some (0, g)) else ((v_X3_at g x3).bind (fun r1 => (v_X7_isMark g r1).bind (fun r2 => if cb_w r2 = 0 then ((v_X1_joinsAt g x3).bind (fun r3 => if cb_w r3 = 0 then ((v_X7_kindOf g r1).bind (fun r4 => if 0 ≤ cb_w x3 ∧ cb_w x3 < (60 : Nat) then (f_X5_findKinds_b91 (f_X5_findKinds_b2 n) x3 (cb_u g 22 (cb_w x3).toNat r4)) else none)) else ((v_X8_valueAt g 22 60 (x3 - 1) 4).bind (fun r5 => if 0 ≤ cb_w x3 ∧ cb_w x3 < (60 : Nat) then (f_X5_findKinds_b91 (f_X5_findKinds_b2 n) x3 (cb_u g 22 (cb_w x3).toNat r5)) else none)))) else (if 0 ≤ cb_w x3 ∧ cb_w x3 < (60 : Nat) then ((v_X5_wayAround g x3).bind (fun r6 => (v_X8_valueAt g 22 60 (g 20 ((cb_w x3).toNat)) r6).bind (fun r7 => if 0 ≤ cb_w x3 ∧ cb_w x3 < (60 : Nat) then (f_X5_findKinds_b91 (f_X5_findKinds_b2 n) x3 (cb_u g 22 (cb_w x3).toNat r7)) else none))) else none))))
set_option maxRecDepth 100000 in
theorem J_X5_findKinds_b2 {O : cb_O} {M : cb_M} (hJ : cb_J O skC) (hok : cb_ok O skC M cX5_findKinds 5 RX5 none) : ∀ (n : Nat) (x3 : Int) (g : cb_S), cb_j O skC true rm_X5_findKinds M 5 2 [some (.inr 3), some (.inr 1), some (.inr 2), some (.inl x3), none] [] g (f_X5_findKinds_b2 n x3 g) := by
  intro n
  induction n with
  | zero => intros; exact cb_none
  | succ n hk2 =>
    intro x3 g
    show cb_j _ _ _ _ _ _ _ _ _ _ (if cb_w (g 3 10) ≤ cb_w x3 then (some (0, g)) else ((v_X3_at g x3).bind (fun r1 => (v_X7_isMark g r1).bind (fun r2 => if cb_w r2 = 0 then ((v_X1_joinsAt g x3).bind (fun r3 => if cb_w r3 = 0 then ((v_X7_kindOf g r1).bind (fun r4 => if 0 ≤ cb_w x3 ∧ cb_w x3 < (60 : Nat) then (f_X5_findKinds_b91 (f_X5_findKinds_b2 n) x3 (cb_u g 22 (cb_w x3).toNat r4)) else none)) else ((v_X8_valueAt g 22 60 (x3 - 1) 4).bind (fun r5 => if 0 ≤ cb_w x3 ∧ cb_w x3 < (60 : Nat) then (f_X5_findKinds_b91 (f_X5_findKinds_b2 n) x3 (cb_u g 22 (cb_w x3).toNat r5)) else none)))) else (if 0 ≤ cb_w x3 ∧ cb_w x3 < (60 : Nat) then ((v_X5_wayAround g x3).bind (fun r6 => (v_X8_valueAt g 22 60 (g 20 ((cb_w x3).toNat)) r6).bind (fun r7 => if 0 ≤ cb_w x3 ∧ cb_w x3 < (60 : Nat) then (f_X5_findKinds_b91 (f_X5_findKinds_b2 n) x3 (cb_u g 22 (cb_w x3).toNat r7)) else none))) else none)))))
    refine cb_iload_n hok dX5_findKinds_2 rfl ?_
    refine cb_aload_n hok dX5_findKinds_3 rfl ?_
    refine cb_gi hok dX5_findKinds_4 fl_RX5_48 skC_b3 skC_c3 rfl ?_
    refine cb_icge (tgt := 97) hok rfl rfl dX5_findKinds_7 (by decide) (fun _ => ?_) (fun _ => ?_)
    · exact cb_vret hok dX5_findKinds_97
    · refine cb_aload_n hok dX5_findKinds_10 rfl ?_
      refine cb_iload_n hok dX5_findKinds_11 rfl ?_
      refine cb_cvr (as := [.inl x3]) (rest := []) hok lk_RX5_87 (by decide) (by decide) dX5_findKinds_12 (fun q1 hq1 => C_X3_at hJ _ _ q1 hq1) rfl rfl (Nat.le_of_ble_eq_true rfl) skC_b1 skC_c1 rfl (fun r1 => ?_)
      refine cb_istore (ls' := [some (.inr 3), some (.inr 1), some (.inr 2), some (.inl x3), some (.inl r1)]) hok dX5_findKinds_15 (by decide) rfl ?_
      refine cb_iload hok dX5_findKinds_17 rfl ?_
      refine cb_csr (as := [.inl r1]) (rest := []) hok lk_RX5_108 (by decide) (by decide) dX5_findKinds_19 (fun q1 hq1 => C_X7_isMark hJ _ _ q1 hq1) rfl rfl (Nat.le_of_ble_eq_true rfl) (fun r2 => ?_)
      refine cb_ifeq (tgt := 52) hok rfl dX5_findKinds_22 (by decide) (fun _ => ?_) (fun _ => ?_)
      · refine cb_aload_n hok dX5_findKinds_52 rfl ?_
        refine cb_iload_n hok dX5_findKinds_53 rfl ?_
        refine cb_cvr (as := [.inl x3]) (rest := []) hok lk_RX5_114 (by decide) (by decide) dX5_findKinds_54 (fun q1 hq1 => C_X1_joinsAt hJ _ _ q1 hq1) rfl rfl (Nat.le_of_ble_eq_true rfl) skC_b2 skC_c2 rfl (fun r3 => ?_)
        refine cb_ifeq (tgt := 80) hok rfl dX5_findKinds_57 (by decide) (fun _ => ?_) (fun _ => ?_)
        · refine cb_aload_n hok dX5_findKinds_80 rfl ?_
          refine cb_gr hok dX5_findKinds_81 fl_RX5_30 skC_b3 skC_c3 rfl ?_
          refine cb_iload_n hok dX5_findKinds_84 rfl ?_
          refine cb_iload hok dX5_findKinds_85 rfl ?_
          refine cb_csr (as := [.inl r1]) (rest := [.inl x3, .inr 22]) hok lk_RX5_119 (by decide) (by decide) dX5_findKinds_87 (fun q1 hq1 => C_X7_kindOf hJ _ _ q1 hq1) rfl rfl (Nat.le_of_ble_eq_true rfl) (fun r4 => ?_)
          refine cb_iast hok dX5_findKinds_90 skC_b22 skC_c22 ?_
          refine cb_fewer (ls' := [some (.inr 3), some (.inr 1), some (.inr 2), some (.inl x3), none]) ⟨rfl, ⟨rfl, ⟨rfl, ⟨rfl, trivial⟩⟩⟩⟩ ?_
          exact J_X5_findKinds_b91 hJ hok hk2 _ _
        · refine cb_aload_n hok dX5_findKinds_60 rfl ?_
          refine cb_gr hok dX5_findKinds_61 fl_RX5_30 skC_b3 skC_c3 rfl ?_
          refine cb_iload_n hok dX5_findKinds_64 rfl ?_
          refine cb_aload_n hok dX5_findKinds_65 rfl ?_
          refine cb_gr hok dX5_findKinds_66 fl_RX5_30 skC_b3 skC_c3 rfl ?_
          refine cb_iload_n hok dX5_findKinds_69 rfl ?_
          refine cb_iconst hok dX5_findKinds_70 ?_
          refine cb_isub hok dX5_findKinds_71 ?_
          refine cb_iconst hok dX5_findKinds_72 ?_
          refine cb_cnr (as := [.inr 22, .inl (x3 - 1), .inl 4]) (rest := [.inl x3, .inr 22]) hok lk_RX5_91 (by decide) (by decide) dX5_findKinds_73 (fun q1 hq1 => C_X8_valueAt hJ 22 60 skC_b22 skC_c22 _ _ _ q1 hq1) rfl rfl (Nat.le_of_ble_eq_true rfl) (fun r5 => ?_)
          refine cb_iast hok dX5_findKinds_76 skC_b22 skC_c22 ?_
          refine cb_goto (tgt := 91) hok dX5_findKinds_77 (by decide) ?_
          refine cb_fewer (ls' := [some (.inr 3), some (.inr 1), some (.inr 2), some (.inl x3), none]) ⟨rfl, ⟨rfl, ⟨rfl, ⟨rfl, trivial⟩⟩⟩⟩ ?_
          exact J_X5_findKinds_b91 hJ hok hk2 _ _
      · refine cb_aload_n hok dX5_findKinds_25 rfl ?_
        refine cb_gr hok dX5_findKinds_26 fl_RX5_30 skC_b3 skC_c3 rfl ?_
        refine cb_iload_n hok dX5_findKinds_29 rfl ?_
        refine cb_aload_n hok dX5_findKinds_30 rfl ?_
        refine cb_gr hok dX5_findKinds_31 fl_RX5_30 skC_b3 skC_c3 rfl ?_
        refine cb_aload_n hok dX5_findKinds_34 rfl ?_
        refine cb_gr hok dX5_findKinds_35 fl_RX5_24 skC_b3 skC_c3 rfl ?_
        refine cb_iload_n hok dX5_findKinds_38 rfl ?_
        refine cb_iald hok dX5_findKinds_39 skC_b20 skC_c20 ?_
        refine cb_aload_n hok dX5_findKinds_40 rfl ?_
        refine cb_iload_n hok dX5_findKinds_41 rfl ?_
        refine cb_cvr (as := [.inl x3]) (rest := [.inl (g 20 ((cb_w x3).toNat)), .inr 22, .inl x3, .inr 22]) hok lk_RX5_111 (by decide) (by decide) dX5_findKinds_42 (fun q1 hq1 => C_X5_wayAround hJ _ _ q1 hq1) rfl rfl (Nat.le_of_ble_eq_true rfl) skC_b3 skC_c3 rfl (fun r6 => ?_)
        refine cb_cnr (as := [.inr 22, .inl (g 20 ((cb_w x3).toNat)), .inl r6]) (rest := [.inl x3, .inr 22]) hok lk_RX5_91 (by decide) (by decide) dX5_findKinds_45 (fun q1 hq1 => C_X8_valueAt hJ 22 60 skC_b22 skC_c22 _ _ _ q1 hq1) rfl rfl (Nat.le_of_ble_eq_true rfl) (fun r7 => ?_)
        refine cb_iast hok dX5_findKinds_48 skC_b22 skC_c22 ?_
        refine cb_goto (tgt := 91) hok dX5_findKinds_49 (by decide) ?_
        refine cb_fewer (ls' := [some (.inr 3), some (.inr 1), some (.inr 2), some (.inl x3), none]) ⟨rfl, ⟨rfl, ⟨rfl, ⟨rfl, trivial⟩⟩⟩⟩ ?_
        exact J_X5_findKinds_b91 hJ hok hk2 _ _
def f_X5_findKinds (g : cb_S) : Option (Int × cb_S) := f_X5_findKinds_b2  cb_N 0 g
set_option maxRecDepth 100000 in
theorem C_X5_findKinds {O : cb_O} (hJ : cb_J O skC) (g : cb_S) : ∀ q, f_X5_findKinds g = some q → cb_m O skC true yX5_findKinds cX5_findKinds 5 none rm_X5_findKinds [.inr 3, .inr 1, .inr 2] g q := by
  intro q hq
  refine cb_of_body hJ (by decide) (Nat.le_of_ble_eq_true rfl) hq (fun M hok => ?_)
  show cb_j _ _ _ _ _ _ _ [some (.inr 3), some (.inr 1), some (.inr 2), none, none] _ _ (f_X5_findKinds_b2  cb_N 0 g)
  refine cb_iconst hok dX5_findKinds_0 ?_
  refine cb_istore_n (ls' := [some (.inr 3), some (.inr 1), some (.inr 2), some (.inl 0), none]) hok dX5_findKinds_1 (by decide) rfl ?_
  refine cb_fewer (ls' := [some (.inr 3), some (.inr 1), some (.inr 2), some (.inl 0), none]) ⟨rfl, ⟨rfl, ⟨rfl, ⟨rfl, trivial⟩⟩⟩⟩ ?_
  exact J_X5_findKinds_b2 hJ hok  cb_N _ _
