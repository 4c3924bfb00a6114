/-! CaretBenchModel widthOf(I)I -/
def v_X9_widthOf (g : cb_S) (x1 : Int) : Option Int := if 0 ≤ cb_w x1 ∧ cb_w x1 < (64 : Nat) then (if 0 ≤ cb_w (g 14 ((cb_w x1).toNat)) ∧ cb_w (g 14 ((cb_w x1).toNat)) < (64 : Nat) then (if 0 ≤ cb_w x1 ∧ cb_w x1 < (64 : Nat) then (if cb_w (g 16 ((cb_w x1).toNat)) = 0 then ((v_X9_isLetter g (g 1 ((cb_w (g 14 ((cb_w x1).toNat))).toNat))).bind (fun r1 => if cb_w r1 = 0 then ((v_X9_isDigit g (g 1 ((cb_w (g 14 ((cb_w x1).toNat))).toNat))).bind (fun r2 => if cb_w r2 = 0 then (if cb_w (g 1 ((cb_w (g 14 ((cb_w x1).toNat))).toNat)) = 32 then (some 5) else (some 6)) else (some 8))) else (some 10))) else (some 16)) else none) else none) else none
set_option maxRecDepth 100000 in
theorem C_X9_widthOf {O : cb_O} (hJ : cb_J O skM) (x1 : Int) (g : cb_S) : ∀ q, v_X9_widthOf g x1 = some q → cb_m O skM false yX9_widthOf cX9_widthOf 3 (some .int) rm_X9_widthOf [.inr 0, .inl x1] g (q, g) := by
  intro q hq
  refine cr_of_body hJ (by decide) (Nat.le_of_ble_eq_true rfl) hq (fun M hok => ?_)
  show cb_jr _ _ _ _ _ _ [some (.inr 0), some (.inl x1), none] _ _ (if 0 ≤ cb_w x1 ∧ cb_w x1 < (64 : Nat) then (if 0 ≤ cb_w (g 14 ((cb_w x1).toNat)) ∧ cb_w (g 14 ((cb_w x1).toNat)) < (64 : Nat) then (if 0 ≤ cb_w x1 ∧ cb_w x1 < (64 : Nat) then (if cb_w (g 16 ((cb_w x1).toNat)) = 0 then ((v_X9_isLetter g (g 1 ((cb_w (g 14 ((cb_w x1).toNat))).toNat))).bind (fun r1 => if cb_w r1 = 0 then ((v_X9_isDigit g (g 1 ((cb_w (g 14 ((cb_w x1).toNat))).toNat))).bind (fun r2 => if cb_w r2 = 0 then (if cb_w (g 1 ((cb_w (g 14 ((cb_w x1).toNat))).toNat)) = 32 then (some 5) else (some 6)) else (some 8))) else (some 10))) else (some 16)) else none) else none) else none)
  refine cr_aload_n hok dX9_widthOf_0 rfl ?_
  refine cr_gr hok dX9_widthOf_1 fl_RX9_7 skM_b0 skM_c0 rfl ?_
  refine cr_aload_n hok dX9_widthOf_4 rfl ?_
  refine cr_gr hok dX9_widthOf_5 fl_RX9_50 skM_b0 skM_c0 rfl ?_
  refine cr_iload_n hok dX9_widthOf_8 rfl ?_
  refine cr_iald hok dX9_widthOf_9 skM_b14 skM_c14 ?_
  refine cr_iald hok dX9_widthOf_10 skM_b1 skM_c1 ?_
  refine cr_istore_n (ls' := [some (.inr 0), some (.inl x1), some (.inl (g 1 ((cb_w (g 14 ((cb_w x1).toNat))).toNat)))]) hok dX9_widthOf_11 (by decide) rfl ?_
  refine cr_aload_n hok dX9_widthOf_12 rfl ?_
  refine cr_gr hok dX9_widthOf_13 fl_RX9_56 skM_b0 skM_c0 rfl ?_
  refine cr_iload_n hok dX9_widthOf_16 rfl ?_
  refine cr_zald hok dX9_widthOf_17 skM_b16 skM_c16 ?_
  refine cr_ifeq (tgt := 26) hok rfl dX9_widthOf_18 (by decide) (fun _ => ?_) (fun _ => ?_)
  · refine cr_iload_n hok dX9_widthOf_26 rfl ?_
    refine cr_csr (as := [.inl (g 1 ((cb_w (g 14 ((cb_w x1).toNat))).toNat))]) (rest := []) hok lk_RX9_97 (by decide) (by decide) dX9_widthOf_27 (fun q1 hq1 => C_X9_isLetter hJ _ _ q1 hq1) rfl rfl (Nat.le_of_ble_eq_true rfl) (fun r1 => ?_)
    refine cr_ifeq (tgt := 38) hok rfl dX9_widthOf_30 (by decide) (fun _ => ?_) (fun _ => ?_)
    · refine cr_iload_n hok dX9_widthOf_38 rfl ?_
      refine cr_csr (as := [.inl (g 1 ((cb_w (g 14 ((cb_w x1).toNat))).toNat))]) (rest := []) hok lk_RX9_100 (by decide) (by decide) dX9_widthOf_39 (fun q1 hq1 => C_X9_isDigit hJ _ _ q1 hq1) rfl rfl (Nat.le_of_ble_eq_true rfl) (fun r2 => ?_)
      refine cr_ifeq (tgt := 50) hok rfl dX9_widthOf_42 (by decide) (fun _ => ?_) (fun _ => ?_)
      · refine cr_iload_n hok dX9_widthOf_50 rfl ?_
        refine cr_bipush hok dX9_widthOf_51 (by decide) ?_
        refine cr_icne (tgt := 60) hok rfl (by decide) dX9_widthOf_53 (by decide) (fun _ => ?_) (fun _ => ?_)
        · refine cr_bipush hok dX9_widthOf_60 (by decide) ?_
          exact cr_iret hok dX9_widthOf_62
        · refine cr_iconst hok dX9_widthOf_56 ?_
          refine cr_goto (tgt := 62) hok dX9_widthOf_57 (by decide) ?_
          exact cr_iret hok dX9_widthOf_62
      · refine cr_bipush hok dX9_widthOf_45 (by decide) ?_
        refine cr_goto (tgt := 62) hok dX9_widthOf_47 (by decide) ?_
        exact cr_iret hok dX9_widthOf_62
    · refine cr_bipush hok dX9_widthOf_33 (by decide) ?_
      refine cr_goto (tgt := 62) hok dX9_widthOf_35 (by decide) ?_
      exact cr_iret hok dX9_widthOf_62
  · refine cr_bipush hok dX9_widthOf_21 (by decide) ?_
    refine cr_goto (tgt := 62) hok dX9_widthOf_23 (by decide) ?_
    exact cr_iret hok dX9_widthOf_62
/-! CaretBenchModel clustersOf()V -/
def f_X9_clustersOf_b158 (kk9 : Int → Int → cb_S → Option (Int × cb_S)) (x2 x4 : Int) (g : cb_S) : Option (Int × cb_S) := kk9 x4 x2 (cb_u g 0 20 ((g 0 20) + 1))
set_option maxRecDepth 100000 in
theorem J_X9_clustersOf_b158 {O : cb_O} {M : cb_M} (hJ : cb_J O skM) (hok : cb_ok O skM M cX9_clustersOf 5 RX9 none) {kk9 : Int → Int → cb_S → Option (Int × cb_S)} (hk9 : ∀ (x1 x2 : Int) (g : cb_S), cb_j O skM true rm_X9_clustersOf M 5 9 [some (.inr 0), some (.inl x1), some (.inl x2), none, none] [] g (kk9 x1 x2 g)) : ∀ (x2 x4 : Int) (g : cb_S), cb_j O skM true rm_X9_clustersOf M 5 158 [some (.inr 0), none, some (.inl x2), none, some (.inl x4)] [] g (f_X9_clustersOf_b158 kk9 x2 x4 g) := by
  intro x2 x4 g
  show cb_j _ _ _ _ _ _ _ _ _ _ (kk9 x4 x2 (cb_u g 0 20 ((g 0 20) + 1)))
  refine cb_iload hok dX9_clustersOf_158 rfl ?_
  refine cb_istore_n (ls' := [some (.inr 0), some (.inl x4), some (.inl x2), none, some (.inl x4)]) hok dX9_clustersOf_160 (by decide) rfl ?_
  refine cb_aload_n hok dX9_clustersOf_161 rfl ?_
  refine cb_dup hok dX9_clustersOf_162 ?_
  refine cb_gi hok dX9_clustersOf_163 fl_RX9_129 skM_b0 skM_c0 rfl ?_
  refine cb_iconst hok dX9_clustersOf_166 ?_
  refine cb_iadd hok dX9_clustersOf_167 ?_
  refine cb_pi hok dX9_clustersOf_168 fp_RX9_129 skM_b0 skM_c0 rfl ?_
  refine cb_goto (tgt := 9) hok dX9_clustersOf_171 (by decide) ?_
  refine cb_fewer (ls' := [some (.inr 0), some (.inl x4), some (.inl x2), none, none]) ⟨rfl, ⟨rfl, ⟨rfl, trivial⟩⟩⟩ ?_
  exact hk9 _ _ _
def f_X9_clustersOf_b139 (kk9 : Int → Int → cb_S → Option (Int × cb_S)) (x1 x2 x3 x4 : Int) (g : cb_S) : Option (Int × cb_S) := if 0 ≤ cb_w (g 0 20) ∧ cb_w (g 0 20) < (64 : Nat) then (if cb_w x3 = 0 then (f_X9_clustersOf_b158 kk9 0 x4 (cb_u g 15 (cb_w (g 0 20)).toNat (x4 - x1))) else (f_X9_clustersOf_b158 kk9 x2 x4 (cb_u g 15 (cb_w (g 0 20)).toNat (x4 - x1)))) else none
set_option maxRecDepth 100000 in
theorem J_X9_clustersOf_b139 {O : cb_O} {M : cb_M} (hJ : cb_J O skM) (hok : cb_ok O skM M cX9_clustersOf 5 RX9 none) {kk9 : Int → Int → cb_S → Option (Int × cb_S)} (hk9 : ∀ (x1 x2 : Int) (g : cb_S), cb_j O skM true rm_X9_clustersOf M 5 9 [some (.inr 0), some (.inl x1), some (.inl x2), none, none] [] g (kk9 x1 x2 g)) : ∀ (x1 x2 x3 x4 : Int) (g : cb_S), cb_j O skM true rm_X9_clustersOf M 5 139 [some (.inr 0), some (.inl x1), some (.inl x2), some (.inl x3), some (.inl x4)] [] g (f_X9_clustersOf_b139 kk9 x1 x2 x3 x4 g) := by
  intro x1 x2 x3 x4 g
  show cb_j _ _ _ _ _ _ _ _ _ _ (if 0 ≤ cb_w (g 0 20) ∧ cb_w (g 0 20) < (64 : Nat) then (if cb_w x3 = 0 then (f_X9_clustersOf_b158 kk9 0 x4 (cb_u g 15 (cb_w (g 0 20)).toNat (x4 - x1))) else (f_X9_clustersOf_b158 kk9 x2 x4 (cb_u g 15 (cb_w (g 0 20)).toNat (x4 - x1)))) else none)
  refine cb_aload_n hok dX9_clustersOf_139 rfl ?_
  refine cb_gr hok dX9_clustersOf_140 fl_RX9_53 skM_b0 skM_c0 rfl ?_
  refine cb_aload_n hok dX9_clustersOf_143 rfl ?_
  refine cb_gi hok dX9_clustersOf_144 fl_RX9_129 skM_b0 skM_c0 rfl ?_
  refine cb_iload hok dX9_clustersOf_147 rfl ?_
  refine cb_iload_n hok dX9_clustersOf_149 rfl ?_
  refine cb_isub hok dX9_clustersOf_150 ?_
  refine cb_iast hok dX9_clustersOf_151 skM_b15 skM_c15 ?_
  refine cb_iload_n hok dX9_clustersOf_152 rfl ?_
  refine cb_ifne (tgt := 158) hok rfl dX9_clustersOf_153 (by decide) (fun _ => ?_) (fun _ => ?_)
  · refine cb_fewer (ls' := [some (.inr 0), none, some (.inl x2), none, some (.inl x4)]) ⟨rfl, ⟨rfl, ⟨rfl, trivial⟩⟩⟩ ?_
    exact J_X9_clustersOf_b158 hJ hok hk9 _ _ _
  · refine cb_iconst hok dX9_clustersOf_156 ?_
    refine cb_istore_n (ls' := [some (.inr 0), some (.inl x1), some (.inl 0), some (.inl x3), some (.inl x4)]) hok dX9_clustersOf_157 (by decide) rfl ?_
    refine cb_fewer (ls' := [some (.inr 0), none, some (.inl 0), none, some (.inl x4)]) ⟨rfl, ⟨rfl, ⟨rfl, trivial⟩⟩⟩ ?_
    exact J_X9_clustersOf_b158 hJ hok hk9 _ _ _
def f_X9_clustersOf_b107 (kk9 : Int → Int → cb_S → Option (Int × cb_S)) : Nat → Int → Int → Int → Int → cb_S → Option (Int × cb_S)
  | 0 => fun _ _ _ _ _ => none
  | n + 1 => fun x1 x2 x3 x4 g => if cb_w x3 = 0 then (if cb_w (g 0 1) ≤ cb_w x4 then (f_X9_clustersOf_b139 kk9 x1 x2 x3 x4 g) else (if 0 ≤ cb_w x4 ∧ cb_w x4 < (64 : Nat) then ((v_X9_isMark g (g 1 ((cb_w x4).toNat))).bind (fun r1 => if cb_w r1 = 0 then (f_X9_clustersOf_b139 kk9 x1 x2 x3 x4 g) else ((f_X9_clustersOf_b107 kk9 n) x1 x2 x3 (x4 + 1) g))) else none)) else (f_X9_clustersOf_b139 kk9 x1 x2 x3 x4 g)
set_option maxRecDepth 100000 in
theorem J_X9_clustersOf_b107 {O : cb_O} {M : cb_M} (hJ : cb_J O skM) (hok : cb_ok O skM M cX9_clustersOf 5 RX9 none) {kk9 : Int → Int → cb_S → Option (Int × cb_S)} (hk9 : ∀ (x1 x2 : Int) (g : cb_S), cb_j O skM true rm_X9_clustersOf M 5 9 [some (.inr 0), some (.inl x1), some (.inl x2), none, none] [] g (kk9 x1 x2 g)) : ∀ (n : Nat) (x1 x2 x3 x4 : Int) (g : cb_S), cb_j O skM true rm_X9_clustersOf M 5 107 [some (.inr 0), some (.inl x1), some (.inl x2), some (.inl x3), some (.inl x4)] [] g (f_X9_clustersOf_b107 kk9 n x1 x2 x3 x4 g) := by
  intro n
  induction n with
  | zero => intros; exact cb_none
  | succ n hk107 =>
    intro x1 x2 x3 x4 g
    show cb_j _ _ _ _ _ _ _ _ _ _ (if cb_w x3 = 0 then (if cb_w (g 0 1) ≤ cb_w x4 then (f_X9_clustersOf_b139 kk9 x1 x2 x3 x4 g) else (if 0 ≤ cb_w x4 ∧ cb_w x4 < (64 : Nat) then ((v_X9_isMark g (g 1 ((cb_w x4).toNat))).bind (fun r1 => if cb_w r1 = 0 then (f_X9_clustersOf_b139 kk9 x1 x2 x3 x4 g) else ((f_X9_clustersOf_b107 kk9 n) x1 x2 x3 (x4 + 1) g))) else none)) else (f_X9_clustersOf_b139 kk9 x1 x2 x3 x4 g))
    refine cb_iload_n hok dX9_clustersOf_107 rfl ?_
    refine cb_ifne (tgt := 139) hok rfl dX9_clustersOf_108 (by decide) (fun _ => ?_) (fun _ => ?_)
    · refine cb_fewer (ls' := [some (.inr 0), some (.inl x1), some (.inl x2), some (.inl x3), some (.inl x4)]) ⟨rfl, ⟨rfl, ⟨rfl, ⟨rfl, ⟨rfl, trivial⟩⟩⟩⟩⟩ ?_
      exact J_X9_clustersOf_b139 hJ hok hk9 _ _ _ _ _
    · refine cb_iload hok dX9_clustersOf_111 rfl ?_
      refine cb_aload_n hok dX9_clustersOf_113 rfl ?_
      refine cb_gi hok dX9_clustersOf_114 fl_RX9_81 skM_b0 skM_c0 rfl ?_
      refine cb_icge (tgt := 139) hok rfl rfl dX9_clustersOf_117 (by decide) (fun _ => ?_) (fun _ => ?_)
      · refine cb_fewer (ls' := [some (.inr 0), some (.inl x1), some (.inl x2), some (.inl x3), some (.inl x4)]) ⟨rfl, ⟨rfl, ⟨rfl, ⟨rfl, ⟨rfl, trivial⟩⟩⟩⟩⟩ ?_
        exact J_X9_clustersOf_b139 hJ hok hk9 _ _ _ _ _
      · refine cb_aload_n hok dX9_clustersOf_120 rfl ?_
        refine cb_gr hok dX9_clustersOf_121 fl_RX9_7 skM_b0 skM_c0 rfl ?_
        refine cb_iload hok dX9_clustersOf_124 rfl ?_
        refine cb_iald hok dX9_clustersOf_126 skM_b1 skM_c1 ?_
        refine cb_csr (as := [.inl (g 1 ((cb_w x4).toNat))]) (rest := []) hok lk_RX9_103 (by decide) (by decide) dX9_clustersOf_127 (fun q1 hq1 => C_X9_isMark hJ _ _ q1 hq1) rfl rfl (Nat.le_of_ble_eq_true rfl) (fun r1 => ?_)
        refine cb_ifeq (tgt := 139) hok rfl dX9_clustersOf_130 (by decide) (fun _ => ?_) (fun _ => ?_)
        · refine cb_fewer (ls' := [some (.inr 0), some (.inl x1), some (.inl x2), some (.inl x3), some (.inl x4)]) ⟨rfl, ⟨rfl, ⟨rfl, ⟨rfl, ⟨rfl, trivial⟩⟩⟩⟩⟩ ?_
          exact J_X9_clustersOf_b139 hJ hok hk9 _ _ _ _ _
        · refine cb_iinc (ls' := [some (.inr 0), some (.inl x1), some (.inl x2), some (.inl x3), some (.inl (x4 + 1))]) hok dX9_clustersOf_133 rfl (by decide) rfl ?_
          refine cb_goto (tgt := 107) hok dX9_clustersOf_136 (by decide) ?_
          refine cb_fewer (ls' := [some (.inr 0), some (.inl x1), some (.inl x2), some (.inl x3), some (.inl (x4 + 1))]) ⟨rfl, ⟨rfl, ⟨rfl, ⟨rfl, ⟨rfl, trivial⟩⟩⟩⟩⟩ ?_
          exact hk107 _ _ _ _ _
def f_X9_clustersOf_b105 (kk9 : Int → Int → cb_S → Option (Int × cb_S)) (x1 x2 x3 s0 : Int) (g : cb_S) : Option (Int × cb_S) := f_X9_clustersOf_b107 kk9 cb_N x1 x2 x3 s0 g
set_option maxRecDepth 100000 in
theorem J_X9_clustersOf_b105 {O : cb_O} {M : cb_M} (hJ : cb_J O skM) (hok : cb_ok O skM M cX9_clustersOf 5 RX9 none) {kk9 : Int → Int → cb_S → Option (Int × cb_S)} (hk9 : ∀ (x1 x2 : Int) (g : cb_S), cb_j O skM true rm_X9_clustersOf M 5 9 [some (.inr 0), some (.inl x1), some (.inl x2), none, none] [] g (kk9 x1 x2 g)) : ∀ (x1 x2 x3 s0 : Int) (g : cb_S), cb_j O skM true rm_X9_clustersOf M 5 105 [some (.inr 0), some (.inl x1), some (.inl x2), some (.inl x3), none] [.inl s0] g (f_X9_clustersOf_b105 kk9 x1 x2 x3 s0 g) := by
  intro x1 x2 x3 s0 g
  show cb_j _ _ _ _ _ _ _ _ _ _ (f_X9_clustersOf_b107 kk9 cb_N x1 x2 x3 s0 g)
  refine cb_istore (ls' := [some (.inr 0), some (.inl x1), some (.inl x2), some (.inl x3), some (.inl s0)]) hok dX9_clustersOf_105 (by decide) rfl ?_
  refine cb_fewer (ls' := [some (.inr 0), some (.inl x1), some (.inl x2), some (.inl x3), some (.inl s0)]) ⟨rfl, ⟨rfl, ⟨rfl, ⟨rfl, ⟨rfl, trivial⟩⟩⟩⟩⟩ ?_
  exact J_X9_clustersOf_b107 hJ hok hk9 cb_N _ _ _ _ _
def f_X9_clustersOf_b83 (kk9 : Int → Int → cb_S → Option (Int × cb_S)) (x1 x2 x3 s0 s1 : Int) (g : cb_S) : Option (Int × cb_S) := if (0 ≤ cb_w s1 ∧ cb_w s1 < (64 : Nat)) ∧ ((s0 : Int) = 0 ∨ (s0 : Int) = 1) then (if 0 ≤ cb_w (g 0 20) ∧ cb_w (g 0 20) < (64 : Nat) then (if cb_w ((cb_u g 16 (cb_w s1).toNat s0) 16 ((cb_w (g 0 20)).toNat)) = 0 then (f_X9_clustersOf_b105 kk9 x1 x2 x3 (x1 + 1) (cb_u g 16 (cb_w s1).toNat s0)) else (f_X9_clustersOf_b105 kk9 x1 x2 x3 (x1 + 3) (cb_u g 16 (cb_w s1).toNat s0))) else none) else none
set_option maxRecDepth 100000 in
theorem J_X9_clustersOf_b83 {O : cb_O} {M : cb_M} (hJ : cb_J O skM) (hok : cb_ok O skM M cX9_clustersOf 5 RX9 none) {kk9 : Int → Int → cb_S → Option (Int × cb_S)} (hk9 : ∀ (x1 x2 : Int) (g : cb_S), cb_j O skM true rm_X9_clustersOf M 5 9 [some (.inr 0), some (.inl x1), some (.inl x2), none, none] [] g (kk9 x1 x2 g)) : ∀ (x1 x2 x3 s0 s1 : Int) (g : cb_S), cb_j O skM true rm_X9_clustersOf M 5 83 [some (.inr 0), some (.inl x1), some (.inl x2), some (.inl x3), none] [.inl s0, .inl s1, .inr 16] g (f_X9_clustersOf_b83 kk9 x1 x2 x3 s0 s1 g) := by
  intro x1 x2 x3 s0 s1 g
  show cb_j _ _ _ _ _ _ _ _ _ _ (if (0 ≤ cb_w s1 ∧ cb_w s1 < (64 : Nat)) ∧ ((s0 : Int) = 0 ∨ (s0 : Int) = 1) then (if 0 ≤ cb_w (g 0 20) ∧ cb_w (g 0 20) < (64 : Nat) then (if cb_w ((cb_u g 16 (cb_w s1).toNat s0) 16 ((cb_w (g 0 20)).toNat)) = 0 then (f_X9_clustersOf_b105 kk9 x1 x2 x3 (x1 + 1) (cb_u g 16 (cb_w s1).toNat s0)) else (f_X9_clustersOf_b105 kk9 x1 x2 x3 (x1 + 3) (cb_u g 16 (cb_w s1).toNat s0))) else none) else none)
  refine cb_zast hok dX9_clustersOf_83 skM_b16 skM_c16 ?_
  refine cb_aload_n hok dX9_clustersOf_84 rfl ?_
  refine cb_gr hok dX9_clustersOf_85 fl_RX9_56 skM_b0 skM_c0 rfl ?_
  refine cb_aload_n hok dX9_clustersOf_88 rfl ?_
  refine cb_gi hok dX9_clustersOf_89 fl_RX9_129 skM_b0 skM_c0 rfl ?_
  refine cb_top (y := g 0 20) rfl ?_
  refine cb_zald hok dX9_clustersOf_92 skM_b16 skM_c16 ?_
  refine cb_ifeq (tgt := 102) hok rfl dX9_clustersOf_93 (by decide) (fun _ => ?_) (fun _ => ?_)
  · refine cb_iload_n hok dX9_clustersOf_102 rfl ?_
    refine cb_iconst hok dX9_clustersOf_103 ?_
    refine cb_iadd hok dX9_clustersOf_104 ?_
    refine cb_fewer (ls' := [some (.inr 0), some (.inl x1), some (.inl x2), some (.inl x3), none]) ⟨rfl, ⟨rfl, ⟨rfl, ⟨rfl, trivial⟩⟩⟩⟩ ?_
    exact J_X9_clustersOf_b105 hJ hok hk9 _ _ _ _ _
  · refine cb_iload_n hok dX9_clustersOf_96 rfl ?_
    refine cb_iconst hok dX9_clustersOf_97 ?_
    refine cb_iadd hok dX9_clustersOf_98 ?_
    refine cb_goto (tgt := 105) hok dX9_clustersOf_99 (by decide) ?_
    refine cb_fewer (ls' := [some (.inr 0), some (.inl x1), some (.inl x2), some (.inl x3), none]) ⟨rfl, ⟨rfl, ⟨rfl, ⟨rfl, trivial⟩⟩⟩⟩ ?_
    exact J_X9_clustersOf_b105 hJ hok hk9 _ _ _ _ _
def f_X9_clustersOf_b82 (kk9 : Int → Int → cb_S → Option (Int × cb_S)) (x1 x2 x3 s0 : Int) (g : cb_S) : Option (Int × cb_S) := f_X9_clustersOf_b83 kk9 x1 x2 x3 0 s0 g
set_option maxRecDepth 100000 in
theorem J_X9_clustersOf_b82 {O : cb_O} {M : cb_M} (hJ : cb_J O skM) (hok : cb_ok O skM M cX9_clustersOf 5 RX9 none) {kk9 : Int → Int → cb_S → Option (Int × cb_S)} (hk9 : ∀ (x1 x2 : Int) (g : cb_S), cb_j O skM true rm_X9_clustersOf M 5 9 [some (.inr 0), some (.inl x1), some (.inl x2), none, none] [] g (kk9 x1 x2 g)) : ∀ (x1 x2 x3 s0 : Int) (g : cb_S), cb_j O skM true rm_X9_clustersOf M 5 82 [some (.inr 0), some (.inl x1), some (.inl x2), some (.inl x3), none] [.inl s0, .inr 16] g (f_X9_clustersOf_b82 kk9 x1 x2 x3 s0 g) := by
  intro x1 x2 x3 s0 g
  show cb_j _ _ _ _ _ _ _ _ _ _ (f_X9_clustersOf_b83 kk9 x1 x2 x3 0 s0 g)
  refine cb_iconst hok dX9_clustersOf_82 ?_
  refine cb_fewer (ls' := [some (.inr 0), some (.inl x1), some (.inl x2), some (.inl x3), none]) ⟨rfl, ⟨rfl, ⟨rfl, ⟨rfl, trivial⟩⟩⟩⟩ ?_
  exact J_X9_clustersOf_b83 hJ hok hk9 _ _ _ _ _ _
def f_X9_clustersOf_b48 (kk9 : Int → Int → cb_S → Option (Int × cb_S)) (x1 x2 s0 : Int) (g : cb_S) : Option (Int × cb_S) := if cb_w (g 0 1) ≤ cb_w (x1 + 1) then (f_X9_clustersOf_b82 kk9 x1 x2 s0 (g 0 20) g) else (if 0 ≤ cb_w (x1 + 1) ∧ cb_w (x1 + 1) < (64 : Nat) then (if cb_w (g 9 ((cb_w (x1 + 1)).toNat)) = 0 then (f_X9_clustersOf_b82 kk9 x1 x2 s0 (g 0 20) g) else (f_X9_clustersOf_b83 kk9 x1 x2 s0 1 (g 0 20) g)) else none)
set_option maxRecDepth 100000 in
theorem J_X9_clustersOf_b48 {O : cb_O} {M : cb_M} (hJ : cb_J O skM) (hok : cb_ok O skM M cX9_clustersOf 5 RX9 none) {kk9 : Int → Int → cb_S → Option (Int × cb_S)} (hk9 : ∀ (x1 x2 : Int) (g : cb_S), cb_j O skM true rm_X9_clustersOf M 5 9 [some (.inr 0), some (.inl x1), some (.inl x2), none, none] [] g (kk9 x1 x2 g)) : ∀ (x1 x2 s0 : Int) (g : cb_S), cb_j O skM true rm_X9_clustersOf M 5 48 [some (.inr 0), some (.inl x1), some (.inl x2), none, none] [.inl s0] g (f_X9_clustersOf_b48 kk9 x1 x2 s0 g) := by
  intro x1 x2 s0 g
  show cb_j _ _ _ _ _ _ _ _ _ _ (if cb_w (g 0 1) ≤ cb_w (x1 + 1) then (f_X9_clustersOf_b82 kk9 x1 x2 s0 (g 0 20) g) else (if 0 ≤ cb_w (x1 + 1) ∧ cb_w (x1 + 1) < (64 : Nat) then (if cb_w (g 9 ((cb_w (x1 + 1)).toNat)) = 0 then (f_X9_clustersOf_b82 kk9 x1 x2 s0 (g 0 20) g) else (f_X9_clustersOf_b83 kk9 x1 x2 s0 1 (g 0 20) g)) else none))
  refine cb_istore_n (ls' := [some (.inr 0), some (.inl x1), some (.inl x2), some (.inl s0), none]) hok dX9_clustersOf_48 (by decide) rfl ?_
  refine cb_aload_n hok dX9_clustersOf_49 rfl ?_
  refine cb_gr hok dX9_clustersOf_50 fl_RX9_56 skM_b0 skM_c0 rfl ?_
  refine cb_aload_n hok dX9_clustersOf_53 rfl ?_
  refine cb_gi hok dX9_clustersOf_54 fl_RX9_129 skM_b0 skM_c0 rfl ?_
  refine cb_iload_n hok dX9_clustersOf_57 rfl ?_
  refine cb_iconst hok dX9_clustersOf_58 ?_
  refine cb_iadd hok dX9_clustersOf_59 ?_
  refine cb_aload_n hok dX9_clustersOf_60 rfl ?_
  refine cb_gi hok dX9_clustersOf_61 fl_RX9_81 skM_b0 skM_c0 rfl ?_
  refine cb_icge (tgt := 82) hok rfl rfl dX9_clustersOf_64 (by decide) (fun _ => ?_) (fun _ => ?_)
  · refine cb_fewer (ls' := [some (.inr 0), some (.inl x1), some (.inl x2), some (.inl s0), none]) ⟨rfl, ⟨rfl, ⟨rfl, ⟨rfl, trivial⟩⟩⟩⟩ ?_
    exact J_X9_clustersOf_b82 hJ hok hk9 _ _ _ _ _
  · refine cb_aload_n hok dX9_clustersOf_67 rfl ?_
    refine cb_gr hok dX9_clustersOf_68 fl_RX9_34 skM_b0 skM_c0 rfl ?_
    refine cb_iload_n hok dX9_clustersOf_71 rfl ?_
    refine cb_iconst hok dX9_clustersOf_72 ?_
    refine cb_iadd hok dX9_clustersOf_73 ?_
    refine cb_zald hok dX9_clustersOf_74 skM_b9 skM_c9 ?_
    refine cb_ifeq (tgt := 82) hok rfl dX9_clustersOf_75 (by decide) (fun _ => ?_) (fun _ => ?_)
    · refine cb_fewer (ls' := [some (.inr 0), some (.inl x1), some (.inl x2), some (.inl s0), none]) ⟨rfl, ⟨rfl, ⟨rfl, ⟨rfl, trivial⟩⟩⟩⟩ ?_
      exact J_X9_clustersOf_b82 hJ hok hk9 _ _ _ _ _
    · refine cb_iconst hok dX9_clustersOf_78 ?_
      refine cb_goto (tgt := 83) hok dX9_clustersOf_79 (by decide) ?_
      refine cb_fewer (ls' := [some (.inr 0), some (.inl x1), some (.inl x2), some (.inl s0), none]) ⟨rfl, ⟨rfl, ⟨rfl, ⟨rfl, trivial⟩⟩⟩⟩ ?_
      exact J_X9_clustersOf_b83 hJ hok hk9 _ _ _ _ _ _
def f_X9_clustersOf_b47 (kk9 : Int → Int → cb_S → Option (Int × cb_S)) (x1 x2 : Int) (g : cb_S) : Option (Int × cb_S) := f_X9_clustersOf_b48 kk9 x1 x2 0 g
set_option maxRecDepth 100000 in
theorem J_X9_clustersOf_b47 {O : cb_O} {M : cb_M} (hJ : cb_J O skM) (hok : cb_ok O skM M cX9_clustersOf 5 RX9 none) {kk9 : Int → Int → cb_S → Option (Int × cb_S)} (hk9 : ∀ (x1 x2 : Int) (g : cb_S), cb_j O skM true rm_X9_clustersOf M 5 9 [some (.inr 0), some (.inl x1), some (.inl x2), none, none] [] g (kk9 x1 x2 g)) : ∀ (x1 x2 : Int) (g : cb_S), cb_j O skM true rm_X9_clustersOf M 5 47 [some (.inr 0), some (.inl x1), some (.inl x2), none, none] [] g (f_X9_clustersOf_b47 kk9 x1 x2 g) := by
  intro x1 x2 g
  show cb_j _ _ _ _ _ _ _ _ _ _ (f_X9_clustersOf_b48 kk9 x1 x2 0 g)
  refine cb_iconst hok dX9_clustersOf_47 ?_
  refine cb_fewer (ls' := [some (.inr 0), some (.inl x1), some (.inl x2), none, none]) ⟨rfl, ⟨rfl, ⟨rfl, trivial⟩⟩⟩ ?_
  exact J_X9_clustersOf_b48 hJ hok hk9 _ _ _ _
def f_X9_clustersOf_b9 : Nat → Int → Int → cb_S → Option (Int × cb_S)
  | 0 => fun _ _ _ => none
  | n + 1 => fun x1 x2 g => if cb_w (g 0 1) ≤ cb_w x1 then (some (0, g)) else (if 0 ≤ cb_w (g 0 20) ∧ cb_w (g 0 20) < (64 : Nat) then (if 0 ≤ cb_w x1 ∧ cb_w x1 < (64 : Nat) then ((v_X9_isMark (cb_u g 14 (cb_w (g 0 20)).toNat x1) (g 1 ((cb_w x1).toNat))).bind (fun r1 => if cb_w r1 = 0 then (f_X9_clustersOf_b47 (f_X9_clustersOf_b9 n) x1 x2 (cb_u g 14 (cb_w (g 0 20)).toNat x1)) else (if cb_w x2 = 0 then (f_X9_clustersOf_b47 (f_X9_clustersOf_b9 n) x1 x2 (cb_u g 14 (cb_w (g 0 20)).toNat x1)) else (f_X9_clustersOf_b48 (f_X9_clustersOf_b9 n) x1 x2 1 (cb_u g 14 (cb_w (g 0 20)).toNat x1))))) else none) else none)
set_option maxRecDepth 100000 in
theorem J_X9_clustersOf_b9 {O : cb_O} {M : cb_M} (hJ : cb_J O skM) (hok : cb_ok O skM M cX9_clustersOf 5 RX9 none) : ∀ (n : Nat) (x1 x2 : Int) (g : cb_S), cb_j O skM true rm_X9_clustersOf M 5 9 [some (.inr 0), some (.inl x1), some (.inl x2), none, none] [] g (f_X9_clustersOf_b9 n x1 x2 g) := by
  intro n
  induction n with
  | zero => intros; exact cb_none
  | succ n hk9 =>
    intro x1 x2 g
    show cb_j _ _ _ _ _ _ _ _ _ _ (if cb_w (g 0 1) ≤ cb_w x1 then (some (0, g)) else (if 0 ≤ cb_w (g 0 20) ∧ cb_w (g 0 20) < (64 : Nat) then (if 0 ≤ cb_w x1 ∧ cb_w x1 < (64 : Nat) then ((v_X9_isMark (cb_u g 14 (cb_w (g 0 20)).toNat x1) (g 1 ((cb_w x1).toNat))).bind (fun r1 => if cb_w r1 = 0 then (f_X9_clustersOf_b47 (f_X9_clustersOf_b9 n) x1 x2 (cb_u g 14 (cb_w (g 0 20)).toNat x1)) else (if cb_w x2 = 0 then (f_X9_clustersOf_b47 (f_X9_clustersOf_b9 n) x1 x2 (cb_u g 14 (cb_w (g 0 20)).toNat x1)) else (f_X9_clustersOf_b48 (f_X9_clustersOf_b9 n) x1 x2 1 (cb_u g 14 (cb_w (g 0 20)).toNat x1))))) else none) else none))
    refine cb_iload_n hok dX9_clustersOf_9 rfl ?_
    refine cb_aload_n hok dX9_clustersOf_10 rfl ?_
    refine cb_gi hok dX9_clustersOf_11 fl_RX9_81 skM_b0 skM_c0 rfl ?_
    refine cb_icge (tgt := 174) hok rfl rfl dX9_clustersOf_14 (by decide) (fun _ => ?_) (fun _ => ?_)
    · exact cb_vret hok dX9_clustersOf_174
    · refine cb_aload_n hok dX9_clustersOf_17 rfl ?_
      refine cb_gr hok dX9_clustersOf_18 fl_RX9_50 skM_b0 skM_c0 rfl ?_
      refine cb_aload_n hok dX9_clustersOf_21 rfl ?_
      refine cb_gi hok dX9_clustersOf_22 fl_RX9_129 skM_b0 skM_c0 rfl ?_
      refine cb_iload_n hok dX9_clustersOf_25 rfl ?_
      refine cb_iast hok dX9_clustersOf_26 skM_b14 skM_c14 ?_
      refine cb_aload_n hok dX9_clustersOf_27 rfl ?_
      refine cb_gr hok dX9_clustersOf_28 fl_RX9_7 skM_b0 skM_c0 rfl ?_
      refine cb_iload_n hok dX9_clustersOf_31 rfl ?_
      refine cb_iald hok dX9_clustersOf_32 skM_b1 skM_c1 ?_
      refine cb_top (y := g 1 ((cb_w x1).toNat)) (by first | rfl | (simp [cb_u])) ?_
      refine cb_csr (as := [.inl (g 1 ((cb_w x1).toNat))]) (rest := []) hok lk_RX9_103 (by decide) (by decide) dX9_clustersOf_33 (fun q1 hq1 => C_X9_isMark hJ _ _ q1 hq1) rfl rfl (Nat.le_of_ble_eq_true rfl) (fun r1 => ?_)
      refine cb_ifeq (tgt := 47) hok rfl dX9_clustersOf_36 (by decide) (fun _ => ?_) (fun _ => ?_)
      · refine cb_fewer (ls' := [some (.inr 0), some (.inl x1), some (.inl x2), none, none]) ⟨rfl, ⟨rfl, ⟨rfl, trivial⟩⟩⟩ ?_
        exact J_X9_clustersOf_b47 hJ hok hk9 _ _ _
      · refine cb_iload_n hok dX9_clustersOf_39 rfl ?_
        refine cb_ifeq (tgt := 47) hok rfl dX9_clustersOf_40 (by decide) (fun _ => ?_) (fun _ => ?_)
        · refine cb_fewer (ls' := [some (.inr 0), some (.inl x1), some (.inl x2), none, none]) ⟨rfl, ⟨rfl, ⟨rfl, trivial⟩⟩⟩ ?_
          exact J_X9_clustersOf_b47 hJ hok hk9 _ _ _
        · refine cb_iconst hok dX9_clustersOf_43 ?_
          refine cb_goto (tgt := 48) hok dX9_clustersOf_44 (by decide) ?_
          refine cb_fewer (ls' := [some (.inr 0), some (.inl x1), some (.inl x2), none, none]) ⟨rfl, ⟨rfl, ⟨rfl, trivial⟩⟩⟩ ?_
          exact J_X9_clustersOf_b48 hJ hok hk9 _ _ _ _
def f_X9_clustersOf (g : cb_S) : Option (Int × cb_S) := f_X9_clustersOf_b9  cb_N 0 1 (cb_u g 0 20 0)
set_option maxRecDepth 100000 in
theorem C_X9_clustersOf {O : cb_O} (hJ : cb_J O skM) (g : cb_S) : ∀ q, f_X9_clustersOf g = some q → cb_m O skM true yX9_clustersOf cX9_clustersOf 5 none rm_X9_clustersOf [.inr 0] g q := by
  intro q hq
  refine cb_of_body hJ (by decide) (Nat.le_of_ble_eq_true rfl) hq (fun M hok => ?_)
  show cb_j _ _ _ _ _ _ _ [some (.inr 0), none, none, none, none] _ _ (f_X9_clustersOf_b9  cb_N 0 1 (cb_u g 0 20 0))
  refine cb_aload_n hok dX9_clustersOf_0 rfl ?_
  refine cb_iconst hok dX9_clustersOf_1 ?_
  refine cb_pi hok dX9_clustersOf_2 fp_RX9_129 skM_b0 skM_c0 rfl ?_
  refine cb_iconst hok dX9_clustersOf_5 ?_
  refine cb_istore_n (ls' := [some (.inr 0), some (.inl 0), none, none, none]) hok dX9_clustersOf_6 (by decide) rfl ?_
  refine cb_iconst hok dX9_clustersOf_7 ?_
  refine cb_istore_n (ls' := [some (.inr 0), some (.inl 0), some (.inl 1), none, none]) hok dX9_clustersOf_8 (by decide) rfl ?_
  refine cb_fewer (ls' := [some (.inr 0), some (.inl 0), some (.inl 1), none, none]) ⟨rfl, ⟨rfl, ⟨rfl, trivial⟩⟩⟩ ?_
  exact J_X9_clustersOf_b9 hJ hok  cb_N _ _ _
/-! CaretBenchModel turns(I)V -/
def f_X9_turns_b127 (kk2 : Int → Int → cb_S → Option (Int × cb_S)) (x1 x2 : Int) (g : cb_S) : Option (Int × cb_S) := kk2 x1 (x2 + 1) g
set_option maxRecDepth 100000 in
theorem J_X9_turns_b127 {O : cb_O} {M : cb_M} (hJ : cb_J O skM) (hok : cb_ok O skM M cX9_turns 7 RX9 none) {kk2 : Int → Int → cb_S → Option (Int × cb_S)} (hk2 : ∀ (x1 x2 : Int) (g : cb_S), cb_j O skM true rm_X9_turns M 7 2 [some (.inr 0), some (.inl x1), some (.inl x2), none, none, none, none] [] g (kk2 x1 x2 g)) : ∀ (x1 x2 : Int) (g : cb_S), cb_j O skM true rm_X9_turns M 7 127 [some (.inr 0), some (.inl x1), some (.inl x2), none, none, none, none] [] g (f_X9_turns_b127 kk2 x1 x2 g) := by
  intro x1 x2 g
  show cb_j _ _ _ _ _ _ _ _ _ _ (kk2 x1 (x2 + 1) g)
  refine cb_iinc (ls' := [some (.inr 0), some (.inl x1), some (.inl (x2 + 1)), none, none, none, none]) hok dX9_turns_127 rfl (by decide) rfl ?_
  refine cb_goto (tgt := 2) hok dX9_turns_130 (by decide) ?_
  refine cb_fewer (ls' := [some (.inr 0), some (.inl x1), some (.inl (x2 + 1)), none, none, none, none]) ⟨rfl, ⟨rfl, ⟨rfl, trivial⟩⟩⟩ ?_
  exact hk2 _ _ _
def f_X9_turns_b77 (kk2 : Int → Int → cb_S → Option (Int × cb_S)) : Nat → Int → Int → Int → Int → cb_S → Option (Int × cb_S)
  | 0 => fun _ _ _ _ _ => none
  | n + 1 => fun x1 x3 x4 x5 g => if cb_w x5 ≤ cb_w x4 then (f_X9_turns_b127 kk2 x1 x3 g) else (if 0 ≤ cb_w x4 ∧ cb_w x4 < (64 : Nat) then (if 0 ≤ cb_w x5 ∧ cb_w x5 < (64 : Nat) then (if 0 ≤ cb_w x4 ∧ cb_w x4 < (64 : Nat) then (if 0 ≤ cb_w x5 ∧ cb_w x5 < (64 : Nat) then ((f_X9_turns_b77 kk2 n) x1 x3 (x4 + 1) (x5 + (-1)) (cb_u (cb_u g 20 (cb_w x4).toNat (g 20 ((cb_w x5).toNat))) 20 (cb_w x5).toNat (g 20 ((cb_w x4).toNat)))) else none) else none) else none) else none)
set_option maxRecDepth 100000 in
theorem J_X9_turns_b77 {O : cb_O} {M : cb_M} (hJ : cb_J O skM) (hok : cb_ok O skM M cX9_turns 7 RX9 none) {kk2 : Int → Int → cb_S → Option (Int × cb_S)} (hk2 : ∀ (x1 x2 : Int) (g : cb_S), cb_j O skM true rm_X9_turns M 7 2 [some (.inr 0), some (.inl x1), some (.inl x2), none, none, none, none] [] g (kk2 x1 x2 g)) : ∀ (n : Nat) (x1 x3 x4 x5 : Int) (g : cb_S), cb_j O skM true rm_X9_turns M 7 77 [some (.inr 0), some (.inl x1), none, some (.inl x3), some (.inl x4), some (.inl x5), none] [] g (f_X9_turns_b77 kk2 n x1 x3 x4 x5 g) := by
  intro n
  induction n with
  | zero => intros; exact cb_none
  | succ n hk77 =>
    intro x1 x3 x4 x5 g
    show cb_j _ _ _ _ _ _ _ _ _ _ (if cb_w x5 ≤ cb_w x4 then (f_X9_turns_b127 kk2 x1 x3 g) else (if 0 ≤ cb_w x4 ∧ cb_w x4 < (64 : Nat) then (if 0 ≤ cb_w x5 ∧ cb_w x5 < (64 : Nat) then (if 0 ≤ cb_w x4 ∧ cb_w x4 < (64 : Nat) then (if 0 ≤ cb_w x5 ∧ cb_w x5 < (64 : Nat) then ((f_X9_turns_b77 kk2 n) x1 x3 (x4 + 1) (x5 + (-1)) (cb_u (cb_u g 20 (cb_w x4).toNat (g 20 ((cb_w x5).toNat))) 20 (cb_w x5).toNat (g 20 ((cb_w x4).toNat)))) else none) else none) else none) else none))
    refine cb_iload hok dX9_turns_77 rfl ?_
    refine cb_iload hok dX9_turns_79 rfl ?_
    refine cb_icge (tgt := 125) hok rfl rfl dX9_turns_81 (by decide) (fun _ => ?_) (fun _ => ?_)
    · refine cb_iload_n hok dX9_turns_125 rfl ?_
      refine cb_istore_n (ls' := [some (.inr 0), some (.inl x1), some (.inl x3), some (.inl x3), some (.inl x4), some (.inl x5), none]) hok dX9_turns_126 (by decide) rfl ?_
      refine cb_fewer (ls' := [some (.inr 0), some (.inl x1), some (.inl x3), none, none, none, none]) ⟨rfl, ⟨rfl, ⟨rfl, trivial⟩⟩⟩ ?_
      exact J_X9_turns_b127 hJ hok hk2 _ _ _
    · refine cb_aload_n hok dX9_turns_84 rfl ?_
      refine cb_gr hok dX9_turns_85 fl_RX9_68 skM_b0 skM_c0 rfl ?_
      refine cb_iload hok dX9_turns_88 rfl ?_
      refine cb_iald hok dX9_turns_90 skM_b20 skM_c20 ?_
      refine cb_istore (ls' := [some (.inr 0), some (.inl x1), none, some (.inl x3), some (.inl x4), some (.inl x5), some (.inl (g 20 ((cb_w x4).toNat)))]) hok dX9_turns_91 (by decide) rfl ?_
      refine cb_aload_n hok dX9_turns_93 rfl ?_
      refine cb_gr hok dX9_turns_94 fl_RX9_68 skM_b0 skM_c0 rfl ?_
      refine cb_iload hok dX9_turns_97 rfl ?_
      refine cb_aload_n hok dX9_turns_99 rfl ?_
      refine cb_gr hok dX9_turns_100 fl_RX9_68 skM_b0 skM_c0 rfl ?_
      refine cb_iload hok dX9_turns_103 rfl ?_
      refine cb_iald hok dX9_turns_105 skM_b20 skM_c20 ?_
      refine cb_iast hok dX9_turns_106 skM_b20 skM_c20 ?_
      refine cb_aload_n hok dX9_turns_107 rfl ?_
      refine cb_gr hok dX9_turns_108 fl_RX9_68 skM_b0 skM_c0 rfl ?_
      refine cb_iload hok dX9_turns_111 rfl ?_
      refine cb_iload hok dX9_turns_113 rfl ?_
      refine cb_iast hok dX9_turns_115 skM_b20 skM_c20 ?_
      refine cb_iinc (ls' := [some (.inr 0), some (.inl x1), none, some (.inl x3), some (.inl (x4 + 1)), some (.inl x5), some (.inl (g 20 ((cb_w x4).toNat)))]) hok dX9_turns_116 rfl (by decide) rfl ?_
      refine cb_iinc (ls' := [some (.inr 0), some (.inl x1), none, some (.inl x3), some (.inl (x4 + 1)), some (.inl (x5 + (-1))), some (.inl (g 20 ((cb_w x4).toNat)))]) hok dX9_turns_119 rfl (by decide) rfl ?_
      refine cb_goto (tgt := 77) hok dX9_turns_122 (by decide) ?_
      refine cb_fewer (ls' := [some (.inr 0), some (.inl x1), none, some (.inl x3), some (.inl (x4 + 1)), some (.inl (x5 + (-1))), none]) ⟨rfl, ⟨rfl, ⟨rfl, ⟨rfl, ⟨rfl, trivial⟩⟩⟩⟩⟩ ?_
      exact hk77 _ _ _ _ _
def f_X9_turns_b69 (kk2 : Int → Int → cb_S → Option (Int × cb_S)) (x1 x2 x3 : Int) (g : cb_S) : Option (Int × cb_S) := f_X9_turns_b77 kk2 cb_N x1 x3 x2 (x3 - 1) g
set_option maxRecDepth 100000 in
theorem J_X9_turns_b69 {O : cb_O} {M : cb_M} (hJ : cb_J O skM) (hok : cb_ok O skM M cX9_turns 7 RX9 none) {kk2 : Int → Int → cb_S → Option (Int × cb_S)} (hk2 : ∀ (x1 x2 : Int) (g : cb_S), cb_j O skM true rm_X9_turns M 7 2 [some (.inr 0), some (.inl x1), some (.inl x2), none, none, none, none] [] g (kk2 x1 x2 g)) : ∀ (x1 x2 x3 : Int) (g : cb_S), cb_j O skM true rm_X9_turns M 7 69 [some (.inr 0), some (.inl x1), some (.inl x2), some (.inl x3), none, none, none] [] g (f_X9_turns_b69 kk2 x1 x2 x3 g) := by
  intro x1 x2 x3 g
  show cb_j _ _ _ _ _ _ _ _ _ _ (f_X9_turns_b77 kk2 cb_N x1 x3 x2 (x3 - 1) g)
  refine cb_iload_n hok dX9_turns_69 rfl ?_
  refine cb_istore (ls' := [some (.inr 0), some (.inl x1), some (.inl x2), some (.inl x3), some (.inl x2), none, none]) hok dX9_turns_70 (by decide) rfl ?_
  refine cb_iload_n hok dX9_turns_72 rfl ?_
  refine cb_iconst hok dX9_turns_73 ?_
  refine cb_isub hok dX9_turns_74 ?_
  refine cb_istore (ls' := [some (.inr 0), some (.inl x1), some (.inl x2), some (.inl x3), some (.inl x2), some (.inl (x3 - 1)), none]) hok dX9_turns_75 (by decide) rfl ?_
  refine cb_fewer (ls' := [some (.inr 0), some (.inl x1), none, some (.inl x3), some (.inl x2), some (.inl (x3 - 1)), none]) ⟨rfl, ⟨rfl, ⟨rfl, ⟨rfl, ⟨rfl, trivial⟩⟩⟩⟩⟩ ?_
  exact J_X9_turns_b77 hJ hok hk2 cb_N _ _ _ _ _
def f_X9_turns_b35 (kk2 : Int → Int → cb_S → Option (Int × cb_S)) : Nat → Int → Int → Int → cb_S → Option (Int × cb_S)
  | 0 => fun _ _ _ _ => none
  | n + 1 => fun x1 x2 x3 g => if cb_w (g 0 20) ≤ cb_w x3 then (f_X9_turns_b69 kk2 x1 x2 x3 g) else (if 0 ≤ cb_w x3 ∧ cb_w x3 < (64 : Nat) then (if 0 ≤ cb_w (g 20 ((cb_w x3).toNat)) ∧ cb_w (g 20 ((cb_w x3).toNat)) < (64 : Nat) then (if 0 ≤ cb_w (g 14 ((cb_w (g 20 ((cb_w x3).toNat))).toNat)) ∧ cb_w (g 14 ((cb_w (g 20 ((cb_w x3).toNat))).toNat)) < (64 : Nat) then (if cb_w (g 11 ((cb_w (g 14 ((cb_w (g 20 ((cb_w x3).toNat))).toNat))).toNat)) < cb_w x1 then (f_X9_turns_b69 kk2 x1 x2 x3 g) else ((f_X9_turns_b35 kk2 n) x1 x2 (x3 + 1) g)) else none) else none) else none)
set_option maxRecDepth 100000 in
theorem J_X9_turns_b35 {O : cb_O} {M : cb_M} (hJ : cb_J O skM) (hok : cb_ok O skM M cX9_turns 7 RX9 none) {kk2 : Int → Int → cb_S → Option (Int × cb_S)} (hk2 : ∀ (x1 x2 : Int) (g : cb_S), cb_j O skM true rm_X9_turns M 7 2 [some (.inr 0), some (.inl x1), some (.inl x2), none, none, none, none] [] g (kk2 x1 x2 g)) : ∀ (n : Nat) (x1 x2 x3 : Int) (g : cb_S), cb_j O skM true rm_X9_turns M 7 35 [some (.inr 0), some (.inl x1), some (.inl x2), some (.inl x3), none, none, none] [] g (f_X9_turns_b35 kk2 n x1 x2 x3 g) := by
  intro n
  induction n with
  | zero => intros; exact cb_none
  | succ n hk35 =>
    intro x1 x2 x3 g
    show cb_j _ _ _ _ _ _ _ _ _ _ (if cb_w (g 0 20) ≤ cb_w x3 then (f_X9_turns_b69 kk2 x1 x2 x3 g) else (if 0 ≤ cb_w x3 ∧ cb_w x3 < (64 : Nat) then (if 0 ≤ cb_w (g 20 ((cb_w x3).toNat)) ∧ cb_w (g 20 ((cb_w x3).toNat)) < (64 : Nat) then (if 0 ≤ cb_w (g 14 ((cb_w (g 20 ((cb_w x3).toNat))).toNat)) ∧ cb_w (g 14 ((cb_w (g 20 ((cb_w x3).toNat))).toNat)) < (64 : Nat) then (if cb_w (g 11 ((cb_w (g 14 ((cb_w (g 20 ((cb_w x3).toNat))).toNat))).toNat)) < cb_w x1 then (f_X9_turns_b69 kk2 x1 x2 x3 g) else ((f_X9_turns_b35 kk2 n) x1 x2 (x3 + 1) g)) else none) else none) else none))
    refine cb_iload_n hok dX9_turns_35 rfl ?_
    refine cb_aload_n hok dX9_turns_36 rfl ?_
    refine cb_gi hok dX9_turns_37 fl_RX9_129 skM_b0 skM_c0 rfl ?_
    refine cb_icge (tgt := 69) hok rfl rfl dX9_turns_40 (by decide) (fun _ => ?_) (fun _ => ?_)
    · refine cb_fewer (ls' := [some (.inr 0), some (.inl x1), some (.inl x2), some (.inl x3), none, none, none]) ⟨rfl, ⟨rfl, ⟨rfl, ⟨rfl, trivial⟩⟩⟩⟩ ?_
      exact J_X9_turns_b69 hJ hok hk2 _ _ _ _
    · refine cb_aload_n hok dX9_turns_43 rfl ?_
      refine cb_gr hok dX9_turns_44 fl_RX9_41 skM_b0 skM_c0 rfl ?_
      refine cb_aload_n hok dX9_turns_47 rfl ?_
      refine cb_gr hok dX9_turns_48 fl_RX9_50 skM_b0 skM_c0 rfl ?_
      refine cb_aload_n hok dX9_turns_51 rfl ?_
      refine cb_gr hok dX9_turns_52 fl_RX9_68 skM_b0 skM_c0 rfl ?_
      refine cb_iload_n hok dX9_turns_55 rfl ?_
      refine cb_iald hok dX9_turns_56 skM_b20 skM_c20 ?_
      refine cb_iald hok dX9_turns_57 skM_b14 skM_c14 ?_
      refine cb_iald hok dX9_turns_58 skM_b11 skM_c11 ?_
      refine cb_iload_n hok dX9_turns_59 rfl ?_
      refine cb_iclt (tgt := 69) hok rfl rfl dX9_turns_60 (by decide) (fun _ => ?_) (fun _ => ?_)
      · refine cb_fewer (ls' := [some (.inr 0), some (.inl x1), some (.inl x2), some (.inl x3), none, none, none]) ⟨rfl, ⟨rfl, ⟨rfl, ⟨rfl, trivial⟩⟩⟩⟩ ?_
        exact J_X9_turns_b69 hJ hok hk2 _ _ _ _
      · refine cb_iinc (ls' := [some (.inr 0), some (.inl x1), some (.inl x2), some (.inl (x3 + 1)), none, none, none]) hok dX9_turns_63 rfl (by decide) rfl ?_
        refine cb_goto (tgt := 35) hok dX9_turns_66 (by decide) ?_
        refine cb_fewer (ls' := [some (.inr 0), some (.inl x1), some (.inl x2), some (.inl (x3 + 1)), none, none, none]) ⟨rfl, ⟨rfl, ⟨rfl, ⟨rfl, trivial⟩⟩⟩⟩ ?_
        exact hk35 _ _ _ _
def f_X9_turns_b2 : Nat → Int → Int → cb_S → Option (Int × cb_S)
  | 0 => fun _ _ _ => none
  | n + 1 => fun x1 x2 g => if cb_w (g 0 20) ≤ cb_w x2 then (some (0, g)) else (if 0 ≤ cb_w x2 ∧ cb_w x2 < (64 : Nat) then (if 0 ≤ cb_w (g 20 ((cb_w x2).toNat)) ∧ cb_w (g 20 ((cb_w x2).toNat)) < (64 : Nat) then (if 0 ≤ cb_w (g 14 ((cb_w (g 20 ((cb_w x2).toNat))).toNat)) ∧ cb_w (g 14 ((cb_w (g 20 ((cb_w x2).toNat))).toNat)) < (64 : Nat) then (if cb_w x1 ≤ cb_w (g 11 ((cb_w (g 14 ((cb_w (g 20 ((cb_w x2).toNat))).toNat))).toNat)) then (f_X9_turns_b35 (f_X9_turns_b2 n) cb_N x1 x2 x2 g) else (f_X9_turns_b127 (f_X9_turns_b2 n) x1 x2 g)) else none) else none) else none)
set_option maxRecDepth 100000 in
theorem J_X9_turns_b2 {O : cb_O} {M : cb_M} (hJ : cb_J O skM) (hok : cb_ok O skM M cX9_turns 7 RX9 none) : ∀ (n : Nat) (x1 x2 : Int) (g : cb_S), cb_j O skM true rm_X9_turns M 7 2 [some (.inr 0), some (.inl x1), some (.inl x2), none, none, none, none] [] g (f_X9_turns_b2 n x1 x2 g) := by
  intro n
  induction n with
  | zero => intros; exact cb_none
  | succ n hk2 =>
    intro x1 x2 g
    show cb_j _ _ _ _ _ _ _ _ _ _ (if cb_w (g 0 20) ≤ cb_w x2 then (some (0, g)) else (if 0 ≤ cb_w x2 ∧ cb_w x2 < (64 : Nat) then (if 0 ≤ cb_w (g 20 ((cb_w x2).toNat)) ∧ cb_w (g 20 ((cb_w x2).toNat)) < (64 : Nat) then (if 0 ≤ cb_w (g 14 ((cb_w (g 20 ((cb_w x2).toNat))).toNat)) ∧ cb_w (g 14 ((cb_w (g 20 ((cb_w x2).toNat))).toNat)) < (64 : Nat) then (if cb_w x1 ≤ cb_w (g 11 ((cb_w (g 14 ((cb_w (g 20 ((cb_w x2).toNat))).toNat))).toNat)) then (f_X9_turns_b35 (f_X9_turns_b2 n) cb_N x1 x2 x2 g) else (f_X9_turns_b127 (f_X9_turns_b2 n) x1 x2 g)) else none) else none) else none))
    refine cb_iload_n hok dX9_turns_2 rfl ?_
    refine cb_aload_n hok dX9_turns_3 rfl ?_
    refine cb_gi hok dX9_turns_4 fl_RX9_129 skM_b0 skM_c0 rfl ?_
    refine cb_icge (tgt := 133) hok rfl rfl dX9_turns_7 (by decide) (fun _ => ?_) (fun _ => ?_)
    · exact cb_vret hok dX9_turns_133
    · refine cb_aload_n hok dX9_turns_10 rfl ?_
      refine cb_gr hok dX9_turns_11 fl_RX9_41 skM_b0 skM_c0 rfl ?_
      refine cb_aload_n hok dX9_turns_14 rfl ?_
      refine cb_gr hok dX9_turns_15 fl_RX9_50 skM_b0 skM_c0 rfl ?_
      refine cb_aload_n hok dX9_turns_18 rfl ?_
      refine cb_gr hok dX9_turns_19 fl_RX9_68 skM_b0 skM_c0 rfl ?_
      refine cb_iload_n hok dX9_turns_22 rfl ?_
      refine cb_iald hok dX9_turns_23 skM_b20 skM_c20 ?_
      refine cb_iald hok dX9_turns_24 skM_b14 skM_c14 ?_
      refine cb_iald hok dX9_turns_25 skM_b11 skM_c11 ?_
      refine cb_iload_n hok dX9_turns_26 rfl ?_
      refine cb_icge (tgt := 33) hok rfl rfl dX9_turns_27 (by decide) (fun _ => ?_) (fun _ => ?_)
      · refine cb_iload_n hok dX9_turns_33 rfl ?_
        refine cb_istore_n (ls' := [some (.inr 0), some (.inl x1), some (.inl x2), some (.inl x2), none, none, none]) hok dX9_turns_34 (by decide) rfl ?_
        refine cb_fewer (ls' := [some (.inr 0), some (.inl x1), some (.inl x2), some (.inl x2), none, none, none]) ⟨rfl, ⟨rfl, ⟨rfl, ⟨rfl, trivial⟩⟩⟩⟩ ?_
        exact J_X9_turns_b35 hJ hok hk2 cb_N _ _ _ _
      · refine cb_goto (tgt := 127) hok dX9_turns_30 (by decide) ?_
        refine cb_fewer (ls' := [some (.inr 0), some (.inl x1), some (.inl x2), none, none, none, none]) ⟨rfl, ⟨rfl, ⟨rfl, trivial⟩⟩⟩ ?_
        exact J_X9_turns_b127 hJ hok hk2 _ _ _
def f_X9_turns (g : cb_S) (x1 : Int) : Option (Int × cb_S) := f_X9_turns_b2  cb_N x1 0 g
set_option maxRecDepth 100000 in
theorem C_X9_turns {O : cb_O} (hJ : cb_J O skM) (x1 : Int) (g : cb_S) : ∀ q, f_X9_turns g x1 = some q → cb_m O skM true yX9_turns cX9_turns 7 none rm_X9_turns [.inr 0, .inl x1] g q := by
  intro q hq
  refine cb_of_body hJ (by decide) (Nat.le_of_ble_eq_true rfl) hq (fun M hok => ?_)
  show cb_j _ _ _ _ _ _ _ [some (.inr 0), some (.inl x1), none, none, none, none, none] _ _ (f_X9_turns_b2  cb_N x1 0 g)
  refine cb_iconst hok dX9_turns_0 ?_
  refine cb_istore_n (ls' := [some (.inr 0), some (.inl x1), some (.inl 0), none, none, none, none]) hok dX9_turns_1 (by decide) rfl ?_
  refine cb_fewer (ls' := [some (.inr 0), some (.inl x1), some (.inl 0), none, none, none, none]) ⟨rfl, ⟨rfl, ⟨rfl, trivial⟩⟩⟩ ?_
  exact J_X9_turns_b2 hJ hok  cb_N _ _ _
/-! CaretBenchModel looks()V -/
def f_X9_looks_b63 (kk36 : Int → cb_S → Option (Int × cb_S)) (x1 : Int) (g : cb_S) : Option (Int × cb_S) := if 0 ≤ cb_w x1 ∧ cb_w x1 < (64 : Nat) then (kk36 (x1 + (-1)) (cb_u g 11 (cb_w x1).toNat (g 0 0))) else none
set_option maxRecDepth 100000 in
theorem J_X9_looks_b63 {O : cb_O} {M : cb_M} (hJ : cb_J O skM) (hok : cb_ok O skM M cX9_looks 4 RX9 none) {kk36 : Int → cb_S → Option (Int × cb_S)} (hk36 : ∀ (x1 : Int) (g : cb_S), cb_j O skM true rm_X9_looks M 4 36 [some (.inr 0), some (.inl x1), none, none] [] g (kk36 x1 g)) : ∀ (x1 : Int) (g : cb_S), cb_j O skM true rm_X9_looks M 4 63 [some (.inr 0), some (.inl x1), none, none] [] g (f_X9_looks_b63 kk36 x1 g) := by
  intro x1 g
  show cb_j _ _ _ _ _ _ _ _ _ _ (if 0 ≤ cb_w x1 ∧ cb_w x1 < (64 : Nat) then (kk36 (x1 + (-1)) (cb_u g 11 (cb_w x1).toNat (g 0 0))) else none)
  refine cb_aload_n hok dX9_looks_63 rfl ?_
  refine cb_gr hok dX9_looks_64 fl_RX9_41 skM_b0 skM_c0 rfl ?_
  refine cb_iload_n hok dX9_looks_67 rfl ?_
  refine cb_aload_n hok dX9_looks_68 rfl ?_
  refine cb_gi hok dX9_looks_69 fl_RX9_109 skM_b0 skM_c0 rfl ?_
  refine cb_iast hok dX9_looks_72 skM_b11 skM_c11 ?_
  refine cb_iinc (ls' := [some (.inr 0), some (.inl (x1 + (-1))), none, none]) hok dX9_looks_73 rfl (by decide) rfl ?_
  refine cb_goto (tgt := 36) hok dX9_looks_76 (by decide) ?_
  refine cb_fewer (ls' := [some (.inr 0), some (.inl (x1 + (-1))), none, none]) ⟨rfl, ⟨rfl, trivial⟩⟩ ?_
  exact hk36 _ _
def f_X9_looks_b129 (kk87 : Int → Int → cb_S → Option (Int × cb_S)) (x1 x2 : Int) (g : cb_S) : Option (Int × cb_S) := kk87 x1 (x2 + 1) g
set_option maxRecDepth 100000 in
theorem J_X9_looks_b129 {O : cb_O} {M : cb_M} (hJ : cb_J O skM) (hok : cb_ok O skM M cX9_looks 4 RX9 none) {kk87 : Int → Int → cb_S → Option (Int × cb_S)} (hk87 : ∀ (x1 x2 : Int) (g : cb_S), cb_j O skM true rm_X9_looks M 4 87 [some (.inr 0), some (.inl x1), some (.inl x2), none] [] g (kk87 x1 x2 g)) : ∀ (x1 x2 : Int) (g : cb_S), cb_j O skM true rm_X9_looks M 4 129 [some (.inr 0), some (.inl x1), some (.inl x2), none] [] g (f_X9_looks_b129 kk87 x1 x2 g) := by
  intro x1 x2 g
  show cb_j _ _ _ _ _ _ _ _ _ _ (kk87 x1 (x2 + 1) g)
  refine cb_iinc (ls' := [some (.inr 0), some (.inl x1), some (.inl (x2 + 1)), none]) hok dX9_looks_129 rfl (by decide) rfl ?_
  refine cb_goto (tgt := 87) hok dX9_looks_132 (by decide) ?_
  refine cb_fewer (ls' := [some (.inr 0), some (.inl x1), some (.inl (x2 + 1)), none]) ⟨rfl, ⟨rfl, ⟨rfl, trivial⟩⟩⟩ ?_
  exact hk87 _ _ _
def f_X9_looks_b159 : Nat → Int → cb_S → Option (Int × cb_S)
  | 0 => fun _ _ => none
  | n + 1 => fun x2 g => if cb_w (g 0 20) ≤ cb_w x2 then (some (0, g)) else (if 0 ≤ cb_w x2 ∧ cb_w x2 < (64 : Nat) then (if 0 ≤ cb_w (g 20 ((cb_w x2).toNat)) ∧ cb_w (g 20 ((cb_w x2).toNat)) < (64 : Nat) then (if 0 ≤ cb_w (g 20 ((cb_w x2).toNat)) ∧ cb_w (g 20 ((cb_w x2).toNat)) < (64 : Nat) then ((v_X9_widthOf (cb_u (cb_u g 19 (cb_w (g 20 ((cb_w x2).toNat))).toNat x2) 18 (cb_w (g 20 ((cb_w x2).toNat))).toNat (g 0 28)) (g 20 ((cb_w x2).toNat))).bind (fun r1 => if 0 ≤ cb_w (g 20 ((cb_w x2).toNat)) ∧ cb_w (g 20 ((cb_w x2).toNat)) < (64 : Nat) then (if 0 ≤ cb_w (g 20 ((cb_w x2).toNat)) ∧ cb_w (g 20 ((cb_w x2).toNat)) < (64 : Nat) then ((f_X9_looks_b159 n) (x2 + 1) (cb_u (cb_u (cb_u (cb_u g 19 (cb_w (g 20 ((cb_w x2).toNat))).toNat x2) 18 (cb_w (g 20 ((cb_w x2).toNat))).toNat (g 0 28)) 17 (cb_w (g 20 ((cb_w x2).toNat))).toNat r1) 0 28 ((g 0 28) + r1))) else none) else none)) else none) else none) else none)
set_option maxRecDepth 100000 in
theorem J_X9_looks_b159 {O : cb_O} {M : cb_M} (hJ : cb_J O skM) (hok : cb_ok O skM M cX9_looks 4 RX9 none) : ∀ (n : Nat) (x2 : Int) (g : cb_S), cb_j O skM true rm_X9_looks M 4 159 [some (.inr 0), none, some (.inl x2), none] [] g (f_X9_looks_b159 n x2 g) := by
  intro n
  induction n with
  | zero => intros; exact cb_none
  | succ n hk159 =>
    intro x2 g
    show cb_j _ _ _ _ _ _ _ _ _ _ (if cb_w (g 0 20) ≤ cb_w x2 then (some (0, g)) else (if 0 ≤ cb_w x2 ∧ cb_w x2 < (64 : Nat) then (if 0 ≤ cb_w (g 20 ((cb_w x2).toNat)) ∧ cb_w (g 20 ((cb_w x2).toNat)) < (64 : Nat) then (if 0 ≤ cb_w (g 20 ((cb_w x2).toNat)) ∧ cb_w (g 20 ((cb_w x2).toNat)) < (64 : Nat) then ((v_X9_widthOf (cb_u (cb_u g 19 (cb_w (g 20 ((cb_w x2).toNat))).toNat x2) 18 (cb_w (g 20 ((cb_w x2).toNat))).toNat (g 0 28)) (g 20 ((cb_w x2).toNat))).bind (fun r1 => if 0 ≤ cb_w (g 20 ((cb_w x2).toNat)) ∧ cb_w (g 20 ((cb_w x2).toNat)) < (64 : Nat) then (if 0 ≤ cb_w (g 20 ((cb_w x2).toNat)) ∧ cb_w (g 20 ((cb_w x2).toNat)) < (64 : Nat) then ((f_X9_looks_b159 n) (x2 + 1) (cb_u (cb_u (cb_u (cb_u g 19 (cb_w (g 20 ((cb_w x2).toNat))).toNat x2) 18 (cb_w (g 20 ((cb_w x2).toNat))).toNat (g 0 28)) 17 (cb_w (g 20 ((cb_w x2).toNat))).toNat r1) 0 28 ((g 0 28) + r1))) else none) else none)) else none) else none) else none))
    refine cb_iload_n hok dX9_looks_159 rfl ?_
    refine cb_aload_n hok dX9_looks_160 rfl ?_
    refine cb_gi hok dX9_looks_161 fl_RX9_129 skM_b0 skM_c0 rfl ?_
    refine cb_icge (tgt := 223) hok rfl rfl dX9_looks_164 (by decide) (fun _ => ?_) (fun _ => ?_)
    · exact cb_vret hok dX9_looks_223
    · refine cb_aload_n hok dX9_looks_167 rfl ?_
      refine cb_gr hok dX9_looks_168 fl_RX9_68 skM_b0 skM_c0 rfl ?_
      refine cb_iload_n hok dX9_looks_171 rfl ?_
      refine cb_iald hok dX9_looks_172 skM_b20 skM_c20 ?_
      refine cb_istore_n (ls' := [some (.inr 0), none, some (.inl x2), some (.inl (g 20 ((cb_w x2).toNat)))]) hok dX9_looks_173 (by decide) rfl ?_
      refine cb_aload_n hok dX9_looks_174 rfl ?_
      refine cb_gr hok dX9_looks_175 fl_RX9_65 skM_b0 skM_c0 rfl ?_
      refine cb_iload_n hok dX9_looks_178 rfl ?_
      refine cb_iload_n hok dX9_looks_179 rfl ?_
      refine cb_iast hok dX9_looks_180 skM_b19 skM_c19 ?_
      refine cb_aload_n hok dX9_looks_181 rfl ?_
      refine cb_gr hok dX9_looks_182 fl_RX9_62 skM_b0 skM_c0 rfl ?_
      refine cb_iload_n hok dX9_looks_185 rfl ?_
      refine cb_aload_n hok dX9_looks_186 rfl ?_
      refine cb_gi hok dX9_looks_187 fl_RX9_147 skM_b0 skM_c0 rfl ?_
      refine cb_top (y := g 0 28) rfl ?_
      refine cb_iast hok dX9_looks_190 skM_b18 skM_c18 ?_
      refine cb_aload_n hok dX9_looks_191 rfl ?_
      refine cb_gr hok dX9_looks_192 fl_RX9_59 skM_b0 skM_c0 rfl ?_
      refine cb_iload_n hok dX9_looks_195 rfl ?_
      refine cb_aload_n hok dX9_looks_196 rfl ?_
      refine cb_iload_n hok dX9_looks_197 rfl ?_
      refine cb_cvr (as := [.inl (g 20 ((cb_w x2).toNat))]) (rest := [.inl (g 20 ((cb_w x2).toNat)), .inr 17]) hok lk_RX9_150 (by decide) (by decide) dX9_looks_198 (fun q1 hq1 => C_X9_widthOf hJ _ _ q1 hq1) rfl rfl (Nat.le_of_ble_eq_true rfl) skM_b0 skM_c0 rfl (fun r1 => ?_)
      refine cb_iast hok dX9_looks_201 skM_b17 skM_c17 ?_
      refine cb_aload_n hok dX9_looks_202 rfl ?_
      refine cb_dup hok dX9_looks_203 ?_
      refine cb_gi hok dX9_looks_204 fl_RX9_147 skM_b0 skM_c0 rfl ?_
      refine cb_top (y := g 0 28) rfl ?_
      refine cb_aload_n hok dX9_looks_207 rfl ?_
      refine cb_gr hok dX9_looks_208 fl_RX9_59 skM_b0 skM_c0 rfl ?_
      refine cb_iload_n hok dX9_looks_211 rfl ?_
      refine cb_iald hok dX9_looks_212 skM_b17 skM_c17 ?_
      refine cb_top (y := r1) (by first | rfl | (simp [cb_u])) ?_
      refine cb_iadd hok dX9_looks_213 ?_
      refine cb_pi hok dX9_looks_214 fp_RX9_147 skM_b0 skM_c0 rfl ?_
      refine cb_iinc (ls' := [some (.inr 0), none, some (.inl (x2 + 1)), some (.inl (g 20 ((cb_w x2).toNat)))]) hok dX9_looks_217 rfl (by decide) rfl ?_
      refine cb_goto (tgt := 159) hok dX9_looks_220 (by decide) ?_
      refine cb_fewer (ls' := [some (.inr 0), none, some (.inl (x2 + 1)), none]) ⟨rfl, ⟨rfl, trivial⟩⟩ ?_
      exact hk159 _ _
def f_X9_looks_b137 : Nat → Int → cb_S → Option (Int × cb_S)
  | 0 => fun _ _ => none
  | n + 1 => fun x2 g => if cb_w x2 ≤ 0 then (f_X9_looks_b159  cb_N 0 (cb_u g 0 28 0)) else (cb_b (f_X9_turns g x2) (fun r1 g1 => (f_X9_looks_b137 n) (x2 + (-1)) g1))
set_option maxRecDepth 100000 in
theorem J_X9_looks_b137 {O : cb_O} {M : cb_M} (hJ : cb_J O skM) (hok : cb_ok O skM M cX9_looks 4 RX9 none) : ∀ (n : Nat) (x2 : Int) (g : cb_S), cb_j O skM true rm_X9_looks M 4 137 [some (.inr 0), none, some (.inl x2), none] [] g (f_X9_looks_b137 n x2 g) := by
  intro n
  induction n with
  | zero => intros; exact cb_none
  | succ n hk137 =>
    intro x2 g
    show cb_j _ _ _ _ _ _ _ _ _ _ (if cb_w x2 ≤ 0 then (f_X9_looks_b159  cb_N 0 (cb_u g 0 28 0)) else (cb_b (f_X9_turns g x2) (fun r1 g1 => (f_X9_looks_b137 n) (x2 + (-1)) g1)))
    refine cb_iload_n hok dX9_looks_137 rfl ?_
    refine cb_ifle (tgt := 152) hok rfl dX9_looks_138 (by decide) (fun _ => ?_) (fun _ => ?_)
    · refine cb_aload_n hok dX9_looks_152 rfl ?_
      refine cb_iconst hok dX9_looks_153 ?_
      refine cb_pi hok dX9_looks_154 fp_RX9_147 skM_b0 skM_c0 rfl ?_
      refine cb_iconst hok dX9_looks_157 ?_
      refine cb_istore_n (ls' := [some (.inr 0), none, some (.inl 0), none]) hok dX9_looks_158 (by decide) rfl ?_
      refine cb_fewer (ls' := [some (.inr 0), none, some (.inl 0), none]) ⟨rfl, ⟨rfl, trivial⟩⟩ ?_
      exact J_X9_looks_b159 hJ hok  cb_N _ _
    · refine cb_aload_n hok dX9_looks_141 rfl ?_
      refine cb_iload_n hok dX9_looks_142 rfl ?_
      refine cb_cvv (as := [.inl x2]) (rest := []) hok lk_RX9_144 (by decide) (by decide) dX9_looks_143 (fun q1 hq1 => C_X9_turns hJ _ _ q1 hq1) rfl rfl (Nat.le_of_ble_eq_true rfl) skM_b0 skM_c0 rfl (fun r1 g1 => ?_)
      refine cb_iinc (ls' := [some (.inr 0), none, some (.inl (x2 + (-1))), none]) hok dX9_looks_146 rfl (by decide) rfl ?_
      refine cb_goto (tgt := 137) hok dX9_looks_149 (by decide) ?_
      refine cb_fewer (ls' := [some (.inr 0), none, some (.inl (x2 + (-1))), none]) ⟨rfl, ⟨rfl, trivial⟩⟩ ?_
      exact hk137 _ _
def f_X9_looks_b87 : Nat → Int → Int → cb_S → Option (Int × cb_S)
  | 0 => fun _ _ _ => none
  | n + 1 => fun x1 x2 g => if cb_w (g 0 20) ≤ cb_w x2 then (f_X9_looks_b137  cb_N x1 g) else (if 0 ≤ cb_w x2 ∧ cb_w x2 < (64 : Nat) then (if 0 ≤ cb_w x2 ∧ cb_w x2 < (64 : Nat) then (if 0 ≤ cb_w (g 14 ((cb_w x2).toNat)) ∧ cb_w (g 14 ((cb_w x2).toNat)) < (64 : Nat) then (if cb_w (g 11 ((cb_w (g 14 ((cb_w x2).toNat))).toNat)) ≤ cb_w x1 then (f_X9_looks_b129 (f_X9_looks_b87 n) x1 x2 (cb_u g 20 (cb_w x2).toNat x2)) else (if 0 ≤ cb_w x2 ∧ cb_w x2 < (64 : Nat) then (if 0 ≤ cb_w (g 14 ((cb_w x2).toNat)) ∧ cb_w (g 14 ((cb_w x2).toNat)) < (64 : Nat) then (f_X9_looks_b129 (f_X9_looks_b87 n) (g 11 ((cb_w (g 14 ((cb_w x2).toNat))).toNat)) x2 (cb_u g 20 (cb_w x2).toNat x2)) else none) else none)) else none) else none) else none)
set_option maxRecDepth 100000 in
theorem J_X9_looks_b87 {O : cb_O} {M : cb_M} (hJ : cb_J O skM) (hok : cb_ok O skM M cX9_looks 4 RX9 none) : ∀ (n : Nat) (x1 x2 : Int) (g : cb_S), cb_j O skM true rm_X9_looks M 4 87 [some (.inr 0), some (.inl x1), some (.inl x2), none] [] g (f_X9_looks_b87 n x1 x2 g) := by
  intro n
  induction n with
  | zero => intros; exact cb_none
  | succ n hk87 =>
    intro x1 x2 g
    show cb_j _ _ _ _ _ _ _ _ _ _ (if cb_w (g 0 20) ≤ cb_w x2 then (f_X9_looks_b137  cb_N x1 g) else (if 0 ≤ cb_w x2 ∧ cb_w x2 < (64 : Nat) then (if 0 ≤ cb_w x2 ∧ cb_w x2 < (64 : Nat) then (if 0 ≤ cb_w (g 14 ((cb_w x2).toNat)) ∧ cb_w (g 14 ((cb_w x2).toNat)) < (64 : Nat) then (if cb_w (g 11 ((cb_w (g 14 ((cb_w x2).toNat))).toNat)) ≤ cb_w x1 then (f_X9_looks_b129 (f_X9_looks_b87 n) x1 x2 (cb_u g 20 (cb_w x2).toNat x2)) else (if 0 ≤ cb_w x2 ∧ cb_w x2 < (64 : Nat) then (if 0 ≤ cb_w (g 14 ((cb_w x2).toNat)) ∧ cb_w (g 14 ((cb_w x2).toNat)) < (64 : Nat) then (f_X9_looks_b129 (f_X9_looks_b87 n) (g 11 ((cb_w (g 14 ((cb_w x2).toNat))).toNat)) x2 (cb_u g 20 (cb_w x2).toNat x2)) else none) else none)) else none) else none) else none))
    refine cb_iload_n hok dX9_looks_87 rfl ?_
    refine cb_aload_n hok dX9_looks_88 rfl ?_
    refine cb_gi hok dX9_looks_89 fl_RX9_129 skM_b0 skM_c0 rfl ?_
    refine cb_icge (tgt := 135) hok rfl rfl dX9_looks_92 (by decide) (fun _ => ?_) (fun _ => ?_)
    · refine cb_iload_n hok dX9_looks_135 rfl ?_
      refine cb_istore_n (ls' := [some (.inr 0), some (.inl x1), some (.inl x1), none]) hok dX9_looks_136 (by decide) rfl ?_
      refine cb_fewer (ls' := [some (.inr 0), none, some (.inl x1), none]) ⟨rfl, ⟨rfl, trivial⟩⟩ ?_
      exact J_X9_looks_b137 hJ hok  cb_N _ _
    · refine cb_aload_n hok dX9_looks_95 rfl ?_
      refine cb_gr hok dX9_looks_96 fl_RX9_68 skM_b0 skM_c0 rfl ?_
      refine cb_iload_n hok dX9_looks_99 rfl ?_
      refine cb_iload_n hok dX9_looks_100 rfl ?_
      refine cb_iast hok dX9_looks_101 skM_b20 skM_c20 ?_
      refine cb_aload_n hok dX9_looks_102 rfl ?_
      refine cb_gr hok dX9_looks_103 fl_RX9_41 skM_b0 skM_c0 rfl ?_
      refine cb_aload_n hok dX9_looks_106 rfl ?_
      refine cb_gr hok dX9_looks_107 fl_RX9_50 skM_b0 skM_c0 rfl ?_
      refine cb_iload_n hok dX9_looks_110 rfl ?_
      refine cb_iald hok dX9_looks_111 skM_b14 skM_c14 ?_
      refine cb_top (y := g 14 ((cb_w x2).toNat)) (by first | rfl | (simp [cb_u])) ?_
      refine cb_iald hok dX9_looks_112 skM_b11 skM_c11 ?_
      refine cb_top (y := g 11 ((cb_w (g 14 ((cb_w x2).toNat))).toNat)) (by first | rfl | (simp [cb_u])) ?_
      refine cb_iload_n hok dX9_looks_113 rfl ?_
      refine cb_icle (tgt := 129) hok rfl rfl dX9_looks_114 (by decide) (fun _ => ?_) (fun _ => ?_)
      · refine cb_fewer (ls' := [some (.inr 0), some (.inl x1), some (.inl x2), none]) ⟨rfl, ⟨rfl, ⟨rfl, trivial⟩⟩⟩ ?_
        exact J_X9_looks_b129 hJ hok hk87 _ _ _
      · refine cb_aload_n hok dX9_looks_117 rfl ?_
        refine cb_gr hok dX9_looks_118 fl_RX9_41 skM_b0 skM_c0 rfl ?_
        refine cb_aload_n hok dX9_looks_121 rfl ?_
        refine cb_gr hok dX9_looks_122 fl_RX9_50 skM_b0 skM_c0 rfl ?_
        refine cb_iload_n hok dX9_looks_125 rfl ?_
        refine cb_iald hok dX9_looks_126 skM_b14 skM_c14 ?_
        refine cb_top (y := g 14 ((cb_w x2).toNat)) (by first | rfl | (simp [cb_u])) ?_
        refine cb_iald hok dX9_looks_127 skM_b11 skM_c11 ?_
        refine cb_top (y := g 11 ((cb_w (g 14 ((cb_w x2).toNat))).toNat)) (by first | rfl | (simp [cb_u])) ?_
        refine cb_istore_n (ls' := [some (.inr 0), some (.inl (g 11 ((cb_w (g 14 ((cb_w x2).toNat))).toNat))), some (.inl x2), none]) hok dX9_looks_128 (by decide) rfl ?_
        refine cb_fewer (ls' := [some (.inr 0), some (.inl (g 11 ((cb_w (g 14 ((cb_w x2).toNat))).toNat))), some (.inl x2), none]) ⟨rfl, ⟨rfl, ⟨rfl, trivial⟩⟩⟩ ?_
        exact J_X9_looks_b129 hJ hok hk87 _ _ _
def f_X9_looks_b79 (g : cb_S) : Option (Int × cb_S) := cb_b (f_X9_clustersOf g ) (fun r1 g1 => f_X9_looks_b87  cb_N 0 0 g1)
set_option maxRecDepth 100000 in
theorem J_X9_looks_b79 {O : cb_O} {M : cb_M} (hJ : cb_J O skM) (hok : cb_ok O skM M cX9_looks 4 RX9 none) : ∀ (g : cb_S), cb_j O skM true rm_X9_looks M 4 79 [some (.inr 0), none, none, none] [] g (f_X9_looks_b79 g) := by
  intro g
  show cb_j _ _ _ _ _ _ _ _ _ _ (cb_b (f_X9_clustersOf g ) (fun r1 g1 => f_X9_looks_b87  cb_N 0 0 g1))
  refine cb_aload_n hok dX9_looks_79 rfl ?_
  refine cb_cvv (as := []) (rest := []) hok lk_RX9_141 (by decide) (by decide) dX9_looks_80 (fun q1 hq1 => C_X9_clustersOf hJ _ q1 hq1) rfl rfl (Nat.le_of_ble_eq_true rfl) skM_b0 skM_c0 rfl (fun r1 g1 => ?_)
  refine cb_iconst hok dX9_looks_83 ?_
  refine cb_istore_n (ls' := [some (.inr 0), some (.inl 0), none, none]) hok dX9_looks_84 (by decide) rfl ?_
  refine cb_iconst hok dX9_looks_85 ?_
  refine cb_istore_n (ls' := [some (.inr 0), some (.inl 0), some (.inl 0), none]) hok dX9_looks_86 (by decide) rfl ?_
  refine cb_fewer (ls' := [some (.inr 0), some (.inl 0), some (.inl 0), none]) ⟨rfl, ⟨rfl, ⟨rfl, trivial⟩⟩⟩ ?_
  exact J_X9_looks_b87 hJ hok  cb_N _ _ _
def f_X9_looks_b36 : Nat → Int → cb_S → Option (Int × cb_S)
  | 0 => fun _ _ => none
  | n + 1 => fun x1 g => if cb_w x1 < 0 then (f_X9_looks_b79  g) else (if 0 ≤ cb_w x1 ∧ cb_w x1 < (64 : Nat) then (if cb_w (g 1 ((cb_w x1).toNat)) = 32 then (f_X9_looks_b63 (f_X9_looks_b36 n) x1 g) else (if 0 ≤ cb_w x1 ∧ cb_w x1 < (64 : Nat) then ((v_X9_isIsle g (g 1 ((cb_w x1).toNat))).bind (fun r1 => if cb_w r1 = 0 then (f_X9_looks_b79  g) else (f_X9_looks_b63 (f_X9_looks_b36 n) x1 g))) else none)) else none)
set_option maxRecDepth 100000 in
theorem J_X9_looks_b36 {O : cb_O} {M : cb_M} (hJ : cb_J O skM) (hok : cb_ok O skM M cX9_looks 4 RX9 none) : ∀ (n : Nat) (x1 : Int) (g : cb_S), cb_j O skM true rm_X9_looks M 4 36 [some (.inr 0), some (.inl x1), none, none] [] g (f_X9_looks_b36 n x1 g) := by
  intro n
  induction n with
  | zero => intros; exact cb_none
  | succ n hk36 =>
    intro x1 g
    show cb_j _ _ _ _ _ _ _ _ _ _ (if cb_w x1 < 0 then (f_X9_looks_b79  g) else (if 0 ≤ cb_w x1 ∧ cb_w x1 < (64 : Nat) then (if cb_w (g 1 ((cb_w x1).toNat)) = 32 then (f_X9_looks_b63 (f_X9_looks_b36 n) x1 g) else (if 0 ≤ cb_w x1 ∧ cb_w x1 < (64 : Nat) then ((v_X9_isIsle g (g 1 ((cb_w x1).toNat))).bind (fun r1 => if cb_w r1 = 0 then (f_X9_looks_b79  g) else (f_X9_looks_b63 (f_X9_looks_b36 n) x1 g))) else none)) else none))
    refine cb_iload_n hok dX9_looks_36 rfl ?_
    refine cb_iflt (tgt := 79) hok rfl dX9_looks_37 (by decide) (fun _ => ?_) (fun _ => ?_)
    · refine cb_fewer (ls' := [some (.inr 0), none, none, none]) ⟨rfl, trivial⟩ ?_
      exact J_X9_looks_b79 hJ hok  _
    · refine cb_aload_n hok dX9_looks_40 rfl ?_
      refine cb_gr hok dX9_looks_41 fl_RX9_7 skM_b0 skM_c0 rfl ?_
      refine cb_iload_n hok dX9_looks_44 rfl ?_
      refine cb_iald hok dX9_looks_45 skM_b1 skM_c1 ?_
      refine cb_bipush hok dX9_looks_46 (by decide) ?_
      refine cb_iceq (tgt := 63) hok rfl (by decide) dX9_looks_48 (by decide) (fun _ => ?_) (fun _ => ?_)
      · refine cb_fewer (ls' := [some (.inr 0), some (.inl x1), none, none]) ⟨rfl, ⟨rfl, trivial⟩⟩ ?_
        exact J_X9_looks_b63 hJ hok hk36 _ _
      · refine cb_aload_n hok dX9_looks_51 rfl ?_
        refine cb_gr hok dX9_looks_52 fl_RX9_7 skM_b0 skM_c0 rfl ?_
        refine cb_iload_n hok dX9_looks_55 rfl ?_
        refine cb_iald hok dX9_looks_56 skM_b1 skM_c1 ?_
        refine cb_csr (as := [.inl (g 1 ((cb_w x1).toNat))]) (rest := []) hok lk_RX9_106 (by decide) (by decide) dX9_looks_57 (fun q1 hq1 => C_X9_isIsle hJ _ _ q1 hq1) rfl rfl (Nat.le_of_ble_eq_true rfl) (fun r1 => ?_)
        refine cb_ifeq (tgt := 79) hok rfl dX9_looks_60 (by decide) (fun _ => ?_) (fun _ => ?_)
        · refine cb_fewer (ls' := [some (.inr 0), none, none, none]) ⟨rfl, trivial⟩ ?_
          exact J_X9_looks_b79 hJ hok  _
        · refine cb_fewer (ls' := [some (.inr 0), some (.inl x1), none, none]) ⟨rfl, ⟨rfl, trivial⟩⟩ ?_
          exact J_X9_looks_b63 hJ hok hk36 _ _
def f_X9_looks_b10 : Nat → Int → cb_S → Option (Int × cb_S)
  | 0 => fun _ _ => none
  | n + 1 => fun x1 g => if cb_w (g 0 13) ≤ cb_w x1 then (f_X9_looks_b36  cb_N ((g 0 1) - 1) g) else (cb_b (f_X9_row g x1) (fun r1 g1 => (f_X9_looks_b10 n) (x1 + 1) g1))
set_option maxRecDepth 100000 in
theorem J_X9_looks_b10 {O : cb_O} {M : cb_M} (hJ : cb_J O skM) (hok : cb_ok O skM M cX9_looks 4 RX9 none) : ∀ (n : Nat) (x1 : Int) (g : cb_S), cb_j O skM true rm_X9_looks M 4 10 [some (.inr 0), some (.inl x1), none, none] [] g (f_X9_looks_b10 n x1 g) := by
  intro n
  induction n with
  | zero => intros; exact cb_none
  | succ n hk10 =>
    intro x1 g
    show cb_j _ _ _ _ _ _ _ _ _ _ (if cb_w (g 0 13) ≤ cb_w x1 then (f_X9_looks_b36  cb_N ((g 0 1) - 1) g) else (cb_b (f_X9_row g x1) (fun r1 g1 => (f_X9_looks_b10 n) (x1 + 1) g1)))
    refine cb_iload_n hok dX9_looks_10 rfl ?_
    refine cb_aload_n hok dX9_looks_11 rfl ?_
    refine cb_gi hok dX9_looks_12 fl_RX9_112 skM_b0 skM_c0 rfl ?_
    refine cb_icge (tgt := 29) hok rfl rfl dX9_looks_15 (by decide) (fun _ => ?_) (fun _ => ?_)
    · refine cb_aload_n hok dX9_looks_29 rfl ?_
      refine cb_gi hok dX9_looks_30 fl_RX9_81 skM_b0 skM_c0 rfl ?_
      refine cb_iconst hok dX9_looks_33 ?_
      refine cb_isub hok dX9_looks_34 ?_
      refine cb_istore_n (ls' := [some (.inr 0), some (.inl ((g 0 1) - 1)), none, none]) hok dX9_looks_35 (by decide) rfl ?_
      refine cb_fewer (ls' := [some (.inr 0), some (.inl ((g 0 1) - 1)), none, none]) ⟨rfl, ⟨rfl, trivial⟩⟩ ?_
      exact J_X9_looks_b36 hJ hok  cb_N _ _
    · refine cb_aload_n hok dX9_looks_18 rfl ?_
      refine cb_iload_n hok dX9_looks_19 rfl ?_
      refine cb_cvv (as := [.inl x1]) (rest := []) hok lk_RX9_137 (by decide) (by decide) dX9_looks_20 (fun q1 hq1 => C_X9_row hJ _ _ q1 hq1) rfl rfl (Nat.le_of_ble_eq_true rfl) skM_b0 skM_c0 rfl (fun r1 g1 => ?_)
      refine cb_iinc (ls' := [some (.inr 0), some (.inl (x1 + 1)), none, none]) hok dX9_looks_23 rfl (by decide) rfl ?_
      refine cb_goto (tgt := 10) hok dX9_looks_26 (by decide) ?_
      refine cb_fewer (ls' := [some (.inr 0), some (.inl (x1 + 1)), none, none]) ⟨rfl, ⟨rfl, trivial⟩⟩ ?_
      exact hk10 _ _
def f_X9_looks (g : cb_S) : Option (Int × cb_S) := cb_b (f_X9_rows g ) (fun r1 g1 => cb_b (f_X9_joinsOf g1 ) (fun r2 g2 => f_X9_looks_b10  cb_N 0 g2))
set_option maxRecDepth 100000 in
theorem C_X9_looks {O : cb_O} (hJ : cb_J O skM) (g : cb_S) : ∀ q, f_X9_looks g = some q → cb_m O skM true yX9_looks cX9_looks 4 none rm_X9_looks [.inr 0] g q := by
  intro q hq
  refine cb_of_body hJ (by decide) (Nat.le_of_ble_eq_true rfl) hq (fun M hok => ?_)
  show cb_j _ _ _ _ _ _ _ [some (.inr 0), none, none, none] _ _ (cb_b (f_X9_rows g ) (fun r1 g1 => cb_b (f_X9_joinsOf g1 ) (fun r2 g2 => f_X9_looks_b10  cb_N 0 g2)))
  refine cb_aload_n hok dX9_looks_0 rfl ?_
  refine cb_cvv (as := []) (rest := []) hok lk_RX9_132 (by decide) (by decide) dX9_looks_1 (fun q1 hq1 => C_X9_rows hJ _ q1 hq1) rfl rfl (Nat.le_of_ble_eq_true rfl) skM_b0 skM_c0 rfl (fun r1 g1 => ?_)
  refine cb_aload_n hok dX9_looks_4 rfl ?_
  refine cb_cvv (as := []) (rest := []) hok lk_RX9_134 (by decide) (by decide) dX9_looks_5 (fun q1 hq1 => C_X9_joinsOf hJ _ q1 hq1) rfl rfl (Nat.le_of_ble_eq_true rfl) skM_b0 skM_c0 rfl (fun r2 g2 => ?_)
  refine cb_iconst hok dX9_looks_8 ?_
  refine cb_istore_n (ls' := [some (.inr 0), some (.inl 0), none, none]) hok dX9_looks_9 (by decide) rfl ?_
  refine cb_fewer (ls' := [some (.inr 0), some (.inl 0), none, none]) ⟨rfl, ⟨rfl, trivial⟩⟩ ?_
  exact J_X9_looks_b10 hJ hok  cb_N _ _
/-! CaretBenchModel way(I)I -/
def f_X9_way_b11 (x1 : Int) (g : cb_S) : Option (Int × cb_S) := some (g 0 0, cb_u g 0 0 x1)
set_option maxRecDepth 100000 in
theorem J_X9_way_b11 {O : cb_O} {M : cb_M} (hJ : cb_J O skM) (hok : cb_ok O skM M cX9_way 3 RX9 (some .int)) : ∀ (x1 : Int) (g : cb_S), cb_j O skM false rm_X9_way M 3 11 [some (.inr 0), some (.inl x1), none] [] g (f_X9_way_b11 x1 g) := by
  intro x1 g
  show cb_j _ _ _ _ _ _ _ _ _ _ (some (g 0 0, cb_u g 0 0 x1))
  refine cb_aload_n hok dX9_way_11 rfl ?_
  refine cb_gi hok dX9_way_12 fl_RX9_109 skM_b0 skM_c0 rfl ?_
  refine cb_istore_n (ls' := [some (.inr 0), some (.inl x1), some (.inl (g 0 0))]) hok dX9_way_15 (by decide) rfl ?_
  refine cb_aload_n hok dX9_way_16 rfl ?_
  refine cb_iload_n hok dX9_way_17 rfl ?_
  refine cb_pi hok dX9_way_18 fp_RX9_109 skM_b0 skM_c0 rfl ?_
  refine cb_iload_n hok dX9_way_21 rfl ?_
  exact cb_iret hok dX9_way_22
def f_X9_way (g : cb_S) (x1 : Int) : Option (Int × cb_S) := if cb_w x1 = 0 then (f_X9_way_b11  x1 g) else (if cb_w x1 = 1 then (f_X9_way_b11  x1 g) else (some (-1, g)))
set_option maxRecDepth 100000 in
theorem C_X9_way {O : cb_O} (hJ : cb_J O skM) (x1 : Int) (g : cb_S) : ∀ q, f_X9_way g x1 = some q → cb_m O skM false yX9_way cX9_way 3 (some .int) rm_X9_way [.inr 0, .inl x1] g q := by
  intro q hq
  refine cb_of_body hJ (by decide) (Nat.le_of_ble_eq_true rfl) hq (fun M hok => ?_)
  show cb_j _ _ _ _ _ _ _ [some (.inr 0), some (.inl x1), none] _ _ (if cb_w x1 = 0 then (f_X9_way_b11  x1 g) else (if cb_w x1 = 1 then (f_X9_way_b11  x1 g) else (some (-1, g))))
  refine cb_iload_n hok dX9_way_0 rfl ?_
  refine cb_ifeq (tgt := 11) hok rfl dX9_way_1 (by decide) (fun _ => ?_) (fun _ => ?_)
  · refine cb_fewer (ls' := [some (.inr 0), some (.inl x1), none]) ⟨rfl, ⟨rfl, trivial⟩⟩ ?_
    exact J_X9_way_b11 hJ hok  _ _
  · refine cb_iload_n hok dX9_way_4 rfl ?_
    refine cb_iconst hok dX9_way_5 ?_
    refine cb_iceq (tgt := 11) hok rfl (by decide) dX9_way_6 (by decide) (fun _ => ?_) (fun _ => ?_)
    · refine cb_fewer (ls' := [some (.inr 0), some (.inl x1), none]) ⟨rfl, ⟨rfl, trivial⟩⟩ ?_
      exact J_X9_way_b11 hJ hok  _ _
    · refine cb_iconst hok dX9_way_9 ?_
      exact cb_iret hok dX9_way_10
/-! CaretBenchModel beginsAt(I)I -/
def v_X9_beginsAt_b2 : Nat → Int → Int → cb_S → Option Int
  | 0 => fun _ _ _ => none
  | n + 1 => fun x1 x2 g => if cb_w (g 0 20) ≤ cb_w x2 then (some (-1)) else (if 0 ≤ cb_w x2 ∧ cb_w x2 < (64 : Nat) then (if cb_w (g 14 ((cb_w x2).toNat)) = cb_w x1 then (some x2) else ((v_X9_beginsAt_b2 n) x1 (x2 + 1) g)) else none)
set_option maxRecDepth 100000 in
theorem J_X9_beginsAt_b2 {O : cb_O} {M : cb_M} (hJ : cb_J O skM) (hok : cb_ok O skM M cX9_beginsAt 3 RX9 (some .int)) : ∀ (n : Nat) (x1 x2 : Int) (g : cb_S), cb_jr O skM rm_X9_beginsAt M 3 2 [some (.inr 0), some (.inl x1), some (.inl x2)] [] g (v_X9_beginsAt_b2 n x1 x2 g) := by
  intro n
  induction n with
  | zero => intros; exact cr_none
  | succ n hk2 =>
    intro x1 x2 g
    show cb_jr _ _ _ _ _ _ _ _ _ (if cb_w (g 0 20) ≤ cb_w x2 then (some (-1)) else (if 0 ≤ cb_w x2 ∧ cb_w x2 < (64 : Nat) then (if cb_w (g 14 ((cb_w x2).toNat)) = cb_w x1 then (some x2) else ((v_X9_beginsAt_b2 n) x1 (x2 + 1) g)) else none))
    refine cr_iload_n hok dX9_beginsAt_2 rfl ?_
    refine cr_aload_n hok dX9_beginsAt_3 rfl ?_
    refine cr_gi hok dX9_beginsAt_4 fl_RX9_129 skM_b0 skM_c0 rfl ?_
    refine cr_icge (tgt := 28) hok rfl rfl dX9_beginsAt_7 (by decide) (fun _ => ?_) (fun _ => ?_)
    · refine cr_iconst hok dX9_beginsAt_28 ?_
      exact cr_iret hok dX9_beginsAt_29
    · refine cr_aload_n hok dX9_beginsAt_10 rfl ?_
      refine cr_gr hok dX9_beginsAt_11 fl_RX9_50 skM_b0 skM_c0 rfl ?_
      refine cr_iload_n hok dX9_beginsAt_14 rfl ?_
      refine cr_iald hok dX9_beginsAt_15 skM_b14 skM_c14 ?_
      refine cr_iload_n hok dX9_beginsAt_16 rfl ?_
      refine cr_icne (tgt := 22) hok rfl rfl dX9_beginsAt_17 (by decide) (fun _ => ?_) (fun _ => ?_)
      · refine cr_iinc (ls' := [some (.inr 0), some (.inl x1), some (.inl (x2 + 1))]) hok dX9_beginsAt_22 rfl (by decide) rfl ?_
        refine cr_goto (tgt := 2) hok dX9_beginsAt_25 (by decide) ?_
        refine cr_fewer (ls' := [some (.inr 0), some (.inl x1), some (.inl (x2 + 1))]) ⟨rfl, ⟨rfl, ⟨rfl, trivial⟩⟩⟩ ?_
        exact hk2 _ _ _
      · refine cr_iload_n hok dX9_beginsAt_20 rfl ?_
        exact cr_iret hok dX9_beginsAt_21
def v_X9_beginsAt (g : cb_S) (x1 : Int) : Option Int := v_X9_beginsAt_b2  cb_N x1 0 g
set_option maxRecDepth 100000 in
theorem C_X9_beginsAt {O : cb_O} (hJ : cb_J O skM) (x1 : Int) (g : cb_S) : ∀ q, v_X9_beginsAt g x1 = some q → cb_m O skM false yX9_beginsAt cX9_beginsAt 3 (some .int) rm_X9_beginsAt [.inr 0, .inl x1] g (q, g) := by
  intro q hq
  refine cr_of_body hJ (by decide) (Nat.le_of_ble_eq_true rfl) hq (fun M hok => ?_)
  show cb_jr _ _ _ _ _ _ [some (.inr 0), some (.inl x1), none] _ _ (v_X9_beginsAt_b2  cb_N x1 0 g)
  refine cr_iconst hok dX9_beginsAt_0 ?_
  refine cr_istore_n (ls' := [some (.inr 0), some (.inl x1), some (.inl 0)]) hok dX9_beginsAt_1 (by decide) rfl ?_
  refine cr_fewer (ls' := [some (.inr 0), some (.inl x1), some (.inl 0)]) ⟨rfl, ⟨rfl, ⟨rfl, trivial⟩⟩⟩ ?_
  exact J_X9_beginsAt_b2 hJ hok  cb_N _ _ _
