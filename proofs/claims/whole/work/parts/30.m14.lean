/-! CaretBenchModel select(II)I -/
def f_X9_select_b171 (kk56 : Int → Int → Int → Int → cb_S → Option (Int × cb_S)) (x3 x4 x6 x8 : Int) (g : cb_S) : Option (Int × cb_S) := kk56 x3 x4 x8 (x6 + 1) g
set_option maxRecDepth 100000 in
theorem J_X9_select_b171 {O : cb_O} {M : cb_M} (hJ : cb_J O skM) (hok : cb_ok O skM M cX9_select 9 RX9 (some .int)) {kk56 : Int → Int → Int → Int → cb_S → Option (Int × cb_S)} (hk56 : ∀ (x3 x4 x5 x6 : Int) (g : cb_S), cb_j O skM false rm_X9_select M 9 56 [some (.inr 0), none, none, some (.inl x3), some (.inl x4), some (.inl x5), some (.inl x6), none, none] [] g (kk56 x3 x4 x5 x6 g)) : ∀ (x3 x4 x6 x8 : Int) (g : cb_S), cb_j O skM false rm_X9_select M 9 171 [some (.inr 0), none, none, some (.inl x3), some (.inl x4), none, some (.inl x6), none, some (.inl x8)] [] g (f_X9_select_b171 kk56 x3 x4 x6 x8 g) := by
  intro x3 x4 x6 x8 g
  show cb_j _ _ _ _ _ _ _ _ _ _ (kk56 x3 x4 x8 (x6 + 1) g)
  refine cb_iload hok dX9_select_171 rfl ?_
  refine cb_istore (ls' := [some (.inr 0), none, none, some (.inl x3), some (.inl x4), some (.inl x8), some (.inl x6), none, some (.inl x8)]) hok dX9_select_173 (by decide) rfl ?_
  refine cb_iinc (ls' := [some (.inr 0), none, none, some (.inl x3), some (.inl x4), some (.inl x8), some (.inl (x6 + 1)), none, some (.inl x8)]) hok dX9_select_175 rfl (by decide) rfl ?_
  refine cb_goto (tgt := 56) hok dX9_select_178 (by decide) ?_
  refine cb_fewer (ls' := [some (.inr 0), none, none, some (.inl x3), some (.inl x4), some (.inl x8), some (.inl (x6 + 1)), none, none]) ⟨rfl, ⟨rfl, ⟨rfl, ⟨rfl, ⟨rfl, trivial⟩⟩⟩⟩⟩ ?_
  exact hk56 _ _ _ _ _
def f_X9_select_b140 (kk56 : Int → Int → Int → Int → cb_S → Option (Int × cb_S)) (x3 x4 x6 x7 x8 : Int) (g : cb_S) : Option (Int × cb_S) := if cb_w x8 = 0 then (f_X9_select_b171 kk56 x3 x4 x6 x8 g) else (if 0 ≤ cb_w x7 ∧ cb_w x7 < (64 : Nat) then (if 0 ≤ cb_w x7 ∧ cb_w x7 < (64 : Nat) then (if 0 ≤ cb_w ((g 0 29) - 1) ∧ cb_w ((g 0 29) - 1) < (64 : Nat) then (f_X9_select_b171 kk56 x3 x4 x6 x8 (cb_u g 22 (cb_w ((g 0 29) - 1)).toNat ((g 18 ((cb_w x7).toNat)) + (g 17 ((cb_w x7).toNat))))) else none) else none) else none)
set_option maxRecDepth 100000 in
theorem J_X9_select_b140 {O : cb_O} {M : cb_M} (hJ : cb_J O skM) (hok : cb_ok O skM M cX9_select 9 RX9 (some .int)) {kk56 : Int → Int → Int → Int → cb_S → Option (Int × cb_S)} (hk56 : ∀ (x3 x4 x5 x6 : Int) (g : cb_S), cb_j O skM false rm_X9_select M 9 56 [some (.inr 0), none, none, some (.inl x3), some (.inl x4), some (.inl x5), some (.inl x6), none, none] [] g (kk56 x3 x4 x5 x6 g)) : ∀ (x3 x4 x6 x7 x8 : Int) (g : cb_S), cb_j O skM false rm_X9_select M 9 140 [some (.inr 0), none, none, some (.inl x3), some (.inl x4), none, some (.inl x6), some (.inl x7), some (.inl x8)] [] g (f_X9_select_b140 kk56 x3 x4 x6 x7 x8 g) := by
  intro x3 x4 x6 x7 x8 g
  show cb_j _ _ _ _ _ _ _ _ _ _ (if cb_w x8 = 0 then (f_X9_select_b171 kk56 x3 x4 x6 x8 g) else (if 0 ≤ cb_w x7 ∧ cb_w x7 < (64 : Nat) then (if 0 ≤ cb_w x7 ∧ cb_w x7 < (64 : Nat) then (if 0 ≤ cb_w ((g 0 29) - 1) ∧ cb_w ((g 0 29) - 1) < (64 : Nat) then (f_X9_select_b171 kk56 x3 x4 x6 x8 (cb_u g 22 (cb_w ((g 0 29) - 1)).toNat ((g 18 ((cb_w x7).toNat)) + (g 17 ((cb_w x7).toNat))))) else none) else none) else none))
  refine cb_iload hok dX9_select_140 rfl ?_
  refine cb_ifeq (tgt := 171) hok rfl dX9_select_142 (by decide) (fun _ => ?_) (fun _ => ?_)
  · refine cb_fewer (ls' := [some (.inr 0), none, none, some (.inl x3), some (.inl x4), none, some (.inl x6), none, some (.inl x8)]) ⟨rfl, ⟨rfl, ⟨rfl, ⟨rfl, ⟨rfl, trivial⟩⟩⟩⟩⟩ ?_
    exact J_X9_select_b171 hJ hok hk56 _ _ _ _ _
  · refine cb_aload_n hok dX9_select_145 rfl ?_
    refine cb_gr hok dX9_select_146 fl_RX9_74 skM_b0 skM_c0 rfl ?_
    refine cb_aload_n hok dX9_select_149 rfl ?_
    refine cb_gi hok dX9_select_150 fl_RX9_203 skM_b0 skM_c0 rfl ?_
    refine cb_iconst hok dX9_select_153 ?_
    refine cb_isub hok dX9_select_154 ?_
    refine cb_aload_n hok dX9_select_155 rfl ?_
    refine cb_gr hok dX9_select_156 fl_RX9_62 skM_b0 skM_c0 rfl ?_
    refine cb_iload hok dX9_select_159 rfl ?_
    refine cb_iald hok dX9_select_161 skM_b18 skM_c18 ?_
    refine cb_aload_n hok dX9_select_162 rfl ?_
    refine cb_gr hok dX9_select_163 fl_RX9_59 skM_b0 skM_c0 rfl ?_
    refine cb_iload hok dX9_select_166 rfl ?_
    refine cb_iald hok dX9_select_168 skM_b17 skM_c17 ?_
    refine cb_iadd hok dX9_select_169 ?_
    refine cb_iast hok dX9_select_170 skM_b22 skM_c22 ?_
    refine cb_fewer (ls' := [some (.inr 0), none, none, some (.inl x3), some (.inl x4), none, some (.inl x6), none, some (.inl x8)]) ⟨rfl, ⟨rfl, ⟨rfl, ⟨rfl, ⟨rfl, trivial⟩⟩⟩⟩⟩ ?_
    exact J_X9_select_b171 hJ hok hk56 _ _ _ _ _
def f_X9_select_b102 (kk56 : Int → Int → Int → Int → cb_S → Option (Int × cb_S)) (x3 x4 x5 x6 x7 s0 : Int) (g : cb_S) : Option (Int × cb_S) := if cb_w s0 = 0 then (f_X9_select_b140 kk56 x3 x4 x6 x7 s0 g) else (if cb_w x5 = 0 then (if 0 ≤ cb_w x7 ∧ cb_w x7 < (64 : Nat) then (if 0 ≤ cb_w (g 0 29) ∧ cb_w (g 0 29) < (64 : Nat) then (f_X9_select_b140 kk56 x3 x4 x6 x7 s0 (cb_u (cb_u g 21 (cb_w (g 0 29)).toNat (g 18 ((cb_w x7).toNat))) 0 29 ((g 0 29) + 1))) else none) else none) else (f_X9_select_b140 kk56 x3 x4 x6 x7 s0 g))
set_option maxRecDepth 100000 in
theorem J_X9_select_b102 {O : cb_O} {M : cb_M} (hJ : cb_J O skM) (hok : cb_ok O skM M cX9_select 9 RX9 (some .int)) {kk56 : Int → Int → Int → Int → cb_S → Option (Int × cb_S)} (hk56 : ∀ (x3 x4 x5 x6 : Int) (g : cb_S), cb_j O skM false rm_X9_select M 9 56 [some (.inr 0), none, none, some (.inl x3), some (.inl x4), some (.inl x5), some (.inl x6), none, none] [] g (kk56 x3 x4 x5 x6 g)) : ∀ (x3 x4 x5 x6 x7 s0 : Int) (g : cb_S), cb_j O skM false rm_X9_select M 9 102 [some (.inr 0), none, none, some (.inl x3), some (.inl x4), some (.inl x5), some (.inl x6), some (.inl x7), none] [.inl s0] g (f_X9_select_b102 kk56 x3 x4 x5 x6 x7 s0 g) := by
  intro x3 x4 x5 x6 x7 s0 g
  show cb_j _ _ _ _ _ _ _ _ _ _ (if cb_w s0 = 0 then (f_X9_select_b140 kk56 x3 x4 x6 x7 s0 g) else (if cb_w x5 = 0 then (if 0 ≤ cb_w x7 ∧ cb_w x7 < (64 : Nat) then (if 0 ≤ cb_w (g 0 29) ∧ cb_w (g 0 29) < (64 : Nat) then (f_X9_select_b140 kk56 x3 x4 x6 x7 s0 (cb_u (cb_u g 21 (cb_w (g 0 29)).toNat (g 18 ((cb_w x7).toNat))) 0 29 ((g 0 29) + 1))) else none) else none) else (f_X9_select_b140 kk56 x3 x4 x6 x7 s0 g)))
  refine cb_istore (ls' := [some (.inr 0), none, none, some (.inl x3), some (.inl x4), some (.inl x5), some (.inl x6), some (.inl x7), some (.inl s0)]) hok dX9_select_102 (by decide) rfl ?_
  refine cb_iload hok dX9_select_104 rfl ?_
  refine cb_ifeq (tgt := 140) hok rfl dX9_select_106 (by decide) (fun _ => ?_) (fun _ => ?_)
  · refine cb_fewer (ls' := [some (.inr 0), none, none, some (.inl x3), some (.inl x4), none, some (.inl x6), some (.inl x7), some (.inl s0)]) ⟨rfl, ⟨rfl, ⟨rfl, ⟨rfl, ⟨rfl, ⟨rfl, trivial⟩⟩⟩⟩⟩⟩ ?_
    exact J_X9_select_b140 hJ hok hk56 _ _ _ _ _ _
  · refine cb_iload hok dX9_select_109 rfl ?_
    refine cb_ifne (tgt := 140) hok rfl dX9_select_111 (by decide) (fun _ => ?_) (fun _ => ?_)
    · refine cb_fewer (ls' := [some (.inr 0), none, none, some (.inl x3), some (.inl x4), none, some (.inl x6), some (.inl x7), some (.inl s0)]) ⟨rfl, ⟨rfl, ⟨rfl, ⟨rfl, ⟨rfl, ⟨rfl, trivial⟩⟩⟩⟩⟩⟩ ?_
      exact J_X9_select_b140 hJ hok hk56 _ _ _ _ _ _
    · refine cb_aload_n hok dX9_select_114 rfl ?_
      refine cb_gr hok dX9_select_115 fl_RX9_71 skM_b0 skM_c0 rfl ?_
      refine cb_aload_n hok dX9_select_118 rfl ?_
      refine cb_gi hok dX9_select_119 fl_RX9_203 skM_b0 skM_c0 rfl ?_
      refine cb_aload_n hok dX9_select_122 rfl ?_
      refine cb_gr hok dX9_select_123 fl_RX9_62 skM_b0 skM_c0 rfl ?_
      refine cb_iload hok dX9_select_126 rfl ?_
      refine cb_iald hok dX9_select_128 skM_b18 skM_c18 ?_
      refine cb_iast hok dX9_select_129 skM_b21 skM_c21 ?_
      refine cb_aload_n hok dX9_select_130 rfl ?_
      refine cb_dup hok dX9_select_131 ?_
      refine cb_gi hok dX9_select_132 fl_RX9_203 skM_b0 skM_c0 rfl ?_
      refine cb_top (y := g 0 29) rfl ?_
      refine cb_iconst hok dX9_select_135 ?_
      refine cb_iadd hok dX9_select_136 ?_
      refine cb_pi hok dX9_select_137 fp_RX9_203 skM_b0 skM_c0 rfl ?_
      refine cb_fewer (ls' := [some (.inr 0), none, none, some (.inl x3), some (.inl x4), none, some (.inl x6), some (.inl x7), some (.inl s0)]) ⟨rfl, ⟨rfl, ⟨rfl, ⟨rfl, ⟨rfl, ⟨rfl, trivial⟩⟩⟩⟩⟩⟩ ?_
      exact J_X9_select_b140 hJ hok hk56 _ _ _ _ _ _
def f_X9_select_b101 (kk56 : Int → Int → Int → Int → cb_S → Option (Int × cb_S)) (x3 x4 x5 x6 x7 : Int) (g : cb_S) : Option (Int × cb_S) := f_X9_select_b102 kk56 x3 x4 x5 x6 x7 0 g
set_option maxRecDepth 100000 in
theorem J_X9_select_b101 {O : cb_O} {M : cb_M} (hJ : cb_J O skM) (hok : cb_ok O skM M cX9_select 9 RX9 (some .int)) {kk56 : Int → Int → Int → Int → cb_S → Option (Int × cb_S)} (hk56 : ∀ (x3 x4 x5 x6 : Int) (g : cb_S), cb_j O skM false rm_X9_select M 9 56 [some (.inr 0), none, none, some (.inl x3), some (.inl x4), some (.inl x5), some (.inl x6), none, none] [] g (kk56 x3 x4 x5 x6 g)) : ∀ (x3 x4 x5 x6 x7 : Int) (g : cb_S), cb_j O skM false rm_X9_select M 9 101 [some (.inr 0), none, none, some (.inl x3), some (.inl x4), some (.inl x5), some (.inl x6), some (.inl x7), none] [] g (f_X9_select_b101 kk56 x3 x4 x5 x6 x7 g) := by
  intro x3 x4 x5 x6 x7 g
  show cb_j _ _ _ _ _ _ _ _ _ _ (f_X9_select_b102 kk56 x3 x4 x5 x6 x7 0 g)
  refine cb_iconst hok dX9_select_101 ?_
  refine cb_fewer (ls' := [some (.inr 0), none, none, some (.inl x3), some (.inl x4), some (.inl x5), some (.inl x6), some (.inl x7), none]) ⟨rfl, ⟨rfl, ⟨rfl, ⟨rfl, ⟨rfl, ⟨rfl, trivial⟩⟩⟩⟩⟩⟩ ?_
  exact J_X9_select_b102 hJ hok hk56 _ _ _ _ _ _ _
def f_X9_select_b56 : Nat → Int → Int → Int → Int → cb_S → Option (Int × cb_S)
  | 0 => fun _ _ _ _ _ => none
  | n + 1 => fun x3 x4 x5 x6 g => if cb_w (g 0 20) ≤ cb_w x6 then (some (g 0 29, g)) else (if 0 ≤ cb_w x6 ∧ cb_w x6 < (64 : Nat) then (if 0 ≤ cb_w (g 20 ((cb_w x6).toNat)) ∧ cb_w (g 20 ((cb_w x6).toNat)) < (64 : Nat) then (if cb_w (g 14 ((cb_w (g 20 ((cb_w x6).toNat))).toNat)) < cb_w x3 then (f_X9_select_b101 (f_X9_select_b56 n) x3 x4 x5 x6 (g 20 ((cb_w x6).toNat)) g) else (if 0 ≤ cb_w (g 20 ((cb_w x6).toNat)) ∧ cb_w (g 20 ((cb_w x6).toNat)) < (64 : Nat) then (if cb_w x4 ≤ cb_w (g 14 ((cb_w (g 20 ((cb_w x6).toNat))).toNat)) then (f_X9_select_b101 (f_X9_select_b56 n) x3 x4 x5 x6 (g 20 ((cb_w x6).toNat)) g) else (f_X9_select_b102 (f_X9_select_b56 n) x3 x4 x5 x6 (g 20 ((cb_w x6).toNat)) 1 g)) else none)) else none) else none)
set_option maxRecDepth 100000 in
theorem J_X9_select_b56 {O : cb_O} {M : cb_M} (hJ : cb_J O skM) (hok : cb_ok O skM M cX9_select 9 RX9 (some .int)) : ∀ (n : Nat) (x3 x4 x5 x6 : Int) (g : cb_S), cb_j O skM false rm_X9_select M 9 56 [some (.inr 0), none, none, some (.inl x3), some (.inl x4), some (.inl x5), some (.inl x6), none, none] [] g (f_X9_select_b56 n x3 x4 x5 x6 g) := by
  intro n
  induction n with
  | zero => intros; exact cb_none
  | succ n hk56 =>
    intro x3 x4 x5 x6 g
    show cb_j _ _ _ _ _ _ _ _ _ _ (if cb_w (g 0 20) ≤ cb_w x6 then (some (g 0 29, g)) else (if 0 ≤ cb_w x6 ∧ cb_w x6 < (64 : Nat) then (if 0 ≤ cb_w (g 20 ((cb_w x6).toNat)) ∧ cb_w (g 20 ((cb_w x6).toNat)) < (64 : Nat) then (if cb_w (g 14 ((cb_w (g 20 ((cb_w x6).toNat))).toNat)) < cb_w x3 then (f_X9_select_b101 (f_X9_select_b56 n) x3 x4 x5 x6 (g 20 ((cb_w x6).toNat)) g) else (if 0 ≤ cb_w (g 20 ((cb_w x6).toNat)) ∧ cb_w (g 20 ((cb_w x6).toNat)) < (64 : Nat) then (if cb_w x4 ≤ cb_w (g 14 ((cb_w (g 20 ((cb_w x6).toNat))).toNat)) then (f_X9_select_b101 (f_X9_select_b56 n) x3 x4 x5 x6 (g 20 ((cb_w x6).toNat)) g) else (f_X9_select_b102 (f_X9_select_b56 n) x3 x4 x5 x6 (g 20 ((cb_w x6).toNat)) 1 g)) else none)) else none) else none))
    refine cb_iload hok dX9_select_56 rfl ?_
    refine cb_aload_n hok dX9_select_58 rfl ?_
    refine cb_gi hok dX9_select_59 fl_RX9_129 skM_b0 skM_c0 rfl ?_
    refine cb_icge (tgt := 181) hok rfl rfl dX9_select_62 (by decide) (fun _ => ?_) (fun _ => ?_)
    · refine cb_aload_n hok dX9_select_181 rfl ?_
      refine cb_gi hok dX9_select_182 fl_RX9_203 skM_b0 skM_c0 rfl ?_
      exact cb_iret hok dX9_select_185
    · refine cb_aload_n hok dX9_select_65 rfl ?_
      refine cb_gr hok dX9_select_66 fl_RX9_68 skM_b0 skM_c0 rfl ?_
      refine cb_iload hok dX9_select_69 rfl ?_
      refine cb_iald hok dX9_select_71 skM_b20 skM_c20 ?_
      refine cb_istore (ls' := [some (.inr 0), none, none, some (.inl x3), some (.inl x4), some (.inl x5), some (.inl x6), some (.inl (g 20 ((cb_w x6).toNat))), none]) hok dX9_select_72 (by decide) rfl ?_
      refine cb_aload_n hok dX9_select_74 rfl ?_
      refine cb_gr hok dX9_select_75 fl_RX9_50 skM_b0 skM_c0 rfl ?_
      refine cb_iload hok dX9_select_78 rfl ?_
      refine cb_iald hok dX9_select_80 skM_b14 skM_c14 ?_
      refine cb_iload_n hok dX9_select_81 rfl ?_
      refine cb_iclt (tgt := 101) hok rfl rfl dX9_select_82 (by decide) (fun _ => ?_) (fun _ => ?_)
      · refine cb_fewer (ls' := [some (.inr 0), none, none, some (.inl x3), some (.inl x4), some (.inl x5), some (.inl x6), some (.inl (g 20 ((cb_w x6).toNat))), none]) ⟨rfl, ⟨rfl, ⟨rfl, ⟨rfl, ⟨rfl, ⟨rfl, trivial⟩⟩⟩⟩⟩⟩ ?_
        exact J_X9_select_b101 hJ hok hk56 _ _ _ _ _ _
      · refine cb_aload_n hok dX9_select_85 rfl ?_
        refine cb_gr hok dX9_select_86 fl_RX9_50 skM_b0 skM_c0 rfl ?_
        refine cb_iload hok dX9_select_89 rfl ?_
        refine cb_iald hok dX9_select_91 skM_b14 skM_c14 ?_
        refine cb_iload hok dX9_select_92 rfl ?_
        refine cb_icge (tgt := 101) hok rfl rfl dX9_select_94 (by decide) (fun _ => ?_) (fun _ => ?_)
        · refine cb_fewer (ls' := [some (.inr 0), none, none, some (.inl x3), some (.inl x4), some (.inl x5), some (.inl x6), some (.inl (g 20 ((cb_w x6).toNat))), none]) ⟨rfl, ⟨rfl, ⟨rfl, ⟨rfl, ⟨rfl, ⟨rfl, trivial⟩⟩⟩⟩⟩⟩ ?_
          exact J_X9_select_b101 hJ hok hk56 _ _ _ _ _ _
        · refine cb_iconst hok dX9_select_97 ?_
          refine cb_goto (tgt := 102) hok dX9_select_98 (by decide) ?_
          refine cb_fewer (ls' := [some (.inr 0), none, none, some (.inl x3), some (.inl x4), some (.inl x5), some (.inl x6), some (.inl (g 20 ((cb_w x6).toNat))), none]) ⟨rfl, ⟨rfl, ⟨rfl, ⟨rfl, ⟨rfl, ⟨rfl, trivial⟩⟩⟩⟩⟩⟩ ?_
          exact J_X9_select_b102 hJ hok hk56 _ _ _ _ _ _ _
def f_X9_select_b43 (x3 s0 : Int) (g : cb_S) : Option (Int × cb_S) := f_X9_select_b56  cb_N x3 s0 0 0 (cb_u g 0 29 0)
set_option maxRecDepth 100000 in
theorem J_X9_select_b43 {O : cb_O} {M : cb_M} (hJ : cb_J O skM) (hok : cb_ok O skM M cX9_select 9 RX9 (some .int)) : ∀ (x3 s0 : Int) (g : cb_S), cb_j O skM false rm_X9_select M 9 43 [some (.inr 0), none, none, some (.inl x3), none, none, none, none, none] [.inl s0] g (f_X9_select_b43 x3 s0 g) := by
  intro x3 s0 g
  show cb_j _ _ _ _ _ _ _ _ _ _ (f_X9_select_b56  cb_N x3 s0 0 0 (cb_u g 0 29 0))
  refine cb_istore (ls' := [some (.inr 0), none, none, some (.inl x3), some (.inl s0), none, none, none, none]) hok dX9_select_43 (by decide) rfl ?_
  refine cb_aload_n hok dX9_select_45 rfl ?_
  refine cb_iconst hok dX9_select_46 ?_
  refine cb_pi hok dX9_select_47 fp_RX9_203 skM_b0 skM_c0 rfl ?_
  refine cb_iconst hok dX9_select_50 ?_
  refine cb_istore (ls' := [some (.inr 0), none, none, some (.inl x3), some (.inl s0), some (.inl 0), none, none, none]) hok dX9_select_51 (by decide) rfl ?_
  refine cb_iconst hok dX9_select_53 ?_
  refine cb_istore (ls' := [some (.inr 0), none, none, some (.inl x3), some (.inl s0), some (.inl 0), some (.inl 0), none, none]) hok dX9_select_54 (by decide) rfl ?_
  refine cb_fewer (ls' := [some (.inr 0), none, none, some (.inl x3), some (.inl s0), some (.inl 0), some (.inl 0), none, none]) ⟨rfl, ⟨rfl, ⟨rfl, ⟨rfl, ⟨rfl, trivial⟩⟩⟩⟩⟩ ?_
  exact J_X9_select_b56 hJ hok  cb_N _ _ _ _ _
def f_X9_select_b32 (x1 x2 s0 : Int) (g : cb_S) : Option (Int × cb_S) := if cb_w x2 ≤ cb_w x1 then (f_X9_select_b43  s0 x1 g) else (f_X9_select_b43  s0 x2 g)
set_option maxRecDepth 100000 in
theorem J_X9_select_b32 {O : cb_O} {M : cb_M} (hJ : cb_J O skM) (hok : cb_ok O skM M cX9_select 9 RX9 (some .int)) : ∀ (x1 x2 s0 : Int) (g : cb_S), cb_j O skM false rm_X9_select M 9 32 [some (.inr 0), some (.inl x1), some (.inl x2), none, none, none, none, none, none] [.inl s0] g (f_X9_select_b32 x1 x2 s0 g) := by
  intro x1 x2 s0 g
  show cb_j _ _ _ _ _ _ _ _ _ _ (if cb_w x2 ≤ cb_w x1 then (f_X9_select_b43  s0 x1 g) else (f_X9_select_b43  s0 x2 g))
  refine cb_istore_n (ls' := [some (.inr 0), some (.inl x1), some (.inl x2), some (.inl s0), none, none, none, none, none]) hok dX9_select_32 (by decide) rfl ?_
  refine cb_iload_n hok dX9_select_33 rfl ?_
  refine cb_iload_n hok dX9_select_34 rfl ?_
  refine cb_icge (tgt := 42) hok rfl rfl dX9_select_35 (by decide) (fun _ => ?_) (fun _ => ?_)
  · refine cb_iload_n hok dX9_select_42 rfl ?_
    refine cb_fewer (ls' := [some (.inr 0), none, none, some (.inl s0), none, none, none, none, none]) ⟨rfl, ⟨rfl, trivial⟩⟩ ?_
    exact J_X9_select_b43 hJ hok  _ _ _
  · refine cb_iload_n hok dX9_select_38 rfl ?_
    refine cb_goto (tgt := 43) hok dX9_select_39 (by decide) ?_
    refine cb_fewer (ls' := [some (.inr 0), none, none, some (.inl s0), none, none, none, none, none]) ⟨rfl, ⟨rfl, trivial⟩⟩ ?_
    exact J_X9_select_b43 hJ hok  _ _ _
def f_X9_select (g : cb_S) (x1 : Int) (x2 : Int) : Option (Int × cb_S) := cb_b (f_X9_looks g ) (fun r1 g1 => (v_X9_isBetween g1 x1).bind (fun r2 => if cb_w r2 = 0 then (some (-1, g1)) else ((v_X9_isBetween g1 x2).bind (fun r3 => if cb_w r3 = 0 then (some (-1, g1)) else (if cb_w x2 ≤ cb_w x1 then (f_X9_select_b32  x1 x2 x2 g1) else (f_X9_select_b32  x1 x2 x1 g1))))))
set_option maxRecDepth 100000 in
theorem C_X9_select {O : cb_O} (hJ : cb_J O skM) (x1 : Int) (x2 : Int) (g : cb_S) : ∀ q, f_X9_select g x1 x2 = some q → cb_m O skM false yX9_select cX9_select 9 (some .int) rm_X9_select [.inr 0, .inl x1, .inl x2] g q := by
  intro q hq
  refine cb_of_body hJ (by decide) (Nat.le_of_ble_eq_true rfl) hq (fun M hok => ?_)
  show cb_j _ _ _ _ _ _ _ [some (.inr 0), some (.inl x1), some (.inl x2), none, none, none, none, none, none] _ _ (cb_b (f_X9_looks g ) (fun r1 g1 => (v_X9_isBetween g1 x1).bind (fun r2 => if cb_w r2 = 0 then (some (-1, g1)) else ((v_X9_isBetween g1 x2).bind (fun r3 => if cb_w r3 = 0 then (some (-1, g1)) else (if cb_w x2 ≤ cb_w x1 then (f_X9_select_b32  x1 x2 x2 g1) else (f_X9_select_b32  x1 x2 x1 g1)))))))
  refine cb_aload_n hok dX9_select_0 rfl ?_
  refine cb_cvv (as := []) (rest := []) hok lk_RX9_162 (by decide) (by decide) dX9_select_1 (fun q1 hq1 => C_X9_looks hJ _ q1 hq1) rfl rfl (Nat.le_of_ble_eq_true rfl) skM_b0 skM_c0 rfl (fun r1 g1 => ?_)
  refine cb_aload_n hok dX9_select_4 rfl ?_
  refine cb_iload_n hok dX9_select_5 rfl ?_
  refine cb_cvr (as := [.inl x1]) (rest := []) hok lk_RX9_156 (by decide) (by decide) dX9_select_6 (fun q1 hq1 => C_X9_isBetween hJ _ _ q1 hq1) rfl rfl (Nat.le_of_ble_eq_true rfl) skM_b0 skM_c0 rfl (fun r2 => ?_)
  refine cb_ifeq (tgt := 20) hok rfl dX9_select_9 (by decide) (fun _ => ?_) (fun _ => ?_)
  · refine cb_iconst hok dX9_select_20 ?_
    exact cb_iret hok dX9_select_21
  · refine cb_aload_n hok dX9_select_12 rfl ?_
    refine cb_iload_n hok dX9_select_13 rfl ?_
    refine cb_cvr (as := [.inl x2]) (rest := []) hok lk_RX9_156 (by decide) (by decide) dX9_select_14 (fun q1 hq1 => C_X9_isBetween hJ _ _ q1 hq1) rfl rfl (Nat.le_of_ble_eq_true rfl) skM_b0 skM_c0 rfl (fun r3 => ?_)
    refine cb_ifne (tgt := 22) hok rfl dX9_select_17 (by decide) (fun _ => ?_) (fun _ => ?_)
    · refine cb_iload_n hok dX9_select_22 rfl ?_
      refine cb_iload_n hok dX9_select_23 rfl ?_
      refine cb_icge (tgt := 31) hok rfl rfl dX9_select_24 (by decide) (fun _ => ?_) (fun _ => ?_)
      · refine cb_iload_n hok dX9_select_31 rfl ?_
        refine cb_fewer (ls' := [some (.inr 0), some (.inl x1), some (.inl x2), none, none, none, none, none, none]) ⟨rfl, ⟨rfl, ⟨rfl, trivial⟩⟩⟩ ?_
        exact J_X9_select_b32 hJ hok  _ _ _ _
      · refine cb_iload_n hok dX9_select_27 rfl ?_
        refine cb_goto (tgt := 32) hok dX9_select_28 (by decide) ?_
        refine cb_fewer (ls' := [some (.inr 0), some (.inl x1), some (.inl x2), none, none, none, none, none, none]) ⟨rfl, ⟨rfl, ⟨rfl, trivial⟩⟩⟩ ?_
        exact J_X9_select_b32 hJ hok  _ _ _ _
    · refine cb_iconst hok dX9_select_20 ?_
      exact cb_iret hok dX9_select_21
/-! CaretBenchModel piece(II)I -/
def v_X9_piece (g : cb_S) (x1 : Int) (x2 : Int) : Option Int := if cb_w x1 < 0 then (some (-1)) else (if cb_w x1 < cb_w (g 0 29) then (if cb_w x2 = 0 then (if 0 ≤ cb_w x1 ∧ cb_w x1 < (64 : Nat) then (some (g 21 ((cb_w x1).toNat))) else none) else (if cb_w x2 = 1 then (if 0 ≤ cb_w x1 ∧ cb_w x1 < (64 : Nat) then (some (g 22 ((cb_w x1).toNat))) else none) else (some (-1)))) else (some (-1)))
set_option maxRecDepth 100000 in
theorem C_X9_piece {O : cb_O} (hJ : cb_J O skM) (x1 : Int) (x2 : Int) (g : cb_S) : ∀ q, v_X9_piece g x1 x2 = some q → cb_m O skM false yX9_piece cX9_piece 3 (some .int) rm_X9_piece [.inr 0, .inl x1, .inl x2] g (q, g) := by
  intro q hq
  refine cr_of_body hJ (by decide) (Nat.le_of_ble_eq_true rfl) hq (fun M hok => ?_)
  show cb_jr _ _ _ _ _ _ [some (.inr 0), some (.inl x1), some (.inl x2)] _ _ (if cb_w x1 < 0 then (some (-1)) else (if cb_w x1 < cb_w (g 0 29) then (if cb_w x2 = 0 then (if 0 ≤ cb_w x1 ∧ cb_w x1 < (64 : Nat) then (some (g 21 ((cb_w x1).toNat))) else none) else (if cb_w x2 = 1 then (if 0 ≤ cb_w x1 ∧ cb_w x1 < (64 : Nat) then (some (g 22 ((cb_w x1).toNat))) else none) else (some (-1)))) else (some (-1))))
  refine cr_iload_n hok dX9_piece_0 rfl ?_
  refine cr_iflt (tgt := 12) hok rfl dX9_piece_1 (by decide) (fun _ => ?_) (fun _ => ?_)
  · refine cr_iconst hok dX9_piece_12 ?_
    exact cr_iret hok dX9_piece_13
  · refine cr_iload_n hok dX9_piece_4 rfl ?_
    refine cr_aload_n hok dX9_piece_5 rfl ?_
    refine cr_gi hok dX9_piece_6 fl_RX9_203 skM_b0 skM_c0 rfl ?_
    refine cr_iclt (tgt := 14) hok rfl rfl dX9_piece_9 (by decide) (fun _ => ?_) (fun _ => ?_)
    · refine cr_iload_n hok dX9_piece_14 rfl ?_
      refine cr_ifne (tgt := 27) hok rfl dX9_piece_15 (by decide) (fun _ => ?_) (fun _ => ?_)
      · refine cr_iload_n hok dX9_piece_27 rfl ?_
        refine cr_iconst hok dX9_piece_28 ?_
        refine cr_icne (tgt := 41) hok rfl (by decide) dX9_piece_29 (by decide) (fun _ => ?_) (fun _ => ?_)
        · refine cr_iconst hok dX9_piece_41 ?_
          exact cr_iret hok dX9_piece_42
        · refine cr_aload_n hok dX9_piece_32 rfl ?_
          refine cr_gr hok dX9_piece_33 fl_RX9_74 skM_b0 skM_c0 rfl ?_
          refine cr_iload_n hok dX9_piece_36 rfl ?_
          refine cr_iald hok dX9_piece_37 skM_b22 skM_c22 ?_
          refine cr_goto (tgt := 42) hok dX9_piece_38 (by decide) ?_
          exact cr_iret hok dX9_piece_42
      · refine cr_aload_n hok dX9_piece_18 rfl ?_
        refine cr_gr hok dX9_piece_19 fl_RX9_71 skM_b0 skM_c0 rfl ?_
        refine cr_iload_n hok dX9_piece_22 rfl ?_
        refine cr_iald hok dX9_piece_23 skM_b21 skM_c21 ?_
        refine cr_goto (tgt := 42) hok dX9_piece_24 (by decide) ?_
        exact cr_iret hok dX9_piece_42
    · refine cr_iconst hok dX9_piece_12 ?_
      exact cr_iret hok dX9_piece_13
/-! CaretBenchModel strikes(III)I -/
def f_X9_strikes_b12 : Nat → Int → Int → Int → Int → cb_S → Option (Int × cb_S)
  | 0 => fun _ _ _ _ _ => none
  | n + 1 => fun x1 x2 x3 x4 g => if cb_w (g 0 1) ≤ cb_w x4 then (cb_b (f_X9_goes (cb_u g 0 1 ((g 0 1) - (x2 - x1))) x1 x3) (fun r1 g1 => cb_b (f_X9_settles g1 ) (fun r2 g2 => some (x2 - x1, g2)))) else (if 0 ≤ cb_w x4 ∧ cb_w x4 < (64 : Nat) then (if 0 ≤ cb_w ((x1 + x4) - x2) ∧ cb_w ((x1 + x4) - x2) < (64 : Nat) then ((f_X9_strikes_b12 n) x1 x2 x3 (x4 + 1) (cb_u g 1 (cb_w ((x1 + x4) - x2)).toNat (g 1 ((cb_w x4).toNat)))) else none) else none)
set_option maxRecDepth 100000 in
theorem J_X9_strikes_b12 {O : cb_O} {M : cb_M} (hJ : cb_J O skM) (hok : cb_ok O skM M cX9_strikes 5 RX9 (some .int)) : ∀ (n : Nat) (x1 x2 x3 x4 : Int) (g : cb_S), cb_j O skM false rm_X9_strikes M 5 12 [some (.inr 0), some (.inl x1), some (.inl x2), some (.inl x3), some (.inl x4)] [] g (f_X9_strikes_b12 n x1 x2 x3 x4 g) := by
  intro n
  induction n with
  | zero => intros; exact cb_none
  | succ n hk12 =>
    intro x1 x2 x3 x4 g
    show cb_j _ _ _ _ _ _ _ _ _ _ (if cb_w (g 0 1) ≤ cb_w x4 then (cb_b (f_X9_goes (cb_u g 0 1 ((g 0 1) - (x2 - x1))) x1 x3) (fun r1 g1 => cb_b (f_X9_settles g1 ) (fun r2 g2 => some (x2 - x1, g2)))) else (if 0 ≤ cb_w x4 ∧ cb_w x4 < (64 : Nat) then (if 0 ≤ cb_w ((x1 + x4) - x2) ∧ cb_w ((x1 + x4) - x2) < (64 : Nat) then ((f_X9_strikes_b12 n) x1 x2 x3 (x4 + 1) (cb_u g 1 (cb_w ((x1 + x4) - x2)).toNat (g 1 ((cb_w x4).toNat)))) else none) else none))
    refine cb_iload hok dX9_strikes_12 rfl ?_
    refine cb_aload_n hok dX9_strikes_14 rfl ?_
    refine cb_gi hok dX9_strikes_15 fl_RX9_81 skM_b0 skM_c0 rfl ?_
    refine cb_icge (tgt := 45) hok rfl rfl dX9_strikes_18 (by decide) (fun _ => ?_) (fun _ => ?_)
    · refine cb_aload_n hok dX9_strikes_45 rfl ?_
      refine cb_dup hok dX9_strikes_46 ?_
      refine cb_gi hok dX9_strikes_47 fl_RX9_81 skM_b0 skM_c0 rfl ?_
      refine cb_iload_n hok dX9_strikes_50 rfl ?_
      refine cb_iload_n hok dX9_strikes_51 rfl ?_
      refine cb_isub hok dX9_strikes_52 ?_
      refine cb_isub hok dX9_strikes_53 ?_
      refine cb_pi hok dX9_strikes_54 fp_RX9_81 skM_b0 skM_c0 rfl ?_
      refine cb_aload_n hok dX9_strikes_57 rfl ?_
      refine cb_iload_n hok dX9_strikes_58 rfl ?_
      refine cb_iload_n hok dX9_strikes_59 rfl ?_
      refine cb_cvv (as := [.inl x1, .inl x3]) (rest := []) hok lk_RX9_187 (by decide) (by decide) dX9_strikes_60 (fun q1 hq1 => C_X9_goes hJ _ _ _ q1 hq1) rfl rfl (Nat.le_of_ble_eq_true rfl) skM_b0 skM_c0 rfl (fun r1 g1 => ?_)
      refine cb_aload_n hok dX9_strikes_63 rfl ?_
      refine cb_cvv (as := []) (rest := []) hok lk_RX9_174 (by decide) (by decide) dX9_strikes_64 (fun q1 hq1 => C_X9_settles hJ _ q1 hq1) rfl rfl (Nat.le_of_ble_eq_true rfl) skM_b0 skM_c0 rfl (fun r2 g2 => ?_)
      refine cb_iload_n hok dX9_strikes_67 rfl ?_
      refine cb_iload_n hok dX9_strikes_68 rfl ?_
      refine cb_isub hok dX9_strikes_69 ?_
      exact cb_iret hok dX9_strikes_70
    · refine cb_aload_n hok dX9_strikes_21 rfl ?_
      refine cb_gr hok dX9_strikes_22 fl_RX9_7 skM_b0 skM_c0 rfl ?_
      refine cb_iload_n hok dX9_strikes_25 rfl ?_
      refine cb_iload hok dX9_strikes_26 rfl ?_
      refine cb_iadd hok dX9_strikes_28 ?_
      refine cb_iload_n hok dX9_strikes_29 rfl ?_
      refine cb_isub hok dX9_strikes_30 ?_
      refine cb_aload_n hok dX9_strikes_31 rfl ?_
      refine cb_gr hok dX9_strikes_32 fl_RX9_7 skM_b0 skM_c0 rfl ?_
      refine cb_iload hok dX9_strikes_35 rfl ?_
      refine cb_iald hok dX9_strikes_37 skM_b1 skM_c1 ?_
      refine cb_iast hok dX9_strikes_38 skM_b1 skM_c1 ?_
      refine cb_iinc (ls' := [some (.inr 0), some (.inl x1), some (.inl x2), some (.inl x3), some (.inl (x4 + 1))]) hok dX9_strikes_39 rfl (by decide) rfl ?_
      refine cb_goto (tgt := 12) hok dX9_strikes_42 (by decide) ?_
      refine cb_fewer (ls' := [some (.inr 0), some (.inl x1), some (.inl x2), some (.inl x3), some (.inl (x4 + 1))]) ⟨rfl, ⟨rfl, ⟨rfl, ⟨rfl, ⟨rfl, trivial⟩⟩⟩⟩⟩ ?_
      exact hk12 _ _ _ _ _
def f_X9_strikes_b9 (x1 x2 x3 : Int) (g : cb_S) : Option (Int × cb_S) := f_X9_strikes_b12  cb_N x1 x2 x3 x2 g
set_option maxRecDepth 100000 in
theorem J_X9_strikes_b9 {O : cb_O} {M : cb_M} (hJ : cb_J O skM) (hok : cb_ok O skM M cX9_strikes 5 RX9 (some .int)) : ∀ (x1 x2 x3 : Int) (g : cb_S), cb_j O skM false rm_X9_strikes M 5 9 [some (.inr 0), some (.inl x1), some (.inl x2), some (.inl x3), none] [] g (f_X9_strikes_b9 x1 x2 x3 g) := by
  intro x1 x2 x3 g
  show cb_j _ _ _ _ _ _ _ _ _ _ (f_X9_strikes_b12  cb_N x1 x2 x3 x2 g)
  refine cb_iload_n hok dX9_strikes_9 rfl ?_
  refine cb_istore (ls' := [some (.inr 0), some (.inl x1), some (.inl x2), some (.inl x3), some (.inl x2)]) hok dX9_strikes_10 (by decide) rfl ?_
  refine cb_fewer (ls' := [some (.inr 0), some (.inl x1), some (.inl x2), some (.inl x3), some (.inl x2)]) ⟨rfl, ⟨rfl, ⟨rfl, ⟨rfl, ⟨rfl, trivial⟩⟩⟩⟩⟩ ?_
  exact J_X9_strikes_b12 hJ hok  cb_N _ _ _ _ _
def f_X9_strikes (g : cb_S) (x1 : Int) (x2 : Int) (x3 : Int) : Option (Int × cb_S) := if cb_w x2 ≤ cb_w x1 then (f_X9_strikes_b9  x1 x2 x3 g) else (cb_b (f_X9_keeps g ) (fun r1 g1 => f_X9_strikes_b9  x1 x2 x3 g1))
set_option maxRecDepth 100000 in
theorem C_X9_strikes {O : cb_O} (hJ : cb_J O skM) (x1 : Int) (x2 : Int) (x3 : Int) (g : cb_S) : ∀ q, f_X9_strikes g x1 x2 x3 = some q → cb_m O skM false yX9_strikes cX9_strikes 5 (some .int) rm_X9_strikes [.inr 0, .inl x1, .inl x2, .inl x3] g q := by
  intro q hq
  refine cb_of_body hJ (by decide) (Nat.le_of_ble_eq_true rfl) hq (fun M hok => ?_)
  show cb_j _ _ _ _ _ _ _ [some (.inr 0), some (.inl x1), some (.inl x2), some (.inl x3), none] _ _ (if cb_w x2 ≤ cb_w x1 then (f_X9_strikes_b9  x1 x2 x3 g) else (cb_b (f_X9_keeps g ) (fun r1 g1 => f_X9_strikes_b9  x1 x2 x3 g1)))
  refine cb_iload_n hok dX9_strikes_0 rfl ?_
  refine cb_iload_n hok dX9_strikes_1 rfl ?_
  refine cb_icge (tgt := 9) hok rfl rfl dX9_strikes_2 (by decide) (fun _ => ?_) (fun _ => ?_)
  · refine cb_fewer (ls' := [some (.inr 0), some (.inl x1), some (.inl x2), some (.inl x3), none]) ⟨rfl, ⟨rfl, ⟨rfl, ⟨rfl, trivial⟩⟩⟩⟩ ?_
    exact J_X9_strikes_b9 hJ hok  _ _ _ _
  · refine cb_aload_n hok dX9_strikes_5 rfl ?_
    refine cb_cvv (as := []) (rest := []) hok lk_RX9_171 (by decide) (by decide) dX9_strikes_6 (fun q1 hq1 => C_X9_keeps hJ _ q1 hq1) rfl rfl (Nat.le_of_ble_eq_true rfl) skM_b0 skM_c0 rfl (fun r1 g1 => ?_)
    refine cb_fewer (ls' := [some (.inr 0), some (.inl x1), some (.inl x2), some (.inl x3), none]) ⟨rfl, ⟨rfl, ⟨rfl, ⟨rfl, trivial⟩⟩⟩⟩ ?_
    exact J_X9_strikes_b9 hJ hok  _ _ _ _
/-! CaretBenchModel back()I -/
def f_X9_back_b27 (s0 : Int) (g : cb_S) : Option (Int × cb_S) := if cb_w s0 = (-1) then (if cb_w (g 0 3) = 0 then (some (0, g)) else (if 0 ≤ cb_w ((g 0 3) - 1) ∧ cb_w ((g 0 3) - 1) < (64 : Nat) then ((v_X9_isMark g (g 1 ((cb_w ((g 0 3) - 1)).toNat))).bind (fun r1 => if cb_w r1 = 0 then ((v_X9_endsAt g (g 0 3)).bind (fun r2 => if 0 ≤ cb_w r2 ∧ cb_w r2 < (64 : Nat) then (cb_b (f_X9_strikes g (g 14 ((cb_w r2).toNat)) (g 0 3) 1) (fun r3 g3 => some (r3, g3))) else none)) else (cb_b (f_X9_strikes g ((g 0 3) - 1) (g 0 3) 1) (fun r4 g4 => some (r4, g4))))) else none)) else (if 0 ≤ cb_w s0 ∧ cb_w s0 < (64 : Nat) then (if 0 ≤ cb_w s0 ∧ cb_w s0 < (64 : Nat) then (if 0 ≤ cb_w s0 ∧ cb_w s0 < (64 : Nat) then (cb_b (f_X9_strikes g (g 14 ((cb_w s0).toNat)) ((g 14 ((cb_w s0).toNat)) + (g 15 ((cb_w s0).toNat))) 1) (fun r5 g5 => some (r5, g5))) else none) else none) else none)
set_option maxRecDepth 100000 in
theorem J_X9_back_b27 {O : cb_O} {M : cb_M} (hJ : cb_J O skM) (hok : cb_ok O skM M cX9_back 2 RX9 (some .int)) : ∀ (s0 : Int) (g : cb_S), cb_j O skM false rm_X9_back M 2 27 [some (.inr 0), none] [.inl s0] g (f_X9_back_b27 s0 g) := by
  intro s0 g
  show cb_j _ _ _ _ _ _ _ _ _ _ (if cb_w s0 = (-1) then (if cb_w (g 0 3) = 0 then (some (0, g)) else (if 0 ≤ cb_w ((g 0 3) - 1) ∧ cb_w ((g 0 3) - 1) < (64 : Nat) then ((v_X9_isMark g (g 1 ((cb_w ((g 0 3) - 1)).toNat))).bind (fun r1 => if cb_w r1 = 0 then ((v_X9_endsAt g (g 0 3)).bind (fun r2 => if 0 ≤ cb_w r2 ∧ cb_w r2 < (64 : Nat) then (cb_b (f_X9_strikes g (g 14 ((cb_w r2).toNat)) (g 0 3) 1) (fun r3 g3 => some (r3, g3))) else none)) else (cb_b (f_X9_strikes g ((g 0 3) - 1) (g 0 3) 1) (fun r4 g4 => some (r4, g4))))) else none)) else (if 0 ≤ cb_w s0 ∧ cb_w s0 < (64 : Nat) then (if 0 ≤ cb_w s0 ∧ cb_w s0 < (64 : Nat) then (if 0 ≤ cb_w s0 ∧ cb_w s0 < (64 : Nat) then (cb_b (f_X9_strikes g (g 14 ((cb_w s0).toNat)) ((g 14 ((cb_w s0).toNat)) + (g 15 ((cb_w s0).toNat))) 1) (fun r5 g5 => some (r5, g5))) else none) else none) else none))
  refine cb_istore_n (ls' := [some (.inr 0), some (.inl s0)]) hok dX9_back_27 (by decide) rfl ?_
  refine cb_iload_n hok dX9_back_28 rfl ?_
  refine cb_iconst hok dX9_back_29 ?_
  refine cb_iceq (tgt := 58) hok rfl (by decide) dX9_back_30 (by decide) (fun _ => ?_) (fun _ => ?_)
  · refine cb_aload_n hok dX9_back_58 rfl ?_
    refine cb_gi hok dX9_back_59 fl_RX9_84 skM_b0 skM_c0 rfl ?_
    refine cb_ifne (tgt := 67) hok rfl dX9_back_62 (by decide) (fun _ => ?_) (fun _ => ?_)
    · refine cb_aload_n hok dX9_back_67 rfl ?_
      refine cb_gr hok dX9_back_68 fl_RX9_7 skM_b0 skM_c0 rfl ?_
      refine cb_aload_n hok dX9_back_71 rfl ?_
      refine cb_gi hok dX9_back_72 fl_RX9_84 skM_b0 skM_c0 rfl ?_
      refine cb_iconst hok dX9_back_75 ?_
      refine cb_isub hok dX9_back_76 ?_
      refine cb_iald hok dX9_back_77 skM_b1 skM_c1 ?_
      refine cb_csr (as := [.inl (g 1 ((cb_w ((g 0 3) - 1)).toNat))]) (rest := []) hok lk_RX9_103 (by decide) (by decide) dX9_back_78 (fun q1 hq1 => C_X9_isMark hJ _ _ q1 hq1) rfl rfl (Nat.le_of_ble_eq_true rfl) (fun r1 => ?_)
      refine cb_ifeq (tgt := 100) hok rfl dX9_back_81 (by decide) (fun _ => ?_) (fun _ => ?_)
      · refine cb_aload_n hok dX9_back_100 rfl ?_
        refine cb_aload_n hok dX9_back_101 rfl ?_
        refine cb_gi hok dX9_back_102 fl_RX9_84 skM_b0 skM_c0 rfl ?_
        refine cb_cvr (as := [.inl (g 0 3)]) (rest := []) hok lk_RX9_177 (by decide) (by decide) dX9_back_105 (fun q1 hq1 => C_X9_endsAt hJ _ _ q1 hq1) rfl rfl (Nat.le_of_ble_eq_true rfl) skM_b0 skM_c0 rfl (fun r2 => ?_)
        refine cb_istore_n (ls' := [some (.inr 0), some (.inl r2)]) hok dX9_back_108 (by decide) rfl ?_
        refine cb_aload_n hok dX9_back_109 rfl ?_
        refine cb_aload_n hok dX9_back_110 rfl ?_
        refine cb_gr hok dX9_back_111 fl_RX9_50 skM_b0 skM_c0 rfl ?_
        refine cb_iload_n hok dX9_back_114 rfl ?_
        refine cb_iald hok dX9_back_115 skM_b14 skM_c14 ?_
        refine cb_aload_n hok dX9_back_116 rfl ?_
        refine cb_gi hok dX9_back_117 fl_RX9_84 skM_b0 skM_c0 rfl ?_
        refine cb_iconst hok dX9_back_120 ?_
        refine cb_cvi (as := [.inl (g 14 ((cb_w r2).toNat)), .inl (g 0 3), .inl 1]) (rest := []) hok lk_RX9_206 (by decide) (by decide) dX9_back_121 (fun q1 hq1 => C_X9_strikes hJ _ _ _ _ q1 hq1) rfl rfl (Nat.le_of_ble_eq_true rfl) skM_b0 skM_c0 rfl (fun r3 g3 => ?_)
        exact cb_iret hok dX9_back_124
      · refine cb_aload_n hok dX9_back_84 rfl ?_
        refine cb_aload_n hok dX9_back_85 rfl ?_
        refine cb_gi hok dX9_back_86 fl_RX9_84 skM_b0 skM_c0 rfl ?_
        refine cb_iconst hok dX9_back_89 ?_
        refine cb_isub hok dX9_back_90 ?_
        refine cb_aload_n hok dX9_back_91 rfl ?_
        refine cb_gi hok dX9_back_92 fl_RX9_84 skM_b0 skM_c0 rfl ?_
        refine cb_iconst hok dX9_back_95 ?_
        refine cb_cvi (as := [.inl ((g 0 3) - 1), .inl (g 0 3), .inl 1]) (rest := []) hok lk_RX9_206 (by decide) (by decide) dX9_back_96 (fun q1 hq1 => C_X9_strikes hJ _ _ _ _ q1 hq1) rfl rfl (Nat.le_of_ble_eq_true rfl) skM_b0 skM_c0 rfl (fun r4 g4 => ?_)
        exact cb_iret hok dX9_back_99
    · refine cb_iconst hok dX9_back_65 ?_
      exact cb_iret hok dX9_back_66
  · refine cb_aload_n hok dX9_back_33 rfl ?_
    refine cb_aload_n hok dX9_back_34 rfl ?_
    refine cb_gr hok dX9_back_35 fl_RX9_50 skM_b0 skM_c0 rfl ?_
    refine cb_iload_n hok dX9_back_38 rfl ?_
    refine cb_iald hok dX9_back_39 skM_b14 skM_c14 ?_
    refine cb_aload_n hok dX9_back_40 rfl ?_
    refine cb_gr hok dX9_back_41 fl_RX9_50 skM_b0 skM_c0 rfl ?_
    refine cb_iload_n hok dX9_back_44 rfl ?_
    refine cb_iald hok dX9_back_45 skM_b14 skM_c14 ?_
    refine cb_aload_n hok dX9_back_46 rfl ?_
    refine cb_gr hok dX9_back_47 fl_RX9_53 skM_b0 skM_c0 rfl ?_
    refine cb_iload_n hok dX9_back_50 rfl ?_
    refine cb_iald hok dX9_back_51 skM_b15 skM_c15 ?_
    refine cb_iadd hok dX9_back_52 ?_
    refine cb_iconst hok dX9_back_53 ?_
    refine cb_cvi (as := [.inl (g 14 ((cb_w s0).toNat)), .inl ((g 14 ((cb_w s0).toNat)) + (g 15 ((cb_w s0).toNat))), .inl 1]) (rest := []) hok lk_RX9_206 (by decide) (by decide) dX9_back_54 (fun q1 hq1 => C_X9_strikes hJ _ _ _ _ q1 hq1) rfl rfl (Nat.le_of_ble_eq_true rfl) skM_b0 skM_c0 rfl (fun r5 g5 => ?_)
    exact cb_iret hok dX9_back_57
def f_X9_back (g : cb_S) : Option (Int × cb_S) := cb_b (f_X9_looks g ) (fun r1 g1 => (v_X9_isBetween g1 (g1 0 3)).bind (fun r2 => if cb_w r2 = 0 then ((v_X9_holds g1 (g1 0 3)).bind (fun r3 => f_X9_back_b27  r3 g1)) else (f_X9_back_b27  (-1) g1)))
set_option maxRecDepth 100000 in
theorem C_X9_back {O : cb_O} (hJ : cb_J O skM) (g : cb_S) : ∀ q, f_X9_back g = some q → cb_m O skM false yX9_back cX9_back 2 (some .int) rm_X9_back [.inr 0] g q := by
  intro q hq
  refine cb_of_body hJ (by decide) (Nat.le_of_ble_eq_true rfl) hq (fun M hok => ?_)
  show cb_j _ _ _ _ _ _ _ [some (.inr 0), none] _ _ (cb_b (f_X9_looks g ) (fun r1 g1 => (v_X9_isBetween g1 (g1 0 3)).bind (fun r2 => if cb_w r2 = 0 then ((v_X9_holds g1 (g1 0 3)).bind (fun r3 => f_X9_back_b27  r3 g1)) else (f_X9_back_b27  (-1) g1))))
  refine cb_aload_n hok dX9_back_0 rfl ?_
  refine cb_cvv (as := []) (rest := []) hok lk_RX9_162 (by decide) (by decide) dX9_back_1 (fun q1 hq1 => C_X9_looks hJ _ q1 hq1) rfl rfl (Nat.le_of_ble_eq_true rfl) skM_b0 skM_c0 rfl (fun r1 g1 => ?_)
  refine cb_aload_n hok dX9_back_4 rfl ?_
  refine cb_aload_n hok dX9_back_5 rfl ?_
  refine cb_gi hok dX9_back_6 fl_RX9_84 skM_b0 skM_c0 rfl ?_
  refine cb_cvr (as := [.inl (g1 0 3)]) (rest := []) hok lk_RX9_156 (by decide) (by decide) dX9_back_9 (fun q1 hq1 => C_X9_isBetween hJ _ _ q1 hq1) rfl rfl (Nat.le_of_ble_eq_true rfl) skM_b0 skM_c0 rfl (fun r2 => ?_)
  refine cb_ifeq (tgt := 19) hok rfl dX9_back_12 (by decide) (fun _ => ?_) (fun _ => ?_)
  · refine cb_aload_n hok dX9_back_19 rfl ?_
    refine cb_aload_n hok dX9_back_20 rfl ?_
    refine cb_gi hok dX9_back_21 fl_RX9_84 skM_b0 skM_c0 rfl ?_
    refine cb_cvr (as := [.inl (g1 0 3)]) (rest := []) hok lk_RX9_159 (by decide) (by decide) dX9_back_24 (fun q1 hq1 => C_X9_holds hJ _ _ q1 hq1) rfl rfl (Nat.le_of_ble_eq_true rfl) skM_b0 skM_c0 rfl (fun r3 => ?_)
    refine cb_fewer (ls' := [some (.inr 0), none]) ⟨rfl, trivial⟩ ?_
    exact J_X9_back_b27 hJ hok  _ _
  · refine cb_iconst hok dX9_back_15 ?_
    refine cb_goto (tgt := 27) hok dX9_back_16 (by decide) ?_
    refine cb_fewer (ls' := [some (.inr 0), none]) ⟨rfl, trivial⟩ ?_
    exact J_X9_back_b27 hJ hok  _ _
/-! CaretBenchModel ahead()I -/
def f_X9_ahead_b34 (s0 : Int) (g : cb_S) : Option (Int × cb_S) := if cb_w (g 0 3) = cb_w (g 0 1) then (some (0, g)) else (if 0 ≤ cb_w s0 ∧ cb_w s0 < (64 : Nat) then (if 0 ≤ cb_w s0 ∧ cb_w s0 < (64 : Nat) then (if 0 ≤ cb_w s0 ∧ cb_w s0 < (64 : Nat) then (cb_b (f_X9_strikes g (g 14 ((cb_w s0).toNat)) ((g 14 ((cb_w s0).toNat)) + (g 15 ((cb_w s0).toNat))) 0) (fun r1 g1 => some (r1, g1))) else none) else none) else none)
set_option maxRecDepth 100000 in
theorem J_X9_ahead_b34 {O : cb_O} {M : cb_M} (hJ : cb_J O skM) (hok : cb_ok O skM M cX9_ahead 2 RX9 (some .int)) : ∀ (s0 : Int) (g : cb_S), cb_j O skM false rm_X9_ahead M 2 34 [some (.inr 0), none] [.inl s0] g (f_X9_ahead_b34 s0 g) := by
  intro s0 g
  show cb_j _ _ _ _ _ _ _ _ _ _ (if cb_w (g 0 3) = cb_w (g 0 1) then (some (0, g)) else (if 0 ≤ cb_w s0 ∧ cb_w s0 < (64 : Nat) then (if 0 ≤ cb_w s0 ∧ cb_w s0 < (64 : Nat) then (if 0 ≤ cb_w s0 ∧ cb_w s0 < (64 : Nat) then (cb_b (f_X9_strikes g (g 14 ((cb_w s0).toNat)) ((g 14 ((cb_w s0).toNat)) + (g 15 ((cb_w s0).toNat))) 0) (fun r1 g1 => some (r1, g1))) else none) else none) else none))
  refine cb_istore_n (ls' := [some (.inr 0), some (.inl s0)]) hok dX9_ahead_34 (by decide) rfl ?_
  refine cb_aload_n hok dX9_ahead_35 rfl ?_
  refine cb_gi hok dX9_ahead_36 fl_RX9_84 skM_b0 skM_c0 rfl ?_
  refine cb_aload_n hok dX9_ahead_39 rfl ?_
  refine cb_gi hok dX9_ahead_40 fl_RX9_81 skM_b0 skM_c0 rfl ?_
  refine cb_icne (tgt := 48) hok rfl rfl dX9_ahead_43 (by decide) (fun _ => ?_) (fun _ => ?_)
  · refine cb_aload_n hok dX9_ahead_48 rfl ?_
    refine cb_aload_n hok dX9_ahead_49 rfl ?_
    refine cb_gr hok dX9_ahead_50 fl_RX9_50 skM_b0 skM_c0 rfl ?_
    refine cb_iload_n hok dX9_ahead_53 rfl ?_
    refine cb_iald hok dX9_ahead_54 skM_b14 skM_c14 ?_
    refine cb_aload_n hok dX9_ahead_55 rfl ?_
    refine cb_gr hok dX9_ahead_56 fl_RX9_50 skM_b0 skM_c0 rfl ?_
    refine cb_iload_n hok dX9_ahead_59 rfl ?_
    refine cb_iald hok dX9_ahead_60 skM_b14 skM_c14 ?_
    refine cb_aload_n hok dX9_ahead_61 rfl ?_
    refine cb_gr hok dX9_ahead_62 fl_RX9_53 skM_b0 skM_c0 rfl ?_
    refine cb_iload_n hok dX9_ahead_65 rfl ?_
    refine cb_iald hok dX9_ahead_66 skM_b15 skM_c15 ?_
    refine cb_iadd hok dX9_ahead_67 ?_
    refine cb_iconst hok dX9_ahead_68 ?_
    refine cb_cvi (as := [.inl (g 14 ((cb_w s0).toNat)), .inl ((g 14 ((cb_w s0).toNat)) + (g 15 ((cb_w s0).toNat))), .inl 0]) (rest := []) hok lk_RX9_206 (by decide) (by decide) dX9_ahead_69 (fun q1 hq1 => C_X9_strikes hJ _ _ _ _ q1 hq1) rfl rfl (Nat.le_of_ble_eq_true rfl) skM_b0 skM_c0 rfl (fun r1 g1 => ?_)
    exact cb_iret hok dX9_ahead_72
  · refine cb_iconst hok dX9_ahead_46 ?_
    exact cb_iret hok dX9_ahead_47
def f_X9_ahead (g : cb_S) : Option (Int × cb_S) := cb_b (f_X9_looks g ) (fun r1 g1 => (v_X9_isBetween g1 (g1 0 3)).bind (fun r2 => if cb_w r2 = 0 then ((v_X9_holds g1 (g1 0 3)).bind (fun r3 => f_X9_ahead_b34  r3 g1)) else ((v_X9_beginsAt g1 (g1 0 3)).bind (fun r4 => f_X9_ahead_b34  r4 g1))))
set_option maxRecDepth 100000 in
theorem C_X9_ahead {O : cb_O} (hJ : cb_J O skM) (g : cb_S) : ∀ q, f_X9_ahead g = some q → cb_m O skM false yX9_ahead cX9_ahead 2 (some .int) rm_X9_ahead [.inr 0] g q := by
  intro q hq
  refine cb_of_body hJ (by decide) (Nat.le_of_ble_eq_true rfl) hq (fun M hok => ?_)
  show cb_j _ _ _ _ _ _ _ [some (.inr 0), none] _ _ (cb_b (f_X9_looks g ) (fun r1 g1 => (v_X9_isBetween g1 (g1 0 3)).bind (fun r2 => if cb_w r2 = 0 then ((v_X9_holds g1 (g1 0 3)).bind (fun r3 => f_X9_ahead_b34  r3 g1)) else ((v_X9_beginsAt g1 (g1 0 3)).bind (fun r4 => f_X9_ahead_b34  r4 g1)))))
  refine cb_aload_n hok dX9_ahead_0 rfl ?_
  refine cb_cvv (as := []) (rest := []) hok lk_RX9_162 (by decide) (by decide) dX9_ahead_1 (fun q1 hq1 => C_X9_looks hJ _ q1 hq1) rfl rfl (Nat.le_of_ble_eq_true rfl) skM_b0 skM_c0 rfl (fun r1 g1 => ?_)
  refine cb_aload_n hok dX9_ahead_4 rfl ?_
  refine cb_aload_n hok dX9_ahead_5 rfl ?_
  refine cb_gi hok dX9_ahead_6 fl_RX9_84 skM_b0 skM_c0 rfl ?_
  refine cb_cvr (as := [.inl (g1 0 3)]) (rest := []) hok lk_RX9_156 (by decide) (by decide) dX9_ahead_9 (fun q1 hq1 => C_X9_isBetween hJ _ _ q1 hq1) rfl rfl (Nat.le_of_ble_eq_true rfl) skM_b0 skM_c0 rfl (fun r2 => ?_)
  refine cb_ifeq (tgt := 26) hok rfl dX9_ahead_12 (by decide) (fun _ => ?_) (fun _ => ?_)
  · refine cb_aload_n hok dX9_ahead_26 rfl ?_
    refine cb_aload_n hok dX9_ahead_27 rfl ?_
    refine cb_gi hok dX9_ahead_28 fl_RX9_84 skM_b0 skM_c0 rfl ?_
    refine cb_cvr (as := [.inl (g1 0 3)]) (rest := []) hok lk_RX9_159 (by decide) (by decide) dX9_ahead_31 (fun q1 hq1 => C_X9_holds hJ _ _ q1 hq1) rfl rfl (Nat.le_of_ble_eq_true rfl) skM_b0 skM_c0 rfl (fun r3 => ?_)
    refine cb_fewer (ls' := [some (.inr 0), none]) ⟨rfl, trivial⟩ ?_
    exact J_X9_ahead_b34 hJ hok  _ _
  · refine cb_aload_n hok dX9_ahead_15 rfl ?_
    refine cb_aload_n hok dX9_ahead_16 rfl ?_
    refine cb_gi hok dX9_ahead_17 fl_RX9_84 skM_b0 skM_c0 rfl ?_
    refine cb_cvr (as := [.inl (g1 0 3)]) (rest := []) hok lk_RX9_153 (by decide) (by decide) dX9_ahead_20 (fun q1 hq1 => C_X9_beginsAt hJ _ _ q1 hq1) rfl rfl (Nat.le_of_ble_eq_true rfl) skM_b0 skM_c0 rfl (fun r4 => ?_)
    refine cb_goto (tgt := 34) hok dX9_ahead_23 (by decide) ?_
    refine cb_fewer (ls' := [some (.inr 0), none]) ⟨rfl, trivial⟩ ?_
    exact J_X9_ahead_b34 hJ hok  _ _
/-! CaretBenchModel type(I)Z -/
def f_X9_type_b27 : Nat → Int → Int → cb_S → Option (Int × cb_S)
  | 0 => fun _ _ _ => none
  | n + 1 => fun x1 x2 g => if cb_w x2 ≤ cb_w (g 0 3) then (if 0 ≤ cb_w (g 0 3) ∧ cb_w (g 0 3) < (64 : Nat) then (cb_b (f_X9_goes (cb_u (cb_u g 1 (cb_w (g 0 3)).toNat x1) 0 1 ((g 0 1) + 1)) ((g 0 3) + 1) 0) (fun r1 g1 => cb_b (f_X9_settles g1 ) (fun r2 g2 => some (1, g2)))) else none) else (if 0 ≤ cb_w (x2 - 1) ∧ cb_w (x2 - 1) < (64 : Nat) then (if 0 ≤ cb_w x2 ∧ cb_w x2 < (64 : Nat) then ((f_X9_type_b27 n) x1 (x2 + (-1)) (cb_u g 1 (cb_w x2).toNat (g 1 ((cb_w (x2 - 1)).toNat)))) else none) else none)
set_option maxRecDepth 100000 in
theorem J_X9_type_b27 {O : cb_O} {M : cb_M} (hJ : cb_J O skM) (hok : cb_ok O skM M cX9_type 3 RX9 (some .boolean)) : ∀ (n : Nat) (x1 x2 : Int) (g : cb_S), cb_j O skM false rm_X9_type M 3 27 [some (.inr 0), some (.inl x1), some (.inl x2)] [] g (f_X9_type_b27 n x1 x2 g) := by
  intro n
  induction n with
  | zero => intros; exact cb_none
  | succ n hk27 =>
    intro x1 x2 g
    show cb_j _ _ _ _ _ _ _ _ _ _ (if cb_w x2 ≤ cb_w (g 0 3) then (if 0 ≤ cb_w (g 0 3) ∧ cb_w (g 0 3) < (64 : Nat) then (cb_b (f_X9_goes (cb_u (cb_u g 1 (cb_w (g 0 3)).toNat x1) 0 1 ((g 0 1) + 1)) ((g 0 3) + 1) 0) (fun r1 g1 => cb_b (f_X9_settles g1 ) (fun r2 g2 => some (1, g2)))) else none) else (if 0 ≤ cb_w (x2 - 1) ∧ cb_w (x2 - 1) < (64 : Nat) then (if 0 ≤ cb_w x2 ∧ cb_w x2 < (64 : Nat) then ((f_X9_type_b27 n) x1 (x2 + (-1)) (cb_u g 1 (cb_w x2).toNat (g 1 ((cb_w (x2 - 1)).toNat)))) else none) else none))
    refine cb_iload_n hok dX9_type_27 rfl ?_
    refine cb_aload_n hok dX9_type_28 rfl ?_
    refine cb_gi hok dX9_type_29 fl_RX9_84 skM_b0 skM_c0 rfl ?_
    refine cb_icle (tgt := 55) hok rfl rfl dX9_type_32 (by decide) (fun _ => ?_) (fun _ => ?_)
    · refine cb_aload_n hok dX9_type_55 rfl ?_
      refine cb_gr hok dX9_type_56 fl_RX9_7 skM_b0 skM_c0 rfl ?_
      refine cb_aload_n hok dX9_type_59 rfl ?_
      refine cb_gi hok dX9_type_60 fl_RX9_84 skM_b0 skM_c0 rfl ?_
      refine cb_iload_n hok dX9_type_63 rfl ?_
      refine cb_iast hok dX9_type_64 skM_b1 skM_c1 ?_
      refine cb_aload_n hok dX9_type_65 rfl ?_
      refine cb_dup hok dX9_type_66 ?_
      refine cb_gi hok dX9_type_67 fl_RX9_81 skM_b0 skM_c0 rfl ?_
      refine cb_top (y := g 0 1) rfl ?_
      refine cb_iconst hok dX9_type_70 ?_
      refine cb_iadd hok dX9_type_71 ?_
      refine cb_pi hok dX9_type_72 fp_RX9_81 skM_b0 skM_c0 rfl ?_
      refine cb_aload_n hok dX9_type_75 rfl ?_
      refine cb_aload_n hok dX9_type_76 rfl ?_
      refine cb_gi hok dX9_type_77 fl_RX9_84 skM_b0 skM_c0 rfl ?_
      refine cb_top (y := g 0 3) rfl ?_
      refine cb_iconst hok dX9_type_80 ?_
      refine cb_iadd hok dX9_type_81 ?_
      refine cb_iconst hok dX9_type_82 ?_
      refine cb_cvv (as := [.inl ((g 0 3) + 1), .inl 0]) (rest := []) hok lk_RX9_187 (by decide) (by decide) dX9_type_83 (fun q1 hq1 => C_X9_goes hJ _ _ _ q1 hq1) rfl rfl (Nat.le_of_ble_eq_true rfl) skM_b0 skM_c0 rfl (fun r1 g1 => ?_)
      refine cb_aload_n hok dX9_type_86 rfl ?_
      refine cb_cvv (as := []) (rest := []) hok lk_RX9_174 (by decide) (by decide) dX9_type_87 (fun q1 hq1 => C_X9_settles hJ _ q1 hq1) rfl rfl (Nat.le_of_ble_eq_true rfl) skM_b0 skM_c0 rfl (fun r2 g2 => ?_)
      refine cb_iconst hok dX9_type_90 ?_
      exact cb_zret hok dX9_type_91 (by decide)
    · refine cb_aload_n hok dX9_type_35 rfl ?_
      refine cb_gr hok dX9_type_36 fl_RX9_7 skM_b0 skM_c0 rfl ?_
      refine cb_iload_n hok dX9_type_39 rfl ?_
      refine cb_aload_n hok dX9_type_40 rfl ?_
      refine cb_gr hok dX9_type_41 fl_RX9_7 skM_b0 skM_c0 rfl ?_
      refine cb_iload_n hok dX9_type_44 rfl ?_
      refine cb_iconst hok dX9_type_45 ?_
      refine cb_isub hok dX9_type_46 ?_
      refine cb_iald hok dX9_type_47 skM_b1 skM_c1 ?_
      refine cb_iast hok dX9_type_48 skM_b1 skM_c1 ?_
      refine cb_iinc (ls' := [some (.inr 0), some (.inl x1), some (.inl (x2 + (-1)))]) hok dX9_type_49 rfl (by decide) rfl ?_
      refine cb_goto (tgt := 27) hok dX9_type_52 (by decide) ?_
      refine cb_fewer (ls' := [some (.inr 0), some (.inl x1), some (.inl (x2 + (-1)))]) ⟨rfl, ⟨rfl, ⟨rfl, trivial⟩⟩⟩ ?_
      exact hk27 _ _ _
def f_X9_type (g : cb_S) (x1 : Int) : Option (Int × cb_S) := (v_X9_isSign g x1).bind (fun r1 => if cb_w r1 = 0 then (some (0, g)) else (if cb_w (g 0 1) = 60 then (some (0, g)) else (cb_b (f_X9_keeps g ) (fun r2 g2 => f_X9_type_b27  cb_N x1 (g2 0 1) g2))))
set_option maxRecDepth 100000 in
theorem C_X9_type {O : cb_O} (hJ : cb_J O skM) (x1 : Int) (g : cb_S) : ∀ q, f_X9_type g x1 = some q → cb_m O skM false yX9_type cX9_type 3 (some .boolean) rm_X9_type [.inr 0, .inl x1] g q := by
  intro q hq
  refine cb_of_body hJ (by decide) (Nat.le_of_ble_eq_true rfl) hq (fun M hok => ?_)
  show cb_j _ _ _ _ _ _ _ [some (.inr 0), some (.inl x1), none] _ _ ((v_X9_isSign g x1).bind (fun r1 => if cb_w r1 = 0 then (some (0, g)) else (if cb_w (g 0 1) = 60 then (some (0, g)) else (cb_b (f_X9_keeps g ) (fun r2 g2 => f_X9_type_b27  cb_N x1 (g2 0 1) g2)))))
  refine cb_iload_n hok dX9_type_0 rfl ?_
  refine cb_csr (as := [.inl x1]) (rest := []) hok lk_RX9_168 (by decide) (by decide) dX9_type_1 (fun q1 hq1 => C_X9_isSign hJ _ _ q1 hq1) rfl rfl (Nat.le_of_ble_eq_true rfl) (fun r1 => ?_)
  refine cb_ifeq (tgt := 16) hok rfl dX9_type_4 (by decide) (fun _ => ?_) (fun _ => ?_)
  · refine cb_iconst hok dX9_type_16 ?_
    exact cb_zret hok dX9_type_17 (by decide)
  · refine cb_aload_n hok dX9_type_7 rfl ?_
    refine cb_gi hok dX9_type_8 fl_RX9_81 skM_b0 skM_c0 rfl ?_
    refine cb_bipush hok dX9_type_11 (by decide) ?_
    refine cb_icne (tgt := 18) hok rfl (by decide) dX9_type_13 (by decide) (fun _ => ?_) (fun _ => ?_)
    · refine cb_aload_n hok dX9_type_18 rfl ?_
      refine cb_cvv (as := []) (rest := []) hok lk_RX9_171 (by decide) (by decide) dX9_type_19 (fun q1 hq1 => C_X9_keeps hJ _ q1 hq1) rfl rfl (Nat.le_of_ble_eq_true rfl) skM_b0 skM_c0 rfl (fun r2 g2 => ?_)
      refine cb_aload_n hok dX9_type_22 rfl ?_
      refine cb_gi hok dX9_type_23 fl_RX9_81 skM_b0 skM_c0 rfl ?_
      refine cb_istore_n (ls' := [some (.inr 0), some (.inl x1), some (.inl (g2 0 1))]) hok dX9_type_26 (by decide) rfl ?_
      refine cb_fewer (ls' := [some (.inr 0), some (.inl x1), some (.inl (g2 0 1))]) ⟨rfl, ⟨rfl, ⟨rfl, trivial⟩⟩⟩ ?_
      exact J_X9_type_b27 hJ hok  cb_N _ _ _
    · refine cb_iconst hok dX9_type_16 ?_
      exact cb_zret hok dX9_type_17 (by decide)
/-! CaretBenchModel cut(II)I -/
def f_X9_cut_b67 (s0 s1 : Int) (g : cb_S) : Option (Int × cb_S) := cb_b (f_X9_strikes g s1 s0 0) (fun r1 g1 => some (r1, g1))
set_option maxRecDepth 100000 in
theorem J_X9_cut_b67 {O : cb_O} {M : cb_M} (hJ : cb_J O skM) (hok : cb_ok O skM M cX9_cut 3 RX9 (some .int)) : ∀ (s0 s1 : Int) (g : cb_S), cb_j O skM false rm_X9_cut M 3 67 [none, none, none] [.inl s0, .inl s1, .inr 0] g (f_X9_cut_b67 s0 s1 g) := by
  intro s0 s1 g
  show cb_j _ _ _ _ _ _ _ _ _ _ (cb_b (f_X9_strikes g s1 s0 0) (fun r1 g1 => some (r1, g1)))
  refine cb_iconst hok dX9_cut_67 ?_
  refine cb_cvi (as := [.inl s1, .inl s0, .inl 0]) (rest := []) hok lk_RX9_206 (by decide) (by decide) dX9_cut_68 (fun q1 hq1 => C_X9_strikes hJ _ _ _ _ q1 hq1) rfl rfl (Nat.le_of_ble_eq_true rfl) skM_b0 skM_c0 rfl (fun r1 g1 => ?_)
  exact cb_iret hok dX9_cut_71
def f_X9_cut_b57 (x1 x2 s0 : Int) (g : cb_S) : Option (Int × cb_S) := if cb_w x2 ≤ cb_w x1 then (f_X9_cut_b67  x1 s0 g) else (f_X9_cut_b67  x2 s0 g)
set_option maxRecDepth 100000 in
theorem J_X9_cut_b57 {O : cb_O} {M : cb_M} (hJ : cb_J O skM) (hok : cb_ok O skM M cX9_cut 3 RX9 (some .int)) : ∀ (x1 x2 s0 : Int) (g : cb_S), cb_j O skM false rm_X9_cut M 3 57 [none, some (.inl x1), some (.inl x2)] [.inl s0, .inr 0] g (f_X9_cut_b57 x1 x2 s0 g) := by
  intro x1 x2 s0 g
  show cb_j _ _ _ _ _ _ _ _ _ _ (if cb_w x2 ≤ cb_w x1 then (f_X9_cut_b67  x1 s0 g) else (f_X9_cut_b67  x2 s0 g))
  refine cb_iload_n hok dX9_cut_57 rfl ?_
  refine cb_iload_n hok dX9_cut_58 rfl ?_
  refine cb_icge (tgt := 66) hok rfl rfl dX9_cut_59 (by decide) (fun _ => ?_) (fun _ => ?_)
  · refine cb_iload_n hok dX9_cut_66 rfl ?_
    refine cb_fewer (ls' := [none, none, none]) trivial ?_
    exact J_X9_cut_b67 hJ hok  _ _ _
  · refine cb_iload_n hok dX9_cut_62 rfl ?_
    refine cb_goto (tgt := 67) hok dX9_cut_63 (by decide) ?_
    refine cb_fewer (ls' := [none, none, none]) trivial ?_
    exact J_X9_cut_b67 hJ hok  _ _ _
def f_X9_cut (g : cb_S) (x1 : Int) (x2 : Int) : Option (Int × cb_S) := cb_b (f_X9_looks g ) (fun r1 g1 => if cb_w x1 < 0 then (some (-1, g1)) else (if cb_w (g1 0 1) < cb_w x1 then (some (-1, g1)) else (if cb_w x2 < 0 then (some (-1, g1)) else (if cb_w (g1 0 1) < cb_w x2 then (some (-1, g1)) else ((v_X9_isStand g1 x1).bind (fun r2 => if cb_w r2 = 0 then (some (-1, g1)) else ((v_X9_isStand g1 x2).bind (fun r3 => if cb_w r3 = 0 then (some (-1, g1)) else (if cb_w x2 ≤ cb_w x1 then (f_X9_cut_b57  x1 x2 x2 g1) else (f_X9_cut_b57  x1 x2 x1 g1))))))))))
set_option maxRecDepth 100000 in
theorem C_X9_cut {O : cb_O} (hJ : cb_J O skM) (x1 : Int) (x2 : Int) (g : cb_S) : ∀ q, f_X9_cut g x1 x2 = some q → cb_m O skM false yX9_cut cX9_cut 3 (some .int) rm_X9_cut [.inr 0, .inl x1, .inl x2] g q := by
  intro q hq
  refine cb_of_body hJ (by decide) (Nat.le_of_ble_eq_true rfl) hq (fun M hok => ?_)
  show cb_j _ _ _ _ _ _ _ [some (.inr 0), some (.inl x1), some (.inl x2)] _ _ (cb_b (f_X9_looks g ) (fun r1 g1 => if cb_w x1 < 0 then (some (-1, g1)) else (if cb_w (g1 0 1) < cb_w x1 then (some (-1, g1)) else (if cb_w x2 < 0 then (some (-1, g1)) else (if cb_w (g1 0 1) < cb_w x2 then (some (-1, g1)) else ((v_X9_isStand g1 x1).bind (fun r2 => if cb_w r2 = 0 then (some (-1, g1)) else ((v_X9_isStand g1 x2).bind (fun r3 => if cb_w r3 = 0 then (some (-1, g1)) else (if cb_w x2 ≤ cb_w x1 then (f_X9_cut_b57  x1 x2 x2 g1) else (f_X9_cut_b57  x1 x2 x1 g1)))))))))))
  refine cb_aload_n hok dX9_cut_0 rfl ?_
  refine cb_cvv (as := []) (rest := []) hok lk_RX9_162 (by decide) (by decide) dX9_cut_1 (fun q1 hq1 => C_X9_looks hJ _ q1 hq1) rfl rfl (Nat.le_of_ble_eq_true rfl) skM_b0 skM_c0 rfl (fun r1 g1 => ?_)
  refine cb_iload_n hok dX9_cut_4 rfl ?_
  refine cb_iflt (tgt := 44) hok rfl dX9_cut_5 (by decide) (fun _ => ?_) (fun _ => ?_)
  · refine cb_iconst hok dX9_cut_44 ?_
    exact cb_iret hok dX9_cut_45
  · refine cb_iload_n hok dX9_cut_8 rfl ?_
    refine cb_aload_n hok dX9_cut_9 rfl ?_
    refine cb_gi hok dX9_cut_10 fl_RX9_81 skM_b0 skM_c0 rfl ?_
    refine cb_icgt (tgt := 44) hok rfl rfl dX9_cut_13 (by decide) (fun _ => ?_) (fun _ => ?_)
    · refine cb_iconst hok dX9_cut_44 ?_
      exact cb_iret hok dX9_cut_45
    · refine cb_iload_n hok dX9_cut_16 rfl ?_
      refine cb_iflt (tgt := 44) hok rfl dX9_cut_17 (by decide) (fun _ => ?_) (fun _ => ?_)
      · refine cb_iconst hok dX9_cut_44 ?_
        exact cb_iret hok dX9_cut_45
      · refine cb_iload_n hok dX9_cut_20 rfl ?_
        refine cb_aload_n hok dX9_cut_21 rfl ?_
        refine cb_gi hok dX9_cut_22 fl_RX9_81 skM_b0 skM_c0 rfl ?_
        refine cb_icgt (tgt := 44) hok rfl rfl dX9_cut_25 (by decide) (fun _ => ?_) (fun _ => ?_)
        · refine cb_iconst hok dX9_cut_44 ?_
          exact cb_iret hok dX9_cut_45
        · refine cb_aload_n hok dX9_cut_28 rfl ?_
          refine cb_iload_n hok dX9_cut_29 rfl ?_
          refine cb_cvr (as := [.inl x1]) (rest := []) hok lk_RX9_165 (by decide) (by decide) dX9_cut_30 (fun q1 hq1 => C_X9_isStand hJ _ _ q1 hq1) rfl rfl (Nat.le_of_ble_eq_true rfl) skM_b0 skM_c0 rfl (fun r2 => ?_)
          refine cb_ifeq (tgt := 44) hok rfl dX9_cut_33 (by decide) (fun _ => ?_) (fun _ => ?_)
          · refine cb_iconst hok dX9_cut_44 ?_
            exact cb_iret hok dX9_cut_45
          · refine cb_aload_n hok dX9_cut_36 rfl ?_
            refine cb_iload_n hok dX9_cut_37 rfl ?_
            refine cb_cvr (as := [.inl x2]) (rest := []) hok lk_RX9_165 (by decide) (by decide) dX9_cut_38 (fun q1 hq1 => C_X9_isStand hJ _ _ q1 hq1) rfl rfl (Nat.le_of_ble_eq_true rfl) skM_b0 skM_c0 rfl (fun r3 => ?_)
            refine cb_ifne (tgt := 46) hok rfl dX9_cut_41 (by decide) (fun _ => ?_) (fun _ => ?_)
            · refine cb_aload_n hok dX9_cut_46 rfl ?_
              refine cb_iload_n hok dX9_cut_47 rfl ?_
              refine cb_iload_n hok dX9_cut_48 rfl ?_
              refine cb_icge (tgt := 56) hok rfl rfl dX9_cut_49 (by decide) (fun _ => ?_) (fun _ => ?_)
              · refine cb_iload_n hok dX9_cut_56 rfl ?_
                refine cb_fewer (ls' := [none, some (.inl x1), some (.inl x2)]) ⟨rfl, ⟨rfl, trivial⟩⟩ ?_
                exact J_X9_cut_b57 hJ hok  _ _ _ _
              · refine cb_iload_n hok dX9_cut_52 rfl ?_
                refine cb_goto (tgt := 57) hok dX9_cut_53 (by decide) ?_
                refine cb_fewer (ls' := [none, some (.inl x1), some (.inl x2)]) ⟨rfl, ⟨rfl, trivial⟩⟩ ?_
                exact J_X9_cut_b57 hJ hok  _ _ _ _
            · refine cb_iconst hok dX9_cut_44 ?_
              exact cb_iret hok dX9_cut_45
