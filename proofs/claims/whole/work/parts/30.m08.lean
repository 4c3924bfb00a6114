/-! CaretBenchModel undo()I -/
def f_X9_undo_b60 : Nat → Int → cb_S → Option (Int × cb_S)
  | 0 => fun _ _ => none
  | n + 1 => fun x1 g => if 64 ≤ cb_w x1 then (some (g 0 5, g)) else (if 0 ≤ cb_w ((64 * (g 0 5)) + x1) ∧ cb_w ((64 * (g 0 5)) + x1) < (512 : Nat) then (if 0 ≤ cb_w x1 ∧ cb_w x1 < (64 : Nat) then ((f_X9_undo_b60 n) (x1 + 1) (cb_u g 1 (cb_w x1).toNat (g 3 ((cb_w ((64 * (g 0 5)) + x1)).toNat)))) else none) else none)
set_option maxRecDepth 100000 in
theorem J_X9_undo_b60 {O : cb_O} {M : cb_M} (hJ : cb_J O skM) (hok : cb_ok O skM M cX9_undo 2 RX9 (some .int)) : ∀ (n : Nat) (x1 : Int) (g : cb_S), cb_j O skM false rm_X9_undo M 2 60 [some (.inr 0), some (.inl x1)] [] g (f_X9_undo_b60 n x1 g) := by
  intro n
  induction n with
  | zero => intros; exact cb_none
  | succ n hk60 =>
    intro x1 g
    show cb_j _ _ _ _ _ _ _ _ _ _ (if 64 ≤ cb_w x1 then (some (g 0 5, g)) else (if 0 ≤ cb_w ((64 * (g 0 5)) + x1) ∧ cb_w ((64 * (g 0 5)) + x1) < (512 : Nat) then (if 0 ≤ cb_w x1 ∧ cb_w x1 < (64 : Nat) then ((f_X9_undo_b60 n) (x1 + 1) (cb_u g 1 (cb_w x1).toNat (g 3 ((cb_w ((64 * (g 0 5)) + x1)).toNat)))) else none) else none))
    refine cb_iload_n hok dX9_undo_60 rfl ?_
    refine cb_bipush hok dX9_undo_61 (by decide) ?_
    refine cb_icge (tgt := 92) hok rfl (by decide) dX9_undo_63 (by decide) (fun _ => ?_) (fun _ => ?_)
    · refine cb_aload_n hok dX9_undo_92 rfl ?_
      refine cb_gi hok dX9_undo_93 fl_RX9_77 skM_b0 skM_c0 rfl ?_
      exact cb_iret hok dX9_undo_96
    · refine cb_aload_n hok dX9_undo_66 rfl ?_
      refine cb_gr hok dX9_undo_67 fl_RX9_7 skM_b0 skM_c0 rfl ?_
      refine cb_iload_n hok dX9_undo_70 rfl ?_
      refine cb_aload_n hok dX9_undo_71 rfl ?_
      refine cb_gr hok dX9_undo_72 fl_RX9_16 skM_b0 skM_c0 rfl ?_
      refine cb_bipush hok dX9_undo_75 (by decide) ?_
      refine cb_aload_n hok dX9_undo_77 rfl ?_
      refine cb_gi hok dX9_undo_78 fl_RX9_77 skM_b0 skM_c0 rfl ?_
      refine cb_imul hok dX9_undo_81 ?_
      refine cb_iload_n hok dX9_undo_82 rfl ?_
      refine cb_iadd hok dX9_undo_83 ?_
      refine cb_iald hok dX9_undo_84 skM_b3 skM_c3 ?_
      refine cb_iast hok dX9_undo_85 skM_b1 skM_c1 ?_
      refine cb_iinc (ls' := [some (.inr 0), some (.inl (x1 + 1))]) hok dX9_undo_86 rfl (by decide) rfl ?_
      refine cb_goto (tgt := 60) hok dX9_undo_89 (by decide) ?_
      refine cb_fewer (ls' := [some (.inr 0), some (.inl (x1 + 1))]) ⟨rfl, ⟨rfl, trivial⟩⟩ ?_
      exact hk60 _ _
def f_X9_undo (g : cb_S) : Option (Int × cb_S) := if cb_w (g 0 5) = 0 then (some (-1, g)) else (if 0 ≤ cb_w ((g 0 5) - 1) ∧ cb_w ((g 0 5) - 1) < (8 : Nat) then (if 0 ≤ cb_w ((g 0 5) - 1) ∧ cb_w ((g 0 5) - 1) < (8 : Nat) then (if 0 ≤ cb_w ((g 0 5) - 1) ∧ cb_w ((g 0 5) - 1) < (8 : Nat) then (f_X9_undo_b60  cb_N 0 (cb_u (cb_u (cb_u (cb_u g 0 5 ((g 0 5) - 1)) 0 1 (g 2 ((cb_w ((g 0 5) - 1)).toNat))) 0 3 (g 4 ((cb_w ((g 0 5) - 1)).toNat))) 0 4 (g 5 ((cb_w ((g 0 5) - 1)).toNat)))) else none) else none) else none)
set_option maxRecDepth 100000 in
theorem C_X9_undo {O : cb_O} (hJ : cb_J O skM) (g : cb_S) : ∀ q, f_X9_undo g = some q → cb_m O skM false yX9_undo cX9_undo 2 (some .int) rm_X9_undo [.inr 0] g q := by
  intro q hq
  refine cb_of_body hJ (by decide) (Nat.le_of_ble_eq_true rfl) hq (fun M hok => ?_)
  show cb_j _ _ _ _ _ _ _ [some (.inr 0), none] _ _ (if cb_w (g 0 5) = 0 then (some (-1, g)) else (if 0 ≤ cb_w ((g 0 5) - 1) ∧ cb_w ((g 0 5) - 1) < (8 : Nat) then (if 0 ≤ cb_w ((g 0 5) - 1) ∧ cb_w ((g 0 5) - 1) < (8 : Nat) then (if 0 ≤ cb_w ((g 0 5) - 1) ∧ cb_w ((g 0 5) - 1) < (8 : Nat) then (f_X9_undo_b60  cb_N 0 (cb_u (cb_u (cb_u (cb_u g 0 5 ((g 0 5) - 1)) 0 1 (g 2 ((cb_w ((g 0 5) - 1)).toNat))) 0 3 (g 4 ((cb_w ((g 0 5) - 1)).toNat))) 0 4 (g 5 ((cb_w ((g 0 5) - 1)).toNat)))) else none) else none) else none))
  refine cb_aload_n hok dX9_undo_0 rfl ?_
  refine cb_gi hok dX9_undo_1 fl_RX9_77 skM_b0 skM_c0 rfl ?_
  refine cb_ifne (tgt := 9) hok rfl dX9_undo_4 (by decide) (fun _ => ?_) (fun _ => ?_)
  · refine cb_aload_n hok dX9_undo_9 rfl ?_
    refine cb_dup hok dX9_undo_10 ?_
    refine cb_gi hok dX9_undo_11 fl_RX9_77 skM_b0 skM_c0 rfl ?_
    refine cb_iconst hok dX9_undo_14 ?_
    refine cb_isub hok dX9_undo_15 ?_
    refine cb_pi hok dX9_undo_16 fp_RX9_77 skM_b0 skM_c0 rfl ?_
    refine cb_aload_n hok dX9_undo_19 rfl ?_
    refine cb_aload_n hok dX9_undo_20 rfl ?_
    refine cb_gr hok dX9_undo_21 fl_RX9_13 skM_b0 skM_c0 rfl ?_
    refine cb_aload_n hok dX9_undo_24 rfl ?_
    refine cb_gi hok dX9_undo_25 fl_RX9_77 skM_b0 skM_c0 rfl ?_
    refine cb_top (y := (g 0 5) - 1) rfl ?_
    refine cb_iald hok dX9_undo_28 skM_b2 skM_c2 ?_
    refine cb_top (y := g 2 ((cb_w ((g 0 5) - 1)).toNat)) (by first | rfl | (simp [cb_u])) ?_
    refine cb_pi hok dX9_undo_29 fp_RX9_81 skM_b0 skM_c0 rfl ?_
    refine cb_aload_n hok dX9_undo_32 rfl ?_
    refine cb_aload_n hok dX9_undo_33 rfl ?_
    refine cb_gr hok dX9_undo_34 fl_RX9_19 skM_b0 skM_c0 rfl ?_
    refine cb_aload_n hok dX9_undo_37 rfl ?_
    refine cb_gi hok dX9_undo_38 fl_RX9_77 skM_b0 skM_c0 rfl ?_
    refine cb_top (y := (g 0 5) - 1) rfl ?_
    refine cb_iald hok dX9_undo_41 skM_b4 skM_c4 ?_
    refine cb_top (y := g 4 ((cb_w ((g 0 5) - 1)).toNat)) (by first | rfl | (simp [cb_u])) ?_
    refine cb_pi hok dX9_undo_42 fp_RX9_84 skM_b0 skM_c0 rfl ?_
    refine cb_aload_n hok dX9_undo_45 rfl ?_
    refine cb_aload_n hok dX9_undo_46 rfl ?_
    refine cb_gr hok dX9_undo_47 fl_RX9_22 skM_b0 skM_c0 rfl ?_
    refine cb_aload_n hok dX9_undo_50 rfl ?_
    refine cb_gi hok dX9_undo_51 fl_RX9_77 skM_b0 skM_c0 rfl ?_
    refine cb_top (y := (g 0 5) - 1) rfl ?_
    refine cb_iald hok dX9_undo_54 skM_b5 skM_c5 ?_
    refine cb_top (y := g 5 ((cb_w ((g 0 5) - 1)).toNat)) (by first | rfl | (simp [cb_u])) ?_
    refine cb_pi hok dX9_undo_55 fp_RX9_87 skM_b0 skM_c0 rfl ?_
    refine cb_iconst hok dX9_undo_58 ?_
    refine cb_istore_n (ls' := [some (.inr 0), some (.inl 0)]) hok dX9_undo_59 (by decide) rfl ?_
    refine cb_fewer (ls' := [some (.inr 0), some (.inl 0)]) ⟨rfl, ⟨rfl, trivial⟩⟩ ?_
    exact J_X9_undo_b60 hJ hok  cb_N _ _
  · refine cb_iconst hok dX9_undo_7 ?_
    exact cb_iret hok dX9_undo_8
/-! CaretBenchModel isForward(I)Z -/
def v_X9_isForward (g : cb_S) (x0 : Int) : Option Int := if cb_w x0 < 97 then (some 0) else (if 122 < cb_w x0 then (some 0) else (some 1))
set_option maxRecDepth 100000 in
theorem C_X9_isForward {O : cb_O} (hJ : cb_J O skM) (x0 : Int) (g : cb_S) : ∀ q, v_X9_isForward g x0 = some q → cb_m O skM false yX9_isForward cX9_isForward 1 (some .boolean) rm_X9_isForward [.inl x0] g (q, g) := by
  intro q hq
  refine cr_of_body hJ (by decide) (Nat.le_of_ble_eq_true rfl) hq (fun M hok => ?_)
  show cb_jr _ _ _ _ _ _ [some (.inl x0)] _ _ (if cb_w x0 < 97 then (some 0) else (if 122 < cb_w x0 then (some 0) else (some 1)))
  refine cr_iload_n hok dX9_isForward_0 rfl ?_
  refine cr_bipush hok dX9_isForward_1 (by decide) ?_
  refine cr_iclt (tgt := 16) hok rfl (by decide) dX9_isForward_3 (by decide) (fun _ => ?_) (fun _ => ?_)
  · refine cr_iconst hok dX9_isForward_16 ?_
    exact cr_zret hok dX9_isForward_17 (by decide)
  · refine cr_iload_n hok dX9_isForward_6 rfl ?_
    refine cr_bipush hok dX9_isForward_7 (by decide) ?_
    refine cr_icgt (tgt := 16) hok rfl (by decide) dX9_isForward_9 (by decide) (fun _ => ?_) (fun _ => ?_)
    · refine cr_iconst hok dX9_isForward_16 ?_
      exact cr_zret hok dX9_isForward_17 (by decide)
    · refine cr_iconst hok dX9_isForward_12 ?_
      refine cr_goto (tgt := 17) hok dX9_isForward_13 (by decide) ?_
      exact cr_zret hok dX9_isForward_17 (by decide)
/-! CaretBenchModel isBackward(I)Z -/
def v_X9_isBackward (g : cb_S) (x0 : Int) : Option Int := if cb_w x0 < 65 then (some 0) else (if 90 < cb_w x0 then (some 0) else (some 1))
set_option maxRecDepth 100000 in
theorem C_X9_isBackward {O : cb_O} (hJ : cb_J O skM) (x0 : Int) (g : cb_S) : ∀ q, v_X9_isBackward g x0 = some q → cb_m O skM false yX9_isBackward cX9_isBackward 1 (some .boolean) rm_X9_isBackward [.inl x0] g (q, g) := by
  intro q hq
  refine cr_of_body hJ (by decide) (Nat.le_of_ble_eq_true rfl) hq (fun M hok => ?_)
  show cb_jr _ _ _ _ _ _ [some (.inl x0)] _ _ (if cb_w x0 < 65 then (some 0) else (if 90 < cb_w x0 then (some 0) else (some 1)))
  refine cr_iload_n hok dX9_isBackward_0 rfl ?_
  refine cr_bipush hok dX9_isBackward_1 (by decide) ?_
  refine cr_iclt (tgt := 16) hok rfl (by decide) dX9_isBackward_3 (by decide) (fun _ => ?_) (fun _ => ?_)
  · refine cr_iconst hok dX9_isBackward_16 ?_
    exact cr_zret hok dX9_isBackward_17 (by decide)
  · refine cr_iload_n hok dX9_isBackward_6 rfl ?_
    refine cr_bipush hok dX9_isBackward_7 (by decide) ?_
    refine cr_icgt (tgt := 16) hok rfl (by decide) dX9_isBackward_9 (by decide) (fun _ => ?_) (fun _ => ?_)
    · refine cr_iconst hok dX9_isBackward_16 ?_
      exact cr_zret hok dX9_isBackward_17 (by decide)
    · refine cr_iconst hok dX9_isBackward_12 ?_
      refine cr_goto (tgt := 17) hok dX9_isBackward_13 (by decide) ?_
      exact cr_zret hok dX9_isBackward_17 (by decide)
/-! CaretBenchModel isLetter(I)Z -/
def v_X9_isLetter (g : cb_S) (x0 : Int) : Option Int := (v_X9_isForward g x0).bind (fun r1 => if cb_w r1 = 0 then ((v_X9_isBackward g x0).bind (fun r2 => if cb_w r2 = 0 then (some 0) else (some 1))) else (some 1))
set_option maxRecDepth 100000 in
theorem C_X9_isLetter {O : cb_O} (hJ : cb_J O skM) (x0 : Int) (g : cb_S) : ∀ q, v_X9_isLetter g x0 = some q → cb_m O skM false yX9_isLetter cX9_isLetter 1 (some .boolean) rm_X9_isLetter [.inl x0] g (q, g) := by
  intro q hq
  refine cr_of_body hJ (by decide) (Nat.le_of_ble_eq_true rfl) hq (fun M hok => ?_)
  show cb_jr _ _ _ _ _ _ [some (.inl x0)] _ _ ((v_X9_isForward g x0).bind (fun r1 => if cb_w r1 = 0 then ((v_X9_isBackward g x0).bind (fun r2 => if cb_w r2 = 0 then (some 0) else (some 1))) else (some 1)))
  refine cr_iload_n hok dX9_isLetter_0 rfl ?_
  refine cr_csr (as := [.inl x0]) (rest := []) hok lk_RX9_90 (by decide) (by decide) dX9_isLetter_1 (fun q1 hq1 => C_X9_isForward hJ _ _ q1 hq1) rfl rfl (Nat.le_of_ble_eq_true rfl) (fun r1 => ?_)
  refine cr_ifne (tgt := 14) hok rfl dX9_isLetter_4 (by decide) (fun _ => ?_) (fun _ => ?_)
  · refine cr_iconst hok dX9_isLetter_14 ?_
    refine cr_goto (tgt := 19) hok dX9_isLetter_15 (by decide) ?_
    exact cr_zret hok dX9_isLetter_19 (by decide)
  · refine cr_iload_n hok dX9_isLetter_7 rfl ?_
    refine cr_csr (as := [.inl x0]) (rest := []) hok lk_RX9_94 (by decide) (by decide) dX9_isLetter_8 (fun q1 hq1 => C_X9_isBackward hJ _ _ q1 hq1) rfl rfl (Nat.le_of_ble_eq_true rfl) (fun r2 => ?_)
    refine cr_ifeq (tgt := 18) hok rfl dX9_isLetter_11 (by decide) (fun _ => ?_) (fun _ => ?_)
    · refine cr_iconst hok dX9_isLetter_18 ?_
      exact cr_zret hok dX9_isLetter_19 (by decide)
    · refine cr_iconst hok dX9_isLetter_14 ?_
      refine cr_goto (tgt := 19) hok dX9_isLetter_15 (by decide) ?_
      exact cr_zret hok dX9_isLetter_19 (by decide)
/-! CaretBenchModel isDigit(I)Z -/
def v_X9_isDigit (g : cb_S) (x0 : Int) : Option Int := if cb_w x0 < 48 then (some 0) else (if 57 < cb_w x0 then (some 0) else (some 1))
set_option maxRecDepth 100000 in
theorem C_X9_isDigit {O : cb_O} (hJ : cb_J O skM) (x0 : Int) (g : cb_S) : ∀ q, v_X9_isDigit g x0 = some q → cb_m O skM false yX9_isDigit cX9_isDigit 1 (some .boolean) rm_X9_isDigit [.inl x0] g (q, g) := by
  intro q hq
  refine cr_of_body hJ (by decide) (Nat.le_of_ble_eq_true rfl) hq (fun M hok => ?_)
  show cb_jr _ _ _ _ _ _ [some (.inl x0)] _ _ (if cb_w x0 < 48 then (some 0) else (if 57 < cb_w x0 then (some 0) else (some 1)))
  refine cr_iload_n hok dX9_isDigit_0 rfl ?_
  refine cr_bipush hok dX9_isDigit_1 (by decide) ?_
  refine cr_iclt (tgt := 16) hok rfl (by decide) dX9_isDigit_3 (by decide) (fun _ => ?_) (fun _ => ?_)
  · refine cr_iconst hok dX9_isDigit_16 ?_
    exact cr_zret hok dX9_isDigit_17 (by decide)
  · refine cr_iload_n hok dX9_isDigit_6 rfl ?_
    refine cr_bipush hok dX9_isDigit_7 (by decide) ?_
    refine cr_icgt (tgt := 16) hok rfl (by decide) dX9_isDigit_9 (by decide) (fun _ => ?_) (fun _ => ?_)
    · refine cr_iconst hok dX9_isDigit_16 ?_
      exact cr_zret hok dX9_isDigit_17 (by decide)
    · refine cr_iconst hok dX9_isDigit_12 ?_
      refine cr_goto (tgt := 17) hok dX9_isDigit_13 (by decide) ?_
      exact cr_zret hok dX9_isDigit_17 (by decide)
/-! CaretBenchModel isMark(I)Z -/
def v_X9_isMark (g : cb_S) (x0 : Int) : Option Int := if cb_w x0 = 39 then (some 1) else (if cb_w x0 = 126 then (some 1) else (some 0))
set_option maxRecDepth 100000 in
theorem C_X9_isMark {O : cb_O} (hJ : cb_J O skM) (x0 : Int) (g : cb_S) : ∀ q, v_X9_isMark g x0 = some q → cb_m O skM false yX9_isMark cX9_isMark 1 (some .boolean) rm_X9_isMark [.inl x0] g (q, g) := by
  intro q hq
  refine cr_of_body hJ (by decide) (Nat.le_of_ble_eq_true rfl) hq (fun M hok => ?_)
  show cb_jr _ _ _ _ _ _ [some (.inl x0)] _ _ (if cb_w x0 = 39 then (some 1) else (if cb_w x0 = 126 then (some 1) else (some 0)))
  refine cr_iload_n hok dX9_isMark_0 rfl ?_
  refine cr_bipush hok dX9_isMark_1 (by decide) ?_
  refine cr_iceq (tgt := 12) hok rfl (by decide) dX9_isMark_3 (by decide) (fun _ => ?_) (fun _ => ?_)
  · refine cr_iconst hok dX9_isMark_12 ?_
    refine cr_goto (tgt := 17) hok dX9_isMark_13 (by decide) ?_
    exact cr_zret hok dX9_isMark_17 (by decide)
  · refine cr_iload_n hok dX9_isMark_6 rfl ?_
    refine cr_bipush hok dX9_isMark_7 (by decide) ?_
    refine cr_icne (tgt := 16) hok rfl (by decide) dX9_isMark_9 (by decide) (fun _ => ?_) (fun _ => ?_)
    · refine cr_iconst hok dX9_isMark_16 ?_
      exact cr_zret hok dX9_isMark_17 (by decide)
    · refine cr_iconst hok dX9_isMark_12 ?_
      refine cr_goto (tgt := 17) hok dX9_isMark_13 (by decide) ?_
      exact cr_zret hok dX9_isMark_17 (by decide)
/-! CaretBenchModel isIsle(I)Z -/
def v_X9_isIsle (g : cb_S) (x0 : Int) : Option Int := if cb_w x0 = 91 then (some 1) else (if cb_w x0 = 123 then (some 1) else (if cb_w x0 = 93 then (some 1) else (some 0)))
set_option maxRecDepth 100000 in
theorem C_X9_isIsle {O : cb_O} (hJ : cb_J O skM) (x0 : Int) (g : cb_S) : ∀ q, v_X9_isIsle g x0 = some q → cb_m O skM false yX9_isIsle cX9_isIsle 1 (some .boolean) rm_X9_isIsle [.inl x0] g (q, g) := by
  intro q hq
  refine cr_of_body hJ (by decide) (Nat.le_of_ble_eq_true rfl) hq (fun M hok => ?_)
  show cb_jr _ _ _ _ _ _ [some (.inl x0)] _ _ (if cb_w x0 = 91 then (some 1) else (if cb_w x0 = 123 then (some 1) else (if cb_w x0 = 93 then (some 1) else (some 0))))
  refine cr_iload_n hok dX9_isIsle_0 rfl ?_
  refine cr_bipush hok dX9_isIsle_1 (by decide) ?_
  refine cr_iceq (tgt := 18) hok rfl (by decide) dX9_isIsle_3 (by decide) (fun _ => ?_) (fun _ => ?_)
  · refine cr_iconst hok dX9_isIsle_18 ?_
    refine cr_goto (tgt := 23) hok dX9_isIsle_19 (by decide) ?_
    exact cr_zret hok dX9_isIsle_23 (by decide)
  · refine cr_iload_n hok dX9_isIsle_6 rfl ?_
    refine cr_bipush hok dX9_isIsle_7 (by decide) ?_
    refine cr_iceq (tgt := 18) hok rfl (by decide) dX9_isIsle_9 (by decide) (fun _ => ?_) (fun _ => ?_)
    · refine cr_iconst hok dX9_isIsle_18 ?_
      refine cr_goto (tgt := 23) hok dX9_isIsle_19 (by decide) ?_
      exact cr_zret hok dX9_isIsle_23 (by decide)
    · refine cr_iload_n hok dX9_isIsle_12 rfl ?_
      refine cr_bipush hok dX9_isIsle_13 (by decide) ?_
      refine cr_icne (tgt := 22) hok rfl (by decide) dX9_isIsle_15 (by decide) (fun _ => ?_) (fun _ => ?_)
      · refine cr_iconst hok dX9_isIsle_22 ?_
        exact cr_zret hok dX9_isIsle_23 (by decide)
      · refine cr_iconst hok dX9_isIsle_18 ?_
        refine cr_goto (tgt := 23) hok dX9_isIsle_19 (by decide) ?_
        exact cr_zret hok dX9_isIsle_23 (by decide)
/-! CaretBenchModel isSign(I)Z -/
def v_X9_isSign (g : cb_S) (x0 : Int) : Option Int := (v_X9_isLetter g x0).bind (fun r1 => if cb_w r1 = 0 then ((v_X9_isDigit g x0).bind (fun r2 => if cb_w r2 = 0 then ((v_X9_isMark g x0).bind (fun r3 => if cb_w r3 = 0 then ((v_X9_isIsle g x0).bind (fun r4 => if cb_w r4 = 0 then (if cb_w x0 = 32 then (some 1) else (if cb_w x0 = 33 then (some 1) else (if cb_w x0 = 40 then (some 1) else (if cb_w x0 = 41 then (some 1) else (if cb_w x0 = 43 then (some 1) else (if cb_w x0 = 44 then (some 1) else (if cb_w x0 = 45 then (some 1) else (if cb_w x0 = 46 then (some 1) else (if cb_w x0 = 60 then (some 1) else (if cb_w x0 = 62 then (some 1) else (if cb_w x0 = 94 then (some 1) else (some 0)))))))))))) else (some 1))) else (some 1))) else (some 1))) else (some 1))
set_option maxRecDepth 100000 in
theorem C_X9_isSign {O : cb_O} (hJ : cb_J O skM) (x0 : Int) (g : cb_S) : ∀ q, v_X9_isSign g x0 = some q → cb_m O skM false yX9_isSign cX9_isSign 1 (some .boolean) rm_X9_isSign [.inl x0] g (q, g) := by
  intro q hq
  refine cr_of_body hJ (by decide) (Nat.le_of_ble_eq_true rfl) hq (fun M hok => ?_)
  show cb_jr _ _ _ _ _ _ [some (.inl x0)] _ _ ((v_X9_isLetter g x0).bind (fun r1 => if cb_w r1 = 0 then ((v_X9_isDigit g x0).bind (fun r2 => if cb_w r2 = 0 then ((v_X9_isMark g x0).bind (fun r3 => if cb_w r3 = 0 then ((v_X9_isIsle g x0).bind (fun r4 => if cb_w r4 = 0 then (if cb_w x0 = 32 then (some 1) else (if cb_w x0 = 33 then (some 1) else (if cb_w x0 = 40 then (some 1) else (if cb_w x0 = 41 then (some 1) else (if cb_w x0 = 43 then (some 1) else (if cb_w x0 = 44 then (some 1) else (if cb_w x0 = 45 then (some 1) else (if cb_w x0 = 46 then (some 1) else (if cb_w x0 = 60 then (some 1) else (if cb_w x0 = 62 then (some 1) else (if cb_w x0 = 94 then (some 1) else (some 0)))))))))))) else (some 1))) else (some 1))) else (some 1))) else (some 1)))
  refine cr_iload_n hok dX9_isSign_0 rfl ?_
  refine cr_csr (as := [.inl x0]) (rest := []) hok lk_RX9_97 (by decide) (by decide) dX9_isSign_1 (fun q1 hq1 => C_X9_isLetter hJ _ _ q1 hq1) rfl rfl (Nat.le_of_ble_eq_true rfl) (fun r1 => ?_)
  refine cr_ifne (tgt := 28) hok rfl dX9_isSign_4 (by decide) (fun _ => ?_) (fun _ => ?_)
  · refine cr_iconst hok dX9_isSign_28 ?_
    exact cr_zret hok dX9_isSign_29 (by decide)
  · refine cr_iload_n hok dX9_isSign_7 rfl ?_
    refine cr_csr (as := [.inl x0]) (rest := []) hok lk_RX9_100 (by decide) (by decide) dX9_isSign_8 (fun q1 hq1 => C_X9_isDigit hJ _ _ q1 hq1) rfl rfl (Nat.le_of_ble_eq_true rfl) (fun r2 => ?_)
    refine cr_ifne (tgt := 28) hok rfl dX9_isSign_11 (by decide) (fun _ => ?_) (fun _ => ?_)
    · refine cr_iconst hok dX9_isSign_28 ?_
      exact cr_zret hok dX9_isSign_29 (by decide)
    · refine cr_iload_n hok dX9_isSign_14 rfl ?_
      refine cr_csr (as := [.inl x0]) (rest := []) hok lk_RX9_103 (by decide) (by decide) dX9_isSign_15 (fun q1 hq1 => C_X9_isMark hJ _ _ q1 hq1) rfl rfl (Nat.le_of_ble_eq_true rfl) (fun r3 => ?_)
      refine cr_ifne (tgt := 28) hok rfl dX9_isSign_18 (by decide) (fun _ => ?_) (fun _ => ?_)
      · refine cr_iconst hok dX9_isSign_28 ?_
        exact cr_zret hok dX9_isSign_29 (by decide)
      · refine cr_iload_n hok dX9_isSign_21 rfl ?_
        refine cr_csr (as := [.inl x0]) (rest := []) hok lk_RX9_106 (by decide) (by decide) dX9_isSign_22 (fun q1 hq1 => C_X9_isIsle hJ _ _ q1 hq1) rfl rfl (Nat.le_of_ble_eq_true rfl) (fun r4 => ?_)
        refine cr_ifeq (tgt := 30) hok rfl dX9_isSign_25 (by decide) (fun _ => ?_) (fun _ => ?_)
        · refine cr_iload_n hok dX9_isSign_30 rfl ?_
          refine cr_ite (fun hs1 => ?_) (fun hs1 => ?_)
          · refine cr_lookup (tgt := 128) (off := 97) hok dX9_isSign_31 (by decide) (by rw [hs1]; decide) (by decide) ?_
            refine cr_iconst hok dX9_isSign_128 ?_
            exact cr_zret hok dX9_isSign_129 (by decide)
          refine cr_ite (fun hs2 => ?_) (fun hs2 => ?_)
          · refine cr_lookup (tgt := 128) (off := 97) hok dX9_isSign_31 (by decide) (by rw [hs2]; decide) (by decide) ?_
            refine cr_iconst hok dX9_isSign_128 ?_
            exact cr_zret hok dX9_isSign_129 (by decide)
          refine cr_ite (fun hs3 => ?_) (fun hs3 => ?_)
          · refine cr_lookup (tgt := 128) (off := 97) hok dX9_isSign_31 (by decide) (by rw [hs3]; decide) (by decide) ?_
            refine cr_iconst hok dX9_isSign_128 ?_
            exact cr_zret hok dX9_isSign_129 (by decide)
          refine cr_ite (fun hs4 => ?_) (fun hs4 => ?_)
          · refine cr_lookup (tgt := 128) (off := 97) hok dX9_isSign_31 (by decide) (by rw [hs4]; decide) (by decide) ?_
            refine cr_iconst hok dX9_isSign_128 ?_
            exact cr_zret hok dX9_isSign_129 (by decide)
          refine cr_ite (fun hs5 => ?_) (fun hs5 => ?_)
          · refine cr_lookup (tgt := 128) (off := 97) hok dX9_isSign_31 (by decide) (by rw [hs5]; decide) (by decide) ?_
            refine cr_iconst hok dX9_isSign_128 ?_
            exact cr_zret hok dX9_isSign_129 (by decide)
          refine cr_ite (fun hs6 => ?_) (fun hs6 => ?_)
          · refine cr_lookup (tgt := 128) (off := 97) hok dX9_isSign_31 (by decide) (by rw [hs6]; decide) (by decide) ?_
            refine cr_iconst hok dX9_isSign_128 ?_
            exact cr_zret hok dX9_isSign_129 (by decide)
          refine cr_ite (fun hs7 => ?_) (fun hs7 => ?_)
          · refine cr_lookup (tgt := 128) (off := 97) hok dX9_isSign_31 (by decide) (by rw [hs7]; decide) (by decide) ?_
            refine cr_iconst hok dX9_isSign_128 ?_
            exact cr_zret hok dX9_isSign_129 (by decide)
          refine cr_ite (fun hs8 => ?_) (fun hs8 => ?_)
          · refine cr_lookup (tgt := 128) (off := 97) hok dX9_isSign_31 (by decide) (by rw [hs8]; decide) (by decide) ?_
            refine cr_iconst hok dX9_isSign_128 ?_
            exact cr_zret hok dX9_isSign_129 (by decide)
          refine cr_ite (fun hs9 => ?_) (fun hs9 => ?_)
          · refine cr_lookup (tgt := 128) (off := 97) hok dX9_isSign_31 (by decide) (by rw [hs9]; decide) (by decide) ?_
            refine cr_iconst hok dX9_isSign_128 ?_
            exact cr_zret hok dX9_isSign_129 (by decide)
          refine cr_ite (fun hs10 => ?_) (fun hs10 => ?_)
          · refine cr_lookup (tgt := 128) (off := 97) hok dX9_isSign_31 (by decide) (by rw [hs10]; decide) (by decide) ?_
            refine cr_iconst hok dX9_isSign_128 ?_
            exact cr_zret hok dX9_isSign_129 (by decide)
          refine cr_ite (fun hs11 => ?_) (fun hs11 => ?_)
          · refine cr_lookup (tgt := 128) (off := 97) hok dX9_isSign_31 (by decide) (by rw [hs11]; decide) (by decide) ?_
            refine cr_iconst hok dX9_isSign_128 ?_
            exact cr_zret hok dX9_isSign_129 (by decide)
          refine cr_lookup (tgt := 130) (off := 99) hok dX9_isSign_31 (by decide) (by simp [Op.lookupswitch.offset, hs1, Ne.symm hs1, hs2, Ne.symm hs2, hs3, Ne.symm hs3, hs4, Ne.symm hs4, hs5, Ne.symm hs5, hs6, Ne.symm hs6, hs7, Ne.symm hs7, hs8, Ne.symm hs8, hs9, Ne.symm hs9, hs10, Ne.symm hs10, hs11, Ne.symm hs11]) (by decide) ?_
          refine cr_iconst hok dX9_isSign_130 ?_
          exact cr_zret hok dX9_isSign_131 (by decide)
        · refine cr_iconst hok dX9_isSign_28 ?_
          exact cr_zret hok dX9_isSign_29 (by decide)
/-! CaretBenchModel aboveBase(II)I -/
def v_X9_aboveBase (g : cb_S) (x0 : Int) (x1 : Int) : Option Int := if cb_w ((cb_w (x0 + 1)).tmod 2) = cb_w x1 then (some (x0 + 1)) else (some (x0 + 2))
set_option maxRecDepth 100000 in
theorem C_X9_aboveBase {O : cb_O} (hJ : cb_J O skM) (x0 : Int) (x1 : Int) (g : cb_S) : ∀ q, v_X9_aboveBase g x0 x1 = some q → cb_m O skM false yX9_aboveBase cX9_aboveBase 2 (some .int) rm_X9_aboveBase [.inl x0, .inl x1] g (q, g) := by
  intro q hq
  refine cr_of_body hJ (by decide) (Nat.le_of_ble_eq_true rfl) hq (fun M hok => ?_)
  show cb_jr _ _ _ _ _ _ [some (.inl x0), some (.inl x1)] _ _ (if cb_w ((cb_w (x0 + 1)).tmod 2) = cb_w x1 then (some (x0 + 1)) else (some (x0 + 2)))
  refine cr_iload_n hok dX9_aboveBase_0 rfl ?_
  refine cr_iconst hok dX9_aboveBase_1 ?_
  refine cr_iadd hok dX9_aboveBase_2 ?_
  refine cr_iconst hok dX9_aboveBase_3 ?_
  refine cr_irem hok (b := 2) (by decide) dX9_aboveBase_4 (by decide) ?_
  refine cr_iload_n hok dX9_aboveBase_5 rfl ?_
  refine cr_icne (tgt := 15) hok rfl rfl dX9_aboveBase_6 (by decide) (fun _ => ?_) (fun _ => ?_)
  · refine cr_iload_n hok dX9_aboveBase_15 rfl ?_
    refine cr_iconst hok dX9_aboveBase_16 ?_
    refine cr_iadd hok dX9_aboveBase_17 ?_
    exact cr_iret hok dX9_aboveBase_18
  · refine cr_iload_n hok dX9_aboveBase_9 rfl ?_
    refine cr_iconst hok dX9_aboveBase_10 ?_
    refine cr_iadd hok dX9_aboveBase_11 ?_
    refine cr_goto (tgt := 18) hok dX9_aboveBase_12 (by decide) ?_
    exact cr_iret hok dX9_aboveBase_18
/-! CaretBenchModel rows()V -/
def f_X9_rows_b138 (kk26 : Int → Int → cb_S → Option (Int × cb_S)) (x1 x2 : Int) (g : cb_S) : Option (Int × cb_S) := kk26 x1 (x2 + 1) g
set_option maxRecDepth 100000 in
theorem J_X9_rows_b138 {O : cb_O} {M : cb_M} (hJ : cb_J O skM) (hok : cb_ok O skM M cX9_rows 4 RX9 none) {kk26 : Int → Int → cb_S → Option (Int × cb_S)} (hk26 : ∀ (x1 x2 : Int) (g : cb_S), cb_j O skM true rm_X9_rows M 4 26 [some (.inr 0), some (.inl x1), some (.inl x2), none] [] g (kk26 x1 x2 g)) : ∀ (x1 x2 : Int) (g : cb_S), cb_j O skM true rm_X9_rows M 4 138 [some (.inr 0), some (.inl x1), some (.inl x2), none] [] g (f_X9_rows_b138 kk26 x1 x2 g) := by
  intro x1 x2 g
  show cb_j _ _ _ _ _ _ _ _ _ _ (kk26 x1 (x2 + 1) g)
  refine cb_iinc (ls' := [some (.inr 0), some (.inl x1), some (.inl (x2 + 1)), none]) hok dX9_rows_138 rfl (by decide) rfl ?_
  refine cb_goto (tgt := 26) hok dX9_rows_141 (by decide) ?_
  refine cb_fewer (ls' := [some (.inr 0), some (.inl x1), some (.inl (x2 + 1)), none]) ⟨rfl, ⟨rfl, ⟨rfl, trivial⟩⟩⟩ ?_
  exact hk26 _ _ _
def f_X9_rows_b111 (kk26 : Int → Int → cb_S → Option (Int × cb_S)) (x1 x2 s0 s1 s2 : Int) (g : cb_S) : Option (Int × cb_S) := (v_X9_aboveBase g s1 s0).bind (fun r1 => if 0 ≤ cb_w s2 ∧ cb_w s2 < (64 : Nat) then (if 0 ≤ cb_w (x1 + 1) ∧ cb_w (x1 + 1) < (64 : Nat) then (f_X9_rows_b138 kk26 (x1 + 1) x2 (cb_u (cb_u (cb_u g 7 (cb_w s2).toNat r1) 8 (cb_w (x1 + 1)).toNat (g 0 13)) 0 13 ((g 0 13) + 1))) else none) else none)
set_option maxRecDepth 100000 in
theorem J_X9_rows_b111 {O : cb_O} {M : cb_M} (hJ : cb_J O skM) (hok : cb_ok O skM M cX9_rows 4 RX9 none) {kk26 : Int → Int → cb_S → Option (Int × cb_S)} (hk26 : ∀ (x1 x2 : Int) (g : cb_S), cb_j O skM true rm_X9_rows M 4 26 [some (.inr 0), some (.inl x1), some (.inl x2), none] [] g (kk26 x1 x2 g)) : ∀ (x1 x2 s0 s1 s2 : Int) (g : cb_S), cb_j O skM true rm_X9_rows M 4 111 [some (.inr 0), some (.inl x1), some (.inl x2), none] [.inl s0, .inl s1, .inl s2, .inr 7] g (f_X9_rows_b111 kk26 x1 x2 s0 s1 s2 g) := by
  intro x1 x2 s0 s1 s2 g
  show cb_j _ _ _ _ _ _ _ _ _ _ ((v_X9_aboveBase g s1 s0).bind (fun r1 => if 0 ≤ cb_w s2 ∧ cb_w s2 < (64 : Nat) then (if 0 ≤ cb_w (x1 + 1) ∧ cb_w (x1 + 1) < (64 : Nat) then (f_X9_rows_b138 kk26 (x1 + 1) x2 (cb_u (cb_u (cb_u g 7 (cb_w s2).toNat r1) 8 (cb_w (x1 + 1)).toNat (g 0 13)) 0 13 ((g 0 13) + 1))) else none) else none))
  refine cb_csr (as := [.inl s1, .inl s0]) (rest := [.inl s2, .inr 7]) hok lk_RX9_115 (by decide) (by decide) dX9_rows_111 (fun q1 hq1 => C_X9_aboveBase hJ _ _ _ q1 hq1) rfl rfl (Nat.le_of_ble_eq_true rfl) (fun r1 => ?_)
  refine cb_iast hok dX9_rows_114 skM_b7 skM_c7 ?_
  refine cb_iinc (ls' := [some (.inr 0), some (.inl (x1 + 1)), some (.inl x2), none]) hok dX9_rows_115 rfl (by decide) rfl ?_
  refine cb_aload_n hok dX9_rows_118 rfl ?_
  refine cb_gr hok dX9_rows_119 fl_RX9_31 skM_b0 skM_c0 rfl ?_
  refine cb_iload_n hok dX9_rows_122 rfl ?_
  refine cb_aload_n hok dX9_rows_123 rfl ?_
  refine cb_gi hok dX9_rows_124 fl_RX9_112 skM_b0 skM_c0 rfl ?_
  refine cb_top (y := g 0 13) rfl ?_
  refine cb_iast hok dX9_rows_127 skM_b8 skM_c8 ?_
  refine cb_aload_n hok dX9_rows_128 rfl ?_
  refine cb_dup hok dX9_rows_129 ?_
  refine cb_gi hok dX9_rows_130 fl_RX9_112 skM_b0 skM_c0 rfl ?_
  refine cb_top (y := g 0 13) rfl ?_
  refine cb_iconst hok dX9_rows_133 ?_
  refine cb_iadd hok dX9_rows_134 ?_
  refine cb_pi hok dX9_rows_135 fp_RX9_112 skM_b0 skM_c0 rfl ?_
  refine cb_fewer (ls' := [some (.inr 0), some (.inl (x1 + 1)), some (.inl x2), none]) ⟨rfl, ⟨rfl, ⟨rfl, trivial⟩⟩⟩ ?_
  exact J_X9_rows_b138 hJ hok hk26 _ _ _
def f_X9_rows_b81 (kk26 : Int → Int → cb_S → Option (Int × cb_S)) (x1 x2 x3 : Int) (g : cb_S) : Option (Int × cb_S) := if 0 ≤ cb_w x1 ∧ cb_w x1 < (64 : Nat) then (if 0 ≤ cb_w (g 8 ((cb_w x1).toNat)) ∧ cb_w (g 8 ((cb_w x1).toNat)) < (64 : Nat) then (if cb_w x3 = 91 then (f_X9_rows_b111 kk26 x1 x2 0 (g 7 ((cb_w (g 8 ((cb_w x1).toNat))).toNat)) (g 0 13) g) else (f_X9_rows_b111 kk26 x1 x2 1 (g 7 ((cb_w (g 8 ((cb_w x1).toNat))).toNat)) (g 0 13) g)) else none) else none
set_option maxRecDepth 100000 in
theorem J_X9_rows_b81 {O : cb_O} {M : cb_M} (hJ : cb_J O skM) (hok : cb_ok O skM M cX9_rows 4 RX9 none) {kk26 : Int → Int → cb_S → Option (Int × cb_S)} (hk26 : ∀ (x1 x2 : Int) (g : cb_S), cb_j O skM true rm_X9_rows M 4 26 [some (.inr 0), some (.inl x1), some (.inl x2), none] [] g (kk26 x1 x2 g)) : ∀ (x1 x2 x3 : Int) (g : cb_S), cb_j O skM true rm_X9_rows M 4 81 [some (.inr 0), some (.inl x1), some (.inl x2), some (.inl x3)] [] g (f_X9_rows_b81 kk26 x1 x2 x3 g) := by
  intro x1 x2 x3 g
  show cb_j _ _ _ _ _ _ _ _ _ _ (if 0 ≤ cb_w x1 ∧ cb_w x1 < (64 : Nat) then (if 0 ≤ cb_w (g 8 ((cb_w x1).toNat)) ∧ cb_w (g 8 ((cb_w x1).toNat)) < (64 : Nat) then (if cb_w x3 = 91 then (f_X9_rows_b111 kk26 x1 x2 0 (g 7 ((cb_w (g 8 ((cb_w x1).toNat))).toNat)) (g 0 13) g) else (f_X9_rows_b111 kk26 x1 x2 1 (g 7 ((cb_w (g 8 ((cb_w x1).toNat))).toNat)) (g 0 13) g)) else none) else none)
  refine cb_aload_n hok dX9_rows_81 rfl ?_
  refine cb_gr hok dX9_rows_82 fl_RX9_28 skM_b0 skM_c0 rfl ?_
  refine cb_aload_n hok dX9_rows_85 rfl ?_
  refine cb_gi hok dX9_rows_86 fl_RX9_112 skM_b0 skM_c0 rfl ?_
  refine cb_aload_n hok dX9_rows_89 rfl ?_
  refine cb_gr hok dX9_rows_90 fl_RX9_28 skM_b0 skM_c0 rfl ?_
  refine cb_aload_n hok dX9_rows_93 rfl ?_
  refine cb_gr hok dX9_rows_94 fl_RX9_31 skM_b0 skM_c0 rfl ?_
  refine cb_iload_n hok dX9_rows_97 rfl ?_
  refine cb_iald hok dX9_rows_98 skM_b8 skM_c8 ?_
  refine cb_iald hok dX9_rows_99 skM_b7 skM_c7 ?_
  refine cb_iload_n hok dX9_rows_100 rfl ?_
  refine cb_bipush hok dX9_rows_101 (by decide) ?_
  refine cb_icne (tgt := 110) hok rfl (by decide) dX9_rows_103 (by decide) (fun _ => ?_) (fun _ => ?_)
  · refine cb_iconst hok dX9_rows_110 ?_
    refine cb_fewer (ls' := [some (.inr 0), some (.inl x1), some (.inl x2), none]) ⟨rfl, ⟨rfl, ⟨rfl, trivial⟩⟩⟩ ?_
    exact J_X9_rows_b111 hJ hok hk26 _ _ _ _ _ _
  · refine cb_iconst hok dX9_rows_106 ?_
    refine cb_goto (tgt := 111) hok dX9_rows_107 (by decide) ?_
    refine cb_fewer (ls' := [some (.inr 0), some (.inl x1), some (.inl x2), none]) ⟨rfl, ⟨rfl, ⟨rfl, trivial⟩⟩⟩ ?_
    exact J_X9_rows_b111 hJ hok hk26 _ _ _ _ _ _
def f_X9_rows_b54 (kk26 : Int → Int → cb_S → Option (Int × cb_S)) (x1 x2 x3 : Int) (g : cb_S) : Option (Int × cb_S) := if 0 ≤ cb_w x1 ∧ cb_w x1 < (64 : Nat) then (if 0 ≤ cb_w x2 ∧ cb_w x2 < (64 : Nat) then (if cb_w x3 = 91 then (f_X9_rows_b81 kk26 x1 x2 x3 (cb_u g 6 (cb_w x2).toNat (g 8 ((cb_w x1).toNat)))) else (if cb_w x3 = 123 then (f_X9_rows_b81 kk26 x1 x2 x3 (cb_u g 6 (cb_w x2).toNat (g 8 ((cb_w x1).toNat)))) else (f_X9_rows_b138 kk26 x1 x2 (cb_u g 6 (cb_w x2).toNat (g 8 ((cb_w x1).toNat)))))) else none) else none
set_option maxRecDepth 100000 in
theorem J_X9_rows_b54 {O : cb_O} {M : cb_M} (hJ : cb_J O skM) (hok : cb_ok O skM M cX9_rows 4 RX9 none) {kk26 : Int → Int → cb_S → Option (Int × cb_S)} (hk26 : ∀ (x1 x2 : Int) (g : cb_S), cb_j O skM true rm_X9_rows M 4 26 [some (.inr 0), some (.inl x1), some (.inl x2), none] [] g (kk26 x1 x2 g)) : ∀ (x1 x2 x3 : Int) (g : cb_S), cb_j O skM true rm_X9_rows M 4 54 [some (.inr 0), some (.inl x1), some (.inl x2), some (.inl x3)] [] g (f_X9_rows_b54 kk26 x1 x2 x3 g) := by
  intro x1 x2 x3 g
  show cb_j _ _ _ _ _ _ _ _ _ _ (if 0 ≤ cb_w x1 ∧ cb_w x1 < (64 : Nat) then (if 0 ≤ cb_w x2 ∧ cb_w x2 < (64 : Nat) then (if cb_w x3 = 91 then (f_X9_rows_b81 kk26 x1 x2 x3 (cb_u g 6 (cb_w x2).toNat (g 8 ((cb_w x1).toNat)))) else (if cb_w x3 = 123 then (f_X9_rows_b81 kk26 x1 x2 x3 (cb_u g 6 (cb_w x2).toNat (g 8 ((cb_w x1).toNat)))) else (f_X9_rows_b138 kk26 x1 x2 (cb_u g 6 (cb_w x2).toNat (g 8 ((cb_w x1).toNat)))))) else none) else none)
  refine cb_aload_n hok dX9_rows_54 rfl ?_
  refine cb_gr hok dX9_rows_55 fl_RX9_25 skM_b0 skM_c0 rfl ?_
  refine cb_iload_n hok dX9_rows_58 rfl ?_
  refine cb_aload_n hok dX9_rows_59 rfl ?_
  refine cb_gr hok dX9_rows_60 fl_RX9_31 skM_b0 skM_c0 rfl ?_
  refine cb_iload_n hok dX9_rows_63 rfl ?_
  refine cb_iald hok dX9_rows_64 skM_b8 skM_c8 ?_
  refine cb_iast hok dX9_rows_65 skM_b6 skM_c6 ?_
  refine cb_iload_n hok dX9_rows_66 rfl ?_
  refine cb_bipush hok dX9_rows_67 (by decide) ?_
  refine cb_iceq (tgt := 81) hok rfl (by decide) dX9_rows_69 (by decide) (fun _ => ?_) (fun _ => ?_)
  · refine cb_fewer (ls' := [some (.inr 0), some (.inl x1), some (.inl x2), some (.inl x3)]) ⟨rfl, ⟨rfl, ⟨rfl, ⟨rfl, trivial⟩⟩⟩⟩ ?_
    exact J_X9_rows_b81 hJ hok hk26 _ _ _ _
  · refine cb_iload_n hok dX9_rows_72 rfl ?_
    refine cb_bipush hok dX9_rows_73 (by decide) ?_
    refine cb_iceq (tgt := 81) hok rfl (by decide) dX9_rows_75 (by decide) (fun _ => ?_) (fun _ => ?_)
    · refine cb_fewer (ls' := [some (.inr 0), some (.inl x1), some (.inl x2), some (.inl x3)]) ⟨rfl, ⟨rfl, ⟨rfl, ⟨rfl, trivial⟩⟩⟩⟩ ?_
      exact J_X9_rows_b81 hJ hok hk26 _ _ _ _
    · refine cb_goto (tgt := 138) hok dX9_rows_78 (by decide) ?_
      refine cb_fewer (ls' := [some (.inr 0), some (.inl x1), some (.inl x2), none]) ⟨rfl, ⟨rfl, ⟨rfl, trivial⟩⟩⟩ ?_
      exact J_X9_rows_b138 hJ hok hk26 _ _ _
def f_X9_rows_b26 : Nat → Int → Int → cb_S → Option (Int × cb_S)
  | 0 => fun _ _ _ => none
  | n + 1 => fun x1 x2 g => if cb_w (g 0 1) ≤ cb_w x2 then (some (0, g)) else (if 0 ≤ cb_w x2 ∧ cb_w x2 < (64 : Nat) then (if cb_w (g 1 ((cb_w x2).toNat)) = 93 then (if cb_w x1 ≤ 0 then (f_X9_rows_b54 (f_X9_rows_b26 n) x1 x2 (g 1 ((cb_w x2).toNat)) g) else (f_X9_rows_b54 (f_X9_rows_b26 n) (x1 + (-1)) x2 (g 1 ((cb_w x2).toNat)) g)) else (f_X9_rows_b54 (f_X9_rows_b26 n) x1 x2 (g 1 ((cb_w x2).toNat)) g)) else none)
set_option maxRecDepth 100000 in
theorem J_X9_rows_b26 {O : cb_O} {M : cb_M} (hJ : cb_J O skM) (hok : cb_ok O skM M cX9_rows 4 RX9 none) : ∀ (n : Nat) (x1 x2 : Int) (g : cb_S), cb_j O skM true rm_X9_rows M 4 26 [some (.inr 0), some (.inl x1), some (.inl x2), none] [] g (f_X9_rows_b26 n x1 x2 g) := by
  intro n
  induction n with
  | zero => intros; exact cb_none
  | succ n hk26 =>
    intro x1 x2 g
    show cb_j _ _ _ _ _ _ _ _ _ _ (if cb_w (g 0 1) ≤ cb_w x2 then (some (0, g)) else (if 0 ≤ cb_w x2 ∧ cb_w x2 < (64 : Nat) then (if cb_w (g 1 ((cb_w x2).toNat)) = 93 then (if cb_w x1 ≤ 0 then (f_X9_rows_b54 (f_X9_rows_b26 n) x1 x2 (g 1 ((cb_w x2).toNat)) g) else (f_X9_rows_b54 (f_X9_rows_b26 n) (x1 + (-1)) x2 (g 1 ((cb_w x2).toNat)) g)) else (f_X9_rows_b54 (f_X9_rows_b26 n) x1 x2 (g 1 ((cb_w x2).toNat)) g)) else none))
    refine cb_iload_n hok dX9_rows_26 rfl ?_
    refine cb_aload_n hok dX9_rows_27 rfl ?_
    refine cb_gi hok dX9_rows_28 fl_RX9_81 skM_b0 skM_c0 rfl ?_
    refine cb_icge (tgt := 144) hok rfl rfl dX9_rows_31 (by decide) (fun _ => ?_) (fun _ => ?_)
    · exact cb_vret hok dX9_rows_144
    · refine cb_aload_n hok dX9_rows_34 rfl ?_
      refine cb_gr hok dX9_rows_35 fl_RX9_7 skM_b0 skM_c0 rfl ?_
      refine cb_iload_n hok dX9_rows_38 rfl ?_
      refine cb_iald hok dX9_rows_39 skM_b1 skM_c1 ?_
      refine cb_istore_n (ls' := [some (.inr 0), some (.inl x1), some (.inl x2), some (.inl (g 1 ((cb_w x2).toNat)))]) hok dX9_rows_40 (by decide) rfl ?_
      refine cb_iload_n hok dX9_rows_41 rfl ?_
      refine cb_bipush hok dX9_rows_42 (by decide) ?_
      refine cb_icne (tgt := 54) hok rfl (by decide) dX9_rows_44 (by decide) (fun _ => ?_) (fun _ => ?_)
      · refine cb_fewer (ls' := [some (.inr 0), some (.inl x1), some (.inl x2), some (.inl (g 1 ((cb_w x2).toNat)))]) ⟨rfl, ⟨rfl, ⟨rfl, ⟨rfl, trivial⟩⟩⟩⟩ ?_
        exact J_X9_rows_b54 hJ hok hk26 _ _ _ _
      · refine cb_iload_n hok dX9_rows_47 rfl ?_
        refine cb_ifle (tgt := 54) hok rfl dX9_rows_48 (by decide) (fun _ => ?_) (fun _ => ?_)
        · refine cb_fewer (ls' := [some (.inr 0), some (.inl x1), some (.inl x2), some (.inl (g 1 ((cb_w x2).toNat)))]) ⟨rfl, ⟨rfl, ⟨rfl, ⟨rfl, trivial⟩⟩⟩⟩ ?_
          exact J_X9_rows_b54 hJ hok hk26 _ _ _ _
        · refine cb_iinc (ls' := [some (.inr 0), some (.inl (x1 + (-1))), some (.inl x2), some (.inl (g 1 ((cb_w x2).toNat)))]) hok dX9_rows_51 rfl (by decide) rfl ?_
          refine cb_fewer (ls' := [some (.inr 0), some (.inl (x1 + (-1))), some (.inl x2), some (.inl (g 1 ((cb_w x2).toNat)))]) ⟨rfl, ⟨rfl, ⟨rfl, ⟨rfl, trivial⟩⟩⟩⟩ ?_
          exact J_X9_rows_b54 hJ hok hk26 _ _ _ _
def f_X9_rows (g : cb_S) : Option (Int × cb_S) := if 0 ≤ cb_w 0 ∧ cb_w 0 < (64 : Nat) then (if 0 ≤ cb_w 0 ∧ cb_w 0 < (64 : Nat) then (f_X9_rows_b26  cb_N 0 0 (cb_u (cb_u (cb_u g 8 (cb_w 0).toNat 0) 7 (cb_w 0).toNat (g 0 0)) 0 13 1)) else none) else none
set_option maxRecDepth 100000 in
theorem C_X9_rows {O : cb_O} (hJ : cb_J O skM) (g : cb_S) : ∀ q, f_X9_rows g = some q → cb_m O skM true yX9_rows cX9_rows 4 none rm_X9_rows [.inr 0] g q := by
  intro q hq
  refine cb_of_body hJ (by decide) (Nat.le_of_ble_eq_true rfl) hq (fun M hok => ?_)
  show cb_j _ _ _ _ _ _ _ [some (.inr 0), none, none, none] _ _ (if 0 ≤ cb_w 0 ∧ cb_w 0 < (64 : Nat) then (if 0 ≤ cb_w 0 ∧ cb_w 0 < (64 : Nat) then (f_X9_rows_b26  cb_N 0 0 (cb_u (cb_u (cb_u g 8 (cb_w 0).toNat 0) 7 (cb_w 0).toNat (g 0 0)) 0 13 1)) else none) else none)
  refine cb_iconst hok dX9_rows_0 ?_
  refine cb_istore_n (ls' := [some (.inr 0), some (.inl 0), none, none]) hok dX9_rows_1 (by decide) rfl ?_
  refine cb_aload_n hok dX9_rows_2 rfl ?_
  refine cb_gr hok dX9_rows_3 fl_RX9_31 skM_b0 skM_c0 rfl ?_
  refine cb_iconst hok dX9_rows_6 ?_
  refine cb_iconst hok dX9_rows_7 ?_
  refine cb_iast hok dX9_rows_8 skM_b8 skM_c8 ?_
  refine cb_aload_n hok dX9_rows_9 rfl ?_
  refine cb_gr hok dX9_rows_10 fl_RX9_28 skM_b0 skM_c0 rfl ?_
  refine cb_iconst hok dX9_rows_13 ?_
  refine cb_aload_n hok dX9_rows_14 rfl ?_
  refine cb_gi hok dX9_rows_15 fl_RX9_109 skM_b0 skM_c0 rfl ?_
  refine cb_top (y := g 0 0) rfl ?_
  refine cb_iast hok dX9_rows_18 skM_b7 skM_c7 ?_
  refine cb_aload_n hok dX9_rows_19 rfl ?_
  refine cb_iconst hok dX9_rows_20 ?_
  refine cb_pi hok dX9_rows_21 fp_RX9_112 skM_b0 skM_c0 rfl ?_
  refine cb_iconst hok dX9_rows_24 ?_
  refine cb_istore_n (ls' := [some (.inr 0), some (.inl 0), some (.inl 0), none]) hok dX9_rows_25 (by decide) rfl ?_
  refine cb_fewer (ls' := [some (.inr 0), some (.inl 0), some (.inl 0), none]) ⟨rfl, ⟨rfl, ⟨rfl, trivial⟩⟩⟩ ?_
  exact J_X9_rows_b26 hJ hok  cb_N _ _ _
/-! CaretBenchModel joinsOf()V -/
def f_X9_joinsOf_b138 (kk2 : Int → cb_S → Option (Int × cb_S)) (x1 : Int) (g : cb_S) : Option (Int × cb_S) := kk2 (x1 + 1) g
set_option maxRecDepth 100000 in
theorem J_X9_joinsOf_b138 {O : cb_O} {M : cb_M} (hJ : cb_J O skM) (hok : cb_ok O skM M cX9_joinsOf 3 RX9 none) {kk2 : Int → cb_S → Option (Int × cb_S)} (hk2 : ∀ (x1 : Int) (g : cb_S), cb_j O skM true rm_X9_joinsOf M 3 2 [some (.inr 0), some (.inl x1), none] [] g (kk2 x1 g)) : ∀ (x1 : Int) (g : cb_S), cb_j O skM true rm_X9_joinsOf M 3 138 [some (.inr 0), some (.inl x1), none] [] g (f_X9_joinsOf_b138 kk2 x1 g) := by
  intro x1 g
  show cb_j _ _ _ _ _ _ _ _ _ _ (kk2 (x1 + 1) g)
  refine cb_iinc (ls' := [some (.inr 0), some (.inl (x1 + 1)), none]) hok dX9_joinsOf_138 rfl (by decide) rfl ?_
  refine cb_goto (tgt := 2) hok dX9_joinsOf_141 (by decide) ?_
  refine cb_fewer (ls' := [some (.inr 0), some (.inl (x1 + 1)), none]) ⟨rfl, ⟨rfl, trivial⟩⟩ ?_
  exact hk2 _ _
def f_X9_joinsOf_b137 (kk2 : Int → cb_S → Option (Int × cb_S)) (x1 s0 s1 : Int) (g : cb_S) : Option (Int × cb_S) := if (0 ≤ cb_w s1 ∧ cb_w s1 < (64 : Nat)) ∧ ((s0 : Int) = 0 ∨ (s0 : Int) = 1) then (f_X9_joinsOf_b138 kk2 x1 (cb_u g 9 (cb_w s1).toNat s0)) else none
set_option maxRecDepth 100000 in
theorem J_X9_joinsOf_b137 {O : cb_O} {M : cb_M} (hJ : cb_J O skM) (hok : cb_ok O skM M cX9_joinsOf 3 RX9 none) {kk2 : Int → cb_S → Option (Int × cb_S)} (hk2 : ∀ (x1 : Int) (g : cb_S), cb_j O skM true rm_X9_joinsOf M 3 2 [some (.inr 0), some (.inl x1), none] [] g (kk2 x1 g)) : ∀ (x1 s0 s1 : Int) (g : cb_S), cb_j O skM true rm_X9_joinsOf M 3 137 [some (.inr 0), some (.inl x1), none] [.inl s0, .inl s1, .inr 9] g (f_X9_joinsOf_b137 kk2 x1 s0 s1 g) := by
  intro x1 s0 s1 g
  show cb_j _ _ _ _ _ _ _ _ _ _ (if (0 ≤ cb_w s1 ∧ cb_w s1 < (64 : Nat)) ∧ ((s0 : Int) = 0 ∨ (s0 : Int) = 1) then (f_X9_joinsOf_b138 kk2 x1 (cb_u g 9 (cb_w s1).toNat s0)) else none)
  refine cb_zast hok dX9_joinsOf_137 skM_b9 skM_c9 ?_
  refine cb_fewer (ls' := [some (.inr 0), some (.inl x1), none]) ⟨rfl, ⟨rfl, trivial⟩⟩ ?_
  exact J_X9_joinsOf_b138 hJ hok hk2 _ _
def f_X9_joinsOf_b132 (kk2 : Int → cb_S → Option (Int × cb_S)) (x1 s0 : Int) (g : cb_S) : Option (Int × cb_S) := f_X9_joinsOf_b137 kk2 x1 1 s0 g
set_option maxRecDepth 100000 in
theorem J_X9_joinsOf_b132 {O : cb_O} {M : cb_M} (hJ : cb_J O skM) (hok : cb_ok O skM M cX9_joinsOf 3 RX9 none) {kk2 : Int → cb_S → Option (Int × cb_S)} (hk2 : ∀ (x1 : Int) (g : cb_S), cb_j O skM true rm_X9_joinsOf M 3 2 [some (.inr 0), some (.inl x1), none] [] g (kk2 x1 g)) : ∀ (x1 s0 : Int) (g : cb_S), cb_j O skM true rm_X9_joinsOf M 3 132 [some (.inr 0), some (.inl x1), none] [.inl s0, .inr 9] g (f_X9_joinsOf_b132 kk2 x1 s0 g) := by
  intro x1 s0 g
  show cb_j _ _ _ _ _ _ _ _ _ _ (f_X9_joinsOf_b137 kk2 x1 1 s0 g)
  refine cb_iconst hok dX9_joinsOf_132 ?_
  refine cb_goto (tgt := 137) hok dX9_joinsOf_133 (by decide) ?_
  refine cb_fewer (ls' := [some (.inr 0), some (.inl x1), none]) ⟨rfl, ⟨rfl, trivial⟩⟩ ?_
  exact J_X9_joinsOf_b137 hJ hok hk2 _ _ _ _
def f_X9_joinsOf_b136 (kk2 : Int → cb_S → Option (Int × cb_S)) (x1 s0 : Int) (g : cb_S) : Option (Int × cb_S) := f_X9_joinsOf_b137 kk2 x1 0 s0 g
set_option maxRecDepth 100000 in
theorem J_X9_joinsOf_b136 {O : cb_O} {M : cb_M} (hJ : cb_J O skM) (hok : cb_ok O skM M cX9_joinsOf 3 RX9 none) {kk2 : Int → cb_S → Option (Int × cb_S)} (hk2 : ∀ (x1 : Int) (g : cb_S), cb_j O skM true rm_X9_joinsOf M 3 2 [some (.inr 0), some (.inl x1), none] [] g (kk2 x1 g)) : ∀ (x1 s0 : Int) (g : cb_S), cb_j O skM true rm_X9_joinsOf M 3 136 [some (.inr 0), some (.inl x1), none] [.inl s0, .inr 9] g (f_X9_joinsOf_b136 kk2 x1 s0 g) := by
  intro x1 s0 g
  show cb_j _ _ _ _ _ _ _ _ _ _ (f_X9_joinsOf_b137 kk2 x1 0 s0 g)
  refine cb_iconst hok dX9_joinsOf_136 ?_
  refine cb_fewer (ls' := [some (.inr 0), some (.inl x1), none]) ⟨rfl, ⟨rfl, trivial⟩⟩ ?_
  exact J_X9_joinsOf_b137 hJ hok hk2 _ _ _ _
def f_X9_joinsOf_b106 (kk2 : Int → cb_S → Option (Int × cb_S)) (x1 s0 : Int) (g : cb_S) : Option (Int × cb_S) := if cb_w s0 = 0 then (f_X9_joinsOf_b136 kk2 x1 x1 g) else (if cb_w x1 ≤ 1 then (f_X9_joinsOf_b132 kk2 x1 x1 g) else (if 0 ≤ cb_w (x1 - 2) ∧ cb_w (x1 - 2) < (64 : Nat) then (if cb_w (g 9 ((cb_w (x1 - 2)).toNat)) = 0 then (f_X9_joinsOf_b132 kk2 x1 x1 g) else (f_X9_joinsOf_b136 kk2 x1 x1 g)) else none))
set_option maxRecDepth 100000 in
theorem J_X9_joinsOf_b106 {O : cb_O} {M : cb_M} (hJ : cb_J O skM) (hok : cb_ok O skM M cX9_joinsOf 3 RX9 none) {kk2 : Int → cb_S → Option (Int × cb_S)} (hk2 : ∀ (x1 : Int) (g : cb_S), cb_j O skM true rm_X9_joinsOf M 3 2 [some (.inr 0), some (.inl x1), none] [] g (kk2 x1 g)) : ∀ (x1 s0 : Int) (g : cb_S), cb_j O skM true rm_X9_joinsOf M 3 106 [some (.inr 0), some (.inl x1), none] [.inl s0] g (f_X9_joinsOf_b106 kk2 x1 s0 g) := by
  intro x1 s0 g
  show cb_j _ _ _ _ _ _ _ _ _ _ (if cb_w s0 = 0 then (f_X9_joinsOf_b136 kk2 x1 x1 g) else (if cb_w x1 ≤ 1 then (f_X9_joinsOf_b132 kk2 x1 x1 g) else (if 0 ≤ cb_w (x1 - 2) ∧ cb_w (x1 - 2) < (64 : Nat) then (if cb_w (g 9 ((cb_w (x1 - 2)).toNat)) = 0 then (f_X9_joinsOf_b132 kk2 x1 x1 g) else (f_X9_joinsOf_b136 kk2 x1 x1 g)) else none)))
  refine cb_istore_n (ls' := [some (.inr 0), some (.inl x1), some (.inl s0)]) hok dX9_joinsOf_106 (by decide) rfl ?_
  refine cb_aload_n hok dX9_joinsOf_107 rfl ?_
  refine cb_gr hok dX9_joinsOf_108 fl_RX9_34 skM_b0 skM_c0 rfl ?_
  refine cb_iload_n hok dX9_joinsOf_111 rfl ?_
  refine cb_iload_n hok dX9_joinsOf_112 rfl ?_
  refine cb_ifeq (tgt := 136) hok rfl dX9_joinsOf_113 (by decide) (fun _ => ?_) (fun _ => ?_)
  · refine cb_fewer (ls' := [some (.inr 0), some (.inl x1), none]) ⟨rfl, ⟨rfl, trivial⟩⟩ ?_
    exact J_X9_joinsOf_b136 hJ hok hk2 _ _ _
  · refine cb_iload_n hok dX9_joinsOf_116 rfl ?_
    refine cb_iconst hok dX9_joinsOf_117 ?_
    refine cb_icle (tgt := 132) hok rfl (by decide) dX9_joinsOf_118 (by decide) (fun _ => ?_) (fun _ => ?_)
    · refine cb_fewer (ls' := [some (.inr 0), some (.inl x1), none]) ⟨rfl, ⟨rfl, trivial⟩⟩ ?_
      exact J_X9_joinsOf_b132 hJ hok hk2 _ _ _
    · refine cb_aload_n hok dX9_joinsOf_121 rfl ?_
      refine cb_gr hok dX9_joinsOf_122 fl_RX9_34 skM_b0 skM_c0 rfl ?_
      refine cb_iload_n hok dX9_joinsOf_125 rfl ?_
      refine cb_iconst hok dX9_joinsOf_126 ?_
      refine cb_isub hok dX9_joinsOf_127 ?_
      refine cb_zald hok dX9_joinsOf_128 skM_b9 skM_c9 ?_
      refine cb_ifne (tgt := 136) hok rfl dX9_joinsOf_129 (by decide) (fun _ => ?_) (fun _ => ?_)
      · refine cb_fewer (ls' := [some (.inr 0), some (.inl x1), none]) ⟨rfl, ⟨rfl, trivial⟩⟩ ?_
        exact J_X9_joinsOf_b136 hJ hok hk2 _ _ _
      · refine cb_fewer (ls' := [some (.inr 0), some (.inl x1), none]) ⟨rfl, ⟨rfl, trivial⟩⟩ ?_
        exact J_X9_joinsOf_b132 hJ hok hk2 _ _ _
def f_X9_joinsOf_b101 (kk2 : Int → cb_S → Option (Int × cb_S)) (x1 : Int) (g : cb_S) : Option (Int × cb_S) := f_X9_joinsOf_b106 kk2 x1 1 g
set_option maxRecDepth 100000 in
theorem J_X9_joinsOf_b101 {O : cb_O} {M : cb_M} (hJ : cb_J O skM) (hok : cb_ok O skM M cX9_joinsOf 3 RX9 none) {kk2 : Int → cb_S → Option (Int × cb_S)} (hk2 : ∀ (x1 : Int) (g : cb_S), cb_j O skM true rm_X9_joinsOf M 3 2 [some (.inr 0), some (.inl x1), none] [] g (kk2 x1 g)) : ∀ (x1 : Int) (g : cb_S), cb_j O skM true rm_X9_joinsOf M 3 101 [some (.inr 0), some (.inl x1), none] [] g (f_X9_joinsOf_b101 kk2 x1 g) := by
  intro x1 g
  show cb_j _ _ _ _ _ _ _ _ _ _ (f_X9_joinsOf_b106 kk2 x1 1 g)
  refine cb_iconst hok dX9_joinsOf_101 ?_
  refine cb_goto (tgt := 106) hok dX9_joinsOf_102 (by decide) ?_
  refine cb_fewer (ls' := [some (.inr 0), some (.inl x1), none]) ⟨rfl, ⟨rfl, trivial⟩⟩ ?_
  exact J_X9_joinsOf_b106 hJ hok hk2 _ _ _
def f_X9_joinsOf_b105 (kk2 : Int → cb_S → Option (Int × cb_S)) (x1 : Int) (g : cb_S) : Option (Int × cb_S) := f_X9_joinsOf_b106 kk2 x1 0 g
set_option maxRecDepth 100000 in
theorem J_X9_joinsOf_b105 {O : cb_O} {M : cb_M} (hJ : cb_J O skM) (hok : cb_ok O skM M cX9_joinsOf 3 RX9 none) {kk2 : Int → cb_S → Option (Int × cb_S)} (hk2 : ∀ (x1 : Int) (g : cb_S), cb_j O skM true rm_X9_joinsOf M 3 2 [some (.inr 0), some (.inl x1), none] [] g (kk2 x1 g)) : ∀ (x1 : Int) (g : cb_S), cb_j O skM true rm_X9_joinsOf M 3 105 [some (.inr 0), some (.inl x1), none] [] g (f_X9_joinsOf_b105 kk2 x1 g) := by
  intro x1 g
  show cb_j _ _ _ _ _ _ _ _ _ _ (f_X9_joinsOf_b106 kk2 x1 0 g)
  refine cb_iconst hok dX9_joinsOf_105 ?_
  refine cb_fewer (ls' := [some (.inr 0), some (.inl x1), none]) ⟨rfl, ⟨rfl, trivial⟩⟩ ?_
  exact J_X9_joinsOf_b106 hJ hok hk2 _ _ _
def f_X9_joinsOf_b73 (kk2 : Int → cb_S → Option (Int × cb_S)) (x1 : Int) (g : cb_S) : Option (Int × cb_S) := if 0 ≤ cb_w (x1 - 1) ∧ cb_w (x1 - 1) < (64 : Nat) then ((v_X9_isBackward g (g 1 ((cb_w (x1 - 1)).toNat))).bind (fun r1 => if cb_w r1 = 0 then (f_X9_joinsOf_b105 kk2 x1 g) else (if 0 ≤ cb_w (x1 + 1) ∧ cb_w (x1 + 1) < (64 : Nat) then ((v_X9_isBackward g (g 1 ((cb_w (x1 + 1)).toNat))).bind (fun r2 => if cb_w r2 = 0 then (f_X9_joinsOf_b105 kk2 x1 g) else (f_X9_joinsOf_b101 kk2 x1 g))) else none))) else none
set_option maxRecDepth 100000 in
theorem J_X9_joinsOf_b73 {O : cb_O} {M : cb_M} (hJ : cb_J O skM) (hok : cb_ok O skM M cX9_joinsOf 3 RX9 none) {kk2 : Int → cb_S → Option (Int × cb_S)} (hk2 : ∀ (x1 : Int) (g : cb_S), cb_j O skM true rm_X9_joinsOf M 3 2 [some (.inr 0), some (.inl x1), none] [] g (kk2 x1 g)) : ∀ (x1 : Int) (g : cb_S), cb_j O skM true rm_X9_joinsOf M 3 73 [some (.inr 0), some (.inl x1), none] [] g (f_X9_joinsOf_b73 kk2 x1 g) := by
  intro x1 g
  show cb_j _ _ _ _ _ _ _ _ _ _ (if 0 ≤ cb_w (x1 - 1) ∧ cb_w (x1 - 1) < (64 : Nat) then ((v_X9_isBackward g (g 1 ((cb_w (x1 - 1)).toNat))).bind (fun r1 => if cb_w r1 = 0 then (f_X9_joinsOf_b105 kk2 x1 g) else (if 0 ≤ cb_w (x1 + 1) ∧ cb_w (x1 + 1) < (64 : Nat) then ((v_X9_isBackward g (g 1 ((cb_w (x1 + 1)).toNat))).bind (fun r2 => if cb_w r2 = 0 then (f_X9_joinsOf_b105 kk2 x1 g) else (f_X9_joinsOf_b101 kk2 x1 g))) else none))) else none)
  refine cb_aload_n hok dX9_joinsOf_73 rfl ?_
  refine cb_gr hok dX9_joinsOf_74 fl_RX9_7 skM_b0 skM_c0 rfl ?_
  refine cb_iload_n hok dX9_joinsOf_77 rfl ?_
  refine cb_iconst hok dX9_joinsOf_78 ?_
  refine cb_isub hok dX9_joinsOf_79 ?_
  refine cb_iald hok dX9_joinsOf_80 skM_b1 skM_c1 ?_
  refine cb_csr (as := [.inl (g 1 ((cb_w (x1 - 1)).toNat))]) (rest := []) hok lk_RX9_94 (by decide) (by decide) dX9_joinsOf_81 (fun q1 hq1 => C_X9_isBackward hJ _ _ q1 hq1) rfl rfl (Nat.le_of_ble_eq_true rfl) (fun r1 => ?_)
  refine cb_ifeq (tgt := 105) hok rfl dX9_joinsOf_84 (by decide) (fun _ => ?_) (fun _ => ?_)
  · refine cb_fewer (ls' := [some (.inr 0), some (.inl x1), none]) ⟨rfl, ⟨rfl, trivial⟩⟩ ?_
    exact J_X9_joinsOf_b105 hJ hok hk2 _ _
  · refine cb_aload_n hok dX9_joinsOf_87 rfl ?_
    refine cb_gr hok dX9_joinsOf_88 fl_RX9_7 skM_b0 skM_c0 rfl ?_
    refine cb_iload_n hok dX9_joinsOf_91 rfl ?_
    refine cb_iconst hok dX9_joinsOf_92 ?_
    refine cb_iadd hok dX9_joinsOf_93 ?_
    refine cb_iald hok dX9_joinsOf_94 skM_b1 skM_c1 ?_
    refine cb_csr (as := [.inl (g 1 ((cb_w (x1 + 1)).toNat))]) (rest := []) hok lk_RX9_94 (by decide) (by decide) dX9_joinsOf_95 (fun q1 hq1 => C_X9_isBackward hJ _ _ q1 hq1) rfl rfl (Nat.le_of_ble_eq_true rfl) (fun r2 => ?_)
    refine cb_ifeq (tgt := 105) hok rfl dX9_joinsOf_98 (by decide) (fun _ => ?_) (fun _ => ?_)
    · refine cb_fewer (ls' := [some (.inr 0), some (.inl x1), none]) ⟨rfl, ⟨rfl, trivial⟩⟩ ?_
      exact J_X9_joinsOf_b105 hJ hok hk2 _ _
    · refine cb_fewer (ls' := [some (.inr 0), some (.inl x1), none]) ⟨rfl, ⟨rfl, trivial⟩⟩ ?_
      exact J_X9_joinsOf_b101 hJ hok hk2 _ _
def f_X9_joinsOf_b2 : Nat → Int → cb_S → Option (Int × cb_S)
  | 0 => fun _ _ => none
  | n + 1 => fun x1 g => if cb_w (g 0 1) ≤ cb_w x1 then (some (0, g)) else (if (0 ≤ cb_w x1 ∧ cb_w x1 < (64 : Nat)) ∧ ((0 : Int) = 0 ∨ (0 : Int) = 1) then (if 0 ≤ cb_w x1 ∧ cb_w x1 < (64 : Nat) then (if cb_w (g 1 ((cb_w x1).toNat)) = 94 then (if cb_w x1 = 0 then (f_X9_joinsOf_b138 (f_X9_joinsOf_b2 n) x1 (cb_u g 9 (cb_w x1).toNat 0)) else (if cb_w (x1 + 1) < cb_w (g 0 1) then (if 0 ≤ cb_w (x1 - 1) ∧ cb_w (x1 - 1) < (64 : Nat) then ((v_X9_isForward (cb_u g 9 (cb_w x1).toNat 0) (g 1 ((cb_w (x1 - 1)).toNat))).bind (fun r1 => if cb_w r1 = 0 then (f_X9_joinsOf_b73 (f_X9_joinsOf_b2 n) x1 (cb_u g 9 (cb_w x1).toNat 0)) else (if 0 ≤ cb_w (x1 + 1) ∧ cb_w (x1 + 1) < (64 : Nat) then ((v_X9_isForward (cb_u g 9 (cb_w x1).toNat 0) (g 1 ((cb_w (x1 + 1)).toNat))).bind (fun r2 => if cb_w r2 = 0 then (f_X9_joinsOf_b73 (f_X9_joinsOf_b2 n) x1 (cb_u g 9 (cb_w x1).toNat 0)) else (f_X9_joinsOf_b101 (f_X9_joinsOf_b2 n) x1 (cb_u g 9 (cb_w x1).toNat 0)))) else none))) else none) else (f_X9_joinsOf_b138 (f_X9_joinsOf_b2 n) x1 (cb_u g 9 (cb_w x1).toNat 0)))) else (f_X9_joinsOf_b138 (f_X9_joinsOf_b2 n) x1 (cb_u g 9 (cb_w x1).toNat 0))) else none) else none)
set_option maxRecDepth 100000 in
theorem J_X9_joinsOf_b2 {O : cb_O} {M : cb_M} (hJ : cb_J O skM) (hok : cb_ok O skM M cX9_joinsOf 3 RX9 none) : ∀ (n : Nat) (x1 : Int) (g : cb_S), cb_j O skM true rm_X9_joinsOf M 3 2 [some (.inr 0), some (.inl x1), none] [] g (f_X9_joinsOf_b2 n x1 g) := by
  intro n
  induction n with
  | zero => intros; exact cb_none
  | succ n hk2 =>
    intro x1 g
    show cb_j _ _ _ _ _ _ _ _ _ _ (if cb_w (g 0 1) ≤ cb_w x1 then (some (0, g)) else (if (0 ≤ cb_w x1 ∧ cb_w x1 < (64 : Nat)) ∧ ((0 : Int) = 0 ∨ (0 : Int) = 1) then (if 0 ≤ cb_w x1 ∧ cb_w x1 < (64 : Nat) then (if cb_w (g 1 ((cb_w x1).toNat)) = 94 then (if cb_w x1 = 0 then (f_X9_joinsOf_b138 (f_X9_joinsOf_b2 n) x1 (cb_u g 9 (cb_w x1).toNat 0)) else (if cb_w (x1 + 1) < cb_w (g 0 1) then (if 0 ≤ cb_w (x1 - 1) ∧ cb_w (x1 - 1) < (64 : Nat) then ((v_X9_isForward (cb_u g 9 (cb_w x1).toNat 0) (g 1 ((cb_w (x1 - 1)).toNat))).bind (fun r1 => if cb_w r1 = 0 then (f_X9_joinsOf_b73 (f_X9_joinsOf_b2 n) x1 (cb_u g 9 (cb_w x1).toNat 0)) else (if 0 ≤ cb_w (x1 + 1) ∧ cb_w (x1 + 1) < (64 : Nat) then ((v_X9_isForward (cb_u g 9 (cb_w x1).toNat 0) (g 1 ((cb_w (x1 + 1)).toNat))).bind (fun r2 => if cb_w r2 = 0 then (f_X9_joinsOf_b73 (f_X9_joinsOf_b2 n) x1 (cb_u g 9 (cb_w x1).toNat 0)) else (f_X9_joinsOf_b101 (f_X9_joinsOf_b2 n) x1 (cb_u g 9 (cb_w x1).toNat 0)))) else none))) else none) else (f_X9_joinsOf_b138 (f_X9_joinsOf_b2 n) x1 (cb_u g 9 (cb_w x1).toNat 0)))) else (f_X9_joinsOf_b138 (f_X9_joinsOf_b2 n) x1 (cb_u g 9 (cb_w x1).toNat 0))) else none) else none))
    refine cb_iload_n hok dX9_joinsOf_2 rfl ?_
    refine cb_aload_n hok dX9_joinsOf_3 rfl ?_
    refine cb_gi hok dX9_joinsOf_4 fl_RX9_81 skM_b0 skM_c0 rfl ?_
    refine cb_icge (tgt := 144) hok rfl rfl dX9_joinsOf_7 (by decide) (fun _ => ?_) (fun _ => ?_)
    · exact cb_vret hok dX9_joinsOf_144
    · refine cb_aload_n hok dX9_joinsOf_10 rfl ?_
      refine cb_gr hok dX9_joinsOf_11 fl_RX9_34 skM_b0 skM_c0 rfl ?_
      refine cb_iload_n hok dX9_joinsOf_14 rfl ?_
      refine cb_iconst hok dX9_joinsOf_15 ?_
      refine cb_zast hok dX9_joinsOf_16 skM_b9 skM_c9 ?_
      refine cb_aload_n hok dX9_joinsOf_17 rfl ?_
      refine cb_gr hok dX9_joinsOf_18 fl_RX9_7 skM_b0 skM_c0 rfl ?_
      refine cb_iload_n hok dX9_joinsOf_21 rfl ?_
      refine cb_iald hok dX9_joinsOf_22 skM_b1 skM_c1 ?_
      refine cb_top (y := g 1 ((cb_w x1).toNat)) (by first | rfl | (simp [cb_u])) ?_
      refine cb_bipush hok dX9_joinsOf_23 (by decide) ?_
      refine cb_icne (tgt := 138) hok rfl (by decide) dX9_joinsOf_25 (by decide) (fun _ => ?_) (fun _ => ?_)
      · refine cb_fewer (ls' := [some (.inr 0), some (.inl x1), none]) ⟨rfl, ⟨rfl, trivial⟩⟩ ?_
        exact J_X9_joinsOf_b138 hJ hok hk2 _ _
      · refine cb_iload_n hok dX9_joinsOf_28 rfl ?_
        refine cb_ifeq (tgt := 138) hok rfl dX9_joinsOf_29 (by decide) (fun _ => ?_) (fun _ => ?_)
        · refine cb_fewer (ls' := [some (.inr 0), some (.inl x1), none]) ⟨rfl, ⟨rfl, trivial⟩⟩ ?_
          exact J_X9_joinsOf_b138 hJ hok hk2 _ _
        · refine cb_iload_n hok dX9_joinsOf_32 rfl ?_
          refine cb_iconst hok dX9_joinsOf_33 ?_
          refine cb_iadd hok dX9_joinsOf_34 ?_
          refine cb_aload_n hok dX9_joinsOf_35 rfl ?_
          refine cb_gi hok dX9_joinsOf_36 fl_RX9_81 skM_b0 skM_c0 rfl ?_
          refine cb_top (y := g 0 1) rfl ?_
          refine cb_iclt (tgt := 45) hok rfl rfl dX9_joinsOf_39 (by decide) (fun _ => ?_) (fun _ => ?_)
          · refine cb_aload_n hok dX9_joinsOf_45 rfl ?_
            refine cb_gr hok dX9_joinsOf_46 fl_RX9_7 skM_b0 skM_c0 rfl ?_
            refine cb_iload_n hok dX9_joinsOf_49 rfl ?_
            refine cb_iconst hok dX9_joinsOf_50 ?_
            refine cb_isub hok dX9_joinsOf_51 ?_
            refine cb_iald hok dX9_joinsOf_52 skM_b1 skM_c1 ?_
            refine cb_top (y := g 1 ((cb_w (x1 - 1)).toNat)) (by first | rfl | (simp [cb_u])) ?_
            refine cb_csr (as := [.inl (g 1 ((cb_w (x1 - 1)).toNat))]) (rest := []) hok lk_RX9_90 (by decide) (by decide) dX9_joinsOf_53 (fun q1 hq1 => C_X9_isForward hJ _ _ q1 hq1) rfl rfl (Nat.le_of_ble_eq_true rfl) (fun r1 => ?_)
            refine cb_ifeq (tgt := 73) hok rfl dX9_joinsOf_56 (by decide) (fun _ => ?_) (fun _ => ?_)
            · refine cb_fewer (ls' := [some (.inr 0), some (.inl x1), none]) ⟨rfl, ⟨rfl, trivial⟩⟩ ?_
              exact J_X9_joinsOf_b73 hJ hok hk2 _ _
            · refine cb_aload_n hok dX9_joinsOf_59 rfl ?_
              refine cb_gr hok dX9_joinsOf_60 fl_RX9_7 skM_b0 skM_c0 rfl ?_
              refine cb_iload_n hok dX9_joinsOf_63 rfl ?_
              refine cb_iconst hok dX9_joinsOf_64 ?_
              refine cb_iadd hok dX9_joinsOf_65 ?_
              refine cb_iald hok dX9_joinsOf_66 skM_b1 skM_c1 ?_
              refine cb_top (y := g 1 ((cb_w (x1 + 1)).toNat)) (by first | rfl | (simp [cb_u])) ?_
              refine cb_csr (as := [.inl (g 1 ((cb_w (x1 + 1)).toNat))]) (rest := []) hok lk_RX9_90 (by decide) (by decide) dX9_joinsOf_67 (fun q1 hq1 => C_X9_isForward hJ _ _ q1 hq1) rfl rfl (Nat.le_of_ble_eq_true rfl) (fun r2 => ?_)
              refine cb_ifne (tgt := 101) hok rfl dX9_joinsOf_70 (by decide) (fun _ => ?_) (fun _ => ?_)
              · refine cb_fewer (ls' := [some (.inr 0), some (.inl x1), none]) ⟨rfl, ⟨rfl, trivial⟩⟩ ?_
                exact J_X9_joinsOf_b101 hJ hok hk2 _ _
              · refine cb_fewer (ls' := [some (.inr 0), some (.inl x1), none]) ⟨rfl, ⟨rfl, trivial⟩⟩ ?_
                exact J_X9_joinsOf_b73 hJ hok hk2 _ _
          · refine cb_goto (tgt := 138) hok dX9_joinsOf_42 (by decide) ?_
            refine cb_fewer (ls' := [some (.inr 0), some (.inl x1), none]) ⟨rfl, ⟨rfl, trivial⟩⟩ ?_
            exact J_X9_joinsOf_b138 hJ hok hk2 _ _
def f_X9_joinsOf (g : cb_S) : Option (Int × cb_S) := f_X9_joinsOf_b2  cb_N 0 g
set_option maxRecDepth 100000 in
theorem C_X9_joinsOf {O : cb_O} (hJ : cb_J O skM) (g : cb_S) : ∀ q, f_X9_joinsOf g = some q → cb_m O skM true yX9_joinsOf cX9_joinsOf 3 none rm_X9_joinsOf [.inr 0] g q := by
  intro q hq
  refine cb_of_body hJ (by decide) (Nat.le_of_ble_eq_true rfl) hq (fun M hok => ?_)
  show cb_j _ _ _ _ _ _ _ [some (.inr 0), none, none] _ _ (f_X9_joinsOf_b2  cb_N 0 g)
  refine cb_iconst hok dX9_joinsOf_0 ?_
  refine cb_istore_n (ls' := [some (.inr 0), some (.inl 0), none]) hok dX9_joinsOf_1 (by decide) rfl ?_
  refine cb_fewer (ls' := [some (.inr 0), some (.inl 0), none]) ⟨rfl, ⟨rfl, trivial⟩⟩ ?_
  exact J_X9_joinsOf_b2 hJ hok  cb_N _ _
/-! CaretBenchModel plainSort(I)I -/
def v_X9_plainSort (g : cb_S) (x1 : Int) : Option Int := if 0 ≤ cb_w x1 ∧ cb_w x1 < (64 : Nat) then ((v_X9_isForward g (g 1 ((cb_w x1).toNat))).bind (fun r1 => if cb_w r1 = 0 then ((v_X9_isBackward g (g 1 ((cb_w x1).toNat))).bind (fun r2 => if cb_w r2 = 0 then ((v_X9_isDigit g (g 1 ((cb_w x1).toNat))).bind (fun r3 => if cb_w r3 = 0 then (if cb_w (g 1 ((cb_w x1).toNat)) = 43 then (some 3) else (if cb_w (g 1 ((cb_w x1).toNat)) = 45 then (some 3) else (if cb_w (g 1 ((cb_w x1).toNat)) = 44 then (some 4) else (if cb_w (g 1 ((cb_w x1).toNat)) = 46 then (some 4) else (some 5))))) else (some 2))) else (some 1))) else (some 0))) else none
set_option maxRecDepth 100000 in
theorem C_X9_plainSort {O : cb_O} (hJ : cb_J O skM) (x1 : Int) (g : cb_S) : ∀ q, v_X9_plainSort g x1 = some q → cb_m O skM false yX9_plainSort cX9_plainSort 3 (some .int) rm_X9_plainSort [.inr 0, .inl x1] g (q, g) := by
  intro q hq
  refine cr_of_body hJ (by decide) (Nat.le_of_ble_eq_true rfl) hq (fun M hok => ?_)
  show cb_jr _ _ _ _ _ _ [some (.inr 0), some (.inl x1), none] _ _ (if 0 ≤ cb_w x1 ∧ cb_w x1 < (64 : Nat) then ((v_X9_isForward g (g 1 ((cb_w x1).toNat))).bind (fun r1 => if cb_w r1 = 0 then ((v_X9_isBackward g (g 1 ((cb_w x1).toNat))).bind (fun r2 => if cb_w r2 = 0 then ((v_X9_isDigit g (g 1 ((cb_w x1).toNat))).bind (fun r3 => if cb_w r3 = 0 then (if cb_w (g 1 ((cb_w x1).toNat)) = 43 then (some 3) else (if cb_w (g 1 ((cb_w x1).toNat)) = 45 then (some 3) else (if cb_w (g 1 ((cb_w x1).toNat)) = 44 then (some 4) else (if cb_w (g 1 ((cb_w x1).toNat)) = 46 then (some 4) else (some 5))))) else (some 2))) else (some 1))) else (some 0))) else none)
  refine cr_aload_n hok dX9_plainSort_0 rfl ?_
  refine cr_gr hok dX9_plainSort_1 fl_RX9_7 skM_b0 skM_c0 rfl ?_
  refine cr_iload_n hok dX9_plainSort_4 rfl ?_
  refine cr_iald hok dX9_plainSort_5 skM_b1 skM_c1 ?_
  refine cr_istore_n (ls' := [some (.inr 0), some (.inl x1), some (.inl (g 1 ((cb_w x1).toNat)))]) hok dX9_plainSort_6 (by decide) rfl ?_
  refine cr_iload_n hok dX9_plainSort_7 rfl ?_
  refine cr_csr (as := [.inl (g 1 ((cb_w x1).toNat))]) (rest := []) hok lk_RX9_90 (by decide) (by decide) dX9_plainSort_8 (fun q1 hq1 => C_X9_isForward hJ _ _ q1 hq1) rfl rfl (Nat.le_of_ble_eq_true rfl) (fun r1 => ?_)
  refine cr_ifeq (tgt := 16) hok rfl dX9_plainSort_11 (by decide) (fun _ => ?_) (fun _ => ?_)
  · refine cr_iload_n hok dX9_plainSort_16 rfl ?_
    refine cr_csr (as := [.inl (g 1 ((cb_w x1).toNat))]) (rest := []) hok lk_RX9_94 (by decide) (by decide) dX9_plainSort_17 (fun q1 hq1 => C_X9_isBackward hJ _ _ q1 hq1) rfl rfl (Nat.le_of_ble_eq_true rfl) (fun r2 => ?_)
    refine cr_ifeq (tgt := 25) hok rfl dX9_plainSort_20 (by decide) (fun _ => ?_) (fun _ => ?_)
    · refine cr_iload_n hok dX9_plainSort_25 rfl ?_
      refine cr_csr (as := [.inl (g 1 ((cb_w x1).toNat))]) (rest := []) hok lk_RX9_100 (by decide) (by decide) dX9_plainSort_26 (fun q1 hq1 => C_X9_isDigit hJ _ _ q1 hq1) rfl rfl (Nat.le_of_ble_eq_true rfl) (fun r3 => ?_)
      refine cr_ifeq (tgt := 34) hok rfl dX9_plainSort_29 (by decide) (fun _ => ?_) (fun _ => ?_)
      · refine cr_iload_n hok dX9_plainSort_34 rfl ?_
        refine cr_bipush hok dX9_plainSort_35 (by decide) ?_
        refine cr_iceq (tgt := 46) hok rfl (by decide) dX9_plainSort_37 (by decide) (fun _ => ?_) (fun _ => ?_)
        · refine cr_iconst hok dX9_plainSort_46 ?_
          exact cr_iret hok dX9_plainSort_47
        · refine cr_iload_n hok dX9_plainSort_40 rfl ?_
          refine cr_bipush hok dX9_plainSort_41 (by decide) ?_
          refine cr_icne (tgt := 48) hok rfl (by decide) dX9_plainSort_43 (by decide) (fun _ => ?_) (fun _ => ?_)
          · refine cr_iload_n hok dX9_plainSort_48 rfl ?_
            refine cr_bipush hok dX9_plainSort_49 (by decide) ?_
            refine cr_iceq (tgt := 60) hok rfl (by decide) dX9_plainSort_51 (by decide) (fun _ => ?_) (fun _ => ?_)
            · refine cr_iconst hok dX9_plainSort_60 ?_
              refine cr_goto (tgt := 65) hok dX9_plainSort_61 (by decide) ?_
              exact cr_iret hok dX9_plainSort_65
            · refine cr_iload_n hok dX9_plainSort_54 rfl ?_
              refine cr_bipush hok dX9_plainSort_55 (by decide) ?_
              refine cr_icne (tgt := 64) hok rfl (by decide) dX9_plainSort_57 (by decide) (fun _ => ?_) (fun _ => ?_)
              · refine cr_iconst hok dX9_plainSort_64 ?_
                exact cr_iret hok dX9_plainSort_65
              · refine cr_iconst hok dX9_plainSort_60 ?_
                refine cr_goto (tgt := 65) hok dX9_plainSort_61 (by decide) ?_
                exact cr_iret hok dX9_plainSort_65
          · refine cr_iconst hok dX9_plainSort_46 ?_
            exact cr_iret hok dX9_plainSort_47
      · refine cr_iconst hok dX9_plainSort_32 ?_
        exact cr_iret hok dX9_plainSort_33
    · refine cr_iconst hok dX9_plainSort_23 ?_
      exact cr_iret hok dX9_plainSort_24
  · refine cr_iconst hok dX9_plainSort_14 ?_
    exact cr_iret hok dX9_plainSort_15
