/-! CaretBenchModel isDigitAt(I)Z -/
def v_X9_isDigitAt (g : cb_S) (x1 : Int) : Option Int := if cb_w x1 < 0 then (some 0) else (if cb_w (g 0 18) ≤ cb_w x1 then (some 0) else (if 0 ≤ cb_w x1 ∧ cb_w x1 < (64 : Nat) then (if 0 ≤ cb_w (g 12 ((cb_w x1).toNat)) ∧ cb_w (g 12 ((cb_w x1).toNat)) < (64 : Nat) then (if cb_w (g 10 ((cb_w (g 12 ((cb_w x1).toNat))).toNat)) = 2 then (some 1) else (some 0)) else none) else none))
set_option maxRecDepth 100000 in
theorem C_X9_isDigitAt {O : cb_O} (hJ : cb_J O skM) (x1 : Int) (g : cb_S) : ∀ q, v_X9_isDigitAt g x1 = some q → cb_m O skM false yX9_isDigitAt cX9_isDigitAt 2 (some .boolean) rm_X9_isDigitAt [.inr 0, .inl x1] g (q, g) := by
  intro q hq
  refine cr_of_body hJ (by decide) (Nat.le_of_ble_eq_true rfl) hq (fun M hok => ?_)
  show cb_jr _ _ _ _ _ _ [some (.inr 0), some (.inl x1)] _ _ (if cb_w x1 < 0 then (some 0) else (if cb_w (g 0 18) ≤ cb_w x1 then (some 0) else (if 0 ≤ cb_w x1 ∧ cb_w x1 < (64 : Nat) then (if 0 ≤ cb_w (g 12 ((cb_w x1).toNat)) ∧ cb_w (g 12 ((cb_w x1).toNat)) < (64 : Nat) then (if cb_w (g 10 ((cb_w (g 12 ((cb_w x1).toNat))).toNat)) = 2 then (some 1) else (some 0)) else none) else none)))
  refine cr_iload_n hok dX9_isDigitAt_0 rfl ?_
  refine cr_iflt (tgt := 31) hok rfl dX9_isDigitAt_1 (by decide) (fun _ => ?_) (fun _ => ?_)
  · refine cr_iconst hok dX9_isDigitAt_31 ?_
    exact cr_zret hok dX9_isDigitAt_32 (by decide)
  · refine cr_iload_n hok dX9_isDigitAt_4 rfl ?_
    refine cr_aload_n hok dX9_isDigitAt_5 rfl ?_
    refine cr_gi hok dX9_isDigitAt_6 fl_RX9_119 skM_b0 skM_c0 rfl ?_
    refine cr_icge (tgt := 31) hok rfl rfl dX9_isDigitAt_9 (by decide) (fun _ => ?_) (fun _ => ?_)
    · refine cr_iconst hok dX9_isDigitAt_31 ?_
      exact cr_zret hok dX9_isDigitAt_32 (by decide)
    · refine cr_aload_n hok dX9_isDigitAt_12 rfl ?_
      refine cr_gr hok dX9_isDigitAt_13 fl_RX9_38 skM_b0 skM_c0 rfl ?_
      refine cr_aload_n hok dX9_isDigitAt_16 rfl ?_
      refine cr_gr hok dX9_isDigitAt_17 fl_RX9_44 skM_b0 skM_c0 rfl ?_
      refine cr_iload_n hok dX9_isDigitAt_20 rfl ?_
      refine cr_iald hok dX9_isDigitAt_21 skM_b12 skM_c12 ?_
      refine cr_iald hok dX9_isDigitAt_22 skM_b10 skM_c10 ?_
      refine cr_iconst hok dX9_isDigitAt_23 ?_
      refine cr_icne (tgt := 31) hok rfl (by decide) dX9_isDigitAt_24 (by decide) (fun _ => ?_) (fun _ => ?_)
      · refine cr_iconst hok dX9_isDigitAt_31 ?_
        exact cr_zret hok dX9_isDigitAt_32 (by decide)
      · refine cr_iconst hok dX9_isDigitAt_27 ?_
        refine cr_goto (tgt := 32) hok dX9_isDigitAt_28 (by decide) ?_
        exact cr_zret hok dX9_isDigitAt_32 (by decide)
/-! CaretBenchModel row(I)V -/
def f_X9_row_b48 (kk7 : Int → Int → cb_S → Option (Int × cb_S)) (x1 x2 : Int) (g : cb_S) : Option (Int × cb_S) := kk7 x1 (x2 + 1) g
set_option maxRecDepth 100000 in
theorem J_X9_row_b48 {O : cb_O} {M : cb_M} (hJ : cb_J O skM) (hok : cb_ok O skM M cX9_row 9 RX9 none) {kk7 : Int → Int → cb_S → Option (Int × cb_S)} (hk7 : ∀ (x1 x2 : Int) (g : cb_S), cb_j O skM true rm_X9_row M 9 7 [some (.inr 0), some (.inl x1), some (.inl x2), none, none, none, none, none, none] [] g (kk7 x1 x2 g)) : ∀ (x1 x2 : Int) (g : cb_S), cb_j O skM true rm_X9_row M 9 48 [some (.inr 0), some (.inl x1), some (.inl x2), none, none, none, none, none, none] [] g (f_X9_row_b48 kk7 x1 x2 g) := by
  intro x1 x2 g
  show cb_j _ _ _ _ _ _ _ _ _ _ (kk7 x1 (x2 + 1) g)
  refine cb_iinc (ls' := [some (.inr 0), some (.inl x1), some (.inl (x2 + 1)), none, none, none, none, none, none]) hok dX9_row_48 rfl (by decide) rfl ?_
  refine cb_goto (tgt := 7) hok dX9_row_51 (by decide) ?_
  refine cb_fewer (ls' := [some (.inr 0), some (.inl x1), some (.inl (x2 + 1)), none, none, none, none, none, none]) ⟨rfl, ⟨rfl, ⟨rfl, trivial⟩⟩⟩ ?_
  exact hk7 _ _ _
def f_X9_row_b152 (kk65 : Int → Int → Int → cb_S → Option (Int × cb_S)) (x1 x2 x3 s0 s1 : Int) (g : cb_S) : Option (Int × cb_S) := if 0 ≤ cb_w s1 ∧ cb_w s1 < (64 : Nat) then (kk65 x1 x2 (x3 + 1) (cb_u g 10 (cb_w s1).toNat s0)) else none
set_option maxRecDepth 100000 in
theorem J_X9_row_b152 {O : cb_O} {M : cb_M} (hJ : cb_J O skM) (hok : cb_ok O skM M cX9_row 9 RX9 none) {kk65 : Int → Int → Int → cb_S → Option (Int × cb_S)} (hk65 : ∀ (x1 x2 x3 : Int) (g : cb_S), cb_j O skM true rm_X9_row M 9 65 [some (.inr 0), some (.inl x1), some (.inl x2), some (.inl x3), none, none, none, none, none] [] g (kk65 x1 x2 x3 g)) : ∀ (x1 x2 x3 s0 s1 : Int) (g : cb_S), cb_j O skM true rm_X9_row M 9 152 [some (.inr 0), some (.inl x1), some (.inl x2), some (.inl x3), none, none, none, none, none] [.inl s0, .inl s1, .inr 10] g (f_X9_row_b152 kk65 x1 x2 x3 s0 s1 g) := by
  intro x1 x2 x3 s0 s1 g
  show cb_j _ _ _ _ _ _ _ _ _ _ (if 0 ≤ cb_w s1 ∧ cb_w s1 < (64 : Nat) then (kk65 x1 x2 (x3 + 1) (cb_u g 10 (cb_w s1).toNat s0)) else none)
  refine cb_iast hok dX9_row_152 skM_b10 skM_c10 ?_
  refine cb_iinc (ls' := [some (.inr 0), some (.inl x1), some (.inl x2), some (.inl (x3 + 1)), none, none, none, none, none]) hok dX9_row_153 rfl (by decide) rfl ?_
  refine cb_goto (tgt := 65) hok dX9_row_156 (by decide) ?_
  refine cb_fewer (ls' := [some (.inr 0), some (.inl x1), some (.inl x2), some (.inl (x3 + 1)), none, none, none, none, none]) ⟨rfl, ⟨rfl, ⟨rfl, ⟨rfl, trivial⟩⟩⟩⟩ ?_
  exact hk65 _ _ _ _
def f_X9_row_b229 (kk161 : Int → Int → Int → cb_S → Option (Int × cb_S)) (x1 x2 x3 s0 s1 : Int) (g : cb_S) : Option (Int × cb_S) := if (0 ≤ cb_w s1 ∧ cb_w s1 < (64 : Nat)) ∧ ((s0 : Int) = 0 ∨ (s0 : Int) = 1) then (kk161 x1 x2 (x3 + 1) (cb_u g 13 (cb_w s1).toNat s0)) else none
set_option maxRecDepth 100000 in
theorem J_X9_row_b229 {O : cb_O} {M : cb_M} (hJ : cb_J O skM) (hok : cb_ok O skM M cX9_row 9 RX9 none) {kk161 : Int → Int → Int → cb_S → Option (Int × cb_S)} (hk161 : ∀ (x1 x2 x3 : Int) (g : cb_S), cb_j O skM true rm_X9_row M 9 161 [some (.inr 0), some (.inl x1), some (.inl x2), some (.inl x3), none, none, none, none, none] [] g (kk161 x1 x2 x3 g)) : ∀ (x1 x2 x3 s0 s1 : Int) (g : cb_S), cb_j O skM true rm_X9_row M 9 229 [some (.inr 0), some (.inl x1), some (.inl x2), some (.inl x3), none, none, none, none, none] [.inl s0, .inl s1, .inr 13] g (f_X9_row_b229 kk161 x1 x2 x3 s0 s1 g) := by
  intro x1 x2 x3 s0 s1 g
  show cb_j _ _ _ _ _ _ _ _ _ _ (if (0 ≤ cb_w s1 ∧ cb_w s1 < (64 : Nat)) ∧ ((s0 : Int) = 0 ∨ (s0 : Int) = 1) then (kk161 x1 x2 (x3 + 1) (cb_u g 13 (cb_w s1).toNat s0)) else none)
  refine cb_zast hok dX9_row_229 skM_b13 skM_c13 ?_
  refine cb_iinc (ls' := [some (.inr 0), some (.inl x1), some (.inl x2), some (.inl (x3 + 1)), none, none, none, none, none]) hok dX9_row_230 rfl (by decide) rfl ?_
  refine cb_goto (tgt := 161) hok dX9_row_233 (by decide) ?_
  refine cb_fewer (ls' := [some (.inr 0), some (.inl x1), some (.inl x2), some (.inl (x3 + 1)), none, none, none, none, none]) ⟨rfl, ⟨rfl, ⟨rfl, ⟨rfl, trivial⟩⟩⟩⟩ ?_
  exact hk161 _ _ _ _
def f_X9_row_b228 (kk161 : Int → Int → Int → cb_S → Option (Int × cb_S)) (x1 x2 x3 s0 : Int) (g : cb_S) : Option (Int × cb_S) := f_X9_row_b229 kk161 x1 x2 x3 0 s0 g
set_option maxRecDepth 100000 in
theorem J_X9_row_b228 {O : cb_O} {M : cb_M} (hJ : cb_J O skM) (hok : cb_ok O skM M cX9_row 9 RX9 none) {kk161 : Int → Int → Int → cb_S → Option (Int × cb_S)} (hk161 : ∀ (x1 x2 x3 : Int) (g : cb_S), cb_j O skM true rm_X9_row M 9 161 [some (.inr 0), some (.inl x1), some (.inl x2), some (.inl x3), none, none, none, none, none] [] g (kk161 x1 x2 x3 g)) : ∀ (x1 x2 x3 s0 : Int) (g : cb_S), cb_j O skM true rm_X9_row M 9 228 [some (.inr 0), some (.inl x1), some (.inl x2), some (.inl x3), none, none, none, none, none] [.inl s0, .inr 13] g (f_X9_row_b228 kk161 x1 x2 x3 s0 g) := by
  intro x1 x2 x3 s0 g
  show cb_j _ _ _ _ _ _ _ _ _ _ (f_X9_row_b229 kk161 x1 x2 x3 0 s0 g)
  refine cb_iconst hok dX9_row_228 ?_
  refine cb_fewer (ls' := [some (.inr 0), some (.inl x1), some (.inl x2), some (.inl x3), none, none, none, none, none]) ⟨rfl, ⟨rfl, ⟨rfl, ⟨rfl, trivial⟩⟩⟩⟩ ?_
  exact J_X9_row_b229 hJ hok hk161 _ _ _ _ _ _
def f_X9_row_b204 (kk161 : Int → Int → Int → cb_S → Option (Int × cb_S)) (x1 x2 x3 s0 : Int) (g : cb_S) : Option (Int × cb_S) := (v_X9_isDigitAt g (x3 - 1)).bind (fun r1 => if cb_w r1 = 0 then (f_X9_row_b228 kk161 x1 x2 x3 s0 g) else ((v_X9_isDigitAt g (x3 + 1)).bind (fun r2 => if cb_w r2 = 0 then (f_X9_row_b228 kk161 x1 x2 x3 s0 g) else (f_X9_row_b229 kk161 x1 x2 x3 1 s0 g))))
set_option maxRecDepth 100000 in
theorem J_X9_row_b204 {O : cb_O} {M : cb_M} (hJ : cb_J O skM) (hok : cb_ok O skM M cX9_row 9 RX9 none) {kk161 : Int → Int → Int → cb_S → Option (Int × cb_S)} (hk161 : ∀ (x1 x2 x3 : Int) (g : cb_S), cb_j O skM true rm_X9_row M 9 161 [some (.inr 0), some (.inl x1), some (.inl x2), some (.inl x3), none, none, none, none, none] [] g (kk161 x1 x2 x3 g)) : ∀ (x1 x2 x3 s0 : Int) (g : cb_S), cb_j O skM true rm_X9_row M 9 204 [some (.inr 0), some (.inl x1), some (.inl x2), some (.inl x3), none, none, none, none, none] [.inl s0, .inr 13] g (f_X9_row_b204 kk161 x1 x2 x3 s0 g) := by
  intro x1 x2 x3 s0 g
  show cb_j _ _ _ _ _ _ _ _ _ _ ((v_X9_isDigitAt g (x3 - 1)).bind (fun r1 => if cb_w r1 = 0 then (f_X9_row_b228 kk161 x1 x2 x3 s0 g) else ((v_X9_isDigitAt g (x3 + 1)).bind (fun r2 => if cb_w r2 = 0 then (f_X9_row_b228 kk161 x1 x2 x3 s0 g) else (f_X9_row_b229 kk161 x1 x2 x3 1 s0 g)))))
  refine cb_aload_n hok dX9_row_204 rfl ?_
  refine cb_iload_n hok dX9_row_205 rfl ?_
  refine cb_iconst hok dX9_row_206 ?_
  refine cb_isub hok dX9_row_207 ?_
  refine cb_cvr (as := [.inl (x3 - 1)]) (rest := [.inl s0, .inr 13]) hok lk_RX9_126 (by decide) (by decide) dX9_row_208 (fun q1 hq1 => C_X9_isDigitAt hJ _ _ q1 hq1) rfl rfl (Nat.le_of_ble_eq_true rfl) skM_b0 skM_c0 rfl (fun r1 => ?_)
  refine cb_ifeq (tgt := 228) hok rfl dX9_row_211 (by decide) (fun _ => ?_) (fun _ => ?_)
  · refine cb_fewer (ls' := [some (.inr 0), some (.inl x1), some (.inl x2), some (.inl x3), none, none, none, none, none]) ⟨rfl, ⟨rfl, ⟨rfl, ⟨rfl, trivial⟩⟩⟩⟩ ?_
    exact J_X9_row_b228 hJ hok hk161 _ _ _ _ _
  · refine cb_aload_n hok dX9_row_214 rfl ?_
    refine cb_iload_n hok dX9_row_215 rfl ?_
    refine cb_iconst hok dX9_row_216 ?_
    refine cb_iadd hok dX9_row_217 ?_
    refine cb_cvr (as := [.inl (x3 + 1)]) (rest := [.inl s0, .inr 13]) hok lk_RX9_126 (by decide) (by decide) dX9_row_218 (fun q1 hq1 => C_X9_isDigitAt hJ _ _ q1 hq1) rfl rfl (Nat.le_of_ble_eq_true rfl) skM_b0 skM_c0 rfl (fun r2 => ?_)
    refine cb_ifeq (tgt := 228) hok rfl dX9_row_221 (by decide) (fun _ => ?_) (fun _ => ?_)
    · refine cb_fewer (ls' := [some (.inr 0), some (.inl x1), some (.inl x2), some (.inl x3), none, none, none, none, none]) ⟨rfl, ⟨rfl, ⟨rfl, ⟨rfl, trivial⟩⟩⟩⟩ ?_
      exact J_X9_row_b228 hJ hok hk161 _ _ _ _ _
    · refine cb_iconst hok dX9_row_224 ?_
      refine cb_goto (tgt := 229) hok dX9_row_225 (by decide) ?_
      refine cb_fewer (ls' := [some (.inr 0), some (.inl x1), some (.inl x2), some (.inl x3), none, none, none, none, none]) ⟨rfl, ⟨rfl, ⟨rfl, ⟨rfl, trivial⟩⟩⟩⟩ ?_
      exact J_X9_row_b229 hJ hok hk161 _ _ _ _ _ _
def f_X9_row_b301 (kk238 : Int → Int → Int → cb_S → Option (Int × cb_S)) (x1 x2 x3 : Int) (g : cb_S) : Option (Int × cb_S) := kk238 x1 x2 (x3 + 1) g
set_option maxRecDepth 100000 in
theorem J_X9_row_b301 {O : cb_O} {M : cb_M} (hJ : cb_J O skM) (hok : cb_ok O skM M cX9_row 9 RX9 none) {kk238 : Int → Int → Int → cb_S → Option (Int × cb_S)} (hk238 : ∀ (x1 x2 x3 : Int) (g : cb_S), cb_j O skM true rm_X9_row M 9 238 [some (.inr 0), some (.inl x1), some (.inl x2), some (.inl x3), none, none, none, none, none] [] g (kk238 x1 x2 x3 g)) : ∀ (x1 x2 x3 : Int) (g : cb_S), cb_j O skM true rm_X9_row M 9 301 [some (.inr 0), some (.inl x1), some (.inl x2), some (.inl x3), none, none, none, none, none] [] g (f_X9_row_b301 kk238 x1 x2 x3 g) := by
  intro x1 x2 x3 g
  show cb_j _ _ _ _ _ _ _ _ _ _ (kk238 x1 x2 (x3 + 1) g)
  refine cb_iinc (ls' := [some (.inr 0), some (.inl x1), some (.inl x2), some (.inl (x3 + 1)), none, none, none, none, none]) hok dX9_row_301 rfl (by decide) rfl ?_
  refine cb_goto (tgt := 238) hok dX9_row_304 (by decide) ?_
  refine cb_fewer (ls' := [some (.inr 0), some (.inl x1), some (.inl x2), some (.inl (x3 + 1)), none, none, none, none, none]) ⟨rfl, ⟨rfl, ⟨rfl, ⟨rfl, trivial⟩⟩⟩⟩ ?_
  exact hk238 _ _ _ _
def f_X9_row_b300 (kk238 : Int → Int → Int → cb_S → Option (Int × cb_S)) (x1 x2 x3 s0 s1 : Int) (g : cb_S) : Option (Int × cb_S) := if 0 ≤ cb_w s1 ∧ cb_w s1 < (64 : Nat) then (f_X9_row_b301 kk238 x1 x2 x3 (cb_u g 10 (cb_w s1).toNat s0)) else none
set_option maxRecDepth 100000 in
theorem J_X9_row_b300 {O : cb_O} {M : cb_M} (hJ : cb_J O skM) (hok : cb_ok O skM M cX9_row 9 RX9 none) {kk238 : Int → Int → Int → cb_S → Option (Int × cb_S)} (hk238 : ∀ (x1 x2 x3 : Int) (g : cb_S), cb_j O skM true rm_X9_row M 9 238 [some (.inr 0), some (.inl x1), some (.inl x2), some (.inl x3), none, none, none, none, none] [] g (kk238 x1 x2 x3 g)) : ∀ (x1 x2 x3 s0 s1 : Int) (g : cb_S), cb_j O skM true rm_X9_row M 9 300 [some (.inr 0), some (.inl x1), some (.inl x2), some (.inl x3), none, none, none, none, none] [.inl s0, .inl s1, .inr 10] g (f_X9_row_b300 kk238 x1 x2 x3 s0 s1 g) := by
  intro x1 x2 x3 s0 s1 g
  show cb_j _ _ _ _ _ _ _ _ _ _ (if 0 ≤ cb_w s1 ∧ cb_w s1 < (64 : Nat) then (f_X9_row_b301 kk238 x1 x2 x3 (cb_u g 10 (cb_w s1).toNat s0)) else none)
  refine cb_iast hok dX9_row_300 skM_b10 skM_c10 ?_
  refine cb_fewer (ls' := [some (.inr 0), some (.inl x1), some (.inl x2), some (.inl x3), none, none, none, none, none]) ⟨rfl, ⟨rfl, ⟨rfl, ⟨rfl, trivial⟩⟩⟩⟩ ?_
  exact J_X9_row_b301 hJ hok hk238 _ _ _ _
def f_X9_row_b276 (kk238 : Int → Int → Int → cb_S → Option (Int × cb_S)) (x1 x2 x3 : Int) (g : cb_S) : Option (Int × cb_S) := if 0 ≤ cb_w x3 ∧ cb_w x3 < (64 : Nat) then (if 0 ≤ cb_w x3 ∧ cb_w x3 < (64 : Nat) then (if cb_w (g 13 ((cb_w x3).toNat)) = 0 then (f_X9_row_b300 kk238 x1 x2 x3 5 (g 12 ((cb_w x3).toNat)) g) else (f_X9_row_b300 kk238 x1 x2 x3 2 (g 12 ((cb_w x3).toNat)) g)) else none) else none
set_option maxRecDepth 100000 in
theorem J_X9_row_b276 {O : cb_O} {M : cb_M} (hJ : cb_J O skM) (hok : cb_ok O skM M cX9_row 9 RX9 none) {kk238 : Int → Int → Int → cb_S → Option (Int × cb_S)} (hk238 : ∀ (x1 x2 x3 : Int) (g : cb_S), cb_j O skM true rm_X9_row M 9 238 [some (.inr 0), some (.inl x1), some (.inl x2), some (.inl x3), none, none, none, none, none] [] g (kk238 x1 x2 x3 g)) : ∀ (x1 x2 x3 : Int) (g : cb_S), cb_j O skM true rm_X9_row M 9 276 [some (.inr 0), some (.inl x1), some (.inl x2), some (.inl x3), none, none, none, none, none] [] g (f_X9_row_b276 kk238 x1 x2 x3 g) := by
  intro x1 x2 x3 g
  show cb_j _ _ _ _ _ _ _ _ _ _ (if 0 ≤ cb_w x3 ∧ cb_w x3 < (64 : Nat) then (if 0 ≤ cb_w x3 ∧ cb_w x3 < (64 : Nat) then (if cb_w (g 13 ((cb_w x3).toNat)) = 0 then (f_X9_row_b300 kk238 x1 x2 x3 5 (g 12 ((cb_w x3).toNat)) g) else (f_X9_row_b300 kk238 x1 x2 x3 2 (g 12 ((cb_w x3).toNat)) g)) else none) else none)
  refine cb_aload_n hok dX9_row_276 rfl ?_
  refine cb_gr hok dX9_row_277 fl_RX9_38 skM_b0 skM_c0 rfl ?_
  refine cb_aload_n hok dX9_row_280 rfl ?_
  refine cb_gr hok dX9_row_281 fl_RX9_44 skM_b0 skM_c0 rfl ?_
  refine cb_iload_n hok dX9_row_284 rfl ?_
  refine cb_iald hok dX9_row_285 skM_b12 skM_c12 ?_
  refine cb_aload_n hok dX9_row_286 rfl ?_
  refine cb_gr hok dX9_row_287 fl_RX9_47 skM_b0 skM_c0 rfl ?_
  refine cb_iload_n hok dX9_row_290 rfl ?_
  refine cb_zald hok dX9_row_291 skM_b13 skM_c13 ?_
  refine cb_ifeq (tgt := 299) hok rfl dX9_row_292 (by decide) (fun _ => ?_) (fun _ => ?_)
  · refine cb_iconst hok dX9_row_299 ?_
    refine cb_fewer (ls' := [some (.inr 0), some (.inl x1), some (.inl x2), some (.inl x3), none, none, none, none, none]) ⟨rfl, ⟨rfl, ⟨rfl, ⟨rfl, trivial⟩⟩⟩⟩ ?_
    exact J_X9_row_b300 hJ hok hk238 _ _ _ _ _ _
  · refine cb_iconst hok dX9_row_295 ?_
    refine cb_goto (tgt := 300) hok dX9_row_296 (by decide) ?_
    refine cb_fewer (ls' := [some (.inr 0), some (.inl x1), some (.inl x2), some (.inl x3), none, none, none, none, none]) ⟨rfl, ⟨rfl, ⟨rfl, ⟨rfl, trivial⟩⟩⟩⟩ ?_
    exact J_X9_row_b300 hJ hok hk238 _ _ _ _ _ _
def f_X9_row_b385 (kk312 : Int → Int → Int → Int → cb_S → Option (Int × cb_S)) (x1 x2 x3 x4 : Int) (g : cb_S) : Option (Int × cb_S) := kk312 x1 x2 x3 (x4 + 1) g
set_option maxRecDepth 100000 in
theorem J_X9_row_b385 {O : cb_O} {M : cb_M} (hJ : cb_J O skM) (hok : cb_ok O skM M cX9_row 9 RX9 none) {kk312 : Int → Int → Int → Int → cb_S → Option (Int × cb_S)} (hk312 : ∀ (x1 x2 x3 x4 : Int) (g : cb_S), cb_j O skM true rm_X9_row M 9 312 [some (.inr 0), some (.inl x1), some (.inl x2), some (.inl x3), some (.inl x4), none, none, none, none] [] g (kk312 x1 x2 x3 x4 g)) : ∀ (x1 x2 x3 x4 : Int) (g : cb_S), cb_j O skM true rm_X9_row M 9 385 [some (.inr 0), some (.inl x1), some (.inl x2), some (.inl x3), some (.inl x4), none, none, none, none] [] g (f_X9_row_b385 kk312 x1 x2 x3 x4 g) := by
  intro x1 x2 x3 x4 g
  show cb_j _ _ _ _ _ _ _ _ _ _ (kk312 x1 x2 x3 (x4 + 1) g)
  refine cb_iinc (ls' := [some (.inr 0), some (.inl x1), some (.inl x2), some (.inl x3), some (.inl (x4 + 1)), none, none, none, none]) hok dX9_row_385 rfl (by decide) rfl ?_
  refine cb_goto (tgt := 312) hok dX9_row_388 (by decide) ?_
  refine cb_fewer (ls' := [some (.inr 0), some (.inl x1), some (.inl x2), some (.inl x3), some (.inl (x4 + 1)), none, none, none, none]) ⟨rfl, ⟨rfl, ⟨rfl, ⟨rfl, ⟨rfl, trivial⟩⟩⟩⟩⟩ ?_
  exact hk312 _ _ _ _ _
def f_X9_row_b351 (kk312 : Int → Int → Int → Int → cb_S → Option (Int × cb_S)) (x1 x2 x4 x5 : Int) (g : cb_S) : Option (Int × cb_S) := if 0 ≤ cb_w x5 ∧ cb_w x5 < (64 : Nat) then (f_X9_row_b385 kk312 x1 x2 (g 10 ((cb_w x5).toNat)) x4 g) else none
set_option maxRecDepth 100000 in
theorem J_X9_row_b351 {O : cb_O} {M : cb_M} (hJ : cb_J O skM) (hok : cb_ok O skM M cX9_row 9 RX9 none) {kk312 : Int → Int → Int → Int → cb_S → Option (Int × cb_S)} (hk312 : ∀ (x1 x2 x3 x4 : Int) (g : cb_S), cb_j O skM true rm_X9_row M 9 312 [some (.inr 0), some (.inl x1), some (.inl x2), some (.inl x3), some (.inl x4), none, none, none, none] [] g (kk312 x1 x2 x3 x4 g)) : ∀ (x1 x2 x4 x5 : Int) (g : cb_S), cb_j O skM true rm_X9_row M 9 351 [some (.inr 0), some (.inl x1), some (.inl x2), none, some (.inl x4), some (.inl x5), none, none, none] [] g (f_X9_row_b351 kk312 x1 x2 x4 x5 g) := by
  intro x1 x2 x4 x5 g
  show cb_j _ _ _ _ _ _ _ _ _ _ (if 0 ≤ cb_w x5 ∧ cb_w x5 < (64 : Nat) then (f_X9_row_b385 kk312 x1 x2 (g 10 ((cb_w x5).toNat)) x4 g) else none)
  refine cb_aload_n hok dX9_row_351 rfl ?_
  refine cb_gr hok dX9_row_352 fl_RX9_38 skM_b0 skM_c0 rfl ?_
  refine cb_iload hok dX9_row_355 rfl ?_
  refine cb_iald hok dX9_row_357 skM_b10 skM_c10 ?_
  refine cb_istore_n (ls' := [some (.inr 0), some (.inl x1), some (.inl x2), some (.inl (g 10 ((cb_w x5).toNat))), some (.inl x4), some (.inl x5), none, none, none]) hok dX9_row_358 (by decide) rfl ?_
  refine cb_goto (tgt := 385) hok dX9_row_359 (by decide) ?_
  refine cb_fewer (ls' := [some (.inr 0), some (.inl x1), some (.inl x2), some (.inl (g 10 ((cb_w x5).toNat))), some (.inl x4), none, none, none, none]) ⟨rfl, ⟨rfl, ⟨rfl, ⟨rfl, ⟨rfl, trivial⟩⟩⟩⟩⟩ ?_
  exact J_X9_row_b385 hJ hok hk312 _ _ _ _ _
def f_X9_row_b560 (kk529 : Int → Int → Int → Int → Int → Int → cb_S → Option (Int × cb_S)) (kk394 : Int → Int → Int → cb_S → Option (Int × cb_S)) (x1 x2 x5 x6 x7 x8 s0 s1 : Int) (g : cb_S) : Option (Int × cb_S) := if 0 ≤ cb_w s1 ∧ cb_w s1 < (64 : Nat) then (kk529 x1 x2 x5 x6 x7 (x8 + 1) (cb_u g 10 (cb_w s1).toNat s0)) else none
set_option maxRecDepth 100000 in
theorem J_X9_row_b560 {O : cb_O} {M : cb_M} (hJ : cb_J O skM) (hok : cb_ok O skM M cX9_row 9 RX9 none) {kk529 : Int → Int → Int → Int → Int → Int → cb_S → Option (Int × cb_S)} {kk394 : Int → Int → Int → cb_S → Option (Int × cb_S)} (hk529 : ∀ (x1 x2 x5 x6 x7 x8 : Int) (g : cb_S), cb_j O skM true rm_X9_row M 9 529 [some (.inr 0), some (.inl x1), some (.inl x2), none, none, some (.inl x5), some (.inl x6), some (.inl x7), some (.inl x8)] [] g (kk529 x1 x2 x5 x6 x7 x8 g)) (hk394 : ∀ (x1 x2 x4 : Int) (g : cb_S), cb_j O skM true rm_X9_row M 9 394 [some (.inr 0), some (.inl x1), some (.inl x2), none, some (.inl x4), none, none, none, none] [] g (kk394 x1 x2 x4 g)) : ∀ (x1 x2 x5 x6 x7 x8 s0 s1 : Int) (g : cb_S), cb_j O skM true rm_X9_row M 9 560 [some (.inr 0), some (.inl x1), some (.inl x2), none, none, some (.inl x5), some (.inl x6), some (.inl x7), some (.inl x8)] [.inl s0, .inl s1, .inr 10] g (f_X9_row_b560 kk529 kk394 x1 x2 x5 x6 x7 x8 s0 s1 g) := by
  intro x1 x2 x5 x6 x7 x8 s0 s1 g
  show cb_j _ _ _ _ _ _ _ _ _ _ (if 0 ≤ cb_w s1 ∧ cb_w s1 < (64 : Nat) then (kk529 x1 x2 x5 x6 x7 (x8 + 1) (cb_u g 10 (cb_w s1).toNat s0)) else none)
  refine cb_iast hok dX9_row_560 skM_b10 skM_c10 ?_
  refine cb_iinc (ls' := [some (.inr 0), some (.inl x1), some (.inl x2), none, none, some (.inl x5), some (.inl x6), some (.inl x7), some (.inl (x8 + 1))]) hok dX9_row_561 rfl (by decide) rfl ?_
  refine cb_goto (tgt := 529) hok dX9_row_564 (by decide) ?_
  refine cb_fewer (ls' := [some (.inr 0), some (.inl x1), some (.inl x2), none, none, some (.inl x5), some (.inl x6), some (.inl x7), some (.inl (x8 + 1))]) ⟨rfl, ⟨rfl, ⟨rfl, ⟨rfl, ⟨rfl, ⟨rfl, ⟨rfl, trivial⟩⟩⟩⟩⟩⟩⟩ ?_
  exact hk529 _ _ _ _ _ _ _
def f_X9_row_b573 (kk394 : Int → Int → Int → cb_S → Option (Int × cb_S)) (x1 x2 x4 : Int) (g : cb_S) : Option (Int × cb_S) := kk394 x1 x2 (x4 + 1) g
set_option maxRecDepth 100000 in
theorem J_X9_row_b573 {O : cb_O} {M : cb_M} (hJ : cb_J O skM) (hok : cb_ok O skM M cX9_row 9 RX9 none) {kk394 : Int → Int → Int → cb_S → Option (Int × cb_S)} (hk394 : ∀ (x1 x2 x4 : Int) (g : cb_S), cb_j O skM true rm_X9_row M 9 394 [some (.inr 0), some (.inl x1), some (.inl x2), none, some (.inl x4), none, none, none, none] [] g (kk394 x1 x2 x4 g)) : ∀ (x1 x2 x4 : Int) (g : cb_S), cb_j O skM true rm_X9_row M 9 573 [some (.inr 0), some (.inl x1), some (.inl x2), none, some (.inl x4), none, none, none, none] [] g (f_X9_row_b573 kk394 x1 x2 x4 g) := by
  intro x1 x2 x4 g
  show cb_j _ _ _ _ _ _ _ _ _ _ (kk394 x1 x2 (x4 + 1) g)
  refine cb_iinc (ls' := [some (.inr 0), some (.inl x1), some (.inl x2), none, some (.inl (x4 + 1)), none, none, none, none]) hok dX9_row_573 rfl (by decide) rfl ?_
  refine cb_goto (tgt := 394) hok dX9_row_576 (by decide) ?_
  refine cb_fewer (ls' := [some (.inr 0), some (.inl x1), some (.inl x2), none, some (.inl (x4 + 1)), none, none, none, none]) ⟨rfl, ⟨rfl, ⟨rfl, ⟨rfl, trivial⟩⟩⟩⟩ ?_
  exact hk394 _ _ _ _
def f_X9_row_b529 (kk394 : Int → Int → Int → cb_S → Option (Int × cb_S)) : Nat → Int → Int → Int → Int → Int → Int → cb_S → Option (Int × cb_S)
  | 0 => fun _ _ _ _ _ _ _ => none
  | n + 1 => fun x1 x2 x5 x6 x7 x8 g => if cb_w x5 ≤ cb_w x8 then (f_X9_row_b573 kk394 x1 x2 (x5 - 1) g) else (if 0 ≤ cb_w x8 ∧ cb_w x8 < (64 : Nat) then (if cb_w x6 = cb_w x7 then (f_X9_row_b560 (f_X9_row_b529 kk394 n) kk394 x1 x2 x5 x6 x7 x8 x6 (g 12 ((cb_w x8).toNat)) g) else (f_X9_row_b560 (f_X9_row_b529 kk394 n) kk394 x1 x2 x5 x6 x7 x8 x2 (g 12 ((cb_w x8).toNat)) g)) else none)
set_option maxRecDepth 100000 in
theorem J_X9_row_b529 {O : cb_O} {M : cb_M} (hJ : cb_J O skM) (hok : cb_ok O skM M cX9_row 9 RX9 none) {kk394 : Int → Int → Int → cb_S → Option (Int × cb_S)} (hk394 : ∀ (x1 x2 x4 : Int) (g : cb_S), cb_j O skM true rm_X9_row M 9 394 [some (.inr 0), some (.inl x1), some (.inl x2), none, some (.inl x4), none, none, none, none] [] g (kk394 x1 x2 x4 g)) : ∀ (n : Nat) (x1 x2 x5 x6 x7 x8 : Int) (g : cb_S), cb_j O skM true rm_X9_row M 9 529 [some (.inr 0), some (.inl x1), some (.inl x2), none, none, some (.inl x5), some (.inl x6), some (.inl x7), some (.inl x8)] [] g (f_X9_row_b529 kk394 n x1 x2 x5 x6 x7 x8 g) := by
  intro n
  induction n with
  | zero => intros; exact cb_none
  | succ n hk529 =>
    intro x1 x2 x5 x6 x7 x8 g
    show cb_j _ _ _ _ _ _ _ _ _ _ (if cb_w x5 ≤ cb_w x8 then (f_X9_row_b573 kk394 x1 x2 (x5 - 1) g) else (if 0 ≤ cb_w x8 ∧ cb_w x8 < (64 : Nat) then (if cb_w x6 = cb_w x7 then (f_X9_row_b560 (f_X9_row_b529 kk394 n) kk394 x1 x2 x5 x6 x7 x8 x6 (g 12 ((cb_w x8).toNat)) g) else (f_X9_row_b560 (f_X9_row_b529 kk394 n) kk394 x1 x2 x5 x6 x7 x8 x2 (g 12 ((cb_w x8).toNat)) g)) else none))
    refine cb_iload hok dX9_row_529 rfl ?_
    refine cb_iload hok dX9_row_531 rfl ?_
    refine cb_icge (tgt := 567) hok rfl rfl dX9_row_533 (by decide) (fun _ => ?_) (fun _ => ?_)
    · refine cb_iload hok dX9_row_567 rfl ?_
      refine cb_iconst hok dX9_row_569 ?_
      refine cb_isub hok dX9_row_570 ?_
      refine cb_istore (ls' := [some (.inr 0), some (.inl x1), some (.inl x2), none, some (.inl (x5 - 1)), some (.inl x5), some (.inl x6), some (.inl x7), some (.inl x8)]) hok dX9_row_571 (by decide) rfl ?_
      refine cb_fewer (ls' := [some (.inr 0), some (.inl x1), some (.inl x2), none, some (.inl (x5 - 1)), none, none, none, none]) ⟨rfl, ⟨rfl, ⟨rfl, ⟨rfl, trivial⟩⟩⟩⟩ ?_
      exact J_X9_row_b573 hJ hok hk394 _ _ _ _
    · refine cb_aload_n hok dX9_row_536 rfl ?_
      refine cb_gr hok dX9_row_537 fl_RX9_38 skM_b0 skM_c0 rfl ?_
      refine cb_aload_n hok dX9_row_540 rfl ?_
      refine cb_gr hok dX9_row_541 fl_RX9_44 skM_b0 skM_c0 rfl ?_
      refine cb_iload hok dX9_row_544 rfl ?_
      refine cb_iald hok dX9_row_546 skM_b12 skM_c12 ?_
      refine cb_iload hok dX9_row_547 rfl ?_
      refine cb_iload hok dX9_row_549 rfl ?_
      refine cb_icne (tgt := 559) hok rfl rfl dX9_row_551 (by decide) (fun _ => ?_) (fun _ => ?_)
      · refine cb_iload_n hok dX9_row_559 rfl ?_
        refine cb_fewer (ls' := [some (.inr 0), some (.inl x1), some (.inl x2), none, none, some (.inl x5), some (.inl x6), some (.inl x7), some (.inl x8)]) ⟨rfl, ⟨rfl, ⟨rfl, ⟨rfl, ⟨rfl, ⟨rfl, ⟨rfl, trivial⟩⟩⟩⟩⟩⟩⟩ ?_
        exact J_X9_row_b560 hJ hok hk529 hk394 _ _ _ _ _ _ _ _ _
      · refine cb_iload hok dX9_row_554 rfl ?_
        refine cb_goto (tgt := 560) hok dX9_row_556 (by decide) ?_
        refine cb_fewer (ls' := [some (.inr 0), some (.inl x1), some (.inl x2), none, none, some (.inl x5), some (.inl x6), some (.inl x7), some (.inl x8)]) ⟨rfl, ⟨rfl, ⟨rfl, ⟨rfl, ⟨rfl, ⟨rfl, ⟨rfl, trivial⟩⟩⟩⟩⟩⟩⟩ ?_
        exact J_X9_row_b560 hJ hok hk529 hk394 _ _ _ _ _ _ _ _ _
def f_X9_row_b523 (kk394 : Int → Int → Int → cb_S → Option (Int × cb_S)) (x1 x2 x4 x5 x6 s0 : Int) (g : cb_S) : Option (Int × cb_S) := f_X9_row_b529 kk394 cb_N x1 x2 x5 x6 s0 x4 g
set_option maxRecDepth 100000 in
theorem J_X9_row_b523 {O : cb_O} {M : cb_M} (hJ : cb_J O skM) (hok : cb_ok O skM M cX9_row 9 RX9 none) {kk394 : Int → Int → Int → cb_S → Option (Int × cb_S)} (hk394 : ∀ (x1 x2 x4 : Int) (g : cb_S), cb_j O skM true rm_X9_row M 9 394 [some (.inr 0), some (.inl x1), some (.inl x2), none, some (.inl x4), none, none, none, none] [] g (kk394 x1 x2 x4 g)) : ∀ (x1 x2 x4 x5 x6 s0 : Int) (g : cb_S), cb_j O skM true rm_X9_row M 9 523 [some (.inr 0), some (.inl x1), some (.inl x2), none, some (.inl x4), some (.inl x5), some (.inl x6), none, none] [.inl s0] g (f_X9_row_b523 kk394 x1 x2 x4 x5 x6 s0 g) := by
  intro x1 x2 x4 x5 x6 s0 g
  show cb_j _ _ _ _ _ _ _ _ _ _ (f_X9_row_b529 kk394 cb_N x1 x2 x5 x6 s0 x4 g)
  refine cb_istore (ls' := [some (.inr 0), some (.inl x1), some (.inl x2), none, some (.inl x4), some (.inl x5), some (.inl x6), some (.inl s0), none]) hok dX9_row_523 (by decide) rfl ?_
  refine cb_iload hok dX9_row_525 rfl ?_
  refine cb_istore (ls' := [some (.inr 0), some (.inl x1), some (.inl x2), none, some (.inl x4), some (.inl x5), some (.inl x6), some (.inl s0), some (.inl x4)]) hok dX9_row_527 (by decide) rfl ?_
  refine cb_fewer (ls' := [some (.inr 0), some (.inl x1), some (.inl x2), none, none, some (.inl x5), some (.inl x6), some (.inl s0), some (.inl x4)]) ⟨rfl, ⟨rfl, ⟨rfl, ⟨rfl, ⟨rfl, ⟨rfl, ⟨rfl, trivial⟩⟩⟩⟩⟩⟩⟩ ?_
  exact J_X9_row_b529 hJ hok hk394 cb_N _ _ _ _ _ _ _
def f_X9_row_b488 (kk394 : Int → Int → Int → cb_S → Option (Int × cb_S)) (x1 x2 x4 x5 s0 : Int) (g : cb_S) : Option (Int × cb_S) := if cb_w x5 = cb_w (g 0 18) then (f_X9_row_b523 kk394 x1 x2 x4 x5 s0 x2 g) else (if 0 ≤ cb_w x5 ∧ cb_w x5 < (64 : Nat) then (if 0 ≤ cb_w (g 12 ((cb_w x5).toNat)) ∧ cb_w (g 12 ((cb_w x5).toNat)) < (64 : Nat) then (if cb_w (g 10 ((cb_w (g 12 ((cb_w x5).toNat))).toNat)) = 0 then (f_X9_row_b523 kk394 x1 x2 x4 x5 s0 0 g) else (f_X9_row_b523 kk394 x1 x2 x4 x5 s0 1 g)) else none) else none)
set_option maxRecDepth 100000 in
theorem J_X9_row_b488 {O : cb_O} {M : cb_M} (hJ : cb_J O skM) (hok : cb_ok O skM M cX9_row 9 RX9 none) {kk394 : Int → Int → Int → cb_S → Option (Int × cb_S)} (hk394 : ∀ (x1 x2 x4 : Int) (g : cb_S), cb_j O skM true rm_X9_row M 9 394 [some (.inr 0), some (.inl x1), some (.inl x2), none, some (.inl x4), none, none, none, none] [] g (kk394 x1 x2 x4 g)) : ∀ (x1 x2 x4 x5 s0 : Int) (g : cb_S), cb_j O skM true rm_X9_row M 9 488 [some (.inr 0), some (.inl x1), some (.inl x2), none, some (.inl x4), some (.inl x5), none, none, none] [.inl s0] g (f_X9_row_b488 kk394 x1 x2 x4 x5 s0 g) := by
  intro x1 x2 x4 x5 s0 g
  show cb_j _ _ _ _ _ _ _ _ _ _ (if cb_w x5 = cb_w (g 0 18) then (f_X9_row_b523 kk394 x1 x2 x4 x5 s0 x2 g) else (if 0 ≤ cb_w x5 ∧ cb_w x5 < (64 : Nat) then (if 0 ≤ cb_w (g 12 ((cb_w x5).toNat)) ∧ cb_w (g 12 ((cb_w x5).toNat)) < (64 : Nat) then (if cb_w (g 10 ((cb_w (g 12 ((cb_w x5).toNat))).toNat)) = 0 then (f_X9_row_b523 kk394 x1 x2 x4 x5 s0 0 g) else (f_X9_row_b523 kk394 x1 x2 x4 x5 s0 1 g)) else none) else none))
  refine cb_istore (ls' := [some (.inr 0), some (.inl x1), some (.inl x2), none, some (.inl x4), some (.inl x5), some (.inl s0), none, none]) hok dX9_row_488 (by decide) rfl ?_
  refine cb_iload hok dX9_row_490 rfl ?_
  refine cb_aload_n hok dX9_row_492 rfl ?_
  refine cb_gi hok dX9_row_493 fl_RX9_119 skM_b0 skM_c0 rfl ?_
  refine cb_icne (tgt := 503) hok rfl rfl dX9_row_496 (by decide) (fun _ => ?_) (fun _ => ?_)
  · refine cb_aload_n hok dX9_row_503 rfl ?_
    refine cb_gr hok dX9_row_504 fl_RX9_38 skM_b0 skM_c0 rfl ?_
    refine cb_aload_n hok dX9_row_507 rfl ?_
    refine cb_gr hok dX9_row_508 fl_RX9_44 skM_b0 skM_c0 rfl ?_
    refine cb_iload hok dX9_row_511 rfl ?_
    refine cb_iald hok dX9_row_513 skM_b12 skM_c12 ?_
    refine cb_iald hok dX9_row_514 skM_b10 skM_c10 ?_
    refine cb_ifne (tgt := 522) hok rfl dX9_row_515 (by decide) (fun _ => ?_) (fun _ => ?_)
    · refine cb_iconst hok dX9_row_522 ?_
      refine cb_fewer (ls' := [some (.inr 0), some (.inl x1), some (.inl x2), none, some (.inl x4), some (.inl x5), some (.inl s0), none, none]) ⟨rfl, ⟨rfl, ⟨rfl, ⟨rfl, ⟨rfl, ⟨rfl, trivial⟩⟩⟩⟩⟩⟩ ?_
      exact J_X9_row_b523 hJ hok hk394 _ _ _ _ _ _ _
    · refine cb_iconst hok dX9_row_518 ?_
      refine cb_goto (tgt := 523) hok dX9_row_519 (by decide) ?_
      refine cb_fewer (ls' := [some (.inr 0), some (.inl x1), some (.inl x2), none, some (.inl x4), some (.inl x5), some (.inl s0), none, none]) ⟨rfl, ⟨rfl, ⟨rfl, ⟨rfl, ⟨rfl, ⟨rfl, trivial⟩⟩⟩⟩⟩⟩ ?_
      exact J_X9_row_b523 hJ hok hk394 _ _ _ _ _ _ _
  · refine cb_iload_n hok dX9_row_499 rfl ?_
    refine cb_goto (tgt := 523) hok dX9_row_500 (by decide) ?_
    refine cb_fewer (ls' := [some (.inr 0), some (.inl x1), some (.inl x2), none, some (.inl x4), some (.inl x5), some (.inl s0), none, none]) ⟨rfl, ⟨rfl, ⟨rfl, ⟨rfl, ⟨rfl, ⟨rfl, trivial⟩⟩⟩⟩⟩⟩ ?_
    exact J_X9_row_b523 hJ hok hk394 _ _ _ _ _ _ _
def f_X9_row_b457 (kk394 : Int → Int → Int → cb_S → Option (Int × cb_S)) (x1 x2 x4 x5 : Int) (g : cb_S) : Option (Int × cb_S) := if cb_w x4 = 0 then (f_X9_row_b488 kk394 x1 x2 x4 x5 x2 g) else (if 0 ≤ cb_w (x4 - 1) ∧ cb_w (x4 - 1) < (64 : Nat) then (if 0 ≤ cb_w (g 12 ((cb_w (x4 - 1)).toNat)) ∧ cb_w (g 12 ((cb_w (x4 - 1)).toNat)) < (64 : Nat) then (if cb_w (g 10 ((cb_w (g 12 ((cb_w (x4 - 1)).toNat))).toNat)) = 0 then (f_X9_row_b488 kk394 x1 x2 x4 x5 0 g) else (f_X9_row_b488 kk394 x1 x2 x4 x5 1 g)) else none) else none)
set_option maxRecDepth 100000 in
theorem J_X9_row_b457 {O : cb_O} {M : cb_M} (hJ : cb_J O skM) (hok : cb_ok O skM M cX9_row 9 RX9 none) {kk394 : Int → Int → Int → cb_S → Option (Int × cb_S)} (hk394 : ∀ (x1 x2 x4 : Int) (g : cb_S), cb_j O skM true rm_X9_row M 9 394 [some (.inr 0), some (.inl x1), some (.inl x2), none, some (.inl x4), none, none, none, none] [] g (kk394 x1 x2 x4 g)) : ∀ (x1 x2 x4 x5 : Int) (g : cb_S), cb_j O skM true rm_X9_row M 9 457 [some (.inr 0), some (.inl x1), some (.inl x2), none, some (.inl x4), some (.inl x5), none, none, none] [] g (f_X9_row_b457 kk394 x1 x2 x4 x5 g) := by
  intro x1 x2 x4 x5 g
  show cb_j _ _ _ _ _ _ _ _ _ _ (if cb_w x4 = 0 then (f_X9_row_b488 kk394 x1 x2 x4 x5 x2 g) else (if 0 ≤ cb_w (x4 - 1) ∧ cb_w (x4 - 1) < (64 : Nat) then (if 0 ≤ cb_w (g 12 ((cb_w (x4 - 1)).toNat)) ∧ cb_w (g 12 ((cb_w (x4 - 1)).toNat)) < (64 : Nat) then (if cb_w (g 10 ((cb_w (g 12 ((cb_w (x4 - 1)).toNat))).toNat)) = 0 then (f_X9_row_b488 kk394 x1 x2 x4 x5 0 g) else (f_X9_row_b488 kk394 x1 x2 x4 x5 1 g)) else none) else none))
  refine cb_iload hok dX9_row_457 rfl ?_
  refine cb_ifne (tgt := 466) hok rfl dX9_row_459 (by decide) (fun _ => ?_) (fun _ => ?_)
  · refine cb_aload_n hok dX9_row_466 rfl ?_
    refine cb_gr hok dX9_row_467 fl_RX9_38 skM_b0 skM_c0 rfl ?_
    refine cb_aload_n hok dX9_row_470 rfl ?_
    refine cb_gr hok dX9_row_471 fl_RX9_44 skM_b0 skM_c0 rfl ?_
    refine cb_iload hok dX9_row_474 rfl ?_
    refine cb_iconst hok dX9_row_476 ?_
    refine cb_isub hok dX9_row_477 ?_
    refine cb_iald hok dX9_row_478 skM_b12 skM_c12 ?_
    refine cb_iald hok dX9_row_479 skM_b10 skM_c10 ?_
    refine cb_ifne (tgt := 487) hok rfl dX9_row_480 (by decide) (fun _ => ?_) (fun _ => ?_)
    · refine cb_iconst hok dX9_row_487 ?_
      refine cb_fewer (ls' := [some (.inr 0), some (.inl x1), some (.inl x2), none, some (.inl x4), some (.inl x5), none, none, none]) ⟨rfl, ⟨rfl, ⟨rfl, ⟨rfl, ⟨rfl, trivial⟩⟩⟩⟩⟩ ?_
      exact J_X9_row_b488 hJ hok hk394 _ _ _ _ _ _
    · refine cb_iconst hok dX9_row_483 ?_
      refine cb_goto (tgt := 488) hok dX9_row_484 (by decide) ?_
      refine cb_fewer (ls' := [some (.inr 0), some (.inl x1), some (.inl x2), none, some (.inl x4), some (.inl x5), none, none, none]) ⟨rfl, ⟨rfl, ⟨rfl, ⟨rfl, ⟨rfl, trivial⟩⟩⟩⟩⟩ ?_
      exact J_X9_row_b488 hJ hok hk394 _ _ _ _ _ _
  · refine cb_iload_n hok dX9_row_462 rfl ?_
    refine cb_goto (tgt := 488) hok dX9_row_463 (by decide) ?_
    refine cb_fewer (ls' := [some (.inr 0), some (.inl x1), some (.inl x2), none, some (.inl x4), some (.inl x5), none, none, none]) ⟨rfl, ⟨rfl, ⟨rfl, ⟨rfl, ⟨rfl, trivial⟩⟩⟩⟩⟩ ?_
    exact J_X9_row_b488 hJ hok hk394 _ _ _ _ _ _
def f_X9_row_b426 (kk394 : Int → Int → Int → cb_S → Option (Int × cb_S)) : Nat → Int → Int → Int → Int → cb_S → Option (Int × cb_S)
  | 0 => fun _ _ _ _ _ => none
  | n + 1 => fun x1 x2 x4 x5 g => if cb_w (g 0 18) ≤ cb_w x5 then (f_X9_row_b457 kk394 x1 x2 x4 x5 g) else (if 0 ≤ cb_w x5 ∧ cb_w x5 < (64 : Nat) then (if 0 ≤ cb_w (g 12 ((cb_w x5).toNat)) ∧ cb_w (g 12 ((cb_w x5).toNat)) < (64 : Nat) then (if cb_w (g 10 ((cb_w (g 12 ((cb_w x5).toNat))).toNat)) = 5 then ((f_X9_row_b426 kk394 n) x1 x2 x4 (x5 + 1) g) else (f_X9_row_b457 kk394 x1 x2 x4 x5 g)) else none) else none)
set_option maxRecDepth 100000 in
theorem J_X9_row_b426 {O : cb_O} {M : cb_M} (hJ : cb_J O skM) (hok : cb_ok O skM M cX9_row 9 RX9 none) {kk394 : Int → Int → Int → cb_S → Option (Int × cb_S)} (hk394 : ∀ (x1 x2 x4 : Int) (g : cb_S), cb_j O skM true rm_X9_row M 9 394 [some (.inr 0), some (.inl x1), some (.inl x2), none, some (.inl x4), none, none, none, none] [] g (kk394 x1 x2 x4 g)) : ∀ (n : Nat) (x1 x2 x4 x5 : Int) (g : cb_S), cb_j O skM true rm_X9_row M 9 426 [some (.inr 0), some (.inl x1), some (.inl x2), none, some (.inl x4), some (.inl x5), none, none, none] [] g (f_X9_row_b426 kk394 n x1 x2 x4 x5 g) := by
  intro n
  induction n with
  | zero => intros; exact cb_none
  | succ n hk426 =>
    intro x1 x2 x4 x5 g
    show cb_j _ _ _ _ _ _ _ _ _ _ (if cb_w (g 0 18) ≤ cb_w x5 then (f_X9_row_b457 kk394 x1 x2 x4 x5 g) else (if 0 ≤ cb_w x5 ∧ cb_w x5 < (64 : Nat) then (if 0 ≤ cb_w (g 12 ((cb_w x5).toNat)) ∧ cb_w (g 12 ((cb_w x5).toNat)) < (64 : Nat) then (if cb_w (g 10 ((cb_w (g 12 ((cb_w x5).toNat))).toNat)) = 5 then ((f_X9_row_b426 kk394 n) x1 x2 x4 (x5 + 1) g) else (f_X9_row_b457 kk394 x1 x2 x4 x5 g)) else none) else none))
    refine cb_iload hok dX9_row_426 rfl ?_
    refine cb_aload_n hok dX9_row_428 rfl ?_
    refine cb_gi hok dX9_row_429 fl_RX9_119 skM_b0 skM_c0 rfl ?_
    refine cb_icge (tgt := 457) hok rfl rfl dX9_row_432 (by decide) (fun _ => ?_) (fun _ => ?_)
    · refine cb_fewer (ls' := [some (.inr 0), some (.inl x1), some (.inl x2), none, some (.inl x4), some (.inl x5), none, none, none]) ⟨rfl, ⟨rfl, ⟨rfl, ⟨rfl, ⟨rfl, trivial⟩⟩⟩⟩⟩ ?_
      exact J_X9_row_b457 hJ hok hk394 _ _ _ _ _
    · refine cb_aload_n hok dX9_row_435 rfl ?_
      refine cb_gr hok dX9_row_436 fl_RX9_38 skM_b0 skM_c0 rfl ?_
      refine cb_aload_n hok dX9_row_439 rfl ?_
      refine cb_gr hok dX9_row_440 fl_RX9_44 skM_b0 skM_c0 rfl ?_
      refine cb_iload hok dX9_row_443 rfl ?_
      refine cb_iald hok dX9_row_445 skM_b12 skM_c12 ?_
      refine cb_iald hok dX9_row_446 skM_b10 skM_c10 ?_
      refine cb_iconst hok dX9_row_447 ?_
      refine cb_icne (tgt := 457) hok rfl (by decide) dX9_row_448 (by decide) (fun _ => ?_) (fun _ => ?_)
      · refine cb_fewer (ls' := [some (.inr 0), some (.inl x1), some (.inl x2), none, some (.inl x4), some (.inl x5), none, none, none]) ⟨rfl, ⟨rfl, ⟨rfl, ⟨rfl, ⟨rfl, trivial⟩⟩⟩⟩⟩ ?_
        exact J_X9_row_b457 hJ hok hk394 _ _ _ _ _
      · refine cb_iinc (ls' := [some (.inr 0), some (.inl x1), some (.inl x2), none, some (.inl x4), some (.inl (x5 + 1)), none, none, none]) hok dX9_row_451 rfl (by decide) rfl ?_
        refine cb_goto (tgt := 426) hok dX9_row_454 (by decide) ?_
        refine cb_fewer (ls' := [some (.inr 0), some (.inl x1), some (.inl x2), none, some (.inl x4), some (.inl (x5 + 1)), none, none, none]) ⟨rfl, ⟨rfl, ⟨rfl, ⟨rfl, ⟨rfl, trivial⟩⟩⟩⟩⟩ ?_
        exact hk426 _ _ _ _ _
def f_X9_row_b659 (kk582 : Int → Int → Int → cb_S → Option (Int × cb_S)) (x1 x2 x4 s0 s1 s2 : Int) (g : cb_S) : Option (Int × cb_S) := if 0 ≤ cb_w s2 ∧ cb_w s2 < (64 : Nat) then (kk582 x1 x2 (x4 + 1) (cb_u g 11 (cb_w s2).toNat (s1 + s0))) else none
set_option maxRecDepth 100000 in
theorem J_X9_row_b659 {O : cb_O} {M : cb_M} (hJ : cb_J O skM) (hok : cb_ok O skM M cX9_row 9 RX9 none) {kk582 : Int → Int → Int → cb_S → Option (Int × cb_S)} (hk582 : ∀ (x1 x2 x4 : Int) (g : cb_S), cb_j O skM true rm_X9_row M 9 582 [some (.inr 0), some (.inl x1), some (.inl x2), none, some (.inl x4), none, none, none, none] [] g (kk582 x1 x2 x4 g)) : ∀ (x1 x2 x4 s0 s1 s2 : Int) (g : cb_S), cb_j O skM true rm_X9_row M 9 659 [some (.inr 0), some (.inl x1), some (.inl x2), none, some (.inl x4), none, none, none, none] [.inl s0, .inl s1, .inl s2, .inr 11] g (f_X9_row_b659 kk582 x1 x2 x4 s0 s1 s2 g) := by
  intro x1 x2 x4 s0 s1 s2 g
  show cb_j _ _ _ _ _ _ _ _ _ _ (if 0 ≤ cb_w s2 ∧ cb_w s2 < (64 : Nat) then (kk582 x1 x2 (x4 + 1) (cb_u g 11 (cb_w s2).toNat (s1 + s0))) else none)
  refine cb_iadd hok dX9_row_659 ?_
  refine cb_iast hok dX9_row_660 skM_b11 skM_c11 ?_
  refine cb_iinc (ls' := [some (.inr 0), some (.inl x1), some (.inl x2), none, some (.inl (x4 + 1)), none, none, none, none]) hok dX9_row_661 rfl (by decide) rfl ?_
  refine cb_goto (tgt := 582) hok dX9_row_664 (by decide) ?_
  refine cb_fewer (ls' := [some (.inr 0), some (.inl x1), some (.inl x2), none, some (.inl (x4 + 1)), none, none, none, none]) ⟨rfl, ⟨rfl, ⟨rfl, ⟨rfl, trivial⟩⟩⟩⟩ ?_
  exact hk582 _ _ _ _
def f_X9_row_b582 : Nat → Int → Int → Int → cb_S → Option (Int × cb_S)
  | 0 => fun _ _ _ _ => none
  | n + 1 => fun x1 x2 x4 g => if cb_w (g 0 18) ≤ cb_w x4 then (some (0, g)) else (if 0 ≤ cb_w x4 ∧ cb_w x4 < (64 : Nat) then (if 0 ≤ cb_w (g 12 ((cb_w x4).toNat)) ∧ cb_w (g 12 ((cb_w x4).toNat)) < (64 : Nat) then (if 0 ≤ cb_w x1 ∧ cb_w x1 < (64 : Nat) then (if cb_w x2 = 0 then (if cb_w (g 10 ((cb_w (g 12 ((cb_w x4).toNat))).toNat)) = 0 then (f_X9_row_b659 (f_X9_row_b582 n) x1 x2 x4 0 (g 7 ((cb_w x1).toNat)) (g 12 ((cb_w x4).toNat)) g) else (if cb_w (g 10 ((cb_w (g 12 ((cb_w x4).toNat))).toNat)) = 1 then (f_X9_row_b659 (f_X9_row_b582 n) x1 x2 x4 1 (g 7 ((cb_w x1).toNat)) (g 12 ((cb_w x4).toNat)) g) else (f_X9_row_b659 (f_X9_row_b582 n) x1 x2 x4 2 (g 7 ((cb_w x1).toNat)) (g 12 ((cb_w x4).toNat)) g))) else (if cb_w (g 10 ((cb_w (g 12 ((cb_w x4).toNat))).toNat)) = 1 then (f_X9_row_b659 (f_X9_row_b582 n) x1 x2 x4 0 (g 7 ((cb_w x1).toNat)) (g 12 ((cb_w x4).toNat)) g) else (f_X9_row_b659 (f_X9_row_b582 n) x1 x2 x4 1 (g 7 ((cb_w x1).toNat)) (g 12 ((cb_w x4).toNat)) g))) else none) else none) else none)
set_option maxRecDepth 100000 in
theorem J_X9_row_b582 {O : cb_O} {M : cb_M} (hJ : cb_J O skM) (hok : cb_ok O skM M cX9_row 9 RX9 none) : ∀ (n : Nat) (x1 x2 x4 : Int) (g : cb_S), cb_j O skM true rm_X9_row M 9 582 [some (.inr 0), some (.inl x1), some (.inl x2), none, some (.inl x4), none, none, none, none] [] g (f_X9_row_b582 n x1 x2 x4 g) := by
  intro n
  induction n with
  | zero => intros; exact cb_none
  | succ n hk582 =>
    intro x1 x2 x4 g
    show cb_j _ _ _ _ _ _ _ _ _ _ (if cb_w (g 0 18) ≤ cb_w x4 then (some (0, g)) else (if 0 ≤ cb_w x4 ∧ cb_w x4 < (64 : Nat) then (if 0 ≤ cb_w (g 12 ((cb_w x4).toNat)) ∧ cb_w (g 12 ((cb_w x4).toNat)) < (64 : Nat) then (if 0 ≤ cb_w x1 ∧ cb_w x1 < (64 : Nat) then (if cb_w x2 = 0 then (if cb_w (g 10 ((cb_w (g 12 ((cb_w x4).toNat))).toNat)) = 0 then (f_X9_row_b659 (f_X9_row_b582 n) x1 x2 x4 0 (g 7 ((cb_w x1).toNat)) (g 12 ((cb_w x4).toNat)) g) else (if cb_w (g 10 ((cb_w (g 12 ((cb_w x4).toNat))).toNat)) = 1 then (f_X9_row_b659 (f_X9_row_b582 n) x1 x2 x4 1 (g 7 ((cb_w x1).toNat)) (g 12 ((cb_w x4).toNat)) g) else (f_X9_row_b659 (f_X9_row_b582 n) x1 x2 x4 2 (g 7 ((cb_w x1).toNat)) (g 12 ((cb_w x4).toNat)) g))) else (if cb_w (g 10 ((cb_w (g 12 ((cb_w x4).toNat))).toNat)) = 1 then (f_X9_row_b659 (f_X9_row_b582 n) x1 x2 x4 0 (g 7 ((cb_w x1).toNat)) (g 12 ((cb_w x4).toNat)) g) else (f_X9_row_b659 (f_X9_row_b582 n) x1 x2 x4 1 (g 7 ((cb_w x1).toNat)) (g 12 ((cb_w x4).toNat)) g))) else none) else none) else none))
    refine cb_iload hok dX9_row_582 rfl ?_
    refine cb_aload_n hok dX9_row_584 rfl ?_
    refine cb_gi hok dX9_row_585 fl_RX9_119 skM_b0 skM_c0 rfl ?_
    refine cb_icge (tgt := 667) hok rfl rfl dX9_row_588 (by decide) (fun _ => ?_) (fun _ => ?_)
    · exact cb_vret hok dX9_row_667
    · refine cb_aload_n hok dX9_row_591 rfl ?_
      refine cb_gr hok dX9_row_592 fl_RX9_44 skM_b0 skM_c0 rfl ?_
      refine cb_iload hok dX9_row_595 rfl ?_
      refine cb_iald hok dX9_row_597 skM_b12 skM_c12 ?_
      refine cb_istore (ls' := [some (.inr 0), some (.inl x1), some (.inl x2), none, some (.inl x4), some (.inl (g 12 ((cb_w x4).toNat))), none, none, none]) hok dX9_row_598 (by decide) rfl ?_
      refine cb_aload_n hok dX9_row_600 rfl ?_
      refine cb_gr hok dX9_row_601 fl_RX9_38 skM_b0 skM_c0 rfl ?_
      refine cb_iload hok dX9_row_604 rfl ?_
      refine cb_iald hok dX9_row_606 skM_b10 skM_c10 ?_
      refine cb_istore (ls' := [some (.inr 0), some (.inl x1), some (.inl x2), none, some (.inl x4), some (.inl (g 12 ((cb_w x4).toNat))), some (.inl (g 10 ((cb_w (g 12 ((cb_w x4).toNat))).toNat))), none, none]) hok dX9_row_607 (by decide) rfl ?_
      refine cb_aload_n hok dX9_row_609 rfl ?_
      refine cb_gr hok dX9_row_610 fl_RX9_41 skM_b0 skM_c0 rfl ?_
      refine cb_iload hok dX9_row_613 rfl ?_
      refine cb_aload_n hok dX9_row_615 rfl ?_
      refine cb_gr hok dX9_row_616 fl_RX9_28 skM_b0 skM_c0 rfl ?_
      refine cb_iload_n hok dX9_row_619 rfl ?_
      refine cb_iald hok dX9_row_620 skM_b7 skM_c7 ?_
      refine cb_iload_n hok dX9_row_621 rfl ?_
      refine cb_ifne (tgt := 648) hok rfl dX9_row_622 (by decide) (fun _ => ?_) (fun _ => ?_)
      · refine cb_iload hok dX9_row_648 rfl ?_
        refine cb_iconst hok dX9_row_650 ?_
        refine cb_icne (tgt := 658) hok rfl (by decide) dX9_row_651 (by decide) (fun _ => ?_) (fun _ => ?_)
        · refine cb_iconst hok dX9_row_658 ?_
          refine cb_fewer (ls' := [some (.inr 0), some (.inl x1), some (.inl x2), none, some (.inl x4), none, none, none, none]) ⟨rfl, ⟨rfl, ⟨rfl, ⟨rfl, trivial⟩⟩⟩⟩ ?_
          exact J_X9_row_b659 hJ hok hk582 _ _ _ _ _ _ _
        · refine cb_iconst hok dX9_row_654 ?_
          refine cb_goto (tgt := 659) hok dX9_row_655 (by decide) ?_
          refine cb_fewer (ls' := [some (.inr 0), some (.inl x1), some (.inl x2), none, some (.inl x4), none, none, none, none]) ⟨rfl, ⟨rfl, ⟨rfl, ⟨rfl, trivial⟩⟩⟩⟩ ?_
          exact J_X9_row_b659 hJ hok hk582 _ _ _ _ _ _ _
      · refine cb_iload hok dX9_row_625 rfl ?_
        refine cb_ifne (tgt := 634) hok rfl dX9_row_627 (by decide) (fun _ => ?_) (fun _ => ?_)
        · refine cb_iload hok dX9_row_634 rfl ?_
          refine cb_iconst hok dX9_row_636 ?_
          refine cb_icne (tgt := 644) hok rfl (by decide) dX9_row_637 (by decide) (fun _ => ?_) (fun _ => ?_)
          · refine cb_iconst hok dX9_row_644 ?_
            refine cb_goto (tgt := 659) hok dX9_row_645 (by decide) ?_
            refine cb_fewer (ls' := [some (.inr 0), some (.inl x1), some (.inl x2), none, some (.inl x4), none, none, none, none]) ⟨rfl, ⟨rfl, ⟨rfl, ⟨rfl, trivial⟩⟩⟩⟩ ?_
            exact J_X9_row_b659 hJ hok hk582 _ _ _ _ _ _ _
          · refine cb_iconst hok dX9_row_640 ?_
            refine cb_goto (tgt := 659) hok dX9_row_641 (by decide) ?_
            refine cb_fewer (ls' := [some (.inr 0), some (.inl x1), some (.inl x2), none, some (.inl x4), none, none, none, none]) ⟨rfl, ⟨rfl, ⟨rfl, ⟨rfl, trivial⟩⟩⟩⟩ ?_
            exact J_X9_row_b659 hJ hok hk582 _ _ _ _ _ _ _
        · refine cb_iconst hok dX9_row_630 ?_
          refine cb_goto (tgt := 659) hok dX9_row_631 (by decide) ?_
          refine cb_fewer (ls' := [some (.inr 0), some (.inl x1), some (.inl x2), none, some (.inl x4), none, none, none, none]) ⟨rfl, ⟨rfl, ⟨rfl, ⟨rfl, trivial⟩⟩⟩⟩ ?_
          exact J_X9_row_b659 hJ hok hk582 _ _ _ _ _ _ _
def f_X9_row_b394 : Nat → Int → Int → Int → cb_S → Option (Int × cb_S)
  | 0 => fun _ _ _ _ => none
  | n + 1 => fun x1 x2 x4 g => if cb_w (g 0 18) ≤ cb_w x4 then (f_X9_row_b582  cb_N x1 x2 0 g) else (if 0 ≤ cb_w x4 ∧ cb_w x4 < (64 : Nat) then (if 0 ≤ cb_w (g 12 ((cb_w x4).toNat)) ∧ cb_w (g 12 ((cb_w x4).toNat)) < (64 : Nat) then (if cb_w (g 10 ((cb_w (g 12 ((cb_w x4).toNat))).toNat)) = 5 then (f_X9_row_b426 (f_X9_row_b394 n) cb_N x1 x2 x4 x4 g) else (f_X9_row_b573 (f_X9_row_b394 n) x1 x2 x4 g)) else none) else none)
set_option maxRecDepth 100000 in
theorem J_X9_row_b394 {O : cb_O} {M : cb_M} (hJ : cb_J O skM) (hok : cb_ok O skM M cX9_row 9 RX9 none) : ∀ (n : Nat) (x1 x2 x4 : Int) (g : cb_S), cb_j O skM true rm_X9_row M 9 394 [some (.inr 0), some (.inl x1), some (.inl x2), none, some (.inl x4), none, none, none, none] [] g (f_X9_row_b394 n x1 x2 x4 g) := by
  intro n
  induction n with
  | zero => intros; exact cb_none
  | succ n hk394 =>
    intro x1 x2 x4 g
    show cb_j _ _ _ _ _ _ _ _ _ _ (if cb_w (g 0 18) ≤ cb_w x4 then (f_X9_row_b582  cb_N x1 x2 0 g) else (if 0 ≤ cb_w x4 ∧ cb_w x4 < (64 : Nat) then (if 0 ≤ cb_w (g 12 ((cb_w x4).toNat)) ∧ cb_w (g 12 ((cb_w x4).toNat)) < (64 : Nat) then (if cb_w (g 10 ((cb_w (g 12 ((cb_w x4).toNat))).toNat)) = 5 then (f_X9_row_b426 (f_X9_row_b394 n) cb_N x1 x2 x4 x4 g) else (f_X9_row_b573 (f_X9_row_b394 n) x1 x2 x4 g)) else none) else none))
    refine cb_iload hok dX9_row_394 rfl ?_
    refine cb_aload_n hok dX9_row_396 rfl ?_
    refine cb_gi hok dX9_row_397 fl_RX9_119 skM_b0 skM_c0 rfl ?_
    refine cb_icge (tgt := 579) hok rfl rfl dX9_row_400 (by decide) (fun _ => ?_) (fun _ => ?_)
    · refine cb_iconst hok dX9_row_579 ?_
      refine cb_istore (ls' := [some (.inr 0), some (.inl x1), some (.inl x2), none, some (.inl 0), none, none, none, none]) hok dX9_row_580 (by decide) rfl ?_
      refine cb_fewer (ls' := [some (.inr 0), some (.inl x1), some (.inl x2), none, some (.inl 0), none, none, none, none]) ⟨rfl, ⟨rfl, ⟨rfl, ⟨rfl, trivial⟩⟩⟩⟩ ?_
      exact J_X9_row_b582 hJ hok  cb_N _ _ _ _
    · refine cb_aload_n hok dX9_row_403 rfl ?_
      refine cb_gr hok dX9_row_404 fl_RX9_38 skM_b0 skM_c0 rfl ?_
      refine cb_aload_n hok dX9_row_407 rfl ?_
      refine cb_gr hok dX9_row_408 fl_RX9_44 skM_b0 skM_c0 rfl ?_
      refine cb_iload hok dX9_row_411 rfl ?_
      refine cb_iald hok dX9_row_413 skM_b12 skM_c12 ?_
      refine cb_iald hok dX9_row_414 skM_b10 skM_c10 ?_
      refine cb_iconst hok dX9_row_415 ?_
      refine cb_iceq (tgt := 422) hok rfl (by decide) dX9_row_416 (by decide) (fun _ => ?_) (fun _ => ?_)
      · refine cb_iload hok dX9_row_422 rfl ?_
        refine cb_istore (ls' := [some (.inr 0), some (.inl x1), some (.inl x2), none, some (.inl x4), some (.inl x4), none, none, none]) hok dX9_row_424 (by decide) rfl ?_
        refine cb_fewer (ls' := [some (.inr 0), some (.inl x1), some (.inl x2), none, some (.inl x4), some (.inl x4), none, none, none]) ⟨rfl, ⟨rfl, ⟨rfl, ⟨rfl, ⟨rfl, trivial⟩⟩⟩⟩⟩ ?_
        exact J_X9_row_b426 hJ hok hk394 cb_N _ _ _ _ _
      · refine cb_goto (tgt := 573) hok dX9_row_419 (by decide) ?_
        refine cb_fewer (ls' := [some (.inr 0), some (.inl x1), some (.inl x2), none, some (.inl x4), none, none, none, none]) ⟨rfl, ⟨rfl, ⟨rfl, ⟨rfl, trivial⟩⟩⟩⟩ ?_
        exact J_X9_row_b573 hJ hok hk394 _ _ _ _
def f_X9_row_b312 : Nat → Int → Int → Int → Int → cb_S → Option (Int × cb_S)
  | 0 => fun _ _ _ _ _ => none
  | n + 1 => fun x1 x2 x3 x4 g => if cb_w (g 0 18) ≤ cb_w x4 then (f_X9_row_b394  cb_N x1 x2 0 g) else (if 0 ≤ cb_w x4 ∧ cb_w x4 < (64 : Nat) then (if 0 ≤ cb_w (g 12 ((cb_w x4).toNat)) ∧ cb_w (g 12 ((cb_w x4).toNat)) < (64 : Nat) then (if cb_w (g 10 ((cb_w (g 12 ((cb_w x4).toNat))).toNat)) = 0 then (f_X9_row_b351 (f_X9_row_b312 n) x1 x2 x4 (g 12 ((cb_w x4).toNat)) g) else (if 0 ≤ cb_w (g 12 ((cb_w x4).toNat)) ∧ cb_w (g 12 ((cb_w x4).toNat)) < (64 : Nat) then (if cb_w (g 10 ((cb_w (g 12 ((cb_w x4).toNat))).toNat)) = 1 then (f_X9_row_b351 (f_X9_row_b312 n) x1 x2 x4 (g 12 ((cb_w x4).toNat)) g) else (if 0 ≤ cb_w (g 12 ((cb_w x4).toNat)) ∧ cb_w (g 12 ((cb_w x4).toNat)) < (64 : Nat) then (if cb_w (g 10 ((cb_w (g 12 ((cb_w x4).toNat))).toNat)) = 2 then (if cb_w x3 = 0 then (if 0 ≤ cb_w (g 12 ((cb_w x4).toNat)) ∧ cb_w (g 12 ((cb_w x4).toNat)) < (64 : Nat) then (f_X9_row_b385 (f_X9_row_b312 n) x1 x2 x3 x4 (cb_u g 10 (cb_w (g 12 ((cb_w x4).toNat))).toNat 0)) else none) else (f_X9_row_b385 (f_X9_row_b312 n) x1 x2 x3 x4 g)) else (f_X9_row_b385 (f_X9_row_b312 n) x1 x2 x3 x4 g)) else none)) else none)) else none) else none)
set_option maxRecDepth 100000 in
theorem J_X9_row_b312 {O : cb_O} {M : cb_M} (hJ : cb_J O skM) (hok : cb_ok O skM M cX9_row 9 RX9 none) : ∀ (n : Nat) (x1 x2 x3 x4 : Int) (g : cb_S), cb_j O skM true rm_X9_row M 9 312 [some (.inr 0), some (.inl x1), some (.inl x2), some (.inl x3), some (.inl x4), none, none, none, none] [] g (f_X9_row_b312 n x1 x2 x3 x4 g) := by
  intro n
  induction n with
  | zero => intros; exact cb_none
  | succ n hk312 =>
    intro x1 x2 x3 x4 g
    show cb_j _ _ _ _ _ _ _ _ _ _ (if cb_w (g 0 18) ≤ cb_w x4 then (f_X9_row_b394  cb_N x1 x2 0 g) else (if 0 ≤ cb_w x4 ∧ cb_w x4 < (64 : Nat) then (if 0 ≤ cb_w (g 12 ((cb_w x4).toNat)) ∧ cb_w (g 12 ((cb_w x4).toNat)) < (64 : Nat) then (if cb_w (g 10 ((cb_w (g 12 ((cb_w x4).toNat))).toNat)) = 0 then (f_X9_row_b351 (f_X9_row_b312 n) x1 x2 x4 (g 12 ((cb_w x4).toNat)) g) else (if 0 ≤ cb_w (g 12 ((cb_w x4).toNat)) ∧ cb_w (g 12 ((cb_w x4).toNat)) < (64 : Nat) then (if cb_w (g 10 ((cb_w (g 12 ((cb_w x4).toNat))).toNat)) = 1 then (f_X9_row_b351 (f_X9_row_b312 n) x1 x2 x4 (g 12 ((cb_w x4).toNat)) g) else (if 0 ≤ cb_w (g 12 ((cb_w x4).toNat)) ∧ cb_w (g 12 ((cb_w x4).toNat)) < (64 : Nat) then (if cb_w (g 10 ((cb_w (g 12 ((cb_w x4).toNat))).toNat)) = 2 then (if cb_w x3 = 0 then (if 0 ≤ cb_w (g 12 ((cb_w x4).toNat)) ∧ cb_w (g 12 ((cb_w x4).toNat)) < (64 : Nat) then (f_X9_row_b385 (f_X9_row_b312 n) x1 x2 x3 x4 (cb_u g 10 (cb_w (g 12 ((cb_w x4).toNat))).toNat 0)) else none) else (f_X9_row_b385 (f_X9_row_b312 n) x1 x2 x3 x4 g)) else (f_X9_row_b385 (f_X9_row_b312 n) x1 x2 x3 x4 g)) else none)) else none)) else none) else none))
    refine cb_iload hok dX9_row_312 rfl ?_
    refine cb_aload_n hok dX9_row_314 rfl ?_
    refine cb_gi hok dX9_row_315 fl_RX9_119 skM_b0 skM_c0 rfl ?_
    refine cb_icge (tgt := 391) hok rfl rfl dX9_row_318 (by decide) (fun _ => ?_) (fun _ => ?_)
    · refine cb_iconst hok dX9_row_391 ?_
      refine cb_istore (ls' := [some (.inr 0), some (.inl x1), some (.inl x2), some (.inl x3), some (.inl 0), none, none, none, none]) hok dX9_row_392 (by decide) rfl ?_
      refine cb_fewer (ls' := [some (.inr 0), some (.inl x1), some (.inl x2), none, some (.inl 0), none, none, none, none]) ⟨rfl, ⟨rfl, ⟨rfl, ⟨rfl, trivial⟩⟩⟩⟩ ?_
      exact J_X9_row_b394 hJ hok  cb_N _ _ _ _
    · refine cb_aload_n hok dX9_row_321 rfl ?_
      refine cb_gr hok dX9_row_322 fl_RX9_44 skM_b0 skM_c0 rfl ?_
      refine cb_iload hok dX9_row_325 rfl ?_
      refine cb_iald hok dX9_row_327 skM_b12 skM_c12 ?_
      refine cb_istore (ls' := [some (.inr 0), some (.inl x1), some (.inl x2), some (.inl x3), some (.inl x4), some (.inl (g 12 ((cb_w x4).toNat))), none, none, none]) hok dX9_row_328 (by decide) rfl ?_
      refine cb_aload_n hok dX9_row_330 rfl ?_
      refine cb_gr hok dX9_row_331 fl_RX9_38 skM_b0 skM_c0 rfl ?_
      refine cb_iload hok dX9_row_334 rfl ?_
      refine cb_iald hok dX9_row_336 skM_b10 skM_c10 ?_
      refine cb_ifeq (tgt := 351) hok rfl dX9_row_337 (by decide) (fun _ => ?_) (fun _ => ?_)
      · refine cb_fewer (ls' := [some (.inr 0), some (.inl x1), some (.inl x2), none, some (.inl x4), some (.inl (g 12 ((cb_w x4).toNat))), none, none, none]) ⟨rfl, ⟨rfl, ⟨rfl, ⟨rfl, ⟨rfl, trivial⟩⟩⟩⟩⟩ ?_
        exact J_X9_row_b351 hJ hok hk312 _ _ _ _ _
      · refine cb_aload_n hok dX9_row_340 rfl ?_
        refine cb_gr hok dX9_row_341 fl_RX9_38 skM_b0 skM_c0 rfl ?_
        refine cb_iload hok dX9_row_344 rfl ?_
        refine cb_iald hok dX9_row_346 skM_b10 skM_c10 ?_
        refine cb_iconst hok dX9_row_347 ?_
        refine cb_icne (tgt := 362) hok rfl (by decide) dX9_row_348 (by decide) (fun _ => ?_) (fun _ => ?_)
        · refine cb_aload_n hok dX9_row_362 rfl ?_
          refine cb_gr hok dX9_row_363 fl_RX9_38 skM_b0 skM_c0 rfl ?_
          refine cb_iload hok dX9_row_366 rfl ?_
          refine cb_iald hok dX9_row_368 skM_b10 skM_c10 ?_
          refine cb_iconst hok dX9_row_369 ?_
          refine cb_icne (tgt := 385) hok rfl (by decide) dX9_row_370 (by decide) (fun _ => ?_) (fun _ => ?_)
          · refine cb_fewer (ls' := [some (.inr 0), some (.inl x1), some (.inl x2), some (.inl x3), some (.inl x4), none, none, none, none]) ⟨rfl, ⟨rfl, ⟨rfl, ⟨rfl, ⟨rfl, trivial⟩⟩⟩⟩⟩ ?_
            exact J_X9_row_b385 hJ hok hk312 _ _ _ _ _
          · refine cb_iload_n hok dX9_row_373 rfl ?_
            refine cb_ifne (tgt := 385) hok rfl dX9_row_374 (by decide) (fun _ => ?_) (fun _ => ?_)
            · refine cb_fewer (ls' := [some (.inr 0), some (.inl x1), some (.inl x2), some (.inl x3), some (.inl x4), none, none, none, none]) ⟨rfl, ⟨rfl, ⟨rfl, ⟨rfl, ⟨rfl, trivial⟩⟩⟩⟩⟩ ?_
              exact J_X9_row_b385 hJ hok hk312 _ _ _ _ _
            · refine cb_aload_n hok dX9_row_377 rfl ?_
              refine cb_gr hok dX9_row_378 fl_RX9_38 skM_b0 skM_c0 rfl ?_
              refine cb_iload hok dX9_row_381 rfl ?_
              refine cb_iconst hok dX9_row_383 ?_
              refine cb_iast hok dX9_row_384 skM_b10 skM_c10 ?_
              refine cb_fewer (ls' := [some (.inr 0), some (.inl x1), some (.inl x2), some (.inl x3), some (.inl x4), none, none, none, none]) ⟨rfl, ⟨rfl, ⟨rfl, ⟨rfl, ⟨rfl, trivial⟩⟩⟩⟩⟩ ?_
              exact J_X9_row_b385 hJ hok hk312 _ _ _ _ _
        · refine cb_fewer (ls' := [some (.inr 0), some (.inl x1), some (.inl x2), none, some (.inl x4), some (.inl (g 12 ((cb_w x4).toNat))), none, none, none]) ⟨rfl, ⟨rfl, ⟨rfl, ⟨rfl, ⟨rfl, trivial⟩⟩⟩⟩⟩ ?_
          exact J_X9_row_b351 hJ hok hk312 _ _ _ _ _
def f_X9_row_b238 : Nat → Int → Int → Int → cb_S → Option (Int × cb_S)
  | 0 => fun _ _ _ _ => none
  | n + 1 => fun x1 x2 x3 g => if cb_w (g 0 18) ≤ cb_w x3 then (f_X9_row_b312  cb_N x1 x2 x2 0 g) else (if 0 ≤ cb_w x3 ∧ cb_w x3 < (64 : Nat) then (if 0 ≤ cb_w (g 12 ((cb_w x3).toNat)) ∧ cb_w (g 12 ((cb_w x3).toNat)) < (64 : Nat) then (if cb_w (g 10 ((cb_w (g 12 ((cb_w x3).toNat))).toNat)) = 3 then (f_X9_row_b276 (f_X9_row_b238 n) x1 x2 x3 g) else (if 0 ≤ cb_w x3 ∧ cb_w x3 < (64 : Nat) then (if 0 ≤ cb_w (g 12 ((cb_w x3).toNat)) ∧ cb_w (g 12 ((cb_w x3).toNat)) < (64 : Nat) then (if cb_w (g 10 ((cb_w (g 12 ((cb_w x3).toNat))).toNat)) = 4 then (f_X9_row_b276 (f_X9_row_b238 n) x1 x2 x3 g) else (f_X9_row_b301 (f_X9_row_b238 n) x1 x2 x3 g)) else none) else none)) else none) else none)
set_option maxRecDepth 100000 in
theorem J_X9_row_b238 {O : cb_O} {M : cb_M} (hJ : cb_J O skM) (hok : cb_ok O skM M cX9_row 9 RX9 none) : ∀ (n : Nat) (x1 x2 x3 : Int) (g : cb_S), cb_j O skM true rm_X9_row M 9 238 [some (.inr 0), some (.inl x1), some (.inl x2), some (.inl x3), none, none, none, none, none] [] g (f_X9_row_b238 n x1 x2 x3 g) := by
  intro n
  induction n with
  | zero => intros; exact cb_none
  | succ n hk238 =>
    intro x1 x2 x3 g
    show cb_j _ _ _ _ _ _ _ _ _ _ (if cb_w (g 0 18) ≤ cb_w x3 then (f_X9_row_b312  cb_N x1 x2 x2 0 g) else (if 0 ≤ cb_w x3 ∧ cb_w x3 < (64 : Nat) then (if 0 ≤ cb_w (g 12 ((cb_w x3).toNat)) ∧ cb_w (g 12 ((cb_w x3).toNat)) < (64 : Nat) then (if cb_w (g 10 ((cb_w (g 12 ((cb_w x3).toNat))).toNat)) = 3 then (f_X9_row_b276 (f_X9_row_b238 n) x1 x2 x3 g) else (if 0 ≤ cb_w x3 ∧ cb_w x3 < (64 : Nat) then (if 0 ≤ cb_w (g 12 ((cb_w x3).toNat)) ∧ cb_w (g 12 ((cb_w x3).toNat)) < (64 : Nat) then (if cb_w (g 10 ((cb_w (g 12 ((cb_w x3).toNat))).toNat)) = 4 then (f_X9_row_b276 (f_X9_row_b238 n) x1 x2 x3 g) else (f_X9_row_b301 (f_X9_row_b238 n) x1 x2 x3 g)) else none) else none)) else none) else none))
    refine cb_iload_n hok dX9_row_238 rfl ?_
    refine cb_aload_n hok dX9_row_239 rfl ?_
    refine cb_gi hok dX9_row_240 fl_RX9_119 skM_b0 skM_c0 rfl ?_
    refine cb_icge (tgt := 307) hok rfl rfl dX9_row_243 (by decide) (fun _ => ?_) (fun _ => ?_)
    · refine cb_iload_n hok dX9_row_307 rfl ?_
      refine cb_istore_n (ls' := [some (.inr 0), some (.inl x1), some (.inl x2), some (.inl x2), none, none, none, none, none]) hok dX9_row_308 (by decide) rfl ?_
      refine cb_iconst hok dX9_row_309 ?_
      refine cb_istore (ls' := [some (.inr 0), some (.inl x1), some (.inl x2), some (.inl x2), some (.inl 0), none, none, none, none]) hok dX9_row_310 (by decide) rfl ?_
      refine cb_fewer (ls' := [some (.inr 0), some (.inl x1), some (.inl x2), some (.inl x2), some (.inl 0), none, none, none, none]) ⟨rfl, ⟨rfl, ⟨rfl, ⟨rfl, ⟨rfl, trivial⟩⟩⟩⟩⟩ ?_
      exact J_X9_row_b312 hJ hok  cb_N _ _ _ _ _
    · refine cb_aload_n hok dX9_row_246 rfl ?_
      refine cb_gr hok dX9_row_247 fl_RX9_38 skM_b0 skM_c0 rfl ?_
      refine cb_aload_n hok dX9_row_250 rfl ?_
      refine cb_gr hok dX9_row_251 fl_RX9_44 skM_b0 skM_c0 rfl ?_
      refine cb_iload_n hok dX9_row_254 rfl ?_
      refine cb_iald hok dX9_row_255 skM_b12 skM_c12 ?_
      refine cb_iald hok dX9_row_256 skM_b10 skM_c10 ?_
      refine cb_iconst hok dX9_row_257 ?_
      refine cb_iceq (tgt := 276) hok rfl (by decide) dX9_row_258 (by decide) (fun _ => ?_) (fun _ => ?_)
      · refine cb_fewer (ls' := [some (.inr 0), some (.inl x1), some (.inl x2), some (.inl x3), none, none, none, none, none]) ⟨rfl, ⟨rfl, ⟨rfl, ⟨rfl, trivial⟩⟩⟩⟩ ?_
        exact J_X9_row_b276 hJ hok hk238 _ _ _ _
      · refine cb_aload_n hok dX9_row_261 rfl ?_
        refine cb_gr hok dX9_row_262 fl_RX9_38 skM_b0 skM_c0 rfl ?_
        refine cb_aload_n hok dX9_row_265 rfl ?_
        refine cb_gr hok dX9_row_266 fl_RX9_44 skM_b0 skM_c0 rfl ?_
        refine cb_iload_n hok dX9_row_269 rfl ?_
        refine cb_iald hok dX9_row_270 skM_b12 skM_c12 ?_
        refine cb_iald hok dX9_row_271 skM_b10 skM_c10 ?_
        refine cb_iconst hok dX9_row_272 ?_
        refine cb_icne (tgt := 301) hok rfl (by decide) dX9_row_273 (by decide) (fun _ => ?_) (fun _ => ?_)
        · refine cb_fewer (ls' := [some (.inr 0), some (.inl x1), some (.inl x2), some (.inl x3), none, none, none, none, none]) ⟨rfl, ⟨rfl, ⟨rfl, ⟨rfl, trivial⟩⟩⟩⟩ ?_
          exact J_X9_row_b301 hJ hok hk238 _ _ _ _
        · refine cb_fewer (ls' := [some (.inr 0), some (.inl x1), some (.inl x2), some (.inl x3), none, none, none, none, none]) ⟨rfl, ⟨rfl, ⟨rfl, ⟨rfl, trivial⟩⟩⟩⟩ ?_
          exact J_X9_row_b276 hJ hok hk238 _ _ _ _
def f_X9_row_b161 : Nat → Int → Int → Int → cb_S → Option (Int × cb_S)
  | 0 => fun _ _ _ _ => none
  | n + 1 => fun x1 x2 x3 g => if cb_w (g 0 18) ≤ cb_w x3 then (f_X9_row_b238  cb_N x1 x2 0 g) else (if 0 ≤ cb_w x3 ∧ cb_w x3 < (64 : Nat) then (if 0 ≤ cb_w (g 12 ((cb_w x3).toNat)) ∧ cb_w (g 12 ((cb_w x3).toNat)) < (64 : Nat) then (if cb_w (g 10 ((cb_w (g 12 ((cb_w x3).toNat))).toNat)) = 3 then (f_X9_row_b204 (f_X9_row_b161 n) x1 x2 x3 x3 g) else (if 0 ≤ cb_w x3 ∧ cb_w x3 < (64 : Nat) then (if 0 ≤ cb_w (g 12 ((cb_w x3).toNat)) ∧ cb_w (g 12 ((cb_w x3).toNat)) < (64 : Nat) then (if cb_w (g 10 ((cb_w (g 12 ((cb_w x3).toNat))).toNat)) = 4 then (f_X9_row_b204 (f_X9_row_b161 n) x1 x2 x3 x3 g) else (f_X9_row_b228 (f_X9_row_b161 n) x1 x2 x3 x3 g)) else none) else none)) else none) else none)
set_option maxRecDepth 100000 in
theorem J_X9_row_b161 {O : cb_O} {M : cb_M} (hJ : cb_J O skM) (hok : cb_ok O skM M cX9_row 9 RX9 none) : ∀ (n : Nat) (x1 x2 x3 : Int) (g : cb_S), cb_j O skM true rm_X9_row M 9 161 [some (.inr 0), some (.inl x1), some (.inl x2), some (.inl x3), none, none, none, none, none] [] g (f_X9_row_b161 n x1 x2 x3 g) := by
  intro n
  induction n with
  | zero => intros; exact cb_none
  | succ n hk161 =>
    intro x1 x2 x3 g
    show cb_j _ _ _ _ _ _ _ _ _ _ (if cb_w (g 0 18) ≤ cb_w x3 then (f_X9_row_b238  cb_N x1 x2 0 g) else (if 0 ≤ cb_w x3 ∧ cb_w x3 < (64 : Nat) then (if 0 ≤ cb_w (g 12 ((cb_w x3).toNat)) ∧ cb_w (g 12 ((cb_w x3).toNat)) < (64 : Nat) then (if cb_w (g 10 ((cb_w (g 12 ((cb_w x3).toNat))).toNat)) = 3 then (f_X9_row_b204 (f_X9_row_b161 n) x1 x2 x3 x3 g) else (if 0 ≤ cb_w x3 ∧ cb_w x3 < (64 : Nat) then (if 0 ≤ cb_w (g 12 ((cb_w x3).toNat)) ∧ cb_w (g 12 ((cb_w x3).toNat)) < (64 : Nat) then (if cb_w (g 10 ((cb_w (g 12 ((cb_w x3).toNat))).toNat)) = 4 then (f_X9_row_b204 (f_X9_row_b161 n) x1 x2 x3 x3 g) else (f_X9_row_b228 (f_X9_row_b161 n) x1 x2 x3 x3 g)) else none) else none)) else none) else none))
    refine cb_iload_n hok dX9_row_161 rfl ?_
    refine cb_aload_n hok dX9_row_162 rfl ?_
    refine cb_gi hok dX9_row_163 fl_RX9_119 skM_b0 skM_c0 rfl ?_
    refine cb_icge (tgt := 236) hok rfl rfl dX9_row_166 (by decide) (fun _ => ?_) (fun _ => ?_)
    · refine cb_iconst hok dX9_row_236 ?_
      refine cb_istore_n (ls' := [some (.inr 0), some (.inl x1), some (.inl x2), some (.inl 0), none, none, none, none, none]) hok dX9_row_237 (by decide) rfl ?_
      refine cb_fewer (ls' := [some (.inr 0), some (.inl x1), some (.inl x2), some (.inl 0), none, none, none, none, none]) ⟨rfl, ⟨rfl, ⟨rfl, ⟨rfl, trivial⟩⟩⟩⟩ ?_
      exact J_X9_row_b238 hJ hok  cb_N _ _ _ _
    · refine cb_aload_n hok dX9_row_169 rfl ?_
      refine cb_gr hok dX9_row_170 fl_RX9_47 skM_b0 skM_c0 rfl ?_
      refine cb_iload_n hok dX9_row_173 rfl ?_
      refine cb_aload_n hok dX9_row_174 rfl ?_
      refine cb_gr hok dX9_row_175 fl_RX9_38 skM_b0 skM_c0 rfl ?_
      refine cb_aload_n hok dX9_row_178 rfl ?_
      refine cb_gr hok dX9_row_179 fl_RX9_44 skM_b0 skM_c0 rfl ?_
      refine cb_iload_n hok dX9_row_182 rfl ?_
      refine cb_iald hok dX9_row_183 skM_b12 skM_c12 ?_
      refine cb_iald hok dX9_row_184 skM_b10 skM_c10 ?_
      refine cb_iconst hok dX9_row_185 ?_
      refine cb_iceq (tgt := 204) hok rfl (by decide) dX9_row_186 (by decide) (fun _ => ?_) (fun _ => ?_)
      · refine cb_fewer (ls' := [some (.inr 0), some (.inl x1), some (.inl x2), some (.inl x3), none, none, none, none, none]) ⟨rfl, ⟨rfl, ⟨rfl, ⟨rfl, trivial⟩⟩⟩⟩ ?_
        exact J_X9_row_b204 hJ hok hk161 _ _ _ _ _
      · refine cb_aload_n hok dX9_row_189 rfl ?_
        refine cb_gr hok dX9_row_190 fl_RX9_38 skM_b0 skM_c0 rfl ?_
        refine cb_aload_n hok dX9_row_193 rfl ?_
        refine cb_gr hok dX9_row_194 fl_RX9_44 skM_b0 skM_c0 rfl ?_
        refine cb_iload_n hok dX9_row_197 rfl ?_
        refine cb_iald hok dX9_row_198 skM_b12 skM_c12 ?_
        refine cb_iald hok dX9_row_199 skM_b10 skM_c10 ?_
        refine cb_iconst hok dX9_row_200 ?_
        refine cb_icne (tgt := 228) hok rfl (by decide) dX9_row_201 (by decide) (fun _ => ?_) (fun _ => ?_)
        · refine cb_fewer (ls' := [some (.inr 0), some (.inl x1), some (.inl x2), some (.inl x3), none, none, none, none, none]) ⟨rfl, ⟨rfl, ⟨rfl, ⟨rfl, trivial⟩⟩⟩⟩ ?_
          exact J_X9_row_b228 hJ hok hk161 _ _ _ _ _
        · refine cb_fewer (ls' := [some (.inr 0), some (.inl x1), some (.inl x2), some (.inl x3), none, none, none, none, none]) ⟨rfl, ⟨rfl, ⟨rfl, ⟨rfl, trivial⟩⟩⟩⟩ ?_
          exact J_X9_row_b204 hJ hok hk161 _ _ _ _ _
def f_X9_row_b65 : Nat → Int → Int → Int → cb_S → Option (Int × cb_S)
  | 0 => fun _ _ _ _ => none
  | n + 1 => fun x1 x2 x3 g => if cb_w (g 0 18) ≤ cb_w x3 then (f_X9_row_b161  cb_N x1 x2 0 g) else (if 0 ≤ cb_w x3 ∧ cb_w x3 < (64 : Nat) then (if 0 ≤ cb_w (g 12 ((cb_w x3).toNat)) ∧ cb_w (g 12 ((cb_w x3).toNat)) < (64 : Nat) then ((v_X9_isMark g (g 1 ((cb_w (g 12 ((cb_w x3).toNat))).toNat))).bind (fun r1 => if cb_w r1 = 0 then (if 0 ≤ cb_w (g 12 ((cb_w x3).toNat)) ∧ cb_w (g 12 ((cb_w x3).toNat)) < (64 : Nat) then (if cb_w (g 9 ((cb_w (g 12 ((cb_w x3).toNat))).toNat)) = 0 then ((v_X9_plainSort g (g 12 ((cb_w x3).toNat))).bind (fun r2 => f_X9_row_b152 (f_X9_row_b65 n) x1 x2 x3 r2 (g 12 ((cb_w x3).toNat)) g)) else (if 0 ≤ cb_w ((g 12 ((cb_w x3).toNat)) - 1) ∧ cb_w ((g 12 ((cb_w x3).toNat)) - 1) < (64 : Nat) then (f_X9_row_b152 (f_X9_row_b65 n) x1 x2 x3 (g 10 ((cb_w ((g 12 ((cb_w x3).toNat)) - 1)).toNat)) (g 12 ((cb_w x3).toNat)) g) else none)) else none) else (if cb_w x3 = 0 then (f_X9_row_b152 (f_X9_row_b65 n) x1 x2 x3 x2 (g 12 ((cb_w x3).toNat)) g) else (if 0 ≤ cb_w (x3 - 1) ∧ cb_w (x3 - 1) < (64 : Nat) then (if 0 ≤ cb_w (g 12 ((cb_w (x3 - 1)).toNat)) ∧ cb_w (g 12 ((cb_w (x3 - 1)).toNat)) < (64 : Nat) then (f_X9_row_b152 (f_X9_row_b65 n) x1 x2 x3 (g 10 ((cb_w (g 12 ((cb_w (x3 - 1)).toNat))).toNat)) (g 12 ((cb_w x3).toNat)) g) else none) else none)))) else none) else none)
set_option maxRecDepth 100000 in
theorem J_X9_row_b65 {O : cb_O} {M : cb_M} (hJ : cb_J O skM) (hok : cb_ok O skM M cX9_row 9 RX9 none) : ∀ (n : Nat) (x1 x2 x3 : Int) (g : cb_S), cb_j O skM true rm_X9_row M 9 65 [some (.inr 0), some (.inl x1), some (.inl x2), some (.inl x3), none, none, none, none, none] [] g (f_X9_row_b65 n x1 x2 x3 g) := by
  intro n
  induction n with
  | zero => intros; exact cb_none
  | succ n hk65 =>
    intro x1 x2 x3 g
    show cb_j _ _ _ _ _ _ _ _ _ _ (if cb_w (g 0 18) ≤ cb_w x3 then (f_X9_row_b161  cb_N x1 x2 0 g) else (if 0 ≤ cb_w x3 ∧ cb_w x3 < (64 : Nat) then (if 0 ≤ cb_w (g 12 ((cb_w x3).toNat)) ∧ cb_w (g 12 ((cb_w x3).toNat)) < (64 : Nat) then ((v_X9_isMark g (g 1 ((cb_w (g 12 ((cb_w x3).toNat))).toNat))).bind (fun r1 => if cb_w r1 = 0 then (if 0 ≤ cb_w (g 12 ((cb_w x3).toNat)) ∧ cb_w (g 12 ((cb_w x3).toNat)) < (64 : Nat) then (if cb_w (g 9 ((cb_w (g 12 ((cb_w x3).toNat))).toNat)) = 0 then ((v_X9_plainSort g (g 12 ((cb_w x3).toNat))).bind (fun r2 => f_X9_row_b152 (f_X9_row_b65 n) x1 x2 x3 r2 (g 12 ((cb_w x3).toNat)) g)) else (if 0 ≤ cb_w ((g 12 ((cb_w x3).toNat)) - 1) ∧ cb_w ((g 12 ((cb_w x3).toNat)) - 1) < (64 : Nat) then (f_X9_row_b152 (f_X9_row_b65 n) x1 x2 x3 (g 10 ((cb_w ((g 12 ((cb_w x3).toNat)) - 1)).toNat)) (g 12 ((cb_w x3).toNat)) g) else none)) else none) else (if cb_w x3 = 0 then (f_X9_row_b152 (f_X9_row_b65 n) x1 x2 x3 x2 (g 12 ((cb_w x3).toNat)) g) else (if 0 ≤ cb_w (x3 - 1) ∧ cb_w (x3 - 1) < (64 : Nat) then (if 0 ≤ cb_w (g 12 ((cb_w (x3 - 1)).toNat)) ∧ cb_w (g 12 ((cb_w (x3 - 1)).toNat)) < (64 : Nat) then (f_X9_row_b152 (f_X9_row_b65 n) x1 x2 x3 (g 10 ((cb_w (g 12 ((cb_w (x3 - 1)).toNat))).toNat)) (g 12 ((cb_w x3).toNat)) g) else none) else none)))) else none) else none))
    refine cb_iload_n hok dX9_row_65 rfl ?_
    refine cb_aload_n hok dX9_row_66 rfl ?_
    refine cb_gi hok dX9_row_67 fl_RX9_119 skM_b0 skM_c0 rfl ?_
    refine cb_icge (tgt := 159) hok rfl rfl dX9_row_70 (by decide) (fun _ => ?_) (fun _ => ?_)
    · refine cb_iconst hok dX9_row_159 ?_
      refine cb_istore_n (ls' := [some (.inr 0), some (.inl x1), some (.inl x2), some (.inl 0), none, none, none, none, none]) hok dX9_row_160 (by decide) rfl ?_
      refine cb_fewer (ls' := [some (.inr 0), some (.inl x1), some (.inl x2), some (.inl 0), none, none, none, none, none]) ⟨rfl, ⟨rfl, ⟨rfl, ⟨rfl, trivial⟩⟩⟩⟩ ?_
      exact J_X9_row_b161 hJ hok  cb_N _ _ _ _
    · refine cb_aload_n hok dX9_row_73 rfl ?_
      refine cb_gr hok dX9_row_74 fl_RX9_44 skM_b0 skM_c0 rfl ?_
      refine cb_iload_n hok dX9_row_77 rfl ?_
      refine cb_iald hok dX9_row_78 skM_b12 skM_c12 ?_
      refine cb_istore (ls' := [some (.inr 0), some (.inl x1), some (.inl x2), some (.inl x3), some (.inl (g 12 ((cb_w x3).toNat))), none, none, none, none]) hok dX9_row_79 (by decide) rfl ?_
      refine cb_aload_n hok dX9_row_81 rfl ?_
      refine cb_gr hok dX9_row_82 fl_RX9_38 skM_b0 skM_c0 rfl ?_
      refine cb_iload hok dX9_row_85 rfl ?_
      refine cb_aload_n hok dX9_row_87 rfl ?_
      refine cb_gr hok dX9_row_88 fl_RX9_7 skM_b0 skM_c0 rfl ?_
      refine cb_iload hok dX9_row_91 rfl ?_
      refine cb_iald hok dX9_row_93 skM_b1 skM_c1 ?_
      refine cb_csr (as := [.inl (g 1 ((cb_w (g 12 ((cb_w x3).toNat))).toNat))]) (rest := [.inl (g 12 ((cb_w x3).toNat)), .inr 10]) hok lk_RX9_103 (by decide) (by decide) dX9_row_94 (fun q1 hq1 => C_X9_isMark hJ _ _ q1 hq1) rfl rfl (Nat.le_of_ble_eq_true rfl) (fun r1 => ?_)
      refine cb_ifeq (tgt := 124) hok rfl dX9_row_97 (by decide) (fun _ => ?_) (fun _ => ?_)
      · refine cb_aload_n hok dX9_row_124 rfl ?_
        refine cb_gr hok dX9_row_125 fl_RX9_34 skM_b0 skM_c0 rfl ?_
        refine cb_iload hok dX9_row_128 rfl ?_
        refine cb_zald hok dX9_row_130 skM_b9 skM_c9 ?_
        refine cb_ifeq (tgt := 146) hok rfl dX9_row_131 (by decide) (fun _ => ?_) (fun _ => ?_)
        · refine cb_aload_n hok dX9_row_146 rfl ?_
          refine cb_iload hok dX9_row_147 rfl ?_
          refine cb_cvr (as := [.inl (g 12 ((cb_w x3).toNat))]) (rest := [.inl (g 12 ((cb_w x3).toNat)), .inr 10]) hok lk_RX9_122 (by decide) (by decide) dX9_row_149 (fun q1 hq1 => C_X9_plainSort hJ _ _ q1 hq1) rfl rfl (Nat.le_of_ble_eq_true rfl) skM_b0 skM_c0 rfl (fun r2 => ?_)
          refine cb_fewer (ls' := [some (.inr 0), some (.inl x1), some (.inl x2), some (.inl x3), none, none, none, none, none]) ⟨rfl, ⟨rfl, ⟨rfl, ⟨rfl, trivial⟩⟩⟩⟩ ?_
          exact J_X9_row_b152 hJ hok hk65 _ _ _ _ _ _
        · refine cb_aload_n hok dX9_row_134 rfl ?_
          refine cb_gr hok dX9_row_135 fl_RX9_38 skM_b0 skM_c0 rfl ?_
          refine cb_iload hok dX9_row_138 rfl ?_
          refine cb_iconst hok dX9_row_140 ?_
          refine cb_isub hok dX9_row_141 ?_
          refine cb_iald hok dX9_row_142 skM_b10 skM_c10 ?_
          refine cb_goto (tgt := 152) hok dX9_row_143 (by decide) ?_
          refine cb_fewer (ls' := [some (.inr 0), some (.inl x1), some (.inl x2), some (.inl x3), none, none, none, none, none]) ⟨rfl, ⟨rfl, ⟨rfl, ⟨rfl, trivial⟩⟩⟩⟩ ?_
          exact J_X9_row_b152 hJ hok hk65 _ _ _ _ _ _
      · refine cb_iload_n hok dX9_row_100 rfl ?_
        refine cb_ifne (tgt := 108) hok rfl dX9_row_101 (by decide) (fun _ => ?_) (fun _ => ?_)
        · refine cb_aload_n hok dX9_row_108 rfl ?_
          refine cb_gr hok dX9_row_109 fl_RX9_38 skM_b0 skM_c0 rfl ?_
          refine cb_aload_n hok dX9_row_112 rfl ?_
          refine cb_gr hok dX9_row_113 fl_RX9_44 skM_b0 skM_c0 rfl ?_
          refine cb_iload_n hok dX9_row_116 rfl ?_
          refine cb_iconst hok dX9_row_117 ?_
          refine cb_isub hok dX9_row_118 ?_
          refine cb_iald hok dX9_row_119 skM_b12 skM_c12 ?_
          refine cb_iald hok dX9_row_120 skM_b10 skM_c10 ?_
          refine cb_goto (tgt := 152) hok dX9_row_121 (by decide) ?_
          refine cb_fewer (ls' := [some (.inr 0), some (.inl x1), some (.inl x2), some (.inl x3), none, none, none, none, none]) ⟨rfl, ⟨rfl, ⟨rfl, ⟨rfl, trivial⟩⟩⟩⟩ ?_
          exact J_X9_row_b152 hJ hok hk65 _ _ _ _ _ _
        · refine cb_iload_n hok dX9_row_104 rfl ?_
          refine cb_goto (tgt := 152) hok dX9_row_105 (by decide) ?_
          refine cb_fewer (ls' := [some (.inr 0), some (.inl x1), some (.inl x2), some (.inl x3), none, none, none, none, none]) ⟨rfl, ⟨rfl, ⟨rfl, ⟨rfl, trivial⟩⟩⟩⟩ ?_
          exact J_X9_row_b152 hJ hok hk65 _ _ _ _ _ _
def f_X9_row_b7 : Nat → Int → Int → cb_S → Option (Int × cb_S)
  | 0 => fun _ _ _ => none
  | n + 1 => fun x1 x2 g => if cb_w (g 0 1) ≤ cb_w x2 then (if 0 ≤ cb_w x1 ∧ cb_w x1 < (64 : Nat) then (f_X9_row_b65  cb_N x1 ((cb_w (g 7 ((cb_w x1).toNat))).tmod 2) 0 g) else none) else (if 0 ≤ cb_w x2 ∧ cb_w x2 < (64 : Nat) then (if cb_w (g 6 ((cb_w x2).toNat)) = cb_w x1 then (if 0 ≤ cb_w (g 0 18) ∧ cb_w (g 0 18) < (64 : Nat) then (f_X9_row_b48 (f_X9_row_b7 n) x1 x2 (cb_u (cb_u g 12 (cb_w (g 0 18)).toNat x2) 0 18 ((g 0 18) + 1))) else none) else (f_X9_row_b48 (f_X9_row_b7 n) x1 x2 g)) else none)
set_option maxRecDepth 100000 in
theorem J_X9_row_b7 {O : cb_O} {M : cb_M} (hJ : cb_J O skM) (hok : cb_ok O skM M cX9_row 9 RX9 none) : ∀ (n : Nat) (x1 x2 : Int) (g : cb_S), cb_j O skM true rm_X9_row M 9 7 [some (.inr 0), some (.inl x1), some (.inl x2), none, none, none, none, none, none] [] g (f_X9_row_b7 n x1 x2 g) := by
  intro n
  induction n with
  | zero => intros; exact cb_none
  | succ n hk7 =>
    intro x1 x2 g
    show cb_j _ _ _ _ _ _ _ _ _ _ (if cb_w (g 0 1) ≤ cb_w x2 then (if 0 ≤ cb_w x1 ∧ cb_w x1 < (64 : Nat) then (f_X9_row_b65  cb_N x1 ((cb_w (g 7 ((cb_w x1).toNat))).tmod 2) 0 g) else none) else (if 0 ≤ cb_w x2 ∧ cb_w x2 < (64 : Nat) then (if cb_w (g 6 ((cb_w x2).toNat)) = cb_w x1 then (if 0 ≤ cb_w (g 0 18) ∧ cb_w (g 0 18) < (64 : Nat) then (f_X9_row_b48 (f_X9_row_b7 n) x1 x2 (cb_u (cb_u g 12 (cb_w (g 0 18)).toNat x2) 0 18 ((g 0 18) + 1))) else none) else (f_X9_row_b48 (f_X9_row_b7 n) x1 x2 g)) else none))
    refine cb_iload_n hok dX9_row_7 rfl ?_
    refine cb_aload_n hok dX9_row_8 rfl ?_
    refine cb_gi hok dX9_row_9 fl_RX9_81 skM_b0 skM_c0 rfl ?_
    refine cb_icge (tgt := 54) hok rfl rfl dX9_row_12 (by decide) (fun _ => ?_) (fun _ => ?_)
    · refine cb_aload_n hok dX9_row_54 rfl ?_
      refine cb_gr hok dX9_row_55 fl_RX9_28 skM_b0 skM_c0 rfl ?_
      refine cb_iload_n hok dX9_row_58 rfl ?_
      refine cb_iald hok dX9_row_59 skM_b7 skM_c7 ?_
      refine cb_iconst hok dX9_row_60 ?_
      refine cb_irem hok (b := 2) (by decide) dX9_row_61 (by decide) ?_
      refine cb_istore_n (ls' := [some (.inr 0), some (.inl x1), some (.inl ((cb_w (g 7 ((cb_w x1).toNat))).tmod 2)), none, none, none, none, none, none]) hok dX9_row_62 (by decide) rfl ?_
      refine cb_iconst hok dX9_row_63 ?_
      refine cb_istore_n (ls' := [some (.inr 0), some (.inl x1), some (.inl ((cb_w (g 7 ((cb_w x1).toNat))).tmod 2)), some (.inl 0), none, none, none, none, none]) hok dX9_row_64 (by decide) rfl ?_
      refine cb_fewer (ls' := [some (.inr 0), some (.inl x1), some (.inl ((cb_w (g 7 ((cb_w x1).toNat))).tmod 2)), some (.inl 0), none, none, none, none, none]) ⟨rfl, ⟨rfl, ⟨rfl, ⟨rfl, trivial⟩⟩⟩⟩ ?_
      exact J_X9_row_b65 hJ hok  cb_N _ _ _ _
    · refine cb_aload_n hok dX9_row_15 rfl ?_
      refine cb_gr hok dX9_row_16 fl_RX9_25 skM_b0 skM_c0 rfl ?_
      refine cb_iload_n hok dX9_row_19 rfl ?_
      refine cb_iald hok dX9_row_20 skM_b6 skM_c6 ?_
      refine cb_iload_n hok dX9_row_21 rfl ?_
      refine cb_iceq (tgt := 28) hok rfl rfl dX9_row_22 (by decide) (fun _ => ?_) (fun _ => ?_)
      · refine cb_aload_n hok dX9_row_28 rfl ?_
        refine cb_gr hok dX9_row_29 fl_RX9_44 skM_b0 skM_c0 rfl ?_
        refine cb_aload_n hok dX9_row_32 rfl ?_
        refine cb_gi hok dX9_row_33 fl_RX9_119 skM_b0 skM_c0 rfl ?_
        refine cb_iload_n hok dX9_row_36 rfl ?_
        refine cb_iast hok dX9_row_37 skM_b12 skM_c12 ?_
        refine cb_aload_n hok dX9_row_38 rfl ?_
        refine cb_dup hok dX9_row_39 ?_
        refine cb_gi hok dX9_row_40 fl_RX9_119 skM_b0 skM_c0 rfl ?_
        refine cb_top (y := g 0 18) rfl ?_
        refine cb_iconst hok dX9_row_43 ?_
        refine cb_iadd hok dX9_row_44 ?_
        refine cb_pi hok dX9_row_45 fp_RX9_119 skM_b0 skM_c0 rfl ?_
        refine cb_fewer (ls' := [some (.inr 0), some (.inl x1), some (.inl x2), none, none, none, none, none, none]) ⟨rfl, ⟨rfl, ⟨rfl, trivial⟩⟩⟩ ?_
        exact J_X9_row_b48 hJ hok hk7 _ _ _
      · refine cb_goto (tgt := 48) hok dX9_row_25 (by decide) ?_
        refine cb_fewer (ls' := [some (.inr 0), some (.inl x1), some (.inl x2), none, none, none, none, none, none]) ⟨rfl, ⟨rfl, ⟨rfl, trivial⟩⟩⟩ ?_
        exact J_X9_row_b48 hJ hok hk7 _ _ _
def f_X9_row (g : cb_S) (x1 : Int) : Option (Int × cb_S) := f_X9_row_b7  cb_N x1 0 (cb_u g 0 18 0)
set_option maxRecDepth 100000 in
theorem C_X9_row {O : cb_O} (hJ : cb_J O skM) (x1 : Int) (g : cb_S) : ∀ q, f_X9_row g x1 = some q → cb_m O skM true yX9_row cX9_row 9 none rm_X9_row [.inr 0, .inl x1] g q := by
  intro q hq
  refine cb_of_body hJ (by decide) (Nat.le_of_ble_eq_true rfl) hq (fun M hok => ?_)
  show cb_j _ _ _ _ _ _ _ [some (.inr 0), some (.inl x1), none, none, none, none, none, none, none] _ _ (f_X9_row_b7  cb_N x1 0 (cb_u g 0 18 0))
  refine cb_aload_n hok dX9_row_0 rfl ?_
  refine cb_iconst hok dX9_row_1 ?_
  refine cb_pi hok dX9_row_2 fp_RX9_119 skM_b0 skM_c0 rfl ?_
  refine cb_iconst hok dX9_row_5 ?_
  refine cb_istore_n (ls' := [some (.inr 0), some (.inl x1), some (.inl 0), none, none, none, none, none, none]) hok dX9_row_6 (by decide) rfl ?_
  refine cb_fewer (ls' := [some (.inr 0), some (.inl x1), some (.inl 0), none, none, none, none, none, none]) ⟨rfl, ⟨rfl, ⟨rfl, trivial⟩⟩⟩ ?_
  exact J_X9_row_b7 hJ hok  cb_N _ _ _
