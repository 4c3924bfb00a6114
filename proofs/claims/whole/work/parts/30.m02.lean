/-! CaretBench$Clusters gather(LCaretBench$Line;)V -/
def f_X1_gather_b118 (kk54 : Int → Int → Int → cb_S → Option (Int × cb_S)) (x2 x3 x4 : Int) (g : cb_S) : Option (Int × cb_S) := kk54 x2 x3 (x4 + 1) g
set_option maxRecDepth 100000 in
theorem J_X1_gather_b118 {O : cb_O} {M : cb_M} (hJ : cb_J O skC) (hok : cb_ok O skC M cX1_gather 5 RX1 none) {kk54 : Int → Int → Int → cb_S → Option (Int × cb_S)} (hk54 : ∀ (x2 x3 x4 : Int) (g : cb_S), cb_j O skC true rm_X1_gather M 5 54 [some (.inr 2), some (.inr 1), some (.inl x2), some (.inl x3), some (.inl x4)] [] g (kk54 x2 x3 x4 g)) : ∀ (x2 x3 x4 : Int) (g : cb_S), cb_j O skC true rm_X1_gather M 5 118 [some (.inr 2), some (.inr 1), some (.inl x2), some (.inl x3), some (.inl x4)] [] g (f_X1_gather_b118 kk54 x2 x3 x4 g) := by
  intro x2 x3 x4 g
  show cb_j _ _ _ _ _ _ _ _ _ _ (kk54 x2 x3 (x4 + 1) g)
  refine cb_iinc (ls' := [some (.inr 2), some (.inr 1), some (.inl x2), some (.inl x3), some (.inl (x4 + 1))]) hok dX1_gather_118 rfl (by decide) rfl ?_
  refine cb_goto (tgt := 54) hok dX1_gather_121 (by decide) ?_
  refine cb_fewer (ls' := [some (.inr 2), some (.inr 1), some (.inl x2), some (.inl x3), some (.inl (x4 + 1))]) ⟨rfl, ⟨rfl, ⟨rfl, ⟨rfl, ⟨rfl, trivial⟩⟩⟩⟩⟩ ?_
  exact hk54 _ _ _ _
def f_X1_gather_b107 (kk54 : Int → Int → Int → cb_S → Option (Int × cb_S)) (x2 x3 x4 : Int) (g : cb_S) : Option (Int × cb_S) := cb_b (f_X1_add g x3 x4) (fun r1 g1 => f_X1_gather_b118 kk54 x2 x4 x4 g1)
set_option maxRecDepth 100000 in
theorem J_X1_gather_b107 {O : cb_O} {M : cb_M} (hJ : cb_J O skC) (hok : cb_ok O skC M cX1_gather 5 RX1 none) {kk54 : Int → Int → Int → cb_S → Option (Int × cb_S)} (hk54 : ∀ (x2 x3 x4 : Int) (g : cb_S), cb_j O skC true rm_X1_gather M 5 54 [some (.inr 2), some (.inr 1), some (.inl x2), some (.inl x3), some (.inl x4)] [] g (kk54 x2 x3 x4 g)) : ∀ (x2 x3 x4 : Int) (g : cb_S), cb_j O skC true rm_X1_gather M 5 107 [some (.inr 2), some (.inr 1), some (.inl x2), some (.inl x3), some (.inl x4)] [] g (f_X1_gather_b107 kk54 x2 x3 x4 g) := by
  intro x2 x3 x4 g
  show cb_j _ _ _ _ _ _ _ _ _ _ (cb_b (f_X1_add g x3 x4) (fun r1 g1 => f_X1_gather_b118 kk54 x2 x4 x4 g1))
  refine cb_aload_n hok dX1_gather_107 rfl ?_
  refine cb_aload_n hok dX1_gather_108 rfl ?_
  refine cb_iload_n hok dX1_gather_109 rfl ?_
  refine cb_iload hok dX1_gather_110 rfl ?_
  refine cb_cvv (as := [.inr 1, .inl x3, .inl x4]) (rest := []) hok lk_RX1_74 (by decide) (by decide) dX1_gather_112 (fun q1 hq1 => C_X1_add hJ _ _ _ q1 hq1) rfl rfl (Nat.le_of_ble_eq_true rfl) skC_b2 skC_c2 rfl (fun r1 g1 => ?_)
  refine cb_iload hok dX1_gather_115 rfl ?_
  refine cb_istore_n (ls' := [some (.inr 2), some (.inr 1), some (.inl x2), some (.inl x4), some (.inl x4)]) hok dX1_gather_117 (by decide) rfl ?_
  refine cb_fewer (ls' := [some (.inr 2), some (.inr 1), some (.inl x2), some (.inl x4), some (.inl x4)]) ⟨rfl, ⟨rfl, ⟨rfl, ⟨rfl, ⟨rfl, trivial⟩⟩⟩⟩⟩ ?_
  exact J_X1_gather_b118 hJ hok hk54 _ _ _ _
def f_X1_gather_b86 (kk54 : Int → Int → Int → cb_S → Option (Int × cb_S)) (x3 x4 s0 : Int) (g : cb_S) : Option (Int × cb_S) := if cb_w x4 = cb_w (g 2 9) then (f_X1_gather_b107 kk54 s0 x3 x4 g) else ((v_X1_begins g x4 s0).bind (fun r1 => if cb_w r1 = 0 then (f_X1_gather_b118 kk54 s0 x3 x4 g) else (f_X1_gather_b107 kk54 s0 x3 x4 g)))
set_option maxRecDepth 100000 in
theorem J_X1_gather_b86 {O : cb_O} {M : cb_M} (hJ : cb_J O skC) (hok : cb_ok O skC M cX1_gather 5 RX1 none) {kk54 : Int → Int → Int → cb_S → Option (Int × cb_S)} (hk54 : ∀ (x2 x3 x4 : Int) (g : cb_S), cb_j O skC true rm_X1_gather M 5 54 [some (.inr 2), some (.inr 1), some (.inl x2), some (.inl x3), some (.inl x4)] [] g (kk54 x2 x3 x4 g)) : ∀ (x3 x4 s0 : Int) (g : cb_S), cb_j O skC true rm_X1_gather M 5 86 [some (.inr 2), some (.inr 1), none, some (.inl x3), some (.inl x4)] [.inl s0] g (f_X1_gather_b86 kk54 x3 x4 s0 g) := by
  intro x3 x4 s0 g
  show cb_j _ _ _ _ _ _ _ _ _ _ (if cb_w x4 = cb_w (g 2 9) then (f_X1_gather_b107 kk54 s0 x3 x4 g) else ((v_X1_begins g x4 s0).bind (fun r1 => if cb_w r1 = 0 then (f_X1_gather_b118 kk54 s0 x3 x4 g) else (f_X1_gather_b107 kk54 s0 x3 x4 g))))
  refine cb_istore_n (ls' := [some (.inr 2), some (.inr 1), some (.inl s0), some (.inl x3), some (.inl x4)]) hok dX1_gather_86 (by decide) rfl ?_
  refine cb_iload hok dX1_gather_87 rfl ?_
  refine cb_aload_n hok dX1_gather_89 rfl ?_
  refine cb_gi hok dX1_gather_90 fl_RX1_57 skC_b2 skC_c2 rfl ?_
  refine cb_iceq (tgt := 107) hok rfl rfl dX1_gather_93 (by decide) (fun _ => ?_) (fun _ => ?_)
  · refine cb_fewer (ls' := [some (.inr 2), some (.inr 1), some (.inl s0), some (.inl x3), some (.inl x4)]) ⟨rfl, ⟨rfl, ⟨rfl, ⟨rfl, ⟨rfl, trivial⟩⟩⟩⟩⟩ ?_
    exact J_X1_gather_b107 hJ hok hk54 _ _ _ _
  · refine cb_aload_n hok dX1_gather_96 rfl ?_
    refine cb_aload_n hok dX1_gather_97 rfl ?_
    refine cb_iload hok dX1_gather_98 rfl ?_
    refine cb_iload_n hok dX1_gather_100 rfl ?_
    refine cb_cvr (as := [.inr 1, .inl x4, .inl s0]) (rest := []) hok lk_RX1_70 (by decide) (by decide) dX1_gather_101 (fun q1 hq1 => C_X1_begins hJ _ _ _ q1 hq1) rfl rfl (Nat.le_of_ble_eq_true rfl) skC_b2 skC_c2 rfl (fun r1 => ?_)
    refine cb_ifeq (tgt := 118) hok rfl dX1_gather_104 (by decide) (fun _ => ?_) (fun _ => ?_)
    · refine cb_fewer (ls' := [some (.inr 2), some (.inr 1), some (.inl s0), some (.inl x3), some (.inl x4)]) ⟨rfl, ⟨rfl, ⟨rfl, ⟨rfl, ⟨rfl, trivial⟩⟩⟩⟩⟩ ?_
      exact J_X1_gather_b118 hJ hok hk54 _ _ _ _
    · refine cb_fewer (ls' := [some (.inr 2), some (.inr 1), some (.inl s0), some (.inl x3), some (.inl x4)]) ⟨rfl, ⟨rfl, ⟨rfl, ⟨rfl, ⟨rfl, trivial⟩⟩⟩⟩⟩ ?_
      exact J_X1_gather_b107 hJ hok hk54 _ _ _ _
def f_X1_gather_b85 (kk54 : Int → Int → Int → cb_S → Option (Int × cb_S)) (x3 x4 : Int) (g : cb_S) : Option (Int × cb_S) := f_X1_gather_b86 kk54 x3 x4 0 g
set_option maxRecDepth 100000 in
theorem J_X1_gather_b85 {O : cb_O} {M : cb_M} (hJ : cb_J O skC) (hok : cb_ok O skC M cX1_gather 5 RX1 none) {kk54 : Int → Int → Int → cb_S → Option (Int × cb_S)} (hk54 : ∀ (x2 x3 x4 : Int) (g : cb_S), cb_j O skC true rm_X1_gather M 5 54 [some (.inr 2), some (.inr 1), some (.inl x2), some (.inl x3), some (.inl x4)] [] g (kk54 x2 x3 x4 g)) : ∀ (x3 x4 : Int) (g : cb_S), cb_j O skC true rm_X1_gather M 5 85 [some (.inr 2), some (.inr 1), none, some (.inl x3), some (.inl x4)] [] g (f_X1_gather_b85 kk54 x3 x4 g) := by
  intro x3 x4 g
  show cb_j _ _ _ _ _ _ _ _ _ _ (f_X1_gather_b86 kk54 x3 x4 0 g)
  refine cb_iconst hok dX1_gather_85 ?_
  refine cb_fewer (ls' := [some (.inr 2), some (.inr 1), none, some (.inl x3), some (.inl x4)]) ⟨rfl, ⟨rfl, ⟨rfl, ⟨rfl, trivial⟩⟩⟩⟩ ?_
  exact J_X1_gather_b86 hJ hok hk54 _ _ _ _
def f_X1_gather_b54 : Nat → Int → Int → Int → cb_S → Option (Int × cb_S)
  | 0 => fun _ _ _ _ => none
  | n + 1 => fun x2 x3 x4 g => if cb_w (g 2 9) < cb_w x4 then (some (0, g)) else (if cb_w x2 = 0 then (f_X1_gather_b85 (f_X1_gather_b54 n) x3 x4 g) else ((v_X3_at g (x4 - 1)).bind (fun r1 => (v_X7_isMark g r1).bind (fun r2 => if cb_w r2 = 0 then (f_X1_gather_b85 (f_X1_gather_b54 n) x3 x4 g) else (f_X1_gather_b86 (f_X1_gather_b54 n) x3 x4 1 g)))))
set_option maxRecDepth 100000 in
theorem J_X1_gather_b54 {O : cb_O} {M : cb_M} (hJ : cb_J O skC) (hok : cb_ok O skC M cX1_gather 5 RX1 none) : ∀ (n : Nat) (x2 x3 x4 : Int) (g : cb_S), cb_j O skC true rm_X1_gather M 5 54 [some (.inr 2), some (.inr 1), some (.inl x2), some (.inl x3), some (.inl x4)] [] g (f_X1_gather_b54 n x2 x3 x4 g) := by
  intro n
  induction n with
  | zero => intros; exact cb_none
  | succ n hk54 =>
    intro x2 x3 x4 g
    show cb_j _ _ _ _ _ _ _ _ _ _ (if cb_w (g 2 9) < cb_w x4 then (some (0, g)) else (if cb_w x2 = 0 then (f_X1_gather_b85 (f_X1_gather_b54 n) x3 x4 g) else ((v_X3_at g (x4 - 1)).bind (fun r1 => (v_X7_isMark g r1).bind (fun r2 => if cb_w r2 = 0 then (f_X1_gather_b85 (f_X1_gather_b54 n) x3 x4 g) else (f_X1_gather_b86 (f_X1_gather_b54 n) x3 x4 1 g))))))
    refine cb_iload hok dX1_gather_54 rfl ?_
    refine cb_aload_n hok dX1_gather_56 rfl ?_
    refine cb_gi hok dX1_gather_57 fl_RX1_57 skC_b2 skC_c2 rfl ?_
    refine cb_icgt (tgt := 124) hok rfl rfl dX1_gather_60 (by decide) (fun _ => ?_) (fun _ => ?_)
    · exact cb_vret hok dX1_gather_124
    · refine cb_iload_n hok dX1_gather_63 rfl ?_
      refine cb_ifeq (tgt := 85) hok rfl dX1_gather_64 (by decide) (fun _ => ?_) (fun _ => ?_)
      · refine cb_fewer (ls' := [some (.inr 2), some (.inr 1), none, some (.inl x3), some (.inl x4)]) ⟨rfl, ⟨rfl, ⟨rfl, ⟨rfl, trivial⟩⟩⟩⟩ ?_
        exact J_X1_gather_b85 hJ hok hk54 _ _ _
      · refine cb_aload_n hok dX1_gather_67 rfl ?_
        refine cb_iload hok dX1_gather_68 rfl ?_
        refine cb_iconst hok dX1_gather_70 ?_
        refine cb_isub hok dX1_gather_71 ?_
        refine cb_cvr (as := [.inl (x4 - 1)]) (rest := []) hok lk_RX1_60 (by decide) (by decide) dX1_gather_72 (fun q1 hq1 => C_X3_at hJ _ _ q1 hq1) rfl rfl (Nat.le_of_ble_eq_true rfl) skC_b1 skC_c1 rfl (fun r1 => ?_)
        refine cb_csr (as := [.inl r1]) (rest := []) hok lk_RX1_64 (by decide) (by decide) dX1_gather_75 (fun q1 hq1 => C_X7_isMark hJ _ _ q1 hq1) rfl rfl (Nat.le_of_ble_eq_true rfl) (fun r2 => ?_)
        refine cb_ifeq (tgt := 85) hok rfl dX1_gather_78 (by decide) (fun _ => ?_) (fun _ => ?_)
        · refine cb_fewer (ls' := [some (.inr 2), some (.inr 1), none, some (.inl x3), some (.inl x4)]) ⟨rfl, ⟨rfl, ⟨rfl, ⟨rfl, trivial⟩⟩⟩⟩ ?_
          exact J_X1_gather_b85 hJ hok hk54 _ _ _
        · refine cb_iconst hok dX1_gather_81 ?_
          refine cb_goto (tgt := 86) hok dX1_gather_82 (by decide) ?_
          refine cb_fewer (ls' := [some (.inr 2), some (.inr 1), none, some (.inl x3), some (.inl x4)]) ⟨rfl, ⟨rfl, ⟨rfl, ⟨rfl, trivial⟩⟩⟩⟩ ?_
          exact J_X1_gather_b86 hJ hok hk54 _ _ _ _
def f_X1_gather (g : cb_S) : Option (Int × cb_S) := cb_b (f_X1_findJoins g ) (fun r1 g1 => cb_b (f_J7_fill_53178 g1 13 61 (-1)) (fun r2 g2 => cb_b (f_J7_fill_53178 g2 14 61 (-1)) (fun r3 g3 => cb_b (f_J7_fill_53178 g3 15 61 (-1)) (fun r4 g4 => (v_X3_length (cb_u (cb_u g4 2 7 0) 2 8 0) ).bind (fun r5 => f_X1_gather_b54  cb_N 1 0 1 (cb_u (cb_u (cb_u g4 2 7 0) 2 8 0) 2 9 r5))))))
set_option maxRecDepth 100000 in
theorem C_X1_gather {O : cb_O} (hJ : cb_J O skC) (g : cb_S) : ∀ q, f_X1_gather g = some q → cb_m O skC true yX1_gather cX1_gather 5 none rm_X1_gather [.inr 2, .inr 1] g q := by
  intro q hq
  refine cb_of_body hJ (by decide) (Nat.le_of_ble_eq_true rfl) hq (fun M hok => ?_)
  show cb_j _ _ _ _ _ _ _ [some (.inr 2), some (.inr 1), none, none, none] _ _ (cb_b (f_X1_findJoins g ) (fun r1 g1 => cb_b (f_J7_fill_53178 g1 13 61 (-1)) (fun r2 g2 => cb_b (f_J7_fill_53178 g2 14 61 (-1)) (fun r3 g3 => cb_b (f_J7_fill_53178 g3 15 61 (-1)) (fun r4 g4 => (v_X3_length (cb_u (cb_u g4 2 7 0) 2 8 0) ).bind (fun r5 => f_X1_gather_b54  cb_N 1 0 1 (cb_u (cb_u (cb_u g4 2 7 0) 2 8 0) 2 9 r5)))))))
  refine cb_aload_n hok dX1_gather_0 rfl ?_
  refine cb_aload_n hok dX1_gather_1 rfl ?_
  refine cb_cvv (as := [.inr 1]) (rest := []) hok lk_RX1_34 (by decide) (by decide) dX1_gather_2 (fun q1 hq1 => C_X1_findJoins hJ _ q1 hq1) rfl rfl (Nat.le_of_ble_eq_true rfl) skC_b2 skC_c2 rfl (fun r1 g1 => ?_)
  refine cb_aload_n hok dX1_gather_5 rfl ?_
  refine cb_gr hok dX1_gather_6 fl_RX1_25 skC_b2 skC_c2 rfl ?_
  refine cb_iconst hok dX1_gather_9 ?_
  refine cb_csv (as := [.inr 13, .inl (-1)]) (rest := []) hok lk_RX1_38 (by decide) (by decide) dX1_gather_10 (fun q1 hq1 => C_J7_fill_53178 hJ 13 61 skC_b13 skC_c13 _ _ q1 hq1) rfl rfl (Nat.le_of_ble_eq_true rfl) (fun r2 g2 => ?_)
  refine cb_aload_n hok dX1_gather_13 rfl ?_
  refine cb_gr hok dX1_gather_14 fl_RX1_28 skC_b2 skC_c2 rfl ?_
  refine cb_iconst hok dX1_gather_17 ?_
  refine cb_csv (as := [.inr 14, .inl (-1)]) (rest := []) hok lk_RX1_38 (by decide) (by decide) dX1_gather_18 (fun q1 hq1 => C_J7_fill_53178 hJ 14 61 skC_b14 skC_c14 _ _ q1 hq1) rfl rfl (Nat.le_of_ble_eq_true rfl) (fun r3 g3 => ?_)
  refine cb_aload_n hok dX1_gather_21 rfl ?_
  refine cb_gr hok dX1_gather_22 fl_RX1_31 skC_b2 skC_c2 rfl ?_
  refine cb_iconst hok dX1_gather_25 ?_
  refine cb_csv (as := [.inr 15, .inl (-1)]) (rest := []) hok lk_RX1_38 (by decide) (by decide) dX1_gather_26 (fun q1 hq1 => C_J7_fill_53178 hJ 15 61 skC_b15 skC_c15 _ _ q1 hq1) rfl rfl (Nat.le_of_ble_eq_true rfl) (fun r4 g4 => ?_)
  refine cb_aload_n hok dX1_gather_29 rfl ?_
  refine cb_iconst hok dX1_gather_30 ?_
  refine cb_pi hok dX1_gather_31 fp_RX1_44 skC_b2 skC_c2 rfl ?_
  refine cb_aload_n hok dX1_gather_34 rfl ?_
  refine cb_iconst hok dX1_gather_35 ?_
  refine cb_pi hok dX1_gather_36 fp_RX1_48 skC_b2 skC_c2 rfl ?_
  refine cb_aload_n hok dX1_gather_39 rfl ?_
  refine cb_aload_n hok dX1_gather_40 rfl ?_
  refine cb_cvr (as := []) (rest := [.inr 2]) hok lk_RX1_51 (by decide) (by decide) dX1_gather_41 (fun q1 hq1 => C_X3_length hJ _ q1 hq1) rfl rfl (Nat.le_of_ble_eq_true rfl) skC_b1 skC_c1 rfl (fun r5 => ?_)
  refine cb_pi hok dX1_gather_44 fp_RX1_57 skC_b2 skC_c2 rfl ?_
  refine cb_iconst hok dX1_gather_47 ?_
  refine cb_istore_n (ls' := [some (.inr 2), some (.inr 1), some (.inl 1), none, none]) hok dX1_gather_48 (by decide) rfl ?_
  refine cb_iconst hok dX1_gather_49 ?_
  refine cb_istore_n (ls' := [some (.inr 2), some (.inr 1), some (.inl 1), some (.inl 0), none]) hok dX1_gather_50 (by decide) rfl ?_
  refine cb_iconst hok dX1_gather_51 ?_
  refine cb_istore (ls' := [some (.inr 2), some (.inr 1), some (.inl 1), some (.inl 0), some (.inl 1)]) hok dX1_gather_52 (by decide) rfl ?_
  refine cb_fewer (ls' := [some (.inr 2), some (.inr 1), some (.inl 1), some (.inl 0), some (.inl 1)]) ⟨rfl, ⟨rfl, ⟨rfl, ⟨rfl, ⟨rfl, trivial⟩⟩⟩⟩⟩ ?_
  exact J_X1_gather_b54 hJ hok  cb_N _ _ _ _
/-! CaretBench$Clusters number()I -/
def v_X1_number (g : cb_S) : Option Int := some (g 2 7)
set_option maxRecDepth 100000 in
theorem C_X1_number {O : cb_O} (hJ : cb_J O skC) (g : cb_S) : ∀ q, v_X1_number g = some q → cb_m O skC false yX1_number cX1_number 1 (some .int) rm_X1_number [.inr 2] g (q, g) := by
  intro q hq
  refine cr_of_body hJ (by decide) (Nat.le_of_ble_eq_true rfl) hq (fun M hok => ?_)
  show cb_jr _ _ _ _ _ _ [some (.inr 2)] _ _ (some (g 2 7))
  refine cr_aload_n hok dX1_number_0 rfl ?_
  refine cr_gi hok dX1_number_1 fl_RX1_44 skC_b2 skC_c2 rfl ?_
  exact cr_iret hok dX1_number_4
/-! CaretBench$Clusters standNumber()I -/
def v_X1_standNumber (g : cb_S) : Option Int := some (((g 2 7) + 1) + (g 2 8))
set_option maxRecDepth 100000 in
theorem C_X1_standNumber {O : cb_O} (hJ : cb_J O skC) (g : cb_S) : ∀ q, v_X1_standNumber g = some q → cb_m O skC false yX1_standNumber cX1_standNumber 1 (some .int) rm_X1_standNumber [.inr 2] g (q, g) := by
  intro q hq
  refine cr_of_body hJ (by decide) (Nat.le_of_ble_eq_true rfl) hq (fun M hok => ?_)
  show cb_jr _ _ _ _ _ _ [some (.inr 2)] _ _ (some (((g 2 7) + 1) + (g 2 8)))
  refine cr_aload_n hok dX1_standNumber_0 rfl ?_
  refine cr_gi hok dX1_standNumber_1 fl_RX1_44 skC_b2 skC_c2 rfl ?_
  refine cr_iconst hok dX1_standNumber_4 ?_
  refine cr_iadd hok dX1_standNumber_5 ?_
  refine cr_aload_n hok dX1_standNumber_6 rfl ?_
  refine cr_gi hok dX1_standNumber_7 fl_RX1_48 skC_b2 skC_c2 rfl ?_
  refine cr_iadd hok dX1_standNumber_10 ?_
  exact cr_iret hok dX1_standNumber_11
/-! CaretBench$Clusters aroundOrAheadOf(I)I -/
def v_X1_aroundOrAheadOf (g : cb_S) (x1 : Int) : Option Int := (v_X1_joinedAround g x1).bind (fun r1 => if cb_w r1 = (-1) then ((v_X1_endingAt g x1).bind (fun r2 => some r2)) else (some r1))
set_option maxRecDepth 100000 in
theorem C_X1_aroundOrAheadOf {O : cb_O} (hJ : cb_J O skC) (x1 : Int) (g : cb_S) : ∀ q, v_X1_aroundOrAheadOf g x1 = some q → cb_m O skC false yX1_aroundOrAheadOf cX1_aroundOrAheadOf 3 (some .int) rm_X1_aroundOrAheadOf [.inr 2, .inl x1] g (q, g) := by
  intro q hq
  refine cr_of_body hJ (by decide) (Nat.le_of_ble_eq_true rfl) hq (fun M hok => ?_)
  show cb_jr _ _ _ _ _ _ [some (.inr 2), some (.inl x1), none] _ _ ((v_X1_joinedAround g x1).bind (fun r1 => if cb_w r1 = (-1) then ((v_X1_endingAt g x1).bind (fun r2 => some r2)) else (some r1)))
  refine cr_aload_n hok dX1_aroundOrAheadOf_0 rfl ?_
  refine cr_iload_n hok dX1_aroundOrAheadOf_1 rfl ?_
  refine cr_cvr (as := [.inl x1]) (rest := []) hok lk_RX1_97 (by decide) (by decide) dX1_aroundOrAheadOf_2 (fun q1 hq1 => C_X1_joinedAround hJ _ _ q1 hq1) rfl rfl (Nat.le_of_ble_eq_true rfl) skC_b2 skC_c2 rfl (fun r1 => ?_)
  refine cr_istore_n (ls' := [some (.inr 2), some (.inl x1), some (.inl r1)]) hok dX1_aroundOrAheadOf_5 (by decide) rfl ?_
  refine cr_iload_n hok dX1_aroundOrAheadOf_6 rfl ?_
  refine cr_iconst hok dX1_aroundOrAheadOf_7 ?_
  refine cr_iceq (tgt := 15) hok rfl (by decide) dX1_aroundOrAheadOf_8 (by decide) (fun _ => ?_) (fun _ => ?_)
  · refine cr_aload_n hok dX1_aroundOrAheadOf_15 rfl ?_
    refine cr_iload_n hok dX1_aroundOrAheadOf_16 rfl ?_
    refine cr_cvr (as := [.inl x1]) (rest := []) hok lk_RX1_100 (by decide) (by decide) dX1_aroundOrAheadOf_17 (fun q1 hq1 => C_X1_endingAt hJ _ _ q1 hq1) rfl rfl (Nat.le_of_ble_eq_true rfl) skC_b2 skC_c2 rfl (fun r2 => ?_)
    exact cr_iret hok dX1_aroundOrAheadOf_20
  · refine cr_iload_n hok dX1_aroundOrAheadOf_11 rfl ?_
    refine cr_goto (tgt := 20) hok dX1_aroundOrAheadOf_12 (by decide) ?_
    exact cr_iret hok dX1_aroundOrAheadOf_20
/-! CaretBench$Clusters aroundOrBehind(I)I -/
def v_X1_aroundOrBehind (g : cb_S) (x1 : Int) : Option Int := (v_X1_joinedAround g x1).bind (fun r1 => if cb_w r1 = (-1) then ((v_X1_beginningAt g x1).bind (fun r2 => some r2)) else (some r1))
set_option maxRecDepth 100000 in
theorem C_X1_aroundOrBehind {O : cb_O} (hJ : cb_J O skC) (x1 : Int) (g : cb_S) : ∀ q, v_X1_aroundOrBehind g x1 = some q → cb_m O skC false yX1_aroundOrBehind cX1_aroundOrBehind 3 (some .int) rm_X1_aroundOrBehind [.inr 2, .inl x1] g (q, g) := by
  intro q hq
  refine cr_of_body hJ (by decide) (Nat.le_of_ble_eq_true rfl) hq (fun M hok => ?_)
  show cb_jr _ _ _ _ _ _ [some (.inr 2), some (.inl x1), none] _ _ ((v_X1_joinedAround g x1).bind (fun r1 => if cb_w r1 = (-1) then ((v_X1_beginningAt g x1).bind (fun r2 => some r2)) else (some r1)))
  refine cr_aload_n hok dX1_aroundOrBehind_0 rfl ?_
  refine cr_iload_n hok dX1_aroundOrBehind_1 rfl ?_
  refine cr_cvr (as := [.inl x1]) (rest := []) hok lk_RX1_97 (by decide) (by decide) dX1_aroundOrBehind_2 (fun q1 hq1 => C_X1_joinedAround hJ _ _ q1 hq1) rfl rfl (Nat.le_of_ble_eq_true rfl) skC_b2 skC_c2 rfl (fun r1 => ?_)
  refine cr_istore_n (ls' := [some (.inr 2), some (.inl x1), some (.inl r1)]) hok dX1_aroundOrBehind_5 (by decide) rfl ?_
  refine cr_iload_n hok dX1_aroundOrBehind_6 rfl ?_
  refine cr_iconst hok dX1_aroundOrBehind_7 ?_
  refine cr_iceq (tgt := 15) hok rfl (by decide) dX1_aroundOrBehind_8 (by decide) (fun _ => ?_) (fun _ => ?_)
  · refine cr_aload_n hok dX1_aroundOrBehind_15 rfl ?_
    refine cr_iload_n hok dX1_aroundOrBehind_16 rfl ?_
    refine cr_cvr (as := [.inl x1]) (rest := []) hok lk_RX1_103 (by decide) (by decide) dX1_aroundOrBehind_17 (fun q1 hq1 => C_X1_beginningAt hJ _ _ q1 hq1) rfl rfl (Nat.le_of_ble_eq_true rfl) skC_b2 skC_c2 rfl (fun r2 => ?_)
    exact cr_iret hok dX1_aroundOrBehind_20
  · refine cr_iload_n hok dX1_aroundOrBehind_11 rfl ?_
    refine cr_goto (tgt := 20) hok dX1_aroundOrBehind_12 (by decide) ?_
    exact cr_iret hok dX1_aroundOrBehind_20
/-! CaretBench$Clusters standUpTo(I)I -/
def v_X1_standUpTo_b9 : Nat → Int → cb_S → Option Int
  | 0 => fun _ _ => none
  | n + 1 => fun x2 g => if cb_w x2 < 0 then (some (-1)) else ((v_X1_isStand g x2).bind (fun r1 => if cb_w r1 = 0 then ((v_X1_standUpTo_b9 n) (x2 + (-1)) g) else (some x2)))
set_option maxRecDepth 100000 in
theorem J_X1_standUpTo_b9 {O : cb_O} {M : cb_M} (hJ : cb_J O skC) (hok : cb_ok O skC M cX1_standUpTo 3 RX1 (some .int)) : ∀ (n : Nat) (x2 : Int) (g : cb_S), cb_jr O skC rm_X1_standUpTo M 3 9 [some (.inr 2), none, some (.inl x2)] [] g (v_X1_standUpTo_b9 n x2 g) := by
  intro n
  induction n with
  | zero => intros; exact cr_none
  | succ n hk9 =>
    intro x2 g
    show cb_jr _ _ _ _ _ _ _ _ _ (if cb_w x2 < 0 then (some (-1)) else ((v_X1_isStand g x2).bind (fun r1 => if cb_w r1 = 0 then ((v_X1_standUpTo_b9 n) (x2 + (-1)) g) else (some x2))))
    refine cr_iload_n hok dX1_standUpTo_9 rfl ?_
    refine cr_iflt (tgt := 29) hok rfl dX1_standUpTo_10 (by decide) (fun _ => ?_) (fun _ => ?_)
    · refine cr_iconst hok dX1_standUpTo_29 ?_
      exact cr_iret hok dX1_standUpTo_30
    · refine cr_aload_n hok dX1_standUpTo_13 rfl ?_
      refine cr_iload_n hok dX1_standUpTo_14 rfl ?_
      refine cr_cvr (as := [.inl x2]) (rest := []) hok lk_RX1_115 (by decide) (by decide) dX1_standUpTo_15 (fun q1 hq1 => C_X1_isStand hJ _ _ q1 hq1) rfl rfl (Nat.le_of_ble_eq_true rfl) skC_b2 skC_c2 rfl (fun r1 => ?_)
      refine cr_ifeq (tgt := 23) hok rfl dX1_standUpTo_18 (by decide) (fun _ => ?_) (fun _ => ?_)
      · refine cr_iinc (ls' := [some (.inr 2), none, some (.inl (x2 + (-1)))]) hok dX1_standUpTo_23 rfl (by decide) rfl ?_
        refine cr_goto (tgt := 9) hok dX1_standUpTo_26 (by decide) ?_
        refine cr_fewer (ls' := [some (.inr 2), none, some (.inl (x2 + (-1)))]) ⟨rfl, ⟨rfl, trivial⟩⟩ ?_
        exact hk9 _ _
      · refine cr_iload_n hok dX1_standUpTo_21 rfl ?_
        exact cr_iret hok dX1_standUpTo_22
def v_X1_standUpTo (g : cb_S) (x1 : Int) : Option Int := v_X1_standUpTo_b9  cb_N (if cb_w x1 ≤ cb_w (g 2 9) then x1 else g 2 9) g
set_option maxRecDepth 100000 in
theorem C_X1_standUpTo {O : cb_O} (hJ : cb_J O skC) (x1 : Int) (g : cb_S) : ∀ q, v_X1_standUpTo g x1 = some q → cb_m O skC false yX1_standUpTo cX1_standUpTo 3 (some .int) rm_X1_standUpTo [.inr 2, .inl x1] g (q, g) := by
  intro q hq
  refine cr_of_body hJ (by decide) (Nat.le_of_ble_eq_true rfl) hq (fun M hok => ?_)
  show cb_jr _ _ _ _ _ _ [some (.inr 2), some (.inl x1), none] _ _ (v_X1_standUpTo_b9  cb_N (if cb_w x1 ≤ cb_w (g 2 9) then x1 else g 2 9) g)
  refine cr_iload_n hok dX1_standUpTo_0 rfl ?_
  refine cr_aload_n hok dX1_standUpTo_1 rfl ?_
  refine cr_gi hok dX1_standUpTo_2 fl_RX1_57 skC_b2 skC_c2 rfl ?_
  refine cr_min hok lm_RX1_118 (by decide) (Nat.le_of_ble_eq_true rfl) dX1_standUpTo_5 ?_
  refine cr_istore_n (ls' := [some (.inr 2), some (.inl x1), some (.inl (if cb_w x1 ≤ cb_w (g 2 9) then x1 else g 2 9))]) hok dX1_standUpTo_8 (by decide) rfl ?_
  refine cr_fewer (ls' := [some (.inr 2), none, some (.inl (if cb_w x1 ≤ cb_w (g 2 9) then x1 else g 2 9))]) ⟨rfl, ⟨rfl, trivial⟩⟩ ?_
  exact J_X1_standUpTo_b9 hJ hok  cb_N _ _
/-! CaretBench$History number()I -/
def v_X2_number (g : cb_S) : Option Int := some (g 7 5)
set_option maxRecDepth 100000 in
theorem C_X2_number {O : cb_O} (hJ : cb_J O skC) (g : cb_S) : ∀ q, v_X2_number g = some q → cb_m O skC false yX2_number cX2_number 1 (some .int) rm_X2_number [.inr 7] g (q, g) := by
  intro q hq
  refine cr_of_body hJ (by decide) (Nat.le_of_ble_eq_true rfl) hq (fun M hok => ?_)
  show cb_jr _ _ _ _ _ _ [some (.inr 7)] _ _ (some (g 7 5))
  refine cr_aload_n hok dX2_number_0 rfl ?_
  refine cr_gi hok dX2_number_1 fl_RX2_30 skC_b7 skC_c7 rfl ?_
  exact cr_iret hok dX2_number_4
/-! CaretBench$Line saveTo([I)V -/
def f_X3_saveTo_b2 (a1 la1 : Nat) : Nat → Int → cb_S → Option (Int × cb_S)
  | 0 => fun _ _ => none
  | n + 1 => fun x2 g => if cb_w (g 1 1) ≤ cb_w x2 then (some (0, g)) else (if cb_w (la1 : Nat) ≤ cb_w x2 then (some (0, g)) else (if 0 ≤ cb_w x2 ∧ cb_w x2 < (60 : Nat) then (if 0 ≤ cb_w x2 ∧ cb_w x2 < (la1 : Nat) then ((f_X3_saveTo_b2 a1 la1 n) (x2 + 1) (cb_u g a1 (cb_w x2).toNat (g 8 ((cb_w x2).toNat)))) else none) else none))
set_option maxRecDepth 100000 in
theorem J_X3_saveTo_b2 {O : cb_O} {M : cb_M} (hJ : cb_J O skC) (hok : cb_ok O skC M cX3_saveTo 3 RX3 none) (a1 la1 : Nat) (ha1 : a1 < skC.2) (hc1 : skC.1 a1 = .inl (0, la1)) : ∀ (n : Nat) (x2 : Int) (g : cb_S), cb_j O skC true rm_X3_saveTo M 3 2 [some (.inr 1), some (.inr a1), some (.inl x2)] [] g (f_X3_saveTo_b2 a1 la1 n x2 g) := by
  intro n
  induction n with
  | zero => intros; exact cb_none
  | succ n hk2 =>
    intro x2 g
    show cb_j _ _ _ _ _ _ _ _ _ _ (if cb_w (g 1 1) ≤ cb_w x2 then (some (0, g)) else (if cb_w (la1 : Nat) ≤ cb_w x2 then (some (0, g)) else (if 0 ≤ cb_w x2 ∧ cb_w x2 < (60 : Nat) then (if 0 ≤ cb_w x2 ∧ cb_w x2 < (la1 : Nat) then ((f_X3_saveTo_b2 a1 la1 n) (x2 + 1) (cb_u g a1 (cb_w x2).toNat (g 8 ((cb_w x2).toNat)))) else none) else none)))
    refine cb_iload_n hok dX3_saveTo_2 rfl ?_
    refine cb_aload_n hok dX3_saveTo_3 rfl ?_
    refine cb_gi hok dX3_saveTo_4 fl_RX3_15 skC_b1 skC_c1 rfl ?_
    refine cb_icge (tgt := 31) hok rfl rfl dX3_saveTo_7 (by decide) (fun _ => ?_) (fun _ => ?_)
    · exact cb_vret hok dX3_saveTo_31
    · refine cb_iload_n hok dX3_saveTo_10 rfl ?_
      refine cb_aload_n hok dX3_saveTo_11 rfl ?_
      refine cb_alen hok dX3_saveTo_12 ha1 hc1 (Or.inl rfl) ?_
      refine cb_icge (tgt := 31) hok rfl rfl dX3_saveTo_13 (by decide) (fun _ => ?_) (fun _ => ?_)
      · exact cb_vret hok dX3_saveTo_31
      · refine cb_aload_n hok dX3_saveTo_16 rfl ?_
        refine cb_iload_n hok dX3_saveTo_17 rfl ?_
        refine cb_aload_n hok dX3_saveTo_18 rfl ?_
        refine cb_gr hok dX3_saveTo_19 fl_RX3_9 skC_b1 skC_c1 rfl ?_
        refine cb_iload_n hok dX3_saveTo_22 rfl ?_
        refine cb_iald hok dX3_saveTo_23 skC_b8 skC_c8 ?_
        refine cb_iast hok dX3_saveTo_24 ha1 hc1 ?_
        refine cb_iinc (ls' := [some (.inr 1), some (.inr a1), some (.inl (x2 + 1))]) hok dX3_saveTo_25 rfl (by decide) rfl ?_
        refine cb_goto (tgt := 2) hok dX3_saveTo_28 (by decide) ?_
        refine cb_fewer (ls' := [some (.inr 1), some (.inr a1), some (.inl (x2 + 1))]) ⟨rfl, ⟨rfl, ⟨rfl, trivial⟩⟩⟩ ?_
        exact hk2 _ _
def f_X3_saveTo (g : cb_S) (a1 la1 : Nat) : Option (Int × cb_S) := f_X3_saveTo_b2 a1 la1  cb_N 0 g
set_option maxRecDepth 100000 in
theorem C_X3_saveTo {O : cb_O} (hJ : cb_J O skC) (a1 la1 : Nat) (ha1 : a1 < skC.2) (hc1 : skC.1 a1 = .inl (0, la1)) (g : cb_S) : ∀ q, f_X3_saveTo g a1 la1 = some q → cb_m O skC true yX3_saveTo cX3_saveTo 3 none rm_X3_saveTo [.inr 1, .inr a1] g q := by
  intro q hq
  refine cb_of_body hJ (by decide) (Nat.le_of_ble_eq_true rfl) hq (fun M hok => ?_)
  show cb_j _ _ _ _ _ _ _ [some (.inr 1), some (.inr a1), none] _ _ (f_X3_saveTo_b2 a1 la1  cb_N 0 g)
  refine cb_iconst hok dX3_saveTo_0 ?_
  refine cb_istore_n (ls' := [some (.inr 1), some (.inr a1), some (.inl 0)]) hok dX3_saveTo_1 (by decide) rfl ?_
  refine cb_fewer (ls' := [some (.inr 1), some (.inr a1), some (.inl 0)]) ⟨rfl, ⟨rfl, ⟨rfl, trivial⟩⟩⟩ ?_
  exact J_X3_saveTo_b2 hJ hok a1 la1 ha1 hc1  cb_N _ _
/-! CaretBench$History keep(LCaretBench$Line;II)V -/
def f_X2_keep_b83 (s0 : Int) (g : cb_S) : Option (Int × cb_S) := some (0, cb_u (cb_u g 7 4 s0) 7 5 (if cb_w ((g 7 5) + 1) ≤ cb_w 8 then (g 7 5) + 1 else 8))
set_option maxRecDepth 100000 in
theorem J_X2_keep_b83 {O : cb_O} {M : cb_M} (hJ : cb_J O skC) (hok : cb_ok O skC M cX2_keep 4 RX2 none) : ∀ (s0 : Int) (g : cb_S), cb_j O skC true rm_X2_keep M 4 83 [some (.inr 7), none, none, none] [.inl s0, .inr 7] g (f_X2_keep_b83 s0 g) := by
  intro s0 g
  show cb_j _ _ _ _ _ _ _ _ _ _ (some (0, cb_u (cb_u g 7 4 s0) 7 5 (if cb_w ((g 7 5) + 1) ≤ cb_w 8 then (g 7 5) + 1 else 8)))
  refine cb_pi hok dX2_keep_83 fp_RX2_26 skC_b7 skC_c7 rfl ?_
  refine cb_aload_n hok dX2_keep_86 rfl ?_
  refine cb_aload_n hok dX2_keep_87 rfl ?_
  refine cb_gi hok dX2_keep_88 fl_RX2_30 skC_b7 skC_c7 rfl ?_
  refine cb_top (y := g 7 5) rfl ?_
  refine cb_iconst hok dX2_keep_91 ?_
  refine cb_iadd hok dX2_keep_92 ?_
  refine cb_bipush hok dX2_keep_93 (by decide) ?_
  refine cb_min hok lm_RX2_43 (by decide) (Nat.le_of_ble_eq_true rfl) dX2_keep_95 ?_
  refine cb_pi hok dX2_keep_98 fp_RX2_30 skC_b7 skC_c7 rfl ?_
  exact cb_vret hok dX2_keep_101
def f_X2_keep (g : cb_S) (x2 : Int) (x3 : Int) : Option (Int × cb_S) := if cb_w (g 7 4) < 0 then (some (0, g)) else (if cb_w (g 7 4) < 8 then (if 0 ≤ cb_w (g 7 4) ∧ cb_w (g 7 4) < (8 : Nat) then (cb_b (f_X3_saveTo g (36 + (cb_w (g 7 4)).toNat) 60) (fun r1 g1 => (v_X3_length g1 ).bind (fun r2 => if 0 ≤ cb_w (g1 7 4) ∧ cb_w (g1 7 4) < (8 : Nat) then (if 0 ≤ cb_w (g1 7 4) ∧ cb_w (g1 7 4) < (8 : Nat) then (if 0 ≤ cb_w (g1 7 4) ∧ cb_w (g1 7 4) < (8 : Nat) then (if cb_w (g1 7 4) = 7 then (f_X2_keep_b83  0 (cb_u (cb_u (cb_u g1 33 (cb_w (g1 7 4)).toNat r2) 34 (cb_w (g1 7 4)).toNat x2) 35 (cb_w (g1 7 4)).toNat x3)) else (f_X2_keep_b83  ((g1 7 4) + 1) (cb_u (cb_u (cb_u g1 33 (cb_w (g1 7 4)).toNat r2) 34 (cb_w (g1 7 4)).toNat x2) 35 (cb_w (g1 7 4)).toNat x3))) else none) else none) else none))) else none) else (some (0, g)))
set_option maxRecDepth 100000 in
theorem C_X2_keep {O : cb_O} (hJ : cb_J O skC) (x2 : Int) (x3 : Int) (g : cb_S) : ∀ q, f_X2_keep g x2 x3 = some q → cb_m O skC true yX2_keep cX2_keep 4 none rm_X2_keep [.inr 7, .inr 1, .inl x2, .inl x3] g q := by
  intro q hq
  refine cb_of_body hJ (by decide) (Nat.le_of_ble_eq_true rfl) hq (fun M hok => ?_)
  show cb_j _ _ _ _ _ _ _ [some (.inr 7), some (.inr 1), some (.inl x2), some (.inl x3)] _ _ (if cb_w (g 7 4) < 0 then (some (0, g)) else (if cb_w (g 7 4) < 8 then (if 0 ≤ cb_w (g 7 4) ∧ cb_w (g 7 4) < (8 : Nat) then (cb_b (f_X3_saveTo g (36 + (cb_w (g 7 4)).toNat) 60) (fun r1 g1 => (v_X3_length g1 ).bind (fun r2 => if 0 ≤ cb_w (g1 7 4) ∧ cb_w (g1 7 4) < (8 : Nat) then (if 0 ≤ cb_w (g1 7 4) ∧ cb_w (g1 7 4) < (8 : Nat) then (if 0 ≤ cb_w (g1 7 4) ∧ cb_w (g1 7 4) < (8 : Nat) then (if cb_w (g1 7 4) = 7 then (f_X2_keep_b83  0 (cb_u (cb_u (cb_u g1 33 (cb_w (g1 7 4)).toNat r2) 34 (cb_w (g1 7 4)).toNat x2) 35 (cb_w (g1 7 4)).toNat x3)) else (f_X2_keep_b83  ((g1 7 4) + 1) (cb_u (cb_u (cb_u g1 33 (cb_w (g1 7 4)).toNat r2) 34 (cb_w (g1 7 4)).toNat x2) 35 (cb_w (g1 7 4)).toNat x3))) else none) else none) else none))) else none) else (some (0, g))))
  refine cb_aload_n hok dX2_keep_0 rfl ?_
  refine cb_gi hok dX2_keep_1 fl_RX2_26 skC_b7 skC_c7 rfl ?_
  refine cb_iflt (tgt := 16) hok rfl dX2_keep_4 (by decide) (fun _ => ?_) (fun _ => ?_)
  · exact cb_vret hok dX2_keep_16
  · refine cb_aload_n hok dX2_keep_7 rfl ?_
    refine cb_gi hok dX2_keep_8 fl_RX2_26 skC_b7 skC_c7 rfl ?_
    refine cb_bipush hok dX2_keep_11 (by decide) ?_
    refine cb_iclt (tgt := 17) hok rfl (by decide) dX2_keep_13 (by decide) (fun _ => ?_) (fun _ => ?_)
    · refine cb_aload_n hok dX2_keep_17 rfl ?_
      refine cb_aload_n hok dX2_keep_18 rfl ?_
      refine cb_gr hok dX2_keep_19 fl_RX2_11 skC_b7 skC_c7 rfl ?_
      refine cb_aload_n hok dX2_keep_22 rfl ?_
      refine cb_gi hok dX2_keep_23 fl_RX2_26 skC_b7 skC_c7 rfl ?_
      refine cb_aald hok dX2_keep_26 skC_b32 skC_c32 (fun hc1 => ?_)
      refine cb_cvv (as := [.inr (36 + (cb_w (g 7 4)).toNat)]) (rest := []) hok lk_RX2_33 (by decide) (by decide) dX2_keep_27 (fun q1 hq1 => C_X3_saveTo hJ (36 + (cb_w (g 7 4)).toNat) 60 (skC_rb hc1) (skC_rc hc1) _ q1 hq1) rfl rfl (Nat.le_of_ble_eq_true rfl) skC_b1 skC_c1 rfl (fun r1 g1 => ?_)
      refine cb_aload_n hok dX2_keep_30 rfl ?_
      refine cb_gr hok dX2_keep_31 fl_RX2_16 skC_b7 skC_c7 rfl ?_
      refine cb_aload_n hok dX2_keep_34 rfl ?_
      refine cb_gi hok dX2_keep_35 fl_RX2_26 skC_b7 skC_c7 rfl ?_
      refine cb_aload_n hok dX2_keep_38 rfl ?_
      refine cb_cvr (as := []) (rest := [.inl (g1 7 4), .inr 33]) hok lk_RX2_39 (by decide) (by decide) dX2_keep_39 (fun q1 hq1 => C_X3_length hJ _ q1 hq1) rfl rfl (Nat.le_of_ble_eq_true rfl) skC_b1 skC_c1 rfl (fun r2 => ?_)
      refine cb_iast hok dX2_keep_42 skC_b33 skC_c33 ?_
      refine cb_aload_n hok dX2_keep_43 rfl ?_
      refine cb_gr hok dX2_keep_44 fl_RX2_20 skC_b7 skC_c7 rfl ?_
      refine cb_aload_n hok dX2_keep_47 rfl ?_
      refine cb_gi hok dX2_keep_48 fl_RX2_26 skC_b7 skC_c7 rfl ?_
      refine cb_top (y := g1 7 4) rfl ?_
      refine cb_iload_n hok dX2_keep_51 rfl ?_
      refine cb_iast hok dX2_keep_52 skC_b34 skC_c34 ?_
      refine cb_aload_n hok dX2_keep_53 rfl ?_
      refine cb_gr hok dX2_keep_54 fl_RX2_23 skC_b7 skC_c7 rfl ?_
      refine cb_aload_n hok dX2_keep_57 rfl ?_
      refine cb_gi hok dX2_keep_58 fl_RX2_26 skC_b7 skC_c7 rfl ?_
      refine cb_top (y := g1 7 4) rfl ?_
      refine cb_iload_n hok dX2_keep_61 rfl ?_
      refine cb_iast hok dX2_keep_62 skC_b35 skC_c35 ?_
      refine cb_aload_n hok dX2_keep_63 rfl ?_
      refine cb_aload_n hok dX2_keep_64 rfl ?_
      refine cb_gi hok dX2_keep_65 fl_RX2_26 skC_b7 skC_c7 rfl ?_
      refine cb_top (y := g1 7 4) rfl ?_
      refine cb_bipush hok dX2_keep_68 (by decide) ?_
      refine cb_icne (tgt := 77) hok rfl (by decide) dX2_keep_70 (by decide) (fun _ => ?_) (fun _ => ?_)
      · refine cb_aload_n hok dX2_keep_77 rfl ?_
        refine cb_gi hok dX2_keep_78 fl_RX2_26 skC_b7 skC_c7 rfl ?_
        refine cb_top (y := g1 7 4) rfl ?_
        refine cb_iconst hok dX2_keep_81 ?_
        refine cb_iadd hok dX2_keep_82 ?_
        refine cb_fewer (ls' := [some (.inr 7), none, none, none]) ⟨rfl, trivial⟩ ?_
        exact J_X2_keep_b83 hJ hok  _ _
      · refine cb_iconst hok dX2_keep_73 ?_
        refine cb_goto (tgt := 83) hok dX2_keep_74 (by decide) ?_
        refine cb_fewer (ls' := [some (.inr 7), none, none, none]) ⟨rfl, trivial⟩ ?_
        exact J_X2_keep_b83 hJ hok  _ _
    · exact cb_vret hok dX2_keep_16
/-! CaretBench$Line loadFrom([II)V -/
def f_X3_loadFrom_b7 (a1 la1 : Nat) : Nat → Int → Int → cb_S → Option (Int × cb_S)
  | 0 => fun _ _ _ => none
  | n + 1 => fun x2 x3 g => if cb_w x2 ≤ cb_w x3 then (some (0, g)) else (if cb_w (la1 : Nat) ≤ cb_w x3 then (some (0, g)) else (if 60 ≤ cb_w x3 then (some (0, g)) else (if 0 ≤ cb_w x3 ∧ cb_w x3 < (la1 : Nat) then (if 0 ≤ cb_w x3 ∧ cb_w x3 < (60 : Nat) then ((f_X3_loadFrom_b7 a1 la1 n) x2 (x3 + 1) (cb_u (cb_u g 8 (cb_w x3).toNat (g a1 ((cb_w x3).toNat))) 1 1 ((g 1 1) + 1))) else none) else none)))
set_option maxRecDepth 100000 in
theorem J_X3_loadFrom_b7 {O : cb_O} {M : cb_M} (hJ : cb_J O skC) (hok : cb_ok O skC M cX3_loadFrom 4 RX3 none) (a1 la1 : Nat) (ha1 : a1 < skC.2) (hc1 : skC.1 a1 = .inl (0, la1)) : ∀ (n : Nat) (x2 x3 : Int) (g : cb_S), cb_j O skC true rm_X3_loadFrom M 4 7 [some (.inr 1), some (.inr a1), some (.inl x2), some (.inl x3)] [] g (f_X3_loadFrom_b7 a1 la1 n x2 x3 g) := by
  intro n
  induction n with
  | zero => intros; exact cb_none
  | succ n hk7 =>
    intro x2 x3 g
    show cb_j _ _ _ _ _ _ _ _ _ _ (if cb_w x2 ≤ cb_w x3 then (some (0, g)) else (if cb_w (la1 : Nat) ≤ cb_w x3 then (some (0, g)) else (if 60 ≤ cb_w x3 then (some (0, g)) else (if 0 ≤ cb_w x3 ∧ cb_w x3 < (la1 : Nat) then (if 0 ≤ cb_w x3 ∧ cb_w x3 < (60 : Nat) then ((f_X3_loadFrom_b7 a1 la1 n) x2 (x3 + 1) (cb_u (cb_u g 8 (cb_w x3).toNat (g a1 ((cb_w x3).toNat))) 1 1 ((g 1 1) + 1))) else none) else none))))
    refine cb_iload_n hok dX3_loadFrom_7 rfl ?_
    refine cb_iload_n hok dX3_loadFrom_8 rfl ?_
    refine cb_icge (tgt := 49) hok rfl rfl dX3_loadFrom_9 (by decide) (fun _ => ?_) (fun _ => ?_)
    · exact cb_vret hok dX3_loadFrom_49
    · refine cb_iload_n hok dX3_loadFrom_12 rfl ?_
      refine cb_aload_n hok dX3_loadFrom_13 rfl ?_
      refine cb_alen hok dX3_loadFrom_14 ha1 hc1 (Or.inl rfl) ?_
      refine cb_icge (tgt := 49) hok rfl rfl dX3_loadFrom_15 (by decide) (fun _ => ?_) (fun _ => ?_)
      · exact cb_vret hok dX3_loadFrom_49
      · refine cb_iload_n hok dX3_loadFrom_18 rfl ?_
        refine cb_bipush hok dX3_loadFrom_19 (by decide) ?_
        refine cb_icge (tgt := 49) hok rfl (by decide) dX3_loadFrom_21 (by decide) (fun _ => ?_) (fun _ => ?_)
        · exact cb_vret hok dX3_loadFrom_49
        · refine cb_aload_n hok dX3_loadFrom_24 rfl ?_
          refine cb_gr hok dX3_loadFrom_25 fl_RX3_9 skC_b1 skC_c1 rfl ?_
          refine cb_iload_n hok dX3_loadFrom_28 rfl ?_
          refine cb_aload_n hok dX3_loadFrom_29 rfl ?_
          refine cb_iload_n hok dX3_loadFrom_30 rfl ?_
          refine cb_iald hok dX3_loadFrom_31 ha1 hc1 ?_
          refine cb_iast hok dX3_loadFrom_32 skC_b8 skC_c8 ?_
          refine cb_aload_n hok dX3_loadFrom_33 rfl ?_
          refine cb_dup hok dX3_loadFrom_34 ?_
          refine cb_gi hok dX3_loadFrom_35 fl_RX3_15 skC_b1 skC_c1 rfl ?_
          refine cb_top (y := g 1 1) rfl ?_
          refine cb_iconst hok dX3_loadFrom_38 ?_
          refine cb_iadd hok dX3_loadFrom_39 ?_
          refine cb_pi hok dX3_loadFrom_40 fp_RX3_15 skC_b1 skC_c1 rfl ?_
          refine cb_iinc (ls' := [some (.inr 1), some (.inr a1), some (.inl x2), some (.inl (x3 + 1))]) hok dX3_loadFrom_43 rfl (by decide) rfl ?_
          refine cb_goto (tgt := 7) hok dX3_loadFrom_46 (by decide) ?_
          refine cb_fewer (ls' := [some (.inr 1), some (.inr a1), some (.inl x2), some (.inl (x3 + 1))]) ⟨rfl, ⟨rfl, ⟨rfl, ⟨rfl, trivial⟩⟩⟩⟩ ?_
          exact hk7 _ _ _
def f_X3_loadFrom (g : cb_S) (a1 la1 : Nat) (x2 : Int) : Option (Int × cb_S) := f_X3_loadFrom_b7 a1 la1  cb_N x2 0 (cb_u g 1 1 0)
set_option maxRecDepth 100000 in
theorem C_X3_loadFrom {O : cb_O} (hJ : cb_J O skC) (a1 la1 : Nat) (ha1 : a1 < skC.2) (hc1 : skC.1 a1 = .inl (0, la1)) (x2 : Int) (g : cb_S) : ∀ q, f_X3_loadFrom g a1 la1 x2 = some q → cb_m O skC true yX3_loadFrom cX3_loadFrom 4 none rm_X3_loadFrom [.inr 1, .inr a1, .inl x2] g q := by
  intro q hq
  refine cb_of_body hJ (by decide) (Nat.le_of_ble_eq_true rfl) hq (fun M hok => ?_)
  show cb_j _ _ _ _ _ _ _ [some (.inr 1), some (.inr a1), some (.inl x2), none] _ _ (f_X3_loadFrom_b7 a1 la1  cb_N x2 0 (cb_u g 1 1 0))
  refine cb_aload_n hok dX3_loadFrom_0 rfl ?_
  refine cb_iconst hok dX3_loadFrom_1 ?_
  refine cb_pi hok dX3_loadFrom_2 fp_RX3_15 skC_b1 skC_c1 rfl ?_
  refine cb_iconst hok dX3_loadFrom_5 ?_
  refine cb_istore_n (ls' := [some (.inr 1), some (.inr a1), some (.inl x2), some (.inl 0)]) hok dX3_loadFrom_6 (by decide) rfl ?_
  refine cb_fewer (ls' := [some (.inr 1), some (.inr a1), some (.inl x2), some (.inl 0)]) ⟨rfl, ⟨rfl, ⟨rfl, ⟨rfl, trivial⟩⟩⟩⟩ ?_
  exact J_X3_loadFrom_b7 hJ hok a1 la1 ha1 hc1  cb_N _ _ _
/-! CaretBench$History takeBack(LCaretBench$Line;)Z -/
def f_X2_takeBack_b28 (s0 : Int) (g : cb_S) : Option (Int × cb_S) := if 8 ≤ cb_w s0 then (some (1, cb_u (cb_u g 7 4 s0) 7 5 ((g 7 5) - 1))) else (if 0 ≤ cb_w s0 ∧ cb_w s0 < (8 : Nat) then (if 0 ≤ cb_w s0 ∧ cb_w s0 < (8 : Nat) then (cb_b (f_X3_loadFrom (cb_u (cb_u g 7 4 s0) 7 5 ((g 7 5) - 1)) (36 + (cb_w s0).toNat) 60 (g 33 ((cb_w s0).toNat))) (fun r1 g1 => some (1, g1))) else none) else none)
set_option maxRecDepth 100000 in
theorem J_X2_takeBack_b28 {O : cb_O} {M : cb_M} (hJ : cb_J O skC) (hok : cb_ok O skC M cX2_takeBack 2 RX2 (some .boolean)) : ∀ (s0 : Int) (g : cb_S), cb_j O skC false rm_X2_takeBack M 2 28 [some (.inr 7), some (.inr 1)] [.inl s0, .inr 7] g (f_X2_takeBack_b28 s0 g) := by
  intro s0 g
  show cb_j _ _ _ _ _ _ _ _ _ _ (if 8 ≤ cb_w s0 then (some (1, cb_u (cb_u g 7 4 s0) 7 5 ((g 7 5) - 1))) else (if 0 ≤ cb_w s0 ∧ cb_w s0 < (8 : Nat) then (if 0 ≤ cb_w s0 ∧ cb_w s0 < (8 : Nat) then (cb_b (f_X3_loadFrom (cb_u (cb_u g 7 4 s0) 7 5 ((g 7 5) - 1)) (36 + (cb_w s0).toNat) 60 (g 33 ((cb_w s0).toNat))) (fun r1 g1 => some (1, g1))) else none) else none))
  refine cb_pi hok dX2_takeBack_28 fp_RX2_26 skC_b7 skC_c7 rfl ?_
  refine cb_aload_n hok dX2_takeBack_31 rfl ?_
  refine cb_dup hok dX2_takeBack_32 ?_
  refine cb_gi hok dX2_takeBack_33 fl_RX2_30 skC_b7 skC_c7 rfl ?_
  refine cb_top (y := g 7 5) rfl ?_
  refine cb_iconst hok dX2_takeBack_36 ?_
  refine cb_isub hok dX2_takeBack_37 ?_
  refine cb_pi hok dX2_takeBack_38 fp_RX2_30 skC_b7 skC_c7 rfl ?_
  refine cb_aload_n hok dX2_takeBack_41 rfl ?_
  refine cb_gi hok dX2_takeBack_42 fl_RX2_26 skC_b7 skC_c7 rfl ?_
  refine cb_top (y := s0) rfl ?_
  refine cb_bipush hok dX2_takeBack_45 (by decide) ?_
  refine cb_icge (tgt := 72) hok rfl (by decide) dX2_takeBack_47 (by decide) (fun _ => ?_) (fun _ => ?_)
  · refine cb_iconst hok dX2_takeBack_72 ?_
    exact cb_zret hok dX2_takeBack_73 (by decide)
  · refine cb_aload_n hok dX2_takeBack_50 rfl ?_
    refine cb_aload_n hok dX2_takeBack_51 rfl ?_
    refine cb_gr hok dX2_takeBack_52 fl_RX2_11 skC_b7 skC_c7 rfl ?_
    refine cb_aload_n hok dX2_takeBack_55 rfl ?_
    refine cb_gi hok dX2_takeBack_56 fl_RX2_26 skC_b7 skC_c7 rfl ?_
    refine cb_top (y := s0) rfl ?_
    refine cb_aald hok dX2_takeBack_59 skC_b32 skC_c32 (fun hc1 => ?_)
    refine cb_aload_n hok dX2_takeBack_60 rfl ?_
    refine cb_gr hok dX2_takeBack_61 fl_RX2_16 skC_b7 skC_c7 rfl ?_
    refine cb_aload_n hok dX2_takeBack_64 rfl ?_
    refine cb_gi hok dX2_takeBack_65 fl_RX2_26 skC_b7 skC_c7 rfl ?_
    refine cb_top (y := s0) rfl ?_
    refine cb_iald hok dX2_takeBack_68 skC_b33 skC_c33 ?_
    refine cb_top (y := g 33 ((cb_w s0).toNat)) (by first | rfl | (simp [cb_u])) ?_
    refine cb_cvv (as := [.inr (36 + (cb_w s0).toNat), .inl (g 33 ((cb_w s0).toNat))]) (rest := []) hok lk_RX2_49 (by decide) (by decide) dX2_takeBack_69 (fun q1 hq1 => C_X3_loadFrom hJ (36 + (cb_w s0).toNat) 60 (skC_rb hc1) (skC_rc hc1) _ _ q1 hq1) rfl rfl (Nat.le_of_ble_eq_true rfl) skC_b1 skC_c1 rfl (fun r1 g1 => ?_)
    refine cb_iconst hok dX2_takeBack_72 ?_
    exact cb_zret hok dX2_takeBack_73 (by decide)
def f_X2_takeBack (g : cb_S) : Option (Int × cb_S) := if 0 < cb_w (g 7 5) then (if 0 < cb_w (g 7 4) then (f_X2_takeBack_b28  ((g 7 4) - 1) g) else (f_X2_takeBack_b28  7 g)) else (some (0, g))
set_option maxRecDepth 100000 in
theorem C_X2_takeBack {O : cb_O} (hJ : cb_J O skC) (g : cb_S) : ∀ q, f_X2_takeBack g = some q → cb_m O skC false yX2_takeBack cX2_takeBack 2 (some .boolean) rm_X2_takeBack [.inr 7, .inr 1] g q := by
  intro q hq
  refine cb_of_body hJ (by decide) (Nat.le_of_ble_eq_true rfl) hq (fun M hok => ?_)
  show cb_j _ _ _ _ _ _ _ [some (.inr 7), some (.inr 1)] _ _ (if 0 < cb_w (g 7 5) then (if 0 < cb_w (g 7 4) then (f_X2_takeBack_b28  ((g 7 4) - 1) g) else (f_X2_takeBack_b28  7 g)) else (some (0, g)))
  refine cb_aload_n hok dX2_takeBack_0 rfl ?_
  refine cb_gi hok dX2_takeBack_1 fl_RX2_30 skC_b7 skC_c7 rfl ?_
  refine cb_ifgt (tgt := 9) hok rfl dX2_takeBack_4 (by decide) (fun _ => ?_) (fun _ => ?_)
  · refine cb_aload_n hok dX2_takeBack_9 rfl ?_
    refine cb_aload_n hok dX2_takeBack_10 rfl ?_
    refine cb_gi hok dX2_takeBack_11 fl_RX2_26 skC_b7 skC_c7 rfl ?_
    refine cb_ifgt (tgt := 22) hok rfl dX2_takeBack_14 (by decide) (fun _ => ?_) (fun _ => ?_)
    · refine cb_aload_n hok dX2_takeBack_22 rfl ?_
      refine cb_gi hok dX2_takeBack_23 fl_RX2_26 skC_b7 skC_c7 rfl ?_
      refine cb_iconst hok dX2_takeBack_26 ?_
      refine cb_isub hok dX2_takeBack_27 ?_
      refine cb_fewer (ls' := [some (.inr 7), some (.inr 1)]) ⟨rfl, ⟨rfl, trivial⟩⟩ ?_
      exact J_X2_takeBack_b28 hJ hok  _ _
    · refine cb_bipush hok dX2_takeBack_17 (by decide) ?_
      refine cb_goto (tgt := 28) hok dX2_takeBack_19 (by decide) ?_
      refine cb_fewer (ls' := [some (.inr 7), some (.inr 1)]) ⟨rfl, ⟨rfl, trivial⟩⟩ ?_
      exact J_X2_takeBack_b28 hJ hok  _ _
  · refine cb_iconst hok dX2_takeBack_7 ?_
    exact cb_zret hok dX2_takeBack_8 (by decide)
/-! CaretBench$History standTaken()I -/
def v_X2_standTaken (g : cb_S) : Option Int := (v_X8_valueAt g 34 8 (g 7 4) 0).bind (fun r1 => some r1)
set_option maxRecDepth 100000 in
theorem C_X2_standTaken {O : cb_O} (hJ : cb_J O skC) (g : cb_S) : ∀ q, v_X2_standTaken g = some q → cb_m O skC false yX2_standTaken cX2_standTaken 1 (some .int) rm_X2_standTaken [.inr 7] g (q, g) := by
  intro q hq
  refine cr_of_body hJ (by decide) (Nat.le_of_ble_eq_true rfl) hq (fun M hok => ?_)
  show cb_jr _ _ _ _ _ _ [some (.inr 7)] _ _ ((v_X8_valueAt g 34 8 (g 7 4) 0).bind (fun r1 => some r1))
  refine cr_aload_n hok dX2_standTaken_0 rfl ?_
  refine cr_gr hok dX2_standTaken_1 fl_RX2_20 skC_b7 skC_c7 rfl ?_
  refine cr_aload_n hok dX2_standTaken_4 rfl ?_
  refine cr_gi hok dX2_standTaken_5 fl_RX2_26 skC_b7 skC_c7 rfl ?_
  refine cr_iconst hok dX2_standTaken_8 ?_
  refine cr_cnr (as := [.inr 34, .inl (g 7 4), .inl 0]) (rest := []) hok lk_RX2_53 (by decide) (by decide) dX2_standTaken_9 (fun q1 hq1 => C_X8_valueAt hJ 34 8 skC_b34 skC_c34 _ _ _ q1 hq1) rfl rfl (Nat.le_of_ble_eq_true rfl) (fun r1 => ?_)
  exact cr_iret hok dX2_standTaken_12
/-! CaretBench$History sideTaken()I -/
def v_X2_sideTaken (g : cb_S) : Option Int := (v_X8_valueAt g 35 8 (g 7 4) 0).bind (fun r1 => some r1)
set_option maxRecDepth 100000 in
theorem C_X2_sideTaken {O : cb_O} (hJ : cb_J O skC) (g : cb_S) : ∀ q, v_X2_sideTaken g = some q → cb_m O skC false yX2_sideTaken cX2_sideTaken 1 (some .int) rm_X2_sideTaken [.inr 7] g (q, g) := by
  intro q hq
  refine cr_of_body hJ (by decide) (Nat.le_of_ble_eq_true rfl) hq (fun M hok => ?_)
  show cb_jr _ _ _ _ _ _ [some (.inr 7)] _ _ ((v_X8_valueAt g 35 8 (g 7 4) 0).bind (fun r1 => some r1))
  refine cr_aload_n hok dX2_sideTaken_0 rfl ?_
  refine cr_gr hok dX2_sideTaken_1 fl_RX2_23 skC_b7 skC_c7 rfl ?_
  refine cr_aload_n hok dX2_sideTaken_4 rfl ?_
  refine cr_gi hok dX2_sideTaken_5 fl_RX2_26 skC_b7 skC_c7 rfl ?_
  refine cr_iconst hok dX2_sideTaken_8 ?_
  refine cr_cnr (as := [.inr 35, .inl (g 7 4), .inl 0]) (rest := []) hok lk_RX2_53 (by decide) (by decide) dX2_sideTaken_9 (fun q1 hq1 => C_X8_valueAt hJ 35 8 skC_b35 skC_c35 _ _ _ q1 hq1) rfl rfl (Nat.le_of_ble_eq_true rfl) (fun r1 => ?_)
  exact cr_iret hok dX2_sideTaken_12
/-! CaretBench$Line base()I -/
def v_X3_base (g : cb_S) : Option Int := some (g 1 2)
set_option maxRecDepth 100000 in
theorem C_X3_base {O : cb_O} (hJ : cb_J O skC) (g : cb_S) : ∀ q, v_X3_base g = some q → cb_m O skC false yX3_base cX3_base 1 (some .int) rm_X3_base [.inr 1] g (q, g) := by
  intro q hq
  refine cr_of_body hJ (by decide) (Nat.le_of_ble_eq_true rfl) hq (fun M hok => ?_)
  show cb_jr _ _ _ _ _ _ [some (.inr 1)] _ _ (some (g 1 2))
  refine cr_aload_n hok dX3_base_0 rfl ?_
  refine cr_gi hok dX3_base_1 fl_RX3_19 skC_b1 skC_c1 rfl ?_
  exact cr_iret hok dX3_base_4
/-! CaretBench$Line turnTo(I)V -/
def f_X3_turnTo (g : cb_S) (x1 : Int) : Option (Int × cb_S) := some (0, cb_u g 1 2 x1)
set_option maxRecDepth 100000 in
theorem C_X3_turnTo {O : cb_O} (hJ : cb_J O skC) (x1 : Int) (g : cb_S) : ∀ q, f_X3_turnTo g x1 = some q → cb_m O skC true yX3_turnTo cX3_turnTo 2 none rm_X3_turnTo [.inr 1, .inl x1] g q := by
  intro q hq
  refine cb_of_body hJ (by decide) (Nat.le_of_ble_eq_true rfl) hq (fun M hok => ?_)
  show cb_j _ _ _ _ _ _ _ [some (.inr 1), some (.inl x1)] _ _ (some (0, cb_u g 1 2 x1))
  refine cb_aload_n hok dX3_turnTo_0 rfl ?_
  refine cb_iload_n hok dX3_turnTo_1 rfl ?_
  refine cb_pi hok dX3_turnTo_2 fp_RX3_19 skC_b1 skC_c1 rfl ?_
  exact cb_vret hok dX3_turnTo_5
/-! CaretBench$Line hasRoomFor(I)Z -/
def v_X3_hasRoomFor (g : cb_S) (x1 : Int) : Option Int := if cb_w (60 - (g 1 1)) < cb_w x1 then (some 0) else (some 1)
set_option maxRecDepth 100000 in
theorem C_X3_hasRoomFor {O : cb_O} (hJ : cb_J O skC) (x1 : Int) (g : cb_S) : ∀ q, v_X3_hasRoomFor g x1 = some q → cb_m O skC false yX3_hasRoomFor cX3_hasRoomFor 2 (some .boolean) rm_X3_hasRoomFor [.inr 1, .inl x1] g (q, g) := by
  intro q hq
  refine cr_of_body hJ (by decide) (Nat.le_of_ble_eq_true rfl) hq (fun M hok => ?_)
  show cb_jr _ _ _ _ _ _ [some (.inr 1), some (.inl x1)] _ _ (if cb_w (60 - (g 1 1)) < cb_w x1 then (some 0) else (some 1))
  refine cr_iload_n hok dX3_hasRoomFor_0 rfl ?_
  refine cr_bipush hok dX3_hasRoomFor_1 (by decide) ?_
  refine cr_aload_n hok dX3_hasRoomFor_3 rfl ?_
  refine cr_gi hok dX3_hasRoomFor_4 fl_RX3_15 skC_b1 skC_c1 rfl ?_
  refine cr_isub hok dX3_hasRoomFor_7 ?_
  refine cr_icgt (tgt := 15) hok rfl rfl dX3_hasRoomFor_8 (by decide) (fun _ => ?_) (fun _ => ?_)
  · refine cr_iconst hok dX3_hasRoomFor_15 ?_
    exact cr_zret hok dX3_hasRoomFor_16 (by decide)
  · refine cr_iconst hok dX3_hasRoomFor_11 ?_
    refine cr_goto (tgt := 16) hok dX3_hasRoomFor_12 (by decide) ?_
    exact cr_zret hok dX3_hasRoomFor_16 (by decide)
/-! CaretBench$Line insert(II)V -/
def f_X3_insert_b27 : Nat → Int → Int → Int → cb_S → Option (Int × cb_S)
  | 0 => fun _ _ _ _ => none
  | n + 1 => fun x1 x2 x3 g => if cb_w x3 ≤ cb_w x1 then (if 0 ≤ cb_w x1 ∧ cb_w x1 < (60 : Nat) then (some (0, cb_u (cb_u g 8 (cb_w x1).toNat x2) 1 1 ((g 1 1) + 1))) else none) else (if 0 ≤ cb_w (x3 - 1) ∧ cb_w (x3 - 1) < (60 : Nat) then (if 0 ≤ cb_w x3 ∧ cb_w x3 < (60 : Nat) then ((f_X3_insert_b27 n) x1 x2 (x3 + (-1)) (cb_u g 8 (cb_w x3).toNat (g 8 ((cb_w (x3 - 1)).toNat)))) else none) else none)
set_option maxRecDepth 100000 in
theorem J_X3_insert_b27 {O : cb_O} {M : cb_M} (hJ : cb_J O skC) (hok : cb_ok O skC M cX3_insert 4 RX3 none) : ∀ (n : Nat) (x1 x2 x3 : Int) (g : cb_S), cb_j O skC true rm_X3_insert M 4 27 [some (.inr 1), some (.inl x1), some (.inl x2), some (.inl x3)] [] g (f_X3_insert_b27 n x1 x2 x3 g) := by
  intro n
  induction n with
  | zero => intros; exact cb_none
  | succ n hk27 =>
    intro x1 x2 x3 g
    show cb_j _ _ _ _ _ _ _ _ _ _ (if cb_w x3 ≤ cb_w x1 then (if 0 ≤ cb_w x1 ∧ cb_w x1 < (60 : Nat) then (some (0, cb_u (cb_u g 8 (cb_w x1).toNat x2) 1 1 ((g 1 1) + 1))) else none) else (if 0 ≤ cb_w (x3 - 1) ∧ cb_w (x3 - 1) < (60 : Nat) then (if 0 ≤ cb_w x3 ∧ cb_w x3 < (60 : Nat) then ((f_X3_insert_b27 n) x1 x2 (x3 + (-1)) (cb_u g 8 (cb_w x3).toNat (g 8 ((cb_w (x3 - 1)).toNat)))) else none) else none))
    refine cb_iload_n hok dX3_insert_27 rfl ?_
    refine cb_iload_n hok dX3_insert_28 rfl ?_
    refine cb_icle (tgt := 52) hok rfl rfl dX3_insert_29 (by decide) (fun _ => ?_) (fun _ => ?_)
    · refine cb_aload_n hok dX3_insert_52 rfl ?_
      refine cb_gr hok dX3_insert_53 fl_RX3_9 skC_b1 skC_c1 rfl ?_
      refine cb_iload_n hok dX3_insert_56 rfl ?_
      refine cb_iload_n hok dX3_insert_57 rfl ?_
      refine cb_iast hok dX3_insert_58 skC_b8 skC_c8 ?_
      refine cb_aload_n hok dX3_insert_59 rfl ?_
      refine cb_dup hok dX3_insert_60 ?_
      refine cb_gi hok dX3_insert_61 fl_RX3_15 skC_b1 skC_c1 rfl ?_
      refine cb_top (y := g 1 1) rfl ?_
      refine cb_iconst hok dX3_insert_64 ?_
      refine cb_iadd hok dX3_insert_65 ?_
      refine cb_pi hok dX3_insert_66 fp_RX3_15 skC_b1 skC_c1 rfl ?_
      exact cb_vret hok dX3_insert_69
    · refine cb_aload_n hok dX3_insert_32 rfl ?_
      refine cb_gr hok dX3_insert_33 fl_RX3_9 skC_b1 skC_c1 rfl ?_
      refine cb_iload_n hok dX3_insert_36 rfl ?_
      refine cb_aload_n hok dX3_insert_37 rfl ?_
      refine cb_gr hok dX3_insert_38 fl_RX3_9 skC_b1 skC_c1 rfl ?_
      refine cb_iload_n hok dX3_insert_41 rfl ?_
      refine cb_iconst hok dX3_insert_42 ?_
      refine cb_isub hok dX3_insert_43 ?_
      refine cb_iald hok dX3_insert_44 skC_b8 skC_c8 ?_
      refine cb_iast hok dX3_insert_45 skC_b8 skC_c8 ?_
      refine cb_iinc (ls' := [some (.inr 1), some (.inl x1), some (.inl x2), some (.inl (x3 + (-1)))]) hok dX3_insert_46 rfl (by decide) rfl ?_
      refine cb_goto (tgt := 27) hok dX3_insert_49 (by decide) ?_
      refine cb_fewer (ls' := [some (.inr 1), some (.inl x1), some (.inl x2), some (.inl (x3 + (-1)))]) ⟨rfl, ⟨rfl, ⟨rfl, ⟨rfl, trivial⟩⟩⟩⟩ ?_
      exact hk27 _ _ _ _
def f_X3_insert (g : cb_S) (x1 : Int) (x2 : Int) : Option (Int × cb_S) := if cb_w x1 < 0 then (some (0, g)) else (if cb_w (g 1 1) < cb_w x1 then (some (0, g)) else (if cb_w (g 1 1) < 60 then (f_X3_insert_b27  cb_N x1 x2 (g 1 1) g) else (some (0, g))))
set_option maxRecDepth 100000 in
theorem C_X3_insert {O : cb_O} (hJ : cb_J O skC) (x1 : Int) (x2 : Int) (g : cb_S) : ∀ q, f_X3_insert g x1 x2 = some q → cb_m O skC true yX3_insert cX3_insert 4 none rm_X3_insert [.inr 1, .inl x1, .inl x2] g q := by
  intro q hq
  refine cb_of_body hJ (by decide) (Nat.le_of_ble_eq_true rfl) hq (fun M hok => ?_)
  show cb_j _ _ _ _ _ _ _ [some (.inr 1), some (.inl x1), some (.inl x2), none] _ _ (if cb_w x1 < 0 then (some (0, g)) else (if cb_w (g 1 1) < cb_w x1 then (some (0, g)) else (if cb_w (g 1 1) < 60 then (f_X3_insert_b27  cb_N x1 x2 (g 1 1) g) else (some (0, g)))))
  refine cb_iload_n hok dX3_insert_0 rfl ?_
  refine cb_iflt (tgt := 21) hok rfl dX3_insert_1 (by decide) (fun _ => ?_) (fun _ => ?_)
  · exact cb_vret hok dX3_insert_21
  · refine cb_iload_n hok dX3_insert_4 rfl ?_
    refine cb_aload_n hok dX3_insert_5 rfl ?_
    refine cb_gi hok dX3_insert_6 fl_RX3_15 skC_b1 skC_c1 rfl ?_
    refine cb_icgt (tgt := 21) hok rfl rfl dX3_insert_9 (by decide) (fun _ => ?_) (fun _ => ?_)
    · exact cb_vret hok dX3_insert_21
    · refine cb_aload_n hok dX3_insert_12 rfl ?_
      refine cb_gi hok dX3_insert_13 fl_RX3_15 skC_b1 skC_c1 rfl ?_
      refine cb_bipush hok dX3_insert_16 (by decide) ?_
      refine cb_iclt (tgt := 22) hok rfl (by decide) dX3_insert_18 (by decide) (fun _ => ?_) (fun _ => ?_)
      · refine cb_aload_n hok dX3_insert_22 rfl ?_
        refine cb_gi hok dX3_insert_23 fl_RX3_15 skC_b1 skC_c1 rfl ?_
        refine cb_istore_n (ls' := [some (.inr 1), some (.inl x1), some (.inl x2), some (.inl (g 1 1))]) hok dX3_insert_26 (by decide) rfl ?_
        refine cb_fewer (ls' := [some (.inr 1), some (.inl x1), some (.inl x2), some (.inl (g 1 1))]) ⟨rfl, ⟨rfl, ⟨rfl, ⟨rfl, trivial⟩⟩⟩⟩ ?_
        exact J_X3_insert_b27 hJ hok  cb_N _ _ _ _
      · exact cb_vret hok dX3_insert_21
/-! CaretBench$Line remove(II)V -/
def f_X3_remove_b25 : Nat → Int → Int → cb_S → Option (Int × cb_S)
  | 0 => fun _ _ _ => none
  | n + 1 => fun x3 x4 g => if cb_w (g 1 1) ≤ cb_w x4 then (some (0, cb_u g 1 1 ((g 1 1) - x3))) else (if 0 ≤ cb_w x4 ∧ cb_w x4 < (60 : Nat) then (if 0 ≤ cb_w (x4 - x3) ∧ cb_w (x4 - x3) < (60 : Nat) then ((f_X3_remove_b25 n) x3 (x4 + 1) (cb_u g 8 (cb_w (x4 - x3)).toNat (g 8 ((cb_w x4).toNat)))) else none) else none)
set_option maxRecDepth 100000 in
theorem J_X3_remove_b25 {O : cb_O} {M : cb_M} (hJ : cb_J O skC) (hok : cb_ok O skC M cX3_remove 5 RX3 none) : ∀ (n : Nat) (x3 x4 : Int) (g : cb_S), cb_j O skC true rm_X3_remove M 5 25 [some (.inr 1), none, none, some (.inl x3), some (.inl x4)] [] g (f_X3_remove_b25 n x3 x4 g) := by
  intro n
  induction n with
  | zero => intros; exact cb_none
  | succ n hk25 =>
    intro x3 x4 g
    show cb_j _ _ _ _ _ _ _ _ _ _ (if cb_w (g 1 1) ≤ cb_w x4 then (some (0, cb_u g 1 1 ((g 1 1) - x3))) else (if 0 ≤ cb_w x4 ∧ cb_w x4 < (60 : Nat) then (if 0 ≤ cb_w (x4 - x3) ∧ cb_w (x4 - x3) < (60 : Nat) then ((f_X3_remove_b25 n) x3 (x4 + 1) (cb_u g 8 (cb_w (x4 - x3)).toNat (g 8 ((cb_w x4).toNat)))) else none) else none))
    refine cb_iload hok dX3_remove_25 rfl ?_
    refine cb_aload_n hok dX3_remove_27 rfl ?_
    refine cb_gi hok dX3_remove_28 fl_RX3_15 skC_b1 skC_c1 rfl ?_
    refine cb_icge (tgt := 56) hok rfl rfl dX3_remove_31 (by decide) (fun _ => ?_) (fun _ => ?_)
    · refine cb_aload_n hok dX3_remove_56 rfl ?_
      refine cb_dup hok dX3_remove_57 ?_
      refine cb_gi hok dX3_remove_58 fl_RX3_15 skC_b1 skC_c1 rfl ?_
      refine cb_iload_n hok dX3_remove_61 rfl ?_
      refine cb_isub hok dX3_remove_62 ?_
      refine cb_pi hok dX3_remove_63 fp_RX3_15 skC_b1 skC_c1 rfl ?_
      exact cb_vret hok dX3_remove_66
    · refine cb_aload_n hok dX3_remove_34 rfl ?_
      refine cb_gr hok dX3_remove_35 fl_RX3_9 skC_b1 skC_c1 rfl ?_
      refine cb_iload hok dX3_remove_38 rfl ?_
      refine cb_iload_n hok dX3_remove_40 rfl ?_
      refine cb_isub hok dX3_remove_41 ?_
      refine cb_aload_n hok dX3_remove_42 rfl ?_
      refine cb_gr hok dX3_remove_43 fl_RX3_9 skC_b1 skC_c1 rfl ?_
      refine cb_iload hok dX3_remove_46 rfl ?_
      refine cb_iald hok dX3_remove_48 skC_b8 skC_c8 ?_
      refine cb_iast hok dX3_remove_49 skC_b8 skC_c8 ?_
      refine cb_iinc (ls' := [some (.inr 1), none, none, some (.inl x3), some (.inl (x4 + 1))]) hok dX3_remove_50 rfl (by decide) rfl ?_
      refine cb_goto (tgt := 25) hok dX3_remove_53 (by decide) ?_
      refine cb_fewer (ls' := [some (.inr 1), none, none, some (.inl x3), some (.inl (x4 + 1))]) ⟨rfl, ⟨rfl, ⟨rfl, trivial⟩⟩⟩ ?_
      exact hk25 _ _ _
def f_X3_remove (g : cb_S) (x1 : Int) (x2 : Int) : Option (Int × cb_S) := if cb_w x1 < 0 then (some (0, g)) else (if cb_w x2 < cb_w x1 then (some (0, g)) else (if cb_w x2 ≤ cb_w (g 1 1) then (f_X3_remove_b25  cb_N (x2 - x1) x2 g) else (some (0, g))))
set_option maxRecDepth 100000 in
theorem C_X3_remove {O : cb_O} (hJ : cb_J O skC) (x1 : Int) (x2 : Int) (g : cb_S) : ∀ q, f_X3_remove g x1 x2 = some q → cb_m O skC true yX3_remove cX3_remove 5 none rm_X3_remove [.inr 1, .inl x1, .inl x2] g q := by
  intro q hq
  refine cb_of_body hJ (by decide) (Nat.le_of_ble_eq_true rfl) hq (fun M hok => ?_)
  show cb_j _ _ _ _ _ _ _ [some (.inr 1), some (.inl x1), some (.inl x2), none, none] _ _ (if cb_w x1 < 0 then (some (0, g)) else (if cb_w x2 < cb_w x1 then (some (0, g)) else (if cb_w x2 ≤ cb_w (g 1 1) then (f_X3_remove_b25  cb_N (x2 - x1) x2 g) else (some (0, g)))))
  refine cb_iload_n hok dX3_remove_0 rfl ?_
  refine cb_iflt (tgt := 17) hok rfl dX3_remove_1 (by decide) (fun _ => ?_) (fun _ => ?_)
  · exact cb_vret hok dX3_remove_17
  · refine cb_iload_n hok dX3_remove_4 rfl ?_
    refine cb_iload_n hok dX3_remove_5 rfl ?_
    refine cb_icgt (tgt := 17) hok rfl rfl dX3_remove_6 (by decide) (fun _ => ?_) (fun _ => ?_)
    · exact cb_vret hok dX3_remove_17
    · refine cb_iload_n hok dX3_remove_9 rfl ?_
      refine cb_aload_n hok dX3_remove_10 rfl ?_
      refine cb_gi hok dX3_remove_11 fl_RX3_15 skC_b1 skC_c1 rfl ?_
      refine cb_icle (tgt := 18) hok rfl rfl dX3_remove_14 (by decide) (fun _ => ?_) (fun _ => ?_)
      · refine cb_iload_n hok dX3_remove_18 rfl ?_
        refine cb_iload_n hok dX3_remove_19 rfl ?_
        refine cb_isub hok dX3_remove_20 ?_
        refine cb_istore_n (ls' := [some (.inr 1), some (.inl x1), some (.inl x2), some (.inl (x2 - x1)), none]) hok dX3_remove_21 (by decide) rfl ?_
        refine cb_iload_n hok dX3_remove_22 rfl ?_
        refine cb_istore (ls' := [some (.inr 1), some (.inl x1), some (.inl x2), some (.inl (x2 - x1)), some (.inl x2)]) hok dX3_remove_23 (by decide) rfl ?_
        refine cb_fewer (ls' := [some (.inr 1), none, none, some (.inl (x2 - x1)), some (.inl x2)]) ⟨rfl, ⟨rfl, ⟨rfl, trivial⟩⟩⟩ ?_
        exact J_X3_remove_b25 hJ hok  cb_N _ _ _
      · exact cb_vret hok dX3_remove_17
