/-! the law's own walk: the class's cells, the model's cells, the script -/
/-- the law's three references: 0 the script, 1 the class's object, 2 the model's -/
def lj_ad (b : Nat) (OC OM : cb_O) : Nat → Nat := fun k => if k = 0 then b else if k = 1 then OC.2.2.2 0 else OM.2.2.2 0
abbrev lj_C : Type := Program × Launch × Env × State × MethodId × List Frame × Method × Code × Nat × Nat × (Nat → Int32)
/-- the two worlds are apart, and new; what the tables say -/
def lj_two (s : State) (l : Launch) (OC OM : cb_O) : Prop := OC.1 = l ∧ OM.1 = l ∧ OC.2.1 = OM.2.1 ∧ OC.2.2.1 = OM.2.2.1 ∧ cb_KK OC s ∧ cb_KK OM s ∧ cb_J OC skC ∧ cb_J OM skM ∧ (∀ g g', va_D (fun q : Nat => s.heap.size ≤ q) (cb_W OC skC g ++ cb_W OM skM g'))
def lj (X : lj_C) (OC OM : cb_O) (kc ks : Nat) (pc : Nat) (ls : cb_L) (st : List cb_V) (gC gM : cb_S) : Prop :=
  match X with
  | (p, l, e, s, m, below, meth, c, b, _, _) => ∀ (H : Heap) (locs : List Loc) (Ls : Array Slot), va_P OC.2.1 vwCl (cb_W OC skC gC ++ cb_W OM skM gM) H → va_S (fun q : Nat => s.heap.size ≤ q) s.heap H locs → cb_H (lj_ad b OC OM) Ls 4 ls →
    W p l e room_1 s m #[Value.ref b] below meth c H locs kc ks (lw_Z below #[Value.ref b] s) (F0 m pc Ls (st.map (cb_v (lj_ad b OC OM))))
def lj_ok (X : lj_C) (OC OM : cb_O) : Prop := match X with
  | (p, l, e, s, m, below, meth, c, b, L, xs) => lw_At p s m meth c b L xs ∧ lj_two s l OC OM
section ljR
variable {X : lj_C} {OC OM : cb_O} {kc ks : Nat} {pc : Nat} {ls : cb_L} {st : List cb_V} {gC gM : cb_S}
theorem lj_iconst (h : lj_ok X OC OM) {n : Int} (hd : decode code pc = .ok (.iconst n, 1)) (k : lj X OC OM kc ks (pc + 1) ls (.inl n :: st) gC gM) : lj X OC OM kc ks pc ls st gC gM := by
  obtain ⟨p, l, e, s, m, below, meth, c, b, L, xs⟩ := X
  intro H locs Ls hP hS hL
  exact lv_iconst h.1.1 h.1.2.1 hd rfl (k H locs Ls hP hS hL)
theorem lj_bipush (h : lj_ok X OC OM) {n : Int} (hd : decode code pc = .ok (.bipush n, 2)) (hn : (Int8.ofInt n).toInt32 = Int32.ofInt n) (k : lj X OC OM kc ks (pc + 2) ls (.inl n :: st) gC gM) : lj X OC OM kc ks pc ls st gC gM := by
  obtain ⟨p, l, e, s, m, below, meth, c, b, L, xs⟩ := X
  intro H locs Ls hP hS hL
  exact lv_bipush h.1.1 h.1.2.1 hd hn (k H locs Ls hP hS hL)
theorem lj_iload_n (h : lj_ok X OC OM) {i : Fin 4} {x : Int} (hd : decode code pc = .ok (.iload_n i, 1)) (hl : ls[(i : Nat)]? = some (some (.inl x))) (k : lj X OC OM kc ks (pc + 1) ls (.inl x :: st) gC gM) : lj X OC OM kc ks pc ls st gC gM := by
  obtain ⟨p, l, e, s, m, below, meth, c, b, L, xs⟩ := X
  intro H locs Ls hP hS hL
  exact lv_iload_n h.1.1 h.1.2.1 hd rfl (hL.2.2 _ _ hl) (k H locs Ls hP hS hL)
theorem lj_aload_n (h : lj_ok X OC OM) {i : Fin 4} {x : Nat} (hd : decode code pc = .ok (.aload_n i, 1)) (hl : ls[(i : Nat)]? = some (some (.inr x))) (k : lj X OC OM kc ks (pc + 1) ls (.inr x :: st) gC gM) : lj X OC OM kc ks pc ls st gC gM := by
  obtain ⟨p, l, e, s, m, below, meth, c, b, L, xs⟩ := X
  intro H locs Ls hP hS hL
  exact lv_aload_n h.1.1 h.1.2.1 hd rfl (hL.2.2 _ _ hl) (k H locs Ls hP hS hL)
theorem lj_istore_n (h : lj_ok X OC OM) {i : Fin 4} {x : Int} {ls' : cb_L} (hd : decode code pc = .ok (.istore_n i, 1)) (hl : ls.set (i : Nat) (some (.inl x)) = ls') (k : lj X OC OM kc ks (pc + 1) ls' st gC gM) : lj X OC OM kc ks pc ls (.inl x :: st) gC gM := by
  obtain ⟨p, l, e, s, m, below, meth, c, b, L, xs⟩ := X
  intro H locs Ls hP hS hL
  subst hl
  exact lv_istore_n h.1.1 h.1.2.1 hd rfl (cb_H_has hL) i.2 rfl (fun L' hL' => k H locs L' hP hS (cb_H_set hL'))
theorem lj_iinc (h : lj_ok X OC OM) {i : Nat} {n x : Int} {ls' : cb_L} (hd : decode code pc = .ok (.iinc i n, 3)) (hx : ls[i]? = some (some (.inl x))) (hn : i < 4) (hl : ls.set i (some (.inl (x + n))) = ls') (k : lj X OC OM kc ks (pc + 3) ls' st gC gM) : lj X OC OM kc ks pc ls st gC gM := by
  obtain ⟨p, l, e, s, m, below, meth, c, b, L, xs⟩ := X
  intro H locs Ls hP hS hL
  subst hl
  obtain ⟨j, hj⟩ := List.getElem?_of_mem (cb_pr_mem (ad := lj_ad b OC OM) (ls := ls) (q := (i, .int (Int32.ofInt x))) |>.mpr ⟨.inl x, hx, rfl⟩)
  exact lv_iinc h.1.1 h.1.2.1 hd (cb_H_has hL) hj (Int32.ofInt_add x n).symm hn rfl (fun L' hL' => k H locs L' hP hS (cb_H_set hL'))
theorem lj_iadd (h : lj_ok X OC OM) {x y : Int} (hd : decode code pc = .ok (.iadd, 1)) (k : lj X OC OM kc ks (pc + 1) ls (.inl (x + y) :: st) gC gM) : lj X OC OM kc ks pc ls (.inl y :: .inl x :: st) gC gM := by
  obtain ⟨p, l, e, s, m, below, meth, c, b, L, xs⟩ := X
  intro H locs Ls hP hS hL
  have := k H locs Ls hP hS hL
  rw [List.map_cons, show cb_v (lj_ad b OC OM) (.inl (x + y)) = .int (Int32.ofInt x + Int32.ofInt y) from congrArg Value.int (Int32.ofInt_add x y)] at this
  exact lv_iadd h.1.1 h.1.2.1 hd this
theorem lj_isub (h : lj_ok X OC OM) {x y : Int} (hd : decode code pc = .ok (.isub, 1)) (k : lj X OC OM kc ks (pc + 1) ls (.inl (x - y) :: st) gC gM) : lj X OC OM kc ks pc ls (.inl y :: .inl x :: st) gC gM := by
  obtain ⟨p, l, e, s, m, below, meth, c, b, L, xs⟩ := X
  intro H locs Ls hP hS hL
  have := k H locs Ls hP hS hL
  rw [List.map_cons, show cb_v (lj_ad b OC OM) (.inl (x - y)) = .int (Int32.ofInt x - Int32.ofInt y) from congrArg Value.int (Int32.ofInt_sub x y)] at this
  exact lv_isub h.1.1 h.1.2.1 hd this
theorem lj_iand31 (h : lj_ok X OC OM) {x : Int} (hd : decode code pc = .ok (.iand, 1)) (k : lj X OC OM kc ks (pc + 1) ls (.inl (x % 32) :: st) gC gM) : lj X OC OM kc ks pc ls (.inl 31 :: .inl x :: st) gC gM := by
  obtain ⟨p, l, e, s, m, below, meth, c, b, L, xs⟩ := X
  intro H locs Ls hP hS hL
  have := k H locs Ls hP hS hL
  rw [List.map_cons, show cb_v (lj_ad b OC OM) (.inl (x % 32)) = .int (Int32.ofInt x &&& Int32.ofInt 31) from congrArg Value.int (cb_and31 x).symm] at this
  exact lv_iand h.1.1 h.1.2.1 hd this
theorem lj_goto (h : lj_ok X OC OM) {off : Int} {tgt : Nat} (hd : decode code pc = .ok (.goto off, 3)) (ht : (pc : Int) + off = (tgt : Int)) (k : lj X OC OM kc ks tgt ls st gC gM) : lj X OC OM kc ks pc ls st gC gM := by
  obtain ⟨p, l, e, s, m, below, meth, c, b, L, xs⟩ := X
  intro H locs Ls hP hS hL
  exact lv_goto h.1.1 h.1.2.1 hd ht (k H locs Ls hP hS hL)
theorem lj_icgt (h : lj_ok X OC OM) {x y : Int} {off : Int} {tgt : Nat} (hd : decode code pc = .ok (.if_icmp .gt off, 3)) (ht : (pc : Int) + off = (tgt : Int)) (kt : cb_w y < cb_w x → lj X OC OM kc ks tgt ls st gC gM) (kf : ¬ cb_w y < cb_w x → lj X OC OM kc ks (pc + 3) ls st gC gM) : lj X OC OM kc ks pc ls (.inl y :: .inl x :: st) gC gM := by
  obtain ⟨p, l, e, s, m, below, meth, c, b, L, xs⟩ := X
  intro H locs Ls hP hS hL
  exact lv_icmp_gt h.1.1 h.1.2.1 hd ht (fun z => kt (cb_lt.mp z) H locs Ls hP hS hL) (fun z => kf (fun q => z (cb_lt.mpr q)) H locs Ls hP hS hL)
/-- the two answers are alike -/
theorem lj_iceq (h : lj_ok X OC OM) {x y : Int} {off : Int} {tgt : Nat} (hxy : cb_w x = cb_w y) (hd : decode code pc = .ok (.if_icmp .eq off, 3)) (ht : (pc : Int) + off = (tgt : Int)) (kt : lj X OC OM kc ks tgt ls st gC gM) : lj X OC OM kc ks pc ls (.inl y :: .inl x :: st) gC gM := by
  obtain ⟨p, l, e, s, m, below, meth, c, b, L, xs⟩ := X
  intro H locs Ls hP hS hL
  exact lv_icmp_eq h.1.1 h.1.2.1 hd ht (fun z => kt H locs Ls hP hS hL) (fun z => absurd (cb_eq.mpr hxy) z)
theorem lj_ifeq (h : lj_ok X OC OM) {x : Int} {off : Int} {tgt : Nat} (hd : decode code pc = .ok (.ifCond .eq off, 3)) (ht : (pc : Int) + off = (tgt : Int)) (kt : cb_w x = 0 → lj X OC OM kc ks tgt ls st gC gM) (kf : ¬ cb_w x = 0 → lj X OC OM kc ks (pc + 3) ls st gC gM) : lj X OC OM kc ks pc ls (.inl x :: st) gC gM := by
  obtain ⟨p, l, e, s, m, below, meth, c, b, L, xs⟩ := X
  intro H locs Ls hP hS hL
  exact lv_if_eq h.1.1 h.1.2.1 hd ht (fun z => kt (cb_eq0.mp z) H locs Ls hP hS hL) (fun z => kf (fun q => z (cb_eq0.mpr q)) H locs Ls hP hS hL)
theorem lj_tabOut (h : lj_ok X OC OM) {x : Int} {dflt lo hi : Int} {offs : Array Int} {len tgt : Nat} (hd : decode code pc = .ok (.tableswitch dflt lo hi offs, len)) (hx : cb_w x < lo ∨ hi < cb_w x) (ht : (pc : Int) + dflt = (tgt : Int)) (k : lj X OC OM kc ks tgt ls st gC gM) : lj X OC OM kc ks pc ls (.inl x :: st) gC gM := by
  obtain ⟨p, l, e, s, m, below, meth, c, b, L, xs⟩ := X
  intro H locs Ls hP hS hL
  exact lv_tableOut h.1.1 h.1.2.1 hd (by rw [cb_toInt]; exact hx) ht (k H locs Ls hP hS hL)
theorem lj_tabIn (h : lj_ok X OC OM) {x : Int} {dflt lo hi off : Int} {offs : Array Int} {len tgt : Nat} (j : Int) (hx : cb_w x = j) (hd : decode code pc = .ok (.tableswitch dflt lo hi offs, len)) (h1 : ¬ j < lo) (h2 : ¬ hi < j) (ho : offs[(j - lo).toNat]? = some off) (ht : (pc : Int) + off = (tgt : Int)) (k : lj X OC OM kc ks tgt ls st gC gM) : lj X OC OM kc ks pc ls (.inl x :: st) gC gM := by
  obtain ⟨p, l, e, s, m, below, meth, c, b, L, xs⟩ := X
  intro H locs Ls hP hS hL
  subst hx
  exact lv_tableIn h.1.1 h.1.2.1 hd (by rw [cb_toInt]; exact h1) (by rw [cb_toInt]; exact h2) (by rw [cb_toInt]; exact ho) ht (k H locs Ls hP hS hL)
/-- the script's j-th int -/
def lj_x (X : lj_C) (j : Nat) : Int := (X.2.2.2.2.2.2.2.2.2.2 j).toInt
def lj_L (X : lj_C) : Nat := X.2.2.2.2.2.2.2.2.2.1
theorem lj_sld (h : lj_ok X OC OM) {i : Int} (hi : 0 ≤ cb_w i ∧ cb_w i < lj_L X) (hd : decode code pc = .ok (.iaload, 1)) (k : lj X OC OM kc ks (pc + 1) ls (.inl (lj_x X (cb_w i).toNat) :: st) gC gM) : lj X OC OM kc ks pc ls (.inl i :: .inr 0 :: st) gC gM := by
  obtain ⟨p, l, e, s, m, below, meth, c, b, L, xs⟩ := X
  intro H locs Ls hP hS hL
  obtain ⟨hx, hb, hr, hml, hown, hts, hX, hbl, hlocks, hgv⟩ := h.1
  have := k H locs Ls hP hS hL
  refine va_sld (i := Int32.ofInt i) hx hb hX hbl (Nat.not_le.mpr hbl) hS (cb_in_vp hi) hd ?_
  rw [cb_nat]
  rw [List.map_cons, show cb_v (lj_ad b OC OM) (.inl (lj_x (p, l, e, s, m, below, meth, c, b, L, xs) (cb_w i).toNat)) = .int (xs (cb_w i).toNat) from congrArg Value.int (Int32.ofInt_toInt _)] at this
  exact this
theorem lj_slen (h : lj_ok X OC OM) (hd : decode code pc = .ok (.arraylength, 1)) (k : lj X OC OM kc ks (pc + 1) ls (.inl (lj_L X : Int) :: st) gC gM) : lj X OC OM kc ks pc ls (.inr 0 :: st) gC gM := by
  obtain ⟨p, l, e, s, m, below, meth, c, b, L, xs⟩ := X
  intro H locs Ls hP hS hL
  obtain ⟨hx, hb, hr, hml, hown, hts, hX, hbl, hlocks, hgv⟩ := h.1
  have := k H locs Ls hP hS hL
  refine va_slen hx hb hX hbl (Nat.not_le.mpr hbl) hS hd ?_
  rw [List.map_cons, show cb_v (lj_ad b OC OM) (.inl (lj_L (p, l, e, s, m, below, meth, c, b, L, xs) : Int)) = .int (Int32.ofNat L) from congrArg Value.int (Int32.ofInt_eq_ofNat (n := L))] at this
  exact this
/-- the law's end -/
theorem lj_ret1 (h : lj_ok X OC OM) (hkc : kc ≤ 600000) (hks : ks ≤ 7302250) (hd : decode code pc = .ok (.ireturn, 1)) : lj X OC OM kc ks pc ls [.inl 1] gC gM := by
  obtain ⟨p, l, e, s, m, below, meth, c, b, L, xs⟩ := X
  intro H locs Ls hP hS hL
  obtain ⟨hx, hb, hr, hml, hown, hts, hX, hbl, hlocks, hgv⟩ := h.1
  refine va_forget (fun q hq => hS.2.2 q hq) ?_
  refine W.widen hkc hks ?_
  exact lw_ret hx hb hr hlocks hd
end ljR
