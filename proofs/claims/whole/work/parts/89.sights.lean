/-! what is seen where: pure, and as class and model hold it -/
def sur (c : Nat) (a : Nat → Int) : Prop := ∀ k, k < c → ∃ v, v < c ∧ a v = (k : Int)
theorem rv_sur {c : Nat} {a : Nat → Int} (h : sur c a) {lo e : Nat} (he : e ≤ c) : sur c (rv a lo e) := fun k hk => by
  obtain ⟨v, h1, h2⟩ := h k hk
  by_cases c1 : lo ≤ v ∧ v < e
  · refine ⟨lo + e - 1 - v, by omega, ?_⟩
    unfold rv
    rw [if_pos (by omega), show lo + e - 1 - (lo + e - 1 - v) = v by omega]
    exact h2
  · refine ⟨v, h1, ?_⟩
    unfold rv
    rw [if_neg c1]
    exact h2
theorem trs_sur {lev : Int → Int} {l : Int} {c : Nat} {a : Nat → Int} (h : sur c a) : ∀ v, v ≤ c + 1 → sur c (trs lev l c a v).2 := by
  intro v
  induction v with
  | zero => intro _; exact h
  | succ v ih =>
    intro hv
    have := ih (by omega)
    unfold trs
    split
    · exact rv_sur this (by omega)
    · exact this
theorem fls_sur {lev : Int → Int} {c : Nat} : ∀ (l : Nat) (a : Nat → Int), sur c a → sur c (fls lev c l a)
  | 0, _, h => h
  | l + 1, _, h => fls_sur l _ (trs_sur h (c + 1) (Nat.le_refl _))
theorem OR_ok (w : Int) (n : Nat) (s : Nat → Int) : ord (cn n s n) (OR w n s) ∧ inj (cn n s n) (OR w n s) ∧ sur (cn n s n) (OR w n s) := by
  have h := fls_ok (lev := lvC w n s) (c := cn n s n) (mx w n s (cn n s n)).toNat (fun v => (v : Int)) (fun v hv => by dsimp only; omega) (fun u v _ _ e => by dsimp only at e; omega)
  exact ⟨h.1, h.2, fls_sur _ _ (fun k hk => ⟨k, hk, rfl⟩)⟩
def pf (a : Nat → Int) (k : Nat) : Nat → Nat
  | 0 => 0
  | v + 1 => if a v = (k : Int) then v else pf a k v
theorem pf_ok {a : Nat → Int} {k : Nat} : ∀ c v, v < c → a v = (k : Int) → a (pf a k c) = (k : Int) ∧ pf a k c < c := by
  intro c
  induction c with
  | zero => intro v h; omega
  | succ c ih =>
    intro v h e
    unfold pf
    by_cases h1 : a c = (k : Int)
    · rw [if_pos h1]
      exact ⟨h1, by omega⟩
    · rw [if_neg h1]
      have hv : v ≠ c := fun z => h1 (by rw [← z]; exact e)
      have := ih v (by omega) e
      exact ⟨this.1, by omega⟩
/-- the place of cluster k from the left -/
def PL (w : Int) (n : Nat) (s : Nat → Int) (k : Nat) : Nat := pf (OR w n s) k (cn n s n)
theorem PL_ok {w : Int} {n : Nat} {s : Nat → Int} {k : Nat} (hk : k < cn n s n) : OR w n s (PL w n s k) = (k : Int) ∧ PL w n s k < cn n s n := by
  obtain ⟨v, h1, h2⟩ := (OR_ok w n s).2.2 k hk
  exact pf_ok _ v h1 h2
theorem PL_OR {w : Int} {n : Nat} {s : Nat → Int} {v : Nat} (hv : v < cn n s n) : ∃ k, k < cn n s n ∧ OR w n s v = (k : Int) ∧ PL w n s k = v := by
  have ho := (OR_ok w n s).1 v hv
  have e : OR w n s v = (((OR w n s v).toNat : Nat) : Int) := by omega
  have h1 := PL_ok (w := w) (n := n) (s := s) (k := (OR w n s v).toNat) (by omega)
  exact ⟨(OR w n s v).toNat, by omega, e, (OR_ok w n s).2.1 _ _ h1.2 hv (by rw [h1.1]; omega)⟩
/-- x of cluster k's left side; the width of all -/
def XL (w : Int) (n : Nat) (s : Nat → Int) (k : Nat) : Int := xs n s (OR w n s) (PL w n s k)
def TW (w : Int) (n : Nat) (s : Nat → Int) : Int := xs n s (OR w n s) (cn n s n)
theorem wd_r (n : Nat) (s : Nat → Int) (b : Nat) : 5 ≤ wd n s b ∧ wd n s b ≤ 16 := by
  unfold wd sw
  repeat' split
  all_goals omega
theorem xs_step {n : Nat} {s : Nat → Int} {o : Nat → Int} (v : Nat) : xs n s o (v + 1) = xs n s o v + wd n s (fs n s (o v).toNat) := rfl
theorem xs_r {n : Nat} {s : Nat → Int} {o : Nat → Int} (v : Nat) : 0 ≤ xs n s o v ∧ xs n s o v ≤ 16 * v := by
  induction v with
  | zero => exact ⟨Int.le_refl _, by show (0 : Int) ≤ _; omega⟩
  | succ v ih =>
    have := wd_r n s (fs n s (o v).toNat)
    rw [xs_step]
    omega
theorem xs_mono {n : Nat} {s : Nat → Int} {o : Nat → Int} {u v : Nat} (h : u ≤ v) : xs n s o u ≤ xs n s o v := by
  induction v with
  | zero => rw [show u = 0 by omega]; exact Int.le_refl _
  | succ v ih =>
    by_cases e : u = v + 1
    · rw [e]; exact Int.le_refl _
    · have := ih (by omega)
      have := wd_r n s (fs n s (o v).toNat)
      rw [xs_step]
      omega
theorem xs_lt {n : Nat} {s : Nat → Int} {o : Nat → Int} {u v : Nat} (h : u < v) : xs n s o u + 5 ≤ xs n s o v := by
  have h1 := xs_mono (n := n) (s := s) (o := o) (show u + 1 ≤ v from h)
  have := wd_r n s (fs n s (o u).toNat)
  rw [xs_step] at h1
  omega
theorem xs_inj {n : Nat} {s : Nat → Int} {o : Nat → Int} {u v : Nat} (h : xs n s o u = xs n s o v) : u = v := by
  rcases Nat.lt_trichotomy u v with h1 | h1 | h1
  · have := xs_lt (n := n) (s := s) (o := o) h1
    omega
  · exact h1
  · have := xs_lt (n := n) (s := s) (o := o) h1
    omega
theorem XL_next {w : Int} {n : Nat} {s : Nat → Int} {k : Nat} (hk : k < cn n s n) : xs n s (OR w n s) (PL w n s k + 1) = XL w n s k + wd n s (fs n s k) := by
  rw [xs_step, (PL_ok hk).1, Int.toNat_natCast]
  rfl
theorem XL_r {w : Int} {n : Nat} {s : Nat → Int} {k : Nat} (hk : k < cn n s n) (hn : n ≤ 60) : 0 ≤ XL w n s k ∧ XL w n s k + wd n s (fs n s k) ≤ TW w n s ∧ TW w n s ≤ 960 := by
  have hcn := cn_le (n := n) (s := s) n
  have h1 := xs_r (n := n) (s := s) (o := OR w n s) (PL w n s k)
  have h2 := xs_r (n := n) (s := s) (o := OR w n s) (cn n s n)
  have h3 := xs_mono (n := n) (s := s) (o := OR w n s) (show PL w n s k + 1 ≤ cn n s n by have := (PL_ok (w := w) hk).2; omega)
  rw [XL_next hk] at h3
  unfold TW
  refine ⟨h1.1, h3, by omega⟩
theorem TW_r {w : Int} {n : Nat} {s : Nat → Int} (hn : n ≤ 60) : 0 ≤ TW w n s ∧ TW w n s ≤ 960 := by
  have hcn := cn_le (n := n) (s := s) n
  have h2 := xs_r (n := n) (s := s) (o := OR w n s) (cn n s n)
  unfold TW
  omega
theorem CL_b {w : Int} {n : Nat} {s : Nat → Int} (hw : w = 0 ∨ w = 1) (hn : n ≤ 60) {k : Nat} (hk : k < cn n s n) : 0 ≤ CL w n s k ∧ CL w n s k ≤ 123 := by
  have := CL_r (n := n) (s := s) hw hk
  omega
/-- the class's cells -/
def cvw (g : cb_S) (w : Int) (n : Nat) (s : Nat → Int) : Prop := g 2 7 = (cn n s n : Int) ∧ g 4 4 = (cn n s n : Int) ∧ g 4 6 = TW w n s ∧ g 4 7 = w ∧ g 2 9 = (n : Int) ∧ g 2 8 = (jc n s n : Int) ∧ (∀ k, k < cn n s n → g 10 k = (fs n s k : Int) ∧ g 11 k = (es n s k : Int) ∧ g 12 k = wd n s (fs n s k) ∧ g 26 k = CL w n s k ∧ g 28 k = (PL w n s k : Int) ∧ g 29 k = XL w n s k ∧ g 27 k = OR w n s k) ∧ n ≤ 60 ∧ (w = 0 ∨ w = 1) ∧ clu g n s n ∧ jns g n s
theorem laid_vw {g : cb_S} {w : Int} {n : Nat} {s : Nat → Int} (h : laid g w n s) : cvw g w n s := by
  obtain ⟨⟨l1, l2, l3, l4⟩, r, ⟨s1, s2, s3, s4, s5⟩⟩ := h
  refine ⟨l3.1, s1, s3, s2, l4, l3.2.1, fun k hk => ?_, l1.2.2.1, l1.2.2.2.2.2, l3, l2⟩
  have hc := clu_k l3 hk
  have hp := PL_ok (w := w) hk
  have hv := s5 _ hp.2
  rw [hp.1, Int.toNat_natCast] at hv
  exact ⟨hc.1, hc.2.2, hc.2.1, s4 k hk, hv.2.1, hv.2.2, (s5 k hk).1⟩
theorem c_has {g : cb_S} {w : Int} {n : Nat} {s : Nat → Int} (h : cvw g w n s) {x : Int} (hx : cb_i x) : v_X1_has g x = some (bI (decide (0 ≤ x ∧ x < (cn n s n : Int)))) := by
  have hcn := cn_le (n := n) (s := s) n
  have hn := h.2.2.2.2.2.2.2.1
  unfold v_X1_has
  rw [h.1, cb_wn (n := cn n s n) (by omega), cb_id hx.1 hx.2]
  by_cases h0 : x < 0
  · rw [if_pos h0, decide_eq_false (by omega)]
    rfl
  · rw [if_neg h0]
    by_cases h1 : (cn n s n : Int) ≤ x
    · rw [if_pos h1, decide_eq_false (by omega)]
      rfl
    · rw [if_neg h1, decide_eq_true (by omega)]
      rfl
theorem c_has1 {g : cb_S} {w : Int} {n : Nat} {s : Nat → Int} (h : cvw g w n s) {k : Nat} (hk : k < cn n s n) : v_X1_has g (k : Int) = some 1 := by
  have hcn := cn_le (n := n) (s := s) n
  have hn := h.2.2.2.2.2.2.2.1
  rw [c_has h ⟨by omega, by omega⟩, decide_eq_true (by omega)]
  rfl
theorem c_first {g : cb_S} {w : Int} {n : Nat} {s : Nat → Int} (h : cvw g w n s) {k : Nat} (hk : k < cn n s n) : v_X1_firstOf g (k : Int) = some (fs n s k : Int) := by
  have hcn := cn_le (n := n) (s := s) n
  have hn := h.2.2.2.2.2.2.2.1
  unfold v_X1_firstOf
  rw [c_has1 h hk, Option.bind_some, if_neg (by decide), cb_wn (n := k) (by omega), if_pos (by omega), Int.toNat_natCast, (h.2.2.2.2.2.2.1 k hk).1]
theorem c_end {g : cb_S} {w : Int} {n : Nat} {s : Nat → Int} (h : cvw g w n s) {k : Nat} (hk : k < cn n s n) : v_X1_endOf g (k : Int) = some (es n s k : Int) := by
  have hcn := cn_le (n := n) (s := s) n
  have hn := h.2.2.2.2.2.2.2.1
  unfold v_X1_endOf
  rw [c_has1 h hk, Option.bind_some, if_neg (by decide), cb_wn (n := k) (by omega), if_pos (by omega), Int.toNat_natCast, (h.2.2.2.2.2.2.1 k hk).2.1]
theorem c_width {g : cb_S} {w : Int} {n : Nat} {s : Nat → Int} (h : cvw g w n s) {k : Nat} (hk : k < cn n s n) : v_X1_widthOf g (k : Int) = some (wd n s (fs n s k)) := by
  have hcn := cn_le (n := n) (s := s) n
  have hn := h.2.2.2.2.2.2.2.1
  unfold v_X1_widthOf
  rw [c_has1 h hk, Option.bind_some, if_neg (by decide), cb_wn (n := k) (by omega), if_pos (by omega), Int.toNat_natCast, (h.2.2.2.2.2.2.1 k hk).2.2.1]
theorem c_joined {g : cb_S} {w : Int} {n : Nat} {s : Nat → Int} (h : cvw g w n s) {k : Nat} (hk : k < cn n s n) : v_X1_isJoined g (k : Int) = some (bI (jn n s (fs n s k + 1))) := by
  have hcn := cn_le (n := n) (s := s) n
  have hn := h.2.2.2.2.2.2.2.1
  have hf := fs_ok hk
  unfold v_X1_isJoined
  rw [c_has1 h hk, Option.bind_some, if_neg (by decide), cb_wn (n := k) (by omega), if_pos (by omega), Int.toNat_natCast, (h.2.2.2.2.2.2.1 k hk).1, show (fs n s k : Int) + 1 = ((fs n s k + 1 : Nat) : Int) by omega, v_joinsAt hn h.2.2.2.2.2.2.2.2.2.2 _ (by omega), Option.bind_some]
  cases jn n s (fs n s k + 1) <;> rfl
theorem c_lev {g : cb_S} {w : Int} {n : Nat} {s : Nat → Int} (h : cvw g w n s) {k : Nat} (hk : k < cn n s n) : v_X6_levelOf g (k : Int) = some (CL w n s k) := by
  have hcn := cn_le (n := n) (s := s) n
  have hn := h.2.2.2.2.2.2.2.1
  unfold v_X6_levelOf
  rw [v_val (by decide) ⟨by omega, by omega⟩, Option.bind_some, if_pos (by omega), Int.toNat_natCast, (h.2.2.2.2.2.2.1 k hk).2.2.2.1]
theorem c_left {g : cb_S} {w : Int} {n : Nat} {s : Nat → Int} (h : cvw g w n s) {k : Nat} (hk : k < cn n s n) : v_X6_leftOf g (k : Int) = some (XL w n s k) := by
  have hcn := cn_le (n := n) (s := s) n
  have hn := h.2.2.2.2.2.2.2.1
  unfold v_X6_leftOf
  rw [v_val (by decide) ⟨by omega, by omega⟩, Option.bind_some, if_pos (by omega), Int.toNat_natCast, (h.2.2.2.2.2.2.1 k hk).2.2.2.2.2.1]
theorem c_place {g : cb_S} {w : Int} {n : Nat} {s : Nat → Int} (h : cvw g w n s) {k : Nat} (hk : k < cn n s n) : v_X6_placeOf g (k : Int) = some (PL w n s k : Int) := by
  have hcn := cn_le (n := n) (s := s) n
  have hn := h.2.2.2.2.2.2.2.1
  unfold v_X6_placeOf
  rw [v_val (by decide) ⟨by omega, by omega⟩, Option.bind_some, if_pos (by omega), Int.toNat_natCast, (h.2.2.2.2.2.2.1 k hk).2.2.2.2.1]
theorem c_at {g : cb_S} {w : Int} {n : Nat} {s : Nat → Int} (h : cvw g w n s) {x : Int} (hx : cb_i x) : v_X6_clusterAtPlace g x = some (if 0 ≤ x ∧ x < (cn n s n : Int) then OR w n s x.toNat else -1) := by
  have hcn := cn_le (n := n) (s := s) n
  have hn := h.2.2.2.2.2.2.2.1
  unfold v_X6_clusterAtPlace
  rw [h.2.1, cb_wn (n := cn n s n) (by omega), cb_id hx.1 hx.2]
  by_cases h0 : x < 0
  · rw [if_pos h0, if_neg (by omega)]
  · rw [if_neg h0]
    by_cases h1 : (cn n s n : Int) ≤ x
    · rw [if_pos h1, if_neg (by omega)]
    · rw [if_neg h1, if_pos (by omega), if_pos (by omega), (h.2.2.2.2.2.2.1 x.toNat (by omega)).2.2.2.2.2.2]
theorem c_right {g : cb_S} {w : Int} {n : Nat} {s : Nat → Int} (h : cvw g w n s) {k : Nat} (hk : k < cn n s n) : v_X6_rightOf g (k : Int) = some (XL w n s k + wd n s (fs n s k)) := by
  have hcn := cn_le (n := n) (s := s) n
  have hn := h.2.2.2.2.2.2.2.1
  have hp := PL_ok (w := w) hk
  unfold v_X6_rightOf
  rw [c_place h hk, Option.bind_some, h.2.1, h.2.2.1, cb_wn (n := cn n s n) (by omega), show (PL w n s k : Int) + 1 = ((PL w n s k + 1 : Nat) : Int) by omega, cb_wn (n := PL w n s k + 1) (by omega)]
  by_cases e : cn n s n ≤ PL w n s k + 1
  · rw [if_pos (by omega), ← XL_next hk, show PL w n s k + 1 = cn n s n by omega]
    rfl
  · obtain ⟨q, q1, q2, q3⟩ := PL_OR (w := w) (n := n) (s := s) (v := PL w n s k + 1) (by omega)
    rw [if_neg (by omega), c_at h ⟨by omega, by omega⟩, Option.bind_some, if_pos (by omega), Int.toNat_natCast, q2, c_left h q1, Option.bind_some, ← XL_next hk]
    unfold XL
    rw [q3]
theorem c_even {g : cb_S} {x : Int} (h : 0 ≤ x ∧ x ≤ 1000) : v_X8_isEven g x = some (bI (decide (x % 2 = 0))) := by
  unfold v_X8_isEven
  rw [cb_id (x := x % 2) (by omega) (by omega)]
  by_cases e : x % 2 = 0
  · rw [if_pos e, decide_eq_true e]
    rfl
  · rw [if_neg e, decide_eq_false e]
    rfl
/-- the model's cells -/
def mvw (g : cb_S) (w : Int) (n : Nat) (s : Nat → Int) : Prop := mcs g n s ∧ g 0 28 = TW w n s ∧ (∀ k, k < cn n s n → g 17 k = wd n s (fs n s k) ∧ g 18 k = XL w n s k ∧ g 19 k = (PL w n s k : Int) ∧ g 20 k = OR w n s k) ∧ (∀ j, j < n → g 11 j = LV w n s j) ∧ g 0 13 = ((rst w s n).2.1 : Int) ∧ (∀ j, j < n → g 6 j = (ro w s j : Int)) ∧ ln_M g w n s
theorem mlk_vw {g : cb_S} {w : Int} {n : Nat} {s : Nat → Int} (h : mlk g w n s) : mvw g w n s := by
  obtain ⟨⟨t1, t2, t3⟩, ⟨s1, s2⟩, r1, r2⟩ := h
  refine ⟨t1, s1, fun k hk => ?_, t2, r1, r2, t3⟩
  have hp := PL_ok (w := w) hk
  have hv := s2 _ hp.2
  rw [hp.1, Int.toNat_natCast] at hv
  exact ⟨hv.2.2.2, hv.2.2.1, hv.2.1, (s2 k hk).1⟩
theorem m_even {g : cb_S} {w : Int} {n : Nat} {s : Nat → Int} (h : mvw g w n s) {k : Nat} (hk : k < cn n s n) : v_X9_isEven g (k : Int) = some (bI (decide (CL w n s k % 2 = 0))) := by
  obtain ⟨m1, m2, m3, m4, m5, m6, m7⟩ := h
  have hcn := cn_le (n := n) (s := s) n
  have hn := m7.2.2.1
  have hf := fs_ok hk
  have hc := CL_b (n := n) (s := s) m7.2.2.2.2.2 hn hk
  unfold v_X9_isEven
  rw [cb_wn (n := k) (by omega), if_pos (by omega), Int.toNat_natCast, (m1.2 k hk).1, cb_wn (n := fs n s k) (by omega), if_pos (by omega), Int.toNat_natCast, m4 _ hf.2.2]
  have e0 : LV w n s (fs n s k) = CL w n s k := rfl
  rw [e0, cb_id (x := CL w n s k) (by omega) (by omega), Int.tmod_eq_emod_of_nonneg hc.1, cb_id (x := CL w n s k % 2) (by omega) (by omega)]
  by_cases e : CL w n s k % 2 = 0
  · rw [if_pos e, decide_eq_true e]
    rfl
  · rw [if_neg e, decide_eq_false e]
    rfl
