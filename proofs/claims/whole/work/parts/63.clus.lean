/-! clusters: a boundary is where one begins, or the line's end -/
def am (s : Nat → Int) : Nat → Bool
  | 0 => true
  | i + 1 => am s i && decide (s i = 39 ∨ s i = 126)
def bd (n : Nat) (s : Nat → Int) (i : Nat) : Bool := decide (i = 0) || decide (i = n) || (if s i = 39 ∨ s i = 126 then am s i else (!jn n s i && !jn n s (i - 1)))
/-- how many boundaries are ahead of i -/
def cn (n : Nat) (s : Nat → Int) : Nat → Nat
  | 0 => 0
  | i + 1 => cn n s i + (if bd n s i then 1 else 0)
/-- how many of them begin joined clusters -/
def jc (n : Nat) (s : Nat → Int) : Nat → Nat
  | 0 => 0
  | i + 1 => jc n s i + (if bd n s i && jn n s (i + 1) then 1 else 0)
def sw (b : Int) : Int := if sg_k b = 0 ∨ sg_k b = 1 then 10 else if sg_k b = 2 then 8 else if b = 32 then 5 else 6
def wd (n : Nat) (s : Nat → Int) (b : Nat) : Int := if jn n s (b + 1) then 16 else sw (s b)
theorem cn_le {n : Nat} {s : Nat → Int} (i : Nat) : cn n s i ≤ i := by
  induction i with
  | zero => exact Nat.le_refl _
  | succ i ih => unfold cn; split <;> omega
theorem cn_mono {n : Nat} {s : Nat → Int} {i j : Nat} (h : i ≤ j) : cn n s i ≤ cn n s j := by
  induction j with
  | zero => rw [show i = 0 by omega]; exact Nat.le_refl _
  | succ j ih =>
    by_cases e : i = j + 1
    · rw [e]; exact Nat.le_refl _
    · have := ih (by omega)
      have e2 : cn n s (j + 1) = cn n s j + (if bd n s j then 1 else 0) := rfl
      rw [e2]
      omega
theorem cn_lt {n : Nat} {s : Nat → Int} {i j : Nat} (h : i < j) (hb : bd n s i = true) : cn n s i < cn n s j := by
  have h1 : cn n s (i + 1) = cn n s i + 1 := by
    conv => lhs; unfold cn
    rw [if_pos hb]
  have h2 := cn_mono (n := n) (s := s) (show i + 1 ≤ j from h)
  omega
theorem cn_flat {n : Nat} {s : Nat → Int} {i j : Nat} (h : i ≤ j) (hb : ∀ t, i ≤ t → t < j → bd n s t = false) : cn n s j = cn n s i := by
  induction j with
  | zero => rw [show i = 0 by omega]
  | succ j ih =>
    by_cases e : i = j + 1
    · rw [e]
    · have := ih (by omega) (fun t a b => hb t a (by omega))
      conv => lhs; unfold cn
      rw [hb j (by omega) (by omega), this]
      rfl
theorem cn_next {n : Nat} {s : Nat → Int} {b j : Nat} (h : b < j) (h0 : bd n s b = true) (hb : ∀ t, b < t → t < j → bd n s t = false) : cn n s j = cn n s b + 1 := by
  rw [cn_flat (show b + 1 ≤ j from h) (fun t a c => hb t (by omega) c)]
  conv => lhs; unfold cn
  rw [if_pos h0]
theorem jc_flat {n : Nat} {s : Nat → Int} {i j : Nat} (h : i ≤ j) (hb : ∀ t, i ≤ t → t < j → bd n s t = false) : jc n s j = jc n s i := by
  induction j with
  | zero => rw [show i = 0 by omega]
  | succ j ih =>
    by_cases e : i = j + 1
    · rw [e]
    · have := ih (by omega) (fun t a b => hb t a (by omega))
      conv => lhs; unfold jc
      rw [hb j (by omega) (by omega), this]
      rfl
theorem jc_le {n : Nat} {s : Nat → Int} (i : Nat) : jc n s i ≤ i := by
  induction i with
  | zero => exact Nat.le_refl _
  | succ i ih => unfold jc; split <;> omega
theorem jc_next {n : Nat} {s : Nat → Int} {b j : Nat} (h : b < j) (h0 : bd n s b = true) (hb : ∀ t, b < t → t < j → bd n s t = false) : jc n s j = jc n s b + (if jn n s (b + 1) then 1 else 0) := by
  rw [jc_flat (show b + 1 ≤ j from h) (fun t a c => hb t (by omega) c)]
  conv => lhs; unfold jc
  rw [h0]
  rfl
theorem jn_far {n : Nat} {s : Nat → Int} {i : Nat} (h : n ≤ i + 1) : jn n s i = false := jn_F (fun z => by have := z.2.2.1; omega)
/-- the class's cluster cells, up to the boundary lb -/
def clu (g : cb_S) (n : Nat) (s : Nat → Int) (lb : Nat) : Prop := g 2 7 = (cn n s lb : Int) ∧ g 2 8 = (jc n s lb : Int) ∧ (∀ b, b < lb → bd n s b = true → g 10 (cn n s b) = (b : Int) ∧ g 12 (cn n s b) = wd n s b) ∧ (∀ b, 0 < b → b ≤ lb → bd n s b = true → g 11 (cn n s b - 1) = (b : Int)) ∧
  (∀ t, t ≤ 60 → g 13 t = if t < lb ∧ bd n s t = true then (cn n s t : Int) else -1) ∧ (∀ t, t ≤ 60 → g 14 t = if 0 < t ∧ t ≤ lb ∧ bd n s t = true then (cn n s t : Int) - 1 else -1) ∧ (∀ t, t ≤ 60 → g 15 t = if (2 ≤ t ∧ t - 2 < lb) ∧ bd n s (t - 2) = true ∧ jn n s (t - 1) = true then (cn n s (t - 2) : Int) else -1)
/-- joins, as findJoins leaves them -/
def jns (g : cb_S) (n : Nat) (s : Nat → Int) : Prop := (∀ j, j < n → g 9 j = bI (jn n s j)) ∧ (∀ j, n ≤ j → j < 60 → g 9 j = 0)
theorem v_joinsAt {g : cb_S} {n : Nat} {s : Nat → Int} (hn : n ≤ 60) (h : jns g n s) (i : Nat) (hi : i ≤ 100) : v_X1_joinsAt g (i : Int) = some (bI (jn n s i)) := by
  by_cases h60 : i < 60
  · rw [v_joins_in (by omega) (by omega), Int.toNat_natCast]
    by_cases hn : i < n
    · rw [h.1 i hn]
      cases jn n s i <;> rfl
    · rw [h.2 i (by omega) h60, jn_far (by omega)]
      rfl
  · rw [v_joins_out (by omega) (by omega), jn_far (by omega)]
    rfl
theorem jns_keep {g g2 : cb_S} {n : Nat} {s : Nat → Int} (h : jns g n s) (h9 : g2 9 = g 9) : jns g2 n s := by
  unfold jns at h ⊢
  rw [h9]
  exact h
theorem clu_step {n : Nat} {s : Nat → Int} {g g2 : cb_S} {lb i : Nat} (hc : clu g n s lb) (hlb : lb < i) (hb0 : bd n s lb = true) (hbi : bd n s i = true) (hno : ∀ t, lb < t → t < i → bd n s t = false)
    (r1 : g2 2 7 = (cn n s lb : Int) + 1) (r2 : g2 2 8 = (jc n s lb : Int) + (if jn n s (lb + 1) = true then 1 else 0)) (r3 : ∀ k, g2 10 k = if k = cn n s lb then (lb : Int) else g 10 k) (r4 : ∀ k, g2 11 k = if k = cn n s lb then (i : Int) else g 11 k) (r5 : ∀ k, g2 12 k = if k = cn n s lb then wd n s lb else g 12 k)
    (r6 : ∀ t, g2 13 t = if t = lb then (cn n s lb : Int) else g 13 t) (r7 : ∀ t, g2 14 t = if t = i then (cn n s lb : Int) else g 14 t) (r8 : ∀ t, g2 15 t = if jn n s (lb + 1) = true ∧ t = lb + 2 then (cn n s lb : Int) else g 15 t) : clu g2 n s i := by
  obtain ⟨c1, c2, c3, c4, c5, c6, c7⟩ := hc
  have hni := cn_next hlb hb0 hno
  have hji := jc_next hlb hb0 hno
  have only : ∀ t, t < i → bd n s t = true → t ≤ lb := fun t a b => by
    by_cases h : t ≤ lb
    · exact h
    · have := hno t (by omega) a
      rw [this] at b
      cases b
  refine ⟨by rw [r1, hni]; omega, ?_, fun b hb1 hb2 => ?_, fun b hb0' hb1 hb2 => ?_, fun t ht => ?_, fun t ht => ?_, fun t ht => ?_⟩
  · rw [r2, hji]
    split <;> omega
  · have := only b hb1 hb2
    by_cases e : b = lb
    · subst e
      rw [r3, r5, if_pos rfl, if_pos rfl]
      exact ⟨rfl, rfl⟩
    · have h2 := cn_lt (n := n) (s := s) (show b < lb by omega) hb2
      rw [r3, r5, if_neg (by omega), if_neg (by omega)]
      exact c3 b (by omega) hb2
  · by_cases e : b = i
    · subst e
      rw [r4, if_pos (by omega)]
    · have h1 := only b (by omega) hb2
      have h2 : cn n s b ≤ cn n s lb := cn_mono h1
      have h3 : 0 < cn n s b := by
        have := cn_lt (n := n) (s := s) hb0' (show bd n s 0 = true by simp [bd])
        omega
      rw [r4, if_neg (by omega)]
      exact c4 b hb0' h1 hb2
  · rw [r6]
    by_cases e : t = lb
    · subst e
      rw [if_pos rfl, if_pos ⟨hlb, hb0⟩]
    · rw [if_neg e, c5 t ht]
      by_cases h1 : t < lb ∧ bd n s t = true
      · rw [if_pos h1, if_pos ⟨by omega, h1.2⟩]
      · rw [if_neg h1, if_neg (fun z => h1 ⟨by have := only t z.1 z.2; omega, z.2⟩)]
  · rw [r7]
    by_cases e : t = i
    · subst e
      rw [if_pos rfl, if_pos ⟨by omega, Nat.le_refl _, hbi⟩]
      omega
    · rw [if_neg e, c6 t ht]
      by_cases h1 : 0 < t ∧ t ≤ lb ∧ bd n s t = true
      · rw [if_pos h1, if_pos ⟨h1.1, by omega, h1.2.2⟩]
      · rw [if_neg h1, if_neg (fun z => h1 ⟨z.1, only t (by omega) z.2.2, z.2.2⟩)]
  · rw [r8]
    by_cases e : jn n s (lb + 1) = true ∧ t = lb + 2
    · obtain ⟨e1, rfl⟩ := e
      rw [if_pos ⟨e1, rfl⟩, if_pos ⟨⟨by omega, by omega⟩, hb0, e1⟩]
      rfl
    · rw [if_neg e, c7 t ht]
      by_cases h1 : (2 ≤ t ∧ t - 2 < lb) ∧ bd n s (t - 2) = true ∧ jn n s (t - 1) = true
      · rw [if_pos h1, if_pos ⟨⟨h1.1.1, by omega⟩, h1.2⟩]
      · refine (if_neg h1).trans (if_neg (fun z => ?_)).symm
        have h2 := only (t - 2) z.1.2 z.2.1
        by_cases h3 : t - 2 = lb
        · exact e ⟨by rw [← h3, show t - 2 + 1 = t - 1 by omega]; exact z.2.2, by omega⟩
        · exact h1 ⟨⟨z.1.1, by omega⟩, z.2⟩
/-- the cells that gather() writes, joins apart -/
def cl_w (k : Nat) : Prop := k = 2 ∨ k = 10 ∨ k = 11 ∨ k = 12 ∨ k = 13 ∨ k = 14 ∨ k = 15
theorem p_add {w : Int} {n : Nat} {s : Nat → Int} {g : cb_S} {lb i : Nat} (hl : ln_C g w n s) (hj : jns g n s) (hc : clu g n s lb) (h9 : g 2 9 = (n : Int)) (hlb : lb < i) (hi : i ≤ n) (hb0 : bd n s lb = true) (hbi : bd n s i = true) (hno : ∀ t, lb < t → t < i → bd n s t = false) : hp (f_X1_add g (lb : Int) (i : Int)) (fun _ g2 => clu g2 n s i ∧ g2 2 9 = (n : Int) ∧ ∀ k, ¬ cl_w k → g2 k = g k) := by
  obtain ⟨e1, e2, hn, hs, hb, hw⟩ := id hl
  obtain ⟨c1, c2, c3, c4, c5, c6, c7⟩ := hc
  have hk := cn_le (n := n) (s := s) lb
  have hjl := jc_le (n := n) (s := s) lb
  have hni := cn_next hlb hb0 hno
  have hji := jc_next hlb hb0 hno
  have hsb := hb lb (by omega)
  unfold f_X1_add
  rw [c1, cb_wn (n := cn n s lb) (by omega), cb_wn (n := lb) (by omega), cb_wn (n := i) (by omega), Int.toNat_natCast, Int.toNat_natCast, Int.toNat_natCast]
  rw [if_neg (by omega), if_neg (by omega), if_neg (by omega), if_pos (by omega), if_pos (by omega), if_pos (by omega)]
  rw [v_at_in (ln_C_keep hl (by rw [cb_u_other _ _ _ (by decide), cb_u_other _ _ _ (by decide)]) (by rw [cb_u_other _ _ _ (by decide), cb_u_other _ _ _ (by decide)])) (by omega) (by omega), Option.bind_some, Int.toNat_natCast, v_widthOf ⟨by omega, by omega⟩, Option.bind_some, if_pos (by omega), if_pos (by omega), if_pos (by omega)]
  have e9 : ((lb : Int) + 1) = ((lb + 1 : Nat) : Int) := by omega
  rw [e9, v_joinsAt hn (jns_keep hj (by simp only [cb_u_other _ _ _ (show (9 : Nat) ≠ 14 by decide), cb_u_other _ _ _ (show (9 : Nat) ≠ 13 by decide), cb_u_other _ _ _ (show (9 : Nat) ≠ 12 by decide), cb_u_other _ _ _ (show (9 : Nat) ≠ 11 by decide), cb_u_other _ _ _ (show (9 : Nat) ≠ 10 by decide)])) (lb + 1) (by omega), Option.bind_some]
  have hcl : clu g n s lb := ⟨c1, c2, c3, c4, c5, c6, c7⟩
  have hsw : (if sg_k (s lb) = 0 ∨ sg_k (s lb) = 1 then (10 : Int) else if sg_k (s lb) = 2 then 8 else if s lb = 32 then 5 else 6) = sw (s lb) := rfl
  rw [hsw]
  cases hq : jn n s (lb + 1) with
  | false =>
    rw [bI_f, if_pos (by decide)]
    unfold f_X1_add_b125
    refine hp_some ⟨clu_step hcl hlb hb0 hbi hno ?_ ?_ (fun k => ?_) (fun k => ?_) (fun k => ?_) (fun k => ?_) (fun k => ?_) (fun k => ?_), ?_, fun k hk => ?_⟩
    all_goals first | (simp [cb_u, hq, wd, c1, c2, h9]; done) | (simp [cb_u, hq, wd, c1, c2, h9] <;> omega) | skip
    · unfold cl_w at hk
      repeat rw [cb_u_other _ _ _ (by omega)]
  | true =>
    have e10 : ((lb : Int) + 2) = ((lb + 2 : Nat) : Int) := by omega
    have hq2 := ((jn_iff n s (lb + 1)).mp hq).2.2.1
    rw [bI_t, if_neg (by decide), if_pos (by omega), e10, cb_wn (n := lb + 2) (by omega), if_pos (by omega), Int.toNat_natCast]
    unfold f_X1_add_b125
    refine hp_some ⟨clu_step hcl hlb hb0 hbi hno ?_ ?_ (fun k => ?_) (fun k => ?_) (fun k => ?_) (fun k => ?_) (fun k => ?_) (fun k => ?_), ?_, fun k hk => ?_⟩
    all_goals first | (simp [cb_u, hq, wd, c1, c2, h9]; done) | (simp [cb_u, hq, wd, c1, c2, h9] <;> omega) | (simp [cb_u, hq, wd, c1, c2, h9]; split <;> rfl) | skip
    · unfold cl_w at hk
      repeat rw [cb_u_other _ _ _ (by omega)]
