/-! the first sign of cluster k -/
def fb (n : Nat) (s : Nat → Int) (k : Nat) : Nat → Nat
  | 0 => 0
  | i + 1 => if bd n s i = true ∧ cn n s i = k then i else fb n s k i
theorem fb_ok {n : Nat} {s : Nat → Int} {k i : Nat} (h : k < cn n s i) : bd n s (fb n s k i) = true ∧ cn n s (fb n s k i) = k ∧ fb n s k i < i := by
  induction i with
  | zero => exact absurd h (Nat.not_lt_zero _)
  | succ i ih =>
    have e2 : cn n s (i + 1) = cn n s i + (if bd n s i then 1 else 0) := rfl
    unfold fb
    by_cases c1 : bd n s i = true ∧ cn n s i = k
    · rw [if_pos c1]
      exact ⟨c1.1, c1.2, by omega⟩
    · rw [if_neg c1]
      have : k < cn n s i := by
        by_cases c2 : bd n s i = true
        · rw [e2, if_pos c2] at h
          have : cn n s i ≠ k := fun z => c1 ⟨c2, z⟩
          omega
        · rw [e2, if_neg c2] at h
          omega
      have := ih this
      exact ⟨this.1, this.2.1, by omega⟩
def fs (n : Nat) (s : Nat → Int) (k : Nat) : Nat := fb n s k n
theorem fs_ok {n : Nat} {s : Nat → Int} {k : Nat} (h : k < cn n s n) : bd n s (fs n s k) = true ∧ cn n s (fs n s k) = k ∧ fs n s k < n := fb_ok h
theorem cn_inj {n : Nat} {s : Nat → Int} {a b : Nat} (ha : bd n s a = true) (hb : bd n s b = true) (h : cn n s a = cn n s b) : a = b := by
  rcases Nat.lt_trichotomy a b with h1 | h1 | h1
  · have := cn_lt (n := n) (s := s) h1 ha
    omega
  · exact h1
  · have := cn_lt (n := n) (s := s) h1 hb
    omega
theorem fs_cn {n : Nat} {s : Nat → Int} {b : Nat} (hb : bd n s b = true) (h : b < n) : fs n s (cn n s b) = b := by
  have := fs_ok (k := cn n s b) (cn_lt (n := n) (s := s) h hb)
  exact cn_inj this.1 hb this.2.1
/-- where cluster k ends -/
def es (n : Nat) (s : Nat → Int) (k : Nat) : Nat := if k + 1 < cn n s n then fs n s (k + 1) else n
theorem clu_k {g : cb_S} {n : Nat} {s : Nat → Int} (h : clu g n s n) {k : Nat} (hk : k < cn n s n) : g 10 k = (fs n s k : Int) ∧ g 12 k = wd n s (fs n s k) ∧ g 11 k = (es n s k : Int) := by
  obtain ⟨c1, c2, c3, c4, c5, c6, c7⟩ := h
  obtain ⟨f1, f2, f3⟩ := fs_ok hk
  have h1 := c3 _ f3 f1
  rw [f2] at h1
  refine ⟨h1.1, h1.2, ?_⟩
  unfold es
  by_cases e : k + 1 < cn n s n
  · rw [if_pos e]
    obtain ⟨k1, k2, k3⟩ := fs_ok e
    have h0 : 0 < fs n s (k + 1) := by
      by_cases z : fs n s (k + 1) = 0
      · rw [z] at k2
        have : cn n s 0 = 0 := rfl
        omega
      · omega
    have := c4 _ h0 (by omega) k1
    rw [k2] at this
    exact this
  · rw [if_neg e]
    have := c4 n (by omega) (Nat.le_refl _) (by simp [bd])
    rw [show cn n s n - 1 = k by omega] at this
    exact this
/-- injective below c -/
def inj (c : Nat) (a : Nat → Int) : Prop := ∀ u v, u < c → v < c → a u = a v → u = v
theorem rv_inj {c : Nat} {a : Nat → Int} (h : inj c a) {lo e : Nat} (he : e ≤ c) : inj c (rv a lo e) := fun u v hu hv huv => by
  unfold rv at huv
  by_cases c1 : lo ≤ u ∧ u < e <;> by_cases c2 : lo ≤ v ∧ v < e
  · rw [if_pos c1, if_pos c2] at huv
    have := h _ _ (by omega) (by omega) huv
    omega
  · rw [if_pos c1, if_neg c2] at huv
    have := h _ _ (by omega) (by omega) huv
    omega
  · rw [if_neg c1, if_pos c2] at huv
    have := h _ _ (by omega) (by omega) huv
    omega
  · rw [if_neg c1, if_neg c2] at huv
    exact h _ _ hu hv huv
theorem trs_inj {lev : Int → Int} {l : Int} {c : Nat} {a : Nat → Int} (h : inj c a) : ∀ v, v ≤ c + 1 → inj c (trs lev l c a v).2 := by
  intro v
  induction v with
  | zero => intro _; exact h
  | succ v ih =>
    intro hv
    have := ih (by omega)
    unfold trs
    split
    · exact rv_inj this (by omega)
    · exact this
/-- turned for each level from l down to 1 -/
def fls (lev : Int → Int) (c : Nat) : Nat → (Nat → Int) → (Nat → Int)
  | 0, a => a
  | l + 1, a => fls lev c l (trs lev ((l + 1 : Nat) : Int) c a (c + 1)).2
theorem fls_ok {lev : Int → Int} {c : Nat} : ∀ (l : Nat) (a : Nat → Int), ord c a → inj c a → ord c (fls lev c l a) ∧ inj c (fls lev c l a)
  | 0, _, h1, h2 => ⟨h1, h2⟩
  | l + 1, _, h1, h2 => fls_ok l _ (trs_ok h1 (c + 1) (Nat.le_refl _)).2 (trs_inj h2 (c + 1) (Nat.le_refl _))
