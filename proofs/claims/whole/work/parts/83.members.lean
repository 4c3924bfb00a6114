theorem q_rows {w : Int} {n : Nat} {s : Nat → Int} {g : cb_S} (hl : ln_M g w n s) : hp (f_X9_rows g) (fun _ g2 => mrw g2 w s n ∧ (∀ t, t ≠ 13 → g2 0 t = g 0 t) ∧ ∀ k, k ≠ 0 → k ≠ 6 → k ≠ 7 → k ≠ 8 → g2 k = g k) := by
  obtain ⟨e1, e2, hn, hs, hb, hw⟩ := id hl
  have z : (cb_w 0).toNat = 0 := by decide
  unfold f_X9_rows
  rw [if_pos (by decide), if_pos (by decide), z, e2]
  refine hp_imp (q_rows1 (w := w) (n := n) (s := s) cb_N 0 0 _ (ln_M_keep hl (by simp [cb_u]) (by simp [cb_u]) (by rw [cb_u_other _ _ _ (by decide), cb_u_other _ _ _ (by decide), cb_u_other _ _ _ (by decide)])) (Nat.zero_le _) (by unfold cb_N; omega) rfl ?_) (fun r g2 ⟨q1, q2, q3⟩ => ⟨q1, fun t ht => ?_, fun k a b c d => ?_⟩)
  · refine ⟨by simp [cb_u, rst], by show 1 ≤ 0 + 1; omega, by show 1 ≤ 1; omega, ⟨by simp [cb_u], trivial⟩, fun r hr => ?_, fun j hj => by omega⟩
    have hr : r < 1 := hr
    rw [show r = 0 by omega]
    simp [cb_u, rst]
  · rw [q2 t ht, cb_u_ne _ _ _ _ ht, cb_u_other _ _ _ (by decide), cb_u_other _ _ _ (by decide)]
  · rw [q3 k a b c d, cb_u_other _ _ _ a, cb_u_other _ _ _ c, cb_u_other _ _ _ d]
/-! the members of row r among the first i signs: how many, which -/
def mi (w : Int) (s : Nat → Int) (r : Nat) : Nat → Nat × (Nat → Nat)
  | 0 => (0, fun _ => 0)
  | i + 1 => if ro w s i = r then ((mi w s r i).1 + 1, fun k => if k = (mi w s r i).1 then i else (mi w s r i).2 k) else mi w s r i
def mbs (w : Int) (s : Nat → Int) (n r c : Nat) (M : Nat → Nat) : Prop := c ≤ n ∧ (∀ k, k < c → M k < n ∧ ro w s (M k) = r) ∧ (∀ k, k + 1 < c → lat w s (M (k + 1)) r = (M k : Int)) ∧ (0 < c → lat w s (M 0) r = -1) ∧ (∀ j, j < n → ro w s j = r → ∃ k, k < c ∧ M k = j) ∧ (lat w s n r = if c = 0 then -1 else (M (c - 1) : Int))
theorem mi_ok (w : Int) (s : Nat → Int) (r : Nat) : ∀ n, mbs w s n r (mi w s r n).1 (mi w s r n).2 := by
  intro n
  induction n with
  | zero => exact ⟨Nat.le_refl _, fun k hk => absurd hk (Nat.not_lt_zero _), fun k hk => absurd hk (Nat.not_lt_zero _), fun h => absurd h (Nat.lt_irrefl _), fun j hj => absurd hj (Nat.not_lt_zero _), rfl⟩
  | succ n ih =>
    by_cases hr : ro w s n = r
    · have e : mi w s r (n + 1) = ((mi w s r n).1 + 1, fun k => if k = (mi w s r n).1 then n else (mi w s r n).2 k) := by
        conv => lhs; unfold mi
        rw [if_pos hr]
      rw [e]
      generalize mi w s r n = q at ih ⊢
      obtain ⟨c, M⟩ := q
      obtain ⟨i1, i2, i3, i4, i5, i6⟩ := ih
      dsimp only at i1 i2 i3 i4 i5 i6 ⊢
      refine ⟨by omega, fun k hk => ?_, fun k hk => ?_, fun _ => ?_, fun j hj hj2 => ?_, ?_⟩
      · dsimp only
        by_cases e1 : k = c
        · rw [if_pos e1]
          exact ⟨by omega, hr⟩
        · rw [if_neg e1]
          have := i2 k (by omega)
          exact ⟨by omega, this.2⟩
      · dsimp only
        rw [if_neg (show ¬ k = c by omega)]
        by_cases e1 : k + 1 = c
        · rw [if_pos e1, i6, if_neg (by omega), show c - 1 = k by omega]
        · rw [if_neg e1]
          exact i3 k (by omega)
      · dsimp only
        by_cases e1 : 0 = c
        · rw [if_pos e1, i6, if_pos e1.symm]
        · rw [if_neg e1]
          exact i4 (by omega)
      · by_cases e1 : j = n
        · exact ⟨c, by omega, by dsimp only; rw [if_pos rfl, e1]⟩
        · obtain ⟨k, hk, hk2⟩ := i5 j (by omega) hj2
          exact ⟨k, by omega, by dsimp only; rw [if_neg (by omega)]; exact hk2⟩
      · show (if ro w s n = r then (n : Int) else lat w s n r) = _
        rw [if_pos hr, if_neg (Nat.succ_ne_zero _)]
        dsimp only
        rw [if_pos (by omega)]
    · have e : mi w s r (n + 1) = mi w s r n := by
        conv => lhs; unfold mi
        rw [if_neg hr]
      obtain ⟨i1, i2, i3, i4, i5, i6⟩ := ih
      rw [e]
      refine ⟨by omega, fun k hk => ⟨by have := (i2 k hk).1; omega, (i2 k hk).2⟩, i3, i4, fun j hj hj2 => ?_, ?_⟩
      · have : j ≠ n := fun z => hr (z ▸ hj2)
        exact i5 j (by omega) hj2
      · show (if ro w s n = r then (n : Int) else lat w s n r) = _
        rw [if_neg hr]
        exact i6
theorem mbs_lt {w : Int} {s : Nat → Int} {n r c : Nat} {M : Nat → Nat} (h : mbs w s n r c M) : ∀ d k, k + d + 1 < c → M k < M (k + d + 1) := by
  obtain ⟨i1, i2, i3, i4, i5, i6⟩ := h
  have step : ∀ k, k + 1 < c → M k < M (k + 1) := fun k hk => by
    have := lat_rng w s (M (k + 1)) r
    rw [i3 k hk] at this
    omega
  intro d
  induction d with
  | zero => intro k hk; exact step k hk
  | succ d ih =>
    intro k hk
    have a := ih k (by omega)
    have b := step (k + d + 1) (by omega)
    rw [show k + (d + 1) + 1 = k + d + 1 + 1 by omega]
    omega
theorem mbs_inj {w : Int} {s : Nat → Int} {n r c : Nat} {M : Nat → Nat} (h : mbs w s n r c M) {k j : Nat} (hk : k < c) (hj : j < c) (e : M k = M j) : k = j := by
  rcases Nat.lt_trichotomy k j with h1 | h1 | h1
  · have := mbs_lt h (j - k - 1) k (by omega)
    rw [show k + (j - k - 1) + 1 = j by omega] at this
    omega
  · exact h1
  · have := mbs_lt h (k - j - 1) j (by omega)
    rw [show j + (k - j - 1) + 1 = k by omega] at this
    omega
theorem mbs_pre {w : Int} {s : Nat → Int} {n r c : Nat} {M : Nat → Nat} (h : mbs w s n r c M) {k : Nat} (hk : k < c) : lat w s (M k) (ro w s (M k)) = if k = 0 then -1 else (M (k - 1) : Int) := by
  obtain ⟨i1, i2, i3, i4, i5, i6⟩ := h
  rw [(i2 k hk).2]
  cases k with
  | zero => rw [if_pos rfl]; exact i4 hk
  | succ k => rw [if_neg (by omega)]; exact i3 k hk
theorem mbs_suf {w : Int} {s : Nat → Int} {n r c : Nat} {M : Nat → Nat} (h : mbs w s n r c M) {k : Nat} (hk : k < c) : bh w s n (M k) = if k + 1 = c then -1 else (M (k + 1) : Int) := by
  obtain ⟨i1, i2, i3, i4, i5, i6⟩ := id h
  by_cases e : k + 1 = c
  · rw [if_pos e]
    have hr := bh_rng w s n (M k)
    by_cases hz : bh w s n (M k) = -1
    · exact hz
    · exfalso
      have e6 : bh w s n (M k) = ((bh w s n (M k)).toNat : Int) := by omega
      have h1 := lat_of_bh e6
      have h2 := lat_ro h1.2
      have h3 : ro w s (bh w s n (M k)).toNat = r := by rw [← h2.2]; exact (i2 k hk).2
      obtain ⟨q, hq, hq2⟩ := i5 _ h1.1 h3
      have h4 := mbs_pre h hq
      rw [hq2, h1.2] at h4
      by_cases q0 : q = 0
      · rw [if_pos q0] at h4
        omega
      · rw [if_neg q0] at h4
        have := mbs_inj h (k := k) (j := q - 1) hk (by omega) (by omega)
        omega
  · rw [if_neg e]
    refine bh_of_lat (i2 (k + 1) (by omega)).1 ?_
    have := mbs_pre h (k := k + 1) (by omega)
    rw [if_neg (by omega)] at this
    exact this
theorem ro_lt {w : Int} (hw : w = 0 ∨ w = 1) (s : Nat → Int) (i : Nat) : ro w s i < (rst w s i).2.1 := by
  obtain ⟨i1, i2, i3⟩ := rst_ok hw s i
  have st : (if s i = 93 then pop (rst w s i).1 else (rst w s i).1) ≠ [] ∧ ∀ r ∈ (if s i = 93 then pop (rst w s i).1 else (rst w s i).1), r < (rst w s i).2.1 := by
    split
    · exact ⟨pop_ne i1, fun r hr => i2 r (pop_mem hr)⟩
    · exact ⟨i1, i2⟩
  unfold ro
  generalize (if s i = 93 then pop (rst w s i).1 else (rst w s i).1) = l at st ⊢
  match l, st with
  | [], st => exact absurd rfl st.1
  | a :: l, st => exact st.2 a List.mem_cons_self
theorem rst_mono {w : Int} {s : Nat → Int} {i j : Nat} (h : i ≤ j) : (rst w s i).2.1 ≤ (rst w s j).2.1 ∧ ∀ r, r < (rst w s i).2.1 → (rst w s j).2.2 r = (rst w s i).2.2 r := by
  induction j with
  | zero => rw [show i = 0 by omega]; exact ⟨Nat.le_refl _, fun _ _ => rfl⟩
  | succ j ih =>
    by_cases e : i = j + 1
    · rw [e]; exact ⟨Nat.le_refl _, fun _ _ => rfl⟩
    · obtain ⟨a, b⟩ := ih (by omega)
      rw [rst_succ]
      split
      · refine ⟨by dsimp only; omega, fun r hr => ?_⟩
        dsimp only
        rw [if_neg (by omega)]
        exact b r hr
      · exact ⟨a, b⟩
theorem rba_n {w : Int} (hw : w = 0 ∨ w = 1) {s : Nat → Int} {i n : Nat} (h : i ≤ n) : (rst w s n).2.2 (ro w s i) = rba w s i := (rst_mono h).2 _ (ro_lt hw s i)
theorem ro_n {w : Int} (hw : w = 0 ∨ w = 1) {s : Nat → Int} {i n : Nat} (h : i ≤ n) : ro w s i < (rst w s n).2.1 := by
  have h1 := ro_lt hw s i
  have h2 := (rst_mono (w := w) (s := s) h).1
  omega
theorem rst_num {w : Int} {s : Nat → Int} (i : Nat) : (rst w s i).2.1 ≤ i + 1 := by
  induction i with
  | zero => exact Nat.le_refl _
  | succ i ih =>
    rw [rst_succ]
    split
    · dsimp only; omega
    · dsimp only; omega
theorem ro_join {w : Int} {n : Nat} {s : Nat → Int} {i : Nat} (h : jn n s i = true) : 1 ≤ i ∧ ro w s (i - 1) = ro w s i := by
  obtain ⟨h1, h2, h3, ⟨h4, h5⟩, h6⟩ := (jn_iff n s i).mp h
  refine ⟨h2, ?_⟩
  obtain ⟨q, rfl⟩ : ∃ q, i = q + 1 := ⟨i - 1, by omega⟩
  have h4 : sg_k (s q) = 0 ∨ sg_k (s q) = 1 := h4
  have hq : s q ≠ 91 ∧ s q ≠ 123 ∧ s q ≠ 93 := by
    refine ⟨fun z => ?_, fun z => ?_, fun z => ?_⟩ <;> rw [z] at h4 <;> revert h4 <;> decide
  show ro w s q = ro w s (q + 1)
  have e : (rst w s (q + 1)).1 = (rst w s q).1 := by
    rw [rst_succ, if_neg (by omega), if_neg hq.2.2]
  unfold ro
  rw [if_neg hq.2.2, if_neg (by omega), e]
/-- cells that hold the kinds: they are there for every line -/
theorem rwd_ex {w : Int} {n : Nat} {s : Nat → Int} (hn : n ≤ 60) (hb : ∀ i, i < n → 32 ≤ s i ∧ s i ≤ 126) (hw : w = 0 ∨ w = 1) (hv : ∀ j, j < n → sg_k (s j) ≠ -1) : ∃ g : cb_S, rwd g w n s := by
  refine ⟨fun k j => if k = 19 then rba w s j else if k = 20 then lat w s j (ro w s j) else if k = 21 then bh w s n j else if k = 3 then (if j = 10 then (n : Int) else w) else if k = 1 then (if j = 1 then (n : Int) else w) else if k = 8 then s j else if k = 9 then (if j < n then bI (jn n s j) else 0) else 0, fun j hj => ⟨rfl, rfl, rfl⟩, rfl, rfl, ⟨rfl, rfl, hn, fun i hi => rfl, hb, hw⟩, ⟨fun j hj => if_pos hj, fun j hj _ => if_neg (show ¬ j < n by omega)⟩, hv⟩
