theorem p_divide {w : Int} {n : Nat} {s : Nat → Int} {g : cb_S} (hl : ln_C g w n s) (h10 : g 3 10 = (n : Int)) (h12 : g 3 12 = w) : hp (f_X5_divide g) (fun _ g2 => (∃ row2, rws g2 w s n row2) ∧ g2 3 10 = (n : Int) ∧ g2 3 12 = w ∧ ∀ k, ¬ rw_w k → g2 k = g k) := by
  obtain ⟨e1, e2, hn, hs, hb, hw⟩ := id hl
  unfold f_X5_divide
  have hmk : f_X5_make (cb_u g 3 11 0) (g 3 12) 0 = some (((0 : Nat) : Int), cb_u (cb_u (cb_u (cb_u (cb_u g 3 11 0) 16 0 w) 17 0 0) 18 0 (-1)) 3 11 1) := by
    unfold f_X5_make
    rw [show (cb_u g 3 11 0) 3 11 = ((0 : Nat) : Int) from by simp [cb_u], cb_wn (n := 0) (by omega), cb_wn (n := 61) (by omega), if_pos (by omega), if_pos (by omega), if_pos (by omega), if_pos (by omega), Int.toNat_natCast, h12]
    rfl
  rw [hmk, cb_b_some]
  generalize hG : cb_u (cb_u (cb_u (cb_u (cb_u g 3 11 0) 16 0 w) 17 0 0) 18 0 (-1)) 3 11 1 = G
  have Gk : ∀ k, ¬ rw_w k → G k = g k := fun k hk => by
    unfold rw_w at hk
    rw [← hG, cb_u_other _ _ _ (by omega), cb_u_other _ _ _ (by omega), cb_u_other _ _ _ (by omega), cb_u_other _ _ _ (by omega), cb_u_other _ _ _ (by omega)]
  have G310 : G 3 10 = (n : Int) := by rw [← hG]; simp [cb_u]; exact h10
  have G312 : G 3 12 = w := by rw [← hG]; simp [cb_u]; exact h12
  have hr : rws G w s 0 0 := by
    refine ⟨rfl, by rw [← hG]; simp [cb_u, rst], by show 1 ≤ 1; omega, ⟨rfl, by rw [← hG]; simp [cb_u], by show 0 < 1; omega⟩, fun r hr => ?_, fun r hr => rfl, fun r hr => ?_, fun j hj => by omega⟩
    · have hr : r < 1 := hr
      rw [show r = 0 by omega, ← hG]
      simp [cb_u, rst, lat]
    · show 0 ≤ w ∧ w ≤ 2 * ((0 : Nat) : Int) + 1
      omega
  refine hp_imp (p_divide1 cb_N 0 0 G ⟨ln_C_keep hl (Gk 1 (by unfold rw_w; omega)) (Gk 8 (by unfold rw_w; omega)), G310⟩ (Nat.zero_le _) (by unfold cb_N; omega) hr) (fun r g2 ⟨p1, p2, p3, p4⟩ => ⟨p1, p2, p3.trans G312, fun k hk => (p4 k hk).trans (Gk k hk)⟩)
/-! a table that grows: entry i out of those ahead of it -/
def tb (f : (Nat → Int) → Nat → Int) : Nat → Nat → Int
  | 0, _ => 0
  | i + 1, j => if j = i then f (tb f i) i else tb f i j
theorem tb_at9 (f : (Nat → Int) → Nat → Int) {i j : Nat} (h : j < i) : tb f i j = tb f (j + 1) j := by
  induction i with
  | zero => omega
  | succ i ih =>
    by_cases e : j = i
    · subst e; rfl
    · have : tb f (i + 1) j = tb f i j := if_neg e
      rw [this]
      exact ih (by omega)
/-- the way of sign i's row -/
def wy (w : Int) (s : Nat → Int) (i : Nat) : Int := rba w s i % 2
/-- an entry of t at a place that may be none -/
def pk (t : Nat → Int) (j o : Int) : Int := if j < 0 then o else t j.toNat
def f1 (w : Int) (n : Nat) (s : Nat → Int) (t : Nat → Int) (i : Nat) : Int := if s i = 39 ∨ s i = 126 then pk t (lat w s i (ro w s i)) (wy w s i) else if jn n s i = true then t (i - 1) else sg_k (s i)
/-- kinds behind findKinds() -/
def K1 (w : Int) (n : Nat) (s : Nat → Int) (i : Nat) : Int := tb (f1 w n s) (i + 1) i
theorem K1_eq (w : Int) (n : Nat) (s : Nat → Int) (i : Nat) : K1 w n s i = f1 w n s (K1 w n s) i := by
  have h0 : K1 w n s i = f1 w n s (tb (f1 w n s) i) i := if_pos rfl
  rw [h0]
  have ht : ∀ j, j < i → tb (f1 w n s) i j = K1 w n s j := fun j hj => tb_at9 _ hj
  unfold f1
  split
  · unfold pk
    split
    · rfl
    · have := lat_rng w s i (ro w s i)
      exact ht _ (by omega)
  · split
    · rename_i h1 h2
      have := (jn_iff n s i).mp h2
      exact ht _ (by omega)
    · rfl
theorem K1_rng (w : Int) (n : Nat) (s : Nat → Int) (i : Nat) (hv : ∀ j, j ≤ i → sg_k (s j) ≠ -1) (hr : ∀ j, j ≤ i → 0 ≤ rba w s j) : 0 ≤ K1 w n s i ∧ K1 w n s i ≤ 4 := by
  induction i using Nat.strongRecOn with
  | ind i ih =>
    rw [K1_eq]
    unfold f1
    split
    · unfold pk
      have := lat_rng w s i (ro w s i)
      split
      · unfold wy
        omega
      · exact ih _ (by omega) (fun j hj => hv j (by omega)) (fun j hj => hr j (by omega))
    · split
      · rename_i h1 h2
        have := (jn_iff n s i).mp h2
        exact ih _ (by omega) (fun j hj => hv j (by omega)) (fun j hj => hr j (by omega))
      · rename_i h1 h2
        have h3 := sg_rng (s i)
        have h4 := hv i (Nat.le_refl _)
        have h5 : sg_k (s i) ≠ 5 := by
          unfold sg_k
          repeat' split
          all_goals first | omega | decide
        omega
