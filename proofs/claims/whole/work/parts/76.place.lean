/-- level of cluster k -/
def CL (w : Int) (n : Nat) (s : Nat → Int) (k : Nat) : Int := LV w n s (fs n s k)
/-- x behind the first v clusters from the left -/
def xs (n : Nat) (s : Nat → Int) (o : Nat → Int) : Nat → Int
  | 0 => 0
  | v + 1 => xs n s o v + wd n s (fs n s (o v).toNat)
def sgt (g : cb_S) (w : Int) (n : Nat) (s : Nat → Int) : Prop := clu g n s n ∧ (∀ j, j < n → g 25 j = LV w n s j) ∧ n ≤ 60 ∧ (w = 0 ∨ w = 1)
theorem sgt_keep {g g2 : cb_S} {w : Int} {n : Nat} {s : Nat → Int} (h : sgt g w n s) (hk : ∀ k, k ≠ 4 → ¬ (26 ≤ k ∧ k ≤ 29) → g2 k = g k) : sgt g2 w n s := by
  obtain ⟨a1, a2, a3, a4⟩ := h
  refine ⟨?_, ?_, a3, a4⟩
  · unfold clu at a1 ⊢
    rw [hk 2 (by omega) (by omega), hk 10 (by omega) (by omega), hk 11 (by omega) (by omega), hk 12 (by omega) (by omega), hk 13 (by omega) (by omega), hk 14 (by omega) (by omega), hk 15 (by omega) (by omega)]
    exact a1
  · rw [hk 25 (by omega) (by omega)]
    exact a2
theorem v_has_in {g : cb_S} {c : Nat} {k : Int} (h : g 2 7 = (c : Int)) (hc : c ≤ 60) (h0 : 0 ≤ k) (h1 : k < (c : Int)) : v_X1_has g k = some 1 := by
  unfold v_X1_has
  rw [h, cb_wn (n := c) (by omega), cb_id (x := k) (by omega) (by omega), if_neg (by omega), if_neg (by omega)]
theorem v_width_in {g : cb_S} {c : Nat} {k : Int} (h : g 2 7 = (c : Int)) (hc : c ≤ 60) (h0 : 0 ≤ k) (h1 : k < (c : Int)) : v_X1_widthOf g k = some (g 12 k.toNat) := by
  unfold v_X1_widthOf
  rw [v_has_in h hc h0 h1, Option.bind_some, cb_id (x := k) (by omega) (by omega), if_neg (by decide), if_pos (by omega)]
theorem v_first_in {g : cb_S} {c : Nat} {k : Int} (h : g 2 7 = (c : Int)) (hc : c ≤ 60) (h0 : 0 ≤ k) (h1 : k < (c : Int)) : v_X1_firstOf g k = some (g 10 k.toNat) := by
  unfold v_X1_firstOf
  rw [v_has_in h hc h0 h1, Option.bind_some, cb_id (x := k) (by omega) (by omega), if_neg (by decide), if_pos (by omega)]
theorem p_place1 {w : Int} {n : Nat} {s : Nat → Int} {o : Nat → Int} (ho : ord (cn n s n) o) (hi : inj (cn n s n) o) : ∀ (m v : Nat) (g : cb_S), sgt g w n s → g 4 4 = (cn n s n : Int) → g 27 = o → v ≤ cn n s n → cn n s n < v + m → g 4 6 = xs n s o v → (∀ u, u < v → g 28 (o u).toNat = (u : Int) ∧ g 29 (o u).toNat = xs n s o u) → hp (f_X6_placeAll_b7 m (v : Int) g) (fun _ g2 => g2 4 6 = xs n s o (cn n s n) ∧ (∀ u, u < cn n s n → g2 28 (o u).toNat = (u : Int) ∧ g2 29 (o u).toNat = xs n s o u) ∧ (∀ i, i ≠ 6 → g2 4 i = g 4 i) ∧ ∀ k, k ≠ 4 → k ≠ 28 → k ≠ 29 → g2 k = g k) := by
  intro m
  induction m with
  | zero => intro v g h1 h2 h3 h4 h5; omega
  | succ m ih =>
    intro v g hd h4 h27 hv hm h6 hp0
    obtain ⟨a1, a2, a3, a4⟩ := id hd
    have hcn := cn_le (n := n) (s := s) n
    rw [f_X6_placeAll_b7]
    dsimp only
    rw [h4, cb_wn (n := cn n s n) (by omega), cb_wn (n := v) (by omega)]
    by_cases hend : cn n s n ≤ v
    · rw [if_pos (by omega)]
      have : v = cn n s n := by omega
      subst this
      exact hp_some ⟨h6, hp0, fun _ _ => rfl, fun _ _ _ _ => rfl⟩
    · have hr := ho v (by omega)
      have e8 : ((v : Int) + 1) = ((v + 1 : Nat) : Int) := by omega
      rw [if_neg (by omega), if_pos (by omega), Int.toNat_natCast, h27, v_has_in a1.1 (by omega) hr.1 hr.2, Option.bind_some, if_neg (by decide), cb_id (x := o v) (by omega) (by omega), if_pos (by omega), if_pos (by omega)]
      rw [v_width_in (c := cn n s n) (by rw [cb_u_other _ _ _ (by decide), cb_u_other _ _ _ (by decide)]; exact a1.1) (by omega) hr.1 hr.2, Option.bind_some, cb_u_other _ _ _ (by decide), cb_u_other _ _ _ (by decide), (clu_k a1 (k := (o v).toNat) (by omega)).2.1, h6]
      unfold f_X6_placeAll_b61
      rw [e8]
      have hx : xs n s o v + wd n s (fs n s (o v).toNat) = xs n s o (v + 1) := rfl
      rw [hx]
      refine hp_imp (ih (v + 1) _ (sgt_keep hd (fun k hk hk2 => by rw [cb_u_other _ _ _ hk, cb_u_other _ _ _ (by omega), cb_u_other _ _ _ (by omega)])) (by simp [cb_u]; exact h4) (by rw [cb_u_other _ _ _ (by decide), cb_u_other _ _ _ (by decide), cb_u_other _ _ _ (by decide)]; exact h27) (by omega) (by omega) (cb_u_same _ _ _ _) (fun u hu => ?_)) (fun r g2 ⟨q1, q2, q3, q4⟩ => ⟨q1, q2, fun i hi => ?_, fun k hk hk2 hk3 => ?_⟩)
      · rw [cb_u_other _ _ _ (by decide), cb_u_other _ _ _ (by decide)]
        by_cases e : u = v
        · rw [e, cb_u_same, cb_u_other _ _ _ (by decide), cb_u_same]
          exact ⟨rfl, rfl⟩
        · have hru := ho u (by omega)
          have hne : (o u).toNat ≠ (o v).toNat := fun z => e (hi u v (by omega) (by omega) (by omega))
          rw [cb_u_ne _ _ _ _ hne, cb_u_other _ _ _ (by decide), cb_u_ne _ _ _ _ hne]
          exact hp0 u (by omega)
      · rw [q3 i hi, cb_u_ne _ _ _ _ hi, cb_u_other _ _ _ (by decide), cb_u_other _ _ _ (by decide)]
      · rw [q4 k hk hk2 hk3, cb_u_other _ _ _ hk, cb_u_other _ _ _ hk3, cb_u_other _ _ _ hk2]
