/-! turning a segment of the order -/
def rv (a : Nat → Int) (lo e : Nat) : Nat → Int := fun v => if lo ≤ v ∧ v < e then a (lo + e - 1 - v) else a v
theorem p_turn1 : ∀ (m lo e : Nat) (g : cb_S), e ≤ 60 → lo ≤ 61 → 0 < m → e < lo + m → hp (f_X6_turn_b5 m (lo : Int) ((e : Int) - 1) g) (fun _ g2 => g2 27 = rv (g 27) lo e ∧ ∀ k, k ≠ 27 → g2 k = g k) := by
  intro m
  induction m with
  | zero =>
    intro lo e g h1 h2 h3
    omega
  | succ m ih =>
    intro lo e g h1 h2 h0 h3
    rw [f_X6_turn_b5]
    dsimp only
    rw [cb_id (x := (e : Int) - 1) (by omega) (by omega), cb_wn (n := lo) (by omega)]
    by_cases hend : e ≤ lo + 1
    · rw [if_pos (by omega)]
      refine hp_some ⟨funext fun v => ?_, fun _ _ => rfl⟩
      unfold rv
      split
      · rw [show lo + e - 1 - v = v by omega]
      · rfl
    · obtain ⟨q, rfl⟩ : ∃ q, e = q + 1 := ⟨e - 1, by omega⟩
      have e7 : (((q + 1 : Nat) : Int) - 1) = (q : Int) := by omega
      have e8 : ((lo : Int) + 1) = ((lo + 1 : Nat) : Int) := by omega
      have e9 : ((q : Int) + (-1)) = ((q : Int) - 1) := by omega
      rw [e7, if_neg (by omega), if_pos (by omega), if_pos (by omega), if_pos (by omega), if_pos (by omega), Int.toNat_natCast, Int.toNat_natCast, e8, e9]
      refine hp_imp (ih (lo + 1) q _ (by omega) (by omega) (by omega) (by omega)) (fun r g2 ⟨q1, q2⟩ => ⟨funext fun v => ?_, fun k hk => ?_⟩)
      · rw [q1]
        unfold rv
        by_cases c1 : lo ≤ v ∧ v < q + 1
        · rw [if_pos c1]
          by_cases c2 : lo + 1 ≤ v ∧ v < q
          · rw [if_pos c2, cb_u_ne _ _ _ _ (by omega), cb_u_ne _ _ _ _ (by omega), show lo + 1 + q - 1 - v = lo + (q + 1) - 1 - v by omega]
          · rw [if_neg c2]
            by_cases c3 : v = q
            · rw [c3, cb_u_same, show lo + (q + 1) - 1 - q = lo by omega]
            · rw [cb_u_ne _ _ _ _ c3, show v = lo by omega, cb_u_same, show lo + (q + 1) - 1 - lo = q by omega]
        · rw [if_neg c1, if_neg (by omega), cb_u_ne _ _ _ _ (by omega), cb_u_ne _ _ _ _ (by omega)]
      · rw [q2 k hk, cb_u_other _ _ _ hk, cb_u_other _ _ _ hk]
theorem p_turn {g : cb_S} {lo e : Nat} (h1 : e ≤ 60) (h2 : lo ≤ 61) : hp (f_X6_turn g (lo : Int) ((e : Int) - 1)) (fun _ g2 => g2 27 = rv (g 27) lo e ∧ ∀ k, k ≠ 27 → g2 k = g k) :=
  p_turn1 cb_N lo e g h1 h2 (by decide) (by unfold cb_N; omega)
