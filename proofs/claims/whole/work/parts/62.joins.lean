/-! joins -/
def al (a b : Int) : Bool := decide ((sg_k a = 0 ∨ sg_k a = 1) ∧ sg_k a = sg_k b)
def jn (n : Nat) (s : Nat → Int) : Nat → Bool
  | 0 => false
  | 1 => decide (s 1 = 94) && decide (2 < n) && al (s 0) (s 2)
  | i + 2 => decide (s (i + 2) = 94) && decide (i + 3 < n) && al (s (i + 1)) (s (i + 3)) && !jn n s i
theorem jn_iff (n : Nat) (s : Nat → Int) (i : Nat) : jn n s i = true ↔ (s i = 94 ∧ 1 ≤ i ∧ i + 1 < n ∧ ((sg_k (s (i - 1)) = 0 ∨ sg_k (s (i - 1)) = 1) ∧ sg_k (s (i - 1)) = sg_k (s (i + 1))) ∧ (2 ≤ i → jn n s (i - 2) = false)) := by
  match i with
  | 0 => simp [jn]
  | 1 => simp [jn, al, and_assoc]
  | i + 2 => simp [jn, al, and_assoc]
theorem jn_F {n : Nat} {s : Nat → Int} {i : Nat} (h : ¬ (s i = 94 ∧ 1 ≤ i ∧ i + 1 < n ∧ ((sg_k (s (i - 1)) = 0 ∨ sg_k (s (i - 1)) = 1) ∧ sg_k (s (i - 1)) = sg_k (s (i + 1))) ∧ (2 ≤ i → jn n s (i - 2) = false))) : jn n s i = false := by
  cases e : jn n s i with
  | false => rfl
  | true => exact absurd ((jn_iff n s i).mp e) h
def bI (b : Bool) : Int := if b then 1 else 0
theorem bI_t : bI true = 1 := rfl
theorem bI_f : bI false = 0 := rfl
theorem bI_01 (b : Bool) : bI b = 0 ∨ bI b = 1 := by cases b <;> simp [bI]
theorem cb_u_same (g : cb_S) (k i : Nat) (v : Int) : cb_u g k i v k i = v := by simp [cb_u]
theorem cb_u_ne (g : cb_S) (k i : Nat) (v : Int) {j : Nat} (h : j ≠ i) : cb_u g k i v k j = g k j := by simp [cb_u, h]
theorem v_joins_in {g : cb_S} {i : Int} (h0 : 0 ≤ i) (h1 : i < 60) : v_X1_joinsAt g i = some (if cb_w (g 9 i.toNat) = 0 then 0 else 1) := by
  unfold v_X1_joinsAt
  rw [cb_id (x := i) (by omega) (by omega), cb_id (x := ((60 : Nat) : Int)) (by omega) (by omega), if_neg (by omega), if_neg (by omega), if_pos (by omega)]
  split <;> rfl
theorem v_joins_out {g : cb_S} {i : Int} (h : -1000 ≤ i ∧ i < 1000) (h0 : i < 0 ∨ 60 ≤ i) : v_X1_joinsAt g i = some 0 := by
  unfold v_X1_joinsAt
  rw [cb_id (x := i) (by omega) (by omega), cb_id (x := ((60 : Nat) : Int)) (by omega) (by omega)]
  rcases h0 with h0 | h0
  · rw [if_pos h0]
  · rw [if_neg (by omega), if_pos (by omega)]
theorem ln_C_keep {g g2 : cb_S} {w : Int} {n : Nat} {s : Nat → Int} (h : ln_C g w n s) (h1 : g2 1 = g 1) (h8 : g2 8 = g 8) : ln_C g2 w n s := by
  unfold ln_C at h ⊢
  rw [h1, h8]
  exact h
theorem p_joins0 : ∀ (m i : Nat) (g : cb_S), i ≤ 60 → 60 < i + m → hp (f_X1_findJoins_b88 m (i : Int) g) (fun _ g2 => (∀ k, k ≠ 9 → g2 k = g k) ∧ (∀ j, i ≤ j → j < 60 → g2 9 j = 0) ∧ (∀ j, j < i → g2 9 j = g 9 j)) := by
  intro m
  induction m with
  | zero => intro i g h1 h2; omega
  | succ m ih =>
    intro i g h1 h2
    rw [f_X1_findJoins_b88]
    dsimp only
    rw [cb_id (x := (i : Int)) (by omega) (by omega)]
    by_cases hc : 60 ≤ i
    · rw [if_pos (by omega)]
      exact hp_some ⟨fun _ _ => rfl, fun j a b => by omega, fun _ _ => rfl⟩
    · rw [if_neg (by omega), if_pos ⟨by omega, by decide⟩]
      refine hp_imp (ih (i + 1) _ (by omega) (by omega)) (fun r g2 ⟨q1, q2, q3⟩ => ⟨fun k hk => ?_, fun j a b => ?_, fun j a => ?_⟩)
      · rw [q1 k hk]
        exact cb_u_other g _ _ hk
      · by_cases e : j = i
        · subst e
          rw [q3 j (by omega), Int.toNat_natCast]
          exact cb_u_same _ _ _ _
        · exact q2 j (by omega) b
      · rw [q3 j (by omega), Int.toNat_natCast]
        exact cb_u_ne _ _ _ _ (by omega)
theorem p_joins1 {w : Int} {n : Nat} {s : Nat → Int} : ∀ (m i : Nat) (g : cb_S), ln_C g w n s → i ≤ n → n < i + m → (∀ j, j < i → g 9 j = bI (jn n s j)) → hp (f_X1_findJoins_b2 m (i : Int) g) (fun _ g2 => (∀ k, k ≠ 9 → g2 k = g k) ∧ (∀ j, j < n → g2 9 j = bI (jn n s j)) ∧ (∀ j, n ≤ j → j < 60 → g2 9 j = 0)) := by
  intro m
  induction m with
  | zero => intro i g hl h1 h2; omega
  | succ m ih =>
    intro i g hl h1 h2 hj
    have hl0 := hl
    obtain ⟨e1, e2, hn, hs, hb, hw⟩ := hl0
    rw [f_X1_findJoins_b2]
    dsimp only
    unfold v_X3_length
    rw [Option.bind_some, Option.bind_some, e1, cb_wn (n := n) (by omega), cb_wn (n := i) (by omega)]
    by_cases hc : n ≤ i
    · rw [if_pos (by omega)]
      refine hp_imp (p_joins0 cb_N n g hn (by unfold cb_N; omega)) (fun r g2 ⟨q1, q2, q3⟩ => ⟨q1, fun j a => ?_, q2⟩)
      rw [q3 j a]
      exact hj j (by omega)
    · rw [if_neg (by omega), v_at_in hl (by omega) (by omega), Option.bind_some, Int.toNat_natCast]
      have key : ∀ v : Int, v = bI (jn n s i) → hp (f_X1_findJoins_b76 (f_X1_findJoins_b2 m) (i : Int) v (i : Int) g) (fun _ g2 => (∀ k, k ≠ 9 → g2 k = g k) ∧ (∀ j, j < n → g2 9 j = bI (jn n s j)) ∧ (∀ j, n ≤ j → j < 60 → g2 9 j = 0)) := by
        intro v hv
        unfold f_X1_findJoins_b76
        rw [cb_wn (n := i) (by omega), if_pos ⟨by omega, by rw [hv]; exact bI_01 _⟩, Int.toNat_natCast]
        refine hp_imp (ih (i + 1) _ (ln_C_keep hl (cb_u_other g _ _ (by decide)) (cb_u_other g _ _ (by decide))) (by omega) (by omega) (fun j hj1 => ?_)) (fun r g2 ⟨q1, q2, q3⟩ => ⟨fun k hk => ?_, q2, q3⟩)
        · by_cases e : j = i
          · subst e
            rw [cb_u_same, hv]
          · rw [cb_u_ne _ _ _ _ e]
            exact hj j (by omega)
        · rw [q1 k hk]
          exact cb_u_other g _ _ hk
      have k75 : f_X1_findJoins_b75 (f_X1_findJoins_b2 m) (i : Int) (i : Int) g = f_X1_findJoins_b76 (f_X1_findJoins_b2 m) (i : Int) 0 (i : Int) g := rfl
      rw [k75]
      have hsi := hb i (by omega)
      rw [cb_id (x := s i) (by omega) (by omega)]
      by_cases h94 : s i = 94
      · rw [if_pos h94]
        by_cases hi0 : i = 0
        · rw [v_at_out hl (i := (i : Int) - 1) (by omega) (by omega) (by omega), Option.bind_some, v_isLetter ⟨by decide, by decide⟩, Option.bind_some, if_pos (by decide)]
          apply key
          rw [jn_F (by omega)]
          rfl
        · have hs1 := hb (i - 1) (by omega)
          have e3 : ((i : Int) - 1).toNat = i - 1 := by omega
          rw [v_at_in hl (i := (i : Int) - 1) (by omega) (by omega), Option.bind_some, e3, v_isLetter ⟨by omega, by omega⟩, Option.bind_some]
          by_cases hlt : sg_k (s (i - 1)) = 0 ∨ sg_k (s (i - 1)) = 1
          · rw [if_pos hlt, if_neg (by decide), Option.bind_some, v_kindOf ⟨by omega, by omega⟩, Option.bind_some]
            have hr1 := sg_rng (s (i - 1))
            by_cases hin : i + 1 < n
            · have hs2 := hb (i + 1) (by omega)
              have e4 : ((i : Int) + 1).toNat = i + 1 := by omega
              have hr2 := sg_rng (s (i + 1))
              rw [v_at_in hl (i := (i : Int) + 1) (by omega) (by omega), Option.bind_some, e4, v_kindOf ⟨by omega, by omega⟩, Option.bind_some, cb_id (x := sg_k (s (i - 1))) (by omega) (by omega), cb_id (x := sg_k (s (i + 1))) (by omega) (by omega)]
              by_cases hal : sg_k (s (i - 1)) = sg_k (s (i + 1))
              · rw [if_pos hal]
                by_cases hi1 : i = 1
                · rw [v_joins_out (i := (i : Int) - 2) (by omega) (by omega), Option.bind_some, if_pos (by decide)]
                  apply key
                  rw [(jn_iff n s i).mpr ⟨h94, by omega, hin, ⟨hlt, hal⟩, fun h => by omega⟩]
                  rfl
                · have e5 : ((i : Int) - 2).toNat = i - 2 := by omega
                  rw [v_joins_in (i := (i : Int) - 2) (by omega) (by omega), Option.bind_some, e5, hj (i - 2) (by omega)]
                  cases hq : jn n s (i - 2) with
                  | false =>
                    rw [bI_f, if_pos (by decide)]
                    apply key
                    rw [(jn_iff n s i).mpr ⟨h94, by omega, hin, ⟨hlt, hal⟩, fun _ => hq⟩]
                    rfl
                  | true =>
                    rw [bI_t, if_neg (by decide)]
                    apply key
                    rw [jn_F (fun z => by have := z.2.2.2.2 (by omega); rw [hq] at this; cases this)]
                    rfl
              · rw [if_neg hal]
                apply key
                rw [jn_F (fun z => hal z.2.2.2.1.2)]
                rfl
            · rw [v_at_out hl (i := (i : Int) + 1) (by omega) (by omega) (by omega), Option.bind_some, v_kindOf ⟨by decide, by decide⟩, Option.bind_some, cb_id (x := sg_k (s (i - 1))) (by omega) (by omega), show sg_k (-1) = -1 from by decide, cb_id (x := (-1 : Int)) (by decide) (by decide), if_neg (by omega)]
              apply key
              rw [jn_F (fun z => hin z.2.2.1)]
              rfl
          · rw [if_neg hlt, if_pos (by decide)]
            apply key
            rw [jn_F (fun z => hlt z.2.2.2.1.1)]
            rfl
      · rw [if_neg h94]
        apply key
        rw [jn_F (fun z => h94 z.1)]
        rfl
theorem p_findJoins {w : Int} {n : Nat} {s : Nat → Int} {g : cb_S} (h : ln_C g w n s) : hp (f_X1_findJoins g) (fun _ g2 => (∀ k, k ≠ 9 → g2 k = g k) ∧ (∀ j, j < n → g2 9 j = bI (jn n s j)) ∧ (∀ j, n ≤ j → j < 60 → g2 9 j = 0)) :=
  p_joins1 cb_N 0 g h (Nat.zero_le _) (by have := h.2.2.1; unfold cb_N; omega) (fun j h => by omega)
