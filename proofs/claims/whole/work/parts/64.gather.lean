theorem v_begins {w : Int} {n : Nat} {s : Nat → Int} {g : cb_S} {i : Nat} (hl : ln_C g w n s) (hj : jns g n s) (h1 : 1 ≤ i) (hi : i < n) : v_X1_begins g (i : Int) (bI (am s i)) = some (bI (bd n s i)) := by
  obtain ⟨e1, e2, hn, hs, hb, hw⟩ := id hl
  have hsb := hb i hi
  have e9 : ((i : Int) - 1) = ((i - 1 : Nat) : Int) := by omega
  have h0 : bd n s i = (if s i = 39 ∨ s i = 126 then am s i else (!jn n s i && !jn n s (i - 1))) := by
    unfold bd
    rw [show decide (i = 0) = false from decide_eq_false (by omega), show decide (i = n) = false from decide_eq_false (by omega)]
    rfl
  unfold v_X1_begins
  rw [v_at_in hl (by omega) (by omega), Option.bind_some, Int.toNat_natCast, v_isMark ⟨by omega, by omega⟩, Option.bind_some, e9, v_joinsAt hn hj i (by omega), v_joinsAt hn hj (i - 1) (by omega), Option.bind_some, Option.bind_some, h0]
  by_cases hm : s i = 39 ∨ s i = 126
  · rw [if_pos hm, if_pos hm, if_neg (by decide), if_pos (bI_01 _)]
  · rw [if_neg hm, if_neg hm, if_pos (by decide)]
    cases jn n s i <;> cases jn n s (i - 1) <;> rfl
def gth (g : cb_S) (w : Int) (n : Nat) (s : Nat → Int) (lb : Nat) : Prop := ln_C g w n s ∧ jns g n s ∧ clu g n s lb ∧ g 2 9 = (n : Int)
theorem gth_keep {g g2 : cb_S} {w : Int} {n : Nat} {s : Nat → Int} {lb lb2 : Nat} (h : gth g w n s lb) (hc : clu g2 n s lb2) (h9 : g2 2 9 = (n : Int)) (hk : ∀ k, ¬ cl_w k → g2 k = g k) : gth g2 w n s lb2 :=
  ⟨ln_C_keep h.1 (hk 1 (by unfold cl_w; omega)) (hk 8 (by unfold cl_w; omega)), jns_keep h.2.1 (hk 9 (by unfold cl_w; omega)), hc, h9⟩
theorem p_gather1 {w : Int} {n : Nat} {s : Nat → Int} : ∀ (m i lb : Nat) (g : cb_S), gth g w n s lb → 1 ≤ i → i ≤ n + 1 → lb < i → lb ≤ n → bd n s lb = true → (∀ t, lb < t → t < i → t ≤ n → bd n s t = false) → n + 1 < i + m → hp (f_X1_gather_b54 m (bI (am s (i - 1))) (lb : Int) (i : Int) g) (fun _ g2 => gth g2 w n s n ∧ ∀ k, ¬ cl_w k → g2 k = g k) := by
  intro m
  induction m with
  | zero => intro i lb g hg h1 h2 h3 h4 h5 h6 h7; omega
  | succ m ih =>
    intro i lb g hg h1 h2 h3 h4 h5 h6 h7
    obtain ⟨hl, hj, hc, h9⟩ := id hg
    obtain ⟨e1, e2, hn, hs, hb, hw⟩ := id hl
    rw [f_X1_gather_b54]
    dsimp only
    rw [h9, cb_wn (n := n) (by omega), cb_wn (n := i) (by omega)]
    by_cases hend : n < i
    · rw [if_pos (by omega)]
      have : lb = n := by
        by_cases e : lb = n
        · exact e
        · have := h6 n (by omega) (by omega) (Nat.le_refl _)
          rw [show bd n s n = true by simp [bd]] at this
          cases this
      subst this
      exact hp_some ⟨hg, fun _ _ => rfl⟩
    · rw [if_neg (by omega)]
      -- the step behind the test of marks
      have key : hp (f_X1_gather_b86 (f_X1_gather_b54 m) (lb : Int) (i : Int) (bI (am s i)) g) (fun _ g2 => gth g2 w n s n ∧ ∀ k, ¬ cl_w k → g2 k = g k) := by
        have e8 : ((i : Int) + 1) = ((i + 1 : Nat) : Int) := by omega
        have add : bd n s i = true → hp (f_X1_gather_b107 (f_X1_gather_b54 m) (bI (am s i)) (lb : Int) (i : Int) g) (fun _ g2 => gth g2 w n s n ∧ ∀ k, ¬ cl_w k → g2 k = g k) := by
          intro hbi
          unfold f_X1_gather_b107
          refine hp_b (p_add hl hj hc h9 h3 (by omega) h5 hbi (fun t a b => h6 t a b (by omega))) (fun r g1 ⟨q1, q2, q3⟩ => ?_)
          unfold f_X1_gather_b118
          rw [e8]
          refine hp_imp (ih (i + 1) i g1 (gth_keep hg q1 q2 q3) (by omega) (by omega) (by omega) (by omega) hbi (fun t a b => by omega) (by omega)) (fun r g2 ⟨p1, p2⟩ => ⟨p1, fun k hk => (p2 k hk).trans (q3 k hk)⟩)
        unfold f_X1_gather_b86
        rw [h9, cb_wn (n := n) (by omega), cb_wn (n := i) (by omega)]
        by_cases hin : i = n
        · rw [if_pos (by omega)]
          exact add (by subst hin; simp [bd])
        · rw [if_neg (by omega), v_begins hl hj h1 (by omega), Option.bind_some]
          cases hbi : bd n s i with
          | true =>
            rw [bI_t, if_neg (by decide)]
            exact add hbi
          | false =>
            rw [bI_f, if_pos (by decide)]
            unfold f_X1_gather_b118
            rw [e8]
            refine ih (i + 1) lb g hg (by omega) (by omega) (by omega) h4 h5 (fun t a b c => ?_) (by omega)
            by_cases e : t = i
            · rw [e]; exact hbi
            · exact h6 t a (by omega) c
      have k85 : f_X1_gather_b85 (f_X1_gather_b54 m) (lb : Int) (i : Int) g = f_X1_gather_b86 (f_X1_gather_b54 m) (lb : Int) (i : Int) 0 g := rfl
      rw [k85]
      have e3 : ((i : Int) - 1).toNat = i - 1 := by omega
      have hsb := hb (i - 1) (by omega)
      have ham : am s i = (am s (i - 1) && decide (s (i - 1) = 39 ∨ s (i - 1) = 126)) := by
        obtain ⟨q, rfl⟩ : ∃ q, i = q + 1 := ⟨i - 1, by omega⟩
        rfl
      cases hm : am s (i - 1) with
      | false =>
        rw [hm] at ham
        rw [ham] at key
        rw [bI_f, if_pos (by decide)]
        exact key
      | true =>
        rw [hm] at ham
        rw [bI_t, if_neg (by decide), v_at_in hl (by omega) (by omega), Option.bind_some, e3, v_isMark ⟨by omega, by omega⟩, Option.bind_some]
        by_cases hk : s (i - 1) = 39 ∨ s (i - 1) = 126
        · rw [if_pos hk, if_neg (by decide)]
          rw [show decide (s (i - 1) = 39 ∨ s (i - 1) = 126) = true from decide_eq_true hk] at ham
          rw [ham] at key
          exact key
        · rw [if_neg hk, if_pos (by decide)]
          rw [show decide (s (i - 1) = 39 ∨ s (i - 1) = 126) = false from decide_eq_false hk] at ham
          rw [ham] at key
          exact key
theorem p_gather {w : Int} {n : Nat} {s : Nat → Int} {g : cb_S} (h : ln_C g w n s) : hp (f_X1_gather g) (fun _ g2 => gth g2 w n s n ∧ ∀ k, ¬ cl_w k → k ≠ 9 → g2 k = g k) := by
  unfold f_X1_gather
  refine hp_b (p_findJoins h) (fun r1 g1 ⟨a1, a2, a3⟩ => ?_)
  refine hp_b (p_fill 13 61 (-1) (by decide) cb_N 0 g1 (by decide) (by decide)) (fun r2 g2 ⟨b1, b2, b3⟩ => ?_)
  refine hp_b (p_fill 14 61 (-1) (by decide) cb_N 0 g2 (by decide) (by decide)) (fun r3 g3 ⟨d1, d2, d3⟩ => ?_)
  refine hp_b (p_fill 15 61 (-1) (by decide) cb_N 0 g3 (by decide) (by decide)) (fun r4 g4 ⟨f1, f2, f3⟩ => ?_)
  have keep : ∀ k, k ≠ 9 → k ≠ 13 → k ≠ 14 → k ≠ 15 → g4 k = g k := fun k h1 h2 h3 h4 => by rw [f1 k h4, d1 k h3, b1 k h2, a1 k h1]
  have hl4 : ln_C g4 w n s := ln_C_keep h (keep 1 (by decide) (by decide) (by decide) (by decide)) (keep 8 (by decide) (by decide) (by decide) (by decide))
  have hj4 : jns g4 n s := by
    have : g4 9 = g1 9 := by rw [f1 9 (by decide), d1 9 (by decide), b1 9 (by decide)]
    unfold jns
    rw [this]
    exact ⟨a2, a3⟩
  have x13 : ∀ t, t ≤ 60 → g4 13 t = -1 := fun t ht => by rw [f1 13 (by decide), d1 13 (by decide), b2 t (Nat.zero_le _) (by omega)]
  have x14 : ∀ t, t ≤ 60 → g4 14 t = -1 := fun t ht => by rw [f1 14 (by decide), d2 t (Nat.zero_le _) (by omega)]
  have x15 : ∀ t, t ≤ 60 → g4 15 t = -1 := fun t ht => f2 t (Nat.zero_le _) (by omega)
  unfold v_X3_length
  rw [Option.bind_some]
  have hn := h.2.2.1
  have hg : gth (cb_u (cb_u (cb_u g4 2 7 0) 2 8 0) 2 9 ((cb_u (cb_u g4 2 7 0) 2 8 0) 1 1)) w n s 0 := by
    refine ⟨ln_C_keep hl4 (by simp only [cb_u_other _ _ _ (show (1 : Nat) ≠ 2 by decide)]) (by simp only [cb_u_other _ _ _ (show (8 : Nat) ≠ 2 by decide)]), jns_keep hj4 (by simp only [cb_u_other _ _ _ (show (9 : Nat) ≠ 2 by decide)]), ⟨by simp [cb_u, cn], by simp [cb_u, jc], fun b hb => by omega, fun b hb hb2 => by omega, fun t ht => ?_, fun t ht => ?_, fun t ht => ?_⟩, ?_⟩
    · rw [if_neg (by omega)]
      simp only [cb_u_other _ _ _ (show (13 : Nat) ≠ 2 by decide)]
      exact x13 t ht
    · rw [if_neg (by omega)]
      simp only [cb_u_other _ _ _ (show (14 : Nat) ≠ 2 by decide)]
      exact x14 t ht
    · rw [if_neg (by omega)]
      simp only [cb_u_other _ _ _ (show (15 : Nat) ≠ 2 by decide)]
      exact x15 t ht
    · simp [cb_u]
      exact hl4.1
  refine hp_imp (p_gather1 cb_N 1 0 _ hg (by decide) (by omega) (by decide) (Nat.zero_le _) (by simp [bd]) (fun t a b => by omega) (by unfold cb_N; omega)) (fun r g5 ⟨q1, q2⟩ => ⟨q1, fun k hk h9 => ?_⟩)
  rw [q2 k hk]
  unfold cl_w at hk
  rw [cb_u_other _ _ _ (by omega), cb_u_other _ _ _ (by omega), cb_u_other _ _ _ (by omega)]
  exact keep k h9 (by omega) (by omega) (by omega)
