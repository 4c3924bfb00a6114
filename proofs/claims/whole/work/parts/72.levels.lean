def rise (k y : Int) : Int := if k = y then 0 else if k = 2 then (if y = 0 then 2 else 1) else 1
theorem v_rise {k y : Int} (h : cb_i k) (h2 : cb_i y) (g : cb_S) : v_X5_rise g k y = some (rise k y) := by
  unfold v_X5_rise rise
  rw [cb_id h.1 h.2, cb_id h2.1 h2.2]
  repeat' split
  all_goals rfl
def L0 (w : Int) (n : Nat) (s : Nat → Int) (i : Nat) : Int := rba w s i + rise (K4 w n s i) (wy w s i)
theorem L0_r {w : Int} {n : Nat} {s : Nat → Int} (hw : w = 0 ∨ w = 1) (i : Nat) : 0 ≤ L0 w n s i ∧ L0 w n s i ≤ 2 * i + 3 := by
  have := rba_rng hw s i
  unfold L0 rise
  repeat' split
  all_goals omega
theorem p_levels1 {w : Int} {n : Nat} {s : Nat → Int} : ∀ (m i : Nat) (g : cb_S), rwd g w n s → i ≤ n → n < i + m → (∀ j, j < n → g 22 j = K4 w n s j) → (∀ j, j < i → g 25 j = L0 w n s j) → hp (f_X5_findLevels_b2 m (i : Int) g) (fun _ g2 => (∀ j, j < n → g2 25 j = L0 w n s j) ∧ ∀ k, k ≠ 25 → g2 k = g k) := by
  intro m
  induction m with
  | zero => intro i g hd h1 h2; omega
  | succ m ih =>
    intro i g hd h1 h2 hk hj
    obtain ⟨a1, a2, a3, hl, a5, a6⟩ := id hd
    have hn := hl.2.2.1
    rw [f_X5_findLevels_b2]
    dsimp only
    rw [a2, cb_wn (n := n) (by omega), cb_wn (n := i) (by omega)]
    by_cases hend : n ≤ i
    · rw [if_pos (by omega)]
      exact hp_some ⟨fun j hj9 => hj j (by omega), fun _ _ => rfl⟩
    · have hK4 := K4_r hd (show i < n by omega)
      have hwy := wy_01 (w := w) (s := s) i
      have e8 : ((i : Int) + 1) = ((i + 1 : Nat) : Int) := by omega
      rw [if_neg (by omega), if_pos (by omega), if_pos (by omega), Int.toNat_natCast, v_wayAround hd (by omega), Option.bind_some, hk i (by omega), v_rise ⟨by omega, by omega⟩ ⟨by omega, by omega⟩, Option.bind_some, if_pos (by omega), (a1 i (by omega)).1, e8]
      refine hp_imp (ih (i + 1) _ (rwd_keep hd (fun k hk => cb_u_other g _ _ (by omega))) (by omega) (by omega) (fun j hj9 => ?_) (fun j hj9 => ?_)) (fun r g2 ⟨q1, q2⟩ => ⟨q1, fun k hk => (q2 k hk).trans (cb_u_other g _ _ hk)⟩)
      · rw [cb_u_other _ _ _ (by decide)]
        exact hk j hj9
      · by_cases e : j = i
        · rw [e, cb_u_same]
          rfl
        · rw [cb_u_ne _ _ _ _ e]
          exact hj j (by omega)
def fall (b : Int) : Bool := decide (b = 32 ∨ b = 93 ∨ b = 91 ∨ b = 123)
theorem v_fall {b : Int} (h : cb_i b) (g : cb_S) : v_X7_fallsToBaseAtEnd g b = some (bI (fall b)) := by
  unfold v_X7_fallsToBaseAtEnd
  rw [v_beginsIsle h, cb_id h.1 h.2]
  simp only [Option.bind_some]
  unfold fall
  by_cases h1 : b = 32
  · subst h1; rfl
  · by_cases h2 : b = 93
    · subst h2; rfl
    · rw [if_neg h1, if_neg h2]
      by_cases h3 : b = 91 ∨ b = 123
      · rw [if_pos h3, if_neg (by decide), decide_eq_true (by omega)]
        rfl
      · rw [if_neg h3, if_pos (by decide), decide_eq_false (by omega)]
        rfl
/-- the last c signs all fall to the base -/
def fe (n : Nat) (s : Nat → Int) : Nat → Bool
  | 0 => true
  | c + 1 => fe n s c && fall (s (n - 1 - c))
theorem fe_less {n : Nat} {s : Nat → Int} {c d : Nat} (h : c ≤ d) (hd : fe n s d = true) : fe n s c = true := by
  induction d with
  | zero => rw [show c = 0 by omega]; rfl
  | succ d ih =>
    by_cases e : c = d + 1
    · rw [e]; exact hd
    · have hd : (fe n s d && fall (s (n - 1 - d))) = true := hd
      exact ih (by omega) (Bool.and_eq_true_iff.mp hd).1
/-- levels -/
def LV (w : Int) (n : Nat) (s : Nat → Int) (i : Nat) : Int := if fe n s (n - i) = true then w else L0 w n s i
theorem LV_r {w : Int} {n : Nat} {s : Nat → Int} (hw : w = 0 ∨ w = 1) (i : Nat) : 0 ≤ LV w n s i ∧ LV w n s i ≤ 2 * i + 3 := by
  have := L0_r (n := n) (s := s) hw i
  unfold LV
  split <;> omega
theorem p_lower1 {w : Int} {n : Nat} {s : Nat → Int} : ∀ (m i : Nat) (g : cb_S), rwd g w n s → i ≤ n → i < m → fe n s (n - i) = true → (∀ j, j < i → g 25 j = L0 w n s j) → (∀ j, i ≤ j → j < n → g 25 j = w) → hp (f_X5_lowerEnd_b7 m ((i : Int) - 1) g) (fun _ g2 => (∀ j, j < n → g2 25 j = LV w n s j) ∧ ∀ k, k ≠ 25 → g2 k = g k) := by
  intro m
  induction m with
  | zero => intro i g hd h1 h2; omega
  | succ m ih =>
    intro i g hd h1 h2 hf hj hj2
    obtain ⟨a1, a2, a3, hl, a5, a6⟩ := id hd
    obtain ⟨e1, e2, hn, hs, hb, hw⟩ := id hl
    rw [f_X5_lowerEnd_b7]
    dsimp only
    rw [cb_id (x := (i : Int) - 1) (by omega) (by omega)]
    by_cases hend : i = 0
    · rw [if_pos (by omega)]
      refine hp_some ⟨fun j hj9 => ?_, fun _ _ => rfl⟩
      unfold LV
      rw [if_pos (fe_less (d := n - i) (by omega) hf)]
      exact hj2 j (by omega) hj9
    · obtain ⟨q, rfl⟩ : ∃ q, i = q + 1 := ⟨i - 1, by omega⟩
      have e7 : (((q + 1 : Nat) : Int) - 1) = (q : Int) := by omega
      have e9 : ((q : Int) + (-1)) = ((q : Int) - 1) := by omega
      have hsb := hb q (by omega)
      have hfe : fe n s (n - q) = (fe n s (n - (q + 1)) && fall (s q)) := by
        rw [show n - q = (n - (q + 1)) + 1 by omega]
        show (fe n s (n - (q + 1)) && fall (s (n - 1 - (n - (q + 1))))) = _
        rw [show n - 1 - (n - (q + 1)) = q by omega]
      rw [e7, if_neg (by omega), v_at_in hl (by omega) (by omega), Option.bind_some, Int.toNat_natCast, v_fall ⟨by omega, by omega⟩, Option.bind_some]
      cases hq : fall (s q) with
      | false =>
        rw [bI_f, if_pos (by decide)]
        refine hp_some ⟨fun j hj9 => ?_, fun _ _ => rfl⟩
        unfold LV
        by_cases h9 : q < j
        · rw [if_pos (fe_less (d := n - (q + 1)) (by omega) hf)]
          exact hj2 j (by omega) hj9
        · rw [if_neg (fun z => ?_)]
          · exact hj j (by omega)
          · have := fe_less (c := n - q) (by omega) z
            rw [hfe, hq] at this
            simp at this
      | true =>
        rw [bI_t, if_neg (by decide), if_pos (by omega), e9, a3]
        refine hp_imp (ih q _ (rwd_keep hd (fun k hk => cb_u_other g _ _ (by omega))) (by omega) (by omega) (by rw [hfe, hf, hq]; rfl) (fun j hj9 => ?_) (fun j hj9 hj8 => ?_)) (fun r g2 ⟨q1, q2⟩ => ⟨q1, fun k hk => (q2 k hk).trans (cb_u_other g _ _ hk)⟩)
        · rw [cb_u_ne _ _ _ _ (by omega)]
          exact hj j (by omega)
        · by_cases e : j = q
          · rw [e, cb_u_same]
          · rw [cb_u_ne _ _ _ _ e]
            exact hj2 j (by omega) hj8
/-- what the rows' cells say behind lay() -/
def rok (g : cb_S) (w : Int) (n : Nat) (s : Nat → Int) : Prop := g 3 10 = (n : Int) ∧ g 3 12 = w ∧ (∀ j, j < n → g 25 j = LV w n s j) ∧ g 3 11 = ((rst w s n).2.1 : Int) ∧ (∀ r, r < (rst w s n).2.1 → g 18 r = lat w s n r)
theorem p_rows {w : Int} {n : Nat} {s : Nat → Int} {g : cb_S} (hl : ln_C g w n s) (hj : jns g n s) (hv : ∀ j, j < n → sg_k (s j) ≠ -1) : hp (f_X5_lay g) (fun _ g2 => rok g2 w n s ∧ ∀ k, ¬ rw_w k → g2 k = g k) := by
  obtain ⟨e1, e2, hn, hs, hb, hw⟩ := id hl
  unfold f_X5_lay v_X3_length v_X3_base
  rw [Option.bind_some, Option.bind_some, e1]
  have hlb : (cb_u g 3 10 (n : Int)) 1 2 = w := by rw [cb_u_other _ _ _ (by decide)]; exact e2
  rw [hlb]
  have k0 : ∀ k, ¬ rw_w k → (cb_u (cb_u g 3 10 (n : Int)) 3 12 w) k = g k := fun k hk => by
    unfold rw_w at hk
    rw [cb_u_other _ _ _ (by omega), cb_u_other _ _ _ (by omega)]
  refine hp_b (p_divide (w := w) (n := n) (s := s) (ln_C_keep hl (k0 1 (by unfold rw_w; omega)) (k0 8 (by unfold rw_w; omega))) (by simp [cb_u]) (by simp [cb_u])) (fun _ g3 ⟨⟨row, hr⟩, b2, b3, b4⟩ => ?_)
  obtain ⟨r1, r2, r3, r4, r5, r6, r7, r8⟩ := hr
  have hk3 : ∀ k, ¬ rw_w k → g3 k = g k := fun k hk => (b4 k hk).trans (k0 k hk)
  have hd3 : rwd g3 w n s := ⟨r8, b2, b3, ln_C_keep hl (hk3 1 (by unfold rw_w; omega)) (hk3 8 (by unfold rw_w; omega)), jns_keep hj (hk3 9 (by unfold rw_w; omega)), hv⟩
  refine hp_b (p_findKinds hd3) (fun _ g4 ⟨c1, c2⟩ => ?_)
  have hd4 := rwd_keep hd3 (g2 := g4) (fun k hk => c2 k (by omega))
  refine hp_b (p_seps hd4 c1) (fun _ g5 ⟨d1, d2⟩ => ?_)
  have hd5 := rwd_keep hd4 (g2 := g5) (fun k hk => d2 k (by omega))
  refine hp_b (p_digits hd5 d1) (fun _ g6 ⟨f1, f2⟩ => ?_)
  have hd6 := rwd_keep hd5 (g2 := g6) (fun k hk => f2 k (by omega) (by omega))
  refine hp_b (p_plain hd6 f1) (fun _ g7 ⟨h1, h2⟩ => ?_)
  have hd7 := rwd_keep hd6 (g2 := g7) (fun k hk => h2 k (by omega) (by omega) (by omega))
  refine hp_b (p_levels1 cb_N 0 g7 hd7 (Nat.zero_le _) (by unfold cb_N; omega) h1 (fun j hj => by omega)) (fun _ g8 ⟨i1, i2⟩ => ?_)
  have hd8 := rwd_keep hd7 (g2 := g8) (fun k hk => i2 k (by omega))
  have hlow : hp (f_X5_lowerEnd g8) (fun _ g2 => (∀ j, j < n → g2 25 j = LV w n s j) ∧ ∀ k, k ≠ 25 → g2 k = g8 k) := by
    unfold f_X5_lowerEnd
    rw [hd8.2.1]
    exact p_lower1 cb_N n g8 hd8 (Nat.le_refl _) (by unfold cb_N; omega) (by rw [Nat.sub_self]; rfl) i1 (fun j a b => by omega)
  refine hp_b hlow (fun _ g9 ⟨j1, j2⟩ => hp_some ⟨?_, fun k hk => ?_⟩)
  · have hd9 := rwd_keep hd8 (g2 := g9) (fun k hk => j2 k (by omega))
    have keep : ∀ k, k < 22 → g9 k = g3 k := fun k hk => by rw [j2 k (by omega), i2 k (by omega), h2 k (by omega) (by omega) (by omega), f2 k (by omega) (by omega), d2 k (by omega), c2 k (by omega)]
    refine ⟨hd9.2.1, hd9.2.2.1, j1, ?_, fun r hr => ?_⟩
    · rw [keep 3 (by omega)]
      exact r2
    · rw [keep 18 (by omega)]
      exact (r5 r hr).2
  · have hk' := hk
    unfold rw_w at hk'
    rw [j2 k (by omega), i2 k (by omega), h2 k (by omega) (by omega) (by omega), f2 k (by omega) (by omega), d2 k (by omega), c2 k (by omega)]
    exact hk3 k hk
