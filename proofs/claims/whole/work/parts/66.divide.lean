theorem rst_succ (w : Int) (s : Nat → Int) (i : Nat) : rst w s (i + 1) = (if s i = 91 ∨ s i = 123 then ((rst w s i).2.1 :: (if s i = 93 then pop (rst w s i).1 else (rst w s i).1), (rst w s i).2.1 + 1, fun r => if r = (rst w s i).2.1 then bw (rba w s i) (if s i = 91 then 0 else 1) else (rst w s i).2.2 r) else ((if s i = 93 then pop (rst w s i).1 else (rst w s i).1), (rst w s i).2.1, (rst w s i).2.2)) := rfl
theorem v_beginsIsle {b : Int} (h : cb_i b) (g : cb_S) : v_X7_beginsIsle g b = some (if b = 91 ∨ b = 123 then 1 else 0) := by
  obtain ⟨h1, h2⟩ := h
  unfold v_X7_beginsIsle
  rw [cb_id h1 h2]
  repeat' split
  all_goals first | rfl | (exfalso; omega)
theorem v_baseWithin {b p : Int} (h : 0 ≤ b ∧ b ≤ 1000) (hp : p = 0 ∨ p = 1) (g : cb_S) : v_X5_baseWithin g b p = some (bw b p) := by
  unfold v_X5_baseWithin bw
  rw [cb_id (x := (b + 1) % 2) (by omega) (by omega), cb_id (x := p) (by omega) (by omega)]
  split
  · rfl
  · exact congrArg some (by omega)
theorem bw_rng {b p : Int} (h : 0 ≤ b) : b + 1 ≤ bw b p ∧ bw b p ≤ b + 2 := by
  unfold bw
  split <;> omega
/-- what stays as divide() goes on -/
def dv (g : cb_S) (w : Int) (n : Nat) (s : Nat → Int) : Prop := ln_C g w n s ∧ g 3 10 = (n : Int)
theorem p_divide1 {w : Int} {n : Nat} {s : Nat → Int} : ∀ (m i row : Nat) (g : cb_S), dv g w n s → i ≤ n → n < i + m → rws g w s i row → hp (f_X5_divide_b17 m (row : Int) (i : Int) g) (fun _ g2 => (∃ row2, rws g2 w s n row2) ∧ g2 3 10 = (n : Int) ∧ g2 3 12 = g 3 12 ∧ ∀ k, ¬ rw_w k → g2 k = g k) := by
  intro m
  induction m with
  | zero => intro i row g hd h1 h2; omega
  | succ m ih =>
    intro i row g hd h1 h2 hr
    obtain ⟨hl, h10⟩ := id hd
    obtain ⟨e1, e2, hn, hs, hb, hw⟩ := id hl
    obtain ⟨r1, r2, r3, r4, r5, r6, r7, r8⟩ := id hr
    rw [f_X5_divide_b17]
    dsimp only
    rw [h10, cb_wn (n := n) (by omega), cb_wn (n := i) (by omega)]
    by_cases hend : n ≤ i
    · rw [if_pos (by omega)]
      have : i = n := by omega
      subst this
      exact hp_some ⟨⟨row, hr⟩, h10, rfl, fun _ _ => rfl⟩
    · rw [if_neg (by omega), v_at_in hl (by omega) (by omega), Option.bind_some, Int.toNat_natCast]
      have hsb := hb i (by omega)
      rw [cb_id (x := s i) (by omega) (by omega)]
      have hrow : row < (rst w s i).2.1 := by rw [← r1]; exact chn_hd r4
      -- the row of sign i
      have hst : chn (g 17) (rst w s i).2.1 (if s i = 93 then pop (rst w s i).1 else (rst w s i).1) := by
        split
        · exact (chn_pop r4).1
        · exact r4
      have hro : ro w s i < (rst w s i).2.1 := chn_hd hst
      have key : hp (f_X5_divide_b49 (f_X5_divide_b17 m) (ro w s i : Int) (i : Int) (s i) g) (fun _ g2 => (∃ row2, rws g2 w s n row2) ∧ g2 3 10 = (n : Int) ∧ g2 3 12 = g 3 12 ∧ ∀ k, ¬ rw_w k → g2 k = g k) := by
        unfold f_X5_divide_b49
        have e8 : ((i : Int) + 1) = ((i + 1 : Nat) : Int) := by omega
        refine hp_b (p_append (b0 := rba w s i) (l0 := lat w s i (ro w s i)) (by omega) (by omega) (r5 _ hro).1 (r5 _ hro).2 (lat_rng w s i _)) (fun _ g1 ⟨q1, q2, q3, q4, q5⟩ => ?_)
        have k1 : ∀ k, ¬ rw_w k → g1 k = g k := fun k hk => q1 k (fun z => hk (by unfold rw_w; omega)) (fun z => hk (by unfold rw_w; omega)) (fun z => hk (by unfold rw_w; omega)) (fun z => hk (by unfold rw_w; omega))
        have k3 : g1 3 = g 3 := q1 3 (by decide) (by decide) (by decide) (by decide)
        have k16 : g1 16 = g 16 := q1 16 (by decide) (by decide) (by decide) (by decide)
        have k17 : g1 17 = g 17 := q1 17 (by decide) (by decide) (by decide) (by decide)
        have hlat : ∀ r, g1 18 r = if r = ro w s i then (i : Int) else g 18 r := q2
        have hlat2 : ∀ r, lat w s (i + 1) r = if ro w s i = r then (i : Int) else lat w s i r := fun r => rfl
        have hsig : ∀ j, j < i + 1 → g1 19 j = rba w s j ∧ g1 20 j = lat w s j (ro w s j) ∧ g1 21 j = bh w s (i + 1) j := fun j hj => by
          have hbh : bh w s (i + 1) j = if lat w s i (ro w s i) = (j : Int) then (i : Int) else bh w s i j := rfl
          rw [q3, q4, q5, hbh]
          by_cases e : j = i
          · subst e
            rw [if_pos rfl, if_pos rfl, if_pos rfl, bh_out w s j j (Nat.le_refl _)]
            exact ⟨rfl, rfl, rfl⟩
          · obtain ⟨t1, t2, t3⟩ := r8 j (by omega)
            rw [if_neg e, if_neg e, if_neg e, t1, t2, t3]
            exact ⟨rfl, rfl, rfl⟩
        rw [v_beginsIsle ⟨by omega, by omega⟩, Option.bind_some, cb_id (x := s i) (by omega) (by omega)]
        by_cases hisle : s i = 91 ∨ s i = 123
        · rw [if_pos hisle, if_neg (by decide)]
          have hp01 : (if s i = 91 then (0 : Int) else 1) = 0 ∨ (if s i = 91 then (0 : Int) else 1) = 1 := by split <;> omega
          have h75 : hp (f_X5_divide_b75 (f_X5_divide_b17 m) (ro w s i : Int) (i : Int) (if s i = 91 then (0 : Int) else 1) g1) (fun _ g2 => (∃ row2, rws g2 w s n row2) ∧ g2 3 10 = (n : Int) ∧ g2 3 12 = g 3 12 ∧ ∀ k, ¬ rw_w k → g2 k = g k) := by
            have hba := r7 _ hro
            have hba : 0 ≤ rba w s i ∧ rba w s i ≤ 2 * i + 1 := hba
            have hbw := bw_rng (p := if s i = 91 then (0 : Int) else 1) hba.1
            unfold f_X5_divide_b75
            rw [cb_wn (n := i) (by omega), if_pos (by omega), Int.toNat_natCast, (hsig i (by omega)).1, v_baseWithin ⟨hba.1, by omega⟩ hp01, Option.bind_some]
            have hmk : f_X5_make g1 (bw (rba w s i) (if s i = 91 then (0 : Int) else 1)) (ro w s i : Int) = some ((((rst w s i).2.1 : Nat) : Int), cb_u (cb_u (cb_u (cb_u g1 16 (rst w s i).2.1 (bw (rba w s i) (if s i = 91 then (0 : Int) else 1))) 17 (rst w s i).2.1 (ro w s i : Int)) 18 (rst w s i).2.1 (-1)) 3 11 (((rst w s i).2.1 + 1 : Nat) : Int)) := by
              unfold f_X5_make
              rw [k3, r2, cb_wn (n := (rst w s i).2.1) (by omega), cb_wn (n := 61) (by omega), if_pos (by omega), if_pos (by omega), if_pos (by omega), if_pos (by omega), Int.toNat_natCast]
              refine congrArg some (Prod.ext (by show _ + 1 - 1 = _; omega) ?_)
              rfl
            rw [hmk, cb_b_some]
            unfold f_X5_divide_b94
            rw [e8]
            generalize hG : cb_u (cb_u (cb_u (cb_u g1 16 (rst w s i).2.1 (bw (rba w s i) (if s i = 91 then (0 : Int) else 1))) 17 (rst w s i).2.1 (ro w s i : Int)) 18 (rst w s i).2.1 (-1)) 3 11 (((rst w s i).2.1 + 1 : Nat) : Int) = G
            have G3 : ∀ j, G 3 j = if j = 11 then (((rst w s i).2.1 + 1 : Nat) : Int) else g 3 j := fun j => by rw [← hG]; simp [cb_u, k3]
            have G16 : ∀ r, G 16 r = if r = (rst w s i).2.1 then bw (rba w s i) (if s i = 91 then (0 : Int) else 1) else g 16 r := fun r => by rw [← hG]; simp [cb_u, k16]
            have G17 : ∀ r, G 17 r = if r = (rst w s i).2.1 then (ro w s i : Int) else g 17 r := fun r => by rw [← hG]; simp [cb_u, k17]
            have G18 : ∀ r, G 18 r = if r = (rst w s i).2.1 then -1 else g1 18 r := fun r => by rw [← hG]; simp [cb_u]
            have Gk : ∀ k, k ≠ 3 → k ≠ 16 → k ≠ 17 → k ≠ 18 → G k = g1 k := fun k a1 a2 a3 a4 => by rw [← hG, cb_u_other _ _ _ a1, cb_u_other _ _ _ a4, cb_u_other _ _ _ a3, cb_u_other _ _ _ a2]
            have Gk2 : ∀ k, ¬ rw_w k → G k = g k := fun k hk => by rw [Gk k (fun z => hk (by unfold rw_w; omega)) (fun z => hk (by unfold rw_w; omega)) (fun z => hk (by unfold rw_w; omega)) (fun z => hk (by unfold rw_w; omega))]; exact k1 k hk
            have hrs : rst w s (i + 1) = ((rst w s i).2.1 :: (if s i = 93 then pop (rst w s i).1 else (rst w s i).1), (rst w s i).2.1 + 1, fun r => if r = (rst w s i).2.1 then bw (rba w s i) (if s i = 91 then 0 else 1) else (rst w s i).2.2 r) := by
              rw [rst_succ, if_pos hisle]
            have hrws : rws G w s (i + 1) (rst w s i).2.1 := by
              unfold rws
              rw [hrs]
              refine ⟨rfl, by rw [G3, if_pos rfl], by show _ + 1 ≤ _; omega, ?_, fun r hr9 => ?_, fun r hr9 => ?_, fun r hr9 => ?_, fun j hj => ?_⟩
              · refine chn_push (k := (rst w s i).2.1) (chn_more (Nat.le_refl _) (fun r hr9 => ?_) _ hst) ?_ (by show _ < _ + 1; omega) (by show _ ≤ _ + 1; omega)
                · rw [G17, if_neg (by omega)]
                · rw [G17, if_pos rfl]
                  rfl
              · have hr9 : r < (rst w s i).2.1 + 1 := hr9
                dsimp only
                rw [G16, G18, hlat2]
                by_cases e : r = (rst w s i).2.1
                · rw [if_pos e, if_pos e, if_pos e, if_neg (show ¬ ro w s i = r by omega), r6 r (by omega)]
                  exact ⟨rfl, rfl⟩
                · rw [if_neg e, if_neg e, if_neg e, hlat, (r5 r (by omega)).1]
                  refine ⟨rfl, ?_⟩
                  by_cases e2 : r = ro w s i
                  · rw [if_pos e2, if_pos e2.symm]
                  · rw [if_neg e2, if_neg (fun z => e2 z.symm), (r5 r (by omega)).2]
              · have hr9 : (rst w s i).2.1 + 1 ≤ r := hr9
                rw [hlat2, if_neg (show ¬ ro w s i = r by omega), r6 r (by omega)]
              · have hr9 : r < (rst w s i).2.1 + 1 := hr9
                dsimp only
                by_cases e : r = (rst w s i).2.1
                · rw [if_pos e]
                  omega
                · rw [if_neg e]
                  have := r7 r (by omega)
                  omega
              · rw [Gk 19 (by decide) (by decide) (by decide) (by decide), Gk 20 (by decide) (by decide) (by decide) (by decide), Gk 21 (by decide) (by decide) (by decide) (by decide)]
                exact hsig j hj
            refine hp_imp (ih (i + 1) _ G ⟨ln_C_keep hl (Gk2 1 (by unfold rw_w; omega)) (Gk2 8 (by unfold rw_w; omega)), by rw [G3, if_neg (by decide)]; exact h10⟩ (by omega) (by omega) hrws) (fun r g2 ⟨p1, p2, p3, p4⟩ => ⟨p1, p2, ?_, fun k hk => (p4 k hk).trans (Gk2 k hk)⟩)
            · rw [p3, G3, if_neg (by decide)]
          by_cases h91 : s i = 91
          · rw [if_pos h91] at h75 ⊢
            exact h75
          · rw [if_neg h91] at h75 ⊢
            exact h75
        · rw [if_neg hisle, if_pos (by decide)]
          unfold f_X5_divide_b94
          rw [e8]
          have hrs : rst w s (i + 1) = ((if s i = 93 then pop (rst w s i).1 else (rst w s i).1), (rst w s i).2.1, (rst w s i).2.2) := by
            rw [rst_succ, if_neg hisle]
          have hrws : rws g1 w s (i + 1) (ro w s i) := by
            unfold rws
            rw [hrs]
            refine ⟨rfl, by rw [k3]; exact r2, by show (rst w s i).2.1 ≤ i + 1 + 1; omega, by rw [k17]; exact hst, fun r hr9 => ?_, fun r hr9 => ?_, fun r hr9 => ?_, hsig⟩
            · have hr9 : r < (rst w s i).2.1 := hr9
              dsimp only
              rw [k16, hlat, hlat2, (r5 r hr9).1]
              refine ⟨rfl, ?_⟩
              by_cases e2 : r = ro w s i
              · rw [if_pos e2, if_pos e2.symm]
              · rw [if_neg e2, if_neg (fun z => e2 z.symm), (r5 r hr9).2]
            · have hr9 : (rst w s i).2.1 ≤ r := hr9
              rw [hlat2, if_neg (show ¬ ro w s i = r by omega), r6 r (by omega)]
            · have := r7 r hr9
              dsimp only
              omega
          refine hp_imp (ih (i + 1) _ g1 ⟨ln_C_keep hl (k1 1 (by unfold rw_w; omega)) (k1 8 (by unfold rw_w; omega)), by rw [k3]; exact h10⟩ (by omega) (by omega) hrws) (fun r g2 ⟨p1, p2, p3, p4⟩ => ⟨p1, p2, by rw [p3, k3], fun k hk => (p4 k hk).trans (k1 k hk)⟩)
      by_cases h93 : s i = 93
      · rw [if_pos h93, v_val_in (by decide) (by omega) (by omega), Option.bind_some, Int.toNat_natCast]
        have e5 : g 17 row = (ro w s i : Int) := by
          have := (chn_pop r4).2
          rw [r1] at this
          rw [this]
          unfold ro
          rw [if_pos h93]
        rw [e5]
        exact key
      · rw [if_neg h93]
        have e5 : row = ro w s i := by
          unfold ro
          rw [if_neg h93]
          exact r1.symm
        rw [e5]
        exact key
