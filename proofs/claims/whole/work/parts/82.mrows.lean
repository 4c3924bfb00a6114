theorem q_rows1 {w : Int} {n : Nat} {s : Nat → Int} : ∀ (m i d : Nat) (g : cb_S), ln_M g w n s → i ≤ n → n < i + m → d + 1 = (rst w s i).1.length → mrw g w s i → hp (f_X9_rows_b26 m (d : Int) (i : Int) g) (fun _ g2 => mrw g2 w s n ∧ (∀ t, t ≠ 13 → g2 0 t = g 0 t) ∧ ∀ k, k ≠ 0 → k ≠ 6 → k ≠ 7 → k ≠ 8 → g2 k = g k) := by
  intro m
  induction m with
  | zero => intro i d g hl h1 h2; omega
  | succ m ih =>
    intro i d g hl h1 h2 hd hr
    obtain ⟨e1, e2, hn, hs, hb, hw⟩ := id hl
    obtain ⟨r1, r2, r3, r4, r5, r6⟩ := id hr
    rw [f_X9_rows_b26]
    dsimp only
    rw [e1, cb_wn (n := n) (by omega), cb_wn (n := i) (by omega)]
    by_cases hend : n ≤ i
    · rw [if_pos (by omega)]
      have : i = n := by omega
      subst this
      exact hp_some ⟨hr, fun _ _ => rfl, fun _ _ _ _ _ => rfl⟩
    · have hsb := hb i (by omega)
      have e8 : ((i : Int) + 1) = ((i + 1 : Nat) : Int) := by omega
      rw [if_neg (by omega), if_pos (by omega), Int.toNat_natCast, hs i (by omega), cb_id (x := s i) (by omega) (by omega)]
      obtain ⟨o1, o2, o3⟩ := rst_ok hw s i
      have key : ∀ d1 : Nat, d1 + 1 = (if s i = 93 then pop (rst w s i).1 else (rst w s i).1).length → hp (f_X9_rows_b54 (f_X9_rows_b26 m) (d1 : Int) (i : Int) (s i) g) (fun _ g2 => mrw g2 w s n ∧ (∀ t, t ≠ 13 → g2 0 t = g 0 t) ∧ ∀ k, k ≠ 0 → k ≠ 6 → k ≠ 7 → k ≠ 8 → g2 k = g k) := by
        intro d1 hd1
        have hstk : stk (g 8) (if s i = 93 then pop (rst w s i).1 else (rst w s i).1) := by
          split
          · exact stk_pop r4
          · exact r4
        have hmem : ∀ r ∈ (if s i = 93 then pop (rst w s i).1 else (rst w s i).1), r < (rst w s i).2.1 := by
          split
          · exact fun r hr => o2 r (pop_mem hr)
          · exact o2
        have hlen : (if s i = 93 then pop (rst w s i).1 else (rst w s i).1).length ≤ (rst w s i).1.length := by
          split
          · rw [pop_len]; split <;> omega
          · exact Nat.le_refl _
        have hne : (if s i = 93 then pop (rst w s i).1 else (rst w s i).1) ≠ [] := by
          intro z
          rw [z] at hd1
          simp at hd1
        have hhd := stk_hd hstk hne
        have hro : ro w s i < (rst w s i).2.1 := by
          unfold ro
          generalize (if s i = 93 then pop (rst w s i).1 else (rst w s i).1) = l at hmem hne ⊢
          match l, hmem, hne with
          | [], _, hne => exact absurd rfl hne
          | a :: l, hmem, _ => exact hmem a List.mem_cons_self
        have h8 : g 8 d1 = (ro w s i : Int) := by
          rw [show d1 = (if s i = 93 then pop (rst w s i).1 else (rst w s i).1).length - 1 by omega]
          exact hhd
        unfold f_X9_rows_b54
        rw [cb_wn (n := d1) (by omega), if_pos (by omega), cb_wn (n := i) (by omega), if_pos (by omega), Int.toNat_natCast, Int.toNat_natCast, h8, cb_id (x := s i) (by omega) (by omega)]
        by_cases hisle : s i = 91 ∨ s i = 123
        · have hrs : rst w s (i + 1) = ((rst w s i).2.1 :: (if s i = 93 then pop (rst w s i).1 else (rst w s i).1), (rst w s i).2.1 + 1, fun r => if r = (rst w s i).2.1 then bw (rba w s i) (if s i = 91 then 0 else 1) else (rst w s i).2.2 r) := by
            rw [rst_succ, if_pos hisle]
          have hba := rba_rng hw s i
          have h81 : hp (f_X9_rows_b81 (f_X9_rows_b26 m) (d1 : Int) (i : Int) (s i) (cb_u g 6 i (ro w s i : Int))) (fun _ g2 => mrw g2 w s n ∧ (∀ t, t ≠ 13 → g2 0 t = g 0 t) ∧ ∀ k, k ≠ 0 → k ≠ 6 → k ≠ 7 → k ≠ 8 → g2 k = g k) := by
            have h111 : ∀ p : Int, p = (if s i = 91 then 0 else 1) → hp (f_X9_rows_b111 (f_X9_rows_b26 m) (d1 : Int) (i : Int) p (rba w s i) ((rst w s i).2.1 : Int) (cb_u g 6 i (ro w s i : Int))) (fun _ g2 => mrw g2 w s n ∧ (∀ t, t ≠ 13 → g2 0 t = g 0 t) ∧ ∀ k, k ≠ 0 → k ≠ 6 → k ≠ 7 → k ≠ 8 → g2 k = g k) := by
              intro p hp9
              have e9 : ((d1 : Int) + 1) = ((d1 + 1 : Nat) : Int) := by omega
              have hp01 : p = 0 ∨ p = 1 := by rw [hp9]; split <;> omega
              unfold f_X9_rows_b111 f_X9_rows_b138
              rw [m_above ⟨hba.1, by omega⟩ hp01, Option.bind_some, cb_wn (n := (rst w s i).2.1) (by omega), if_pos (by omega), e9, cb_wn (n := d1 + 1) (by omega), if_pos (by omega), Int.toNat_natCast, Int.toNat_natCast, cb_u_other _ _ _ (show (0 : Nat) ≠ 6 by decide), r1, e8]
              refine hp_imp (ih (i + 1) (d1 + 1) _ (ln_M_keep hl (by simp [cb_u]) (by simp [cb_u]) (by rw [cb_u_other _ _ _ (by decide), cb_u_other _ _ _ (by decide), cb_u_other _ _ _ (by decide), cb_u_other _ _ _ (by decide)])) (by omega) (by omega) (by rw [hrs]; show _ = _ + 1; omega) ?_) (fun r g2 ⟨q1, q2, q3⟩ => ⟨q1, fun t ht => ?_, fun k a b c d => ?_⟩)
              · unfold mrw
                rw [hrs]
                refine ⟨by rw [cb_u_same]; show _ = ((_ + 1 : Nat) : Int); omega, by show _ + 1 ≤ _; omega, by show _ + 1 ≤ _ + 1; omega, ⟨?_, ?_⟩, fun r hr9 => ?_, fun j hj => ?_⟩
                · rw [← hd1]
                  simp [cb_u]
                · refine stk_ext _ (fun t ht => ?_) hstk
                  have : t ≠ d1 + 1 := by omega
                  simp [cb_u, this]
                · have hr9 : r < (rst w s i).2.1 + 1 := hr9
                  dsimp only
                  by_cases e : r = (rst w s i).2.1
                  · rw [if_pos e, e, hp9]
                    simp [cb_u]
                  · rw [if_neg e, ← r5 r (by omega)]
                    simp [cb_u, e]
                · by_cases e : j = i
                  · rw [e]
                    simp [cb_u]
                  · have := r6 j (by omega)
                    simp [cb_u, e, this]
              · rw [q2 t ht]
                simp [cb_u, ht]
              · rw [q3 k a b c d, cb_u_other _ _ _ a, cb_u_other _ _ _ d, cb_u_other _ _ _ c, cb_u_other _ _ _ b]
            unfold f_X9_rows_b81
            rw [cb_wn (n := d1) (by omega), if_pos (by omega), Int.toNat_natCast, cb_u_other _ _ _ (show (8 : Nat) ≠ 6 by decide), h8, cb_wn (n := ro w s i) (by omega), if_pos (by omega), Int.toNat_natCast, cb_u_other _ _ _ (show (7 : Nat) ≠ 6 by decide), r5 _ hro, cb_u_other _ _ _ (show (0 : Nat) ≠ 6 by decide), r1, cb_id (x := s i) (by omega) (by omega)]
            by_cases h91 : s i = 91
            · rw [if_pos h91]
              exact h111 0 (by rw [if_pos h91])
            · rw [if_neg h91]
              exact h111 1 (by rw [if_neg h91])
          by_cases h91 : s i = 91
          · rw [if_pos h91]
            exact h81
          · rw [if_neg h91, if_pos (by omega)]
            exact h81
        · have hrs : rst w s (i + 1) = ((if s i = 93 then pop (rst w s i).1 else (rst w s i).1), (rst w s i).2.1, (rst w s i).2.2) := by
            rw [rst_succ, if_neg hisle]
          rw [if_neg (by omega), if_neg (by omega)]
          unfold f_X9_rows_b138
          rw [e8]
          refine hp_imp (ih (i + 1) d1 _ (ln_M_keep hl (by simp [cb_u]) (by simp [cb_u]) (cb_u_other g _ _ (by decide))) (by omega) (by omega) (by rw [hrs]; exact hd1) ?_) (fun r g2 ⟨q1, q2, q3⟩ => ⟨q1, fun t ht => ?_, fun k a b c d => ?_⟩)
          · unfold mrw
            rw [hrs]
            refine ⟨by rw [cb_u_other _ _ _ (by decide)]; exact r1, by show (rst w s i).2.1 ≤ i + 1 + 1; omega, Nat.le_trans hlen r3, by rw [cb_u_other _ _ _ (by decide)]; exact hstk, fun r hr9 => by rw [cb_u_other _ _ _ (by decide)]; exact r5 r hr9, fun j hj => ?_⟩
            by_cases e : j = i
            · rw [e, cb_u_same]
            · rw [cb_u_ne _ _ _ _ e]
              exact r6 j (by omega)
          · rw [q2 t ht, cb_u_other _ _ _ (by decide)]
          · rw [q3 k a b c d, cb_u_other _ _ _ b]
      by_cases h93 : s i = 93
      · rw [if_pos h93] at key ⊢
        have hpl := pop_len (l := (rst w s i).1)
        by_cases hd0 : d = 0
        · rw [cb_wn (n := d) (by omega), if_pos (by omega)]
          refine key d ?_
          rw [hpl, if_neg (by omega)]
          omega
        · rw [cb_wn (n := d) (by omega), if_neg (by omega), show (d : Int) + (-1) = ((d - 1 : Nat) : Int) by omega]
          refine key (d - 1) ?_
          rw [hpl, if_pos (by omega)]
          omega
      · rw [if_neg h93] at key ⊢
        exact key d hd
