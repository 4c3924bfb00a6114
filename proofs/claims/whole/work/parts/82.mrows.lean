theorem q_rows1 {w : Int} {n : Nat} {s : Nat → Int} : ∀ (m i d : Nat) (g : cb_S), ln_M g w n s → i ≤ n → n < i + m → d + 1 = (rst w s i).1.length → mrw g w s i → hp (f_X9_rows_b26 m (d : Int) (i : Int) g) (fun _ g2 => mrw g2 w s n ∧ (∀ t, t ≠ 13 → g2 0 t = g 0 t) ∧ ∀ k, k ≠ 0 → k ≠ 6 → k ≠ 7 → k ≠ 8 → g2 k = g k) := by
  intro m
  induction m with
  | zero => intro i d g hl h1 h2; omega
  | succ m ih =>
    intro i d g hl h1 h2 hd hr
    obtain ⟨e1, e2, hn, hs, hb, hw⟩ := id hl
    obtain ⟨r1, r2, r3, r4, r5, r6⟩ := id hr
    rw [f_X9_rows_b26]
    dsimp only
    rw [e1, cb_wn (n := n) (by omega), cb_wn (n := i) (by omega)]
    by_cases hend : n ≤ i
    · rw [if_pos (by omega)]
      have : i = n := by omega
      subst this
      exact hp_some ⟨hr, fun _ _ => rfl, fun _ _ _ _ _ => rfl⟩
    · have hsb := hb i (by omega)
      have e8 : ((i : Int) + 1) = ((i + 1 : Nat) : Int) := by omega
      rw [if_neg (by omega), if_pos (by omega), Int.toNat_natCast, hs i (by omega), cb_id (x := s i) (by omega) (by omega)]
      obtain ⟨o1, o2, o3⟩ := rst_ok hw s i
      have key : ∀ d1 : Nat, d1 + 1 = (if s i = 93 then pop (rst w s i).1 else (rst w s i).1).length → hp (f_X9_rows_b54 (f_X9_rows_b26 m) (d1 : Int) (i : Int) (s i) g) (fun _ g2 => mrw g2 w s n ∧ (∀ t, t ≠ 13 → g2 0 t = g 0 t) ∧ ∀ k, k ≠ 0 → k ≠ 6 → k ≠ 7 → k ≠ 8 → g2 k = g k) := by
        intro d1 hd1
        have hstk : stk (g 8) (if s i = 93 then pop (rst w s i).1 else (rst w s i).1) := by
          split
          · exact stk_pop r4
          · exact r4
        have hmem : ∀ r ∈ (if s i = 93 then pop (rst w s i).1 else (rst w s i).1), r < (rst w s i).2.1 := by
          split
          · exact fun r hr => o2 r (pop_mem hr)
          · exact o2
        have hlen : (if s i = 93 then pop (rst w s i).1 else (rst w s i).1).length ≤ (rst w s i).1.length := by
          split
          · rw [pop_len]; split <;> omega
          · exact Nat.le_refl _
        have hne : (if s i = 93 then pop (rst w s i).1 else (rst w s i).1) ≠ [] := by
          intro z
          rw [z] at hd1
          simp at hd1
        have hhd := stk_hd hstk hne
        have hro : ro w s i < (rst w s i).2.1 := by
          unfold ro
          generalize (if s i = 93 then pop (rst w s i).1 else (rst w s i).1) = l at hmem hne ⊢
          match l, hmem, hne with
          | [], _, hne => exact absurd rfl hne
          | a :: l, hmem, _ => exact hmem a List.mem_cons_self
        have h8 : g 8 d1 = (ro w s i : Int) := by
          rw [show d1 = (if s i = 93 then pop (rst w s i).1 else (rst w s i).1).length - 1 by omega]
          exact hhd
        unfold f_X9_rows_b54
        rw [cb_wn (n := d1) (by omega), if_pos (by omega), cb_wn (n := i) (by omega), if_pos (by omega), Int.toNat_natCast, Int.toNat_natCast, h8, cb_id (x := s i) (by omega) (by omega)]
        sorry
      by_cases h93 : s i = 93
      · rw [if_pos h93] at key ⊢
        have hpl := pop_len (l := (rst w s i).1)
        by_cases hd0 : d = 0
        · rw [cb_wn (n := d) (by omega), if_pos (by omega)]
          refine key d ?_
          rw [hpl, if_neg (by omega)]
          omega
        · rw [cb_wn (n := d) (by omega), if_neg (by omega), show (d : Int) + (-1) = ((d - 1 : Nat) : Int) by omega]
          refine key (d - 1) ?_
          rw [hpl, if_pos (by omega)]
          omega
      · rw [if_neg h93] at key ⊢
        exact key d hd
