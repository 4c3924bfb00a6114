/-! the model's line -/
def ln_M (g : cb_S) (w : Int) (n : Nat) (s : Nat → Int) : Prop := g 0 1 = (n : Int) ∧ g 0 0 = w ∧ n ≤ 60 ∧ (∀ i, i < n → g 1 i = s i) ∧ (∀ i, i < n → 32 ≤ s i ∧ s i ≤ 126) ∧ (w = 0 ∨ w = 1)
theorem ln_M_keep {g g2 : cb_S} {w : Int} {n : Nat} {s : Nat → Int} (h : ln_M g w n s) (h0 : g2 0 0 = g 0 0) (h01 : g2 0 1 = g 0 1) (h1 : g2 1 = g 1) : ln_M g2 w n s := by
  unfold ln_M at h ⊢
  rw [h0, h01, h1]
  exact h
theorem q_joins1 {w : Int} {n : Nat} {s : Nat → Int} : ∀ (m i : Nat) (g : cb_S), ln_M g w n s → i ≤ n → n < i + m → (∀ j, j < i → g 9 j = bI (jn n s j)) → hp (f_X9_joinsOf_b2 m (i : Int) g) (fun _ g2 => (∀ j, j < n → g2 9 j = bI (jn n s j)) ∧ ∀ k, k ≠ 9 → g2 k = g k) := by
  intro m
  induction m with
  | zero => intro i g hl h1 h2; omega
  | succ m ih =>
    intro i g hl h1 h2 hj
    obtain ⟨e1, e2, hn, hs, hb, hw⟩ := id hl
    rw [f_X9_joinsOf_b2]
    dsimp only
    rw [e1, cb_wn (n := n) (by omega), cb_wn (n := i) (by omega)]
    by_cases hend : n ≤ i
    · rw [if_pos (by omega)]
      exact hp_some ⟨fun j hj9 => hj j (by omega), fun _ _ => rfl⟩
    · have hsb := hb i (by omega)
      have e8 : ((i : Int) + 1) = ((i + 1 : Nat) : Int) := by omega
      rw [if_neg (by omega), if_pos ⟨by omega, by decide⟩, if_pos (by omega), Int.toNat_natCast, hs i (by omega), cb_id (x := s i) (by omega) (by omega)]
      have go : ∀ g' : cb_S, g' 9 i = bI (jn n s i) → (∀ j, j ≠ i → g' 9 j = g 9 j) → (∀ k, k ≠ 9 → g' k = g k) → hp (f_X9_joinsOf_b138 (f_X9_joinsOf_b2 m) (i : Int) g') (fun _ g2 => (∀ j, j < n → g2 9 j = bI (jn n s j)) ∧ ∀ k, k ≠ 9 → g2 k = g k) := by
        intro g' b1 b2 b3
        unfold f_X9_joinsOf_b138
        rw [e8]
        refine hp_imp (ih (i + 1) g' (ln_M_keep hl (by rw [b3 0 (by decide)]) (by rw [b3 0 (by decide)]) (b3 1 (by decide))) (by omega) (by omega) (fun j hj9 => ?_)) (fun r g2 ⟨q1, q2⟩ => ⟨q1, fun k hk => (q2 k hk).trans (b3 k hk)⟩)
        by_cases e : j = i
        · rw [e]; exact b1
        · rw [b2 j e]
          exact hj j (by omega)
      have go0 : jn n s i = false → hp (f_X9_joinsOf_b138 (f_X9_joinsOf_b2 m) (i : Int) (cb_u g 9 i 0)) (fun _ g2 => (∀ j, j < n → g2 9 j = bI (jn n s j)) ∧ ∀ k, k ≠ 9 → g2 k = g k) := fun h =>
        go _ (by rw [cb_u_same, h]; rfl) (fun j hj9 => cb_u_ne _ _ _ _ hj9) (fun k hk => cb_u_other g _ _ hk)
      have st : ∀ v : Int, v = bI (jn n s i) → hp (f_X9_joinsOf_b137 (f_X9_joinsOf_b2 m) (i : Int) v (i : Int) (cb_u g 9 i 0)) (fun _ g2 => (∀ j, j < n → g2 9 j = bI (jn n s j)) ∧ ∀ k, k ≠ 9 → g2 k = g k) := by
        intro v hv
        unfold f_X9_joinsOf_b137
        rw [cb_wn (n := i) (by omega), if_pos ⟨by omega, by rw [hv]; exact bI_01 _⟩, Int.toNat_natCast]
        exact go _ (by rw [cb_u_same, hv]) (fun j hj9 => by rw [cb_u_ne _ _ _ _ hj9, cb_u_ne _ _ _ _ hj9]) (fun k hk => by rw [cb_u_other _ _ _ hk, cb_u_other _ _ _ hk])
      by_cases h94 : s i = 94
      · rw [if_pos h94]
        by_cases hi0 : i = 0
        · rw [if_pos (by omega)]
          exact go0 (jn_F (fun z => by have := z.2.1; omega))
        · rw [if_neg (by omega), e8, cb_wn (n := i + 1) (by omega)]
          by_cases hin : i + 1 < n
          · have e7 : ((i : Int) - 1) = ((i - 1 : Nat) : Int) := by omega
            have hs1 := hb (i - 1) (by omega)
            have hs2 := hb (i + 1) (by omega)
            rw [if_pos (by omega), e7, cb_wn (n := i - 1) (by omega), if_pos (by omega), Int.toNat_natCast, Int.toNat_natCast, hs (i - 1) (by omega), hs (i + 1) (by omega), m_isForward ⟨by omega, by omega⟩, m_isForward ⟨by omega, by omega⟩, Option.bind_some, Option.bind_some]
            have k106 : ∀ v : Int, (v = 0 ∧ ¬ ((sg_k (s (i - 1)) = 0 ∨ sg_k (s (i - 1)) = 1) ∧ sg_k (s (i - 1)) = sg_k (s (i + 1)))) ∨ (v = 1 ∧ ((sg_k (s (i - 1)) = 0 ∨ sg_k (s (i - 1)) = 1) ∧ sg_k (s (i - 1)) = sg_k (s (i + 1)))) → hp (f_X9_joinsOf_b106 (f_X9_joinsOf_b2 m) (i : Int) v (cb_u g 9 i 0)) (fun _ g2 => (∀ j, j < n → g2 9 j = bI (jn n s j)) ∧ ∀ k, k ≠ 9 → g2 k = g k) := by
              intro v hv
              unfold f_X9_joinsOf_b106 f_X9_joinsOf_b136 f_X9_joinsOf_b132
              rw [cb_wn (n := i) (by omega)]
              rcases hv with ⟨rfl, hv⟩ | ⟨rfl, hv⟩
              · rw [if_pos (by decide)]
                exact st 0 (by rw [jn_F (fun z => hv z.2.2.2.1)]; rfl)
              · rw [if_neg (by decide)]
                by_cases hi1 : i = 1
                · rw [if_pos (by omega)]
                  exact st 1 (by rw [(jn_iff n s i).mpr ⟨h94, by omega, hin, hv, fun h => by omega⟩]; rfl)
                · have e6 : ((i : Int) - 2) = ((i - 2 : Nat) : Int) := by omega
                  rw [if_neg (by omega), e6, cb_wn (n := i - 2) (by omega), if_pos (by omega), Int.toNat_natCast, cb_u_ne _ _ _ _ (by omega), hj (i - 2) (by omega)]
                  cases hq : jn n s (i - 2) with
                  | false =>
                    rw [bI_f, if_pos (by decide)]
                    exact st 1 (by rw [(jn_iff n s i).mpr ⟨h94, by omega, hin, hv, fun _ => hq⟩]; rfl)
                  | true =>
                    rw [bI_t, if_neg (by decide)]
                    exact st 0 (by rw [jn_F (fun z => by have := z.2.2.2.2 (by omega); rw [hq] at this; cases this)]; rfl)
            have k73 : ¬ (sg_k (s (i - 1)) = 0 ∧ sg_k (s (i + 1)) = 0) → hp (f_X9_joinsOf_b73 (f_X9_joinsOf_b2 m) (i : Int) (cb_u g 9 i 0)) (fun _ g2 => (∀ j, j < n → g2 9 j = bI (jn n s j)) ∧ ∀ k, k ≠ 9 → g2 k = g k) := by
              intro hnf
              unfold f_X9_joinsOf_b73 f_X9_joinsOf_b105 f_X9_joinsOf_b101
              rw [e7, e8, cb_wn (n := i - 1) (by omega), cb_wn (n := i + 1) (by omega), if_pos (by omega), Int.toNat_natCast, Int.toNat_natCast, cb_u_other _ _ _ (show (1 : Nat) ≠ 9 by decide), hs (i - 1) (by omega), hs (i + 1) (by omega), m_isBackward ⟨by omega, by omega⟩, m_isBackward ⟨by omega, by omega⟩, Option.bind_some, Option.bind_some]
              by_cases c1 : sg_k (s (i - 1)) = 1
              · rw [if_pos c1, if_neg (by decide), if_pos (by omega)]
                by_cases c2 : sg_k (s (i + 1)) = 1
                · rw [if_pos c2, if_neg (by decide)]
                  exact k106 1 (Or.inr ⟨rfl, Or.inr c1, by omega⟩)
                · rw [if_neg c2, if_pos (by decide)]
                  exact k106 0 (Or.inl ⟨rfl, by omega⟩)
              · rw [if_neg c1, if_pos (by decide)]
                exact k106 0 (Or.inl ⟨rfl, by omega⟩)
            by_cases c1 : sg_k (s (i - 1)) = 0
            · rw [if_pos c1, if_neg (by decide), if_pos (by omega)]
              by_cases c2 : sg_k (s (i + 1)) = 0
              · rw [if_pos c2, if_neg (by decide)]
                unfold f_X9_joinsOf_b101
                exact k106 1 (Or.inr ⟨rfl, Or.inl c1, by omega⟩)
              · rw [if_neg c2, if_pos (by decide)]
                exact k73 (fun z => c2 z.2)
            · rw [if_neg c1, if_pos (by decide)]
              exact k73 (fun z => c1 z.1)
          · rw [if_neg (by omega)]
            exact go0 (jn_F (fun z => hin z.2.2.1))
      · rw [if_neg h94]
        exact go0 (jn_F (fun z => h94 z.1))
theorem q_joins {w : Int} {n : Nat} {s : Nat → Int} {g : cb_S} (h : ln_M g w n s) : hp (f_X9_joinsOf g) (fun _ g2 => (∀ j, j < n → g2 9 j = bI (jn n s j)) ∧ ∀ k, k ≠ 9 → g2 k = g k) :=
  q_joins1 cb_N 0 g h (Nat.zero_le _) (by have := h.2.2.1; unfold cb_N; omega) (fun j hj => by omega)
