theorem lat_ro {w : Int} {s : Nat → Int} {i r j : Nat} (h : lat w s i r = (j : Int)) : j < i ∧ ro w s j = r := by
  induction i with
  | zero =>
    have h : (-1 : Int) = (j : Int) := h
    omega
  | succ i ih =>
    have h : (if ro w s i = r then (i : Int) else lat w s i r) = (j : Int) := h
    split at h
    · have : i = j := by omega
      subst this
      exact ⟨by omega, by assumption⟩
    · have := ih h
      exact ⟨by omega, this.2⟩
theorem lat_ge {w : Int} {s : Nat → Int} {t r j : Nat} (h : j < t) (hr : ro w s j = r) : (j : Int) ≤ lat w s t r := by
  induction t with
  | zero => omega
  | succ t ih =>
    show (j : Int) ≤ (if ro w s t = r then (t : Int) else lat w s t r)
    split
    · omega
    · by_cases e : j = t
      · subst e
        exact absurd hr (by assumption)
      · exact ih (by omega)
theorem bh_of_lat {w : Int} {s : Nat → Int} {n i j : Nat} (hi : i < n) (h : lat w s i (ro w s i) = (j : Int)) : bh w s n j = (i : Int) := by
  induction n with
  | zero => omega
  | succ m ih =>
    show (if lat w s m (ro w s m) = (j : Int) then (m : Int) else bh w s m j) = (i : Int)
    by_cases e : m = i
    · subst e
      rw [if_pos h]
    · rw [if_neg (fun z => ?_)]
      · exact ih (by omega)
      · have a1 := lat_ro h
        have a2 := lat_ro z
        have a3 := lat_ge (w := w) (s := s) (t := m) (r := ro w s m) (j := i) (by omega) (by rw [← a1.2, a2.2])
        omega
theorem lat_of_bh {w : Int} {s : Nat → Int} {n i j : Nat} (h : bh w s n j = (i : Int)) : i < n ∧ lat w s i (ro w s i) = (j : Int) := by
  induction n with
  | zero =>
    have h : (-1 : Int) = (i : Int) := h
    omega
  | succ m ih =>
    have h : (if lat w s m (ro w s m) = (j : Int) then (m : Int) else bh w s m j) = (i : Int) := h
    split at h
    · have : m = i := by omega
      subst this
      exact ⟨by omega, by assumption⟩
    · have := ih h
      exact ⟨by omega, this.2⟩
theorem bh_rng (w : Int) (s : Nat → Int) (n j : Nat) : -1 ≤ bh w s n j ∧ bh w s n j < (n : Int) := by
  induction n with
  | zero => exact ⟨by show (-1 : Int) ≤ -1; omega, by show (-1 : Int) < ((0 : Nat) : Int); omega⟩
  | succ m ih =>
    show -1 ≤ (if lat w s m (ro w s m) = (j : Int) then (m : Int) else bh w s m j) ∧ (if lat w s m (ro w s m) = (j : Int) then (m : Int) else bh w s m j) < ((m + 1 : Nat) : Int)
    split <;> omega
/-- kinds behind settleSeparators() -/
def K2 (w : Int) (n : Nat) (s : Nat → Int) (i : Nat) : Int := if K1 w n s i = 3 then (if pk (K1 w n s) (lat w s i (ro w s i)) 4 = 2 ∧ pk (K1 w n s) (bh w s n i) 4 = 2 then 2 else 4) else K1 w n s i
theorem K1_r {w : Int} {n : Nat} {s : Nat → Int} {g : cb_S} (h : rwd g w n s) {i : Nat} (hi : i < n) : 0 ≤ K1 w n s i ∧ K1 w n s i ≤ 4 :=
  K1_rng w n s i (fun j hj => h.2.2.2.2.2 j (by omega)) (fun j _ => (rba_rng h.2.2.2.1.2.2.2.2.2 s j).1)
theorem K2_r {w : Int} {n : Nat} {s : Nat → Int} {g : cb_S} (h : rwd g w n s) {i : Nat} (hi : i < n) : K2 w n s i = 0 ∨ K2 w n s i = 1 ∨ K2 w n s i = 2 ∨ K2 w n s i = 4 := by
  have := K1_r h hi
  unfold K2
  repeat' split
  all_goals omega
theorem pk_i {t : Nat → Int} {j : Int} {n : Nat} (hj : j < (n : Int)) (ht : ∀ k, k < n → 0 ≤ t k ∧ t k ≤ 4) : 0 ≤ pk t j 4 ∧ pk t j 4 ≤ 4 := by
  unfold pk
  split
  · omega
  · exact ht _ (by omega)
theorem p_seps1 {w : Int} {n : Nat} {s : Nat → Int} : ∀ (m i : Nat) (g : cb_S), rwd g w n s → i ≤ n → n < i + m → (∀ j, j < i → g 22 j = K2 w n s j) → (∀ j, i ≤ j → j < n → g 22 j = K1 w n s j) → hp (f_X5_settleSeparators_b2 m (i : Int) g) (fun _ g2 => (∀ j, j < n → g2 22 j = K2 w n s j) ∧ ∀ k, k ≠ 22 → g2 k = g k) := by
  intro m
  induction m with
  | zero => intro i g hd h1 h2; omega
  | succ m ih =>
    intro i g hd h1 h2 hj hj2
    obtain ⟨a1, a2, a3, hl, a5, a6⟩ := id hd
    have hn := hl.2.2.1
    rw [f_X5_settleSeparators_b2]
    dsimp only
    rw [a2, cb_wn (n := n) (by omega), cb_wn (n := i) (by omega)]
    by_cases hend : n ≤ i
    · rw [if_pos (by omega)]
      exact hp_some ⟨fun j hj9 => hj j (by omega), fun _ _ => rfl⟩
    · have hK1 := K1_r hd (show i < n by omega)
      have e8 : ((i : Int) + 1) = ((i + 1 : Nat) : Int) := by omega
      rw [if_neg (by omega), if_pos (by omega), Int.toNat_natCast, hj2 i (Nat.le_refl _) (by omega), cb_id (x := K1 w n s i) (by omega) (by omega)]
      have key : ∀ g' : cb_S, g' 22 i = K2 w n s i → (∀ j, j ≠ i → g' 22 j = g 22 j) → (∀ k, k ≠ 22 → g' k = g k) → hp (f_X5_settleSeparators_b77 (f_X5_settleSeparators_b2 m) (i : Int) g') (fun _ g2 => (∀ j, j < n → g2 22 j = K2 w n s j) ∧ ∀ k, k ≠ 22 → g2 k = g k) := by
        intro g' b1 b2 b3
        unfold f_X5_settleSeparators_b77
        rw [e8]
        refine hp_imp (ih (i + 1) g' (rwd_keep hd (fun k hk => b3 k (by omega))) (by omega) (by omega) (fun j hj9 => ?_) (fun j hj9 hj8 => ?_)) (fun r g2 ⟨q1, q2⟩ => ⟨q1, fun k hk => (q2 k hk).trans (b3 k hk)⟩)
        · by_cases e : j = i
          · rw [e]; exact b1
          · rw [b2 j e]
            exact hj j (by omega)
        · rw [b2 j (by omega)]
          exact hj2 j (by omega) hj8
      by_cases h3 : K1 w n s i = 3
      · rw [if_pos h3, if_pos (by omega), (a1 i (by omega)).2.1, (a1 i (by omega)).2.2]
        have hlr := lat_rng w s i (ro w s i)
        have hbr := bh_rng w s n i
        have key2 : ∀ v : Int, v = K2 w n s i → hp (f_X5_settleSeparators_b76 (f_X5_settleSeparators_b2 m) (i : Int) v (i : Int) g) (fun _ g2 => (∀ j, j < n → g2 22 j = K2 w n s j) ∧ ∀ k, k ≠ 22 → g2 k = g k) := by
          intro v hv
          unfold f_X5_settleSeparators_b76
          rw [cb_wn (n := i) (by omega), if_pos (by omega), Int.toNat_natCast]
          exact key _ (by rw [cb_u_same, hv]) (fun j hj9 => cb_u_ne _ _ _ _ hj9) (fun k hk => cb_u_other g _ _ hk)
        have hbef : pk (g 22) (lat w s i (ro w s i)) 4 = 2 ↔ pk (K1 w n s) (lat w s i (ro w s i)) 4 = 2 := by
          unfold pk
          split
          · exact Iff.rfl
          · rename_i hneg
            have e6 : lat w s i (ro w s i) = ((lat w s i (ro w s i)).toNat : Int) := by omega
            have hbl := bh_of_lat (n := n) (by omega) e6
            rw [hj _ (by omega)]
            unfold K2
            by_cases h4 : K1 w n s (lat w s i (ro w s i)).toNat = 3
            · rw [if_pos h4, if_neg (fun z => ?_)]
              · omega
              · have := z.2
                rw [hbl] at this
                unfold pk at this
                rw [if_neg (by omega), Int.toNat_natCast] at this
                omega
            · rw [if_neg h4]
        have hbeh : pk (g 22) (bh w s n i) 4 = pk (K1 w n s) (bh w s n i) 4 := by
          unfold pk
          split
          · rfl
          · have e6 : bh w s n i = ((bh w s n i).toNat : Int) := by omega
            have hlb := lat_of_bh e6
            have := lat_ro hlb.2
            exact hj2 _ (by omega) (by omega)
        have hr1 : 0 ≤ pk (g 22) (lat w s i (ro w s i)) 4 ∧ pk (g 22) (lat w s i (ro w s i)) 4 ≤ 4 := by
          unfold pk
          split
          · omega
          · rw [hj _ (by omega)]
            have := K2_r hd (i := (lat w s i (ro w s i)).toNat) (by omega)
            omega
        have hr2 := pk_i (t := K1 w n s) (n := n) (j := bh w s n i) (by omega) (fun k hk => K1_r hd hk)
        rw [v_pk (by omega), Option.bind_some, cb_id (x := pk (g 22) (lat w s i (ro w s i)) 4) (by omega) (by omega), v_pk (by omega), Option.bind_some, hbeh, cb_id (x := pk (K1 w n s) (bh w s n i) 4) (by omega) (by omega)]
        have k60 : f_X5_settleSeparators_b60 (f_X5_settleSeparators_b2 m) (i : Int) g = f_X5_settleSeparators_b76 (f_X5_settleSeparators_b2 m) (i : Int) 4 (i : Int) g := by
          unfold f_X5_settleSeparators_b60 f_X5_settleSeparators_b61
          rw [if_pos (by decide)]
        have k61 : f_X5_settleSeparators_b61 (f_X5_settleSeparators_b2 m) (i : Int) 1 g = f_X5_settleSeparators_b76 (f_X5_settleSeparators_b2 m) (i : Int) 2 (i : Int) g := by
          unfold f_X5_settleSeparators_b61
          rw [if_neg (by decide)]
        rw [k60, k61]
        have hK2 : K2 w n s i = if pk (K1 w n s) (lat w s i (ro w s i)) 4 = 2 ∧ pk (K1 w n s) (bh w s n i) 4 = 2 then 2 else 4 := by
          unfold K2
          rw [if_pos h3]
        by_cases c1 : pk (g 22) (lat w s i (ro w s i)) 4 = 2
        · rw [if_pos c1, if_pos (by omega)]
          by_cases c2 : pk (K1 w n s) (bh w s n i) 4 = 2
          · rw [if_pos c2]
            apply key2
            rw [hK2, if_pos ⟨hbef.mp c1, c2⟩]
          · rw [if_neg c2]
            apply key2
            rw [hK2, if_neg (fun z => c2 z.2)]
        · rw [if_neg c1]
          apply key2
          rw [hK2, if_neg (fun z => c1 (hbef.mpr z.1))]
      · rw [if_neg h3]
        refine key g ?_ (fun _ _ => rfl) (fun _ _ => rfl)
        rw [hj2 i (Nat.le_refl _) (by omega)]
        unfold K2
        rw [if_neg h3]
theorem p_seps {w : Int} {n : Nat} {s : Nat → Int} {g : cb_S} (h : rwd g w n s) (h1 : ∀ j, j < n → g 22 j = K1 w n s j) : hp (f_X5_settleSeparators g) (fun _ g2 => (∀ j, j < n → g2 22 j = K2 w n s j) ∧ ∀ k, k ≠ 22 → g2 k = g k) :=
  p_seps1 cb_N 0 g h (Nat.zero_le _) (by have := h.2.2.2.1.2.2.1; unfold cb_N; omega) (fun j hj => by omega) (fun j _ hj => h1 j hj)
