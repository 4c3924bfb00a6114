def f2 (w : Int) (n : Nat) (s : Nat → Int) (t : Nat → Int) (i : Nat) : Int := if K2 w n s i = 0 ∨ K2 w n s i = 1 then K2 w n s i else pk t (lat w s i (ro w s i)) (wy w s i)
/-- the last way ahead, in the row -/
def W1 (w : Int) (n : Nat) (s : Nat → Int) (i : Nat) : Int := tb (f2 w n s) (i + 1) i
theorem pk_tb {f : (Nat → Int) → Nat → Int} {i : Nat} {j o : Int} (h : j < (i : Int)) : pk (tb f i) j o = pk (fun k => tb f (k + 1) k) j o := by
  unfold pk
  split
  · rfl
  · exact tb_at9 _ (by omega)
theorem W1_eq (w : Int) (n : Nat) (s : Nat → Int) (i : Nat) : W1 w n s i = f2 w n s (W1 w n s) i := by
  have h0 : W1 w n s i = f2 w n s (tb (f2 w n s) i) i := if_pos rfl
  rw [h0]
  unfold f2
  split
  · rfl
  · exact pk_tb (lat_rng w s i _).2
theorem W1_01 (w : Int) (n : Nat) (s : Nat → Int) (i : Nat) : W1 w n s i = 0 ∨ W1 w n s i = 1 := by
  induction i using Nat.strongRecOn with
  | ind i ih =>
    rw [W1_eq]
    unfold f2
    split
    · assumption
    · unfold pk
      have := lat_rng w s i (ro w s i)
      split
      · exact wy_01 i
      · exact ih _ (by omega)
def K3 (w : Int) (n : Nat) (s : Nat → Int) (i : Nat) : Int := if K2 w n s i = 2 ∧ W1 w n s i = 0 then 0 else K2 w n s i
theorem K3_r {w : Int} {n : Nat} {s : Nat → Int} {g : cb_S} (h : rwd g w n s) {i : Nat} (hi : i < n) : K3 w n s i = 0 ∨ K3 w n s i = 1 ∨ K3 w n s i = 2 ∨ K3 w n s i = 4 := by
  have := K2_r h hi
  unfold K3
  split <;> omega
theorem p_digits1 {w : Int} {n : Nat} {s : Nat → Int} : ∀ (m i : Nat) (g : cb_S), rwd g w n s → i ≤ n → n < i + m → (∀ j, j < i → g 22 j = K3 w n s j ∧ g 23 j = W1 w n s j) → (∀ j, i ≤ j → j < n → g 22 j = K2 w n s j) → hp (f_X5_settleDigits_b2 m (i : Int) g) (fun _ g2 => (∀ j, j < n → g2 22 j = K3 w n s j) ∧ ∀ k, k ≠ 22 → k ≠ 23 → g2 k = g k) := by
  intro m
  induction m with
  | zero => intro i g hd h1 h2; omega
  | succ m ih =>
    intro i g hd h1 h2 hj hj2
    obtain ⟨a1, a2, a3, hl, a5, a6⟩ := id hd
    have hn := hl.2.2.1
    rw [f_X5_settleDigits_b2]
    dsimp only
    rw [a2, cb_wn (n := n) (by omega), cb_wn (n := i) (by omega)]
    by_cases hend : n ≤ i
    · rw [if_pos (by omega)]
      exact hp_some ⟨fun j hj9 => (hj j (by omega)).1, fun _ _ _ => rfl⟩
    · have hK2 := K2_r hd (show i < n by omega)
      have e8 : ((i : Int) + 1) = ((i + 1 : Nat) : Int) := by omega
      have hgi := hj2 i (Nat.le_refl _) (by omega)
      rw [if_neg (by omega), if_pos (by omega), Int.toNat_natCast, hgi, v_isStrong ⟨by omega, by omega⟩, Option.bind_some]
      have hW := W1_eq w n s i
      unfold f2 at hW
      have hW01 := W1_01 w n s i
      have go : ∀ g' : cb_S, g' 22 i = K3 w n s i → g' 23 i = W1 w n s i → (∀ j, j ≠ i → g' 22 j = g 22 j ∧ g' 23 j = g 23 j) → (∀ k, k ≠ 22 → k ≠ 23 → g' k = g k) → hp (f_X5_settleDigits_b81 (f_X5_settleDigits_b2 m) (i : Int) g') (fun _ g2 => (∀ j, j < n → g2 22 j = K3 w n s j) ∧ ∀ k, k ≠ 22 → k ≠ 23 → g2 k = g k) := by
        intro g' b1 b1' b2 b3
        unfold f_X5_settleDigits_b81
        rw [e8]
        refine hp_imp (ih (i + 1) g' (rwd_keep hd (fun k hk => b3 k (by omega) (by omega))) (by omega) (by omega) (fun j hj9 => ?_) (fun j hj9 hj8 => ?_)) (fun r g2 ⟨q1, q2⟩ => ⟨q1, fun k hk hk2 => (q2 k hk hk2).trans (b3 k hk hk2)⟩)
        · by_cases e : j = i
          · rw [e]; exact ⟨b1, b1'⟩
          · rw [(b2 j e).1, (b2 j e).2]
            exact hj j (by omega)
        · rw [(b2 j (by omega)).1]
          exact hj2 j (by omega) hj8
      have key : hp (f_X5_settleDigits_b54 (f_X5_settleDigits_b2 m) (i : Int) (W1 w n s i) (i : Int) g) (fun _ g2 => (∀ j, j < n → g2 22 j = K3 w n s j) ∧ ∀ k, k ≠ 22 → k ≠ 23 → g2 k = g k) := by
        unfold f_X5_settleDigits_b54
        rw [cb_wn (n := i) (by omega), if_pos (by omega), if_pos (by omega), Int.toNat_natCast, hgi, cb_id (x := K2 w n s i) (by omega) (by omega), cb_u_same, cb_id (x := W1 w n s i) (by omega) (by omega)]
        by_cases c1 : K2 w n s i = 2
        · rw [if_pos c1, if_pos (by omega)]
          by_cases c2 : W1 w n s i = 0
          · rw [if_pos c2, if_pos (by omega)]
            refine go _ ?_ ?_ (fun j hj9 => ?_) (fun k hk hk2 => ?_)
            · rw [cb_u_same]
              unfold K3
              rw [if_pos ⟨c1, c2⟩]
            · rw [cb_u_other _ _ _ (by decide), cb_u_same]
            · rw [cb_u_ne _ _ _ _ hj9, cb_u_other _ _ _ (by decide), cb_u_other _ _ _ (by decide), cb_u_ne _ _ _ _ hj9]
              exact ⟨rfl, rfl⟩
            · rw [cb_u_other _ _ _ hk, cb_u_other _ _ _ hk2]
          · rw [if_neg c2]
            refine go _ ?_ (cb_u_same _ _ _ _) (fun j hj9 => ?_) (fun k hk hk2 => cb_u_other _ _ _ hk2)
            · rw [cb_u_other _ _ _ (by decide), hgi]
              unfold K3
              rw [if_neg (fun z => c2 z.2)]
            · rw [cb_u_other _ _ _ (by decide), cb_u_ne _ _ _ _ hj9]
              exact ⟨rfl, rfl⟩
        · rw [if_neg c1]
          refine go _ ?_ (cb_u_same _ _ _ _) (fun j hj9 => ?_) (fun k hk hk2 => cb_u_other _ _ _ hk2)
          · rw [cb_u_other _ _ _ (by decide), hgi]
            unfold K3
            rw [if_neg (fun z => c1 z.1)]
          · rw [cb_u_other _ _ _ (by decide), cb_u_ne _ _ _ _ hj9]
            exact ⟨rfl, rfl⟩
      have hlr := lat_rng w s i (ro w s i)
      by_cases hst : K2 w n s i = 0 ∨ K2 w n s i = 1
      · rw [if_pos hst] at hW
        rw [if_pos hst, if_neg (by decide), if_pos (by omega), ← hW]
        exact key
      · rw [if_neg hst] at hW
        rw [if_neg hst, if_pos (by decide), if_pos (by omega), v_wayAround hd (by omega), Option.bind_some, (a1 i (by omega)).2.1, v_pk (by omega), Option.bind_some]
        have : pk (g 23) (lat w s i (ro w s i)) (wy w s i) = W1 w n s i := by
          rw [hW]
          unfold pk
          split
          · rfl
          · exact (hj _ (by omega)).2
        rw [this]
        exact key
theorem p_digits {w : Int} {n : Nat} {s : Nat → Int} {g : cb_S} (h : rwd g w n s) (h1 : ∀ j, j < n → g 22 j = K2 w n s j) : hp (f_X5_settleDigits g) (fun _ g2 => (∀ j, j < n → g2 22 j = K3 w n s j) ∧ ∀ k, k ≠ 22 → k ≠ 23 → g2 k = g k) :=
  p_digits1 cb_N 0 g h (Nat.zero_le _) (by have := h.2.2.2.1.2.2.1; unfold cb_N; omega) (fun j hj => by omega) (fun j _ hj => h1 j hj)
