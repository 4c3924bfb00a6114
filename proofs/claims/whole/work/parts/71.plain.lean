/-- the way beside plain ones -/
def bs (k : Int) : Int := if k = 0 then 0 else 1
theorem v_bs {k : Int} (h : cb_i k) (g : cb_S) : v_X5_wayBesidePlain g k = some (bs k) := by
  unfold v_X5_wayBesidePlain bs
  rw [cb_id h.1 h.2]
  split <;> rfl
def f3 (w : Int) (n : Nat) (s : Nat → Int) (t : Nat → Int) (i : Nat) : Int := if K3 w n s i = 4 then pk t (lat w s i (ro w s i)) (wy w s i) else bs (K3 w n s i)
def WA (w : Int) (n : Nat) (s : Nat → Int) (i : Nat) : Int := tb (f3 w n s) (i + 1) i
theorem WA_eq (w : Int) (n : Nat) (s : Nat → Int) (i : Nat) : WA w n s i = f3 w n s (WA w n s) i := by
  have h0 : WA w n s i = f3 w n s (tb (f3 w n s) i) i := if_pos rfl
  rw [h0]
  unfold f3
  split
  · exact pk_tb (lat_rng w s i _).2
  · rfl
theorem bs_01 (k : Int) : bs k = 0 ∨ bs k = 1 := by
  unfold bs
  split <;> omega
theorem WA_01 (w : Int) (n : Nat) (s : Nat → Int) (i : Nat) : WA w n s i = 0 ∨ WA w n s i = 1 := by
  induction i using Nat.strongRecOn with
  | ind i ih =>
    rw [WA_eq]
    unfold f3
    split
    · unfold pk
      have := lat_rng w s i (ro w s i)
      split
      · exact wy_01 i
      · exact ih _ (by omega)
    · exact bs_01 _
/-! a table that grows from the end -/
def td (n : Nat) (f : (Nat → Int) → Nat → Int) : Nat → Nat → Int
  | 0, _ => 0
  | c + 1, j => if j + c + 1 = n then f (td n f c) j else td n f c j
theorem td_at9 (n : Nat) (f : (Nat → Int) → Nat → Int) {c j : Nat} (hj : j < n) (h : n ≤ j + c) : td n f c j = td n f (n - j) j := by
  induction c with
  | zero => omega
  | succ c ih =>
    by_cases e : j + c + 1 = n
    · rw [show n - j = c + 1 by omega]
    · have : td n f (c + 1) j = td n f c j := if_neg e
      rw [this]
      exact ih (by omega)
def f4 (w : Int) (n : Nat) (s : Nat → Int) (t : Nat → Int) (i : Nat) : Int := if K3 w n s i = 4 then pk t (bh w s n i) (wy w s i) else bs (K3 w n s i)
def WB (w : Int) (n : Nat) (s : Nat → Int) (i : Nat) : Int := td n (f4 w n s) (n - i) i
theorem bh_gt {w : Int} {s : Nat → Int} {n i : Nat} (h : 0 ≤ bh w s n i) : (i : Int) < bh w s n i ∧ bh w s n i < (n : Int) := by
  have e6 : bh w s n i = ((bh w s n i).toNat : Int) := by omega
  have h1 := lat_of_bh e6
  have h2 := lat_ro h1.2
  omega
theorem WB_eq (w : Int) (n : Nat) (s : Nat → Int) {i : Nat} (hi : i < n) : WB w n s i = f4 w n s (WB w n s) i := by
  have h0 : WB w n s i = f4 w n s (td n (f4 w n s) (n - i - 1)) i := by
    unfold WB
    rw [show n - i = (n - i - 1) + 1 by omega]
    exact if_pos (by omega)
  rw [h0]
  unfold f4
  split
  · unfold pk
    split
    · rfl
    · rename_i hneg
      have := bh_gt (w := w) (s := s) (n := n) (i := i) (by omega)
      exact td_at9 n _ (by omega) (by omega)
  · rfl
theorem WB_01 (w : Int) (n : Nat) (s : Nat → Int) : ∀ (c i : Nat), i < n → n ≤ i + c → WB w n s i = 0 ∨ WB w n s i = 1 := by
  intro c
  induction c with
  | zero => intro i h1 h2; omega
  | succ c ih =>
    intro i h1 h2
    rw [WB_eq w n s h1]
    unfold f4
    split
    · unfold pk
      split
      · exact wy_01 i
      · have := bh_gt (w := w) (s := s) (n := n) (i := i) (by omega)
        exact ih _ (by omega) (by omega)
    · exact bs_01 _
def K4 (w : Int) (n : Nat) (s : Nat → Int) (i : Nat) : Int := if K3 w n s i = 4 then (if WA w n s i = WB w n s i then WA w n s i else wy w s i) else K3 w n s i
theorem K4_r {w : Int} {n : Nat} {s : Nat → Int} {g : cb_S} (h : rwd g w n s) {i : Nat} (hi : i < n) : K4 w n s i = 0 ∨ K4 w n s i = 1 ∨ K4 w n s i = 2 := by
  have h1 := K3_r h hi
  have h2 := WA_01 w n s i
  have h3 := wy_01 (w := w) (s := s) i
  unfold K4
  repeat' split
  all_goals omega
theorem p_plain3 {w : Int} {n : Nat} {s : Nat → Int} : ∀ (m i : Nat) (g : cb_S), rwd g w n s → i ≤ n → n < i + m → (∀ j, j < n → g 23 j = WA w n s j ∧ g 24 j = WB w n s j) → (∀ j, j < i → g 22 j = K4 w n s j) → (∀ j, i ≤ j → j < n → g 22 j = K3 w n s j) → hp (f_X5_settlePlain_b127 m (i : Int) g) (fun _ g2 => (∀ j, j < n → g2 22 j = K4 w n s j) ∧ ∀ k, k ≠ 22 → g2 k = g k) := by
  intro m
  induction m with
  | zero => intro i g hd h1 h2; omega
  | succ m ih =>
    intro i g hd h1 h2 hab hj hj2
    obtain ⟨a1, a2, a3, hl, a5, a6⟩ := id hd
    have hn := hl.2.2.1
    rw [f_X5_settlePlain_b127]
    dsimp only
    rw [a2, cb_wn (n := n) (by omega), cb_wn (n := i) (by omega)]
    by_cases hend : n ≤ i
    · rw [if_pos (by omega)]
      exact hp_some ⟨fun j hj9 => hj j (by omega), fun _ _ => rfl⟩
    · have hK3 := K3_r hd (show i < n by omega)
      have e8 : ((i : Int) + 1) = ((i + 1 : Nat) : Int) := by omega
      have hgi := hj2 i (Nat.le_refl _) (by omega)
      have hA := WA_01 w n s i
      have hB := WB_01 w n s n i (by omega) (by omega)
      have go : ∀ g' : cb_S, g' 22 i = K4 w n s i → (∀ j, j ≠ i → g' 22 j = g 22 j) → (∀ k, k ≠ 22 → g' k = g k) → hp (f_X5_settlePlain_b180 (f_X5_settlePlain_b127 m) (i : Int) g') (fun _ g2 => (∀ j, j < n → g2 22 j = K4 w n s j) ∧ ∀ k, k ≠ 22 → g2 k = g k) := by
        intro g' b1 b2 b3
        unfold f_X5_settlePlain_b180
        rw [e8]
        refine hp_imp (ih (i + 1) g' (rwd_keep hd (fun k hk => b3 k (by omega))) (by omega) (by omega) (fun j hj9 => ?_) (fun j hj9 => ?_) (fun j hj9 hj8 => ?_)) (fun r g2 ⟨q1, q2⟩ => ⟨q1, fun k hk => (q2 k hk).trans (b3 k hk)⟩)
        · rw [b3 23 (by decide), b3 24 (by decide)]
          exact hab j hj9
        · by_cases e : j = i
          · rw [e]; exact b1
          · rw [b2 j e]
            exact hj j (by omega)
        · rw [b2 j (by omega)]
          exact hj2 j (by omega) hj8
      have key : ∀ v : Int, v = K4 w n s i → hp (f_X5_settlePlain_b179 (f_X5_settlePlain_b127 m) (i : Int) v (i : Int) g) (fun _ g2 => (∀ j, j < n → g2 22 j = K4 w n s j) ∧ ∀ k, k ≠ 22 → g2 k = g k) := by
        intro v hv
        unfold f_X5_settlePlain_b179
        rw [cb_wn (n := i) (by omega), if_pos (by omega), Int.toNat_natCast]
        exact go _ (by rw [cb_u_same, hv]) (fun j hj9 => cb_u_ne _ _ _ _ hj9) (fun k hk => cb_u_other g _ _ hk)
      rw [if_neg (by omega), if_pos (by omega), Int.toNat_natCast, hgi, cb_id (x := K3 w n s i) (by omega) (by omega)]
      have hK4 : K4 w n s i = if K3 w n s i = 4 then (if WA w n s i = WB w n s i then WA w n s i else wy w s i) else K3 w n s i := rfl
      by_cases c1 : K3 w n s i = 4
      · rw [if_pos c1] at hK4
        rw [if_pos c1, if_pos (by omega), if_pos (by omega), (hab i (by omega)).1, (hab i (by omega)).2, cb_id (x := WA w n s i) (by omega) (by omega), cb_id (x := WB w n s i) (by omega) (by omega)]
        by_cases c2 : WA w n s i = WB w n s i
        · rw [if_pos c2] at hK4
          rw [if_pos c2, if_pos (by omega)]
          exact key _ hK4.symm
        · rw [if_neg c2] at hK4
          rw [if_neg c2, v_wayAround hd (by omega), Option.bind_some]
          exact key _ hK4.symm
      · rw [if_neg c1] at hK4
        rw [if_neg c1]
        exact go g (by rw [hgi, hK4]) (fun _ _ => rfl) (fun _ _ => rfl)
theorem p_plain2 {w : Int} {n : Nat} {s : Nat → Int} : ∀ (m i : Nat) (g : cb_S), rwd g w n s → i ≤ n → i < m → (∀ j, j < n → g 23 j = WA w n s j ∧ g 22 j = K3 w n s j) → (∀ j, i ≤ j → j < n → g 24 j = WB w n s j) → hp (f_X5_settlePlain_b69 m ((i : Int) - 1) g) (fun _ g2 => (∀ j, j < n → g2 22 j = K4 w n s j) ∧ ∀ k, k ≠ 22 → k ≠ 24 → g2 k = g k) := by
  intro m
  induction m with
  | zero => intro i g hd h1 h2; omega
  | succ m ih =>
    intro i g hd h1 h2 hab hj
    obtain ⟨a1, a2, a3, hl, a5, a6⟩ := id hd
    have hn := hl.2.2.1
    rw [f_X5_settlePlain_b69]
    dsimp only
    rw [cb_id (x := (i : Int) - 1) (by omega) (by omega)]
    by_cases hend : i = 0
    · rw [if_pos (by omega)]
      exact hp_imp (p_plain3 cb_N 0 g hd (Nat.zero_le _) (by unfold cb_N; omega) (fun j hj9 => ⟨(hab j hj9).1, hj j (by omega) hj9⟩) (fun j hj9 => by omega) (fun j _ hj9 => (hab j hj9).2)) (fun r g2 ⟨q1, q2⟩ => ⟨q1, fun k hk _ => q2 k hk⟩)
    · obtain ⟨q, rfl⟩ : ∃ q, i = q + 1 := ⟨i - 1, by omega⟩
      have e7 : (((q + 1 : Nat) : Int) - 1) = (q : Int) := by omega
      have hK3 := K3_r hd (show q < n by omega)
      rw [e7, if_neg (by omega), if_pos (by omega), Int.toNat_natCast, (hab q (by omega)).2, cb_id (x := K3 w n s q) (by omega) (by omega)]
      have e9 : ((q : Int) + (-1)) = ((q : Int) - 1) := by omega
      have key : ∀ v : Int, v = WB w n s q → hp (f_X5_settlePlain_b118 (f_X5_settlePlain_b69 m) (q : Int) v (q : Int) g) (fun _ g2 => (∀ j, j < n → g2 22 j = K4 w n s j) ∧ ∀ k, k ≠ 22 → k ≠ 24 → g2 k = g k) := by
        intro v hv
        unfold f_X5_settlePlain_b118
        rw [cb_wn (n := q) (by omega), if_pos (by omega), Int.toNat_natCast, e9]
        refine hp_imp (ih q _ (rwd_keep hd (fun k hk => cb_u_other g _ _ (by omega))) (by omega) (by omega) (fun j hj9 => ?_) (fun j hj9 hj8 => ?_)) (fun r g2 ⟨q1, q2⟩ => ⟨q1, fun k hk hk2 => (q2 k hk hk2).trans (cb_u_other g _ _ hk2)⟩)
        · rw [cb_u_other _ _ _ (by decide), cb_u_other _ _ _ (by decide)]
          exact hab j hj9
        · by_cases e : j = q
          · rw [e, cb_u_same, hv]
          · rw [cb_u_ne _ _ _ _ e]
            exact hj j (by omega) hj8
      have hW := WB_eq w n s (show q < n by omega)
      unfold f4 at hW
      have hbr := bh_rng w s n q
      by_cases c1 : K3 w n s q = 4
      · rw [if_pos c1] at hW
        rw [if_pos c1, if_pos (by omega), v_wayAround hd (by omega), Option.bind_some, (a1 q (by omega)).2.2, v_pk (by omega), Option.bind_some]
        apply key
        rw [hW]
        unfold pk
        split
        · rfl
        · have := bh_gt (w := w) (s := s) (n := n) (i := q) (by omega)
          exact hj _ (by omega) (by omega)
      · rw [if_neg c1] at hW
        rw [if_neg c1, if_pos (by omega), v_bs ⟨by omega, by omega⟩, Option.bind_some]
        exact key _ hW.symm
theorem p_plain1 {w : Int} {n : Nat} {s : Nat → Int} : ∀ (m i : Nat) (g : cb_S), rwd g w n s → i ≤ n → n < i + m → (∀ j, j < i → g 23 j = WA w n s j) → (∀ j, j < n → g 22 j = K3 w n s j) → hp (f_X5_settlePlain_b2 m (i : Int) g) (fun _ g2 => (∀ j, j < n → g2 22 j = K4 w n s j) ∧ ∀ k, k ≠ 22 → k ≠ 23 → k ≠ 24 → g2 k = g k) := by
  intro m
  induction m with
  | zero => intro i g hd h1 h2; omega
  | succ m ih =>
    intro i g hd h1 h2 hj hk3
    obtain ⟨a1, a2, a3, hl, a5, a6⟩ := id hd
    have hn := hl.2.2.1
    rw [f_X5_settlePlain_b2]
    dsimp only
    rw [a2, cb_wn (n := n) (by omega), cb_wn (n := i) (by omega)]
    by_cases hend : n ≤ i
    · rw [if_pos (by omega)]
      exact hp_imp (p_plain2 cb_N n g hd (Nat.le_refl _) (by unfold cb_N; omega) (fun j hj9 => ⟨hj j (by omega), hk3 j hj9⟩) (fun j hj9 hj8 => by omega)) (fun r g2 ⟨q1, q2⟩ => ⟨q1, fun k hk _ hk2 => q2 k hk hk2⟩)
    · have hK3 := K3_r hd (show i < n by omega)
      have e8 : ((i : Int) + 1) = ((i + 1 : Nat) : Int) := by omega
      rw [if_neg (by omega), if_pos (by omega), Int.toNat_natCast, hk3 i (by omega), cb_id (x := K3 w n s i) (by omega) (by omega)]
      have key : ∀ v : Int, v = WA w n s i → hp (f_X5_settlePlain_b55 (f_X5_settlePlain_b2 m) (i : Int) v (i : Int) g) (fun _ g2 => (∀ j, j < n → g2 22 j = K4 w n s j) ∧ ∀ k, k ≠ 22 → k ≠ 23 → k ≠ 24 → g2 k = g k) := by
        intro v hv
        unfold f_X5_settlePlain_b55
        rw [cb_wn (n := i) (by omega), if_pos (by omega), Int.toNat_natCast, e8]
        refine hp_imp (ih (i + 1) _ (rwd_keep hd (fun k hk => cb_u_other g _ _ (by omega))) (by omega) (by omega) (fun j hj9 => ?_) (fun j hj9 => ?_)) (fun r g2 ⟨q1, q2⟩ => ⟨q1, fun k hk hk1 hk2 => (q2 k hk hk1 hk2).trans (cb_u_other g _ _ hk1)⟩)
        · by_cases e : j = i
          · rw [e, cb_u_same, hv]
          · rw [cb_u_ne _ _ _ _ e]
            exact hj j (by omega)
        · rw [cb_u_other _ _ _ (by decide)]
          exact hk3 j hj9
      have hW := WA_eq w n s i
      unfold f3 at hW
      have hlr := lat_rng w s i (ro w s i)
      by_cases c1 : K3 w n s i = 4
      · rw [if_pos c1] at hW
        rw [if_pos c1, if_pos (by omega), v_wayAround hd (by omega), Option.bind_some, (a1 i (by omega)).2.1, v_pk (by omega), Option.bind_some]
        apply key
        rw [hW]
        unfold pk
        split
        · rfl
        · exact hj _ (by omega)
      · rw [if_neg c1] at hW
        rw [if_neg c1, if_pos (by omega), v_bs ⟨by omega, by omega⟩, Option.bind_some]
        exact key _ hW.symm
theorem p_plain {w : Int} {n : Nat} {s : Nat → Int} {g : cb_S} (h : rwd g w n s) (h1 : ∀ j, j < n → g 22 j = K3 w n s j) : hp (f_X5_settlePlain g) (fun _ g2 => (∀ j, j < n → g2 22 j = K4 w n s j) ∧ ∀ k, k ≠ 22 → k ≠ 23 → k ≠ 24 → g2 k = g k) :=
  p_plain1 cb_N 0 g h (Nat.zero_le _) (by have := h.2.2.2.1.2.2.1; unfold cb_N; omega) (fun j hj => by omega) h1
