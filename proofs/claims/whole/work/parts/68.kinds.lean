theorem pop_mem {l : List Nat} {r : Nat} (h : r ∈ pop l) : r ∈ l := by
  match l, h with
  | [], h => exact h
  | [a], h => exact h
  | a :: b :: l, h => exact List.mem_cons_of_mem _ h
theorem pop_ne {l : List Nat} (h : l ≠ []) : pop l ≠ [] := by
  match l with
  | [] => exact absurd rfl h
  | [a] => exact h
  | a :: b :: l => exact List.cons_ne_nil _ _
theorem rst_ok {w : Int} (hw : w = 0 ∨ w = 1) (s : Nat → Int) (i : Nat) : (rst w s i).1 ≠ [] ∧ (∀ r ∈ (rst w s i).1, r < (rst w s i).2.1) ∧ (∀ r, r < (rst w s i).2.1 → 0 ≤ (rst w s i).2.2 r ∧ (rst w s i).2.2 r ≤ 2 * i + 1) := by
  induction i with
  | zero =>
    refine ⟨List.cons_ne_nil _ _, fun r hr => ?_, fun r hr => ?_⟩
    · rw [show r = 0 from List.mem_singleton.mp hr]
      show 0 < 1
      omega
    · show 0 ≤ w ∧ w ≤ 2 * ((0 : Nat) : Int) + 1
      omega
  | succ i ih =>
    obtain ⟨i1, i2, i3⟩ := ih
    have st : (if s i = 93 then pop (rst w s i).1 else (rst w s i).1) ≠ [] ∧ ∀ r ∈ (if s i = 93 then pop (rst w s i).1 else (rst w s i).1), r < (rst w s i).2.1 := by
      split
      · exact ⟨pop_ne i1, fun r hr => i2 r (pop_mem hr)⟩
      · exact ⟨i1, i2⟩
    have hro : ro w s i < (rst w s i).2.1 := by
      unfold ro
      generalize (if s i = 93 then pop (rst w s i).1 else (rst w s i).1) = l at st ⊢
      match l, st with
      | [], st => exact absurd rfl st.1
      | a :: l, st => exact st.2 a List.mem_cons_self
    have hb := i3 _ hro
    have hb : 0 ≤ rba w s i ∧ rba w s i ≤ 2 * i + 1 := hb
    have hbw := bw_rng (p := if s i = 91 then (0 : Int) else 1) hb.1
    rw [rst_succ]
    split
    · refine ⟨List.cons_ne_nil _ _, fun r hr => ?_, fun r hr => ?_⟩
      · show r < (rst w s i).2.1 + 1
        rcases List.mem_cons.mp hr with h | h
        · omega
        · have := st.2 r h
          omega
      · have hr : r < (rst w s i).2.1 + 1 := hr
        dsimp only
        by_cases e : r = (rst w s i).2.1
        · rw [if_pos e]
          omega
        · rw [if_neg e]
          have := i3 r (by omega)
          omega
    · refine ⟨st.1, st.2, fun r hr => ?_⟩
      have := i3 r hr
      dsimp only
      omega
theorem rba_rng {w : Int} (hw : w = 0 ∨ w = 1) (s : Nat → Int) (i : Nat) : 0 ≤ rba w s i ∧ rba w s i ≤ 2 * i + 1 := by
  obtain ⟨i1, i2, i3⟩ := rst_ok hw s i
  refine i3 _ ?_
  have st : (if s i = 93 then pop (rst w s i).1 else (rst w s i).1) ≠ [] ∧ ∀ r ∈ (if s i = 93 then pop (rst w s i).1 else (rst w s i).1), r < (rst w s i).2.1 := by
    split
    · exact ⟨pop_ne i1, fun r hr => i2 r (pop_mem hr)⟩
    · exact ⟨i1, i2⟩
  unfold ro
  generalize (if s i = 93 then pop (rst w s i).1 else (rst w s i).1) = l at st ⊢
  match l, st with
  | [], st => exact absurd rfl st.1
  | a :: l, st => exact st.2 a List.mem_cons_self
/-- what divide() leaves, of the signs -/
def rwd (g : cb_S) (w : Int) (n : Nat) (s : Nat → Int) : Prop := (∀ j, j < n → g 19 j = rba w s j ∧ g 20 j = lat w s j (ro w s j) ∧ g 21 j = bh w s n j) ∧ g 3 10 = (n : Int) ∧ g 3 12 = w ∧ ln_C g w n s ∧ jns g n s ∧ ∀ j, j < n → sg_k (s j) ≠ -1
theorem rwd_keep {g g2 : cb_S} {w : Int} {n : Nat} {s : Nat → Int} (h : rwd g w n s) (hk : ∀ k, ¬ (22 ≤ k ∧ k ≤ 25) → g2 k = g k) : rwd g2 w n s := by
  obtain ⟨a1, a2, a3, a4, a5, a6⟩ := h
  refine ⟨?_, ?_, ?_, ln_C_keep a4 (hk 1 (by omega)) (hk 8 (by omega)), jns_keep a5 (hk 9 (by omega)), a6⟩
  · rw [hk 19 (by omega), hk 20 (by omega), hk 21 (by omega)]
    exact a1
  · rw [hk 3 (by omega)]
    exact a2
  · rw [hk 3 (by omega)]
    exact a3
theorem v_wayAround {g : cb_S} {w : Int} {n : Nat} {s : Nat → Int} (h : rwd g w n s) {i : Nat} (hi : i < n) : v_X5_wayAround g (i : Int) = some (wy w s i) := by
  have hn := h.2.2.2.1.2.2.1
  unfold v_X5_wayAround
  rw [cb_wn (n := i) (by omega), if_pos (by omega), Int.toNat_natCast, (h.1 i hi).1]
  rfl
theorem wy_01 {w : Int} {s : Nat → Int} (i : Nat) : wy w s i = 0 ∨ wy w s i = 1 := by
  unfold wy
  omega
/-- valueAt of a table at the place ahead in the row -/
theorem v_pk {g : cb_S} {a : Nat} {j o : Int} (h : -1 ≤ j ∧ j < 60) : v_X8_valueAt g a 60 j o = some (pk (g a) j o) := by
  unfold pk
  by_cases hj : j < 0
  · rw [v_val_out (by decide) (by omega) (by omega), if_pos hj]
  · rw [v_val_in (by decide) (by omega) (by omega), if_neg hj]
theorem p_kinds1 {w : Int} {n : Nat} {s : Nat → Int} : ∀ (m i : Nat) (g : cb_S), rwd g w n s → i ≤ n → n < i + m → (∀ j, j < i → g 22 j = K1 w n s j) → hp (f_X5_findKinds_b2 m (i : Int) g) (fun _ g2 => (∀ j, j < n → g2 22 j = K1 w n s j) ∧ ∀ k, k ≠ 22 → g2 k = g k) := by
  intro m
  induction m with
  | zero => intro i g hd h1 h2; omega
  | succ m ih =>
    intro i g hd h1 h2 hj
    obtain ⟨a1, a2, a3, hl, a5, a6⟩ := id hd
    obtain ⟨e1, e2, hn, hs, hb, hw⟩ := id hl
    rw [f_X5_findKinds_b2]
    dsimp only
    rw [a2, cb_wn (n := n) (by omega), cb_wn (n := i) (by omega)]
    by_cases hend : n ≤ i
    · rw [if_pos (by omega)]
      exact hp_some ⟨fun j hj9 => hj j (by omega), fun _ _ => rfl⟩
    · rw [if_neg (by omega), v_at_in hl (by omega) (by omega), Option.bind_some, Int.toNat_natCast]
      have hsb := hb i (by omega)
      have hlr := lat_rng w s i (ro w s i)
      have e8 : ((i : Int) + 1) = ((i + 1 : Nat) : Int) := by omega
      have key : ∀ v : Int, v = K1 w n s i → hp (f_X5_findKinds_b91 (f_X5_findKinds_b2 m) (i : Int) (cb_u g 22 i v)) (fun _ g2 => (∀ j, j < n → g2 22 j = K1 w n s j) ∧ ∀ k, k ≠ 22 → g2 k = g k) := by
        intro v hv
        unfold f_X5_findKinds_b91
        rw [e8]
        refine hp_imp (ih (i + 1) _ (rwd_keep hd (fun k hk => cb_u_other g _ _ (by omega))) (by omega) (by omega) (fun j hj9 => ?_)) (fun r g2 ⟨q1, q2⟩ => ⟨q1, fun k hk => (q2 k hk).trans (cb_u_other g _ _ hk)⟩)
        by_cases e : j = i
        · subst e
          rw [cb_u_same, hv]
        · rw [cb_u_ne _ _ _ _ e]
          exact hj j (by omega)
      rw [v_isMark ⟨by omega, by omega⟩, Option.bind_some, v_joinsAt hn a5 i (by omega), v_kindOf ⟨by omega, by omega⟩]
      simp only [Option.bind_some, Int.toNat_natCast]
      rw [v_wayAround hd (by omega), (a1 i (by omega)).2.1]
      simp only [Option.bind_some]
      have hK := K1_eq w n s i
      unfold f1 at hK
      by_cases hm : s i = 39 ∨ s i = 126
      · rw [if_pos hm] at hK
        rw [if_pos hm, if_neg (by decide), if_pos (by omega), v_pk (by omega), Option.bind_some, if_pos (by omega)]
        apply key
        rw [hK]
        unfold pk
        split
        · rfl
        · exact hj _ (by omega)
      · rw [if_neg hm] at hK
        rw [if_neg hm, if_pos (by decide)]
        cases hq : jn n s i with
        | false =>
          rw [hq, if_neg (by decide)] at hK
          rw [bI_f, if_pos (by decide), if_pos (by omega)]
          exact key _ hK.symm
        | true =>
          rw [hq, if_pos rfl] at hK
          have hq1 := (jn_iff n s i).mp hq
          have e7 : ((i : Int) - 1).toNat = i - 1 := by omega
          rw [bI_t, if_neg (by decide), v_val_in (by decide) (by omega) (by omega), Option.bind_some, if_pos (by omega), e7]
          apply key
          rw [hK]
          exact hj _ (by omega)
theorem p_findKinds {w : Int} {n : Nat} {s : Nat → Int} {g : cb_S} (h : rwd g w n s) : hp (f_X5_findKinds g) (fun _ g2 => (∀ j, j < n → g2 22 j = K1 w n s j) ∧ ∀ k, k ≠ 22 → g2 k = g k) :=
  p_kinds1 cb_N 0 g h (Nat.zero_le _) (by have := h.2.2.2.1.2.2.1; unfold cb_N; omega) (fun j hj => by omega)
