/-! picked by a point -/
def pt (w : Int) (n : Nat) (s : Nat → Int) (k : Nat) (i : Int) : Nat × Int := if jn n s (fs n s k + 1) = true ∧ 4 ≤ i ∧ i < 12 then (fs n s k + 2, 0) else sd w n s k (decide (wd n s (fs n s k) ≤ 2 * i))
theorem pt_cst {w : Int} {n : Nat} {s : Nat → Int} {k : Nat} (hk : k < cn n s n) (i : Int) : cst n s (pt w n s k i).1 (pt w n s k i).2 := by
  unfold pt
  split
  · rename_i hj
    exact cst_S (mid_S hk hj.1).1
  · exact sd_cst hk _
theorem c_b92 {g : cb_S} {x d : Int} : f_X8_pick_b92 (cb_u (cb_u g 5 2 x) 5 3 d) = some (x, cb_u (cb_u g 5 2 x) 5 3 d) := by
  unfold f_X8_pick_b92 v_X0_stand
  rw [Option.bind_some, cb_u_ne _ _ _ _ (by decide), cb_u_same]
theorem wd16 {n : Nat} {s : Nat → Int} {b : Nat} (h : jn n s (b + 1) = true) : wd n s b = 16 := by
  unfold wd
  rw [if_pos h]
theorem c_within {g : cb_S} {w : Int} {n : Nat} {s : Nat → Int} (h : cvw g w n s) {k : Nat} (hk : k < cn n s n) {x : Int} (h0 : XL w n s k ≤ x) (h1 : x < XL w n s k + wd n s (fs n s k)) : f_X8_pickWithin g (k : Int) x = some (0, cb_u (cb_u g 5 2 ((pt w n s k (x - XL w n s k)).1 : Int)) 5 3 (pt w n s k (x - XL w n s k)).2) := by
  have hn := h.2.2.2.2.2.2.2.1
  have hXr := XL_r (w := w) hk hn
  have hwd := wd_r n s (fs n s k)
  have b61 : ¬ (jn n s (fs n s k + 1) = true ∧ 4 ≤ x - XL w n s k ∧ x - XL w n s k < 12) → f_X8_pickWithin_b61 (k : Int) (x - XL w n s k) (wd n s (fs n s k)) g = some (0, cb_u (cb_u g 5 2 ((pt w n s k (x - XL w n s k)).1 : Int)) 5 3 (pt w n s k (x - XL w n s k)).2) := by
    intro hno
    unfold f_X8_pickWithin_b61 f_X8_pickWithin_b79 pt
    rw [if_neg hno, cb_id (x := 2 * (x - XL w n s k)) (by omega) (by omega), cb_id (x := wd n s (fs n s k)) (by omega) (by omega)]
    by_cases e : 2 * (x - XL w n s k) < wd n s (fs n s k)
    · have := c_side h hk false
      rw [bI_f] at this
      rw [if_pos e, this, cb_b_some, decide_eq_false (by omega)]
    · have := c_side h hk true
      rw [bI_t] at this
      rw [if_neg e, this, cb_b_some, decide_eq_true (by omega)]
  unfold f_X8_pickWithin
  rw [c_left h hk, Option.bind_some, c_width h hk, Option.bind_some, c_joined h hk, Option.bind_some]
  cases hj : jn n s (fs n s k + 1) with
  | false =>
    rw [bI_f, if_pos (by decide)]
    exact b61 (fun z => by rw [hj] at z; cases z.1)
  | true =>
    have h16 := wd16 hj
    rw [bI_t, if_neg (by decide), cb_id (x := 4 * (x - XL w n s k)) (by omega) (by omega), cb_id (x := wd n s (fs n s k)) (by omega) (by omega), cb_id (x := 3 * wd n s (fs n s k)) (by omega) (by omega)]
    by_cases e1 : 4 * (x - XL w n s k) < wd n s (fs n s k)
    · rw [if_pos e1]
      exact b61 (by omega)
    · rw [if_neg e1]
      by_cases e2 : 3 * wd n s (fs n s k) ≤ 4 * (x - XL w n s k)
      · rw [if_pos e2]
        exact b61 (by omega)
      · rw [if_neg e2, c_mid h hk hj, cb_b_some]
        unfold pt
        rw [if_pos ⟨hj, by omega, by omega⟩]
theorem m_pick1 {g : cb_S} {w : Int} {n : Nat} {s : Nat → Int} (h : mvw g w n s) {k : Nat} (hk : k < cn n s n) {x : Int} (h0 : XL w n s k ≤ x) (h1 : x < XL w n s k + wd n s (fs n s k)) : ∀ (m q : Nat), q ≤ k → k < q + m → f_X9_pick_b68 m x (q : Int) g = some (((pt w n s k (x - XL w n s k)).1 : Int), cb_u (cb_u g 0 3 ((pt w n s k (x - XL w n s k)).1 : Int)) 0 4 (pt w n s k (x - XL w n s k)).2) := by
  obtain ⟨m1, m2, m3, m4, m5, m6, m7⟩ := id h
  have hcn := cn_le (n := n) (s := s) n
  have hn := m7.2.2.1
  have hXr := XL_r (w := w) hk hn
  have hwd := wd_r n s (fs n s k)
  have g03 : ∀ (y e : Int), (cb_u (cb_u g 0 3 y) 0 4 e) 0 3 = y := fun y e => by rw [cb_u_ne _ _ _ _ (by decide), cb_u_same]
  intro m
  induction m with
  | zero => intro q h2 h3; omega
  | succ m ih =>
    intro q h2 h3
    have mq := m3 q (by omega)
    have hXq := XL_r (w := w) (n := n) (s := s) (k := q) (by omega) hn
    have hwq := wd_r n s (fs n s q)
    rw [f_X9_pick_b68]
    dsimp only
    unfold f_X9_pick_b95
    rw [cb_wn (n := q) (by omega), Int.toNat_natCast, mq.1, mq.2.1, (m1.2 q (by omega)).2.2, (m1.2 q (by omega)).1, cb_id (x := x) (by omega) (by omega), cb_id (x := XL w n s q) (by omega) (by omega), cb_id (x := XL w n s q + wd n s (fs n s q)) (by omega) (by omega)]
    simp only [if_pos (show 0 ≤ (q : Int) ∧ (q : Int) < ((64 : Nat) : Int) by omega)]
    by_cases e : q = k
    · subst e
      have b184 : ∀ l r : Int, l = x - XL w n s q → r = XL w n s q + wd n s (fs n s q) - x → ¬ (jn n s (fs n s q + 1) = true ∧ 4 ≤ x - XL w n s q ∧ x - XL w n s q < 12) → f_X9_pick_b184 (q : Int) l r g = some (((pt w n s q (x - XL w n s q)).1 : Int), cb_u (cb_u g 0 3 ((pt w n s q (x - XL w n s q)).1 : Int)) 0 4 (pt w n s q (x - XL w n s q)).2) := by
        intro l r hl hr hno
        unfold f_X9_pick_b184 pt
        rw [if_neg hno, hl, hr, cb_id (x := x - XL w n s q) (by omega) (by omega), cb_id (x := XL w n s q + wd n s (fs n s q) - x) (by omega) (by omega), m_right h (by omega), m_left h (by omega), cb_b_some, cb_b_some, g03, g03]
        by_cases e2 : XL w n s q + wd n s (fs n s q) - x ≤ x - XL w n s q
        · rw [if_pos e2, decide_eq_true (by omega)]
        · rw [if_neg e2, decide_eq_false (by omega)]
      rw [if_neg (by omega), if_pos (by omega)]
      unfold v_X9_far f_X9_goes
      rw [cb_id (x := x) (by omega) (by omega), cb_id (x := XL w n s q) (by omega) (by omega), cb_id (x := XL w n s q + wd n s (fs n s q)) (by omega) (by omega), cb_id (x := XL w n s q + 8) (by omega) (by omega), if_pos (by omega), Option.bind_some, if_neg (by omega), Option.bind_some]
      have fin : ∀ mm : Int, (XL w n s q + 8 ≤ x → mm = x - (XL w n s q + 8)) → (¬ XL w n s q + 8 ≤ x → mm = XL w n s q + 8 - x) → (if cb_w (bI (jn n s (fs n s q + 1))) = 0 then f_X9_pick_b184 (q : Int) (x - XL w n s q) (XL w n s q + wd n s (fs n s q) - x) g else if cb_w (x - XL w n s q) < cb_w mm then f_X9_pick_b184 (q : Int) (x - XL w n s q) (XL w n s q + wd n s (fs n s q) - x) g else if cb_w (XL w n s q + wd n s (fs n s q) - x) ≤ cb_w mm then f_X9_pick_b184 (q : Int) (x - XL w n s q) (XL w n s q + wd n s (fs n s q) - x) g else cb_b (some ((0 : Int), cb_u (cb_u g 0 3 ((fs n s q : Int) + 2)) 0 4 0)) (fun r4 g4 => some (g4 0 3, g4))) = some (((pt w n s q (x - XL w n s q)).1 : Int), cb_u (cb_u g 0 3 ((pt w n s q (x - XL w n s q)).1 : Int)) 0 4 (pt w n s q (x - XL w n s q)).2) := by
        intro mm hm1 hm2
        cases hj : jn n s (fs n s q + 1) with
        | false =>
          rw [bI_f, if_pos (by decide)]
          exact b184 _ _ rfl rfl (fun z => by rw [hj] at z; cases z.1)
        | true =>
          have h16 := wd16 hj
          have hmr : -1000 ≤ mm ∧ mm ≤ 1000 := by
            by_cases e3 : XL w n s q + 8 ≤ x
            · have := hm1 e3
              omega
            · have := hm2 e3
              omega
          rw [bI_t, if_neg (by decide), cb_id (x := x - XL w n s q) (by omega) (by omega), cb_id (x := mm) (by omega) (by omega), cb_id (x := XL w n s q + wd n s (fs n s q) - x) (by omega) (by omega)]
          by_cases e1 : x - XL w n s q < mm
          · rw [if_pos e1]
            exact b184 _ _ rfl rfl (by omega)
          · rw [if_neg e1]
            by_cases e2 : XL w n s q + wd n s (fs n s q) - x ≤ mm
            · rw [if_pos e2]
              exact b184 _ _ rfl rfl (by omega)
            · rw [if_neg e2, cb_b_some, g03]
              unfold pt
              rw [if_pos ⟨hj, by omega, by omega⟩]
              rfl
      by_cases e3 : XL w n s q + 8 ≤ x
      · rw [if_pos e3, Option.bind_some]
        exact fin _ (fun _ => rfl) (fun z => absurd e3 z)
      · rw [if_neg e3, Option.bind_some]
        exact fin _ (fun z => absurd z e3) (fun _ => rfl)
    · have go := ih (q + 1) (by omega) (by omega)
      rw [show ((q + 1 : Nat) : Int) = (q : Int) + 1 by omega] at go
      by_cases e1 : x < XL w n s q
      · rw [if_pos e1]
        exact go
      · rw [if_neg e1]
        by_cases e2 : x < XL w n s q + wd n s (fs n s q)
        · exfalso
          have hq := PL_ok (w := w) (n := n) (s := s) (k := q) (by omega)
          have hk9 := PL_ok (w := w) (n := n) (s := s) hk
          have a1 := XL_next (w := w) (n := n) (s := s) (k := q) (by omega)
          have a2 := XL_next (w := w) (n := n) (s := s) hk
          have : PL w n s q = PL w n s k := xs_uniq (x := x) (show xs n s (OR w n s) (PL w n s q) ≤ x by show XL w n s q ≤ x; omega) (by omega) (show xs n s (OR w n s) (PL w n s k) ≤ x from h0) (by omega)
          have h9 := hq.1
          rw [this, hk9.1] at h9
          omega
        · rw [if_neg e2]
          exact go
theorem o13 : lw_o13 Rel := by
  intro gC gM hR x hx
  obtain ⟨w, n, s, p, d, h⟩ := hR
  obtain ⟨r0, g1, l1, l2, l3⟩ := rL_looks h
  obtain ⟨a1, a2, a3, a4, a5, a6, a7, a8, a9, a10⟩ := id l3
  have cv := laid_vw a1
  obtain ⟨c1, c2, c3, c4, c5, c6, c7, hn, hw, hcl, c11⟩ := id cv
  obtain ⟨m1, m2, m3, m4, m5, m6, m7⟩ := id l2
  have hcn := cn_le (n := n) (s := s) n
  have htw := TW_r (w := w) (s := s) hn
  have g03 : ∀ (y e : Int), (cb_u (cb_u g1 0 3 y) 0 4 e) 0 3 = y := fun y e => by rw [cb_u_ne _ _ _ _ (by decide), cb_u_same]
  have key : ∀ (q : Nat) (e : Int), cst n s q e → f_X8_pick gC x = some ((q : Int), cb_u (cb_u gC 5 2 (q : Int)) 5 3 e) → f_X9_pick gM x = some ((q : Int), cb_u (cb_u g1 0 3 (q : Int)) 0 4 e) → ∃ r gC2 r2 gM2, f_X8_pick gC x = some (r, gC2) ∧ f_X9_pick gM x = some (r2, gM2) ∧ cb_w r = cb_w r2 ∧ Rel gC2 gM2 := fun q e hc a b => ⟨_, _, _, _, a, b, rfl, ⟨w, n, s, q, e, rL_move l3 hc⟩⟩
  have hC : f_X8_pick gC x = if cn n s n = 0 then cb_b (f_X0_place gC 0 0) (fun _ g9 => f_X8_pick_b92 g9) else if 0 ≤ x then (if x < TW w n s then ((v_X6_clusterOver gC x).bind (fun r3 => cb_b (f_X8_pickWithin gC r3 x) (fun r4 g4 => f_X8_pick_b92 g4))) else ((v_X6_clusterAtPlace gC ((cn n s n : Int) - 1)).bind (fun r5 => cb_b (f_X0_toSideOf gC r5 1) (fun r6 g6 => f_X8_pick_b92 g6)))) else ((v_X6_clusterAtPlace gC 0).bind (fun r7 => cb_b (f_X0_toSideOf gC r7 0) (fun r8 g8 => f_X8_pick_b92 g8))) := by
    unfold f_X8_pick v_X1_number v_X6_width
    rw [Option.bind_some, Option.bind_some, c1, c3, cb_wn (n := cn n s n) (by omega), cb_id hx.1 hx.2, cb_id (x := TW w n s) (by omega) (by omega)]
    by_cases e : cn n s n = 0
    · rw [if_pos (by omega), if_pos e]
    · rw [if_neg (by omega), if_neg e]
  have hM : f_X9_pick gM x = if cn n s n = 0 then some (0, cb_u (cb_u g1 0 3 0) 0 4 0) else if 0 ≤ x then (if x < TW w n s then f_X9_pick_b68 cb_N x 0 g1 else cb_b (f_X9_toRight g1 (OR w n s (cn n s n - 1))) (fun r2 g2 => some (g2 0 3, g2))) else cb_b (f_X9_toLeft g1 (OR w n s 0)) (fun r3 g3 => some (g3 0 3, g3)) := by
    unfold f_X9_pick f_X9_goes
    rw [l1, cb_b_some, m1.1, m2, cb_wn (n := cn n s n) (by omega), cb_id hx.1 hx.2, cb_id (x := TW w n s) (by omega) (by omega), cb_b_some]
    by_cases e : cn n s n = 0
    · rw [if_pos (by omega), if_pos e]
    · rw [if_neg (by omega), if_neg e, show (cn n s n : Int) - 1 = ((cn n s n - 1 : Nat) : Int) by omega, cb_wn (n := cn n s n - 1) (by omega), if_pos (show 0 ≤ ((cn n s n - 1 : Nat) : Int) ∧ ((cn n s n - 1 : Nat) : Int) < ((64 : Nat) : Int) by omega), if_pos (show 0 ≤ cb_w 0 ∧ cb_w 0 < ((64 : Nat) : Int) by decide), Int.toNat_natCast, show (cb_w 0).toNat = 0 by decide, (m3 (cn n s n - 1) (by omega)).2.2.2, (m3 0 (by omega)).2.2.2]
  by_cases e0 : cn n s n = 0
  · refine key 0 0 (cst_B (isB_0 n s) (Or.inl rfl)) ?_ ?_
    · rw [hC, if_pos e0]
      have := c_plB hcl hn (q := 0) (d := 0) (isB_0 n s)
      rw [show ((0 : Nat) : Int) = 0 from rfl] at this
      rw [this, cb_b_some, c_b92]
      rfl
    · rw [hM, if_pos e0]
      rfl
  · by_cases x0 : 0 ≤ x
    · by_cases x1 : x < TW w n s
      · obtain ⟨v, v1, v2, v3⟩ := xs_find (n := n) (s := s) (o := OR w n s) x0 (cn n s n) x1
        obtain ⟨k, k1, k2, k3⟩ := PL_OR (w := w) (n := n) (s := s) v1
        have hX : XL w n s k = xs n s (OR w n s) v := by unfold XL; rw [k3]
        have hX2 := XL_next (w := w) k1
        rw [k3] at hX2
        have mp := m_pick1 l2 k1 (x := x) (by omega) (by omega) cb_N 0 (Nat.zero_le _) (by unfold cb_N; omega)
        refine key _ _ (pt_cst (w := w) k1 (x - XL w n s k)) ?_ ?_
        · rw [hC, if_neg e0, if_pos x0, if_pos x1, c_over_in cv hx v1 v2 v3, Option.bind_some, k2, c_within cv k1 (by omega) (by omega), cb_b_some, c_b92]
        · rw [hM, if_neg e0, if_pos x0, if_pos x1]
          exact mp
      · obtain ⟨k, k1, k2, k3⟩ := PL_OR (w := w) (n := n) (s := s) (v := cn n s n - 1) (by omega)
        have cs := c_side cv k1 true
        rw [bI_t] at cs
        refine key _ _ (sd_cst (w := w) k1 true) ?_ ?_
        · rw [hC, if_neg e0, if_pos x0, if_neg x1, c_at cv ⟨by omega, by omega⟩, Option.bind_some, if_pos (by omega), show ((cn n s n : Int) - 1).toNat = cn n s n - 1 by omega, k2, cs, cb_b_some, c_b92]
        · rw [hM, if_neg e0, if_pos x0, if_neg x1, k2, m_right l2 k1, cb_b_some, g03]
    · obtain ⟨k, k1, k2, k3⟩ := PL_OR (w := w) (n := n) (s := s) (v := 0) (by omega)
      have cs := c_side cv k1 false
      rw [bI_f] at cs
      refine key _ _ (sd_cst (w := w) k1 false) ?_ ?_
      · rw [hC, if_neg e0, if_neg x0, c_at cv ⟨by omega, by omega⟩, Option.bind_some, if_pos (by omega), show (0 : Int).toNat = 0 from rfl, k2, cs, cb_b_some, c_b92]
      · rw [hM, if_neg e0, if_neg x0, k2, m_left l2 k1, cb_b_some, g03]
