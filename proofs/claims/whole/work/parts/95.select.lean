/-! selected -/
theorem cvw_keep {g g2 : cb_S} {w : Int} {n : Nat} {s : Nat → Int} (h : cvw g w n s) (hk : ∀ k, lay_w k → g2 k = g k) : cvw g2 w n s := by
  obtain ⟨c1, c2, c3, c4, c5, c6, c7, hn, hw, hcl, c11⟩ := h
  have k2 := hk 2 (by unfold lay_w; omega)
  have k4 := hk 4 (by unfold lay_w; omega)
  refine ⟨by rw [k2]; exact c1, by rw [k4]; exact c2, by rw [k4]; exact c3, by rw [k4]; exact c4, by rw [k2]; exact c5, by rw [k2]; exact c6, ?_, hn, hw, clu_keep hcl (fun k hk9 => hk k (by unfold cl_w at hk9; unfold lay_w; omega)), jns_keep c11 (hk 9 (by unfold lay_w; omega))⟩
  rw [hk 10 (by unfold lay_w; omega), hk 11 (by unfold lay_w; omega), hk 12 (by unfold lay_w; omega), hk 26 (by unfold lay_w; omega), hk 27 (by unfold lay_w; omega), hk 28 (by unfold lay_w; omega), hk 29 (by unfold lay_w; omega)]
  exact c7
theorem mvw_keep {g g2 : cb_S} {w : Int} {n : Nat} {s : Nat → Int} (h : mvw g w n s) (h0 : ∀ t, t ≠ 29 → g2 0 t = g 0 t) (hk : ∀ k, k ≠ 0 → k < 21 → g2 k = g k) : mvw g2 w n s := by
  obtain ⟨⟨m1, m1'⟩, m2, m3, m4, m5, m6, m7⟩ := h
  refine ⟨⟨by rw [h0 20 (by decide)]; exact m1, ?_⟩, by rw [h0 28 (by decide)]; exact m2, ?_, ?_, by rw [h0 13 (by decide)]; exact m5, ?_, ln_M_keep m7 (h0 0 (by decide)) (h0 1 (by decide)) (hk 1 (by decide) (by decide))⟩
  · rw [hk 14 (by decide) (by decide), hk 15 (by decide) (by decide), hk 16 (by decide) (by decide)]
    exact m1'
  · rw [hk 17 (by decide) (by decide), hk 18 (by decide) (by decide), hk 19 (by decide) (by decide), hk 20 (by decide) (by decide)]
    exact m3
  · rw [hk 11 (by decide) (by decide)]
    exact m4
  · rw [hk 6 (by decide) (by decide)]
    exact m6
/-- the pieces gathered so far -/
def pss (gC gM : cb_S) (m : Nat) : Prop := gC 6 2 = (m : Int) ∧ gM 0 29 = (m : Int) ∧ ∀ k, k < m → gC 30 k = gM 21 k ∧ gC 31 k = gM 22 k
theorem j_sel {w : Int} {n : Nat} {s : Nat → Int} {a b : Int} (ha : cb_i a) (hb : cb_i b) : ∀ (m v q : Nat) (on : Bool) (gC gM : cb_S), cvw gC w n s → mvw gM w n s → v ≤ cn n s n → cn n s n < v + m → q ≤ v → (on = true → 0 < q) → pss gC gM q → ∃ (r : Int) (gC2 gM2 : cb_S) (q2 : Nat), f_X4_gather_b11 m a b (bI on) (v : Int) gC = some (r, gC2) ∧ f_X9_select_b56 m a b (bI on) (v : Int) gM = some ((q2 : Int), gM2) ∧ q2 ≤ 60 ∧ pss gC2 gM2 q2 ∧ (∀ k, k ≠ 6 → k ≠ 30 → k ≠ 31 → gC2 k = gC k) ∧ (∀ t, t ≠ 29 → gM2 0 t = gM 0 t) ∧ ∀ k, k ≠ 0 → k ≠ 21 → k ≠ 22 → gM2 k = gM k := by
  intro m
  induction m with
  | zero => intro v q on gC gM h1 h2 h3 h4; omega
  | succ m ih =>
    intro v q on gC gM hC hM hv hm hq hon hp
    obtain ⟨p1, p2, p3⟩ := id hp
    obtain ⟨m1, m2, m3, m4, m5, m6, m7⟩ := id hM
    have hcn := cn_le (n := n) (s := s) n
    have hn := m7.2.2.1
    rw [f_X4_gather_b11, f_X9_select_b56]
    dsimp only
    unfold v_X1_number
    rw [Option.bind_some, hC.1, m1.1, cb_wn (n := cn n s n) (by omega), cb_wn (n := v) (by omega)]
    by_cases hend : cn n s n ≤ v
    · rw [if_pos (by omega), if_pos (by omega), p2]
      exact ⟨_, _, _, q, rfl, rfl, by omega, hp, fun _ _ _ _ => rfl, fun _ _ => rfl, fun _ _ _ _ => rfl⟩
    · obtain ⟨k, k1, k2, k3⟩ := PL_OR (w := w) (n := n) (s := s) (v := v) (by omega)
      have hf := fs_ok k1
      have hXr := XL_r (w := w) k1 hn
      have hwd := wd_r n s (fs n s k)
      have e8 : ((v : Int) + 1) = ((v + 1 : Nat) : Int) := by omega
      rw [if_neg (by omega), if_neg (by omega), c_at hC ⟨by omega, by omega⟩, Option.bind_some, if_pos (show 0 ≤ (v : Int) ∧ (v : Int) < (cn n s n : Int) by omega), Int.toNat_natCast, k2, c_first hC k1, Option.bind_some, if_pos (show 0 ≤ (v : Int) ∧ (v : Int) < ((64 : Nat) : Int) by omega), (m3 v (by omega)).2.2.2, k2, cb_wn (n := k) (by omega), if_pos (show 0 ≤ (k : Int) ∧ (k : Int) < ((64 : Nat) : Int) by omega), if_pos (show 0 ≤ (k : Int) ∧ (k : Int) < ((64 : Nat) : Int) by omega), Int.toNat_natCast, (m1.2 k k1).1, cb_wn (n := fs n s k) (by omega), cb_id ha.1 ha.2, cb_id hb.1 hb.2]
      have goN : ∃ (r : Int) (gC2 gM2 : cb_S) (q2 : Nat), f_X4_gather_b53 (f_X4_gather_b11 m) a b (bI on) (v : Int) (k : Int) gC = some (r, gC2) ∧ f_X9_select_b101 (f_X9_select_b56 m) a b (bI on) (v : Int) (k : Int) gM = some ((q2 : Int), gM2) ∧ q2 ≤ 60 ∧ pss gC2 gM2 q2 ∧ (∀ k, k ≠ 6 → k ≠ 30 → k ≠ 31 → gC2 k = gC k) ∧ (∀ t, t ≠ 29 → gM2 0 t = gM 0 t) ∧ ∀ k, k ≠ 0 → k ≠ 21 → k ≠ 22 → gM2 k = gM k := by
        unfold f_X4_gather_b53 f_X4_gather_b54 f_X4_gather_b79 f_X9_select_b101 f_X9_select_b102 f_X9_select_b140 f_X9_select_b171
        rw [if_pos (show cb_w 0 = 0 by decide), if_pos (show cb_w 0 = 0 by decide), if_pos (show cb_w 0 = 0 by decide), e8]
        exact ih (v + 1) q false gC gM hC hM (by omega) (by omega) (by omega) (fun z => by cases z) hp
      have goY : ∃ (r : Int) (gC2 gM2 : cb_S) (q2 : Nat), f_X4_gather_b54 (f_X4_gather_b11 m) a b (bI on) (v : Int) (k : Int) 1 gC = some (r, gC2) ∧ f_X9_select_b102 (f_X9_select_b56 m) a b (bI on) (v : Int) (k : Int) 1 gM = some ((q2 : Int), gM2) ∧ q2 ≤ 60 ∧ pss gC2 gM2 q2 ∧ (∀ k, k ≠ 6 → k ≠ 30 → k ≠ 31 → gC2 k = gC k) ∧ (∀ t, t ≠ 29 → gM2 0 t = gM 0 t) ∧ ∀ k, k ≠ 0 → k ≠ 21 → k ≠ 22 → gM2 k = gM k := by
        unfold f_X4_gather_b54 f_X4_gather_b79 f_X9_select_b102 f_X9_select_b140 f_X9_select_b171
        rw [if_neg (show ¬ cb_w 1 = 0 by decide), if_neg (show ¬ cb_w 1 = 0 by decide), if_neg (show ¬ cb_w 1 = 0 by decide), if_neg (show ¬ cb_w 1 = 0 by decide), c_left hC k1, Option.bind_some, c_right hC k1, Option.bind_some, cb_wn (n := k) (by omega)]
        simp only [if_pos (show 0 ≤ (k : Int) ∧ (k : Int) < ((64 : Nat) : Int) by omega)]
        rw [Int.toNat_natCast, (m3 k k1).1, (m3 k k1).2.1, e8]
        unfold f_X4_add f_X4_add_b38
        have hq60 : q < 60 := by omega
        rw [p1, cb_wn (n := q) (by omega), cb_wn (n := 60) (by omega)]
        have e21 : ∀ x : Int, (cb_u (cb_u gM 21 q x) 0 29 ((q : Int) + 1)) 0 29 = ((q + 1 : Nat) : Int) := fun x => by rw [cb_u_same]; omega
        have new : ∃ (r : Int) (gC2 gM2 : cb_S) (q2 : Nat), f_X4_gather_b11 m a b 1 ((v + 1 : Nat) : Int) (cb_u (cb_u (cb_u gC 30 q (XL w n s k)) 31 q (XL w n s k + wd n s (fs n s k))) 6 2 ((q : Int) + 1)) = some (r, gC2) ∧ f_X9_select_b56 m a b 1 ((v + 1 : Nat) : Int) (cb_u (cb_u (cb_u gM 21 q (XL w n s k)) 0 29 ((q : Int) + 1)) 22 q (XL w n s k + wd n s (fs n s k))) = some ((q2 : Int), gM2) ∧ q2 ≤ 60 ∧ pss gC2 gM2 q2 ∧ (∀ k, k ≠ 6 → k ≠ 30 → k ≠ 31 → gC2 k = gC k) ∧ (∀ t, t ≠ 29 → gM2 0 t = gM 0 t) ∧ ∀ k, k ≠ 0 → k ≠ 21 → k ≠ 22 → gM2 k = gM k := by
          generalize hGC : cb_u (cb_u (cb_u gC 30 q (XL w n s k)) 31 q (XL w n s k + wd n s (fs n s k))) 6 2 ((q : Int) + 1) = GC
          generalize hGM : cb_u (cb_u (cb_u gM 21 q (XL w n s k)) 0 29 ((q : Int) + 1)) 22 q (XL w n s k + wd n s (fs n s k)) = GM
          have kC : ∀ k, k ≠ 6 → k ≠ 30 → k ≠ 31 → GC k = gC k := fun k x y z => by rw [← hGC, cb_u_other _ _ _ x, cb_u_other _ _ _ z, cb_u_other _ _ _ y]
          have kM0 : ∀ t, t ≠ 29 → GM 0 t = gM 0 t := fun t ht => by rw [← hGM, cb_u_other _ _ _ (by decide), cb_u_ne _ _ _ _ ht, cb_u_other _ _ _ (by decide)]
          have kM : ∀ k, k ≠ 0 → k ≠ 21 → k ≠ 22 → GM k = gM k := fun k x y z => by rw [← hGM, cb_u_other _ _ _ z, cb_u_other _ _ _ x, cb_u_other _ _ _ y]
          have hps : pss GC GM (q + 1) := by
            refine ⟨by rw [← hGC, cb_u_same]; omega, by rw [← hGM, cb_u_other _ _ _ (by decide), cb_u_same]; omega, fun j hj => ?_⟩
            by_cases e : j = q
            · rw [← hGC, ← hGM, e]
              simp [cb_u]
            · have := p3 j (by omega)
              rw [← hGC, ← hGM]
              simp [cb_u, e, this]
          obtain ⟨r, gC2, gM2, q2, b1, b2, b3, b4, b5, b6, b7⟩ := ih (v + 1) (q + 1) true GC GM (cvw_keep hC (fun k hk => kC k (by unfold lay_w at hk; omega) (by unfold lay_w at hk; omega) (by unfold lay_w at hk; omega))) (mvw_keep hM kM0 (fun k x y => kM k x (by omega) (by omega))) (by omega) (by omega) (by omega) (fun _ => by omega) hps
          exact ⟨r, gC2, gM2, q2, b1, b2, b3, b4, fun k x y z => by rw [b5 k x y z, kC k x y z], fun t ht => by rw [b6 t ht, kM0 t ht], fun k x y z => by rw [b7 k x y z, kM k x y z]⟩
        cases on with
        | false =>
          rw [bI_f, if_pos (show cb_w 0 = 0 by decide), if_pos (show cb_w 0 = 0 by decide), if_neg (by omega), if_neg (by omega), if_pos (by omega), if_pos (by omega), Int.toNat_natCast, cb_b_some, p2, cb_wn (n := q) (by omega), if_pos (by omega), Int.toNat_natCast, e21, show ((q + 1 : Nat) : Int) - 1 = (q : Int) by omega, cb_wn (n := q) (by omega), if_pos (by omega), Int.toNat_natCast]
          have e18 : (cb_u (cb_u gM 21 q (XL w n s k)) 0 29 ((q : Int) + 1)) 18 k = XL w n s k := by rw [cb_u_other _ _ _ (by decide), cb_u_other _ _ _ (by decide)]; exact (m3 k k1).2.1
          have e17 : (cb_u (cb_u gM 21 q (XL w n s k)) 0 29 ((q : Int) + 1)) 17 k = wd n s (fs n s k) := by rw [cb_u_other _ _ _ (by decide), cb_u_other _ _ _ (by decide)]; exact (m3 k k1).1
          rw [e18, e17]
          exact new
        | true =>
          have h0 := hon rfl
          rw [bI_t, if_neg (show ¬ cb_w 1 = 0 by decide), if_neg (show ¬ cb_w 1 = 0 by decide), if_neg (show ¬ (q : Int) ≤ 0 by omega), if_neg (show ¬ ((60 : Nat) : Int) < (q : Int) by omega), p2, show (q : Int) - 1 = ((q - 1 : Nat) : Int) by omega, cb_wn (n := q - 1) (by omega), if_pos (show 0 ≤ ((q - 1 : Nat) : Int) ∧ ((q - 1 : Nat) : Int) < ((60 : Nat) : Int) by omega), if_pos (show 0 ≤ ((q - 1 : Nat) : Int) ∧ ((q - 1 : Nat) : Int) < ((64 : Nat) : Int) by omega), Int.toNat_natCast, cb_b_some]
          have hps : pss (cb_u gC 31 (q - 1) (XL w n s k + wd n s (fs n s k))) (cb_u gM 22 (q - 1) (XL w n s k + wd n s (fs n s k))) q := by
            refine ⟨by rw [cb_u_other _ _ _ (by decide)]; exact p1, by rw [cb_u_other _ _ _ (by decide)]; exact p2, fun j hj => ?_⟩
            have := p3 j hj
            by_cases e : j = q - 1
            · rw [e] at this ⊢
              simp [cb_u, this]
            · simp [cb_u, e, this]
          obtain ⟨r, gC2, gM2, q2, b1, b2, b3, b4, b5, b6, b7⟩ := ih (v + 1) q true _ _ (cvw_keep hC (fun k hk => cb_u_other _ _ _ (by unfold lay_w at hk; omega))) (mvw_keep hM (fun t ht => by rw [cb_u_other _ _ _ (by decide)]) (fun k x y => cb_u_other _ _ _ (by omega))) (by omega) (by omega) (by omega) (fun _ => h0) hps
          exact ⟨r, gC2, gM2, q2, b1, b2, b3, b4, fun k x y z => by rw [b5 k x y z, cb_u_other _ _ _ z], fun t ht => by rw [b6 t ht, cb_u_other _ _ _ (by decide)], fun k x y z => by rw [b7 k x y z, cb_u_other _ _ _ z]⟩
      by_cases e1 : (fs n s k : Int) < a
      · rw [if_pos e1, if_pos e1]
        exact goN
      · rw [if_neg e1, if_neg e1]
        by_cases e2 : b ≤ (fs n s k : Int)
        · rw [if_pos e2, if_pos e2]
          exact goN
        · rw [if_neg e2, if_neg e2]
          exact goY
theorem o14 : lw_o14 Rel := by
  intro gC gM hR x y hx hy
  obtain ⟨w, n, s, p, d, h⟩ := hR
  obtain ⟨r0, g1, l1, l2, l3⟩ := rL_looks h
  obtain ⟨a1, a2, a3, a4, a5, a6, a7, a8, a9, a10⟩ := id l3
  have cv := laid_vw a1
  obtain ⟨c1, c2, c3, c4, c5, c6, c7, hn, hw, hcl, c11⟩ := id cv
  have hcn := cn_le (n := n) (s := s) n
  have z01 : ¬ cb_w 1 = 0 := by decide
  have z00 : cb_w 0 = 0 := by decide
  have no : ∃ r gC2 r2 gM2, (some ((-1 : Int), gC)) = some (r, gC2) ∧ (some ((-1 : Int), g1)) = some (r2, gM2) ∧ cb_w r = cb_w r2 ∧ Rel gC2 gM2 := ⟨-1, gC, -1, g1, rfl, rfl, rfl, ⟨w, n, s, p, d, l3⟩⟩
  unfold f_X8_select f_X9_select
  rw [l1, cb_b_some, c_isB hcl c5 hn hx, Option.bind_some, c_isB hcl c5 hn hy, Option.bind_some, m_isB l2.1 a6.1 hn hx, Option.bind_some, m_isB l2.1 a6.1 hn hy, Option.bind_some, cb_id hx.1 hx.2, cb_id hy.1 hy.2]
  cases hBx : isB n s x with
  | false =>
    rw [bI_f]
    simp only [if_pos z00]
    exact no
  | true =>
    rw [bI_t]
    simp only [if_neg z01]
    cases hBy : isB n s y with
    | false =>
      rw [bI_f]
      simp only [if_pos z00]
      exact no
    | true =>
      have go : ∀ a b : Int, cb_i a → cb_i b → ∃ r gC2 r2 gM2, cb_b (f_X4_gather gC a b) (fun r3 g3 => (v_X4_number g3).bind (fun r4 => some (r4, g3))) = some (r, gC2) ∧ f_X9_select_b43 a b g1 = some (r2, gM2) ∧ cb_w r = cb_w r2 ∧ Rel gC2 gM2 := by
        intro a b ha hb
        unfold f_X4_gather f_X9_select_b43 v_X4_number
        obtain ⟨r, gC2, gM2, q2, b1, b2, b3, b4, b5, b6, b7⟩ := j_sel (w := w) (n := n) (s := s) ha hb cb_N 0 0 false (cb_u gC 6 2 0) (cb_u g1 0 29 0) (cvw_keep cv (fun k hk => cb_u_other _ _ _ (by unfold lay_w at hk; omega))) (mvw_keep l2 (fun t ht => cb_u_ne _ _ _ _ ht) (fun k x y => cb_u_other _ _ _ x)) (Nat.zero_le _) (by unfold cb_N; omega) (Nat.le_refl _) (fun z => by cases z) ⟨cb_u_same _ _ _ _, cb_u_same _ _ _ _, fun k hk => by omega⟩
        have b1' : f_X4_gather_b11 cb_N a b 0 0 (cb_u gC 6 2 0) = some (r, gC2) := b1
        have b2' : f_X9_select_b56 cb_N a b 0 0 (cb_u g1 0 29 0) = some ((q2 : Int), gM2) := b2
        rw [b1', b2', cb_b_some, Option.bind_some, b4.1]
        have kC : ∀ k, k ≠ 6 → k ≠ 30 → k ≠ 31 → gC2 k = gC k := fun k x y z => by rw [b5 k x y z, cb_u_other _ _ _ x]
        have kM0 : ∀ t, t ≠ 29 → gM2 0 t = g1 0 t := fun t ht => by rw [b6 t ht, cb_u_ne _ _ _ _ ht]
        have kM : ∀ k, k ≠ 0 → k ≠ 21 → k ≠ 22 → gM2 k = g1 k := fun k x y z => by rw [b7 k x y z, cb_u_other _ _ _ x]
        refine ⟨_, _, _, _, rfl, rfl, rfl, ⟨w, n, s, p, d, laid_keep a1 (fun k hk => kC k (by unfold lay_w at hk; omega) (by unfold lay_w at hk; omega) (by unfold lay_w at hk; omega)), a2, by rw [kC 5 (by decide) (by decide) (by decide)]; exact a3, by rw [kC 5 (by decide) (by decide) (by decide)]; exact a4, a5, ln_M_keep a6 (kM0 0 (by decide)) (kM0 1 (by decide)) (kM 1 (by decide) (by decide) (by decide)), by rw [kM0 3 (by decide)]; exact a7, by rw [kM0 4 (by decide)]; exact a8, hist_keep a9 (kC 7 (by decide) (by decide) (by decide)) (fun k hk => kC k (by omega) (by omega) (by omega)) (kM0 5 (by decide)) (fun k x y => kM k (by omega) (by omega) (by omega)), ⟨q2, b3, b4⟩⟩⟩
      rw [bI_t]
      simp only [if_neg z01]
      unfold f_X9_select_b32
      by_cases e : y ≤ x
      · rw [if_pos e]
        by_cases e2 : x = y
        · subst e2
          rw [if_pos (Int.le_refl _), if_neg (Int.lt_irrefl _), cb_id hx.1 hx.2, if_pos (Int.le_refl _)]
          exact go x x hx hx
        · rw [if_neg (show ¬ x ≤ y by omega), if_neg (show ¬ x < y by omega), cb_id hx.1 hx.2, cb_id hy.1 hy.2, if_pos e]
          exact go y x hy hx
      · rw [if_neg e, if_pos (show x ≤ y by omega), if_pos (show x < y by omega), cb_id hx.1 hx.2, cb_id hy.1 hy.2, if_neg e]
        exact go x y hx hy
