/-! the relation of class and model -/
def vld (n : Nat) (s : Nat → Int) : Prop := (∀ i, i < n → 32 ≤ s i ∧ s i ≤ 126) ∧ ∀ j, j < n → sg_k (s j) ≠ -1
def ent (gC gM : cb_S) (i j : Nat) : Prop := ∃ (n : Nat) (s : Nat → Int) (p : Nat) (d : Int), n ≤ 60 ∧ gC 33 j = (n : Int) ∧ gM 2 i = (n : Int) ∧ (∀ k, k < n → gC (36 + j) k = s k ∧ gM 3 (64 * i + k) = s k) ∧ gC 34 j = (p : Int) ∧ gM 4 i = (p : Int) ∧ gC 35 j = d ∧ gM 5 i = d ∧ vld n s ∧ cst n s p d
def hist (gC gM : cb_S) : Prop := ∃ x c : Nat, x < 8 ∧ c ≤ 8 ∧ gC 7 4 = (x : Int) ∧ gC 7 5 = (c : Int) ∧ gM 0 5 = (c : Int) ∧ ∀ i, i < c → ent gC gM i ((x + 8 - c + i) % 8)
def pcs (gC gM : cb_S) : Prop := ∃ m : Nat, m ≤ 60 ∧ gC 6 2 = (m : Int) ∧ gM 0 29 = (m : Int) ∧ ∀ k, k < m → gC 30 k = gM 21 k ∧ gC 31 k = gM 22 k
def rL (gC gM : cb_S) (w : Int) (n : Nat) (s : Nat → Int) (p : Nat) (d : Int) : Prop := laid gC w n s ∧ vld n s ∧ gC 5 2 = (p : Int) ∧ gC 5 3 = d ∧ cst n s p d ∧ ln_M gM w n s ∧ gM 0 3 = (p : Int) ∧ gM 0 4 = d ∧ hist gC gM ∧ pcs gC gM
def Rel (gC gM : cb_S) : Prop := ∃ w n s p d, rL gC gM w n s p d
theorem ent_keep {gC gC2 gM gM2 : cb_S} {i j : Nat} (h : ent gC gM i j) (hk : ∀ k, 33 ≤ k → gC2 k = gC k) (hm : ∀ k, 2 ≤ k → k ≤ 5 → gM2 k = gM k) : ent gC2 gM2 i j := by
  unfold ent at h ⊢
  rw [hk 33 (by omega), hk 34 (by omega), hk 35 (by omega), hk (36 + j) (by omega), hm 2 (by omega) (by omega), hm 3 (by omega) (by omega), hm 4 (by omega) (by omega), hm 5 (by omega) (by omega)]
  exact h
theorem hist_keep {gC gC2 gM gM2 : cb_S} (h : hist gC gM) (h7 : gC2 7 = gC 7) (hk : ∀ k, 33 ≤ k → gC2 k = gC k) (h0 : gM2 0 5 = gM 0 5) (hm : ∀ k, 2 ≤ k → k ≤ 5 → gM2 k = gM k) : hist gC2 gM2 := by
  obtain ⟨x, c, h1, h2, h3, h4, h5, h6⟩ := h
  exact ⟨x, c, h1, h2, by rw [h7]; exact h3, by rw [h7]; exact h4, by rw [h0]; exact h5, fun i hi => ent_keep (h6 i hi) hk hm⟩
theorem pcs_keep {gC gC2 gM gM2 : cb_S} (h : pcs gC gM) (h6 : gC2 6 = gC 6) (h30 : gC2 30 = gC 30) (h31 : gC2 31 = gC 31) (h0 : gM2 0 29 = gM 0 29) (h21 : gM2 21 = gM 21) (h22 : gM2 22 = gM 22) : pcs gC2 gM2 := by
  unfold pcs at h ⊢
  rw [h6, h30, h31, h0, h21, h22]
  exact h
theorem laid_keep {g g2 : cb_S} {w : Int} {n : Nat} {s : Nat → Int} (h : laid g w n s) (hk : ∀ k, (lay_w k ∨ k = 1 ∨ k = 8) → g2 k = g k) : laid g2 w n s := by
  obtain ⟨⟨l1, l2, l3, l4⟩, r, q⟩ := h
  have kw : ∀ k, lay_w k → g2 k = g k := fun k h => hk k (Or.inl h)
  refine ⟨⟨ln_C_keep l1 (hk 1 (Or.inr (Or.inl rfl))) (hk 8 (Or.inr (Or.inr rfl))), jns_keep l2 (kw 9 (by unfold lay_w; omega)), ?_, by rw [kw 2 (by unfold lay_w; omega)]; exact l4⟩, ?_, ?_⟩
  · unfold clu at l3 ⊢
    rw [kw 2 (by unfold lay_w; omega), kw 10 (by unfold lay_w; omega), kw 11 (by unfold lay_w; omega), kw 12 (by unfold lay_w; omega), kw 13 (by unfold lay_w; omega), kw 14 (by unfold lay_w; omega), kw 15 (by unfold lay_w; omega)]
    exact l3
  · unfold rok at r ⊢
    rw [kw 3 (by unfold lay_w; omega), kw 25 (by unfold lay_w; omega), kw 18 (by unfold lay_w; omega)]
    exact r
  · unfold sgh at q ⊢
    rw [kw 4 (by unfold lay_w; omega), kw 26 (by unfold lay_w; omega), kw 27 (by unfold lay_w; omega), kw 28 (by unfold lay_w; omega), kw 29 (by unfold lay_w; omega)]
    exact q
/-- looks() of the model keeps the relation -/
theorem rL_looks {gC gM : cb_S} {w : Int} {n : Nat} {s : Nat → Int} {p : Nat} {d : Int} (h : rL gC gM w n s p d) : ∃ r g1, f_X9_looks gM = some (r, g1) ∧ mvw g1 w n s ∧ rL gC g1 w n s p d := by
  obtain ⟨a1, a2, a3, a4, a5, a6, a7, a8, a9, a10⟩ := h
  obtain ⟨r, g1, e, q1, q2, q3⟩ := q_looks a6 a2.2
  have k0 : ∀ t, t = 0 ∨ t = 1 ∨ t = 3 ∨ t = 4 ∨ t = 5 ∨ t = 29 → g1 0 t = gM 0 t := fun t ht => q2 t (by unfold ml0; omega)
  have kk : ∀ k, k ≠ 0 → (k < 6 ∨ 20 < k) → g1 k = gM k := fun k h1 h2 => q3 k (by unfold mlw; omega)
  refine ⟨r, g1, e, mlk_vw q1, a1, a2, a3, a4, a5, ln_M_keep a6 (k0 0 (by omega)) (k0 1 (by omega)) (kk 1 (by omega) (by omega)), by rw [k0 3 (by omega)]; exact a7, by rw [k0 4 (by omega)]; exact a8, hist_keep a9 rfl (fun _ _ => rfl) (k0 5 (by omega)) (fun k h1 h2 => kk k (by omega) (by omega)), pcs_keep a10 rfl rfl rfl (k0 29 (by omega)) (kk 21 (by omega) (by omega)) (kk 22 (by omega) (by omega))⟩
/-- the caret moved on both sides -/
theorem rL_move {gC gM : cb_S} {w : Int} {n : Nat} {s : Nat → Int} {p : Nat} {d : Int} (h : rL gC gM w n s p d) {p2 : Nat} {d2 : Int} (hc : cst n s p2 d2) : rL (cb_u (cb_u gC 5 2 (p2 : Int)) 5 3 d2) (cb_u (cb_u gM 0 3 (p2 : Int)) 0 4 d2) w n s p2 d2 := by
  obtain ⟨a1, a2, a3, a4, a5, a6, a7, a8, a9, a10⟩ := h
  have kC : ∀ k, k ≠ 5 → (cb_u (cb_u gC 5 2 (p2 : Int)) 5 3 d2) k = gC k := fun k hk => by rw [cb_u_other _ _ _ hk, cb_u_other _ _ _ hk]
  have kM : ∀ k, k ≠ 0 → (cb_u (cb_u gM 0 3 (p2 : Int)) 0 4 d2) k = gM k := fun k hk => by rw [cb_u_other _ _ _ hk, cb_u_other _ _ _ hk]
  have kM0 : ∀ t, t ≠ 3 → t ≠ 4 → (cb_u (cb_u gM 0 3 (p2 : Int)) 0 4 d2) 0 t = gM 0 t := fun t h1 h2 => by rw [cb_u_ne _ _ _ _ h2, cb_u_ne _ _ _ _ h1]
  refine ⟨laid_keep a1 (fun k hk => kC k (by unfold lay_w at hk; omega)), a2, by rw [cb_u_ne _ _ _ _ (by decide), cb_u_same], cb_u_same _ _ _ _, hc, ln_M_keep a6 (kM0 0 (by decide) (by decide)) (kM0 1 (by decide) (by decide)) (kM 1 (by decide)), by rw [cb_u_ne _ _ _ _ (by decide), cb_u_same], cb_u_same _ _ _ _, hist_keep a9 (kC 7 (by decide)) (fun k hk => kC k (by omega)) (kM0 5 (by decide) (by decide)) (fun k h1 h2 => kM k (by omega)), pcs_keep a10 (kC 6 (by decide)) (kC 30 (by decide)) (kC 31 (by decide)) (kM0 29 (by decide) (by decide)) (kM 21 (by decide)) (kM 22 (by decide))⟩
theorem c_at9 {g : cb_S} {w : Int} {n : Nat} {s : Nat → Int} (h : ln_C g w n s) {x : Int} (hx : cb_i x) : v_X3_at g x = some (if 0 ≤ x ∧ x < (n : Int) then s x.toNat else -1) := by
  obtain ⟨e1, e2, hn, hs, hb, hw⟩ := h
  unfold v_X3_at v_X3_has
  rw [e1, cb_wn (n := n) (by omega), cb_id hx.1 hx.2]
  by_cases h0 : x < 0
  · rw [if_pos h0, Option.bind_some, if_pos (by decide), if_neg (show ¬ (0 ≤ x ∧ x < (n : Int)) by omega)]
  · rw [if_neg h0]
    by_cases h1 : (n : Int) ≤ x
    · rw [if_pos h1, Option.bind_some, if_pos (by decide), if_neg (show ¬ (0 ≤ x ∧ x < (n : Int)) by omega)]
    · rw [if_neg h1, Option.bind_some, if_neg (by decide), if_pos (by omega), if_pos (by omega), hs _ (by omega)]
theorem o4 : lw_o4 Rel := by
  intro gC gM hR x hx
  obtain ⟨w, n, s, p, d, h⟩ := hR
  obtain ⟨e1, e2, hn, hs, hb, hw⟩ := id h.2.2.2.2.2.1
  refine ⟨if 0 ≤ x ∧ x < (n : Int) then s x.toNat else -1, if 0 ≤ x ∧ x < (n : Int) then s x.toNat else -1, gM, ?_, ?_, rfl, rfl, ⟨w, n, s, p, d, h⟩⟩
  · unfold v_X8_sign
    rw [c_at9 h.1.1.1 hx, Option.bind_some]
  · unfold v_X9_sign
    rw [e1, cb_wn (n := n) (by omega), cb_id hx.1 hx.2]
    by_cases h0 : x < 0
    · rw [if_pos h0, if_neg (by omega)]
    · rw [if_neg h0]
      by_cases h1 : (n : Int) ≤ x
      · rw [if_pos h1, if_neg (by omega)]
      · rw [if_neg h1, if_pos (by omega), if_pos (by omega), hs _ (by omega)]
theorem o5 : lw_o5 Rel := by
  intro gC gM hR x hx
  obtain ⟨w, n, s, p, d, h⟩ := hR
  obtain ⟨e1, e2, hn, hs, hb, hw⟩ := id h.2.2.2.2.2.1
  obtain ⟨r, g1, l1, l2, l3⟩ := rL_looks h
  have hc : v_X8_level gC x = some (if 0 ≤ x ∧ x < (n : Int) then LV w n s x.toNat else -1) := by
    unfold v_X8_level v_X3_has
    rw [h.1.1.1.1, cb_wn (n := n) (by omega), cb_id hx.1 hx.2]
    by_cases h0 : x < 0
    · rw [if_pos h0, Option.bind_some, if_pos (by decide), if_neg (show ¬ (0 ≤ x ∧ x < (n : Int)) by omega)]
    · rw [if_neg h0]
      by_cases h1 : (n : Int) ≤ x
      · rw [if_pos h1, Option.bind_some, if_pos (by decide), if_neg (show ¬ (0 ≤ x ∧ x < (n : Int)) by omega)]
      · rw [if_neg h1, Option.bind_some, if_neg (by decide), if_pos (by omega)]
        unfold v_X5_levelOf
        rw [v_val (by decide) hx, Option.bind_some, Option.bind_some, if_pos (by omega), h.1.2.1.2.2.1 _ (by omega)]
  by_cases hin : 0 ≤ x ∧ x < (n : Int)
  · refine ⟨_, _, g1, hc, ?_, rfl, ⟨w, n, s, p, d, l3⟩⟩
    unfold f_X9_level
    rw [e1, cb_wn (n := n) (by omega), cb_id hx.1 hx.2, if_neg (by omega), if_pos (by omega), l1, cb_b_some, if_pos (by omega), if_pos hin, l2.2.2.2.1 _ (by omega)]
  · refine ⟨_, _, gM, hc, ?_, rfl, ⟨w, n, s, p, d, h⟩⟩
    unfold f_X9_level
    rw [e1, cb_wn (n := n) (by omega), cb_id hx.1 hx.2, if_neg hin]
    by_cases h0 : x < 0
    · rw [if_pos h0]
    · rw [if_neg h0, if_neg (by omega)]
theorem o6 : lw_o6 Rel := by
  intro gC gM hR x y hx hy
  obtain ⟨w, n, s, p, d, h⟩ := hR
  obtain ⟨e1, e2, hn, hs, hb, hw⟩ := id h.2.2.2.2.2.1
  obtain ⟨r, g1, l1, l2, l3⟩ := rL_looks h
  obtain ⟨m1, m2, m3, m4, m5, m6, m7⟩ := id l2
  have cv := laid_vw h.1
  have hcn := cn_le (n := n) (s := s) n
  have key : ∀ v : Int, v_X8_cluster gC x y = some v → f_X9_cluster gM x y = some (v, g1) → ∃ r r2 gM2, v_X8_cluster gC x y = some r ∧ f_X9_cluster gM x y = some (r2, gM2) ∧ cb_w r = cb_w r2 ∧ Rel gC gM2 := fun v a b => ⟨v, v, g1, a, b, rfl, ⟨w, n, s, p, d, l3⟩⟩
  by_cases hin : 0 ≤ x ∧ x < (cn n s n : Int)
  · obtain ⟨k, hk, rfl⟩ : ∃ k : Nat, k < cn n s n ∧ x = (k : Int) := ⟨x.toNat, by omega, by omega⟩
    have hf := fs_ok hk
    have e0 : LV w n s (fs n s k) = CL w n s k := rfl
    by_cases y0 : y = 0
    · refine key ((fs n s k : Int)) ?_ ?_
      · unfold v_X8_cluster; rw [c_has1 cv hk, Option.bind_some, if_neg (by decide), cb_id hy.1 hy.2, if_pos y0, c_first cv hk, Option.bind_some]
      · unfold f_X9_cluster; rw [l1, cb_b_some, m1.1, cb_wn (n := cn n s n) (by omega), cb_wn (n := k) (by omega), cb_id hy.1 hy.2, if_neg (show ¬ (k : Int) < 0 by omega), if_pos (show (k : Int) < (cn n s n : Int) by omega), if_pos y0, if_pos (by omega), Int.toNat_natCast, (m1.2 k hk).1]
    by_cases y1 : y = 1
    · refine key ((es n s k : Int) - (fs n s k : Int)) ?_ ?_
      · unfold v_X8_cluster; rw [c_has1 cv hk, Option.bind_some, if_neg (by decide), cb_id hy.1 hy.2, if_neg y0, if_pos y1, c_end cv hk, Option.bind_some, c_first cv hk, Option.bind_some]
      · unfold f_X9_cluster; rw [l1, cb_b_some, m1.1, cb_wn (n := cn n s n) (by omega), cb_wn (n := k) (by omega), cb_id hy.1 hy.2, if_neg (show ¬ (k : Int) < 0 by omega), if_pos (show (k : Int) < (cn n s n : Int) by omega), if_neg y0, if_pos y1, if_pos (by omega), Int.toNat_natCast, (m1.2 k hk).2.1]
    by_cases y2 : y = 2
    · refine key (CL w n s k) ?_ ?_
      · unfold v_X8_cluster; rw [c_has1 cv hk, Option.bind_some, if_neg (by decide), cb_id hy.1 hy.2, if_neg y0, if_neg y1, if_pos y2, c_lev cv hk, Option.bind_some]
      · unfold f_X9_cluster; rw [l1, cb_b_some, m1.1, cb_wn (n := cn n s n) (by omega), cb_wn (n := k) (by omega), cb_id hy.1 hy.2, if_neg (show ¬ (k : Int) < 0 by omega), if_pos (show (k : Int) < (cn n s n : Int) by omega), if_neg y0, if_neg y1, if_pos y2, if_pos (by omega), Int.toNat_natCast, (m1.2 k hk).1, cb_wn (n := fs n s k) (by omega), if_pos (by omega), Int.toNat_natCast, m4 _ hf.2.2, e0]
    by_cases y3 : y = 3
    · refine key (XL w n s k) ?_ ?_
      · unfold v_X8_cluster; rw [c_has1 cv hk, Option.bind_some, if_neg (by decide), cb_id hy.1 hy.2, if_neg y0, if_neg y1, if_neg y2, if_pos y3, c_left cv hk, Option.bind_some]
      · unfold f_X9_cluster; rw [l1, cb_b_some, m1.1, cb_wn (n := cn n s n) (by omega), cb_wn (n := k) (by omega), cb_id hy.1 hy.2, if_neg (show ¬ (k : Int) < 0 by omega), if_pos (show (k : Int) < (cn n s n : Int) by omega), if_neg y0, if_neg y1, if_neg y2, if_pos y3, if_pos (by omega), Int.toNat_natCast, (m3 k hk).2.1]
    by_cases y4 : y = 4
    · refine key (wd n s (fs n s k)) ?_ ?_
      · unfold v_X8_cluster; rw [c_has1 cv hk, Option.bind_some, if_neg (by decide), cb_id hy.1 hy.2, if_neg y0, if_neg y1, if_neg y2, if_neg y3, if_pos y4, c_width cv hk, Option.bind_some]
      · unfold f_X9_cluster; rw [l1, cb_b_some, m1.1, cb_wn (n := cn n s n) (by omega), cb_wn (n := k) (by omega), cb_id hy.1 hy.2, if_neg (show ¬ (k : Int) < 0 by omega), if_pos (show (k : Int) < (cn n s n : Int) by omega), if_neg y0, if_neg y1, if_neg y2, if_neg y3, if_pos y4, if_pos (by omega), Int.toNat_natCast, (m3 k hk).1]
    by_cases y5 : y = 5
    · refine key (bI (jn n s (fs n s k + 1))) ?_ ?_
      · unfold v_X8_cluster; rw [c_has1 cv hk, Option.bind_some, if_neg (by decide), cb_id hy.1 hy.2, if_neg y0, if_neg y1, if_neg y2, if_neg y3, if_neg y4, if_pos y5, c_joined cv hk, Option.bind_some]
        cases jn n s (fs n s k + 1) <;> rfl
      · unfold f_X9_cluster; rw [l1, cb_b_some, m1.1, cb_wn (n := cn n s n) (by omega), cb_wn (n := k) (by omega), cb_id hy.1 hy.2, if_neg (show ¬ (k : Int) < 0 by omega), if_pos (show (k : Int) < (cn n s n : Int) by omega), if_neg y0, if_neg y1, if_neg y2, if_neg y3, if_neg y4, if_pos y5, if_pos (by omega), Int.toNat_natCast, (m1.2 k hk).2.2]
        cases jn n s (fs n s k + 1) <;> rfl
    by_cases y6 : y = 6
    · refine key ((PL w n s k : Int)) ?_ ?_
      · unfold v_X8_cluster; rw [c_has1 cv hk, Option.bind_some, if_neg (by decide), cb_id hy.1 hy.2, if_neg y0, if_neg y1, if_neg y2, if_neg y3, if_neg y4, if_neg y5, if_pos y6, c_place cv hk, Option.bind_some]
      · unfold f_X9_cluster; rw [l1, cb_b_some, m1.1, cb_wn (n := cn n s n) (by omega), cb_wn (n := k) (by omega), cb_id hy.1 hy.2, if_neg (show ¬ (k : Int) < 0 by omega), if_pos (show (k : Int) < (cn n s n : Int) by omega), if_neg y0, if_neg y1, if_neg y2, if_neg y3, if_neg y4, if_neg y5, if_pos y6, if_pos (by omega), Int.toNat_natCast, (m3 k hk).2.2.1]
    exact key (-1) (by unfold v_X8_cluster; rw [c_has1 cv hk, Option.bind_some, if_neg (by decide), cb_id hy.1 hy.2, if_neg y0, if_neg y1, if_neg y2, if_neg y3, if_neg y4, if_neg y5, if_neg y6]) (by unfold f_X9_cluster; rw [l1, cb_b_some, m1.1, cb_wn (n := cn n s n) (by omega), cb_wn (n := k) (by omega), cb_id hy.1 hy.2, if_neg (show ¬ (k : Int) < 0 by omega), if_pos (show (k : Int) < (cn n s n : Int) by omega), if_neg y0, if_neg y1, if_neg y2, if_neg y3, if_neg y4, if_neg y5, if_neg y6])
  · refine key (-1) ?_ ?_
    · unfold v_X8_cluster
      rw [c_has cv hx, Option.bind_some, decide_eq_false hin, bI_f, if_pos (by decide)]
    · unfold f_X9_cluster
      rw [l1, cb_b_some, m1.1, cb_wn (n := cn n s n) (by omega), cb_id hx.1 hx.2]
      by_cases h0 : x < 0
      · rw [if_pos h0]
      · rw [if_neg h0, if_neg (by omega)]
theorem o7 : lw_o7 Rel := by
  intro gC gM hR x hx
  obtain ⟨w, n, s, p, d, h⟩ := hR
  obtain ⟨e1, e2, hn, hs, hb, hw⟩ := id h.2.2.2.2.2.1
  obtain ⟨r, g1, l1, l2, l3⟩ := rL_looks h
  obtain ⟨m1, m2, m3, m4, m5, m6, m7⟩ := id l2
  have cv := laid_vw h.1
  have hcn := cn_le (n := n) (s := s) n
  have key : ∀ v : Int, v_X8_seen gC x = some v → f_X9_seen gM x = some (v, g1) → ∃ r r2 gM2, v_X8_seen gC x = some r ∧ f_X9_seen gM x = some (r2, gM2) ∧ cb_w r = cb_w r2 ∧ Rel gC gM2 := fun v a b => ⟨v, v, g1, a, b, rfl, ⟨w, n, s, p, d, l3⟩⟩
  by_cases hin : 0 ≤ x ∧ x < (cn n s n : Int)
  · obtain ⟨k, k1, k2, k3⟩ := PL_OR (w := w) (n := n) (s := s) (v := x.toNat) (by omega)
    have hf := fs_ok k1
    have e0 : LV w n s (fs n s k) = CL w n s k := rfl
    have hcl := CL_b (n := n) (s := s) hw hn k1
    have hsb := hb _ hf.2.2
    have hC : v_X8_seen gC x = some (if CL w n s k % 2 = 0 then s (fs n s k) else if s (fs n s k) = 40 then 41 else if s (fs n s k) = 41 then 40 else if s (fs n s k) = 60 then 62 else if s (fs n s k) = 62 then 60 else s (fs n s k)) := by
      unfold v_X8_seen
      rw [c_at cv hx, if_pos hin, k2, Option.bind_some, cb_wn (n := k) (by omega), if_neg (by omega), c_first cv k1, Option.bind_some, c_at9 h.1.1.1 ⟨by omega, by omega⟩, Option.bind_some, if_pos (by omega), Int.toNat_natCast, c_lev cv k1, Option.bind_some, c_even ⟨by omega, by omega⟩, Option.bind_some]
      by_cases z : CL w n s k % 2 = 0
      · rw [decide_eq_true z, bI_t, if_neg (by decide), if_pos z]
      · rw [decide_eq_false z, bI_f, if_pos (by decide), if_neg z]
        unfold v_X7_mateOf
        rw [cb_id (x := s (fs n s k)) (by omega) (by omega)]
        repeat' split
        all_goals rfl
    refine key _ hC ?_
    have m11 := (m1.2 k k1).1
    have m18 := m7.2.2.2.1 _ hf.2.2
    have m20 : g1 20 x.toNat = (k : Int) := by rw [(m3 x.toNat (by omega)).2.2.2, k2]
    unfold f_X9_seen
    rw [l1, cb_b_some, m1.1, cb_wn (n := cn n s n) (by omega), cb_id hx.1 hx.2, if_neg (by omega), if_pos (by omega), if_pos (by omega), m20, cb_wn (n := k) (by omega), if_pos (by omega), Int.toNat_natCast, m11, cb_wn (n := fs n s k) (by omega), if_pos (by omega), if_pos (by omega), if_pos (by omega), if_pos (by omega), Int.toNat_natCast, m4 _ hf.2.2, e0, cb_id (x := CL w n s k) (by omega) (by omega), Int.tmod_eq_emod_of_nonneg hcl.1, cb_id (x := CL w n s k % 2) (by omega) (by omega), m18, cb_id (x := s (fs n s k)) (by omega) (by omega)]
    repeat' split
    all_goals rfl
  · refine key (-1) ?_ ?_
    · unfold v_X8_seen
      rw [c_at cv hx, if_neg hin, Option.bind_some, if_pos (by decide)]
    · unfold f_X9_seen
      rw [l1, cb_b_some, m1.1, cb_wn (n := cn n s n) (by omega), cb_id hx.1 hx.2]
      by_cases h0 : x < 0
      · rw [if_pos h0]
      · rw [if_neg h0, if_neg (by omega)]
theorem o15 : lw_o15 Rel := by
  intro gC gM hR x y hx hy
  obtain ⟨w, n, s, p, d, h⟩ := hR
  obtain ⟨m, q1, q2, q3, q4⟩ := h.2.2.2.2.2.2.2.2.2
  have key : ∀ v : Int, v_X8_piece gC x y = some v → v_X9_piece gM x y = some v → ∃ r r2 gM2, v_X8_piece gC x y = some r ∧ v_X9_piece gM x y = some r2 ∧ gM2 = gM ∧ cb_w r = cb_w r2 ∧ Rel gC gM2 := fun v a b => ⟨v, v, gM, a, b, rfl, rfl, ⟨w, n, s, p, d, h⟩⟩
  have hl : v_X4_leftOf gC x = some (if 0 ≤ x ∧ x < (m : Int) then gM 21 x.toNat else -1) := by
    unfold v_X4_leftOf
    rw [q2, cb_wn (n := m) (by omega), cb_id hx.1 hx.2, v_val (by decide) hx, Option.bind_some]
    by_cases h1 : (m : Int) ≤ x
    · rw [if_pos h1, if_neg (by omega)]
    · rw [if_neg h1]
      by_cases h0 : 0 ≤ x
      · rw [if_pos (by omega), if_pos (by omega), (q4 _ (by omega)).1]
      · rw [if_neg (by omega), if_neg (by omega)]
  have hr : v_X4_rightOf gC x = some (if 0 ≤ x ∧ x < (m : Int) then gM 22 x.toNat else -1) := by
    unfold v_X4_rightOf
    rw [q2, cb_wn (n := m) (by omega), cb_id hx.1 hx.2, v_val (by decide) hx, Option.bind_some]
    by_cases h1 : (m : Int) ≤ x
    · rw [if_pos h1, if_neg (by omega)]
    · rw [if_neg h1]
      by_cases h0 : 0 ≤ x
      · rw [if_pos (by omega), if_pos (by omega), (q4 _ (by omega)).2]
      · rw [if_neg (by omega), if_neg (by omega)]
  have hC : v_X8_piece gC x y = some (if 0 ≤ x ∧ x < (m : Int) then (if y = 0 then gM 21 x.toNat else if y = 1 then gM 22 x.toNat else -1) else -1) := by
    unfold v_X8_piece
    rw [cb_id hy.1 hy.2, hl, hr, Option.bind_some, Option.bind_some]
    by_cases hin : 0 ≤ x ∧ x < (m : Int)
    · rw [if_pos hin, if_pos hin, if_pos hin]
      repeat' split
      all_goals rfl
    · rw [if_neg hin, if_neg hin, if_neg hin]
      repeat' split
      all_goals rfl
  refine key _ hC ?_
  unfold v_X9_piece
  rw [q3, cb_wn (n := m) (by omega), cb_id hx.1 hx.2, cb_id hy.1 hy.2]
  by_cases h0 : x < 0
  · rw [if_pos h0, if_neg (by omega)]
  · rw [if_neg h0]
    by_cases h1 : x < (m : Int)
    · rw [if_pos h1, if_pos (show 0 ≤ x ∧ x < (m : Int) by omega), if_pos (show 0 ≤ x ∧ x < ((64 : Nat) : Int) by omega)]
      repeat' split
      all_goals first | rfl | (exfalso; omega)
    · rw [if_neg h1, if_neg (by omega)]
theorem o0 : lw_o0 Rel := by
  intro gC gM hR x hx
  obtain ⟨w, n, s, p, d, h⟩ := hR
  obtain ⟨a1, a2, a3, a4, a5, a6, a7, a8, a9, a10⟩ := id h
  have key : (x = 0 ∨ x = 1) → ∃ r gC2 r2 gM2, f_X8_way_b11 x gC = some (r, gC2) ∧ f_X9_way_b11 x gM = some (r2, gM2) ∧ cb_w r = cb_w r2 ∧ Rel gC2 gM2 := by
    intro h01
    obtain ⟨l1, l2, l3, l4, l5, l6⟩ := id a1.1.1
    have hl : ln_C (cb_u gC 1 2 x) x n s := ⟨by rw [cb_u_ne _ _ _ _ (by decide)]; exact l1, cb_u_same _ _ _ _, l3, by rw [cb_u_other _ _ _ (by decide)]; exact l4, l5, h01⟩
    obtain ⟨r, g2, e, q1, q2⟩ := p_layOut hl a2.2
    have kC : ∀ k, ¬ lay_w k → k ≠ 1 → g2 k = gC k := fun k h1 h2 => by rw [q2 k h1, cb_u_other _ _ _ h2]
    refine ⟨w, g2, w, cb_u gM 0 0 x, ?_, ?_, rfl, ⟨x, n, s, p, d, q1, a2, ?_, ?_, a5, ?_, ?_, ?_, ?_, ?_⟩⟩
    · unfold f_X8_way_b11 v_X3_base f_X3_turnTo
      rw [Option.bind_some, cb_b_some, e, cb_b_some, l2]
    · unfold f_X9_way_b11
      rw [a6.2.1]
    · rw [kC 5 (by unfold lay_w; omega) (by decide)]; exact a3
    · rw [kC 5 (by unfold lay_w; omega) (by decide)]; exact a4
    · obtain ⟨b1, b2, b3, b4, b5, b6⟩ := a6
      exact ⟨by rw [cb_u_ne _ _ _ _ (by decide)]; exact b1, cb_u_same _ _ _ _, b3, by rw [cb_u_other _ _ _ (by decide)]; exact b4, b5, h01⟩
    · rw [cb_u_ne _ _ _ _ (by decide)]; exact a7
    · rw [cb_u_ne _ _ _ _ (by decide)]; exact a8
    · exact hist_keep a9 (kC 7 (by unfold lay_w; omega) (by decide)) (fun k hk => kC k (by unfold lay_w; omega) (by omega)) (cb_u_ne _ _ _ _ (by decide)) (fun k h1 h2 => cb_u_other _ _ _ (by omega))
    · exact pcs_keep a10 (kC 6 (by unfold lay_w; omega) (by decide)) (kC 30 (by unfold lay_w; omega) (by decide)) (kC 31 (by unfold lay_w; omega) (by decide)) (cb_u_ne _ _ _ _ (by decide)) (cb_u_other _ _ _ (by decide)) (cb_u_other _ _ _ (by decide))
  unfold f_X8_way f_X9_way
  rw [cb_id hx.1 hx.2]
  by_cases h0 : x = 0
  · rw [if_pos h0, if_pos h0]
    exact key (Or.inl h0)
  · rw [if_neg h0, if_neg h0]
    by_cases h1 : x = 1
    · rw [if_pos h1, if_pos h1]
      exact key (Or.inr h1)
    · rw [if_neg h1, if_neg h1]
      exact ⟨-1, gC, -1, gM, rfl, rfl, rfl, ⟨w, n, s, p, d, h⟩⟩
