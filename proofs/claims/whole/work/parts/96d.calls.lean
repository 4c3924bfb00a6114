/-! the calls that strike -/
theorem o19 : lw_o19 Rel := by
  intro gC gM hR x y hx hy
  obtain ⟨w, n, s, p, d, h⟩ := hR
  obtain ⟨r0, g1, l1, l2, l3⟩ := rL_looks h
  obtain ⟨a1, a2, a3, a4, a5, a6, a7, a8, a9, a10⟩ := id l3
  have cv := laid_vw a1
  obtain ⟨c1, c2, c3, c4, c5, c6, c7, hn, hw, hcl, c11⟩ := id cv
  have z01 : ¬ cb_w 1 = 0 := by decide
  have z00 : cb_w 0 = 0 := by decide
  have no : f_X8_cut gC x y = some (-1, gC) → f_X9_cut gM x y = some (-1, g1) → ∃ r gC2 r2 gM2, f_X8_cut gC x y = some (r, gC2) ∧ f_X9_cut gM x y = some (r2, gM2) ∧ cb_w r = cb_w r2 ∧ Rel gC2 gM2 := fun e1 e2 => ⟨-1, gC, -1, g1, e1, e2, rfl, ⟨w, n, s, p, d, l3⟩⟩
  have hC : f_X8_cut gC x y = if isS n s x = true ∧ isS n s y = true then cb_b (f_X8_strike gC (if x ≤ y then x else y) (if x < y then y else x) 0) (fun r3 g3 => some (r3, g3)) else some (-1, gC) := by
    unfold f_X8_cut
    rw [c_isS hcl c5 hn hx, Option.bind_some, c_isS hcl c5 hn hy, Option.bind_some, cb_id hx.1 hx.2, cb_id hy.1 hy.2]
    cases isS n s x with
    | false => rw [bI_f, if_pos z00, if_neg (show ¬ (false = true ∧ isS n s y = true) from fun z => by cases z.1)]
    | true =>
      rw [bI_t, if_neg z01]
      cases isS n s y with
      | false => rw [bI_f, if_pos z00, if_neg (show ¬ (true = true ∧ false = true) from fun z => by cases z.2)]
      | true => rw [bI_t, if_neg z01, if_pos (show true = true ∧ true = true from ⟨rfl, rfl⟩)]
  have hM : f_X9_cut gM x y = if isS n s x = true ∧ isS n s y = true then (if y ≤ x then f_X9_cut_b57 x y y g1 else f_X9_cut_b57 x y x g1) else some (-1, g1) := by
    unfold f_X9_cut
    rw [l1, cb_b_some, a6.1, m_isS l2.1 a6.1 hn hx, Option.bind_some, m_isS l2.1 a6.1 hn hy, Option.bind_some, cb_id hx.1 hx.2, cb_id hy.1 hy.2, cb_wn (n := n) (by omega)]
    cases hSx : isS n s x with
    | false =>
      rw [bI_f, if_pos z00, if_neg (show ¬ (false = true ∧ isS n s y = true) from fun z => by cases z.1)]
      repeat' split
      all_goals rfl
    | true =>
      have hle := isS_le hSx
      rw [bI_t, if_neg z01, if_neg (show ¬ x < 0 by omega), if_neg (show ¬ (n : Int) < x by omega)]
      cases hSy : isS n s y with
      | false =>
        rw [bI_f, if_pos z00, if_neg (show ¬ (true = true ∧ false = true) from fun z => by cases z.2)]
        repeat' split
        all_goals rfl
      | true =>
        have hle2 := isS_le hSy
        rw [bI_t, if_neg z01, if_neg (show ¬ y < 0 by omega), if_neg (show ¬ (n : Int) < y by omega), if_pos (show true = true ∧ true = true from ⟨rfl, rfl⟩)]
  by_cases ok : isS n s x = true ∧ isS n s y = true
  · have hle := isS_le ok.1
    have hle2 := isS_le ok.2
    rw [hC, hM, if_pos ok, if_pos ok]
    unfold f_X9_cut_b57 f_X9_cut_b67
    rw [cb_id hx.1 hx.2, cb_id hy.1 hy.2]
    have go : ∀ a b : Nat, a ≤ b → b ≤ n → ∃ r gC2 r2 gM2, cb_b (f_X8_strike gC (a : Int) (b : Int) 0) (fun r3 g3 => some (r3, g3)) = some (r, gC2) ∧ cb_b (f_X9_strikes g1 (a : Int) (b : Int) 0) (fun r3 g3 => some (r3, g3)) = some (r2, gM2) ∧ cb_w r = cb_w r2 ∧ Rel gC2 gM2 := by
      intro a b hab hbn
      obtain ⟨r, gC2, r2, gM2, e1, e2, e3, e4, q, e5, e6⟩ := j_strike l3 hab hbn (e := 0) (Or.inl rfl)
      rw [e1, e2, cb_b_some, cb_b_some]
      exact ⟨_, _, _, _, rfl, rfl, by rw [e3, e4], ⟨_, _, _, _, _, e6⟩⟩
    by_cases e : y ≤ x
    · have g := go y.toNat x.toNat (by omega) (by omega)
      rw [show ((y.toNat : Nat) : Int) = y by omega, show ((x.toNat : Nat) : Int) = x by omega] at g
      rw [if_pos e, if_pos e]
      by_cases e2 : x = y
      · subst e2
        rw [if_pos (Int.le_refl _), if_neg (Int.lt_irrefl _)]
        exact g
      · rw [if_neg (show ¬ x ≤ y by omega), if_neg (show ¬ x < y by omega)]
        exact g
    · have g := go x.toNat y.toNat (by omega) (by omega)
      rw [show ((y.toNat : Nat) : Int) = y by omega, show ((x.toNat : Nat) : Int) = x by omega] at g
      rw [if_neg e, if_neg e, if_pos (show x ≤ y by omega), if_pos (show x < y by omega)]
      exact g
  · exact no (by rw [hC, if_neg ok]) (by rw [hM, if_neg ok])
theorem o17 : lw_o17 Rel := by
  intro gC gM hR
  obtain ⟨w, n, s, p, d, h⟩ := hR
  obtain ⟨r0, g1, l1, l2, l3⟩ := rL_looks h
  obtain ⟨a1, a2, a3, a4, a5, a6, a7, a8, a9, a10⟩ := id l3
  have cv := laid_vw a1
  obtain ⟨c1, c2, c3, c4, c5, c6, c7, hn, hw, hcl, c11⟩ := id cv
  have hcn := cn_le (n := n) (s := s) n
  have hp := isS_le a5.1
  have r1 := hh_r n s hn (p : Int)
  have r2 := bg_r n s hn (p : Int)
  have go : ∀ k : Nat, k < cn n s n → p ≠ n → ∃ r gC2 r2 gM2, ((v_X1_firstOf gC (k : Int)).bind (fun r3 => (v_X1_endOf gC (k : Int)).bind (fun r4 => cb_b (f_X8_strike gC r3 r4 0) (fun r5 g5 => some (r5, g5))))) = some (r, gC2) ∧ f_X9_ahead_b34 (k : Int) g1 = some (r2, gM2) ∧ cb_w r = cb_w r2 ∧ Rel gC2 gM2 := by
    intro k hk hpn
    have he := es_ok hk
    obtain ⟨r, gC2, r2, gM2, e1, e2, e3, e4, q, e5, e6⟩ := j_strike l3 (a := fs n s k) (b := es n s k) (by omega) (by omega) (e := 0) (Or.inl rfl)
    unfold f_X9_ahead_b34
    rw [c_first cv hk, Option.bind_some, c_end cv hk, Option.bind_some, e1, cb_b_some, a7, a6.1, cb_wn (n := p) (by omega), cb_wn (n := n) (by omega), if_neg (by omega), cb_wn (n := k) (by omega), if_pos (by omega), if_pos (by omega), if_pos (by omega), Int.toNat_natCast, (l2.1.2 k hk).1, (l2.1.2 k hk).2.1, show (fs n s k : Int) + ((es n s k : Int) - (fs n s k : Int)) = (es n s k : Int) by omega, e2, cb_b_some]
    exact ⟨_, _, _, _, rfl, rfl, by rw [e3, e4], ⟨_, _, _, _, _, e6⟩⟩
  unfold f_X8_ahead f_X9_ahead v_X0_stand
  rw [l1, cb_b_some, Option.bind_some, a3, a7, c_aB hcl hn ⟨by omega, by omega⟩, Option.bind_some, m_isB l2.1 a6.1 hn ⟨by omega, by omega⟩, Option.bind_some, m_hh l2.1 hn ⟨by omega, by omega⟩, Option.bind_some, m_bg l2.1 hn ⟨by omega, by omega⟩, Option.bind_some]
  by_cases z : hh n s (p : Int) = -1
  · have hB : isB n s (p : Int) = true := by
      rcases isS_iff.mp a5.1 with q | q
      · exact q
      · exact absurd z q
    rw [if_pos z, hB, bI_t, if_neg (show ¬ cb_w 1 = 0 by decide)]
    by_cases b : bg n s (p : Int) = -1
    · have hpn : p = n := by
        by_cases q : (p : Int) = (n : Int)
        · omega
        · rw [isB_bg q, decide_eq_false (fun y => y b)] at hB
          cases hB
      rw [b, if_pos (show cb_w (-1) = -1 by decide)]
      unfold f_X9_ahead_b34
      rw [a7, a6.1, hpn, if_pos rfl]
      exact ⟨0, gC, 0, g1, rfl, rfl, rfl, ⟨w, n, s, p, d, l3⟩⟩
    · obtain ⟨k, k1, k2, k3⟩ := bg_ex b
      have hf := fs_ok k1
      rw [k3, cb_wn (n := k) (by omega), if_neg (show ¬ (k : Int) = -1 by omega)]
      exact go k k1 (by omega)
  · obtain ⟨k, k1, k2, k3, k4, k5⟩ := hh_ex z
    rw [if_neg z, hh_isB z, bI_f, if_pos (show cb_w 0 = 0 by decide), k3, cb_wn (n := k) (by omega), if_neg (show ¬ (k : Int) = -1 by omega)]
    exact go k k1 (by omega)
theorem o16 : lw_o16 Rel := by
  intro gC gM hR
  obtain ⟨w, n, s, p, d, h⟩ := hR
  obtain ⟨r0, g1, l1, l2, l3⟩ := rL_looks h
  obtain ⟨a1, a2, a3, a4, a5, a6, a7, a8, a9, a10⟩ := id l3
  have cv := laid_vw a1
  obtain ⟨c1, c2, c3, c4, c5, c6, c7, hn, hw, hcl, c11⟩ := id cv
  have hcn := cn_le (n := n) (s := s) n
  have hp := isS_le a5.1
  have r1 := hh_r n s hn (p : Int)
  have r2 := en_r n s hn (p : Int)
  have st : ∀ a b : Nat, a ≤ b → b ≤ n → ∃ r gC2 r2 gM2, f_X8_strike gC (a : Int) (b : Int) 1 = some (r, gC2) ∧ f_X9_strikes g1 (a : Int) (b : Int) 1 = some (r2, gM2) ∧ cb_w r = cb_w r2 ∧ Rel gC2 gM2 := by
    intro a b hab hbn
    obtain ⟨r, gC2, r2, gM2, e1, e2, e3, e4, q, e5, e6⟩ := j_strike l3 hab hbn (e := 1) (Or.inr rfl)
    exact ⟨_, _, _, _, e1, e2, by rw [e3, e4], ⟨_, _, _, _, _, e6⟩⟩
  unfold f_X8_back f_X9_back v_X0_stand
  rw [l1, cb_b_some, Option.bind_some, a3, a7, c_aA hcl hn ⟨by omega, by omega⟩, Option.bind_some, m_isB l2.1 a6.1 hn ⟨by omega, by omega⟩, Option.bind_some, m_hh l2.1 hn ⟨by omega, by omega⟩, Option.bind_some]
  unfold f_X9_back_b27
  rw [a7, cb_wn (n := p) (by omega)]
  by_cases z : hh n s (p : Int) = -1
  · have hB : isB n s (p : Int) = true := by
      rcases isS_iff.mp a5.1 with q | q
      · exact q
      · exact absurd z q
    rw [if_pos z, hB, bI_t, if_neg (show ¬ cb_w 1 = 0 by decide), if_pos (show cb_w (-1) = -1 by decide)]
    by_cases p0 : p = 0
    · have hen : en n s (p : Int) = -1 := by
        unfold en
        rw [if_neg (by omega)]
      rw [c_at9 a1.1.1 (x := (p : Int) - 1) ⟨by omega, by omega⟩, Option.bind_some, if_neg (show ¬ (0 ≤ (p : Int) - 1 ∧ (p : Int) - 1 < (n : Int)) by omega), v_isMark (b := -1) ⟨by omega, by omega⟩, Option.bind_some, if_neg (show ¬ ((-1 : Int) = 39 ∨ (-1 : Int) = 126) by omega), if_pos (show cb_w 0 = 0 by decide), hen, if_pos (show cb_w (-1) = -1 by decide), if_pos (show (p : Int) = 0 by omega)]
      exact ⟨0, gC, 0, g1, rfl, rfl, rfl, ⟨w, n, s, p, d, l3⟩⟩
    · have hsb := a2.1 (p - 1) (by omega)
      rw [if_neg (show ¬ (p : Int) = 0 by omega), show (p : Int) - 1 = ((p - 1 : Nat) : Int) by omega, c_at9 a1.1.1 ⟨by omega, by omega⟩, Option.bind_some, if_pos (show 0 ≤ ((p - 1 : Nat) : Int) ∧ ((p - 1 : Nat) : Int) < (n : Int) by omega), Int.toNat_natCast, v_isMark ⟨by omega, by omega⟩, Option.bind_some, cb_wn (n := p - 1) (by omega), if_pos (show 0 ≤ ((p - 1 : Nat) : Int) ∧ ((p - 1 : Nat) : Int) < ((64 : Nat) : Int) by omega), Int.toNat_natCast, a6.2.2.2.1 (p - 1) (by omega), m_isMark ⟨by omega, by omega⟩, Option.bind_some]
      by_cases hm : s (p - 1) = 39 ∨ s (p - 1) = 126
      · obtain ⟨r, gC2, r2, gM2, e1, e2, e3, e4⟩ := st (p - 1) p (by omega) (by omega)
        rw [if_pos hm, if_neg (show ¬ cb_w 1 = 0 by decide), if_neg (show ¬ cb_w 1 = 0 by decide), e1, e2, cb_b_some, cb_b_some]
        exact ⟨_, _, _, _, rfl, rfl, e3, e4⟩
      · have hen : en n s (p : Int) ≠ -1 := by
          have := isB_iff.mp hB
          have h9 := cn_pos (n := n) (s := s) (x := p) (by omega)
          unfold en
          rw [if_pos ⟨by omega, this.2.1, this.2.2⟩, Int.toNat_natCast]
          omega
        obtain ⟨k, k1, k2, k3⟩ := en_ex hen
        have he := es_ok k1
        obtain ⟨r, gC2, r2, gM2, e1, e2, e3, e4⟩ := st (fs n s k) (es n s k) (by omega) (by omega)
        have hpk : (p : Int) = (es n s k : Int) := k2
        rw [if_neg hm, if_pos (show cb_w 0 = 0 by decide), if_pos (show cb_w 0 = 0 by decide), m_en l2.1 hn ⟨by omega, by omega⟩, Option.bind_some, k3, cb_wn (n := k) (by omega), if_neg (show ¬ (k : Int) = -1 by omega), c_first cv k1, Option.bind_some, c_end cv k1, Option.bind_some, e1, cb_b_some, if_pos (show 0 ≤ (k : Int) ∧ (k : Int) < ((64 : Nat) : Int) by omega), Int.toNat_natCast, (l2.1.2 k k1).1, hpk, e2, cb_b_some]
        exact ⟨_, _, _, _, rfl, rfl, e3, e4⟩
  · obtain ⟨k, k1, k2, k3, k4, k5⟩ := hh_ex z
    have he := es_ok k1
    obtain ⟨r, gC2, r2, gM2, e1, e2, e3, e4⟩ := st (fs n s k) (es n s k) (by omega) (by omega)
    have hs1 : s (p - 1) = 94 := by
      have := ((jn_iff n s (fs n s k + 1)).mp k4).1
      rw [show p - 1 = fs n s k + 1 by omega]
      exact this
    rw [if_neg z, hh_isB z, bI_f, if_pos (show cb_w 0 = 0 by decide), k3, show (p : Int) - 1 = ((p - 1 : Nat) : Int) by omega, c_at9 a1.1.1 ⟨by omega, by omega⟩, Option.bind_some, if_pos (show 0 ≤ ((p - 1 : Nat) : Int) ∧ ((p - 1 : Nat) : Int) < (n : Int) by omega), Int.toNat_natCast, v_isMark ⟨by omega, by omega⟩, Option.bind_some, if_neg (show ¬ (s (p - 1) = 39 ∨ s (p - 1) = 126) by omega), if_pos (show cb_w 0 = 0 by decide), cb_wn (n := k) (by omega), if_neg (show ¬ (k : Int) = -1 by omega), if_neg (show ¬ (k : Int) = -1 by omega)]
    simp only [if_pos (show 0 ≤ (k : Int) ∧ (k : Int) < ((64 : Nat) : Int) by omega)]
    rw [Int.toNat_natCast, (l2.1.2 k k1).1, (l2.1.2 k k1).2.1, show (fs n s k : Int) + ((es n s k : Int) - (fs n s k : Int)) = (es n s k : Int) by omega, c_first cv k1, Option.bind_some, c_end cv k1, Option.bind_some, e1, e2, cb_b_some, cb_b_some]
    exact ⟨_, _, _, _, rfl, rfl, e3, e4⟩
theorem o2 : lw_o2 Rel := by
  intro gC gM hR
  obtain ⟨w, n, s, p, d, h⟩ := hR
  obtain ⟨a1, a2, a3, a4, a5, a6, a7, a8, a9, a10⟩ := id h
  have hn := a6.2.2.1
  have cz : ∀ (s2 : Nat → Int), cst 0 s2 0 0 := fun s2 => cst_B (isB_0 0 s2) (Or.inl rfl)
  -- settle at 0 of an empty line
  have cs : ∀ (g : cb_S) (s2 : Nat → Int), laid g w 0 s2 → f_X0_settle g 0 0 = some (0, cb_u (cb_u g 5 2 0) 5 3 0) := by
    intro g s2 hl
    have cv := laid_vw hl
    obtain ⟨c1, c2, c3, c4, c5, c6, c7, hn0, hw, hcl, c11⟩ := id cv
    have hup : upS 0 s2 (0 + 1 - 0) 0 = 0 := by
      show (if isS 0 s2 ((0 : Nat) : Int) = true then ((0 : Nat) : Int) else upS 0 s2 0 (0 + 1)) = 0
      rw [if_pos (show isS 0 s2 ((0 : Nat) : Int) = true from isS_iff.mpr (Or.inl (isB_0 0 s2)))]
      rfl
    have hcu := c_up hcl c5 hn0 (t := 0) (by omega)
    rw [hup] at hcu
    have hcu : v_X1_standFrom g 0 = some 0 := hcu
    have hpl := c_plB hcl hn0 (q := 0) (d := 0) (isB_0 0 s2)
    have hpl : f_X0_place g 0 0 = some (0, cb_u (cb_u g 5 2 0) 5 3 0) := hpl
    unfold f_X0_settle
    rw [hcu, Option.bind_some, if_pos rfl, hpl, cb_b_some]
  unfold f_X8_clear f_X8_strike f_X8_strike_b22 f_X9_clear f_X9_clear_b13 v_X3_length
  rw [Option.bind_some, a1.1.1.1, a6.1, cb_wn (n := n) (by omega), cb_w0]
  have fin : ∀ (gC1 gM1 gC2 : cb_S) (s2 : Nat → Int), rL gC1 gM1 w n s p d → laid gC2 w 0 s2 → (∀ k, ¬ lay_w k → k ≠ 1 → k ≠ 8 → gC2 k = gC1 k) → Rel (cb_u (cb_u gC2 5 2 0) 5 3 0) (cb_u (cb_u (cb_u gM1 0 1 0) 0 3 0) 0 4 0) := by
    intro gC1 gM1 gC2 s2 h1 hl hk
    obtain ⟨b1, b2, b3, b4, b5, b6, b7, b8, b9, b10⟩ := id h1
    have kC : ∀ k, k ≠ 5 → ¬ lay_w k → k ≠ 1 → k ≠ 8 → (cb_u (cb_u gC2 5 2 0) 5 3 0) k = gC1 k := fun k x y z u => by rw [cb_u_other _ _ _ x, cb_u_other _ _ _ x, hk k y z u]
    have kM0 : ∀ t, t ≠ 1 → t ≠ 3 → t ≠ 4 → (cb_u (cb_u (cb_u gM1 0 1 0) 0 3 0) 0 4 0) 0 t = gM1 0 t := fun t x y z => by rw [cb_u_ne _ _ _ _ z, cb_u_ne _ _ _ _ y, cb_u_ne _ _ _ _ x]
    have kM : ∀ k, k ≠ 0 → (cb_u (cb_u (cb_u gM1 0 1 0) 0 3 0) 0 4 0) k = gM1 k := fun k x => by rw [cb_u_other _ _ _ x, cb_u_other _ _ _ x, cb_u_other _ _ _ x]
    refine ⟨w, 0, s2, 0, 0, laid_keep hl (fun k hk9 => by rw [cb_u_other _ _ _ (by unfold lay_w at hk9; omega), cb_u_other _ _ _ (by unfold lay_w at hk9; omega)]), ⟨fun i hi => by omega, fun i hi => by omega⟩, ?_, cb_u_same _ _ _ _, cz s2, ⟨?_, by rw [kM0 0 (by decide) (by decide) (by decide)]; exact b6.2.1, by omega, fun i hi => by omega, fun i hi => by omega, b6.2.2.2.2.2⟩, ?_, cb_u_same _ _ _ _, hist_keep b9 (kC 7 (by decide) (by unfold lay_w; omega) (by decide) (by decide)) (fun k hk9 => kC k (by omega) (by unfold lay_w; omega) (by omega) (by omega)) (kM0 5 (by decide) (by decide) (by decide)) (fun k x y => kM k (by omega)), pcs_keep b10 (kC 6 (by decide) (by unfold lay_w; omega) (by decide) (by decide)) (kC 30 (by decide) (by unfold lay_w; omega) (by decide) (by decide)) (kC 31 (by decide) (by unfold lay_w; omega) (by decide) (by decide)) (kM0 29 (by decide) (by decide) (by decide)) (kM 21 (by decide)) (kM 22 (by decide))⟩
    · rw [cb_u_ne _ _ _ _ (by decide), cb_u_same]
      rfl
    · rw [cb_u_ne _ _ _ _ (by decide), cb_u_ne _ _ _ _ (by decide), cb_u_same]
      rfl
    · rw [cb_u_ne _ _ _ _ (by decide), cb_u_same]
      rfl
  by_cases e : n = 0
  · subst e
    rw [if_pos (by omega), if_pos (by omega), cs gC s a1, cb_b_some, cb_b_some]
    exact ⟨_, _, _, _, rfl, rfl, by rw [show ((0 : Nat) : Int) - 0 = ((0 : Nat) : Int) by omega], fin gC gM gC s h a1 (fun _ _ _ _ => rfl)⟩
  · rw [if_neg (by omega), if_neg (by omega)]
    obtain ⟨r, gC1, r1, gM1, z1, z2, z3⟩ := j_keep h
    obtain ⟨r2, gC2, z4, z5, z6⟩ := p_remove z3.1.1.1 (a := 0) (b := n) (by omega) (Nat.le_refl _)
    have z5 : ln_C gC2 w 0 (cutS s 0 n) := by
      rw [show n - (n - 0) = 0 by omega] at z5
      exact z5
    have z4 : f_X3_remove gC1 0 (n : Int) = some (r2, gC2) := z4
    obtain ⟨r3, gC3, z7, z8, z9⟩ := p_layOut z5 (fun j hj => by omega)
    rw [z1, cb_b_some, z4, cb_b_some, z7, cb_b_some, z2, cb_b_some, cs gC3 _ z8, cb_b_some, cb_b_some]
    exact ⟨_, _, _, _, rfl, rfl, by rw [show (n : Int) - 0 = (n : Int) by omega], fin gC1 gM1 gC3 _ z3 z8 (fun k x y z => by rw [z9 k x, z6 k y z])⟩
