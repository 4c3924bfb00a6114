theorem clu_keep {g g2 : cb_S} {n : Nat} {s : Nat → Int} (h : clu g n s n) (hk : ∀ k, cl_w k → g2 k = g k) : clu g2 n s n := by
  unfold clu at h ⊢
  rw [hk 2 (by unfold cl_w; omega), hk 10 (by unfold cl_w; omega), hk 11 (by unfold cl_w; omega), hk 12 (by unfold cl_w; omega), hk 13 (by unfold cl_w; omega), hk 14 (by unfold cl_w; omega), hk 15 (by unfold cl_w; omega)]
  exact h
/-- place(): the side is 0 within a joined cluster -/
theorem c_pl {g : cb_S} {n : Nat} {s : Nat → Int} (h : clu g n s n) (hn : n ≤ 60) {x d : Int} (hx : cb_i x) : f_X0_place g x d = some (0, cb_u (cb_u g 5 2 x) 5 3 (if hh n s x = -1 then d else 0)) := by
  unfold f_X0_place f_X0_place_b23
  have hr := hh_r n s hn x
  rw [c_hh (clu_keep h (fun k hk => cb_u_other _ _ _ (by unfold cl_w at hk; omega))) hn hx, Option.bind_some, cb_id (x := hh n s x) (by omega) (by omega)]
  by_cases z : hh n s x = -1
  · rw [if_pos z, if_pos z]
  · rw [if_neg z, if_neg z]
theorem isB_es {n : Nat} {s : Nat → Int} {k : Nat} (hk : k < cn n s n) : isB n s (es n s k : Int) = true := by
  have := es_ok hk
  exact isB_iff.mpr ⟨by omega, by omega, by rw [Int.toNat_natCast]; exact this.1⟩
theorem isB_fs {n : Nat} {s : Nat → Int} {k : Nat} (hk : k < cn n s n) : isB n s (fs n s k : Int) = true := by
  have := fs_ok hk
  exact isB_iff.mpr ⟨by omega, by omega, by rw [Int.toNat_natCast]; exact this.1⟩
theorem hh_B {n : Nat} {s : Nat → Int} {x : Int} (h : isB n s x = true) : hh n s x = -1 := by
  by_cases z : hh n s x = -1
  · exact z
  · rw [hh_isB z] at h
    cases h
theorem cst_B {n : Nat} {s : Nat → Int} {p : Nat} {d : Int} (h : isB n s (p : Int) = true) (hd : d = 0 ∨ d = 1) : cst n s p d := ⟨isS_iff.mpr (Or.inl h), hd, fun z => absurd (hh_B h) z⟩
theorem cst_S {n : Nat} {s : Nat → Int} {p : Nat} (h : isS n s (p : Int) = true) : cst n s p 0 := ⟨h, Or.inl rfl, fun _ => rfl⟩
theorem cst_p {n : Nat} {s : Nat → Int} {p : Nat} {d : Int} (h : isS n s (p : Int) = true) (hd : d = 0 ∨ d = 1) : cst n s p (if hh n s (p : Int) = -1 then d else 0) := by
  refine ⟨h, ?_, fun z => if_neg z⟩
  split
  · exact hd
  · exact Or.inl rfl
/-- the caret at a side of cluster k -/
def sd (w : Int) (n : Nat) (s : Nat → Int) (k : Nat) (r : Bool) : Nat × Int := if decide (CL w n s k % 2 = 0) = r then (es n s k, 0) else (fs n s k, 1)
theorem sd_cst {w : Int} {n : Nat} {s : Nat → Int} {k : Nat} (hk : k < cn n s n) (r : Bool) : cst n s (sd w n s k r).1 (sd w n s k r).2 := by
  unfold sd
  split
  · exact cst_B (isB_es hk) (Or.inl rfl)
  · exact cst_B (isB_fs hk) (Or.inr rfl)
theorem c_side {g : cb_S} {w : Int} {n : Nat} {s : Nat → Int} (h : cvw g w n s) {k : Nat} (hk : k < cn n s n) (r : Bool) : f_X0_toSideOf g (k : Int) (bI r) = some (0, cb_u (cb_u g 5 2 ((sd w n s k r).1 : Int)) 5 3 (sd w n s k r).2) := by
  have hn := h.2.2.2.2.2.2.2.1
  have hc := CL_b (n := n) (s := s) h.2.2.2.2.2.2.2.2.1 hn hk
  have hcl := h.2.2.2.2.2.2.2.2.2.1
  have he := es_ok hk
  have hf := fs_ok hk
  unfold f_X0_toSideOf sd
  rw [c_has1 h hk, Option.bind_some, if_neg (by decide), c_lev h hk, Option.bind_some, c_even ⟨by omega, by omega⟩, Option.bind_some, c_end h hk, Option.bind_some, c_first h hk, Option.bind_some, c_pl hcl hn ⟨by omega, by omega⟩, cb_b_some, c_pl hcl hn ⟨by omega, by omega⟩, cb_b_some, hh_B (isB_es hk), hh_B (isB_fs hk), if_pos rfl, if_pos rfl]
  cases decide (CL w n s k % 2 = 0) <;> cases r <;> rfl
theorem m_right {g : cb_S} {w : Int} {n : Nat} {s : Nat → Int} (h : mvw g w n s) {k : Nat} (hk : k < cn n s n) : f_X9_toRight g (k : Int) = some (0, cb_u (cb_u g 0 3 ((sd w n s k true).1 : Int)) 0 4 (sd w n s k true).2) := by
  have hcn := cn_le (n := n) (s := s) n
  have hn := h.2.2.2.2.2.2.2.2.1
  have hm := h.1.2 k hk
  unfold f_X9_toRight f_X9_goes sd
  rw [m_even h hk, Option.bind_some, cb_wn (n := k) (by omega), Int.toNat_natCast, hm.1, hm.2.1, show (fs n s k : Int) + ((es n s k : Int) - (fs n s k : Int)) = (es n s k : Int) by omega]
  cases decide (CL w n s k % 2 = 0) with
  | true => rw [bI_t, if_neg (by decide), if_pos (by omega), if_pos (by omega)]; rfl
  | false => rw [bI_f, if_pos (by decide), if_pos (by omega)]; rfl
theorem m_left {g : cb_S} {w : Int} {n : Nat} {s : Nat → Int} (h : mvw g w n s) {k : Nat} (hk : k < cn n s n) : f_X9_toLeft g (k : Int) = some (0, cb_u (cb_u g 0 3 ((sd w n s k false).1 : Int)) 0 4 (sd w n s k false).2) := by
  have hcn := cn_le (n := n) (s := s) n
  have hn := h.2.2.2.2.2.2.2.2.1
  have hm := h.1.2 k hk
  unfold f_X9_toLeft f_X9_goes sd
  rw [m_even h hk, Option.bind_some, cb_wn (n := k) (by omega), Int.toNat_natCast, hm.1, hm.2.1, show (fs n s k : Int) + ((es n s k : Int) - (fs n s k : Int)) = (es n s k : Int) by omega]
  cases decide (CL w n s k % 2 = 0) with
  | true => rw [bI_t, if_neg (by decide), if_pos (by omega)]; rfl
  | false => rw [bI_f, if_pos (by decide), if_pos (by omega), if_pos (by omega)]; rfl
theorem mid_S {n : Nat} {s : Nat → Int} {k : Nat} (hk : k < cn n s n) (hj : jn n s (fs n s k + 1) = true) : isS n s ((fs n s k + 2 : Nat) : Int) = true ∧ hh n s ((fs n s k + 2 : Nat) : Int) = (k : Int) := by
  have := hh_fs hk hj
  rw [show (fs n s k : Int) + 2 = ((fs n s k + 2 : Nat) : Int) by omega] at this
  exact ⟨isS_iff.mpr (Or.inr (by rw [this.1]; omega)), this.1⟩
theorem c_mid {g : cb_S} {w : Int} {n : Nat} {s : Nat → Int} (h : cvw g w n s) {k : Nat} (hk : k < cn n s n) (hj : jn n s (fs n s k + 1) = true) : f_X0_toMiddleOf g (k : Int) = some (0, cb_u (cb_u g 5 2 ((fs n s k + 2 : Nat) : Int)) 5 3 0) := by
  have hn := h.2.2.2.2.2.2.2.1
  have hcl := h.2.2.2.2.2.2.2.2.2.1
  have hf := fs_ok hk
  unfold f_X0_toMiddleOf
  rw [c_joined h hk, Option.bind_some, hj, bI_t, if_neg (by decide), c_first h hk, Option.bind_some, show (fs n s k : Int) + 2 = ((fs n s k + 2 : Nat) : Int) by omega, c_pl hcl hn ⟨by omega, by omega⟩, cb_b_some]
  split <;> rfl
/-- x of the caret -/
def cx (w : Int) (n : Nat) (s : Nat → Int) (p : Nat) (d : Int) : Int := if hh n s (p : Int) = -1 then (if d = 1 then (if bg n s (p : Int) = -1 then (if w = 0 then TW w n s else 0) else (if CL w n s (bg n s (p : Int)).toNat % 2 = 0 then XL w n s (bg n s (p : Int)).toNat else XL w n s (bg n s (p : Int)).toNat + wd n s (fs n s (bg n s (p : Int)).toNat))) else (if en n s (p : Int) = -1 then (if w = 0 then 0 else TW w n s) else (if CL w n s (en n s (p : Int)).toNat % 2 = 0 then XL w n s (en n s (p : Int)).toNat + wd n s (fs n s (en n s (p : Int)).toNat) else XL w n s (en n s (p : Int)).toNat))) else XL w n s (hh n s (p : Int)).toNat + 8
theorem c_x {g : cb_S} {w : Int} {n : Nat} {s : Nat → Int} (h : cvw g w n s) {p : Nat} {d : Int} (h2 : g 5 2 = (p : Int)) (h3 : g 5 3 = d) (hd : d = 0 ∨ d = 1) (hp : p ≤ n) : v_X0_x g = some (cx w n s p d) := by
  obtain ⟨a1, a2, a3, a4, a5, a6, a7, hn, hw, hcl, a11⟩ := id h
  have r1 := hh_r n s hn (p : Int)
  have r2 := bg_r n s hn (p : Int)
  have r3 := en_r n s hn (p : Int)
  unfold v_X0_x cx
  rw [h2, c_hh hcl hn ⟨by omega, by omega⟩, Option.bind_some, cb_id (x := hh n s (p : Int)) (by omega) (by omega)]
  by_cases z : hh n s (p : Int) = -1
  · rw [if_pos z, if_pos z, h3, cb_id (x := d) (by omega) (by omega)]
    by_cases d1 : d = 1
    · rw [if_pos d1, if_pos d1]
      unfold v_X0_xWithBehind
      rw [h2, c_bg hcl hn ⟨by omega, by omega⟩, Option.bind_some, cb_id (x := bg n s (p : Int)) (by omega) (by omega)]
      by_cases b : bg n s (p : Int) = -1
      · rw [if_pos b, if_pos b]
        unfold v_X6_xOfEnd
        rw [a4, a3, cb_id (x := w) (by omega) (by omega)]
        split <;> rfl
      · obtain ⟨k, k1, k2, k3⟩ := bg_ex b
        have hc := CL_b (n := n) (s := s) hw hn k1
        rw [if_neg b, if_neg b, k3, Int.toNat_natCast, c_lev h k1, Option.bind_some, c_even ⟨by omega, by omega⟩, Option.bind_some, c_right h k1, c_left h k1]
        by_cases e : CL w n s k % 2 = 0
        · rw [decide_eq_true e, bI_t, if_neg (by decide), if_pos e]
          rfl
        · rw [decide_eq_false e, bI_f, if_pos (by decide), if_neg e]
          rfl
    · rw [if_neg d1, if_neg d1]
      unfold v_X0_xWithAhead
      rw [h2, c_en hcl hn ⟨by omega, by omega⟩, Option.bind_some, cb_id (x := en n s (p : Int)) (by omega) (by omega)]
      by_cases b : en n s (p : Int) = -1
      · rw [if_pos b, if_pos b]
        unfold v_X6_xOfBeginning
        rw [a4, a3, cb_id (x := w) (by omega) (by omega)]
        split <;> rfl
      · obtain ⟨k, k1, k2, k3⟩ := en_ex b
        have hc := CL_b (n := n) (s := s) hw hn k1
        rw [if_neg b, if_neg b, k3, Int.toNat_natCast, c_lev h k1, Option.bind_some, c_even ⟨by omega, by omega⟩, Option.bind_some, c_right h k1, c_left h k1]
        by_cases e : CL w n s k % 2 = 0
        · rw [decide_eq_true e, bI_t, if_neg (by decide), if_pos e]
          rfl
        · rw [decide_eq_false e, bI_f, if_pos (by decide), if_neg e]
          rfl
  · obtain ⟨k, k1, k2, k3, k4, k5⟩ := hh_ex z
    have e16 : wd n s (fs n s k) = 16 := by
      unfold wd
      rw [if_pos k4]
    rw [if_neg z, if_neg z, k3, Int.toNat_natCast, c_left h k1, Option.bind_some, c_width h k1, Option.bind_some, e16]
    rfl
theorem m_x {g : cb_S} {w : Int} {n : Nat} {s : Nat → Int} (h : mvw g w n s) {p : Nat} {d : Int} (h2 : g 0 3 = (p : Int)) (h3 : g 0 4 = d) (hc : cst n s p d) : v_X9_place g = some (cx w n s p d) := by
  obtain ⟨m1, m2, m3, m4, m5, m6, m7⟩ := id h
  obtain ⟨e1, e2, hn, hs, hb, hw⟩ := id m7
  obtain ⟨c1, hd, c3⟩ := hc
  have hp := isS_le c1
  have hcn := cn_le (n := n) (s := s) n
  have r1 := hh_r n s hn (p : Int)
  have r2 := bg_r n s hn (p : Int)
  have r3 := en_r n s hn (p : Int)
  unfold v_X9_place cx
  rw [h2, h3, m_isB m1 e1 hn ⟨by omega, by omega⟩, Option.bind_some, m_hh m1 hn ⟨by omega, by omega⟩, Option.bind_some, m_bg m1 hn ⟨by omega, by omega⟩, Option.bind_some, m_en m1 hn ⟨by omega, by omega⟩, Option.bind_some, cb_id (x := hh n s (p : Int)) (by omega) (by omega), cb_id (x := d) (by omega) (by omega)]
  have b116 : ∀ k : Nat, k < cn n s n → v_X9_place_b116 (k : Int) g = some (if decide (CL w n s k % 2 = 0) = decide (d = 1) then XL w n s k else XL w n s k + wd n s (fs n s k)) := by
    intro k hk
    have mk := m3 k hk
    unfold v_X9_place_b116 v_X9_place_b134
    rw [m_even h hk, Option.bind_some, h3, cb_id (x := d) (by omega) (by omega), cb_wn (n := k) (by omega), Int.toNat_natCast, mk.1, mk.2.1, if_pos (show 0 ≤ (k : Int) ∧ (k : Int) < ((64 : Nat) : Int) by omega), if_pos (show 0 ≤ (k : Int) ∧ (k : Int) < ((64 : Nat) : Int) by omega), if_pos (show 0 ≤ (k : Int) ∧ (k : Int) < ((64 : Nat) : Int) by omega)]
    rcases hd with rfl | rfl
    · rw [if_neg (by decide)]
      cases decide (CL w n s k % 2 = 0) <;> rfl
    · rw [if_pos rfl]
      cases decide (CL w n s k % 2 = 0) <;> rfl
  have b80 : v_X9_place_b80 g = some (if (p = 0 ↔ w = 0) then 0 else TW w n s) := by
    unfold v_X9_place_b80 v_X9_place_b92 v_X9_place_b104
    rw [h2, e2, m2, cb_wn (n := p) (by omega), cb_id (x := w) (by omega) (by omega)]
    by_cases p0 : p = 0
    · rw [if_pos (by omega)]
      by_cases w0 : w = 0
      · rw [if_pos w0, if_pos rfl, if_pos (by simp [p0, w0])]
      · rw [if_neg w0, if_neg (by decide), if_neg (by simp [p0, w0])]
    · rw [if_neg (by omega)]
      by_cases w0 : w = 0
      · rw [if_pos w0, if_neg (by decide), if_neg (by simp [p0, w0])]
      · rw [if_neg w0, if_pos rfl, if_pos (by simp [p0, w0])]
  by_cases z : hh n s (p : Int) = -1
  · have hB : isB n s (p : Int) = true := by
      rcases isS_iff.mp c1 with q | q
      · exact q
      · exact absurd z q
    rw [hB, bI_t, if_neg (by decide), if_pos z]
    unfold v_X9_place_b55
    rw [h2, h3, e1, cb_id (x := bg n s (p : Int)) (by omega) (by omega), cb_id (x := en n s (p : Int)) (by omega) (by omega), cb_id (x := d) (by omega) (by omega), cb_wn (n := n) (by omega), cb_wn (n := p) (by omega)]
    by_cases d1 : d = 1
    · simp only [if_pos d1]
      by_cases b : bg n s (p : Int) = -1
      · have hpn : p = n := by
          by_cases q : (p : Int) = (n : Int)
          · omega
          · rw [isB_bg q, decide_eq_false (fun y => y b)] at hB
            cases hB
        rw [if_pos b, if_pos b, b80]
        refine congrArg some ?_
        by_cases n0 : n = 0
        · have tw0 : TW w n s = 0 := by
            unfold TW
            rw [n0]
            rfl
          rw [tw0]
          split <;> split <;> rfl
        · by_cases w0 : w = 0
          · rw [if_neg (by rw [hpn]; simp [n0, w0]), if_pos w0]
          · rw [if_pos (by rw [hpn]; simp [n0, w0]), if_neg w0]
      · obtain ⟨k, k1, k2, k3⟩ := bg_ex b
        have hf := fs_ok k1
        rw [if_neg b, if_neg b, if_neg (by omega), k3, Int.toNat_natCast, b116 k k1, decide_eq_true d1]
        by_cases e : CL w n s k % 2 = 0
        · rw [decide_eq_true e, if_pos rfl, if_pos e]
        · rw [decide_eq_false e, if_neg (by decide), if_neg e]
    · simp only [if_neg d1]
      by_cases b : en n s (p : Int) = -1
      · have hp0 : p = 0 := by
          by_cases q : p = 0
          · exact q
          · have := isB_iff.mp hB
            unfold en at b
            rw [if_pos ⟨by omega, this.2.1, this.2.2⟩] at b
            rw [Int.toNat_natCast] at b
            have := cn_pos (n := n) (s := s) (x := p) (by omega)
            omega
        rw [if_pos b, if_pos b, b80]
        refine congrArg some ?_
        by_cases w0 : w = 0
        · rw [if_pos (by simp [hp0, w0]), if_pos w0]
        · rw [if_neg (by simp [hp0, w0]), if_neg w0]
      · obtain ⟨k, k1, k2, k3⟩ := en_ex b
        rw [if_neg b, if_neg b, k3, Int.toNat_natCast, b116 k k1, decide_eq_false d1]
        by_cases e : CL w n s k % 2 = 0
        · rw [decide_eq_true e, if_neg (by decide), if_pos e]
        · rw [decide_eq_false e, if_pos rfl, if_neg e]
  · obtain ⟨k, k1, k2, k3, k4, k5⟩ := hh_ex z
    rw [hh_isB z, bI_f, if_pos (by decide), if_neg z, k3, if_pos (by omega), Int.toNat_natCast, (m3 k k1).2.1]
theorem o8 : lw_o8 Rel := by
  intro gC gM hR x hx
  obtain ⟨w, n, s, p, d, h⟩ := hR
  obtain ⟨r, g1, l1, l2, l3⟩ := rL_looks h
  obtain ⟨a1, a2, a3, a4, a5, a6, a7, a8, a9, a10⟩ := id l3
  have cv := laid_vw a1
  have hp := isS_le a5.1
  have key : ∀ v : Int, v_X8_caret gC x = some v → f_X9_caret gM x = some (v, g1) → ∃ r r2 gM2, v_X8_caret gC x = some r ∧ f_X9_caret gM x = some (r2, gM2) ∧ cb_w r = cb_w r2 ∧ Rel gC gM2 := fun v a b => ⟨v, v, g1, a, b, rfl, ⟨w, n, s, p, d, l3⟩⟩
  have hC : v_X8_caret gC x = some (if x = 0 then (p : Int) else if x = 1 then d else if x = 2 then cx w n s p d else -1) := by
    unfold v_X8_caret v_X0_stand v_X0_side
    rw [c_x cv a3 a4 a5.2.1 (by omega), a3, a4, cb_id hx.1 hx.2]
    repeat' split
    all_goals rfl
  refine key _ hC ?_
  unfold f_X9_caret
  rw [l1, cb_b_some, m_x l2 a7 a8 a5, a7, a8, cb_id hx.1 hx.2]
  repeat' split
  all_goals rfl
theorem o9 : lw_o9 Rel := by
  intro gC gM hR x y hx hy
  obtain ⟨w, n, s, p, d, h⟩ := hR
  obtain ⟨r, g1, l1, l2, l3⟩ := rL_looks h
  obtain ⟨a1, a2, a3, a4, a5, a6, a7, a8, a9, a10⟩ := id l3
  have cv := laid_vw a1
  have hcl := cv.2.2.2.2.2.2.2.2.2.1
  have h29 := cv.2.2.2.2.1
  have hn := a6.2.2.1
  have r1 := hh_r n s hn x
  have z01 : ¬ cb_w 1 = 0 := by decide
  have z00 : cb_w 0 = 0 := by decide
  have hC : f_X8_go gC x y = if isS n s x = true ∧ (y = 0 ∨ (y = 1 ∧ hh n s x = -1)) then some (1, cb_u (cb_u gC 5 2 x) 5 3 y) else some (0, gC) := by
    unfold f_X8_go f_X8_go_b21 f_X8_go_b25 f_X8_go_b26
    rw [c_hh hcl hn hx, Option.bind_some, c_isS hcl h29 hn hx, Option.bind_some, c_pl hcl hn hx, cb_b_some, cb_id (x := hh n s x) (by omega) (by omega), cb_id hy.1 hy.2]
    simp only [if_neg z01, if_pos z00]
    cases isS n s x with
    | false =>
      rw [bI_f, if_pos z00, if_neg (show ¬ (false = true ∧ (y = 0 ∨ (y = 1 ∧ hh n s x = -1))) from fun z => by cases z.1)]
      repeat' split
      all_goals rfl
    | true =>
      rw [bI_t, if_neg z01]
      by_cases y0 : y = 0
      · rw [if_pos y0, if_pos (show true = true ∧ (y = 0 ∨ (y = 1 ∧ hh n s x = -1)) from ⟨rfl, Or.inl y0⟩), y0]
        split <;> rfl
      · rw [if_neg y0]
        by_cases y1 : y = 1
        · rw [if_pos y1]
          by_cases z : hh n s x = -1
          · rw [if_pos z, if_pos z, if_pos ⟨rfl, Or.inr ⟨y1, z⟩⟩]
          · rw [if_neg z, if_neg (by omega)]
        · rw [if_neg y1, if_neg (by omega)]
  have hM : f_X9_go gM x y = if isS n s x = true ∧ (y = 0 ∨ (y = 1 ∧ hh n s x = -1)) then some (1, cb_u (cb_u g1 0 3 x) 0 4 y) else some (0, g1) := by
    unfold f_X9_go f_X9_go_b33 f_X9_go_b48 f_X9_goes
    rw [l1, cb_b_some, a6.1, m_isS l2.1 a6.1 hn hx, Option.bind_some, m_isB l2.1 a6.1 hn hx, Option.bind_some, cb_b_some, cb_id hx.1 hx.2, cb_id hy.1 hy.2, cb_wn (n := n) (by omega)]
    cases hS : isS n s x with
    | false =>
      rw [bI_f, if_pos z00, if_neg (show ¬ (false = true ∧ (y = 0 ∨ (y = 1 ∧ hh n s x = -1))) from fun z => by cases z.1)]
      repeat' split
      all_goals rfl
    | true =>
      have hle := isS_le hS
      rw [bI_t, if_neg z01, if_neg (by omega), if_neg (by omega)]
      by_cases y0 : y = 0
      · rw [if_pos y0, if_neg (by omega), if_pos ⟨rfl, Or.inl y0⟩]
      · rw [if_neg y0]
        by_cases y1 : y = 1
        · rw [if_pos y1, if_pos y1]
          by_cases z : hh n s x = -1
          · have hB : isB n s x = true := by
              rcases isS_iff.mp hS with q | q
              · exact q
              · exact absurd z q
            rw [hB, bI_t, if_neg z01, if_pos ⟨rfl, Or.inr ⟨y1, z⟩⟩]
          · rw [hh_isB z, bI_f, if_pos z00, if_neg (by omega)]
        · rw [if_neg y1, if_neg (by omega)]
  rw [hC, hM]
  by_cases ok : isS n s x = true ∧ (y = 0 ∨ (y = 1 ∧ hh n s x = -1))
  · rw [if_pos ok, if_pos ok]
    have hle := isS_le ok.1
    obtain ⟨q, rfl⟩ : ∃ q : Nat, x = (q : Int) := ⟨x.toNat, by omega⟩
    refine ⟨1, _, 1, _, rfl, rfl, rfl, ⟨w, n, s, q, y, rL_move l3 ⟨ok.1, by omega, fun z => ?_⟩⟩⟩
    rcases ok.2 with e | e
    · exact e
    · exact absurd e.2 z
  · rw [if_neg ok, if_neg ok]
    exact ⟨0, gC, 0, g1, rfl, rfl, rfl, ⟨w, n, s, p, d, l3⟩⟩
/-! by sense -/
def upS (n : Nat) (s : Nat → Int) : Nat → Nat → Int
  | 0, _ => -1
  | m + 1, t => if isS n s (t : Int) = true then (t : Int) else upS n s m (t + 1)
def dnS (n : Nat) (s : Nat → Int) : Nat → Int
  | 0 => -1
  | t + 1 => if isS n s (t : Int) = true then (t : Int) else dnS n s t
theorem upS_ok {n : Nat} {s : Nat → Int} : ∀ (m t : Nat), upS n s m t = -1 ∨ ∃ q : Nat, upS n s m t = (q : Int) ∧ isS n s (q : Int) = true := by
  intro m
  induction m with
  | zero => intro t; exact Or.inl rfl
  | succ m ih =>
    intro t
    unfold upS
    by_cases e : isS n s (t : Int) = true
    · rw [if_pos e]
      exact Or.inr ⟨t, rfl, e⟩
    · rw [if_neg e]
      exact ih (t + 1)
theorem dnS_ok {n : Nat} {s : Nat → Int} : ∀ (t : Nat), dnS n s t = -1 ∨ ∃ q : Nat, dnS n s t = (q : Int) ∧ isS n s (q : Int) = true := by
  intro t
  induction t with
  | zero => exact Or.inl rfl
  | succ t ih =>
    unfold dnS
    by_cases e : isS n s (t : Int) = true
    · rw [if_pos e]
      exact Or.inr ⟨t, rfl, e⟩
    · rw [if_neg e]
      exact ih
theorem c_up1 {g : cb_S} {n : Nat} {s : Nat → Int} (h : clu g n s n) (h9 : g 2 9 = (n : Int)) (hn : n ≤ 60) : ∀ (m t : Nat), t ≤ n + 1 → n + 1 < t + m → v_X1_standFrom_b6 m (t : Int) g = some (upS n s (n + 1 - t) t) := by
  intro m
  induction m with
  | zero => intro t h1 h2; omega
  | succ m ih =>
    intro t h1 h2
    rw [v_X1_standFrom_b6]
    dsimp only
    rw [h9, cb_wn (n := n) (by omega), cb_wn (n := t) (by omega), c_isS h h9 hn ⟨by omega, by omega⟩, Option.bind_some]
    by_cases e : n < t
    · rw [if_pos (by omega), show n + 1 - t = 0 by omega]
      rfl
    · rw [if_neg (by omega), show n + 1 - t = (n - t) + 1 by omega]
      unfold upS
      cases isS n s (t : Int) with
      | true => rw [bI_t, if_neg (by decide), if_pos rfl]
      | false =>
        rw [bI_f, if_pos (by decide), if_neg (by decide), show (t : Int) + 1 = ((t + 1 : Nat) : Int) by omega, ih (t + 1) (by omega) (by omega), show n + 1 - (t + 1) = n - t by omega]
theorem c_up {g : cb_S} {n : Nat} {s : Nat → Int} (h : clu g n s n) (h9 : g 2 9 = (n : Int)) (hn : n ≤ 60) {t : Nat} (ht : t ≤ n + 1) : v_X1_standFrom g (t : Int) = some (upS n s (n + 1 - t) t) := by
  unfold v_X1_standFrom
  rw [cb_wn (n := t) (by omega), if_neg (by rw [cb_w0]; omega)]
  exact c_up1 h h9 hn cb_N t ht (by unfold cb_N; omega)
theorem c_dn1 {g : cb_S} {n : Nat} {s : Nat → Int} (h : clu g n s n) (h9 : g 2 9 = (n : Int)) (hn : n ≤ 60) : ∀ (m t : Nat), t ≤ 61 → t < m → v_X1_standUpTo_b9 m ((t : Int) - 1) g = some (dnS n s t) := by
  intro m
  induction m with
  | zero => intro t h1 h2; omega
  | succ m ih =>
    intro t h1 h2
    rw [v_X1_standUpTo_b9]
    dsimp only
    rw [cb_id (x := (t : Int) - 1) (by omega) (by omega), c_isS h h9 hn ⟨by omega, by omega⟩, Option.bind_some]
    cases t with
    | zero => rw [if_pos (by omega)]; rfl
    | succ t =>
      rw [if_neg (by omega), show ((t + 1 : Nat) : Int) - 1 = (t : Int) by omega]
      unfold dnS
      cases isS n s (t : Int) with
      | true => rw [bI_t, if_neg (by decide), if_pos rfl]
      | false =>
        rw [bI_f, if_pos (by decide), if_neg (by decide), show (t : Int) + (-1) = (t : Int) - 1 by omega, ih t (by omega) (by omega)]
theorem m_up {g : cb_S} {n : Nat} {s : Nat → Int} (h : mcs g n s) (h1 : g 0 1 = (n : Int)) (hn : n ≤ 60) : ∀ (m t : Nat), t ≤ n + 1 → n + 1 < t + m → f_X9_on_b24 m 1 (t : Int) g = some (if upS n s (n + 1 - t) t = -1 then (0, g) else (1, cb_u (cb_u g 0 3 (upS n s (n + 1 - t) t)) 0 4 0)) := by
  intro m
  induction m with
  | zero => intro t h1 h2; omega
  | succ m ih =>
    intro t h2 h3
    rw [f_X9_on_b24]
    dsimp only
    unfold f_X9_on_b54 f_X9_on_b59 f_X9_on_b87 f_X9_on_b92 f_X9_goes
    rw [h1, cb_wn (n := n) (by omega), cb_wn (n := t) (by omega), m_isS h h1 hn ⟨by omega, by omega⟩, Option.bind_some, if_neg (show ¬ (t : Int) < 0 by omega), if_neg (show ¬ (t : Int) < 0 by omega)]
    by_cases e : n < t
    · rw [if_pos (by omega), if_neg (by omega), show n + 1 - t = 0 by omega]
      rfl
    · rw [if_neg (by omega), if_pos (show (t : Int) ≤ (n : Int) by omega), show n + 1 - t = (n - t) + 1 by omega]
      unfold upS
      cases isS n s (t : Int) with
      | true =>
        rw [bI_t, if_neg (show ¬ cb_w 1 = 0 by decide), if_pos rfl, if_neg (show ¬ cb_w 1 = 0 by decide), if_neg (show ¬ (t : Int) = -1 by omega)]
        rfl
      | false =>
        rw [bI_f, if_pos (by decide), if_neg (show ¬ cb_w 1 = 0 by decide), show (t : Int) + 1 = ((t + 1 : Nat) : Int) by omega, ih (t + 1) (by omega) (by omega), show n + 1 - (t + 1) = n - t by omega]
        rfl
theorem m_dn {g : cb_S} {n : Nat} {s : Nat → Int} (h : mcs g n s) (h1 : g 0 1 = (n : Int)) (hn : n ≤ 60) : ∀ (m t : Nat), t ≤ n + 1 → t < m → f_X9_on_b24 m 0 ((t : Int) - 1) g = some (if dnS n s t = -1 then (0, g) else (1, cb_u (cb_u g 0 3 (dnS n s t)) 0 4 (if hh n s (dnS n s t) = -1 then 1 else 0))) := by
  intro m
  induction m with
  | zero => intro t h1 h2; omega
  | succ m ih =>
    intro t h2 h3
    rw [f_X9_on_b24]
    dsimp only
    unfold f_X9_on_b54 f_X9_on_b59 f_X9_on_b87 f_X9_on_b92 f_X9_goes
    rw [h1, cb_wn (n := n) (by omega), cb_id (x := (t : Int) - 1) (by omega) (by omega), m_isS h h1 hn ⟨by omega, by omega⟩, Option.bind_some, m_isB h h1 hn ⟨by omega, by omega⟩, Option.bind_some]
    cases t with
    | zero => rw [if_pos (by omega), if_pos (by omega)]; rfl
    | succ t =>
      rw [show ((t + 1 : Nat) : Int) - 1 = (t : Int) by omega, if_neg (show ¬ (t : Int) < 0 by omega), if_neg (show ¬ (t : Int) < 0 by omega), if_neg (show ¬ (n : Int) < (t : Int) by omega), if_pos (show (t : Int) ≤ (n : Int) by omega)]
      unfold dnS
      cases hS : isS n s (t : Int) with
      | true =>
        rw [bI_t, if_neg (show ¬ cb_w 1 = 0 by decide), if_pos (show cb_w 0 = 0 by decide), if_pos rfl, if_neg (show ¬ (t : Int) = -1 by omega)]
        by_cases z : hh n s (t : Int) = -1
        · have hB : isB n s (t : Int) = true := by
            rcases isS_iff.mp hS with q | q
            · exact q
            · exact absurd z q
          rw [hB, bI_t, if_neg (show ¬ cb_w 1 = 0 by decide), if_pos z]
          rfl
        · rw [hh_isB z, bI_f, if_pos (show cb_w 0 = 0 by decide), if_neg z]
          rfl
      | false =>
        rw [bI_f, if_pos (show cb_w 0 = 0 by decide), if_pos (show cb_w 0 = 0 by decide), show (t : Int) + (-1) = (t : Int) - 1 by omega, ih t (by omega) (by omega)]
        rfl
theorem o10 : lw_o10 Rel := by
  intro gC gM hR x hx
  obtain ⟨w, n, s, p, d, h⟩ := hR
  obtain ⟨r, g1, l1, l2, l3⟩ := rL_looks h
  obtain ⟨a1, a2, a3, a4, a5, a6, a7, a8, a9, a10⟩ := id l3
  have cv := laid_vw a1
  have hcl := cv.2.2.2.2.2.2.2.2.2.1
  have h29 := cv.2.2.2.2.1
  have hn := a6.2.2.1
  have hp := isS_le a5.1
  unfold f_X8_on f_X9_on f_X8_on_b39 f_X8_on_b61 f_X9_on_b23 v_X0_stand
  rw [l1, cb_b_some, a3, a7, Option.bind_some, Option.bind_some]
  rcases hx with rfl | rfl
  · have hd : v_X1_standUpTo gC ((p : Int) - 1) = some (dnS n s p) := by
      unfold v_X1_standUpTo
      rw [h29, cb_wn (n := n) (by omega), cb_id (x := (p : Int) - 1) (by omega) (by omega), if_pos (by omega)]
      exact c_dn1 hcl h29 hn cb_N p (by omega) (by unfold cb_N; omega)
    rw [if_pos (show cb_w 0 = 0 by decide), if_pos (show cb_w 0 = 0 by decide), hd, Option.bind_some, m_dn l2.1 a6.1 hn cb_N p (by omega) (by unfold cb_N; omega)]
    rcases dnS_ok (n := n) (s := s) p with e | ⟨q, e, hq⟩
    · rw [e, if_pos (by decide), if_pos rfl]
      exact ⟨0, gC, 0, g1, rfl, rfl, rfl, ⟨w, n, s, p, d, l3⟩⟩
    · have hle := isS_le hq
      rw [e, cb_wn (n := q) (by omega), if_neg (by omega), if_neg (show ¬ (q : Int) = -1 by omega), if_pos (show cb_w 0 = 0 by decide), c_pl hcl hn ⟨by omega, by omega⟩, cb_b_some]
      exact ⟨1, _, 1, _, rfl, rfl, rfl, ⟨w, n, s, q, _, rL_move l3 (cst_p hq (Or.inr rfl))⟩⟩
  · rw [if_neg (show ¬ cb_w 1 = 0 by decide), if_neg (show ¬ cb_w 1 = 0 by decide), show (p : Int) + 1 = ((p + 1 : Nat) : Int) by omega, c_up hcl h29 hn (by omega), Option.bind_some, m_up l2.1 a6.1 hn cb_N (p + 1) (by omega) (by unfold cb_N; omega)]
    rcases upS_ok (n := n) (s := s) (n + 1 - (p + 1)) (p + 1) with e | ⟨q, e, hq⟩
    · rw [e, if_pos (by decide), if_pos rfl]
      exact ⟨0, gC, 0, g1, rfl, rfl, rfl, ⟨w, n, s, p, d, l3⟩⟩
    · have hle := isS_le hq
      rw [e, cb_wn (n := q) (by omega), if_neg (by omega), if_neg (show ¬ (q : Int) = -1 by omega), if_neg (show ¬ cb_w 1 = 0 by decide), c_pl hcl hn ⟨by omega, by omega⟩, cb_b_some, show (if hh n s (q : Int) = -1 then (0 : Int) else 0) = 0 by split <;> rfl]
      exact ⟨1, _, 1, _, rfl, rfl, rfl, ⟨w, n, s, q, 0, rL_move l3 (cst_S hq)⟩⟩
