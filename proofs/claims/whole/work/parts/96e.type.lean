/-! typed -/
theorem sg_in {b : Int} (h : sg_k b ≠ -1) : 32 ≤ b ∧ b ≤ 126 := by
  by_cases e : 32 ≤ b ∧ b ≤ 126
  · exact e
  · exfalso
    apply h
    unfold sg_k
    repeat rw [if_neg (by omega)]
theorem m_sign_fin : ∀ k : Fin 128, v_X9_isSign (fun _ _ => 0) (k.val : Int) = some (if sg_k (k.val : Int) = -1 then 0 else 1) := by decide +kernel
theorem m_isSign {b : Int} (h : cb_i b) (g : cb_S) : v_X9_isSign g b = some (if sg_k b = -1 then 0 else 1) := by
  by_cases hb : 0 ≤ b ∧ b < 128
  · obtain ⟨k, hk, rfl⟩ : ∃ k : Nat, k < 128 ∧ b = (k : Int) := ⟨b.toNat, by omega, by omega⟩
    exact m_sign_fin ⟨k, hk⟩
  · have e : sg_k b = -1 := by
      by_cases z : sg_k b = -1
      · exact z
      · have := sg_in z
        omega
    rw [e, if_pos rfl]
    unfold v_X9_isSign
    rw [m_isLetter h, m_isDigit h, m_isMark h, m_isIsle h, e, cb_id h.1 h.2, if_neg (show ¬ ((-1 : Int) = 0 ∨ (-1 : Int) = 1) by decide), if_neg (show ¬ ((-1 : Int) = 2) by decide), if_neg (show ¬ (b = 39 ∨ b = 126) by omega), if_neg (show ¬ (b = 91 ∨ b = 123 ∨ b = 93) by omega), Option.bind_some, Option.bind_some, Option.bind_some, Option.bind_some]
    rw [if_pos (show cb_w 0 = 0 by decide), if_pos (show cb_w 0 = 0 by decide), if_pos (show cb_w 0 = 0 by decide), if_pos (show cb_w 0 = 0 by decide)]
    repeat rw [if_neg (by omega)]
def insS (s : Nat → Int) (p : Nat) (b : Int) : Nat → Int := fun j => if j < p then s j else if j = p then b else s (j - 1)
theorem insS_vld {n p : Nat} {s : Nat → Int} {b : Int} (h : vld n s) (hb : sg_k b ≠ -1) (hp : p ≤ n) : vld (n + 1) (insS s p b) := by
  have hi := sg_in hb
  refine ⟨fun i hi9 => ?_, fun i hi9 => ?_⟩
  · unfold insS
    split
    · exact h.1 i (by omega)
    · split
      · exact hi
      · exact h.1 _ (by omega)
  · unfold insS
    split
    · exact h.2 i (by omega)
    · split
      · exact hb
      · exact h.2 _ (by omega)
theorem p_insert1 {n p : Nat} {s : Nat → Int} {b : Int} (hpn : p ≤ n) (hn : n < 60) : ∀ (m i : Nat) (g : cb_S), g 1 1 = (n : Int) → p ≤ i → i ≤ n → i < p + m → (∀ j, i < j → j ≤ n → g 8 j = s (j - 1)) → (∀ j, j < i → g 8 j = s j) → hp (f_X3_insert_b27 m (p : Int) b (i : Int) g) (fun _ g2 => g2 1 1 = ((n + 1 : Nat) : Int) ∧ (∀ t, t ≠ 1 → g2 1 t = g 1 t) ∧ (∀ j, j < n + 1 → g2 8 j = insS s p b j) ∧ ∀ k, k ≠ 1 → k ≠ 8 → g2 k = g k) := by
  intro m
  induction m with
  | zero => intro i g h1 h2 h3 h4; omega
  | succ m ih =>
    intro i g h1 h2 h3 h4 hA hB
    rw [f_X3_insert_b27]
    dsimp only
    rw [cb_wn (n := p) (by omega), cb_wn (n := i) (by omega)]
    by_cases e : i ≤ p
    · rw [if_pos (by omega), if_pos (by omega), Int.toNat_natCast, h1]
      refine hp_some ⟨by rw [cb_u_same]; omega, fun t ht => by rw [cb_u_ne _ _ _ _ ht, cb_u_other _ _ _ (by decide)], fun j hj => ?_, fun k x y => by rw [cb_u_other _ _ _ x, cb_u_other _ _ _ y]⟩
      rw [cb_u_other _ _ _ (by decide)]
      unfold insS
      by_cases ej : j = p
      · rw [ej, cb_u_same, if_neg (by omega), if_pos rfl]
      · rw [cb_u_ne _ _ _ _ ej]
        by_cases ej2 : j < p
        · rw [if_pos ej2]
          exact hB j (by omega)
        · rw [if_neg ej2, if_neg ej]
          exact hA j (by omega) (by omega)
    · rw [if_neg (by omega), show (i : Int) - 1 = ((i - 1 : Nat) : Int) by omega, cb_wn (n := i - 1) (by omega), if_pos (by omega), if_pos (by omega), Int.toNat_natCast, Int.toNat_natCast, show (i : Int) + (-1) = ((i - 1 : Nat) : Int) by omega]
      refine hp_imp (ih (i - 1) _ (by rw [cb_u_other _ _ _ (by decide)]; exact h1) (by omega) (by omega) (by omega) (fun j hj hj2 => ?_) (fun j hj => ?_)) (fun _ g2 ⟨q1, q2, q3, q4⟩ => ⟨q1, fun t ht => by rw [q2 t ht, cb_u_other _ _ _ (by decide)], q3, fun k x y => by rw [q4 k x y, cb_u_other _ _ _ y]⟩)
      · by_cases ej : j = i
        · rw [ej, cb_u_same]
          exact hB (i - 1) (by omega)
        · rw [cb_u_ne _ _ _ _ ej]
          exact hA j (by omega) hj2
      · rw [cb_u_ne _ _ _ _ (by omega)]
        exact hB j (by omega)
theorem p_insert {g : cb_S} {w : Int} {n p : Nat} {s : Nat → Int} {b : Int} (hl : ln_C g w n s) (hp9 : p ≤ n) (hn : n < 60) (hb9 : sg_k b ≠ -1) : hp (f_X3_insert g (p : Int) b) (fun _ g2 => ln_C g2 w (n + 1) (insS s p b) ∧ ∀ k, k ≠ 1 → k ≠ 8 → g2 k = g k) := by
  obtain ⟨e1, e2, hn6, hs, hb, hw⟩ := id hl
  have hi := sg_in hb9
  unfold f_X3_insert
  rw [e1, cb_wn (n := p) (by omega), cb_wn (n := n) (by omega), if_neg (by omega), if_neg (by omega), if_pos (by omega)]
  refine hp_imp (p_insert1 (s := s) (b := b) hp9 hn cb_N n g e1 hp9 (Nat.le_refl _) (by unfold cb_N; omega) (fun j x y => by omega) hs) (fun _ g2 ⟨q1, q2, q3, q4⟩ => ⟨⟨q1, by rw [q2 2 (by decide)]; exact e2, by omega, q3, fun i hi9 => ?_, hw⟩, q4⟩)
  unfold insS
  split
  · exact hb i (by omega)
  · split
    · exact hi
    · exact hb _ (by omega)
theorem q_type1 {n p : Nat} {s : Nat → Int} {b : Int} (hp : p ≤ n) (hn : n < 60) : ∀ (m i : Nat) (g : cb_S), g 0 1 = (n : Int) → g 0 3 = (p : Int) → p ≤ i → i ≤ n → i < p + m → (∀ j, i < j → j ≤ n → g 1 j = s (j - 1)) → (∀ j, j < i → g 1 j = s j) → ∃ g2 : cb_S, f_X9_type_b27 m b (i : Int) g = cb_b (f_X9_settles g2) (fun r2 g3 => some (1, g3)) ∧ g2 0 1 = ((n + 1 : Nat) : Int) ∧ g2 0 3 = ((p + 1 : Nat) : Int) ∧ g2 0 4 = 0 ∧ (∀ t, t ≠ 1 → t ≠ 3 → t ≠ 4 → g2 0 t = g 0 t) ∧ (∀ j, j < n + 1 → g2 1 j = insS s p b j) ∧ ∀ k, k ≠ 0 → k ≠ 1 → g2 k = g k := by
  intro m
  induction m with
  | zero => intro i g h1 h0 h2 h3 h4; omega
  | succ m ih =>
    intro i g h1 h0 h2 h3 h4 hA hB
    rw [f_X9_type_b27]
    dsimp only
    unfold f_X9_goes
    rw [h0, cb_wn (n := p) (by omega), cb_wn (n := i) (by omega)]
    by_cases e : i ≤ p
    · rw [if_pos (by omega), if_pos (by omega), Int.toNat_natCast, h1, cb_b_some]
      refine ⟨_, rfl, ?_, ?_, cb_u_same _ _ _ _, fun t x y z => ?_, fun j hj => ?_, fun k x y => ?_⟩
      · rw [cb_u_ne _ _ _ _ (by decide), cb_u_ne _ _ _ _ (by decide), cb_u_same]
        omega
      · rw [cb_u_ne _ _ _ _ (by decide), cb_u_same]
        omega
      · rw [cb_u_ne _ _ _ _ z, cb_u_ne _ _ _ _ y, cb_u_ne _ _ _ _ x, cb_u_other _ _ _ (by decide)]
      · rw [cb_u_other _ _ _ (by decide), cb_u_other _ _ _ (by decide), cb_u_other _ _ _ (by decide)]
        unfold insS
        by_cases ej : j = p
        · rw [ej, cb_u_same, if_neg (by omega), if_pos rfl]
        · rw [cb_u_ne _ _ _ _ ej]
          by_cases ej2 : j < p
          · rw [if_pos ej2]
            exact hB j (by omega)
          · rw [if_neg ej2, if_neg ej]
            exact hA j (by omega) (by omega)
      · rw [cb_u_other _ _ _ x, cb_u_other _ _ _ x, cb_u_other _ _ _ x, cb_u_other _ _ _ y]
    · rw [if_neg (by omega), show (i : Int) - 1 = ((i - 1 : Nat) : Int) by omega, cb_wn (n := i - 1) (by omega), if_pos (by omega), if_pos (by omega), Int.toNat_natCast, Int.toNat_natCast, show (i : Int) + (-1) = ((i - 1 : Nat) : Int) by omega]
      obtain ⟨g2, q0, q1, q2, q3, q4, q5, q6⟩ := ih (i - 1) (cb_u g 1 i (g 1 (i - 1))) (by rw [cb_u_other _ _ _ (by decide)]; exact h1) (by rw [cb_u_other _ _ _ (by decide)]; exact h0) (by omega) (by omega) (by omega) (fun j hj hj2 => by
        by_cases ej : j = i
        · rw [ej, cb_u_same]
          exact hB (i - 1) (by omega)
        · rw [cb_u_ne _ _ _ _ ej]
          exact hA j (by omega) hj2) (fun j hj => by
        rw [cb_u_ne _ _ _ _ (by omega)]
        exact hB j (by omega))
      exact ⟨g2, q0, q1, q2, q3, fun t x y z => by rw [q4 t x y z, cb_u_other _ _ _ (by decide)], q5, fun k x y => by rw [q6 k x y, cb_u_other _ _ _ y]⟩
theorem o18 : lw_o18 Rel := by
  intro gC gM hR x hx
  obtain ⟨w, n, s, p, d, h⟩ := hR
  have hn := h.2.2.2.2.2.1.2.2.1
  have no : ∃ r gC2 r2 gM2, (some ((0 : Int), gC)) = some (r, gC2) ∧ (some ((0 : Int), gM)) = some (r2, gM2) ∧ cb_w r = cb_w r2 ∧ Rel gC2 gM2 := ⟨0, gC, 0, gM, rfl, rfl, rfl, ⟨w, n, s, p, d, h⟩⟩
  unfold f_X8_type f_X9_type v_X3_hasRoomFor
  rw [v_isSign hx, Option.bind_some, m_isSign hx, Option.bind_some, h.1.1.1.1, h.2.2.2.2.2.1.1, cb_wn (n := n) (by omega), cb_id (x := 60 - (n : Int)) (by omega) (by omega), show cb_w 1 = 1 by decide]
  by_cases hs : sg_k x = -1
  · rw [if_pos hs, if_pos (show cb_w 0 = 0 by decide), if_pos (show cb_w 0 = 0 by decide)]
    exact no
  · rw [if_neg hs, show cb_w 1 = 1 by decide, if_neg (show ¬ (1 : Int) = 0 by decide), if_neg (show ¬ (1 : Int) = 0 by decide)]
    by_cases e60 : n = 60
    · rw [if_pos (show 60 - (n : Int) < 1 by omega), Option.bind_some, if_pos (show cb_w 0 = 0 by decide), if_pos (show (n : Int) = 60 by omega)]
      exact no
    · rw [if_neg (show ¬ 60 - (n : Int) < 1 by omega), Option.bind_some, if_neg (show ¬ cb_w 1 = 0 by decide), if_neg (show ¬ (n : Int) = 60 by omega)]
      obtain ⟨r, gC1, r1, gM1, z1, z2, z3⟩ := j_keep h
      obtain ⟨a1, a2, a3, a4, a5, a6, a7, a8, a9, a10⟩ := id z3
      have hp := isS_le a5.1
      obtain ⟨r2, gC2, z4, z5, z6⟩ := p_insert (b := x) a1.1.1 (p := p) (by omega) (by omega) hs
      have hv := insS_vld (p := p) a2 hs (by omega)
      obtain ⟨r3, gC3, z7, z8, z9⟩ := p_layOut z5 hv.2
      obtain ⟨g2, q0, q1, q2, q3, q4, q5, q6⟩ := q_type1 (s := s) (b := x) (p := p) (n := n) (by omega) (by omega) cb_N n gM1 a6.1 a7 (by omega) (Nat.le_refl _) (by unfold cb_N; omega) (fun j x y => by omega) a6.2.2.2.1
      have kC : ∀ k, ¬ lay_w k → k ≠ 1 → k ≠ 8 → gC3 k = gC1 k := fun k x y z => by rw [z9 k x, z6 k y z]
      have g35 : gC3 5 2 = (p : Int) := by rw [kC 5 (by unfold lay_w; omega) (by decide) (by decide)]; exact a3
      obtain ⟨r4, gC4, r5, gM4, y1, y2, q, e2, y3⟩ := j_settle (x := p + 1) (e := 0) z8 hv ⟨q1, by rw [q4 0 (by decide) (by decide) (by decide)]; exact a6.2.1, by omega, q5, hv.1, a6.2.2.2.2.2⟩ (hist_keep a9 (kC 7 (by unfold lay_w; omega) (by decide) (by decide)) (fun k hk9 => kC k (by unfold lay_w; omega) (by omega) (by omega)) (q4 5 (by decide) (by decide) (by decide)) (fun k y z => q6 k (by omega) (by omega))) (pcs_keep a10 (kC 6 (by unfold lay_w; omega) (by decide) (by decide)) (kC 30 (by unfold lay_w; omega) (by decide) (by decide)) (kC 31 (by unfold lay_w; omega) (by decide) (by decide)) (q4 29 (by decide) (by decide) (by decide)) (q6 21 (by decide) (by decide)) (q6 22 (by decide) (by decide))) (by omega) (Or.inl rfl) q2 q3
      unfold v_X0_stand
      rw [z1, cb_b_some, Option.bind_some, a3, z4, cb_b_some, z7, cb_b_some, Option.bind_some, g35, show (p : Int) + 1 = ((p + 1 : Nat) : Int) by omega, y1, cb_b_some, z2, cb_b_some, a6.1, q0, y2, cb_b_some]
      exact ⟨1, _, 1, _, rfl, rfl, rfl, ⟨_, _, _, _, _, y3⟩⟩
/-! taken back -/
theorem p_load1 {n a : Nat} (ha : a ≠ 1 ∧ a ≠ 8) (hn : n ≤ 60) : ∀ (m i : Nat) (g : cb_S), g 1 1 = (i : Int) → i ≤ n → n < i + m → (∀ j, j < i → g 8 j = g a j) → hp (f_X3_loadFrom_b7 a 60 m (n : Int) (i : Int) g) (fun _ g2 => g2 1 1 = (n : Int) ∧ (∀ t, t ≠ 1 → g2 1 t = g 1 t) ∧ (∀ j, j < n → g2 8 j = g a j) ∧ ∀ k, k ≠ 1 → k ≠ 8 → g2 k = g k) := by
  intro m
  induction m with
  | zero => intro i g h1 h2 h3; omega
  | succ m ih =>
    intro i g h1 h2 h3 hj
    rw [f_X3_loadFrom_b7]
    dsimp only
    rw [cb_wn (n := n) (by omega), cb_wn (n := i) (by omega), cb_wn (n := 60) (by omega)]
    by_cases e : n ≤ i
    · rw [if_pos (by omega)]
      exact hp_some ⟨by rw [h1]; omega, fun _ _ => rfl, fun j hj9 => hj j (by omega), fun _ _ _ => rfl⟩
    · rw [if_neg (by omega), if_neg (by omega), if_neg (by omega), if_pos (by omega), if_pos (by omega), Int.toNat_natCast, h1, show (i : Int) + 1 = ((i + 1 : Nat) : Int) by omega]
      refine hp_imp (ih (i + 1) _ (cb_u_same _ _ _ _) (by omega) (by omega) (fun j hj9 => ?_)) (fun _ g2 ⟨q1, q2, q3, q4⟩ => ⟨q1, fun t ht => by rw [q2 t ht, cb_u_ne _ _ _ _ ht, cb_u_other _ _ _ (by decide)], fun j hj9 => ?_, fun k x y => by rw [q4 k x y, cb_u_other _ _ _ x, cb_u_other _ _ _ y]⟩)
      · rw [cb_u_other _ _ _ (show (8 : Nat) ≠ 1 by decide), cb_u_other _ _ _ ha.1, cb_u_other _ _ _ ha.2]
        by_cases ej : j = i
        · rw [ej, cb_u_same]
        · rw [cb_u_ne _ _ _ _ ej]
          exact hj j (by omega)
      · rw [q3 j hj9, cb_u_other _ _ _ ha.1, cb_u_other _ _ _ ha.2]
theorem q_undo1 {c : Nat} (hc : c < 8) : ∀ (m k : Nat) (g : cb_S), g 0 5 = (c : Int) → k ≤ 64 → 64 < k + m → (∀ j, j < k → g 1 j = g 3 (64 * c + j)) → ∃ g2, f_X9_undo_b60 m (k : Int) g = some ((c : Int), g2) ∧ (∀ j, j < 64 → g2 1 j = g 3 (64 * c + j)) ∧ ∀ k, k ≠ 1 → g2 k = g k := by
  intro m
  induction m with
  | zero => intro k g h1 h2 h3; omega
  | succ m ih =>
    intro k g h1 h2 h3 hj
    rw [f_X9_undo_b60]
    dsimp only
    rw [h1, cb_wn (n := k) (by omega)]
    by_cases e : 64 ≤ k
    · rw [if_pos (by omega)]
      exact ⟨g, rfl, fun j hj9 => hj j (by omega), fun _ _ => rfl⟩
    · rw [if_neg (by omega), show 64 * (c : Int) + (k : Int) = ((64 * c + k : Nat) : Int) by omega, cb_wn (n := 64 * c + k) (by omega), if_pos (by omega), if_pos (by omega), Int.toNat_natCast, Int.toNat_natCast, show (k : Int) + 1 = ((k + 1 : Nat) : Int) by omega]
      obtain ⟨g2, q1, q2, q3⟩ := ih (k + 1) (cb_u g 1 k (g 3 (64 * c + k))) (by rw [cb_u_other _ _ _ (by decide)]; exact h1) (by omega) (by omega) (fun j hj9 => by
        rw [cb_u_other _ _ _ (show (3 : Nat) ≠ 1 by decide)]
        by_cases ej : j = k
        · rw [ej, cb_u_same]
        · rw [cb_u_ne _ _ _ _ ej]
          exact hj j (by omega))
      exact ⟨g2, q1, fun j hj9 => by rw [q2 j hj9, cb_u_other _ _ _ (by decide)], fun k x => by rw [q3 k x, cb_u_other _ _ _ x]⟩
theorem c_stay {g : cb_S} {w : Int} {n : Nat} {s : Nat → Int} (a1 : laid g w n s) {p : Nat} {d : Int} (hc : cst n s p d) : f_X0_settle g (p : Int) d = some (0, cb_u (cb_u g 5 2 (p : Int)) 5 3 d) := by
  have cv := laid_vw a1
  obtain ⟨c1, c2, c3, c4, c5, c6, c7, hn, hw, hcl, c11⟩ := id cv
  have hp := isS_le hc.1
  have hup : upS n s (n + 1 - p) p = (p : Int) := by
    rw [show n + 1 - p = (n - p) + 1 by omega]
    unfold upS
    rw [if_pos hc.1]
  unfold f_X0_settle
  rw [c_up hcl c5 hn (by omega), hup, Option.bind_some, if_pos rfl, c_pl hcl hn ⟨by omega, by omega⟩, cb_b_some]
  by_cases z : hh n s (p : Int) = -1
  · rw [if_pos z]
  · rw [if_neg z, hc.2.2 z]
theorem o20 : lw_o20 Rel := by
  intro gC gM hR
  obtain ⟨w, n, s, p, d, h⟩ := hR
  obtain ⟨a1, a2, a3, a4, a5, a6, a7, a8, ⟨x, c, x1, x2, x3, x4, x5, x6⟩, a10⟩ := id h
  have hn := a6.2.2.1
  unfold f_X8_undo f_X2_takeBack f_X9_undo
  rw [x4, x3, x5, cb_wn (n := c) (by omega), cb_wn (n := x) (by omega)]
  by_cases c0 : c = 0
  · rw [if_neg (by omega), cb_b_some, if_pos (show cb_w 0 = 0 by decide), if_pos (by omega)]
    exact ⟨-1, gC, -1, gM, rfl, rfl, rfl, ⟨w, n, s, p, d, h⟩⟩
  · obtain ⟨n2, s2, p2, d2, y1, y2, y3, y4, y5, y6, y7, y8, y9, y10⟩ := x6 (c - 1) (by omega)
    have hj : (x + 8 - c + (c - 1)) % 8 = (x + 7) % 8 := by omega
    rw [hj] at y2 y4 y5 y7
    have hj8 : (x + 7) % 8 < 8 := by omega
    generalize hJ : (x + 7) % 8 = J at y2 y4 y5 y7 hj8
    have hb28 : ∀ v : Int, v = (J : Int) → ∃ g1, f_X2_takeBack_b28 v gC = some (1, g1) ∧ ln_C g1 w n2 s2 ∧ g1 7 4 = (J : Int) ∧ g1 7 5 = ((c - 1 : Nat) : Int) ∧ ∀ k, k ≠ 1 → k ≠ 7 → k ≠ 8 → g1 k = gC k := by
      intro v hv
      rw [hv]
      unfold f_X2_takeBack_b28 f_X3_loadFrom
      rw [cb_wn (n := J) (by omega), if_neg (by omega), if_pos (by omega), if_pos (by omega), Int.toNat_natCast, y2, x4]
      obtain ⟨r, g1, e, q1, q2, q3, q4⟩ := p_load1 (n := n2) (a := 36 + J) ⟨by omega, by omega⟩ y1 cb_N 0 (cb_u (cb_u (cb_u gC 7 4 (J : Int)) 7 5 ((c : Int) - 1)) 1 1 0) (cb_u_same _ _ _ _) (Nat.zero_le _) (by unfold cb_N; omega) (fun j hj => by omega)
      have e' : f_X3_loadFrom_b7 (36 + J) 60 cb_N (n2 : Int) 0 (cb_u (cb_u (cb_u gC 7 4 (J : Int)) 7 5 ((c : Int) - 1)) 1 1 0) = some (r, g1) := e
      rw [e', cb_b_some]
      refine ⟨g1, rfl, ⟨q1, ?_, y1, fun i hi => ?_, y9.1, a6.2.2.2.2.2⟩, ?_, ?_, fun k u v z => ?_⟩
      · rw [q2 2 (by decide), cb_u_ne _ _ _ _ (by decide), cb_u_other _ _ _ (by decide), cb_u_other _ _ _ (by decide)]
        exact a1.1.1.2.1
      · rw [q3 i hi, cb_u_other _ _ _ (by omega), cb_u_other _ _ _ (by omega), cb_u_other _ _ _ (by omega)]
        exact (y4 i hi).1
      · rw [q4 7 (by decide) (by decide), cb_u_other _ _ _ (by decide), cb_u_ne _ _ _ _ (by decide), cb_u_same]
      · rw [q4 7 (by decide) (by decide), cb_u_other _ _ _ (by decide), cb_u_same]
        omega
      · rw [q4 k u z, cb_u_other _ _ _ u, cb_u_other _ _ _ v, cb_u_other _ _ _ v]
    have hM : ∃ gM2, (if 0 ≤ cb_w ((c : Int) - 1) ∧ cb_w ((c : Int) - 1) < ((8 : Nat) : Int) then (if 0 ≤ cb_w ((c : Int) - 1) ∧ cb_w ((c : Int) - 1) < ((8 : Nat) : Int) then (if 0 ≤ cb_w ((c : Int) - 1) ∧ cb_w ((c : Int) - 1) < ((8 : Nat) : Int) then (f_X9_undo_b60 cb_N 0 (cb_u (cb_u (cb_u (cb_u gM 0 5 ((c : Int) - 1)) 0 1 (gM 2 ((cb_w ((c : Int) - 1)).toNat))) 0 3 (gM 4 ((cb_w ((c : Int) - 1)).toNat))) 0 4 (gM 5 ((cb_w ((c : Int) - 1)).toNat)))) else none) else none) else none) = some (((c - 1 : Nat) : Int), gM2) ∧ ln_M gM2 w n2 s2 ∧ gM2 0 3 = (p2 : Int) ∧ gM2 0 4 = d2 ∧ gM2 0 5 = ((c - 1 : Nat) : Int) ∧ (∀ t, t ≠ 1 → t ≠ 3 → t ≠ 4 → t ≠ 5 → gM2 0 t = gM 0 t) ∧ ∀ k, k ≠ 0 → k ≠ 1 → gM2 k = gM k := by
      rw [show (c : Int) - 1 = ((c - 1 : Nat) : Int) by omega, cb_wn (n := c - 1) (by omega), if_pos (by omega), if_pos (by omega), if_pos (by omega), Int.toNat_natCast, y3, y6, y8]
      generalize hG : cb_u (cb_u (cb_u (cb_u gM 0 5 ((c - 1 : Nat) : Int)) 0 1 (n2 : Int)) 0 3 (p2 : Int)) 0 4 d2 = G
      have Gk : ∀ k, k ≠ 0 → G k = gM k := fun k u => by rw [← hG, cb_u_other _ _ _ u, cb_u_other _ _ _ u, cb_u_other _ _ _ u, cb_u_other _ _ _ u]
      have G5 : G 0 5 = ((c - 1 : Nat) : Int) := by rw [← hG, cb_u_ne _ _ _ _ (by decide), cb_u_ne _ _ _ _ (by decide), cb_u_ne _ _ _ _ (by decide), cb_u_same]
      obtain ⟨gM2, q1, q2, q3⟩ := q_undo1 (c := c - 1) (by omega) cb_N 0 G G5 (by omega) (by unfold cb_N; omega) (fun j hj => by omega)
      have q1' : f_X9_undo_b60 cb_N 0 G = some (((c - 1 : Nat) : Int), gM2) := q1
      refine ⟨gM2, q1', ⟨?_, ?_, y1, fun i hi => ?_, y9.1, a6.2.2.2.2.2⟩, ?_, ?_, ?_, fun t u v z y => ?_, fun k u v => ?_⟩
      · rw [q3 0 (by decide), ← hG, cb_u_ne _ _ _ _ (by decide), cb_u_ne _ _ _ _ (by decide), cb_u_same]
      · rw [q3 0 (by decide), ← hG, cb_u_ne _ _ _ _ (by decide), cb_u_ne _ _ _ _ (by decide), cb_u_ne _ _ _ _ (by decide), cb_u_ne _ _ _ _ (by decide)]
        exact a6.2.1
      · rw [q2 i (by omega), Gk 3 (by decide)]
        exact (y4 i hi).2
      · rw [q3 0 (by decide), ← hG, cb_u_ne _ _ _ _ (by decide), cb_u_same]
      · rw [q3 0 (by decide), ← hG, cb_u_same]
      · rw [q3 0 (by decide)]; exact G5
      · rw [q3 0 (by decide), ← hG, cb_u_ne _ _ _ _ z, cb_u_ne _ _ _ _ v, cb_u_ne _ _ _ _ u, cb_u_ne _ _ _ _ y]
      · rw [q3 k v, Gk k u]
    obtain ⟨gM2, m1, m2, m3, m4, m5, m6, m7⟩ := hM
    have main : ∀ v : Int, v = (J : Int) → ∃ r gC2 r2 gM2, cb_b (f_X2_takeBack_b28 v gC) (fun r1 g1 => if cb_w r1 = 0 then (some (-1, g1)) else (cb_b (f_X8_layOut g1) (fun r2 g2 => (v_X2_standTaken g2).bind (fun r3 => (v_X2_sideTaken g2).bind (fun r4 => cb_b (f_X0_settle g2 r3 r4) (fun r5 g5 => (v_X2_number g5).bind (fun r6 => some (r6, g5)))))))) = some (r, gC2) ∧ (if 0 ≤ cb_w ((c : Int) - 1) ∧ cb_w ((c : Int) - 1) < ((8 : Nat) : Int) then (if 0 ≤ cb_w ((c : Int) - 1) ∧ cb_w ((c : Int) - 1) < ((8 : Nat) : Int) then (if 0 ≤ cb_w ((c : Int) - 1) ∧ cb_w ((c : Int) - 1) < ((8 : Nat) : Int) then (f_X9_undo_b60 cb_N 0 (cb_u (cb_u (cb_u (cb_u gM 0 5 ((c : Int) - 1)) 0 1 (gM 2 ((cb_w ((c : Int) - 1)).toNat))) 0 3 (gM 4 ((cb_w ((c : Int) - 1)).toNat))) 0 4 (gM 5 ((cb_w ((c : Int) - 1)).toNat)))) else none) else none) else none) = some (r2, gM2) ∧ cb_w r = cb_w r2 ∧ Rel gC2 gM2 := by
      intro v hv
      obtain ⟨g1, b1, b2, b3, b4, b5⟩ := hb28 v hv
      obtain ⟨r3, g2, z7, z8, z9⟩ := p_layOut b2 y9.2
      have k7 : g2 7 = g1 7 := z9 7 (by unfold lay_w; omega)
      have kC : ∀ k, ¬ lay_w k → k ≠ 1 → k ≠ 7 → k ≠ 8 → g2 k = gC k := fun k x y z u => by rw [z9 k x, b5 k y z u]
      have hst : v_X2_standTaken g2 = some (p2 : Int) := by
        unfold v_X2_standTaken
        rw [k7, b3, v_val (by decide) ⟨by omega, by omega⟩, Option.bind_some, if_pos (by omega), Int.toNat_natCast, kC 34 (by unfold lay_w; omega) (by decide) (by decide) (by decide), y5]
      have hsi : v_X2_sideTaken g2 = some d2 := by
        unfold v_X2_sideTaken
        rw [k7, b3, v_val (by decide) ⟨by omega, by omega⟩, Option.bind_some, if_pos (by omega), Int.toNat_natCast, kC 35 (by unfold lay_w; omega) (by decide) (by decide) (by decide), y7]
      unfold v_X2_number
      rw [b1, cb_b_some, if_neg (show ¬ cb_w 1 = 0 by decide), z7, cb_b_some, hst, Option.bind_some, hsi, Option.bind_some, c_stay z8 y10, cb_b_some, Option.bind_some, cb_u_other _ _ _ (show (7 : Nat) ≠ 5 by decide), cb_u_other _ _ _ (show (7 : Nat) ≠ 5 by decide), k7, b4, m1]
      have k5 : ∀ k, k ≠ 5 → (cb_u (cb_u g2 5 2 (p2 : Int)) 5 3 d2) k = g2 k := fun k u => by rw [cb_u_other _ _ _ u, cb_u_other _ _ _ u]
      refine ⟨_, _, _, _, rfl, rfl, rfl, ⟨w, n2, s2, p2, d2, laid_keep z8 (fun k hk => k5 k (by unfold lay_w at hk; omega)), y9, by rw [cb_u_ne _ _ _ _ (by decide), cb_u_same], cb_u_same _ _ _ _, y10, m2, m3, m4, ⟨J, c - 1, hj8, by omega, by rw [k5 7 (by decide), k7]; exact b3, by rw [k5 7 (by decide), k7]; exact b4, m5, fun i hi => ?_⟩, pcs_keep a10 (by rw [k5 6 (by decide)]; exact kC 6 (by unfold lay_w; omega) (by decide) (by decide) (by decide)) (by rw [k5 30 (by decide)]; exact kC 30 (by unfold lay_w; omega) (by decide) (by decide) (by decide)) (by rw [k5 31 (by decide)]; exact kC 31 (by unfold lay_w; omega) (by decide) (by decide) (by decide)) (m6 29 (by decide) (by decide) (by decide) (by decide)) (m7 21 (by decide) (by decide)) (m7 22 (by decide) (by decide))⟩⟩
      have := x6 i (by omega)
      rw [show (x + 8 - c + i) % 8 = (J + 8 - (c - 1) + i) % 8 by omega] at this
      exact ent_keep this (fun k hk => by rw [k5 k (by omega)]; exact kC k (by unfold lay_w; omega) (by omega) (by omega) (by omega)) (fun k u v => m7 k (by omega) (by omega))
    rw [if_pos (show 0 < (c : Int) by omega), if_neg (show ¬ (c : Int) = 0 by omega)]
    by_cases e : x = 0
    · rw [if_neg (by omega)]
      exact main 7 (by omega)
    · rw [if_pos (by omega)]
      exact main ((x : Int) - 1) (by omega)
