/-! kept for undo -/
theorem p_save {n a : Nat} (ha : a ≠ 1 ∧ a ≠ 8) (hn : n ≤ 60) : ∀ (m i : Nat) (g : cb_S), g 1 1 = (n : Int) → i ≤ n → n < i + m → (∀ j, j < i → g a j = g 8 j) → hp (f_X3_saveTo_b2 a 60 m (i : Int) g) (fun _ g2 => (∀ j, j < n → g2 a j = g 8 j) ∧ ∀ k, k ≠ a → g2 k = g k) := by
  intro m
  induction m with
  | zero => intro i g h1 h2 h3; omega
  | succ m ih =>
    intro i g h1 h2 h3 hj
    rw [f_X3_saveTo_b2]
    dsimp only
    rw [h1, cb_wn (n := n) (by omega), cb_wn (n := i) (by omega), cb_wn (n := 60) (by omega)]
    by_cases e : n ≤ i
    · rw [if_pos (by omega)]
      exact hp_some ⟨fun j hj9 => hj j (by omega), fun _ _ => rfl⟩
    · rw [if_neg (by omega), if_neg (by omega), if_pos (by omega), if_pos (by omega), Int.toNat_natCast, show (i : Int) + 1 = ((i + 1 : Nat) : Int) by omega]
      refine hp_imp (ih (i + 1) _ (by rw [cb_u_other _ _ _ (fun z => ha.1 z.symm)]; exact h1) (by omega) (by omega) (fun j hj9 => ?_)) (fun _ g2 ⟨q1, q2⟩ => ⟨fun j hj9 => ?_, fun k hk => by rw [q2 k hk, cb_u_other _ _ _ hk]⟩)
      · rw [cb_u_other _ _ _ (fun z => ha.2 z.symm)]
        by_cases ej : j = i
        · rw [ej, cb_u_same]
        · rw [cb_u_ne _ _ _ _ ej]
          exact hj j (by omega)
      · rw [q1 j hj9, cb_u_other _ _ _ (fun z => ha.2 z.symm)]
/-- keep() of the class: into slot x of the ring -/
theorem p_keep {g : cb_S} {w : Int} {n : Nat} {s : Nat → Int} (hl : ln_C g w n s) {x c : Nat} (hx : x < 8) (hc : c ≤ 8) (h4 : g 7 4 = (x : Int)) (h5 : g 7 5 = (c : Int)) {p d : Int} : hp (f_X2_keep g p d) (fun _ g2 => g2 7 4 = (((x + 1) % 8 : Nat) : Int) ∧ g2 7 5 = ((if c < 8 then c + 1 else 8 : Nat) : Int) ∧ (∀ j, g2 33 j = if j = x then (n : Int) else g 33 j) ∧ (∀ j, g2 34 j = if j = x then p else g 34 j) ∧ (∀ j, g2 35 j = if j = x then d else g 35 j) ∧ (∀ j, j < n → g2 (36 + x) j = s j) ∧ (∀ k, k ≠ 7 → k ≠ 33 → k ≠ 34 → k ≠ 35 → k ≠ 36 + x → g2 k = g k)) := by
  obtain ⟨e1, e2, hn, hs, hb, hw⟩ := id hl
  unfold f_X2_keep f_X3_saveTo
  rw [h4, cb_wn (n := x) (by omega), if_neg (by omega), if_pos (by omega), if_pos (by omega), Int.toNat_natCast]
  refine hp_b (p_save (n := n) (a := 36 + x) ⟨by omega, by omega⟩ hn cb_N 0 g e1 (Nat.zero_le _) (by unfold cb_N; omega) (fun j hj => by omega)) (fun _ g1 ⟨q1, q2⟩ => ?_)
  have k7 : g1 7 = g 7 := q2 7 (by omega)
  unfold v_X3_length f_X2_keep_b83
  rw [Option.bind_some, k7, h4, cb_wn (n := x) (by omega), if_pos (by omega), if_pos (by omega), if_pos (by omega), Int.toNat_natCast, q2 1 (by omega), e1]
  have fin : ∀ v : Int, v = (((x + 1) % 8 : Nat) : Int) → hp (some (0, cb_u (cb_u (cb_u (cb_u (cb_u g1 33 x (n : Int)) 34 x p) 35 x d) 7 4 v) 7 5 (if cb_w ((cb_u (cb_u (cb_u g1 33 x (n : Int)) 34 x p) 35 x d) 7 5 + 1) ≤ cb_w 8 then (cb_u (cb_u (cb_u g1 33 x (n : Int)) 34 x p) 35 x d) 7 5 + 1 else 8))) (fun _ g2 => g2 7 4 = (((x + 1) % 8 : Nat) : Int) ∧ g2 7 5 = ((if c < 8 then c + 1 else 8 : Nat) : Int) ∧ (∀ j, g2 33 j = if j = x then (n : Int) else g 33 j) ∧ (∀ j, g2 34 j = if j = x then p else g 34 j) ∧ (∀ j, g2 35 j = if j = x then d else g 35 j) ∧ (∀ j, j < n → g2 (36 + x) j = s j) ∧ (∀ k, k ≠ 7 → k ≠ 33 → k ≠ 34 → k ≠ 35 → k ≠ 36 + x → g2 k = g k)) := by
    intro v hv
    have e75 : (cb_u (cb_u (cb_u g1 33 x (n : Int)) 34 x p) 35 x d) 7 5 = (c : Int) := by
      rw [cb_u_other _ _ _ (by decide), cb_u_other _ _ _ (by decide), cb_u_other _ _ _ (by decide), k7]
      exact h5
    rw [e75]
    refine hp_some ⟨?_, ?_, fun j => ?_, fun j => ?_, fun j => ?_, fun j hj => ?_, fun k y1 y2 y3 y4 y5 => ?_⟩
    · rw [cb_u_ne _ _ _ _ (by decide), cb_u_same, hv]
    · rw [cb_u_same, cb_id (x := (c : Int) + 1) (by omega) (by omega), show cb_w 8 = 8 by decide]
      by_cases e : c < 8
      · rw [if_pos (by omega), if_pos e]
        omega
      · rw [if_neg (by omega), if_neg e]
        rfl
    · rw [cb_u_other _ _ _ (by decide), cb_u_other _ _ _ (by decide), cb_u_other _ _ _ (by decide), cb_u_other _ _ _ (by decide)]
      by_cases e : j = x
      · rw [if_pos e, e, cb_u_same]
      · rw [if_neg e, cb_u_ne _ _ _ _ e, q2 33 (by omega)]
    · rw [cb_u_other _ _ _ (by decide), cb_u_other _ _ _ (by decide), cb_u_other _ _ _ (by decide)]
      by_cases e : j = x
      · rw [if_pos e, e, cb_u_same]
      · rw [if_neg e, cb_u_ne _ _ _ _ e, cb_u_other _ _ _ (by decide), q2 34 (by omega)]
    · rw [cb_u_other _ _ _ (by decide), cb_u_other _ _ _ (by decide)]
      by_cases e : j = x
      · rw [if_pos e, e, cb_u_same]
      · rw [if_neg e, cb_u_ne _ _ _ _ e, cb_u_other _ _ _ (by decide), cb_u_other _ _ _ (by decide), q2 35 (by omega)]
    · rw [cb_u_other _ _ _ (by omega), cb_u_other _ _ _ (by omega), cb_u_other _ _ _ (by omega), cb_u_other _ _ _ (by omega), cb_u_other _ _ _ (by omega), q1 j hj]
      exact hs j hj
    · rw [cb_u_other _ _ _ y1, cb_u_other _ _ _ y1, cb_u_other _ _ _ y4, cb_u_other _ _ _ y3, cb_u_other _ _ _ y2, q2 k y5]
  by_cases e : (x : Int) = 7
  · rw [if_pos e]
    exact fin 0 (by rw [show x = 7 by omega]; rfl)
  · rw [if_neg e]
    refine fin _ ?_
    rw [show (x + 1) % 8 = x + 1 by omega]
    omega
/-- the model copies its line behind what it keeps -/
theorem q_copy {c : Nat} (hc : c < 8) : ∀ (m k : Nat) (g : cb_S), g 0 5 = (c : Int) → k ≤ 64 → 64 < k + m → (∀ j, j < k → g 3 (64 * c + j) = g 1 j) → hp (f_X9_keeps_b142 m (k : Int) g) (fun _ g2 => g2 0 5 = ((c + 1 : Nat) : Int) ∧ (∀ t, t ≠ 5 → g2 0 t = g 0 t) ∧ (∀ j, j < 64 → g2 3 (64 * c + j) = g 1 j) ∧ (∀ q, (q < 64 * c ∨ 64 * c + 64 ≤ q) → g2 3 q = g 3 q) ∧ ∀ k, k ≠ 0 → k ≠ 3 → g2 k = g k) := by
  intro m
  induction m with
  | zero => intro k g h1 h2 h3; omega
  | succ m ih =>
    intro k g h1 h2 h3 hj
    rw [f_X9_keeps_b142]
    dsimp only
    rw [h1, cb_wn (n := k) (by omega)]
    by_cases e : 64 ≤ k
    · rw [if_pos (by omega)]
      refine hp_some ⟨by rw [cb_u_same]; omega, fun t ht => cb_u_ne _ _ _ _ ht, fun j hj9 => ?_, fun q _ => by rw [cb_u_other _ _ _ (by decide)], fun k x _ => cb_u_other _ _ _ x⟩
      rw [cb_u_other _ _ _ (by decide)]
      exact hj j (by omega)
    · rw [if_neg (by omega), if_pos (by omega), show 64 * (c : Int) + (k : Int) = ((64 * c + k : Nat) : Int) by omega, cb_wn (n := 64 * c + k) (by omega), if_pos (by omega), Int.toNat_natCast, Int.toNat_natCast, show (k : Int) + 1 = ((k + 1 : Nat) : Int) by omega]
      refine hp_imp (ih (k + 1) _ (by rw [cb_u_other _ _ _ (by decide)]; exact h1) (by omega) (by omega) (fun j hj9 => ?_)) (fun _ g2 ⟨q1, q2, q3, q4, q5⟩ => ⟨q1, fun t ht => by rw [q2 t ht, cb_u_other _ _ _ (by decide)], fun j hj9 => by rw [q3 j hj9, cb_u_other _ _ _ (by decide)], fun q hq => by rw [q4 q hq, cb_u_ne _ _ _ _ (by omega)], fun k x y => by rw [q5 k x y, cb_u_other _ _ _ y]⟩)
      rw [cb_u_other _ _ _ (show (1 : Nat) ≠ 3 by decide)]
      by_cases ej : j = k
      · rw [ej, cb_u_same]
      · rw [cb_u_ne _ _ _ _ (by omega)]
        exact hj j (by omega)
theorem q_keep1 {g : cb_S} {n p d : Int} {c : Nat} (hc : c < 8) (h5 : g 0 5 = (c : Int)) (h1 : g 0 1 = n) (h3 : g 0 3 = p) (h4 : g 0 4 = d) : hp (f_X9_keeps_b101 g) (fun _ g2 => g2 0 5 = ((c + 1 : Nat) : Int) ∧ (∀ t, t ≠ 5 → g2 0 t = g 0 t) ∧ (∀ j, g2 2 j = if j = c then n else g 2 j) ∧ (∀ j, g2 4 j = if j = c then p else g 4 j) ∧ (∀ j, g2 5 j = if j = c then d else g 5 j) ∧ (∀ j, j < 64 → g2 3 (64 * c + j) = g 1 j) ∧ (∀ q, (q < 64 * c ∨ 64 * c + 64 ≤ q) → g2 3 q = g 3 q) ∧ ∀ k, k ≠ 0 → ¬ (2 ≤ k ∧ k ≤ 5) → g2 k = g k) := by
  unfold f_X9_keeps_b101
  rw [h5, cb_wn (n := c) (by omega), if_pos (by omega), if_pos (by omega), if_pos (by omega), Int.toNat_natCast, h1, h3, h4]
  refine hp_imp (q_copy hc cb_N 0 _ (by rw [cb_u_other _ _ _ (by decide), cb_u_other _ _ _ (by decide), cb_u_other _ _ _ (by decide)]; exact h5) (by omega) (by unfold cb_N; omega) (fun j hj => by omega)) (fun _ g2 ⟨q1, q2, q3, q4, q5⟩ => ⟨q1, fun t ht => ?_, fun j => ?_, fun j => ?_, fun j => ?_, fun j hj => ?_, fun q hq => ?_, fun k x y => ?_⟩)
  · rw [q2 t ht, cb_u_other _ _ _ (by decide), cb_u_other _ _ _ (by decide), cb_u_other _ _ _ (by decide)]
  · rw [q5 2 (by decide) (by decide), cb_u_other _ _ _ (by decide), cb_u_other _ _ _ (by decide)]
    by_cases e : j = c
    · rw [if_pos e, e, cb_u_same]
    · rw [if_neg e, cb_u_ne _ _ _ _ e]
  · rw [q5 4 (by decide) (by decide), cb_u_other _ _ _ (by decide)]
    by_cases e : j = c
    · rw [if_pos e, e, cb_u_same]
    · rw [if_neg e, cb_u_ne _ _ _ _ e, cb_u_other _ _ _ (by decide)]
  · rw [q5 5 (by decide) (by decide)]
    by_cases e : j = c
    · rw [if_pos e, e, cb_u_same]
    · rw [if_neg e, cb_u_ne _ _ _ _ e, cb_u_other _ _ _ (by decide), cb_u_other _ _ _ (by decide)]
  · rw [q3 j hj, cb_u_other _ _ _ (by decide), cb_u_other _ _ _ (by decide), cb_u_other _ _ _ (by decide)]
  · rw [q4 q hq, cb_u_other _ _ _ (by decide), cb_u_other _ _ _ (by decide), cb_u_other _ _ _ (by decide)]
  · rw [q5 k x (by omega), cb_u_other _ _ _ (by omega), cb_u_other _ _ _ (by omega), cb_u_other _ _ _ (by omega)]
/-- the shift of the lines -/
theorem q_sh2 {g0 : cb_S} {Q : Int → cb_S → Prop} (hQ : ∀ g, (∀ i, i < 448 → g 3 i = g0 3 (i + 64)) → (∀ k, k ≠ 3 → g k = g0 k) → hp (f_X9_keeps_b101 (cb_u g 0 5 7)) Q) : ∀ (m k : Nat) (g : cb_S), k ≤ 448 → 448 < k + m → (∀ i, i < k → g 3 i = g0 3 (i + 64)) → (∀ i, k ≤ i → g 3 i = g0 3 i) → (∀ q, q ≠ 3 → g q = g0 q) → hp (f_X9_keeps_b67 m (k : Int) g) Q := by
  intro m
  induction m with
  | zero => intro k g h1 h2; omega
  | succ m ih =>
    intro k g h1 h2 hA hB hk
    rw [f_X9_keeps_b67]
    dsimp only
    rw [cb_wn (n := k) (by omega)]
    by_cases e : 448 ≤ k
    · rw [if_pos (by omega)]
      exact hQ g (fun i hi => hA i (by omega)) hk
    · rw [if_neg (by omega), show (k : Int) + 64 = ((k + 64 : Nat) : Int) by omega, cb_wn (n := k + 64) (by omega), if_pos (by omega), if_pos (by omega), Int.toNat_natCast, Int.toNat_natCast, show (k : Int) + 1 = ((k + 1 : Nat) : Int) by omega]
      refine ih (k + 1) _ (by omega) (by omega) (fun i hi => ?_) (fun i hi => ?_) (fun q hq => by rw [cb_u_other _ _ _ hq, hk q hq])
      · by_cases ei : i = k
        · rw [ei, cb_u_same]
          exact hB (k + 64) (by omega)
        · rw [cb_u_ne _ _ _ _ ei]
          exact hA i (by omega)
      · rw [cb_u_ne _ _ _ _ (by omega)]
        exact hB i (by omega)
theorem q_sh1 {g0 : cb_S} {Q : Int → cb_S → Prop} (hQ : ∀ g, (∀ i, i < 7 → g 2 i = g0 2 (i + 1) ∧ g 4 i = g0 4 (i + 1) ∧ g 5 i = g0 5 (i + 1)) → (∀ k, k ≠ 2 → k ≠ 4 → k ≠ 5 → g k = g0 k) → hp (f_X9_keeps_b67 cb_N 0 g) Q) : ∀ (m k : Nat) (g : cb_S), k ≤ 7 → 7 < k + m → (∀ i, i < k → g 2 i = g0 2 (i + 1) ∧ g 4 i = g0 4 (i + 1) ∧ g 5 i = g0 5 (i + 1)) → (∀ i, k ≤ i → g 2 i = g0 2 i ∧ g 4 i = g0 4 i ∧ g 5 i = g0 5 i) → (∀ q, q ≠ 2 → q ≠ 4 → q ≠ 5 → g q = g0 q) → hp (f_X9_keeps_b11 m (k : Int) g) Q := by
  intro m
  induction m with
  | zero => intro k g h1 h2; omega
  | succ m ih =>
    intro k g h1 h2 hA hB hk
    rw [f_X9_keeps_b11]
    dsimp only
    rw [cb_wn (n := k) (by omega)]
    by_cases e : 7 ≤ k
    · rw [if_pos (by omega)]
      exact hQ g (fun i hi => hA i (by omega)) hk
    · rw [if_neg (by omega), show (k : Int) + 1 = ((k + 1 : Nat) : Int) by omega, cb_wn (n := k + 1) (by omega), if_pos (by omega), if_pos (by omega), if_pos (by omega), if_pos (by omega), if_pos (by omega), if_pos (by omega), Int.toNat_natCast, Int.toNat_natCast]
      have hk1 := hB (k + 1) (by omega)
      refine ih (k + 1) _ (by omega) (by omega) (fun i hi => ?_) (fun i hi => ?_) (fun q x y z => by rw [cb_u_other _ _ _ z, cb_u_other _ _ _ y, cb_u_other _ _ _ x, hk q x y z])
      · by_cases ei : i = k
        · rw [ei]
          simp [cb_u, hk1]
        · have := hA i (by omega)
          simp [cb_u, ei, this]
      · have ei : i ≠ k := by omega
        have := hB i (by omega)
        simp [cb_u, ei, this]
theorem ent_move {gC gC2 gM gM2 : cb_S} {i i2 j : Nat} (h : ent gC gM i j) (h33 : gC2 33 j = gC 33 j) (h34 : gC2 34 j = gC 34 j) (h35 : gC2 35 j = gC 35 j) (h36 : gC2 (36 + j) = gC (36 + j)) (m2 : gM2 2 i2 = gM 2 i) (m3 : ∀ k, k < 64 → gM2 3 (64 * i2 + k) = gM 3 (64 * i + k)) (m4 : gM2 4 i2 = gM 4 i) (m5 : gM2 5 i2 = gM 5 i) : ent gC2 gM2 i2 j := by
  obtain ⟨n, s, p, d, a1, a2, a3, a4, a5, a6, a7, a8, a9, a10⟩ := h
  exact ⟨n, s, p, d, a1, h33.trans a2, m2.trans a3, fun k hk => ⟨by rw [h36]; exact (a4 k hk).1, (m3 k (by omega)).trans (a4 k hk).2⟩, h34.trans a5, m4.trans a6, h35.trans a7, m5.trans a8, a9, a10⟩
/-- both keep what they have -/
theorem j_keep {gC gM : cb_S} {w : Int} {n : Nat} {s : Nat → Int} {p : Nat} {d : Int} (h : rL gC gM w n s p d) : ∃ r gC2 r2 gM2, f_X8_keepForUndo gC = some (r, gC2) ∧ f_X9_keeps gM = some (r2, gM2) ∧ rL gC2 gM2 w n s p d := by
  obtain ⟨a1, a2, a3, a4, a5, a6, a7, a8, ⟨x, c, x1, x2, x3, x4, x5, x6⟩, a10⟩ := id h
  have hn := a6.2.2.1
  obtain ⟨r, gC2, e, b1, b2, b3, b4, b5, b6, b7⟩ := p_keep (p := (p : Int)) (d := d) a1.1.1 x1 x2 x3 x4
  have hC : f_X8_keepForUndo gC = some (0, gC2) := by
    unfold f_X8_keepForUndo v_X0_stand v_X0_side
    rw [Option.bind_some, Option.bind_some, a3, a4, e, cb_b_some]
  have kC : ∀ k, k ≠ 7 → k < 33 → gC2 k = gC k := fun k y z => b7 k y (by omega) (by omega) (by omega) (by omega)
  have fin : ∀ (r2 : Int) (gM2 : cb_S), f_X9_keeps gM = some (r2, gM2) → (∀ t, t ≠ 5 → gM2 0 t = gM 0 t) → (∀ k, k ≠ 0 → ¬ (2 ≤ k ∧ k ≤ 5) → gM2 k = gM k) → hist gC2 gM2 → ∃ r gC2 r2 gM2, f_X8_keepForUndo gC = some (r, gC2) ∧ f_X9_keeps gM = some (r2, gM2) ∧ rL gC2 gM2 w n s p d := by
    intro r2 gM2 e2 k0 kM hh
    exact ⟨0, gC2, r2, gM2, hC, e2, laid_keep a1 (fun k hk => kC k (by unfold lay_w at hk; omega) (by unfold lay_w at hk; omega)), a2, by rw [kC 5 (by decide) (by decide)]; exact a3, by rw [kC 5 (by decide) (by decide)]; exact a4, a5, ln_M_keep a6 (k0 0 (by decide)) (k0 1 (by decide)) (kM 1 (by decide) (by omega)), by rw [k0 3 (by decide)]; exact a7, by rw [k0 4 (by decide)]; exact a8, hh, pcs_keep a10 (kC 6 (by decide) (by decide)) (kC 30 (by decide) (by decide)) (kC 31 (by decide) (by decide)) (k0 29 (by decide)) (kM 21 (by decide) (by omega)) (kM 22 (by decide) (by omega))⟩
  have newE : ∀ (gM2 : cb_S) (i : Nat), gM2 2 i = (n : Int) → gM2 4 i = (p : Int) → gM2 5 i = d → (∀ j, j < 64 → gM2 3 (64 * i + j) = gM 1 j) → ent gC2 gM2 i x := by
    intro gM2 i m2 m4 m5 m3
    exact ⟨n, s, p, d, hn, by rw [b3, if_pos rfl], m2, fun k hk => ⟨b6 k hk, (m3 k (by omega)).trans (a6.2.2.2.1 k hk)⟩, by rw [b4, if_pos rfl], m4, by rw [b5, if_pos rfl], m5, a2, a5⟩
  have oldE : ∀ (gM2 : cb_S) (i i2 j : Nat), j ≠ x → j < 8 → ent gC gM i j → gM2 2 i2 = gM 2 i → (∀ k, k < 64 → gM2 3 (64 * i2 + k) = gM 3 (64 * i + k)) → gM2 4 i2 = gM 4 i → gM2 5 i2 = gM 5 i → ent gC2 gM2 i2 j := by
    intro gM2 i i2 j hj hj8 he m2 m3 m4 m5
    exact ent_move he (by rw [b3, if_neg hj]) (by rw [b4, if_neg hj]) (by rw [b5, if_neg hj]) (b7 (36 + j) (by omega) (by omega) (by omega) (by omega) (by omega)) m2 m3 m4 m5
  by_cases hc : c < 8
  · obtain ⟨r2, gM2, e2, q1, q2, q3, q4, q5, q6, q7, q8⟩ := q_keep1 hc x5 a6.1 a7 a8
    refine fin r2 gM2 ?_ q2 q8 ⟨(x + 1) % 8, c + 1, by omega, by omega, b1, by rw [b2, if_pos hc], q1, fun i hi => ?_⟩
    · unfold f_X9_keeps
      rw [x5, cb_wn (n := c) (by omega), if_neg (by omega)]
      exact e2
    · by_cases ei : i = c
      · rw [show ((x + 1) % 8 + 8 - (c + 1) + i) % 8 = x by omega]
        exact newE gM2 i (by rw [q3, if_pos ei]) (by rw [q4, if_pos ei]) (by rw [q5, if_pos ei]) (by rw [ei]; exact q6)
      · rw [show ((x + 1) % 8 + 8 - (c + 1) + i) % 8 = (x + 8 - c + i) % 8 by omega]
        exact oldE gM2 i i _ (by omega) (by omega) (x6 i (by omega)) (by rw [q3, if_neg ei]) (fun k hk => q7 _ (by omega)) (by rw [q4, if_neg ei]) (by rw [q5, if_neg ei])
  · have hc8 : c = 8 := by omega
    subst hc8
    have hq : hp (f_X9_keeps gM) (fun _ gM2 => gM2 0 5 = ((8 : Nat) : Int) ∧ (∀ t, t ≠ 5 → gM2 0 t = gM 0 t) ∧ (∀ k, k ≠ 0 → ¬ (2 ≤ k ∧ k ≤ 5) → gM2 k = gM k) ∧ (gM2 2 7 = (n : Int) ∧ gM2 4 7 = (p : Int) ∧ gM2 5 7 = d ∧ ∀ j, j < 64 → gM2 3 (64 * 7 + j) = gM 1 j) ∧ (∀ i, i < 7 → gM2 2 i = gM 2 (i + 1) ∧ gM2 4 i = gM 4 (i + 1) ∧ gM2 5 i = gM 5 (i + 1) ∧ ∀ k, k < 64 → gM2 3 (64 * i + k) = gM 3 (64 * (i + 1) + k))) := by
      unfold f_X9_keeps
      rw [x5, cb_wn (n := 8) (by omega), if_pos (by decide)]
      refine q_sh1 (g0 := gM) (fun g1 s1 s2 => ?_) cb_N 0 gM (by omega) (by unfold cb_N; omega) (fun i hi => by omega) (fun i _ => ⟨rfl, rfl, rfl⟩) (fun _ _ _ _ => rfl)
      refine q_sh2 (g0 := g1) (fun g2 t1 t2 => ?_) cb_N 0 g1 (by omega) (by unfold cb_N; omega) (fun i hi => by omega) (fun i _ => rfl) (fun _ _ => rfl)
      have f0 : ∀ t, t ≠ 5 → (cb_u g2 0 5 7) 0 t = gM 0 t := fun t ht => by rw [cb_u_ne _ _ _ _ ht, t2 0 (by decide), s2 0 (by decide) (by decide) (by decide)]
      have fk : ∀ k, k ≠ 0 → k ≠ 3 → (cb_u g2 0 5 7) k = g1 k := fun k y z => by rw [cb_u_other _ _ _ y, t2 k z]
      refine hp_imp (q_keep1 (g := cb_u g2 0 5 7) (c := 7) (n := (n : Int)) (p := (p : Int)) (d := d) (by omega) (cb_u_same _ _ _ _) (by rw [f0 1 (by decide)]; exact a6.1) (by rw [f0 3 (by decide)]; exact a7) (by rw [f0 4 (by decide)]; exact a8)) (fun _ gM2 ⟨q1, q2, q3, q4, q5, q6, q7, q8⟩ => ⟨q1, fun t ht => by rw [q2 t ht, f0 t ht], fun k y z => ?_, ⟨by rw [q3, if_pos rfl], by rw [q4, if_pos rfl], by rw [q5, if_pos rfl], fun j hj => ?_⟩, fun i hi => ⟨?_, ?_, ?_, fun k hk => ?_⟩⟩)
      · rw [q8 k y z, fk k y (by omega), s2 k (by omega) (by omega) (by omega)]
      · rw [q6 j hj, fk 1 (by decide) (by decide), s2 1 (by decide) (by decide) (by decide)]
      · rw [q3, if_neg (by omega), fk 2 (by decide) (by decide)]
        exact (s1 i hi).1
      · rw [q4, if_neg (by omega), fk 4 (by decide) (by decide)]
        exact (s1 i hi).2.1
      · rw [q5, if_neg (by omega), fk 5 (by decide) (by decide)]
        exact (s1 i hi).2.2
      · rw [q7 _ (by omega), cb_u_other _ _ _ (by decide), t1 _ (by omega), s2 3 (by decide) (by decide) (by decide), show 64 * i + k + 64 = 64 * (i + 1) + k by omega]
    obtain ⟨r2, gM2, e2, q1, q2, q3, ⟨q4, q5, q6, q7⟩, q8⟩ := hq
    refine fin r2 gM2 e2 q2 q3 ⟨(x + 1) % 8, 8, by omega, by omega, b1, by rw [b2, if_neg hc], q1, fun i hi => ?_⟩
    by_cases ei : i = 7
    · rw [show ((x + 1) % 8 + 8 - 8 + i) % 8 = x by omega]
      exact newE gM2 i (by rw [ei]; exact q4) (by rw [ei]; exact q5) (by rw [ei]; exact q6) (by rw [ei]; exact q7)
    · obtain ⟨y1, y2, y3, y4⟩ := q8 i (by omega)
      have := x6 (i + 1) (by omega)
      rw [show (x + 8 - 8 + (i + 1)) % 8 = ((x + 1) % 8 + 8 - 8 + i) % 8 by omega] at this
      exact oldE gM2 (i + 1) i _ (by omega) (by omega) this y1 y4 y2 y3
