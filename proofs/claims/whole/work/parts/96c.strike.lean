/-! behind a change: the caret settles -/
theorem mkR {gC gC2 gM gM2 : cb_S} {w : Int} {n : Nat} {s : Nat → Int} {q : Nat} {e : Int} (a1 : laid gC w n s) (a2 : vld n s) (a6 : ln_M gM w n s) (a9 : hist gC gM) (a10 : pcs gC gM) (hc : cst n s q e) (c2 : gC2 5 2 = (q : Int)) (c3 : gC2 5 3 = e) (kC : ∀ k, k ≠ 5 → gC2 k = gC k) (m3 : gM2 0 3 = (q : Int)) (m4 : gM2 0 4 = e) (k0 : ∀ t, t = 0 ∨ t = 1 ∨ t = 5 ∨ t = 29 → gM2 0 t = gM 0 t) (kM : ∀ k, k ≠ 0 → (k < 6 ∨ 20 < k) → gM2 k = gM k) : rL gC2 gM2 w n s q e :=
  ⟨laid_keep a1 (fun k hk => kC k (by unfold lay_w at hk; omega)), a2, c2, c3, hc, ln_M_keep a6 (k0 0 (by omega)) (k0 1 (by omega)) (kM 1 (by omega) (by omega)), m3, m4, hist_keep a9 (kC 7 (by omega)) (fun k hk => kC k (by omega)) (k0 5 (by omega)) (fun k x y => kM k (by omega) (by omega)), pcs_keep a10 (kC 6 (by omega)) (kC 30 (by omega)) (kC 31 (by omega)) (k0 29 (by omega)) (kM 21 (by omega) (by omega)) (kM 22 (by omega) (by omega))⟩
theorem upS_some {n : Nat} {s : Nat → Int} : ∀ (m t : Nat), t + m = n + 1 → t ≤ n → ∃ q : Nat, upS n s m t = (q : Int) ∧ isS n s (q : Int) = true ∧ t ≤ q ∧ q ≤ n ∧ ∀ u, t ≤ u → u < q → isS n s (u : Int) = false := by
  intro m
  induction m with
  | zero => intro t h1 h2; omega
  | succ m ih =>
    intro t h1 h2
    unfold upS
    cases e : isS n s (t : Int) with
    | true =>
      rw [if_pos rfl]
      exact ⟨t, rfl, e, Nat.le_refl _, h2, fun u a b => by omega⟩
    | false =>
      rw [if_neg (by decide)]
      have htn : t ≠ n := fun z => by
        rw [z, isS_iff.mpr (Or.inl (isB_n n s))] at e
        cases e
      obtain ⟨q, q1, q2, q3, q4, q5⟩ := ih (t + 1) (by omega) (by omega)
      refine ⟨q, q1, q2, by omega, q4, fun u a b => ?_⟩
      by_cases eu : u = t
      · rw [eu]; exact e
      · exact q5 u (by omega) b
theorem q_settle1 {n : Nat} {s : Nat → Int} (hn : n ≤ 60) {q : Nat} (hq : isS n s (q : Int) = true) (hqn : q ≤ n) : ∀ (m t : Nat) (g : cb_S), mcs g n s → g 0 1 = (n : Int) → g 0 3 = (t : Int) → g 0 4 = 0 → t ≤ q → q < t + m → (∀ u, t ≤ u → u < q → isS n s (u : Int) = false) → hp (f_X9_settles_b20 m g) (fun _ g2 => g2 0 3 = (q : Int) ∧ g2 0 4 = 0 ∧ (∀ k, k ≠ 3 → k ≠ 4 → g2 0 k = g 0 k) ∧ ∀ k, k ≠ 0 → g2 k = g k) := by
  intro m
  induction m with
  | zero => intro t g h1 h2 h3 h4 h5; omega
  | succ m ih =>
    intro t g h1 h2 h3 h4 h5 h6 h7
    rw [f_X9_settles_b20]
    dsimp only
    rw [h3, m_isS h1 h2 hn ⟨by omega, by omega⟩, Option.bind_some]
    by_cases e : t = q
    · subst e
      rw [hq, bI_t, if_neg (by decide)]
      unfold f_X9_settles_b44
      rw [h3, m_isB h1 h2 hn ⟨by omega, by omega⟩, Option.bind_some]
      cases isB n s (t : Int) with
      | true =>
        rw [bI_t, if_neg (by decide)]
        exact hp_some ⟨h3, h4, fun _ _ _ => rfl, fun _ _ => rfl⟩
      | false =>
        rw [bI_f, if_pos (by decide)]
        exact hp_some ⟨by rw [cb_u_ne _ _ _ _ (by decide)]; exact h3, cb_u_same _ _ _ _, fun k _ y => cb_u_ne _ _ _ _ y, fun k x => cb_u_other _ _ _ x⟩
    · rw [h7 t (Nat.le_refl _) (by omega), bI_f, if_pos (by decide)]
      refine hp_imp (ih (t + 1) _ ⟨by rw [cb_u_ne _ _ _ _ (by decide)]; exact h1.1, by rw [cb_u_other _ _ _ (by decide), cb_u_other _ _ _ (by decide), cb_u_other _ _ _ (by decide)]; exact h1.2⟩ (by rw [cb_u_ne _ _ _ _ (by decide)]; exact h2) (by rw [cb_u_same]; omega) (by rw [cb_u_ne _ _ _ _ (by decide)]; exact h4) (by omega) (by omega) (fun u a b => h7 u (by omega) b)) (fun _ g2 ⟨q1, q2, q3, q4⟩ => ⟨q1, q2, fun k x y => by rw [q3 k x y, cb_u_ne _ _ _ _ x], fun k x => by rw [q4 k x, cb_u_other _ _ _ x]⟩)
theorem j_settle {gC gM : cb_S} {w : Int} {n : Nat} {s : Nat → Int} {x : Nat} {e : Int} (a1 : laid gC w n s) (a2 : vld n s) (a6 : ln_M gM w n s) (a9 : hist gC gM) (a10 : pcs gC gM) (hx : x ≤ n) (he : e = 0 ∨ e = 1) (h3 : gM 0 3 = (x : Int)) (h4 : gM 0 4 = e) : ∃ r gC2 r2 gM2, f_X0_settle gC (x : Int) e = some (r, gC2) ∧ f_X9_settles gM = some (r2, gM2) ∧ (∃ q e2, rL gC2 gM2 w n s q e2) := by
  have cv := laid_vw a1
  obtain ⟨c1, c2, c3, c4, c5, c6, c7, hn, hw, hcl, c11⟩ := id cv
  obtain ⟨r1, g1, l1, q1, q2, q3⟩ := q_looks a6 a2.2
  have l2 := mlk_vw q1
  have k0 : ∀ t, t = 0 ∨ t = 1 ∨ t = 3 ∨ t = 4 ∨ t = 5 ∨ t = 29 → g1 0 t = gM 0 t := fun t ht => q2 t (by unfold ml0; omega)
  have kk : ∀ k, k ≠ 0 → (k < 6 ∨ 20 < k) → g1 k = gM k := fun k h1 h2 => q3 k (by unfold mlw; omega)
  have g11 : g1 0 1 = (n : Int) := by rw [k0 1 (by omega)]; exact a6.1
  have g13 : g1 0 3 = (x : Int) := by rw [k0 3 (by omega)]; exact h3
  have g14 : g1 0 4 = e := by rw [k0 4 (by omega)]; exact h4
  obtain ⟨q, u1, u2, u3, u4, u5⟩ := upS_some (n := n) (s := s) (n + 1 - x) x (by omega) hx
  have hM : f_X9_settles gM = if isS n s (x : Int) = true then f_X9_settles_b44 g1 else f_X9_settles_b20 cb_N (cb_u g1 0 4 0) := by
    unfold f_X9_settles
    rw [l1, cb_b_some, g13, m_isS l2.1 g11 hn ⟨by omega, by omega⟩, Option.bind_some]
    cases isS n s (x : Int) with
    | true => rw [bI_t, if_neg (by decide), if_pos rfl]
    | false => rw [bI_f, if_pos (by decide), if_neg (by decide)]
  have hC : f_X0_settle gC (x : Int) e = if q = x then some (0, cb_u (cb_u gC 5 2 (x : Int)) 5 3 (if hh n s (x : Int) = -1 then e else 0)) else some (0, cb_u (cb_u gC 5 2 (q : Int)) 5 3 0) := by
    unfold f_X0_settle
    rw [c_up hcl c5 hn (by omega), Option.bind_some, u1, cb_wn (n := q) (by omega), cb_wn (n := x) (by omega), cb_w0, if_neg (show ¬ (q : Int) < 0 by omega), c_pl hcl hn ⟨by omega, by omega⟩, cb_b_some, c_pl hcl hn ⟨by omega, by omega⟩, cb_b_some]
    by_cases z : q = x
    · rw [if_pos (by omega), if_pos z]
    · rw [if_neg (by omega), if_neg z]
      split <;> rfl
  rw [hC, hM]
  by_cases z : q = x
  · subst z
    rw [if_pos rfl, if_pos u2]
    unfold f_X9_settles_b44
    rw [g13, m_isB l2.1 g11 hn ⟨by omega, by omega⟩, Option.bind_some]
    by_cases hz : hh n s (q : Int) = -1
    · have hB : isB n s (q : Int) = true := by
        rcases isS_iff.mp u2 with y | y
        · exact y
        · exact absurd hz y
      rw [hB, bI_t, if_pos hz, if_neg (show ¬ cb_w 1 = 0 by decide)]
      exact ⟨_, _, _, _, rfl, rfl, q, e, mkR a1 a2 a6 a9 a10 (cst_B hB he) (by rw [cb_u_ne _ _ _ _ (by decide), cb_u_same]) (cb_u_same _ _ _ _) (fun k hk => by rw [cb_u_other _ _ _ hk, cb_u_other _ _ _ hk]) g13 g14 (fun t ht => k0 t (by omega)) kk⟩
    · rw [hh_isB hz, bI_f, if_neg hz, if_pos (show cb_w 0 = 0 by decide)]
      exact ⟨_, _, _, _, rfl, rfl, q, 0, mkR a1 a2 a6 a9 a10 (cst_S u2) (by rw [cb_u_ne _ _ _ _ (by decide), cb_u_same]) (cb_u_same _ _ _ _) (fun k hk => by rw [cb_u_other _ _ _ hk, cb_u_other _ _ _ hk]) (by rw [cb_u_ne _ _ _ _ (by decide)]; exact g13) (cb_u_same _ _ _ _) (fun t ht => by rw [cb_u_ne _ _ _ _ (by omega)]; exact k0 t (by omega)) (fun k y z => by rw [cb_u_other _ _ _ y]; exact kk k y z)⟩
  · have hxS : isS n s (x : Int) = false := u5 x (Nat.le_refl _) (by omega)
    rw [if_neg z, hxS, if_neg (by decide)]
    obtain ⟨r2, gM2, e2, t1, t2, t3, t4⟩ := q_settle1 hn u2 u4 cb_N x (cb_u g1 0 4 0) ⟨by rw [cb_u_ne _ _ _ _ (by decide)]; exact l2.1.1, by rw [cb_u_other _ _ _ (by decide), cb_u_other _ _ _ (by decide), cb_u_other _ _ _ (by decide)]; exact l2.1.2⟩ (by rw [cb_u_ne _ _ _ _ (by decide)]; exact g11) (by rw [cb_u_ne _ _ _ _ (by decide)]; exact g13) (cb_u_same _ _ _ _) u3 (by unfold cb_N; omega) u5
    exact ⟨_, _, r2, gM2, rfl, e2, q, 0, mkR a1 a2 a6 a9 a10 (cst_S u2) (by rw [cb_u_ne _ _ _ _ (by decide), cb_u_same]) (cb_u_same _ _ _ _) (fun k hk => by rw [cb_u_other _ _ _ hk, cb_u_other _ _ _ hk]) t1 t2 (fun t ht => by rw [t3 t (by omega) (by omega), cb_u_ne _ _ _ _ (by omega)]; exact k0 t (by omega)) (fun k y z => by rw [t4 k y, cb_u_other _ _ _ y]; exact kk k y z)⟩
/-! struck -/
def cutS (s : Nat → Int) (a b : Nat) : Nat → Int := fun j => if j < a then s j else s (j + (b - a))
theorem p_remove1 {n a b : Nat} {s : Nat → Int} (hab : a ≤ b) (hbn : b ≤ n) (hn : n ≤ 60) : ∀ (m i : Nat) (g : cb_S), g 1 1 = (n : Int) → b ≤ i → i ≤ n → n < i + m → (∀ j, j < i - (b - a) → g 8 j = cutS s a b j) → (∀ j, i ≤ j → j < n → g 8 j = s j) → hp (f_X3_remove_b25 m ((b : Int) - (a : Int)) (i : Int) g) (fun _ g2 => g2 1 1 = ((n - (b - a) : Nat) : Int) ∧ (∀ t, t ≠ 1 → g2 1 t = g 1 t) ∧ (∀ j, j < n - (b - a) → g2 8 j = cutS s a b j) ∧ ∀ k, k ≠ 1 → k ≠ 8 → g2 k = g k) := by
  intro m
  induction m with
  | zero => intro i g h1 h2 h3 h4; omega
  | succ m ih =>
    intro i g h1 h2 h3 h4 hA hB
    rw [f_X3_remove_b25]
    dsimp only
    rw [h1, cb_wn (n := n) (by omega), cb_wn (n := i) (by omega)]
    by_cases e : n ≤ i
    · rw [if_pos (by omega)]
      refine hp_some ⟨by rw [cb_u_same]; omega, fun t ht => cb_u_ne _ _ _ _ ht, fun j hj => ?_, fun k x _ => cb_u_other _ _ _ x⟩
      rw [cb_u_other _ _ _ (by decide)]
      exact hA j (by omega)
    · rw [if_neg (by omega), if_pos (by omega), show (i : Int) - ((b : Int) - (a : Int)) = ((i - (b - a) : Nat) : Int) by omega, cb_wn (n := i - (b - a)) (by omega), if_pos (by omega), Int.toNat_natCast, Int.toNat_natCast, show (i : Int) + 1 = ((i + 1 : Nat) : Int) by omega]
      refine hp_imp (ih (i + 1) _ (by rw [cb_u_other _ _ _ (by decide)]; exact h1) (by omega) (by omega) (by omega) (fun j hj => ?_) (fun j hj hj2 => ?_)) (fun _ g2 ⟨q1, q2, q3, q4⟩ => ⟨q1, fun t ht => by rw [q2 t ht, cb_u_other _ _ _ (by decide)], q3, fun k x y => by rw [q4 k x y, cb_u_other _ _ _ y]⟩)
      · by_cases ej : j = i - (b - a)
        · rw [ej, cb_u_same, hB i (Nat.le_refl _) (by omega)]
          unfold cutS
          rw [if_neg (by omega), show i - (b - a) + (b - a) = i by omega]
        · rw [cb_u_ne _ _ _ _ ej]
          exact hA j (by omega)
      · rw [cb_u_ne _ _ _ _ (by omega)]
        exact hB j (by omega) hj2
theorem p_remove {g : cb_S} {w : Int} {n a b : Nat} {s : Nat → Int} (hl : ln_C g w n s) (hab : a ≤ b) (hbn : b ≤ n) : hp (f_X3_remove g (a : Int) (b : Int)) (fun _ g2 => ln_C g2 w (n - (b - a)) (cutS s a b) ∧ ∀ k, k ≠ 1 → k ≠ 8 → g2 k = g k) := by
  obtain ⟨e1, e2, hn, hs, hb, hw⟩ := id hl
  unfold f_X3_remove
  rw [e1, cb_wn (n := a) (by omega), cb_wn (n := b) (by omega), cb_wn (n := n) (by omega), if_neg (by omega), if_neg (by omega), if_pos (by omega)]
  refine hp_imp (p_remove1 (s := s) hab hbn hn cb_N b g e1 (Nat.le_refl _) hbn (by unfold cb_N; omega) (fun j hj => ?_) (fun j _ hj => hs j hj)) (fun _ g2 ⟨q1, q2, q3, q4⟩ => ⟨⟨q1, by rw [q2 2 (by decide)]; exact e2, by omega, q3, fun i hi => ?_, hw⟩, q4⟩)
  · unfold cutS
    rw [if_pos (by omega)]
    exact hs j (by omega)
  · unfold cutS
    split
    · exact hb i (by omega)
    · exact hb _ (by omega)
theorem cutS_vld {n a b : Nat} {s : Nat → Int} (h : vld n s) (hab : a ≤ b) (hbn : b ≤ n) : vld (n - (b - a)) (cutS s a b) := by
  refine ⟨fun i hi => ?_, fun i hi => ?_⟩
  · unfold cutS
    split
    · exact h.1 i (by omega)
    · exact h.1 _ (by omega)
  · unfold cutS
    split
    · exact h.2 i (by omega)
    · exact h.2 _ (by omega)
theorem q_strike1 {w : Int} {n a b : Nat} {s : Nat → Int} {e : Int} (hab : a ≤ b) (hbn : b ≤ n) (hn : n ≤ 60) {F : Prop} : ∀ (m i : Nat) (g : cb_S), g 0 1 = (n : Int) → b ≤ i → i ≤ n → n < i + m → (∀ j, j < i - (b - a) → g 1 j = cutS s a b j) → (∀ j, i ≤ j → j < n → g 1 j = s j) → (∀ g2 : cb_S, g2 0 1 = ((n - (b - a) : Nat) : Int) → g2 0 3 = (a : Int) → g2 0 4 = e → (∀ t, t ≠ 1 → t ≠ 3 → t ≠ 4 → g2 0 t = g 0 t) → (∀ j, j < n - (b - a) → g2 1 j = cutS s a b j) → (∀ k, k ≠ 0 → k ≠ 1 → g2 k = g k) → ∀ r3 g3, f_X9_settles g2 = some (r3, g3) → f_X9_strikes_b12 m (a : Int) (b : Int) e (i : Int) g = some ((b : Int) - (a : Int), g3) → F) → (∀ g2 : cb_S, g2 0 1 = ((n - (b - a) : Nat) : Int) → g2 0 3 = (a : Int) → g2 0 4 = e → (∀ t, t ≠ 1 → t ≠ 3 → t ≠ 4 → g2 0 t = g 0 t) → (∀ j, j < n - (b - a) → g2 1 j = cutS s a b j) → (∀ k, k ≠ 0 → k ≠ 1 → g2 k = g k) → ∃ r3 g3, f_X9_settles g2 = some (r3, g3)) → F := by
  intro m
  induction m with
  | zero => intro i g h1 h2 h3 h4; omega
  | succ m ih =>
    intro i g h1 h2 h3 h4 hA hB hF hE
    by_cases ei : n ≤ i
    · generalize hG : cb_u (cb_u (cb_u g 0 1 ((n : Int) - ((b : Int) - (a : Int)))) 0 3 (a : Int)) 0 4 e = G at *
      have p1 : G 0 1 = ((n - (b - a) : Nat) : Int) := by
        rw [← hG, cb_u_ne _ _ _ _ (by decide), cb_u_ne _ _ _ _ (by decide), cb_u_same]
        omega
      have p3 : G 0 3 = (a : Int) := by rw [← hG, cb_u_ne _ _ _ _ (by decide), cb_u_same]
      have p4 : G 0 4 = e := by rw [← hG, cb_u_same]
      have pt' : ∀ t, t ≠ 1 → t ≠ 3 → t ≠ 4 → G 0 t = g 0 t := fun t x y z => by rw [← hG, cb_u_ne _ _ _ _ z, cb_u_ne _ _ _ _ y, cb_u_ne _ _ _ _ x]
      have pk' : ∀ k, k ≠ 0 → G k = g k := fun k x => by rw [← hG, cb_u_other _ _ _ x, cb_u_other _ _ _ x, cb_u_other _ _ _ x]
      have pl : ∀ j, j < n - (b - a) → G 1 j = cutS s a b j := fun j hj => by rw [pk' 1 (by decide)]; exact hA j (by omega)
      obtain ⟨r3, g3, e3⟩ := hE G p1 p3 p4 pt' pl (fun k x _ => pk' k x)
      refine hF G p1 p3 p4 pt' pl (fun k x _ => pk' k x) r3 g3 e3 ?_
      rw [f_X9_strikes_b12]
      dsimp only
      unfold f_X9_goes
      rw [h1, cb_wn (n := n) (by omega), cb_wn (n := i) (by omega), if_pos (by omega), cb_b_some, hG, e3, cb_b_some]
    · have step : f_X9_strikes_b12 (m + 1) (a : Int) (b : Int) e (i : Int) g = f_X9_strikes_b12 m (a : Int) (b : Int) e ((i + 1 : Nat) : Int) (cb_u g 1 (i - (b - a)) (g 1 i)) := by
        rw [f_X9_strikes_b12]
        dsimp only
        rw [h1, cb_wn (n := n) (by omega), cb_wn (n := i) (by omega), if_neg (by omega), if_pos (by omega), show (a : Int) + (i : Int) - (b : Int) = ((i - (b - a) : Nat) : Int) by omega, cb_wn (n := i - (b - a)) (by omega), if_pos (by omega), Int.toNat_natCast, Int.toNat_natCast, show (i : Int) + 1 = ((i + 1 : Nat) : Int) by omega]
      refine ih (i + 1) (cb_u g 1 (i - (b - a)) (g 1 i)) (by rw [cb_u_other _ _ _ (by decide)]; exact h1) (by omega) (by omega) (by omega) (fun j hj => ?_) (fun j hj hj2 => ?_) (fun g2 x1 x2 x3 x4 x5 x6 r3 g3 y1 y2 => hF g2 x1 x2 x3 (fun t u v z => by rw [x4 t u v z, cb_u_other _ _ _ (by decide)]) x5 (fun k u v => by rw [x6 k u v, cb_u_other _ _ _ v]) r3 g3 y1 (by rw [step]; exact y2)) (fun g2 x1 x2 x3 x4 x5 x6 => hE g2 x1 x2 x3 (fun t u v z => by rw [x4 t u v z, cb_u_other _ _ _ (by decide)]) x5 (fun k u v => by rw [x6 k u v, cb_u_other _ _ _ v]))
      · by_cases ej : j = i - (b - a)
        · rw [ej, cb_u_same, hB i (Nat.le_refl _) (by omega)]
          unfold cutS
          rw [if_neg (by omega), show i - (b - a) + (b - a) = i by omega]
        · rw [cb_u_ne _ _ _ _ ej]
          exact hA j (by omega)
      · rw [cb_u_ne _ _ _ _ (by omega)]
        exact hB j (by omega) hj2
/-- both strike -/
theorem j_strike {gC gM : cb_S} {w : Int} {n : Nat} {s : Nat → Int} {p : Nat} {d : Int} (h : rL gC gM w n s p d) {a b : Nat} (hab : a ≤ b) (hbn : b ≤ n) {e : Int} (he : e = 0 ∨ e = 1) : ∃ r gC2 r2 gM2, f_X8_strike gC (a : Int) (b : Int) e = some (r, gC2) ∧ f_X9_strikes gM (a : Int) (b : Int) e = some (r2, gM2) ∧ r = (b : Int) - (a : Int) ∧ r2 = (b : Int) - (a : Int) ∧ (∃ q e2, rL gC2 gM2 w (n - (b - a)) (cutS s a b) q e2) := by
  have hn := h.2.2.2.2.2.1.2.2.1
  -- from the cells behind keep: the class's are gC1, the model's gM1
  have main : ∀ (gC1 gM1 gC2 : cb_S), rL gC1 gM1 w n s p d → laid gC2 w (n - (b - a)) (cutS s a b) → (∀ k, ¬ lay_w k → k ≠ 1 → k ≠ 8 → gC2 k = gC1 k) → ∃ r gC3 r2 gM2, f_X8_strike_b22 (a : Int) (b : Int) e gC2 = some (r, gC3) ∧ f_X9_strikes_b9 (a : Int) (b : Int) e gM1 = some (r2, gM2) ∧ r = (b : Int) - (a : Int) ∧ r2 = (b : Int) - (a : Int) ∧ (∃ q e2, rL gC3 gM2 w (n - (b - a)) (cutS s a b) q e2) := by
    intro gC1 gM1 gC2 h1 hl hk
    obtain ⟨a1, a2, a3, a4, a5, a6, a7, a8, a9, a10⟩ := id h1
    have js : ∀ g2 : cb_S, g2 0 1 = ((n - (b - a) : Nat) : Int) → g2 0 3 = (a : Int) → g2 0 4 = e → (∀ t, t ≠ 1 → t ≠ 3 → t ≠ 4 → g2 0 t = gM1 0 t) → (∀ j, j < n - (b - a) → g2 1 j = cutS s a b j) → (∀ k, k ≠ 0 → k ≠ 1 → g2 k = gM1 k) → ∃ r gC3 r2 gM2, f_X0_settle gC2 (a : Int) e = some (r, gC3) ∧ f_X9_settles g2 = some (r2, gM2) ∧ (∃ q e2, rL gC3 gM2 w (n - (b - a)) (cutS s a b) q e2) := by
      intro g2 x1 x2 x3 x4 x5 x6
      have hv := cutS_vld a2 hab hbn
      refine j_settle hl hv ⟨x1, by rw [x4 0 (by decide) (by decide) (by decide)]; exact a6.2.1, by omega, x5, hv.1, a6.2.2.2.2.2⟩ (hist_keep a9 (hk 7 (by unfold lay_w; omega) (by decide) (by decide)) (fun k hk9 => hk k (by unfold lay_w; omega) (by omega) (by omega)) (x4 5 (by decide) (by decide) (by decide)) (fun k y z => x6 k (by omega) (by omega))) (pcs_keep a10 (hk 6 (by unfold lay_w; omega) (by decide) (by decide)) (hk 30 (by unfold lay_w; omega) (by decide) (by decide)) (hk 31 (by unfold lay_w; omega) (by decide) (by decide)) (x4 29 (by decide) (by decide) (by decide)) (x6 21 (by decide) (by decide)) (x6 22 (by decide) (by decide))) (by omega) he x2 x3
    unfold f_X8_strike_b22 f_X9_strikes_b9
    refine q_strike1 (w := w) (s := s) (e := e) hab hbn hn cb_N b gM1 a6.1 (Nat.le_refl _) hbn (by unfold cb_N; omega) (fun j hj => ?_) (fun j _ hj => a6.2.2.2.1 j hj) (fun g2 x1 x2 x3 x4 x5 x6 r3 g3 y1 y2 => ?_) (fun g2 x1 x2 x3 x4 x5 x6 => ?_)
    · unfold cutS
      rw [if_pos (by omega)]
      exact a6.2.2.2.1 j (by omega)
    · obtain ⟨r, gC3, r2, gM2, z1, z2, z3⟩ := js g2 x1 x2 x3 x4 x5 x6
      rw [y1] at z2
      cases z2
      rw [z1, cb_b_some]
      exact ⟨_, _, _, _, rfl, y2, rfl, rfl, z3⟩
    · obtain ⟨r, gC3, r2, gM2, z1, z2, z3⟩ := js g2 x1 x2 x3 x4 x5 x6
      exact ⟨r2, gM2, z2⟩
  unfold f_X8_strike f_X9_strikes
  rw [cb_wn (n := a) (by omega), cb_wn (n := b) (by omega)]
  by_cases e0 : b ≤ a
  · have hc : cutS s a b = s := funext fun j => by
      unfold cutS
      rw [show b - a = 0 by omega]
      split <;> rfl
    rw [if_pos (by omega), if_pos (by omega)]
    have hl : laid gC w (n - (b - a)) (cutS s a b) := by
      rw [hc, show n - (b - a) = n by omega]
      exact h.1
    exact main gC gM gC h hl (fun _ _ _ _ => rfl)
  · rw [if_neg (by omega), if_neg (by omega)]
    obtain ⟨r, gC1, r1, gM1, z1, z2, z3⟩ := j_keep h
    obtain ⟨r2, gC2, z4, z5, z6⟩ := p_remove z3.1.1.1 hab hbn
    obtain ⟨r3, gC3, z7, z8, z9⟩ := p_layOut z5 (cutS_vld z3.2.1 hab hbn).2
    rw [z1, cb_b_some, z4, cb_b_some, z7, cb_b_some, z2, cb_b_some]
    exact main gC1 gM1 gC3 z3 z8 (fun k x y z => by rw [z9 k x, z6 k y z])
