/-! the model's turning -/
theorem rv_nil (a : Nat → Int) (v : Nat) : rv a v v = a := funext fun u => by
  unfold rv
  rw [if_neg (by omega)]
theorem q_turn1 {kk : Int → Int → cb_S → Option (Int × cb_S)} {l x3 : Int} {Q : Int → cb_S → Prop} : ∀ (m lo e : Nat) (g : cb_S), e ≤ 60 → lo ≤ 61 → 0 < m → e < lo + m → (∀ g2, g2 20 = rv (g 20) lo e → (∀ k, k ≠ 20 → g2 k = g k) → hp (kk l (x3 + 1) g2) Q) → hp (f_X9_turns_b77 kk m l x3 (lo : Int) ((e : Int) - 1) g) Q := by
  intro m
  induction m with
  | zero => intro lo e g h1 h2 h3; omega
  | succ m ih =>
    intro lo e g h1 h2 h0 h3 hkk
    rw [f_X9_turns_b77]
    dsimp only
    rw [cb_id (x := (e : Int) - 1) (by omega) (by omega), cb_wn (n := lo) (by omega)]
    by_cases hend : e ≤ lo + 1
    · rw [if_pos (by omega)]
      unfold f_X9_turns_b127
      refine hkk g (funext fun v => ?_) (fun _ _ => rfl)
      unfold rv
      split
      · rw [show lo + e - 1 - v = v by omega]
      · rfl
    · obtain ⟨q, rfl⟩ : ∃ q, e = q + 1 := ⟨e - 1, by omega⟩
      have e7 : (((q + 1 : Nat) : Int) - 1) = (q : Int) := by omega
      have e8 : ((lo : Int) + 1) = ((lo + 1 : Nat) : Int) := by omega
      have e9 : ((q : Int) + (-1)) = ((q : Int) - 1) := by omega
      rw [e7, if_neg (by omega), if_pos (by omega), if_pos (by omega), if_pos (by omega), if_pos (by omega), Int.toNat_natCast, Int.toNat_natCast, e8, e9]
      refine ih (lo + 1) q _ (by omega) (by omega) (by omega) (by omega) (fun g2 q1 q2 => hkk g2 (funext fun v => ?_) (fun k hk => ?_))
      · rw [q1]
        unfold rv
        by_cases c1 : lo ≤ v ∧ v < q + 1
        · rw [if_pos c1]
          by_cases c2 : lo + 1 ≤ v ∧ v < q
          · rw [if_pos c2, cb_u_ne _ _ _ _ (by omega), cb_u_ne _ _ _ _ (by omega), show lo + 1 + q - 1 - v = lo + (q + 1) - 1 - v by omega]
          · rw [if_neg c2]
            by_cases c3 : v = q
            · rw [c3, cb_u_same, show lo + (q + 1) - 1 - q = lo by omega]
            · rw [cb_u_ne _ _ _ _ c3, show v = lo by omega, cb_u_same, show lo + (q + 1) - 1 - lo = q by omega]
        · rw [if_neg c1, if_neg (by omega), cb_u_ne _ _ _ _ (by omega), cb_u_ne _ _ _ _ (by omega)]
      · rw [q2 k hk, cb_u_other _ _ _ hk, cb_u_other _ _ _ hk]
/-- what the model's sight rests on -/
def tcx (g : cb_S) (w : Int) (n : Nat) (s : Nat → Int) : Prop := mcs g n s ∧ (∀ j, j < n → g 11 j = LV w n s j) ∧ ln_M g w n s
theorem tcx_keep {g g2 : cb_S} {w : Int} {n : Nat} {s : Nat → Int} (h : tcx g w n s) (h0 : ∀ t, t ≠ 28 → g2 0 t = g 0 t) (hk : ∀ k, k ≠ 0 → ¬ (17 ≤ k ∧ k ≤ 20) → g2 k = g k) : tcx g2 w n s := by
  obtain ⟨⟨a1, a2⟩, a3, a4⟩ := h
  refine ⟨⟨by rw [h0 20 (by decide)]; exact a1, ?_⟩, ?_, ln_M_keep a4 (h0 0 (by decide)) (h0 1 (by decide)) (hk 1 (by decide) (by omega))⟩
  · rw [hk 14 (by decide) (by omega), hk 15 (by decide) (by omega), hk 16 (by decide) (by omega)]
    exact a2
  · rw [hk 11 (by decide) (by omega)]
    exact a3
theorem tcx_lv {g : cb_S} {w : Int} {n : Nat} {s : Nat → Int} (h : tcx g w n s) {x : Int} (h0 : 0 ≤ x) (h1 : x < (cn n s n : Int)) : g 14 x.toNat = (fs n s x.toNat : Int) ∧ fs n s x.toNat < n ∧ g 11 (fs n s x.toNat) = lvC w n s x ∧ 0 ≤ lvC w n s x ∧ lvC w n s x ≤ 2 * n + 3 := by
  obtain ⟨⟨a1, a2⟩, a3, a4⟩ := h
  have hf := fs_ok (n := n) (s := s) (k := x.toNat) (by omega)
  have hr := CL_r (n := n) (s := s) a4.2.2.2.2.2 (k := x.toNat) (by omega)
  exact ⟨(a2 x.toNat (by omega)).1, hf.2.2, a3 _ hf.2.2, hr.1, hr.2⟩
theorem q_runs1 {w : Int} {n : Nat} {s : Nat → Int} {l : Int} {a : Nat → Int} (ha : ord (cn n s n) a) (hl : 0 ≤ l ∧ l ≤ 1000) : ∀ (m v : Nat) (g : cb_S), v ≤ cn n s n + 1 → cn n s n + 1 < v + m → tcx g w n s → g 20 = (trs (lvC w n s) l (cn n s n) a v).2 → (trs (lvC w n s) l (cn n s n) a v).1 = v → hp (f_X9_turns_b2 m l (v : Int) g) (fun _ g2 => g2 20 = (trs (lvC w n s) l (cn n s n) a (cn n s n + 1)).2 ∧ ∀ k, k ≠ 20 → g2 k = g k) := by
  intro m
  induction m with
  | zero => intro v g h1 h2; omega
  | succ m ih =>
    intro v g h1 h2 hx ho hv
    have hcn := cn_le (n := n) (s := s) n
    have hn := hx.2.2.2.2.1
    rw [f_X9_turns_b2]
    dsimp only
    rw [hx.1.1, cb_wn (n := cn n s n) (by omega), cb_wn (n := v) (by omega)]
    by_cases hend : cn n s n ≤ v
    · rw [if_pos (by omega)]
      refine hp_some ⟨?_, fun _ _ => rfl⟩
      by_cases e : v = cn n s n
      · have hs : trs (lvC w n s) l (cn n s n) a (cn n s n + 1) = (cn n s n + 1, rv (trs (lvC w n s) l (cn n s n) a (cn n s n)).2 (trs (lvC w n s) l (cn n s n) a (cn n s n)).1 (cn n s n)) := by
          conv => lhs; unfold trs
          rw [if_pos (Or.inl rfl)]
        rw [e] at hv ho
        rw [hs, hv, rv_nil]
        exact ho
      · rw [show v = cn n s n + 1 by omega] at ho
        exact ho
    · have ok := (trs_ok (lev := lvC w n s) (l := l) ha v h1).2 v (by omega)
      obtain ⟨t1, t2, t3, t4, t5⟩ := tcx_lv hx ok.1 ok.2
      rw [if_neg (by omega), if_pos (by omega), Int.toNat_natCast, ho, cb_id (x := (trs (lvC w n s) l (cn n s n) a v).2 v) (by omega) (by omega), if_pos (by omega), t1, cb_wn (n := fs n s _) (by omega), if_pos (by omega), Int.toNat_natCast, t3, cb_id (x := lvC w n s _) (by omega) (by omega), cb_id (x := l) (by omega) (by omega)]
      by_cases hlev : l ≤ lvC w n s ((trs (lvC w n s) l (cn n s n) a v).2 v)
      · rw [if_pos hlev]
        have run : ∀ (m2 e : Nat), v ≤ e → e ≤ cn n s n → cn n s n < e + m2 → trs (lvC w n s) l (cn n s n) a e = trs (lvC w n s) l (cn n s n) a v → hp (f_X9_turns_b35 (f_X9_turns_b2 m) m2 l (v : Int) (e : Int) g) (fun _ g2 => g2 20 = (trs (lvC w n s) l (cn n s n) a (cn n s n + 1)).2 ∧ ∀ k, k ≠ 20 → g2 k = g k) := by
          intro m2
          induction m2 with
          | zero => intro e h3 h4 h5; omega
          | succ m2 ih2 =>
            intro e h3 h4 h5 h6
            have out : (e = cn n s n ∨ lvC w n s ((trs (lvC w n s) l (cn n s n) a e).2 e) < l) → hp (f_X9_turns_b69 (f_X9_turns_b2 m) l (v : Int) (e : Int) g) (fun _ g2 => g2 20 = (trs (lvC w n s) l (cn n s n) a (cn n s n + 1)).2 ∧ ∀ k, k ≠ 20 → g2 k = g k) := by
              intro hcut
              have hs : trs (lvC w n s) l (cn n s n) a (e + 1) = (e + 1, rv (trs (lvC w n s) l (cn n s n) a e).2 (trs (lvC w n s) l (cn n s n) a e).1 e) := by
                conv => lhs; unfold trs
                rw [if_pos hcut]
              unfold f_X9_turns_b69
              refine q_turn1 cb_N v e g (by omega) (by omega) (by decide) (by unfold cb_N; omega) (fun g2 x1 x2 => ?_)
              rw [show (e : Int) + 1 = ((e + 1 : Nat) : Int) by omega]
              refine hp_imp (ih (e + 1) g2 (by omega) (by omega) (tcx_keep hx (fun t _ => by rw [x2 0 (by decide)]) (fun k _ hk => x2 k (by omega))) ?_ (by rw [hs])) (fun _ g3 ⟨y1, y2⟩ => ⟨y1, fun k hk => by rw [y2 k hk, x2 k hk]⟩)
              rw [x1, hs, h6, hv, ho]
            rw [f_X9_turns_b35]
            dsimp only
            rw [hx.1.1, cb_wn (n := cn n s n) (by omega), cb_wn (n := e) (by omega)]
            by_cases hce : cn n s n ≤ e
            · rw [if_pos (by omega)]
              exact out (Or.inl (by omega))
            · have ok2 := (trs_ok (lev := lvC w n s) (l := l) ha v h1).2 e (by omega)
              obtain ⟨u1, u2, u3, u4, u5⟩ := tcx_lv hx ok2.1 ok2.2
              rw [if_neg (by omega), if_pos (by omega), Int.toNat_natCast, ho, cb_id (x := (trs (lvC w n s) l (cn n s n) a v).2 e) (by omega) (by omega), if_pos (by omega), u1, cb_wn (n := fs n s _) (by omega), if_pos (by omega), Int.toNat_natCast, u3, cb_id (x := lvC w n s _) (by omega) (by omega), cb_id (x := l) (by omega) (by omega)]
              by_cases hlt : lvC w n s ((trs (lvC w n s) l (cn n s n) a v).2 e) < l
              · rw [if_pos hlt]
                exact out (Or.inr (by rw [h6]; exact hlt))
              · rw [if_neg hlt, show (e : Int) + 1 = ((e + 1 : Nat) : Int) by omega]
                refine ih2 (e + 1) (by omega) (by omega) (by omega) ?_
                rw [← h6]
                conv => lhs; unfold trs
                rw [if_neg (by rw [h6]; omega)]
        exact run cb_N v (Nat.le_refl _) (by omega) (by unfold cb_N; omega) rfl
      · rw [if_neg hlev]
        unfold f_X9_turns_b127
        have hs : trs (lvC w n s) l (cn n s n) a (v + 1) = (v + 1, rv (trs (lvC w n s) l (cn n s n) a v).2 (trs (lvC w n s) l (cn n s n) a v).1 v) := by
          conv => lhs; unfold trs
          rw [if_pos (Or.inr (by omega))]
        rw [show (v : Int) + 1 = ((v + 1 : Nat) : Int) by omega]
        refine ih (v + 1) g (by omega) (by omega) hx ?_ (by rw [hs])
        rw [hs, hv, rv_nil]
        exact ho
theorem q_turns {w : Int} {n : Nat} {s : Nat → Int} {l : Int} {g : cb_S} (ha : ord (cn n s n) (g 20)) (hl : 0 ≤ l ∧ l ≤ 1000) (hx : tcx g w n s) : hp (f_X9_turns g l) (fun _ g2 => g2 20 = (trs (lvC w n s) l (cn n s n) (g 20) (cn n s n + 1)).2 ∧ ∀ k, k ≠ 20 → g2 k = g k) :=
  q_runs1 ha hl cb_N 0 g (Nat.zero_le _) (by have := cn_le (n := n) (s := s) n; have := hx.2.2.2.2.1; unfold cb_N; omega) hx rfl rfl
theorem m_widthOf {g : cb_S} {w : Int} {n : Nat} {s : Nat → Int} (h : tcx g w n s) {x : Int} (h0 : 0 ≤ x) (h1 : x < (cn n s n : Int)) : v_X9_widthOf g x = some (wd n s (fs n s x.toNat)) := by
  obtain ⟨⟨a1, a2⟩, a3, a4⟩ := h
  obtain ⟨e1, e2, hn, hs, hb, hw⟩ := id a4
  have hcn := cn_le (n := n) (s := s) n
  have hf := fs_ok (n := n) (s := s) (k := x.toNat) (by omega)
  have hk := a2 x.toNat (by omega)
  have hsb := hb _ hf.2.2
  unfold v_X9_widthOf
  rw [cb_id (x := x) (by omega) (by omega), if_pos (by omega), hk.1, cb_wn (n := fs n s x.toNat) (by omega), if_pos (by omega), if_pos (by omega), hk.2.2, Int.toNat_natCast, hs _ hf.2.2, m_isLetter ⟨by omega, by omega⟩, m_isDigit ⟨by omega, by omega⟩, cb_id (x := s (fs n s x.toNat)) (by omega) (by omega)]
  simp only [Option.bind_some]
  unfold wd sw
  cases jn n s (fs n s x.toNat + 1) with
  | true => rw [bI_t, if_neg (by decide), if_pos rfl]
  | false =>
    rw [bI_f, if_pos (by decide), if_neg (show ¬ (false = true) by decide)]
    by_cases c1 : sg_k (s (fs n s x.toNat)) = 0 ∨ sg_k (s (fs n s x.toNat)) = 1
    · rw [if_pos c1, if_pos c1, if_neg (by decide)]
    · rw [if_neg c1, if_neg c1, if_pos (by decide)]
      by_cases c2 : sg_k (s (fs n s x.toNat)) = 2
      · rw [if_pos c2, if_pos c2, if_neg (by decide)]
      · rw [if_neg c2, if_neg c2, if_pos (by decide)]
        split <;> rfl
/-- the model's sight: the order o -/
def mok (g : cb_S) (n : Nat) (s : Nat → Int) (o : Nat → Int) : Prop := g 20 = o ∧ g 0 28 = xs n s o (cn n s n) ∧ (∀ u, u < cn n s n → g 19 (o u).toNat = (u : Int) ∧ g 18 (o u).toNat = xs n s o u ∧ g 17 (o u).toNat = wd n s (fs n s (o u).toNat))
theorem q_place1 {w : Int} {n : Nat} {s : Nat → Int} {o : Nat → Int} (ho : ord (cn n s n) o) (hi : inj (cn n s n) o) : ∀ (m v : Nat) (g : cb_S), tcx g w n s → g 20 = o → v ≤ cn n s n → cn n s n < v + m → g 0 28 = xs n s o v → (∀ u, u < v → g 19 (o u).toNat = (u : Int) ∧ g 18 (o u).toNat = xs n s o u ∧ g 17 (o u).toNat = wd n s (fs n s (o u).toNat)) → hp (f_X9_looks_b159 m (v : Int) g) (fun _ g2 => mok g2 n s o ∧ (∀ t, t ≠ 28 → g2 0 t = g 0 t) ∧ ∀ k, k ≠ 0 → ¬ (17 ≤ k ∧ k ≤ 19) → g2 k = g k) := by
  intro m
  induction m with
  | zero => intro v g h1 h2 h3 h4; omega
  | succ m ih =>
    intro v g hd h27 hv hm h6 hp0
    have hcn := cn_le (n := n) (s := s) n
    have hn := hd.2.2.2.2.1
    rw [f_X9_looks_b159]
    dsimp only
    rw [hd.1.1, cb_wn (n := cn n s n) (by omega), cb_wn (n := v) (by omega)]
    by_cases hend : cn n s n ≤ v
    · rw [if_pos (by omega)]
      have : v = cn n s n := by omega
      subst this
      exact hp_some ⟨⟨h27, h6, hp0⟩, fun _ _ => rfl, fun _ _ _ => rfl⟩
    · have hr := ho v (by omega)
      have e8 : ((v : Int) + 1) = ((v + 1 : Nat) : Int) := by omega
      rw [if_neg (by omega), if_pos (by omega), Int.toNat_natCast, h27, cb_id (x := o v) (by omega) (by omega), if_pos (by omega), if_pos (by omega), m_widthOf (w := w) (n := n) (s := s) (tcx_keep hd (fun t _ => by rw [cb_u_other _ _ _ (by decide), cb_u_other _ _ _ (by decide)]) (fun k _ hk => by rw [cb_u_other _ _ _ (by omega), cb_u_other _ _ _ (by omega)])) hr.1 hr.2, Option.bind_some, if_pos (by omega), if_pos (by omega), h6, e8]
      have hx : xs n s o v + wd n s (fs n s (o v).toNat) = xs n s o (v + 1) := rfl
      rw [hx]
      refine hp_imp (ih (v + 1) _ (tcx_keep hd (fun t ht => by rw [cb_u_ne _ _ _ _ ht, cb_u_other _ _ _ (by decide), cb_u_other _ _ _ (by decide), cb_u_other _ _ _ (by decide)]) (fun k hk hk2 => by rw [cb_u_other _ _ _ hk, cb_u_other _ _ _ (by omega), cb_u_other _ _ _ (by omega), cb_u_other _ _ _ (by omega)])) (by rw [cb_u_other _ _ _ (by decide), cb_u_other _ _ _ (by decide), cb_u_other _ _ _ (by decide), cb_u_other _ _ _ (by decide)]; exact h27) (by omega) (by omega) (cb_u_same _ _ _ _) (fun u hu => ?_)) (fun r g2 ⟨q1, q2, q3⟩ => ⟨q1, fun t ht => ?_, fun k hk hk2 => ?_⟩)
      · by_cases e : u = v
        · rw [e]
          simp [cb_u]
        · have hru := ho u (by omega)
          have hne : (o u).toNat ≠ (o v).toNat := fun z => e (hi u v (by omega) (by omega) (by omega))
          have := hp0 u (by omega)
          simp [cb_u, hne, this]
      · rw [q2 t ht, cb_u_ne _ _ _ _ ht, cb_u_other _ _ _ (by decide), cb_u_other _ _ _ (by decide), cb_u_other _ _ _ (by decide)]
      · rw [q3 k hk hk2, cb_u_other _ _ _ hk, cb_u_other _ _ _ (by omega), cb_u_other _ _ _ (by omega), cb_u_other _ _ _ (by omega)]
theorem q_floors {w : Int} {n : Nat} {s : Nat → Int} : ∀ (m l : Nat) (g : cb_S), tcx g w n s → ord (cn n s n) (g 20) → inj (cn n s n) (g 20) → l ≤ 1000 → l < m → hp (f_X9_looks_b137 m (l : Int) g) (fun _ g2 => mok g2 n s (fls (lvC w n s) (cn n s n) l (g 20)) ∧ (∀ t, t ≠ 28 → g2 0 t = g 0 t) ∧ ∀ k, k ≠ 0 → ¬ (17 ≤ k ∧ k ≤ 20) → g2 k = g k) := by
  intro m
  induction m with
  | zero => intro l g h1 h2 h3 h4 h5; omega
  | succ m ih =>
    intro l g hd ho hi hl hm
    have hcn := cn_le (n := n) (s := s) n
    have hn := hd.2.2.2.2.1
    rw [f_X9_looks_b137]
    dsimp only
    rw [cb_wn (n := l) (by omega)]
    cases l with
    | zero =>
      rw [if_pos (by decide)]
      refine hp_imp (q_place1 (w := w) (o := g 20) ho hi cb_N 0 (cb_u g 0 28 0) (tcx_keep hd (fun t ht => cb_u_ne _ _ _ _ ht) (fun k hk _ => cb_u_other g _ _ hk)) (cb_u_other g _ _ (by decide)) (Nat.zero_le _) (by unfold cb_N; omega) (cb_u_same _ _ _ _) (fun u hu => by omega)) (fun _ g1 ⟨q1, q2, q3⟩ => ⟨q1, fun t ht => ?_, fun k hk hk2 => ?_⟩)
      · rw [q2 t ht, cb_u_ne _ _ _ _ ht]
      · rw [q3 k hk (by omega), cb_u_other _ _ _ hk]
    | succ l =>
      have e9 : (((l + 1 : Nat) : Int) + (-1)) = (l : Int) := by omega
      rw [if_neg (by omega)]
      refine hp_b (q_turns (l := ((l + 1 : Nat) : Int)) ho (by omega) hd) (fun _ g1 ⟨q1, q2⟩ => ?_)
      rw [e9]
      have o1 : ord (cn n s n) (g1 20) := by rw [q1]; exact (trs_ok ho _ (Nat.le_refl _)).2
      have i1 : inj (cn n s n) (g1 20) := by rw [q1]; exact trs_inj hi _ (Nat.le_refl _)
      refine hp_imp (ih l g1 (tcx_keep hd (fun t _ => by rw [q2 0 (by decide)]) (fun k _ hk => q2 k (by omega))) o1 i1 (by omega) (by omega)) (fun r g2 ⟨p1, p2, p3⟩ => ⟨?_, fun t ht => ?_, fun k hk hk2 => ?_⟩)
      · rw [q1] at p1
        exact p1
      · rw [p2 t ht, q2 0 (by decide)]
      · rw [p3 k hk hk2, q2 k (by omega)]
/-- the model's sight behind looks() -/
def msg (g : cb_S) (w : Int) (n : Nat) (s : Nat → Int) : Prop := g 0 28 = xs n s (OR w n s) (cn n s n) ∧ (∀ v, v < cn n s n → g 20 v = OR w n s v ∧ g 19 (OR w n s v).toNat = (v : Int) ∧ g 18 (OR w n s v).toNat = xs n s (OR w n s) v ∧ g 17 (OR w n s v).toNat = wd n s (fs n s (OR w n s v).toNat))
theorem q_sight1 {w : Int} {n : Nat} {s : Nat → Int} : ∀ (m i : Nat) (g : cb_S), tcx g w n s → i ≤ cn n s n → cn n s n < i + m → (∀ k, k < i → g 20 k = (k : Int)) → hp (f_X9_looks_b87 m (mx w n s i) (i : Int) g) (fun _ g2 => msg g2 w n s ∧ (∀ t, t ≠ 28 → g2 0 t = g 0 t) ∧ ∀ k, k ≠ 0 → ¬ (17 ≤ k ∧ k ≤ 20) → g2 k = g k) := by
  intro m
  induction m with
  | zero => intro i g h1 h2 h3; omega
  | succ m ih =>
    intro i g hd hi hm hk
    have hcn := cn_le (n := n) (s := s) n
    have hn := hd.2.2.2.2.1
    have hmx := mx_r (n := n) (s := s) hd.2.2.2.2.2.2.2 i hi
    rw [f_X9_looks_b87]
    dsimp only
    rw [hd.1.1, cb_wn (n := cn n s n) (by omega), cb_wn (n := i) (by omega)]
    by_cases hend : cn n s n ≤ i
    · rw [if_pos (by omega)]
      have : i = cn n s n := by omega
      subst this
      have e5 : mx w n s (cn n s n) = ((mx w n s (cn n s n)).toNat : Int) := by omega
      rw [e5]
      have ho : ord (cn n s n) (g 20) := fun v hv => by rw [hk v hv]; omega
      have hin : inj (cn n s n) (g 20) := fun u v hu hv huv => by rw [hk u hu, hk v hv] at huv; omega
      refine hp_imp (q_floors cb_N _ g hd ho hin (by omega) (by unfold cb_N; omega)) (fun r g2 ⟨⟨p1, p2, p3⟩, q2, q3⟩ => ⟨?_, q2, q3⟩)
      have hext := fls_ext (lev := lvC w n s) (mx w n s (cn n s n)).toNat (g 20) (fun v => (v : Int)) hk
      have hext : ∀ v, v < cn n s n → fls (lvC w n s) (cn n s n) (mx w n s (cn n s n)).toNat (g 20) v = OR w n s v := hext
      refine ⟨?_, fun v hv => ?_⟩
      · rw [p2]
        exact xs_ext hext _ (Nat.le_refl _)
      · have := p3 v hv
        rw [hext v hv] at this
        exact ⟨by rw [p1]; exact hext v hv, this.1, this.2.1.trans (xs_ext hext _ (by omega)), this.2.2⟩
    · have e8 : ((i : Int) + 1) = ((i + 1 : Nat) : Int) := by omega
      obtain ⟨t1, t2, t3, t4, t5⟩ := tcx_lv hd (x := (i : Int)) (by omega) (by omega)
      rw [Int.toNat_natCast] at t1 t2 t3
      have e4 : lvC w n s (i : Int) = CL w n s i := by unfold lvC; rw [Int.toNat_natCast]
      rw [e4] at t3 t4 t5
      rw [if_neg (by omega), if_pos (by omega), if_pos (by omega), Int.toNat_natCast, t1, cb_wn (n := fs n s i) (by omega), if_pos (by omega), Int.toNat_natCast, t3, cb_id (x := CL w n s i) (by omega) (by omega), cb_id (x := mx w n s i) (by omega) (by omega)]
      have hmx2 : mx w n s (i + 1) = (if mx w n s i < CL w n s i then CL w n s i else mx w n s i) := rfl
      have go : hp (f_X9_looks_b129 (f_X9_looks_b87 m) (mx w n s (i + 1)) (i : Int) (cb_u g 20 i (i : Int))) (fun _ g2 => msg g2 w n s ∧ (∀ t, t ≠ 28 → g2 0 t = g 0 t) ∧ ∀ k, k ≠ 0 → ¬ (17 ≤ k ∧ k ≤ 20) → g2 k = g k) := by
        unfold f_X9_looks_b129
        rw [e8]
        refine hp_imp (ih (i + 1) _ (tcx_keep hd (fun t _ => by rw [cb_u_other _ _ _ (by decide)]) (fun k _ hk2 => cb_u_other g _ _ (by omega))) (by omega) (by omega) (fun k hk9 => ?_)) (fun _ g2 ⟨q1, q2, q3⟩ => ⟨q1, fun t ht => by rw [q2 t ht, cb_u_other _ _ _ (by decide)], fun k hk1 hk2 => by rw [q3 k hk1 hk2, cb_u_other _ _ _ (by omega)]⟩)
        by_cases e : k = i
        · rw [e, cb_u_same]
        · rw [cb_u_ne _ _ _ _ e]
          exact hk k (by omega)
      by_cases hc : mx w n s i < CL w n s i
      · rw [if_pos hc] at hmx2
        rw [if_neg (by omega), if_pos (by omega), if_pos (by omega), ← hmx2]
        exact go
      · rw [if_neg hc] at hmx2
        rw [if_pos (by omega), ← hmx2]
        exact go
/-- all that looks() leaves -/
def mlk (g : cb_S) (w : Int) (n : Nat) (s : Nat → Int) : Prop := tcx g w n s ∧ msg g w n s ∧ g 0 13 = ((rst w s n).2.1 : Int) ∧ (∀ j, j < n → g 6 j = (ro w s j : Int))
def mlw (k : Nat) : Prop := k = 0 ∨ (6 ≤ k ∧ k ≤ 20)
def ml0 (t : Nat) : Prop := t = 13 ∨ t = 18 ∨ t = 20 ∨ t = 28
def lcx (g : cb_S) (w : Int) (n : Nat) (s : Nat → Int) : Prop := ln_M g w n s ∧ (∀ j, j < n → g 9 j = bI (jn n s j)) ∧ g 0 13 = ((rst w s n).2.1 : Int) ∧ (∀ j, j < n → g 6 j = (ro w s j : Int)) ∧ (∀ r, r < (rst w s n).2.1 → g 7 r = (rst w s n).2.2 r)
theorem lcx_keep {g g2 : cb_S} {w : Int} {n : Nat} {s : Nat → Int} (h : lcx g w n s) (h0 : ∀ t, t ≠ 18 → g2 0 t = g 0 t) (hk : ∀ k, k ≠ 0 → k ≠ 10 → k ≠ 11 → k ≠ 12 → k ≠ 13 → g2 k = g k) : lcx g2 w n s := by
  obtain ⟨a1, a2, a3, a4, a5⟩ := h
  refine ⟨ln_M_keep a1 (h0 0 (by decide)) (h0 1 (by decide)) (hk 1 (by decide) (by decide) (by decide) (by decide) (by decide)), ?_, by rw [h0 13 (by decide)]; exact a3, ?_, ?_⟩
  · rw [hk 9 (by decide) (by decide) (by decide) (by decide) (by decide)]; exact a2
  · rw [hk 6 (by decide) (by decide) (by decide) (by decide) (by decide)]; exact a4
  · rw [hk 7 (by decide) (by decide) (by decide) (by decide) (by decide)]; exact a5
theorem q_look3 {w : Int} {n : Nat} {s : Nat → Int} {g : cb_S} (hx : lcx g w n s) (h11 : ∀ j, j < n → g 11 j = LV w n s j) : hp (f_X9_looks_b79 g) (fun _ g2 => mlk g2 w n s ∧ (∀ t, ¬ ml0 t → g2 0 t = g 0 t) ∧ ∀ k, ¬ mlw k → g2 k = g k) := by
  obtain ⟨a1, a2, a3, a4, a5⟩ := hx
  unfold f_X9_looks_b79
  refine hp_b (q_clus a1 a2) (fun _ g1 ⟨c1, c2, c3⟩ => ?_)
  have hd : tcx g1 w n s := ⟨c1, by rw [c3 11 (by unfold mcw; omega)]; exact h11, ln_M_keep a1 (c2 0 (by decide)) (c2 1 (by decide)) (c3 1 (by unfold mcw; omega))⟩
  have hcn := cn_le (n := n) (s := s) n
  have hn := a1.2.2.1
  refine hp_imp (q_sight1 (w := w) (n := n) (s := s) cb_N 0 g1 hd (Nat.zero_le _) (by unfold cb_N; omega) (fun k hk => by omega)) (fun _ g2 ⟨d1, d2, d3⟩ => ⟨⟨tcx_keep hd d2 d3, d1, ?_, ?_⟩, fun t ht => ?_, fun k hk => ?_⟩)
  · rw [d2 13 (by decide), c2 13 (by decide)]; exact a3
  · rw [d3 6 (by decide) (by omega), c3 6 (by unfold mcw; omega)]; exact a4
  · unfold ml0 at ht
    rw [d2 t (by omega), c2 t (by omega)]
  · unfold mlw at hk
    rw [d3 k (by omega) (by omega), c3 k (by unfold mcw; omega)]
theorem q_look2 {w : Int} {n : Nat} {s : Nat → Int} : ∀ (m i : Nat) (g : cb_S), lcx g w n s → i ≤ n → i < m → fe n s (n - i) = true → (∀ j, j < i → g 11 j = L0 w n s j) → (∀ j, i ≤ j → j < n → g 11 j = w) → hp (f_X9_looks_b36 m ((i : Int) - 1) g) (fun _ g2 => mlk g2 w n s ∧ (∀ t, ¬ ml0 t → g2 0 t = g 0 t) ∧ ∀ k, ¬ mlw k → g2 k = g k) := by
  intro m
  induction m with
  | zero => intro i g hd h1 h2; omega
  | succ m ih =>
    intro i g hd h1 h2 hf hj hj2
    obtain ⟨e1, e2, hn, hs, hb, hw⟩ := id hd.1
    rw [f_X9_looks_b36]
    dsimp only
    rw [cb_id (x := (i : Int) - 1) (by omega) (by omega)]
    by_cases hend : i = 0
    · rw [if_pos (by omega)]
      refine q_look3 hd (fun j hj9 => ?_)
      unfold LV
      rw [if_pos (fe_less (d := n - i) (by omega) hf)]
      exact hj2 j (by omega) hj9
    · obtain ⟨q, rfl⟩ : ∃ q, i = q + 1 := ⟨i - 1, by omega⟩
      have e7 : (((q + 1 : Nat) : Int) - 1) = (q : Int) := by omega
      have e9 : ((q : Int) + (-1)) = ((q : Int) - 1) := by omega
      have hsb := hb q (by omega)
      have hfe : fe n s (n - q) = (fe n s (n - (q + 1)) && fall (s q)) := by
        rw [show n - q = (n - (q + 1)) + 1 by omega]
        show (fe n s (n - (q + 1)) && fall (s (n - 1 - (n - (q + 1))))) = _
        rw [show n - 1 - (n - (q + 1)) = q by omega]
      rw [e7, if_neg (by omega), if_pos (by omega), Int.toNat_natCast, hs q (by omega), cb_id (x := s q) (by omega) (by omega), m_isIsle ⟨by omega, by omega⟩, Option.bind_some]
      have yes : fall (s q) = true → hp (f_X9_looks_b63 (f_X9_looks_b36 m) (q : Int) g) (fun _ g2 => mlk g2 w n s ∧ (∀ t, ¬ ml0 t → g2 0 t = g 0 t) ∧ ∀ k, ¬ mlw k → g2 k = g k) := by
        intro hq
        unfold f_X9_looks_b63
        rw [cb_wn (n := q) (by omega), if_pos (by omega), Int.toNat_natCast, e9, e2]
        refine hp_imp (ih q _ (lcx_keep hd (fun t _ => by rw [cb_u_other _ _ _ (by decide)]) (fun k _ _ hk _ _ => cb_u_other g _ _ hk)) (by omega) (by omega) (by rw [hfe, hf, hq]; rfl) (fun j hj9 => ?_) (fun j hj9 hj8 => ?_)) (fun _ g2 ⟨q1, q2, q3⟩ => ⟨q1, fun t ht => by rw [q2 t ht, cb_u_other _ _ _ (by decide)], fun k hk => by rw [q3 k hk, cb_u_other _ _ _ (by unfold mlw at hk; omega)]⟩)
        · rw [cb_u_ne _ _ _ _ (by omega)]
          exact hj j (by omega)
        · by_cases e : j = q
          · rw [e, cb_u_same]
          · rw [cb_u_ne _ _ _ _ e]
            exact hj2 j (by omega) hj8
      have no : fall (s q) = false → hp (f_X9_looks_b79 g) (fun _ g2 => mlk g2 w n s ∧ (∀ t, ¬ ml0 t → g2 0 t = g 0 t) ∧ ∀ k, ¬ mlw k → g2 k = g k) := by
        intro hq
        refine q_look3 hd (fun j hj9 => ?_)
        unfold LV
        by_cases h9 : q < j
        · rw [if_pos (fe_less (d := n - (q + 1)) (by omega) hf)]
          exact hj2 j (by omega) hj9
        · rw [if_neg (fun z => ?_)]
          · exact hj j (by omega)
          · have := fe_less (c := n - q) (by omega) z
            rw [hfe, hq] at this
            simp at this
      by_cases c1 : s q = 32
      · rw [if_pos c1]
        exact yes (by unfold fall; exact decide_eq_true (Or.inl c1))
      · rw [if_neg c1, if_pos (by omega)]
        by_cases c2 : s q = 91 ∨ s q = 123 ∨ s q = 93
        · rw [if_pos c2, if_neg (by decide)]
          exact yes (by unfold fall; exact decide_eq_true (by omega))
        · rw [if_neg c2, if_pos (by decide)]
          exact no (by unfold fall; exact decide_eq_false (by omega))
theorem q_look1 {w : Int} {n : Nat} {s : Nat → Int} (hv : ∀ j, j < n → sg_k (s j) ≠ -1) : ∀ (m r : Nat) (g : cb_S), lcx g w n s → r ≤ (rst w s n).2.1 → (rst w s n).2.1 < r + m → (∀ j, j < n → ro w s j < r → g 11 j = L0 w n s j) → hp (f_X9_looks_b10 m (r : Int) g) (fun _ g2 => mlk g2 w n s ∧ (∀ t, ¬ ml0 t → g2 0 t = g 0 t) ∧ ∀ k, ¬ mlw k → g2 k = g k) := by
  intro m
  induction m with
  | zero => intro r g hd h1 h2; omega
  | succ m ih =>
    intro r g hd h1 h2 hj
    obtain ⟨a1, a2, a3, a4, a5⟩ := id hd
    have hn := a1.2.2.1
    have hrn := rst_num (w := w) (s := s) n
    rw [f_X9_looks_b10]
    dsimp only
    rw [a3, cb_wn (n := (rst w s n).2.1) (by omega), cb_wn (n := r) (by omega)]
    by_cases hend : (rst w s n).2.1 ≤ r
    · rw [if_pos (by omega), a1.1]
      refine q_look2 cb_N n g hd (Nat.le_refl _) (by unfold cb_N; omega) (by rw [Nat.sub_self]; rfl) (fun j hj9 => hj j hj9 ?_) (fun j x y => by omega)
      have := ro_n (w := w) a1.2.2.2.2.2 (s := s) (i := j) (n := n) (by omega)
      omega
    · rw [if_neg (by omega)]
      refine hp_b (q_row a1 a2 a4 (a5 r (by omega)) (by omega) hv) (fun _ g1 ⟨c1, c2, c3, c4⟩ => ?_)
      rw [show (r : Int) + 1 = ((r + 1 : Nat) : Int) by omega]
      refine hp_imp (ih (r + 1) g1 (lcx_keep hd c3 c4) (by omega) (by omega) (fun j h3 h4 => ?_)) (fun _ g2 ⟨q1, q2, q3⟩ => ⟨q1, fun t ht => ?_, fun k hk => ?_⟩)
      · by_cases e : ro w s j = r
        · exact c1 j h3 e
        · rw [c2 j (fun z => e z.2)]
          exact hj j h3 (by omega)
      · rw [q2 t ht, c3 t (by unfold ml0 at ht; omega)]
      · unfold mlw at hk
        rw [q3 k hk, c4 k (by omega) (by omega) (by omega) (by omega) (by omega)]
theorem q_looks {w : Int} {n : Nat} {s : Nat → Int} {g : cb_S} (hl : ln_M g w n s) (hv : ∀ j, j < n → sg_k (s j) ≠ -1) : hp (f_X9_looks g) (fun _ g2 => mlk g2 w n s ∧ (∀ t, ¬ ml0 t → g2 0 t = g 0 t) ∧ ∀ k, ¬ mlw k → g2 k = g k) := by
  unfold f_X9_looks
  have hn := hl.2.2.1
  refine hp_b (q_rows hl) (fun _ g1 ⟨c1, c2, c3⟩ => ?_)
  have hl1 : ln_M g1 w n s := ln_M_keep hl (c2 0 (by decide)) (c2 1 (by decide)) (c3 1 (by decide) (by decide) (by decide) (by decide))
  refine hp_b (q_joins hl1) (fun _ g2 ⟨d1, d2⟩ => ?_)
  obtain ⟨r1, r2, r3, r4, r5, r6⟩ := c1
  have hd : lcx g2 w n s := ⟨ln_M_keep hl1 (by rw [d2 0 (by decide)]) (by rw [d2 0 (by decide)]) (d2 1 (by decide)), d1, by rw [d2 0 (by decide)]; exact r1, by rw [d2 6 (by decide)]; exact r6, by rw [d2 7 (by decide)]; exact r5⟩
  refine hp_imp (q_look1 hv cb_N 0 g2 hd (Nat.zero_le _) (by unfold cb_N; omega) (fun j _ h => by omega)) (fun _ g3 ⟨q1, q2, q3⟩ => ⟨q1, fun t ht => ?_, fun k hk => ?_⟩)
  · rw [q2 t ht, d2 0 (by decide), c2 t (by unfold ml0 at ht; omega)]
  · unfold mlw at hk
    rw [q3 k hk, d2 k (by omega), c3 k (by omega) (by omega) (by omega) (by omega)]
