/-! by sight -/
theorem xs_find {n : Nat} {s : Nat → Int} {o : Nat → Int} {x : Int} (h0 : 0 ≤ x) : ∀ c, x < xs n s o c → ∃ v, v < c ∧ xs n s o v ≤ x ∧ x < xs n s o (v + 1) := by
  intro c
  induction c with
  | zero =>
    intro h
    have h : x < 0 := h
    omega
  | succ c ih =>
    intro h
    by_cases e : x < xs n s o c
    · obtain ⟨v, v1, v2⟩ := ih e
      exact ⟨v, by omega, v2⟩
    · exact ⟨c, by omega, by omega, h⟩
theorem xs_uniq {n : Nat} {s : Nat → Int} {o : Nat → Int} {x : Int} {u v : Nat} (h1 : xs n s o u ≤ x) (h2 : x < xs n s o (u + 1)) (h3 : xs n s o v ≤ x) (h4 : x < xs n s o (v + 1)) : u = v := by
  rcases Nat.lt_trichotomy u v with h | h | h
  · have := xs_mono (n := n) (s := s) (o := o) (show u + 1 ≤ v from h)
    omega
  · exact h
  · have := xs_mono (n := n) (s := s) (o := o) (show v + 1 ≤ u from h)
    omega
theorem c_over1 {g : cb_S} {w : Int} {n : Nat} {s : Nat → Int} (h : cvw g w n s) {x : Int} (hx : cb_i x) {K : Int} (hK : (∃ v, v < cn n s n ∧ xs n s (OR w n s) v ≤ x ∧ x < xs n s (OR w n s) (v + 1) ∧ K = OR w n s v) ∨ ((x < 0 ∨ TW w n s ≤ x) ∧ K = -1)) : ∀ (m u : Nat), u ≤ cn n s n → cn n s n < u + m → (∀ v, v < u → ¬ (xs n s (OR w n s) v ≤ x ∧ x < xs n s (OR w n s) (v + 1))) → v_X6_clusterOver_b2 m x (u : Int) g = some K := by
  have hcn := cn_le (n := n) (s := s) n
  have hn := h.2.2.2.2.2.2.2.1
  intro m
  induction m with
  | zero => intro u h1 h2; omega
  | succ m ih =>
    intro u h1 h2 hj
    rw [v_X6_clusterOver_b2]
    dsimp only
    unfold v_X6_clusterOver_b37
    rw [h.2.1, cb_wn (n := cn n s n) (by omega), cb_wn (n := u) (by omega), cb_id hx.1 hx.2]
    by_cases hend : cn n s n ≤ u
    · rw [if_pos (by omega)]
      rcases hK with ⟨v, v1, v2, v3, v4⟩ | ⟨_, e⟩
      · exact absurd ⟨v2, v3⟩ (hj v (by omega))
      · rw [e]
    · obtain ⟨k, k1, k2, k3⟩ := PL_OR (w := w) (n := n) (s := s) (v := u) (by omega)
      have hXr := XL_r (w := w) k1 hn
      have hX : XL w n s k = xs n s (OR w n s) u := by unfold XL; rw [k3]
      have hX2 := XL_next (w := w) k1
      rw [k3] at hX2
      have hwd := wd_r n s (fs n s k)
      rw [if_neg (by omega), if_pos (by omega), Int.toNat_natCast, (h.2.2.2.2.2.2.1 u (by omega)).2.2.2.2.2.2, k2, c_left h k1, Option.bind_some, c_right h k1, Option.bind_some, cb_id (x := XL w n s k) (by omega) (by omega), cb_id (x := XL w n s k + wd n s (fs n s k)) (by omega) (by omega)]
      have go : ¬ (xs n s (OR w n s) u ≤ x ∧ x < xs n s (OR w n s) (u + 1)) → v_X6_clusterOver_b2 m x ((u : Int) + 1) g = some K := by
        intro hno
        rw [show (u : Int) + 1 = ((u + 1 : Nat) : Int) by omega]
        refine ih (u + 1) (by omega) (by omega) (fun v hv => ?_)
        by_cases e : v = u
        · rw [e]; exact hno
        · exact hj v (by omega)
      by_cases e1 : x < XL w n s k
      · rw [if_pos e1]
        exact go (by omega)
      · rw [if_neg e1]
        by_cases e2 : XL w n s k + wd n s (fs n s k) ≤ x
        · rw [if_pos e2]
          exact go (by omega)
        · rw [if_neg e2]
          rcases hK with ⟨v, v1, v2, v3, v4⟩ | ⟨e, _⟩
          · have : u = v := xs_uniq (x := x) (by omega) (by omega) v2 v3
            subst this
            rw [v4, k2]
          · omega
theorem c_over_in {g : cb_S} {w : Int} {n : Nat} {s : Nat → Int} (h : cvw g w n s) {x : Int} (hx : cb_i x) {v : Nat} (hv : v < cn n s n) (h1 : xs n s (OR w n s) v ≤ x) (h2 : x < xs n s (OR w n s) (v + 1)) : v_X6_clusterOver g x = some (OR w n s v) :=
  c_over1 h hx (Or.inl ⟨v, hv, h1, h2, rfl⟩) cb_N 0 (Nat.zero_le _) (by have := cn_le (n := n) (s := s) n; have := h.2.2.2.2.2.2.2.1; unfold cb_N; omega) (fun v hv => by omega)
theorem c_over_out {g : cb_S} {w : Int} {n : Nat} {s : Nat → Int} (h : cvw g w n s) {x : Int} (hx : cb_i x) (h1 : x < 0 ∨ TW w n s ≤ x) : v_X6_clusterOver g x = some (-1) :=
  c_over1 h hx (Or.inr ⟨h1, rfl⟩) cb_N 0 (Nat.zero_le _) (by have := cn_le (n := n) (s := s) n; have := h.2.2.2.2.2.2.2.1; unfold cb_N; omega) (fun v hv => by omega)
/-- the caret's x is a side of some place -/
theorem cx_xs {w : Int} {n : Nat} {s : Nat → Int} {p : Nat} {d : Int} (hz : hh n s (p : Int) = -1) : ∃ u, u ≤ cn n s n ∧ cx w n s p d = xs n s (OR w n s) u := by
  have t0 : ∃ u, u ≤ cn n s n ∧ (0 : Int) = xs n s (OR w n s) u := ⟨0, Nat.zero_le _, rfl⟩
  have t1 : ∃ u, u ≤ cn n s n ∧ TW w n s = xs n s (OR w n s) u := ⟨_, Nat.le_refl _, rfl⟩
  have t2 : ∀ k, k < cn n s n → ∃ u, u ≤ cn n s n ∧ XL w n s k = xs n s (OR w n s) u := fun k hk => ⟨PL w n s k, by have := (PL_ok (w := w) hk).2; omega, rfl⟩
  have t3 : ∀ k, k < cn n s n → ∃ u, u ≤ cn n s n ∧ XL w n s k + wd n s (fs n s k) = xs n s (OR w n s) u := fun k hk => ⟨PL w n s k + 1, by have := (PL_ok (w := w) hk).2; omega, (XL_next hk).symm⟩
  unfold cx
  rw [if_pos hz]
  split
  · split
    · split
      · exact t1
      · exact t0
    · rename_i b
      obtain ⟨k, k1, k2, k3⟩ := bg_ex b
      rw [k3, Int.toNat_natCast]
      split
      · exact t2 k k1
      · exact t3 k k1
  · split
    · split
      · exact t0
      · exact t1
    · rename_i b
      obtain ⟨k, k1, k2, k3⟩ := en_ex b
      rw [k3, Int.toNat_natCast]
      split
      · exact t3 k k1
      · exact t2 k k1
/-- the cluster to step over -/
def ovr (w : Int) (n : Nat) (s : Nat → Int) (u : Nat) (r : Bool) : Int := if r = true then (if u < cn n s n then OR w n s u else -1) else (if 0 < u then OR w n s (u - 1) else -1)
theorem ovr_ex {w : Int} {n : Nat} {s : Nat → Int} {u : Nat} {r : Bool} (hu : u ≤ cn n s n) (h : ovr w n s u r ≠ -1) : ∃ k, k < cn n s n ∧ ovr w n s u r = (k : Int) := by
  unfold ovr at h ⊢
  cases r with
  | true =>
    rw [if_pos rfl] at h ⊢
    by_cases e : u < cn n s n
    · rw [if_pos e]
      obtain ⟨k, k1, k2, k3⟩ := PL_OR (w := w) (n := n) (s := s) e
      exact ⟨k, k1, k2⟩
    · rw [if_neg e] at h
      exact absurd rfl h
  | false =>
    rw [if_neg (by decide)] at h ⊢
    by_cases e : 0 < u
    · rw [if_pos e]
      obtain ⟨k, k1, k2, k3⟩ := PL_OR (w := w) (n := n) (s := s) (v := u - 1) (by omega)
      exact ⟨k, k1, k2⟩
    · rw [if_neg e] at h
      exact absurd rfl h
/-- which cluster has that side there -/
theorem ovr_iff {w : Int} {n : Nat} {s : Nat → Int} {u : Nat} (r : Bool) (hu : u ≤ cn n s n) {q : Nat} (hq : q < cn n s n) : ((if r = true then XL w n s q else XL w n s q + wd n s (fs n s q)) = xs n s (OR w n s) u) ↔ ovr w n s u r = (q : Int) := by
  have hp := PL_ok (w := w) hq
  have hi := (OR_ok w n s).2.1
  unfold ovr
  cases r with
  | true =>
    rw [if_pos rfl, if_pos rfl]
    refine ⟨fun z => ?_, fun z => ?_⟩
    · have e : PL w n s q = u := xs_inj z
      rw [if_pos (by omega), ← e]
      exact hp.1
    · by_cases e : u < cn n s n
      · rw [if_pos e] at z
        have : PL w n s q = u := hi _ _ hp.2 e (by rw [hp.1, z])
        rw [← this]
        rfl
      · rw [if_neg e] at z
        omega
  | false =>
    rw [if_neg (by decide), if_neg (by decide), ← XL_next hq]
    refine ⟨fun z => ?_, fun z => ?_⟩
    · have e : PL w n s q + 1 = u := xs_inj z
      rw [if_pos (by omega), show u - 1 = PL w n s q by omega]
      exact hp.1
    · by_cases e : 0 < u
      · rw [if_pos e] at z
        have : PL w n s q = u - 1 := hi _ _ hp.2 (by omega) (by rw [hp.1, z])
        rw [this, show u - 1 + 1 = u by omega]
      · rw [if_neg e] at z
        omega
theorem c_ovr {g : cb_S} {w : Int} {n : Nat} {s : Nat → Int} (h : cvw g w n s) {u : Nat} (hu : u ≤ cn n s n) : v_X6_clusterWithLeft g (xs n s (OR w n s) u) = some (ovr w n s u true) ∧ v_X6_clusterWithRight g (xs n s (OR w n s) u) = some (ovr w n s u false) := by
  have hcn := cn_le (n := n) (s := s) n
  have hn := h.2.2.2.2.2.2.2.1
  have hr := xs_r (n := n) (s := s) (o := OR w n s) u
  refine ⟨?_, ?_⟩
  · unfold v_X6_clusterWithLeft ovr
    rw [if_pos rfl]
    by_cases e : u < cn n s n
    · have hlt := xs_lt (n := n) (s := s) (o := OR w n s) (show u < u + 1 by omega)
      obtain ⟨k, k1, k2, k3⟩ := PL_OR (w := w) (n := n) (s := s) e
      have hX : XL w n s k = xs n s (OR w n s) u := by unfold XL; rw [k3]
      rw [c_over_in h ⟨by omega, by omega⟩ e (by omega) (by omega), Option.bind_some, k2, cb_wn (n := k) (by omega), if_neg (by omega), c_left h k1, Option.bind_some, hX, if_pos rfl, if_pos e]
    · have : u = cn n s n := by omega
      subst this
      rw [c_over_out h (x := xs n s (OR w n s) (cn n s n)) ⟨by omega, by omega⟩ (Or.inr (show TW w n s ≤ xs n s (OR w n s) (cn n s n) from Int.le_refl _)), Option.bind_some, if_pos (by decide), if_neg e]
  · unfold v_X6_clusterWithRight ovr
    rw [if_neg (by decide)]
    by_cases e : 0 < u
    · have hlt := xs_lt (n := n) (s := s) (o := OR w n s) (show u - 1 < u by omega)
      rw [c_over_in h (v := u - 1) ⟨by omega, by omega⟩ (by omega) (by omega) (by rw [show u - 1 + 1 = u by omega]; omega), Option.bind_some, if_pos e]
    · have hu0 : u = 0 := by omega
      subst hu0
      rw [show xs n s (OR w n s) 0 = 0 from rfl, c_over_out h ⟨by omega, by omega⟩ (Or.inl (by omega)), Option.bind_some, if_neg e]
/-- one step over cluster k, joined or not -/
def stp (w : Int) (n : Nat) (s : Nat → Int) (k : Nat) (r : Bool) : Nat × Int := if jn n s (fs n s k + 1) = true then (fs n s k + 2, 0) else sd w n s k r
theorem stp_cst {w : Int} {n : Nat} {s : Nat → Int} {k : Nat} (hk : k < cn n s n) (r : Bool) : cst n s (stp w n s k r).1 (stp w n s k r).2 := by
  unfold stp
  split
  · rename_i hj
    exact cst_S (mid_S hk hj).1
  · exact sd_cst hk r
theorem c_step {g : cb_S} {w : Int} {n : Nat} {s : Nat → Int} (h : cvw g w n s) {p : Nat} {d : Int} (h2 : g 5 2 = (p : Int)) (h3 : g 5 3 = d) (hc : cst n s p d) (r : Bool) : (hh n s (p : Int) = -1 → ∀ u, u ≤ cn n s n → cx w n s p d = xs n s (OR w n s) u → (ovr w n s u r = -1 → f_X8_step g (bI r) = some (0, g)) ∧ ∀ k, k < cn n s n → ovr w n s u r = (k : Int) → f_X8_step g (bI r) = some (1, cb_u (cb_u g 5 2 ((stp w n s k r).1 : Int)) 5 3 (stp w n s k r).2)) ∧ (∀ k, k < cn n s n → hh n s (p : Int) = (k : Int) → f_X8_step g (bI r) = some (1, cb_u (cb_u g 5 2 ((sd w n s k r).1 : Int)) 5 3 (sd w n s k r).2)) := by
  have hcn := cn_le (n := n) (s := s) n
  obtain ⟨a1, a2, a3, a4, a5, a6, a7, hn, hw, hcl, a11⟩ := id h
  have hp := isS_le hc.1
  have r1 := hh_r n s hn (p : Int)
  refine ⟨fun hz u hu hcx => ?_, fun k hk hz => ?_⟩
  · have b54 : ∀ K : Int, K = ovr w n s u r → (K = -1 → f_X0_stepOver_b54 (bI r) K g = some (0, g)) ∧ ∀ k, k < cn n s n → K = (k : Int) → f_X0_stepOver_b54 (bI r) K g = some (1, cb_u (cb_u g 5 2 ((stp w n s k r).1 : Int)) 5 3 (stp w n s k r).2) := by
      intro K hK
      unfold f_X0_stepOver_b54
      refine ⟨fun e => ?_, fun k hk e => ?_⟩
      · rw [e, if_pos (by decide)]
      · rw [e, cb_wn (n := k) (by omega), if_neg (by omega), c_joined h hk, Option.bind_some]
        unfold stp
        cases hj : jn n s (fs n s k + 1) with
        | true => rw [bI_t, if_neg (by decide), c_mid h hk hj, cb_b_some, if_pos rfl]
        | false => rw [bI_f, if_pos (by decide), c_side h hk, cb_b_some, if_neg (by decide)]
    have hst : f_X0_stepOver g (bI r) = f_X0_stepOver_b54 (bI r) (ovr w n s u r) g := by
      unfold f_X0_stepOver
      rw [h2, c_hh hcl hn ⟨by omega, by omega⟩, Option.bind_some, hz, if_pos (by decide), c_x h h2 h3 hc.2.1 (by omega), Option.bind_some, Option.bind_some, hcx, (c_ovr h hu).1, (c_ovr h hu).2]
      cases r <;> rfl
    have b := b54 _ rfl
    unfold f_X8_step
    rw [hst]
    refine ⟨fun e => ?_, fun k hk e => ?_⟩
    · rw [b.1 e, cb_b_some, if_pos (Or.inl rfl)]
    · rw [b.2 k hk e, cb_b_some, if_pos (Or.inr rfl)]
  · unfold f_X8_step f_X0_stepOver
    rw [h2, c_hh hcl hn ⟨by omega, by omega⟩, Option.bind_some, hz, cb_wn (n := k) (by omega), if_neg (by omega), c_side h hk, cb_b_some, cb_b_some, if_pos (Or.inr rfl)]
theorem m_side {g : cb_S} {w : Int} {n : Nat} {s : Nat → Int} (h : mvw g w n s) {k : Nat} (hk : k < cn n s n) (r : Bool) : f_X9_step_b145 (bI r) (k : Int) g = some (1, cb_u (cb_u g 0 3 ((sd w n s k r).1 : Int)) 0 4 (sd w n s k r).2) := by
  unfold f_X9_step_b145
  cases r with
  | true => rw [bI_t, if_neg (by decide), m_right h hk, cb_b_some]
  | false => rw [bI_f, if_pos (by decide), m_left h hk, cb_b_some]
theorem m_step1 {g : cb_S} {w : Int} {n : Nat} {s : Nat → Int} (h : mvw g w n s) {u : Nat} (hu : u ≤ cn n s n) (r : Bool) : ∀ (m q : Nat) (K : Int), q ≤ cn n s n → cn n s n < q + m → (0 ≤ ovr w n s u r ∧ ovr w n s u r < (q : Int) → K = ovr w n s u r) → (¬ (0 ≤ ovr w n s u r ∧ ovr w n s u r < (q : Int)) → K = -1) → (ovr w n s u r = -1 → f_X9_step_b48 m (bI r) K 0 (xs n s (OR w n s) u) (q : Int) g = some (0, g)) ∧ ∀ k, k < cn n s n → ovr w n s u r = (k : Int) → f_X9_step_b48 m (bI r) K 0 (xs n s (OR w n s) u) (q : Int) g = some (1, cb_u (cb_u g 0 3 ((stp w n s k r).1 : Int)) 0 4 (stp w n s k r).2) := by
  obtain ⟨m1, m2, m3, m4, m5, m6, m7⟩ := id h
  have hcn := cn_le (n := n) (s := s) n
  have hn := m7.2.2.1
  have hxr := xs_r (n := n) (s := s) (o := OR w n s) u
  intro m
  induction m with
  | zero => intro q K h1 h2; omega
  | succ m ih =>
    intro q K h1 h2 hK1 hK2
    rw [f_X9_step_b48]
    dsimp only
    rw [m1.1, cb_wn (n := cn n s n) (by omega), cb_wn (n := q) (by omega), cb_id (x := xs n s (OR w n s) u) (by omega) (by omega)]
    by_cases hend : cn n s n ≤ q
    · rw [if_pos (by omega)]
      unfold f_X9_step_b109
      refine ⟨fun e => ?_, fun k hk e => ?_⟩
      · rw [hK2 (by omega), if_pos (by decide)]
      · rw [hK1 (by omega), e, cb_wn (n := k) (by omega), if_neg (by omega), if_pos (by omega), Int.toNat_natCast, (m1.2 k hk).2.2, (m1.2 k hk).1]
        unfold stp f_X9_goes
        cases hj : jn n s (fs n s k + 1) with
        | true =>
          rw [bI_t, if_neg (by decide), if_pos (show cb_w 0 = 0 by decide), if_pos (by omega), cb_b_some, if_pos rfl]
          rfl
        | false => rw [bI_f, if_pos (by decide), m_side h hk, if_neg (by decide)]
    · have mk := m3 q (by omega)
      have hXr := XL_r (w := w) (n := n) (s := s) (k := q) (by omega) hn
      have hwd := wd_r n s (fs n s q)
      rw [if_neg (by omega), if_pos (show cb_w 0 = 0 by decide), if_pos (show 0 ≤ (q : Int) ∧ (q : Int) < ((64 : Nat) : Int) by omega), if_pos (show 0 ≤ (q : Int) ∧ (q : Int) < ((64 : Nat) : Int) by omega), if_pos (show 0 ≤ (q : Int) ∧ (q : Int) < ((64 : Nat) : Int) by omega), Int.toNat_natCast, mk.1, mk.2.1, cb_id (x := XL w n s q) (by omega) (by omega), cb_id (x := XL w n s q + wd n s (fs n s q)) (by omega) (by omega)]
      unfold f_X9_step_b100 f_X9_step_b103
      have hiff := ovr_iff (w := w) (n := n) (s := s) r hu (q := q) (by omega)
      have yes : ovr w n s u r = (q : Int) → (ovr w n s u r = -1 → f_X9_step_b48 m (bI r) (q : Int) 0 (xs n s (OR w n s) u) ((q : Int) + 1) g = some (0, g)) ∧ ∀ k, k < cn n s n → ovr w n s u r = (k : Int) → f_X9_step_b48 m (bI r) (q : Int) 0 (xs n s (OR w n s) u) ((q : Int) + 1) g = some (1, cb_u (cb_u g 0 3 ((stp w n s k r).1 : Int)) 0 4 (stp w n s k r).2) := by
        intro e
        rw [show (q : Int) + 1 = ((q + 1 : Nat) : Int) by omega]
        exact ih (q + 1) (q : Int) (by omega) (by omega) (fun _ => e.symm) (fun z => absurd ⟨by omega, by omega⟩ z)
      have no : ovr w n s u r ≠ (q : Int) → (ovr w n s u r = -1 → f_X9_step_b48 m (bI r) K 0 (xs n s (OR w n s) u) ((q : Int) + 1) g = some (0, g)) ∧ ∀ k, k < cn n s n → ovr w n s u r = (k : Int) → f_X9_step_b48 m (bI r) K 0 (xs n s (OR w n s) u) ((q : Int) + 1) g = some (1, cb_u (cb_u g 0 3 ((stp w n s k r).1 : Int)) 0 4 (stp w n s k r).2) := by
        intro e
        rw [show (q : Int) + 1 = ((q + 1 : Nat) : Int) by omega]
        exact ih (q + 1) K (by omega) (by omega) (fun z => hK1 ⟨z.1, by omega⟩) (fun z => hK2 (fun y => z ⟨y.1, by omega⟩))
      cases r with
      | true =>
        rw [if_pos rfl] at hiff
        rw [bI_t] at yes no ⊢
        rw [if_neg (show ¬ cb_w 1 = 0 by decide)]
        by_cases e : XL w n s q = xs n s (OR w n s) u
        · rw [if_pos e]
          exact yes (hiff.mp e)
        · rw [if_neg e]
          exact no (fun z => e (hiff.mpr z))
      | false =>
        rw [if_neg (by decide)] at hiff
        rw [bI_f] at yes no ⊢
        rw [if_pos (show cb_w 0 = 0 by decide)]
        by_cases e : XL w n s q + wd n s (fs n s q) = xs n s (OR w n s) u
        · rw [if_pos e]
          exact yes (hiff.mp e)
        · rw [if_neg e]
          exact no (fun z => e (hiff.mpr z))
theorem o11 : lw_o11 Rel := by
  intro gC gM hR x hx
  obtain ⟨w, n, s, p, d, h⟩ := hR
  obtain ⟨r0, g1, l1, l2, l3⟩ := rL_looks h
  obtain ⟨a1, a2, a3, a4, a5, a6, a7, a8, a9, a10⟩ := id l3
  have cv := laid_vw a1
  have hn := a6.2.2.1
  have hcn := cn_le (n := n) (s := s) n
  have hp := isS_le a5.1
  obtain ⟨r, rfl⟩ : ∃ r : Bool, x = bI r := by
    rcases hx with rfl | rfl
    · exact ⟨false, rfl⟩
    · exact ⟨true, rfl⟩
  have cs := c_step cv a3 a4 a5 r
  have hM : f_X9_step gM (bI r) = (v_X9_isBetween g1 (p : Int)).bind (fun r2 => if cb_w r2 = 0 then ((v_X9_holds g1 (p : Int)).bind (fun r3 => f_X9_step_b27 (bI r) r3 g1)) else (f_X9_step_b27 (bI r) (-1) g1)) := by
    unfold f_X9_step
    rw [l1, cb_b_some, a7]
  rw [m_isB l2.1 a6.1 hn ⟨by omega, by omega⟩, Option.bind_some, m_hh l2.1 hn ⟨by omega, by omega⟩, Option.bind_some] at hM
  by_cases z : hh n s (p : Int) = -1
  · have hB : isB n s (p : Int) = true := by
      rcases isS_iff.mp a5.1 with q | q
      · exact q
      · exact absurd z q
    obtain ⟨u, hu, hcx⟩ := cx_xs (w := w) (d := d) z
    have cs1 := cs.1 z u hu hcx
    rw [hB, bI_t, if_neg (by decide)] at hM
    unfold f_X9_step_b27 f_X9_step_b38 at hM
    rw [if_pos (by decide), m_x l2 a7 a8 a5, Option.bind_some, hcx] at hM
    have ms := m_step1 l2 hu r cb_N 0 (-1) (Nat.zero_le _) (by unfold cb_N; omega) (fun z => by omega) (fun _ => rfl)
    by_cases e : ovr w n s u r = -1
    · have e2 := ms.1 e
      rw [cs1.1 e, hM]
      exact ⟨0, gC, 0, g1, rfl, e2, rfl, ⟨w, n, s, p, d, l3⟩⟩
    · obtain ⟨k, k1, k2⟩ := ovr_ex hu e
      have e2 := ms.2 k k1 k2
      rw [cs1.2 k k1 k2, hM]
      exact ⟨1, _, 1, _, rfl, e2, rfl, ⟨w, n, s, _, _, rL_move l3 (stp_cst k1 r)⟩⟩
  · obtain ⟨k, k1, k2, k3, k4, k5⟩ := hh_ex z
    have hB := hh_isB z
    rw [hB, bI_f, if_pos (by decide), k3] at hM
    unfold f_X9_step_b27 f_X9_step_b38 at hM
    rw [cb_wn (n := k) (by omega), if_neg (by omega), m_x l2 a7 a8 a5, Option.bind_some, show cb_N = 1999 + 1 from rfl, f_X9_step_b48] at hM
    dsimp only at hM
    unfold f_X9_step_b109 at hM
    rw [l2.1.1, cb_wn (n := cn n s n) (by omega), if_neg (by rw [cb_w0]; omega), if_neg (show ¬ cb_w 1 = 0 by decide), cb_wn (n := k) (by omega), if_neg (by omega), if_pos (by omega), Int.toNat_natCast, (l2.1.2 k k1).2.2, k4, bI_t, if_neg (show ¬ cb_w 1 = 0 by decide), if_neg (show ¬ cb_w 1 = 0 by decide), m_side l2 k1] at hM
    rw [cs.2 k k1 k3, hM]
    exact ⟨1, _, 1, _, rfl, rfl, rfl, ⟨w, n, s, _, _, rL_move l3 (sd_cst k1 r)⟩⟩
