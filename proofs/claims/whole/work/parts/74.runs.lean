/-! turning all runs of a level: step by step, (where the run began, the order) -/
def trs (lev : Int → Int) (l : Int) (c : Nat) (a : Nat → Int) : Nat → Nat × (Nat → Int)
  | 0 => (0, a)
  | v + 1 => if v = c ∨ lev ((trs lev l c a v).2 v) < l then (v + 1, rv (trs lev l c a v).2 (trs lev l c a v).1 v) else trs lev l c a v
/-- numbers below c -/
def ord (c : Nat) (a : Nat → Int) : Prop := ∀ v, v < c → 0 ≤ a v ∧ a v < (c : Int)
theorem rv_ord {c : Nat} {a : Nat → Int} (h : ord c a) {lo e : Nat} (he : e ≤ c) : ord c (rv a lo e) := fun v hv => by
  unfold rv
  split
  · exact h _ (by omega)
  · exact h v hv
theorem trs_ok {lev : Int → Int} {l : Int} {c : Nat} {a : Nat → Int} (h : ord c a) : ∀ v, v ≤ c + 1 → (trs lev l c a v).1 ≤ v ∧ ord c (trs lev l c a v).2 := by
  intro v
  induction v with
  | zero => intro _; exact ⟨Nat.le_refl _, h⟩
  | succ v ih =>
    intro hv
    have := ih (by omega)
    unfold trs
    split
    · exact ⟨Nat.le_refl _, rv_ord this.2 (by omega)⟩
    · exact ⟨by omega, this.2⟩
theorem p_runs1 {lev : Int → Int} {l : Int} {c : Nat} {a : Nat → Int} (ha : ord c a) (hc : c ≤ 60) (hl : 0 ≤ l ∧ l ≤ 1000) : ∀ (m v : Nat) (g : cb_S), v ≤ c + 1 → c + 1 < v + m → g 4 4 = (c : Int) → g 27 = (trs lev l c a v).2 → (∀ k, k < c → g 26 k = lev (k : Int) ∧ 0 ≤ lev (k : Int) ∧ lev (k : Int) ≤ 1000) → hp (f_X6_turnRuns_b4 m l ((trs lev l c a v).1 : Int) (v : Int) g) (fun _ g2 => g2 27 = (trs lev l c a (c + 1)).2 ∧ ∀ k, k ≠ 27 → g2 k = g k) := by
  intro m
  induction m with
  | zero => intro v g h1 h2; omega
  | succ m ih =>
    intro v g h1 h2 h4 ho hlev
    have ok := trs_ok (lev := lev) (l := l) ha v h1
    rw [f_X6_turnRuns_b4]
    dsimp only
    rw [h4, cb_wn (n := c) (by omega), cb_wn (n := v) (by omega)]
    by_cases hend : c < v
    · rw [if_pos (by omega)]
      have : v = c + 1 := by omega
      subst this
      exact hp_some ⟨ho, fun _ _ => rfl⟩
    · rw [if_neg (by omega)]
      have e8 : ((v : Int) + 1) = ((v + 1 : Nat) : Int) := by omega
      have cut : (v = c ∨ lev ((trs lev l c a v).2 v) < l) → hp (f_X6_turnRuns_b38 (f_X6_turnRuns_b4 m) l ((trs lev l c a v).1 : Int) (v : Int) g) (fun _ g2 => g2 27 = (trs lev l c a (c + 1)).2 ∧ ∀ k, k ≠ 27 → g2 k = g k) := by
        intro hcut
        have hs : trs lev l c a (v + 1) = (v + 1, rv (trs lev l c a v).2 (trs lev l c a v).1 v) := by
          conv => lhs; unfold trs
          rw [if_pos hcut]
        unfold f_X6_turnRuns_b38
        refine hp_b (p_turn (g := g) (lo := (trs lev l c a v).1) (e := v) (by omega) (by omega)) (fun _ g1 ⟨q1, q2⟩ => ?_)
        unfold f_X6_turnRuns_b50
        rw [e8]
        have e1 : (v + 1 : Nat) = (trs lev l c a (v + 1)).1 := by rw [hs]
        have := ih (v + 1) g1 (by omega) (by omega) (by rw [q2 4 (by decide)]; exact h4) (by rw [q1, hs, ho]) (fun k hk => by rw [q2 26 (by decide)]; exact hlev k hk)
        rw [← e1] at this
        exact hp_imp this (fun r g2 ⟨p1, p2⟩ => ⟨p1, fun k hk => (p2 k hk).trans (q2 k hk)⟩)
      by_cases hvc : v = c
      · rw [if_pos (by omega)]
        exact cut (Or.inl hvc)
      · have hr := ok.2 v (by omega)
        have hlv := hlev ((trs lev l c a v).2 v).toNat (by omega)
        have ei : ((((trs lev l c a v).2 v).toNat : Nat) : Int) = (trs lev l c a v).2 v := by omega
        rw [ei] at hlv
        rw [if_neg (by omega), if_pos (by omega), Int.toNat_natCast, ho, v_val_in (by decide) (by omega) (by omega), Option.bind_some, hlv.1, cb_id (x := lev ((trs lev l c a v).2 v)) (by omega) (by omega), cb_id (x := l) (by omega) (by omega)]
        by_cases hcut : lev ((trs lev l c a v).2 v) < l
        · rw [if_neg (by omega)]
          exact cut (Or.inr hcut)
        · rw [if_pos (by omega)]
          have hs : trs lev l c a (v + 1) = trs lev l c a v := by
            conv => lhs; unfold trs
            rw [if_neg (by omega)]
          unfold f_X6_turnRuns_b50
          rw [e8]
          have := ih (v + 1) g (by omega) (by omega) h4 (by rw [hs]; exact ho) hlev
          rw [hs] at this
          exact this
theorem p_runs {lev : Int → Int} {l : Int} {c : Nat} {g : cb_S} (ha : ord c (g 27)) (hc : c ≤ 60) (hl : 0 ≤ l ∧ l ≤ 1000) (h4 : g 4 4 = (c : Int)) (hlev : ∀ k, k < c → g 26 k = lev (k : Int) ∧ 0 ≤ lev (k : Int) ∧ lev (k : Int) ≤ 1000) : hp (f_X6_turnRuns g l) (fun _ g2 => g2 27 = (trs lev l c (g 27) (c + 1)).2 ∧ ∀ k, k ≠ 27 → g2 k = g k) :=
  p_runs1 ha hc hl cb_N 0 g (Nat.zero_le _) (by unfold cb_N; omega) h4 rfl hlev
