def lvC (w : Int) (n : Nat) (s : Nat → Int) : Int → Int := fun x => CL w n s x.toNat
theorem CL_r {w : Int} {n : Nat} {s : Nat → Int} (hw : w = 0 ∨ w = 1) {k : Nat} (hk : k < cn n s n) : 0 ≤ CL w n s k ∧ CL w n s k ≤ 2 * n + 3 := by
  have h1 := LV_r (n := n) (s := s) hw (fs n s k)
  have h2 := (fs_ok hk).2.2
  unfold CL
  omega
/-- the sight's cells: the order o, places, x, width -/
def sok (g : cb_S) (n : Nat) (s : Nat → Int) (o : Nat → Int) : Prop := g 27 = o ∧ g 4 6 = xs n s o (cn n s n) ∧ (∀ u, u < cn n s n → g 28 (o u).toNat = (u : Int) ∧ g 29 (o u).toNat = xs n s o u)
theorem p_floors {w : Int} {n : Nat} {s : Nat → Int} : ∀ (m l : Nat) (g : cb_S), sgt g w n s → g 4 4 = (cn n s n : Int) → ord (cn n s n) (g 27) → inj (cn n s n) (g 27) → (∀ k, k < cn n s n → g 26 k = CL w n s k) → l ≤ 1000 → l < m → hp (f_X6_lay_b89 m (l : Int) g) (fun _ g2 => sok g2 n s (fls (lvC w n s) (cn n s n) l (g 27)) ∧ (∀ i, i ≠ 6 → g2 4 i = g 4 i) ∧ ∀ k, k ≠ 4 → ¬ (27 ≤ k ∧ k ≤ 29) → g2 k = g k) := by
  intro m
  induction m with
  | zero => intro l g h1 h2 h3 h4 h5 h6 h7; omega
  | succ m ih =>
    intro l g hd h4 ho hi hlv hl hm
    have hcn := cn_le (n := n) (s := s) n
    have hn := hd.2.2.1
    rw [f_X6_lay_b89]
    dsimp only
    rw [cb_wn (n := l) (by omega)]
    cases l with
    | zero =>
      rw [if_pos (by decide)]
      unfold f_X6_placeAll
      refine hp_b (p_place1 (w := w) (o := g 27) ho hi cb_N 0 (cb_u g 4 6 0) (sgt_keep hd (fun k hk _ => cb_u_other g _ _ hk)) (by rw [cb_u_ne _ _ _ _ (by decide)]; exact h4) (cb_u_other g _ _ (by decide)) (Nat.zero_le _) (by unfold cb_N; omega) (cb_u_same _ _ _ _) (fun u hu => by omega)) (fun _ g1 ⟨q1, q2, q3, q4⟩ => hp_some ⟨⟨?_, q1, q2⟩, fun i hi => ?_, fun k hk hk2 => ?_⟩)
      · rw [q4 27 (by decide) (by decide) (by decide)]
        exact cb_u_other g _ _ (by decide)
      · rw [q3 i hi, cb_u_ne _ _ _ _ hi]
      · rw [q4 k hk (by omega) (by omega), cb_u_other _ _ _ hk]
    | succ l =>
      have e9 : (((l + 1 : Nat) : Int) + (-1)) = (l : Int) := by omega
      rw [if_neg (by omega)]
      refine hp_b (p_runs (lev := lvC w n s) (l := ((l + 1 : Nat) : Int)) ho (by omega) (by omega) h4 (fun k hk => ?_)) (fun _ g1 ⟨q1, q2⟩ => ?_)
      · have := CL_r (s := s) hd.2.2.2 hk
        have e : lvC w n s (k : Int) = CL w n s k := by unfold lvC; rw [Int.toNat_natCast]
        rw [e]
        exact ⟨hlv k hk, by omega, by omega⟩
      · rw [e9]
        have o1 : ord (cn n s n) (g1 27) := by rw [q1]; exact (trs_ok ho _ (Nat.le_refl _)).2
        have i1 : inj (cn n s n) (g1 27) := by rw [q1]; exact trs_inj hi _ (Nat.le_refl _)
        refine hp_imp (ih l g1 (sgt_keep hd (fun k _ hk => q2 k (by omega))) (by rw [q2 4 (by decide)]; exact h4) o1 i1 (fun k hk => by rw [q2 26 (by decide)]; exact hlv k hk) (by omega) (by omega)) (fun r g2 ⟨p1, p2, p3⟩ => ⟨?_, fun i hi => ?_, fun k hk hk2 => ?_⟩)
        · rw [q1] at p1
          exact p1
        · rw [p2 i hi, q2 4 (by decide)]
        · rw [p3 k hk hk2, q2 k (by omega)]
/-- the greatest level of the first i clusters -/
def mx (w : Int) (n : Nat) (s : Nat → Int) : Nat → Int
  | 0 => 0
  | i + 1 => if mx w n s i < CL w n s i then CL w n s i else mx w n s i
theorem mx_r {w : Int} {n : Nat} {s : Nat → Int} (hw : w = 0 ∨ w = 1) : ∀ i, i ≤ cn n s n → 0 ≤ mx w n s i ∧ mx w n s i ≤ 2 * n + 3 := by
  intro i
  induction i with
  | zero => intro _; exact ⟨Int.le_refl _, by show (0 : Int) ≤ _; omega⟩
  | succ i ih =>
    intro h
    have h1 := ih (by omega)
    have h2 := CL_r (n := n) (s := s) hw (k := i) (by omega)
    unfold mx
    split <;> omega
/-- the order of sight -/
def OR (w : Int) (n : Nat) (s : Nat → Int) : Nat → Int := fls (lvC w n s) (cn n s n) (mx w n s (cn n s n)).toNat (fun v => (v : Int))
theorem trs_ext {lev : Int → Int} {l : Int} {c : Nat} {a b : Nat → Int} (h : ∀ v, v < c → a v = b v) : ∀ v, v ≤ c + 1 → (trs lev l c a v).1 = (trs lev l c b v).1 ∧ (∀ u, u < c → (trs lev l c a v).2 u = (trs lev l c b v).2 u) ∧ (trs lev l c a v).1 ≤ v := by
  intro v
  induction v with
  | zero => intro _; exact ⟨rfl, h, Nat.le_refl _⟩
  | succ v ih =>
    intro hv
    obtain ⟨i1, i2, i3⟩ := ih (by omega)
    have hc : (v = c ∨ lev ((trs lev l c a v).2 v) < l) ↔ (v = c ∨ lev ((trs lev l c b v).2 v) < l) := by
      by_cases e : v = c
      · simp [e]
      · rw [i2 v (by omega)]
    unfold trs
    by_cases c1 : v = c ∨ lev ((trs lev l c a v).2 v) < l
    · rw [if_pos c1, if_pos (hc.mp c1)]
      refine ⟨rfl, fun u hu => ?_, Nat.le_refl _⟩
      show rv _ _ _ u = rv _ _ _ u
      unfold rv
      rw [i1]
      split
      · exact i2 _ (by omega)
      · exact i2 u hu
    · rw [if_neg c1, if_neg (fun z => c1 (hc.mpr z))]
      exact ⟨i1, i2, by omega⟩
