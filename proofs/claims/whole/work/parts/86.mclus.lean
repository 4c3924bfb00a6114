/-! the model's clusters -/
theorem am_le {s : Nat → Int} {i j : Nat} (h : i ≤ j) (hj : am s j = true) : am s i = true := by
  induction j with
  | zero => rw [show i = 0 by omega]; rfl
  | succ j ih =>
    by_cases e : i = j + 1
    · rw [e]; exact hj
    · have hj : (am s j && decide (s j = 39 ∨ s j = 126)) = true := hj
      exact ih (by omega) (Bool.and_eq_true_iff.mp hj).1
theorem am_F {s : Nat → Int} {i j : Nat} (h : i ≤ j) (hi : am s i = false) : am s j = false := by
  cases e : am s j with
  | false => rfl
  | true => rw [am_le h e] at hi; cases hi
theorem am_succ {s : Nat → Int} (i : Nat) : am s (i + 1) = (am s i && decide (s i = 39 ∨ s i = 126)) := rfl
theorem bd_in {n : Nat} {s : Nat → Int} {i : Nat} (h1 : 0 < i) (h2 : i < n) : bd n s i = (if s i = 39 ∨ s i = 126 then am s i else (!jn n s i && !jn n s (i - 1))) := by
  unfold bd
  rw [show decide (i = 0) = false from decide_eq_false (by omega), show decide (i = n) = false from decide_eq_false (by omega)]
  rfl
theorem sg_mark {b : Int} (h : b = 39 ∨ b = 126) : sg_k b = 5 := by
  rcases h with rfl | rfl <;> decide
theorem jn_mark {n : Nat} {s : Nat → Int} {i : Nat} (h : s i = 39 ∨ s i = 126) : jn n s i = false ∧ jn n s (i + 1) = false := by
  have := sg_mark h
  refine ⟨jn_F (fun z => by have := z.1; omega), jn_F (fun z => ?_)⟩
  have h2 := z.2.2.2.1.1
  rw [show i + 1 - 1 = i by omega] at h2
  omega
theorem jn_bd {n : Nat} {s : Nat → Int} {i : Nat} (hb : bd n s i = true) (hi : i < n) : jn n s i = false := by
  by_cases h0 : i = 0
  · subst h0; rfl
  · rw [bd_in (by omega) hi] at hb
    by_cases hm : s i = 39 ∨ s i = 126
    · exact (jn_mark hm).1
    · rw [if_neg hm] at hb
      cases e : jn n s i with
      | false => rfl
      | true => rw [e] at hb; cases hb
/-- from a boundary i to the next one: over what is joined, then over marks -/
def nx0 (n : Nat) (s : Nat → Int) (i : Nat) : Nat := if jn n s (i + 1) = true then i + 3 else i + 1
theorem nx0_ok {n : Nat} {s : Nat → Int} {i : Nat} (hi : i < n) : i + 1 ≤ nx0 n s i ∧ nx0 n s i ≤ n ∧ nx0 n s i ≤ i + 3 := by
  unfold nx0
  split
  · rename_i h
    have := ((jn_iff n s (i + 1)).mp h).2.2.1
    omega
  · omega
/-- no boundary within -/
theorem nx_no {n : Nat} {s : Nat → Int} {i to : Nat} (hi : i < n) (hto : to ≤ n) (ham : am s (i + 1) = false ∨ to = i + 1) (h0 : nx0 n s i ≤ to) (hm : ∀ t, nx0 n s i ≤ t → t < to → (s t = 39 ∨ s t = 126)) : ∀ t, i < t → t < to → bd n s t = false := by
  intro t h1 h2
  rcases ham with ham | ham
  · rw [bd_in (by omega) (by omega)]
    by_cases ht : nx0 n s i ≤ t
    · rw [if_pos (hm t ht h2)]
      exact am_F (show i + 1 ≤ t by omega) ham
    · unfold nx0 at ht
      split at ht
      · rename_i hj
        obtain ⟨j1, j2, j3, ⟨j4, j5⟩, j6⟩ := (jn_iff n s (i + 1)).mp hj
        by_cases e : t = i + 1
        · rw [e, if_neg (by omega), hj]
          rfl
        · have e2 : t = i + 2 := by omega
          have hnm : ¬ (s (i + 2) = 39 ∨ s (i + 2) = 126) := fun z => by
            have := sg_mark z
            rw [show i + 1 + 1 = i + 2 by omega] at j5
            omega
          rw [e2, if_neg hnm, show i + 2 - 1 = i + 1 by omega, hj]
          simp
      · omega
  · omega
theorem nx_bd {n : Nat} {s : Nat → Int} {i to : Nat} (hb : bd n s i = true) (hi : i < n) (hto : to ≤ n) (h0 : nx0 n s i ≤ to) (hm : ∀ t, nx0 n s i ≤ t → t < to → (s t = 39 ∨ s t = 126)) (hend : to = n ∨ (¬ (s to = 39 ∨ s to = 126)) ∨ am s to = true) : bd n s to = true := by
  by_cases hn : to = n
  · rw [hn]; simp [bd]
  · have hnx := nx0_ok (s := s) hi
    rw [bd_in (by omega) (by omega)]
    by_cases hmk : s to = 39 ∨ s to = 126
    · rw [if_pos hmk]
      rcases hend with h | h | h
      · exact absurd h hn
      · exact absurd hmk h
      · exact h
    · rw [if_neg hmk]
      by_cases e : nx0 n s i = to
      · have hsplit : nx0 n s i = if jn n s (i + 1) = true then i + 3 else i + 1 := rfl
        by_cases hj : jn n s (i + 1) = true
        · rw [if_pos hj] at hsplit
          obtain ⟨j1, j2, j3, ⟨j4, j5⟩, j6⟩ := (jn_iff n s (i + 1)).mp hj
          have x1 : jn n s to = false := jn_F (fun z => by
            have := z.2.2.2.2 (by omega)
            rw [show to - 2 = i + 1 by omega, hj] at this
            cases this)
          have x2 : jn n s (to - 1) = false := jn_F (fun z => by
            have := z.1
            rw [show to - 1 = i + 1 + 1 by omega] at this
            rw [this] at j5
            rw [show sg_k 94 = 4 by decide] at j5
            omega)
          rw [x1, x2]
          rfl
        · rw [if_neg hj] at hsplit
          have x1 : jn n s to = false := by
            rw [show to = i + 1 by omega]
            exact Bool.eq_false_iff.mpr hj
          have x2 : jn n s (to - 1) = false := by
            rw [show to - 1 = i by omega]
            exact jn_bd hb hi
          rw [x1, x2]
          rfl
      · have := jn_mark (n := n) (hm (to - 1) (by omega) (by omega))
        rw [show to - 1 + 1 = to by omega] at this
        rw [this.1, this.2]
        rfl
/-- the model's cluster cells up to the boundary i -/
def mcl (g : cb_S) (n : Nat) (s : Nat → Int) (i : Nat) : Prop := g 0 20 = (cn n s i : Int) ∧ (∀ b, b < i → bd n s b = true → g 14 (cn n s b) = (b : Int) ∧ g 16 (cn n s b) = bI (jn n s (b + 1))) ∧ (∀ b, 0 < b → b ≤ i → bd n s b = true → g 15 (cn n s b - 1) = (b : Int) - g 14 (cn n s b - 1))
def mcw (k : Nat) : Prop := k = 0 ∨ k = 14 ∨ k = 15 ∨ k = 16
theorem mcl_step {n : Nat} {s : Nat → Int} {g g2 : cb_S} {i to : Nat} (hc : mcl g n s i) (hlt : i < to) (hb0 : bd n s i = true) (hbt : bd n s to = true) (hno : ∀ t, i < t → t < to → bd n s t = false) (r1 : g2 0 20 = (cn n s i : Int) + 1) (r2 : ∀ k, g2 14 k = if k = cn n s i then (i : Int) else g 14 k) (r3 : ∀ k, g2 16 k = if k = cn n s i then bI (jn n s (i + 1)) else g 16 k) (r4 : ∀ k, g2 15 k = if k = cn n s i then (to : Int) - (i : Int) else g 15 k) : mcl g2 n s to := by
  obtain ⟨c1, c2, c3⟩ := hc
  have hni := cn_next hlt hb0 hno
  have only : ∀ t, t < to → bd n s t = true → t ≤ i := fun t a b => by
    by_cases h : t ≤ i
    · exact h
    · have := hno t (by omega) a
      rw [this] at b
      cases b
  refine ⟨by rw [r1, hni]; omega, fun b h1 h2 => ?_, fun b h0 h1 h2 => ?_⟩
  · by_cases e : b = i
    · rw [e, r2, r3, if_pos rfl, if_pos rfl]
      exact ⟨rfl, rfl⟩
    · have h3 := only b h1 h2
      have h4 := cn_lt (n := n) (s := s) (show b < i by omega) h2
      rw [r2, r3, if_neg (by omega), if_neg (by omega)]
      exact c2 b (by omega) h2
  · by_cases e : b = to
    · rw [e, hni, r4, r2, if_pos (by omega), if_pos (by omega)]
    · have h3 := only b (by omega) h2
      have h4 : cn n s b ≤ cn n s i := cn_mono h3
      have h5 : 0 < cn n s b := by
        have := cn_lt (n := n) (s := s) h0 (show bd n s 0 = true by simp [bd])
        omega
      rw [r4, r2, if_neg (by omega), if_neg (by omega)]
      exact c3 b h0 h3 h2
theorem q_clus1 {w : Int} {n : Nat} {s : Nat → Int} : ∀ (m i : Nat) (g : cb_S), ln_M g w n s → (∀ j, j < n → g 9 j = bI (jn n s j)) → mcl g n s i → bd n s i = true → i ≤ n → n < i + m → hp (f_X9_clustersOf_b9 m (i : Int) (bI (am s i)) g) (fun _ g2 => mcl g2 n s n ∧ (∀ t, t ≠ 20 → g2 0 t = g 0 t) ∧ ∀ k, ¬ mcw k → g2 k = g k) := by
  intro m
  induction m with
  | zero => intro i g hl h9 hc hb h1 h2; omega
  | succ m ih =>
    intro i g hl h9 hc hbi h1 h2
    obtain ⟨e1, e2, hn, hs, hb, hw⟩ := id hl
    have hcn := cn_le (n := n) (s := s) i
    rw [f_X9_clustersOf_b9]
    dsimp only
    rw [e1, cb_wn (n := n) (by omega), cb_wn (n := i) (by omega)]
    by_cases hend : n ≤ i
    · rw [if_pos (by omega)]
      have : i = n := by omega
      subst this
      exact hp_some ⟨hc, fun _ _ => rfl, fun _ _ => rfl⟩
    · have hsb := hb i (by omega)
      have hnx := nx0_ok (s := s) (show i < n by omega)
      rw [if_neg (by omega), hc.1, cb_wn (n := cn n s i) (by omega), if_pos (by omega), if_pos (by omega), Int.toNat_natCast, Int.toNat_natCast, hs i (by omega), m_isMark ⟨by omega, by omega⟩, Option.bind_some]
      -- behind the loop over marks
      have b139 : ∀ (to : Nat) (al ab : Bool), nx0 n s i ≤ to → to ≤ n → bd n s to = true → (∀ t, i < t → t < to → bd n s t = false) → am s to = (ab && al) → (al = true → ab = true) → (al = false → am s to = false) → hp (f_X9_clustersOf_b139 (f_X9_clustersOf_b9 m) (i : Int) (bI ab) (bI al) (to : Int) (cb_u (cb_u g 14 (cn n s i) (i : Int)) 16 (cn n s i) (bI (jn n s (i + 1))))) (fun _ g2 => mcl g2 n s n ∧ (∀ t, t ≠ 20 → g2 0 t = g 0 t) ∧ ∀ k, ¬ mcw k → g2 k = g k) := by
        intro to al ab h3 h4 h5 h6 h7 h8 h9'
        unfold f_X9_clustersOf_b139 f_X9_clustersOf_b158
        have e20 : (cb_u (cb_u g 14 (cn n s i) (i : Int)) 16 (cn n s i) (bI (jn n s (i + 1)))) 0 20 = (cn n s i : Int) := by
          rw [cb_u_other _ _ _ (by decide), cb_u_other _ _ _ (by decide)]
          exact hc.1
        rw [e20, cb_wn (n := cn n s i) (by omega), if_pos (by omega), Int.toNat_natCast]
        generalize hG : cb_u (cb_u (cb_u g 14 (cn n s i) (i : Int)) 16 (cn n s i) (bI (jn n s (i + 1)))) 15 (cn n s i) ((to : Int) - (i : Int)) = G
        have G20 : G 0 20 = (cn n s i : Int) := by rw [← hG, cb_u_other _ _ _ (by decide)]; exact e20
        have Gk : ∀ k, ¬ mcw k → (cb_u G 0 20 (G 0 20 + 1)) k = g k := fun k hk => by
          unfold mcw at hk
          rw [cb_u_other _ _ _ (by omega), ← hG, cb_u_other _ _ _ (by omega), cb_u_other _ _ _ (by omega), cb_u_other _ _ _ (by omega)]
        have G0 : ∀ t, t ≠ 20 → (cb_u G 0 20 (G 0 20 + 1)) 0 t = g 0 t := fun t ht => by
          rw [cb_u_ne _ _ _ _ ht, ← hG, cb_u_other _ _ _ (by decide), cb_u_other _ _ _ (by decide), cb_u_other _ _ _ (by decide)]
        have hmc : mcl (cb_u G 0 20 (G 0 20 + 1)) n s to := by
          refine mcl_step hc (by omega) hbi h5 h6 (by rw [cb_u_same, G20]) (fun k => ?_) (fun k => ?_) (fun k => ?_)
          · rw [← hG]
            simp [cb_u]
          · rw [← hG]
            simp [cb_u]
          · rw [← hG]
            simp [cb_u]
        have go := ih to _ (ln_M_keep hl (G0 0 (by decide)) (G0 1 (by decide)) (Gk 1 (by unfold mcw; omega))) (by rw [Gk 9 (by unfold mcw; omega)]; exact h9) hmc h5 h4 (by omega)
        have go2 : hp (f_X9_clustersOf_b9 m (to : Int) (bI (am s to)) (cb_u G 0 20 (G 0 20 + 1))) (fun _ g2 => mcl g2 n s n ∧ (∀ t, t ≠ 20 → g2 0 t = g 0 t) ∧ ∀ k, ¬ mcw k → g2 k = g k) :=
          hp_imp go (fun _ g2 ⟨q1, q2, q3⟩ => ⟨q1, fun t ht => by rw [q2 t ht, G0 t ht], fun k hk => by rw [q3 k hk, Gk k hk]⟩)
        cases al with
        | false =>
          rw [bI_f, if_pos (by decide)]
          rw [h9' rfl, bI_f] at go2
          exact go2
        | true =>
          rw [bI_t, if_neg (by decide)]
          rw [h7, Bool.and_true] at go2
          exact go2
      -- the loop over marks, not alone
      have b107 : ∀ (ab : Bool), (s i = 39 ∨ s i = 126 → am s i = false) → ∀ (m2 to : Nat), nx0 n s i ≤ to → to ≤ n → n < to + m2 → (∀ t, nx0 n s i ≤ t → t < to → (s t = 39 ∨ s t = 126)) → hp (f_X9_clustersOf_b107 (f_X9_clustersOf_b9 m) m2 (i : Int) (bI ab) 0 (to : Int) (cb_u (cb_u g 14 (cn n s i) (i : Int)) 16 (cn n s i) (bI (jn n s (i + 1))))) (fun _ g2 => mcl g2 n s n ∧ (∀ t, t ≠ 20 → g2 0 t = g 0 t) ∧ ∀ k, ¬ mcw k → g2 k = g k) := by
        intro ab hna
        have ham1 : am s (i + 1) = false := by
          rw [am_succ]
          by_cases hm : s i = 39 ∨ s i = 126
          · rw [hna hm]; rfl
          · rw [decide_eq_false hm, Bool.and_false]
        intro m2
        induction m2 with
        | zero => intro to h3 h4 h5; omega
        | succ m2 ih2 =>
          intro to h3 h4 h5 h6
          have e01 : (cb_u (cb_u g 14 (cn n s i) (i : Int)) 16 (cn n s i) (bI (jn n s (i + 1)))) 0 1 = (n : Int) := by
            rw [cb_u_other _ _ _ (by decide), cb_u_other _ _ _ (by decide)]
            exact e1
          have hamt : am s to = false := am_F (by omega) ham1
          have out : (to = n ∨ ¬ (s to = 39 ∨ s to = 126)) → hp (f_X9_clustersOf_b139 (f_X9_clustersOf_b9 m) (i : Int) (bI ab) 0 (to : Int) (cb_u (cb_u g 14 (cn n s i) (i : Int)) 16 (cn n s i) (bI (jn n s (i + 1))))) (fun _ g2 => mcl g2 n s n ∧ (∀ t, t ≠ 20 → g2 0 t = g 0 t) ∧ ∀ k, ¬ mcw k → g2 k = g k) := fun ho =>
            b139 to false ab h3 h4 (nx_bd hbi (by omega) h4 h3 h6 (by rcases ho with ho | ho; exact Or.inl ho; exact Or.inr (Or.inl ho))) (nx_no (by omega) h4 (Or.inl ham1) h3 h6) (by rw [hamt]; cases ab <;> rfl) (fun z => by cases z) (fun _ => hamt)
          rw [f_X9_clustersOf_b107]
          dsimp only
          rw [if_pos (by decide), e01, cb_wn (n := n) (by omega), cb_wn (n := to) (by omega)]
          by_cases hnt : n ≤ to
          · rw [if_pos (by omega)]
            exact out (Or.inl (by omega))
          · have hst := hb to (by omega)
            rw [if_neg (by omega), if_pos (by omega), Int.toNat_natCast, cb_u_other _ _ _ (show (1 : Nat) ≠ 16 by decide), cb_u_other _ _ _ (show (1 : Nat) ≠ 14 by decide), hs to (by omega), m_isMark ⟨by omega, by omega⟩, Option.bind_some]
            by_cases hm : s to = 39 ∨ s to = 126
            · rw [if_pos hm, if_neg (by decide), show (to : Int) + 1 = ((to + 1 : Nat) : Int) by omega]
              refine ih2 (to + 1) (by omega) (by omega) (by omega) (fun t a b => ?_)
              by_cases e : t = to
              · rw [e]; exact hm
              · exact h6 t a (by omega)
            · rw [if_neg hm, if_pos (by decide)]
              exact out (Or.inr hm)
      -- b48: joined?
      have b83 : ∀ (al ab : Bool), (al = true → (s i = 39 ∨ s i = 126) ∧ am s i = true ∧ ab = true) → (al = false → (s i = 39 ∨ s i = 126) → am s i = false) → hp (f_X9_clustersOf_b83 (f_X9_clustersOf_b9 m) (i : Int) (bI ab) (bI al) (bI (jn n s (i + 1))) (cn n s i : Int) (cb_u g 14 (cn n s i) (i : Int))) (fun _ g2 => mcl g2 n s n ∧ (∀ t, t ≠ 20 → g2 0 t = g 0 t) ∧ ∀ k, ¬ mcw k → g2 k = g k) := by
        intro al ab h3 h4
        unfold f_X9_clustersOf_b83 f_X9_clustersOf_b105
        rw [cb_wn (n := cn n s i) (by omega), if_pos ⟨by omega, bI_01 _⟩, cb_u_other _ _ _ (show (0 : Nat) ≠ 14 by decide), hc.1, cb_wn (n := cn n s i) (by omega), if_pos (by omega), Int.toNat_natCast, cb_u_same]
        have b107' : hp (f_X9_clustersOf_b107 (f_X9_clustersOf_b9 m) cb_N (i : Int) (bI ab) (bI al) (nx0 n s i : Int) (cb_u (cb_u g 14 (cn n s i) (i : Int)) 16 (cn n s i) (bI (jn n s (i + 1))))) (fun _ g2 => mcl g2 n s n ∧ (∀ t, t ≠ 20 → g2 0 t = g 0 t) ∧ ∀ k, ¬ mcw k → g2 k = g k) := by
          cases al with
          | false => exact b107 ab (h4 rfl) cb_N (nx0 n s i) (Nat.le_refl _) hnx.2.1 (by unfold cb_N; omega) (fun t a b => by omega)
          | true =>
            obtain ⟨x1, x2, x3⟩ := h3 rfl
            have hj := (jn_mark (n := n) x1).2
            have hnx1 : nx0 n s i = i + 1 := by
              unfold nx0
              rw [hj, if_neg (by decide)]
            have ha1 : am s (i + 1) = true := by
              rw [am_succ, x2, decide_eq_true x1]
              rfl
            rw [show cb_N = 1999 + 1 from rfl, f_X9_clustersOf_b107]
            dsimp only
            rw [bI_t, if_neg (by decide)]
            have := b139 (nx0 n s i) true ab (Nat.le_refl _) hnx.2.1 (nx_bd hbi (by omega) hnx.2.1 (Nat.le_refl _) (fun t a b => by omega) (Or.inr (Or.inr (by rw [hnx1]; exact ha1)))) (fun t a b => by omega) (by rw [hnx1, ha1, x3]; rfl) (fun _ => x3) (fun z => by cases z)
            exact this
        have hsplit : nx0 n s i = if jn n s (i + 1) = true then i + 3 else i + 1 := rfl
        cases hq : jn n s (i + 1) with
        | false =>
          rw [hq] at b107'
          rw [hq, if_neg (by decide)] at hsplit
          rw [bI_f, if_pos (by decide), show (i : Int) + 1 = (nx0 n s i : Int) by omega]
          exact b107'
        | true =>
          rw [hq] at b107'
          rw [hq, if_pos rfl] at hsplit
          rw [bI_t, if_neg (by decide), show (i : Int) + 3 = (nx0 n s i : Int) by omega]
          exact b107'
      have b48 : ∀ (al ab : Bool), (al = true → (s i = 39 ∨ s i = 126) ∧ am s i = true ∧ ab = true) → (al = false → (s i = 39 ∨ s i = 126) → am s i = false) → hp (f_X9_clustersOf_b48 (f_X9_clustersOf_b9 m) (i : Int) (bI ab) (bI al) (cb_u g 14 (cn n s i) (i : Int))) (fun _ g2 => mcl g2 n s n ∧ (∀ t, t ≠ 20 → g2 0 t = g 0 t) ∧ ∀ k, ¬ mcw k → g2 k = g k) := by
        intro al ab h3 h4
        have := b83 al ab h3 h4
        unfold f_X9_clustersOf_b48 f_X9_clustersOf_b82
        rw [cb_u_other _ _ _ (show (0 : Nat) ≠ 14 by decide), e1, hc.1, show (i : Int) + 1 = ((i + 1 : Nat) : Int) by omega, cb_wn (n := n) (by omega), cb_wn (n := i + 1) (by omega)]
        by_cases hin : n ≤ i + 1
        · rw [if_pos (by omega)]
          rw [jn_far (by omega)] at this
          exact this
        · rw [if_neg (by omega), if_pos (by omega), Int.toNat_natCast, cb_u_other _ _ _ (show (9 : Nat) ≠ 14 by decide), h9 (i + 1) (by omega)]
          cases hq : jn n s (i + 1) with
          | false =>
            rw [hq] at this
            rw [bI_f, if_pos (by decide)]
            exact this
          | true =>
            rw [hq] at this
            rw [bI_t, if_neg (by decide)]
            exact this
      by_cases hm : s i = 39 ∨ s i = 126
      · rw [if_pos hm, if_neg (by decide)]
        cases hq : am s i with
        | false =>
          rw [bI_f, if_pos (by decide)]
          exact b48 false false (fun z => by cases z) (fun _ _ => hq)
        | true =>
          rw [bI_t, if_neg (by decide)]
          exact b48 true true (fun _ => ⟨hm, hq, rfl⟩) (fun z => by cases z)
      · rw [if_neg hm, if_pos (by decide)]
        exact b48 false (am s i) (fun z => by cases z) (fun _ z => absurd z hm)
/-- the model's clusters, by their numbers -/
def mcs (g : cb_S) (n : Nat) (s : Nat → Int) : Prop := g 0 20 = (cn n s n : Int) ∧ ∀ k, k < cn n s n → g 14 k = (fs n s k : Int) ∧ g 15 k = (es n s k : Int) - (fs n s k : Int) ∧ g 16 k = bI (jn n s (fs n s k + 1))
theorem q_clus {w : Int} {n : Nat} {s : Nat → Int} {g : cb_S} (hl : ln_M g w n s) (h9 : ∀ j, j < n → g 9 j = bI (jn n s j)) : hp (f_X9_clustersOf g) (fun _ g2 => mcs g2 n s ∧ (∀ t, t ≠ 20 → g2 0 t = g 0 t) ∧ ∀ k, ¬ mcw k → g2 k = g k) := by
  unfold f_X9_clustersOf
  have hn := hl.2.2.1
  refine hp_imp (q_clus1 (w := w) (n := n) (s := s) cb_N 0 (cb_u g 0 20 0) (ln_M_keep hl (cb_u_ne _ _ _ _ (by decide)) (cb_u_ne _ _ _ _ (by decide)) (cb_u_other g _ _ (by decide))) (by rw [cb_u_other _ _ _ (by decide)]; exact h9) ⟨cb_u_same _ _ _ _, fun b hb => by omega, fun b h1 h2 => by omega⟩ (by simp [bd]) (Nat.zero_le _) (by unfold cb_N; omega)) (fun _ g2 ⟨⟨c1, c2, c3⟩, q2, q3⟩ => ⟨⟨c1, fun k hk => ?_⟩, fun t ht => by rw [q2 t ht, cb_u_ne _ _ _ _ ht], fun k hk => by rw [q3 k hk, cb_u_other _ _ _ (by unfold mcw at hk; omega)]⟩)
  obtain ⟨f1, f2, f3⟩ := fs_ok hk
  have h1 := c2 _ f3 f1
  rw [f2] at h1
  refine ⟨h1.1, ?_, h1.2⟩
  unfold es
  by_cases e : k + 1 < cn n s n
  · rw [if_pos e]
    obtain ⟨k1, k2, k3⟩ := fs_ok e
    have h0 : 0 < fs n s (k + 1) := by
      by_cases z : fs n s (k + 1) = 0
      · rw [z] at k2
        have : cn n s 0 = 0 := rfl
        omega
      · omega
    have := c3 _ h0 (by omega) k1
    rw [k2, show k + 1 - 1 = k by omega, h1.1] at this
    exact this
  · rw [if_neg e]
    have := c3 n (by omega) (Nat.le_refl _) (by simp [bd])
    rw [show cn n s n - 1 = k by omega, h1.1] at this
    exact this
