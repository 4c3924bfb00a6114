theorem q_digits {w : Int} {n : Nat} {s : Nat → Int} {r c : Nat} {M : Nat → Nat} : ∀ (m k : Nat) (g : cb_S) (l : Int), mcx g w n s r c M → k ≤ c → c < k + m → pinv g (K3 w n s) (K2 w n s) c M k → l = (if k = 0 then ow w s n r else W1 w n s (M (k - 1))) → hp (f_X9_row_b312 m (r : Int) (ow w s n r) l (k : Int) g) (rq g w n s c M) := by
  intro m
  induction m with
  | zero => intro k g l hx h1 h2; omega
  | succ m ih =>
    intro k g l hx h1 h2 hp9 hl
    obtain ⟨b1, b2, b3, b4, b5⟩ := mcx_b hx
    obtain ⟨a1, a2, a3, a4, a5, a6, a7, a8⟩ := id hx
    obtain ⟨gw, hgw⟩ := mcx_rwd hx
    have how := ow_01 (w := w) (s := s) (n := n) (r := r)
    have l01 : l = 0 ∨ l = 1 := by
      rw [hl]
      split
      · exact how
      · exact W1_01 _ _ _ _
    rw [f_X9_row_b312]
    dsimp only
    rw [a3, cb_wn (n := c) (by omega), cb_wn (n := k) (by omega)]
    by_cases hend : c ≤ k
    · rw [if_pos (by omega)]
      refine q_plain cb_N 0 g hx (Nat.zero_le _) (by unfold cb_N; omega) ⟨fun j hj => by omega, fun j _ hj => hp9.1 j (by omega)⟩ (Or.inl rfl)
    · have hMk := b5 k (by omega)
      have hK2 := K2_r hgw (a7.2.1 k (by omega)).1
      have hur := um_r hK2
      have e8 : ((k : Int) + 1) = ((k + 1 : Nat) : Int) := by omega
      have hg := hp9.2 k (Nat.le_refl _) (by omega)
      have hW := W1_eq w n s (M k)
      unfold f2 at hW
      rw [mbs_pre a7 (by omega), (wy_M hx (by omega)).1] at hW
      have hpk : pk (W1 w n s) (if k = 0 then -1 else (M (k - 1) : Int)) (ow w s n r) = l := by
        rw [hl]
        by_cases k0 : k = 0
        · rw [if_pos k0, if_pos k0]
          rfl
        · rw [if_neg k0, if_neg k0]
          unfold pk
          rw [if_neg (by omega), Int.toNat_natCast]
      rw [hpk] at hW
      have go : ∀ (g' : cb_S) (l' : Int), mcx g' w n s r c M → pinv g' (K3 w n s) (K2 w n s) c M (k + 1) → l' = W1 w n s (M k) → hp (f_X9_row_b385 (f_X9_row_b312 m) (r : Int) (ow w s n r) l' (k : Int) g') (rq g' w n s c M) := by
        intro g' l' hx' hp' hl'
        unfold f_X9_row_b385
        rw [e8]
        refine ih (k + 1) g' l' hx' (by omega) (by omega) hp' ?_
        rw [if_neg (by omega), hl']
        rfl
      rw [if_neg (by omega), if_pos (by omega), Int.toNat_natCast, a4 k (by omega), cb_wn (n := M k) (by omega), if_pos (by omega), Int.toNat_natCast, hg, cb_id (x := um (K2 w n s (M k))) (by omega) (by omega), cb_id (x := l) (by omega) (by omega)]
      have b351 : (K2 w n s (M k) = 0 ∨ K2 w n s (M k) = 1) → hp (f_X9_row_b351 (f_X9_row_b312 m) (r : Int) (ow w s n r) (k : Int) (M k : Int) g) (rq g w n s c M) := by
        intro hst
        rw [if_pos hst] at hW
        unfold f_X9_row_b351
        rw [cb_wn (n := M k) (by omega), if_pos (by omega), Int.toNat_natCast, hg]
        have hK3 : K3 w n s (M k) = K2 w n s (M k) := by
          unfold K3
          rw [if_neg (by omega)]
        refine go g _ hx (pinv_same (by omega) hp9 (by rw [hK3])) ?_
        rw [hW]
        unfold um
        rw [if_neg (by omega)]
      by_cases z0 : um (K2 w n s (M k)) = 0
      · rw [if_pos z0]
        exact b351 (Or.inl (um_0.mp z0))
      · have y0 : K2 w n s (M k) ≠ 0 := fun z => z0 (um_0.mpr z)
        rw [if_neg z0, if_pos (by omega)]
        by_cases z1 : um (K2 w n s (M k)) = 1
        · rw [if_pos z1]
          refine b351 (Or.inr ?_)
          unfold um at z1
          split at z1
          · omega
          · exact z1
        · have y1 : K2 w n s (M k) ≠ 1 := fun z => z1 (by rw [z]; rfl)
          rw [if_neg (by omega)] at hW
          rw [if_neg z1, if_pos (by omega)]
          by_cases z2 : um (K2 w n s (M k)) = 2
          · have y2 : K2 w n s (M k) = 2 := by
              unfold um at z2
              split at z2
              · omega
              · exact z2
            rw [if_pos z2]
            by_cases hl0 : l = 0
            · rw [if_pos hl0, if_pos (by omega)]
              have hK3 : K3 w n s (M k) = 0 := by
                unfold K3
                rw [if_pos ⟨y2, by rw [hW]; exact hl0⟩]
              exact rq_tr (go _ l (mcx_keep hx (fun t x y z => cb_u_other g _ _ x)) (pinv_step a7 (by omega) hp9 (by rw [hK3]; rfl)) hW.symm) (fun j _ => by rw [cb_u_other _ _ _ (by decide)]) (fun t x y z => cb_u_other g _ _ x)
            · rw [if_neg hl0]
              have hK3 : K3 w n s (M k) = K2 w n s (M k) := by
                unfold K3
                rw [if_neg (fun z => hl0 (by rw [← hW]; exact z.2))]
              exact go g l hx (pinv_same (by omega) hp9 (by rw [hK3])) hW.symm
          · have y2 : K2 w n s (M k) ≠ 2 := fun z => z2 (by rw [z]; rfl)
            rw [if_neg z2]
            have hK3 : K3 w n s (M k) = K2 w n s (M k) := by
              unfold K3
              rw [if_neg (fun z => y2 z.1)]
            exact go g l hx (pinv_same (by omega) hp9 (by rw [hK3])) hW.symm
/-- the class's kind of a model's sort -/
def sm (t : Int) : Int := if t = 4 then 3 else if t = 5 then 4 else t
/-- sorts behind the first pass -/
def sinv (g : cb_S) (A : Nat → Int) (c : Nat) (M : Nat → Nat) (k : Nat) : Prop := ∀ j, k ≤ j → j < c → (0 ≤ g 10 (M j) ∧ g 10 (M j) ≤ 5) ∧ sm (g 10 (M j)) = A (M j)
def bec (w : Int) (n : Nat) (s : Nat → Int) (i : Nat) : Bool := decide (K1 w n s i = 3 ∧ pk (K1 w n s) (lat w s i (ro w s i)) 4 = 2 ∧ pk (K1 w n s) (bh w s n i) 4 = 2)
theorem sm_3 {t : Int} : sm t = 3 ↔ (t = 3 ∨ t = 4) := by unfold sm; repeat' split <;> omega
theorem sm_2 {t : Int} : sm t = 2 ↔ t = 2 := by unfold sm; repeat' split <;> omega
theorem sm_um {t : Int} (h : sm t ≠ 3) (hr : 0 ≤ t ∧ t ≤ 5) : um (sm t) = t := by
  have h3 : ¬ (t = 3 ∨ t = 4) := fun z => h (sm_3.mpr z)
  by_cases h5 : t = 5
  · rw [h5]
    rfl
  · have e : sm t = t := by
      unfold sm
      rw [if_neg (by omega), if_neg h5]
    rw [e]
    unfold um
    rw [if_neg (by omega)]
theorem q_seps2 {w : Int} {n : Nat} {s : Nat → Int} {r c : Nat} {M : Nat → Nat} : ∀ (m k : Nat) (g : cb_S), mcx g w n s r c M → k ≤ c → c < k + m → (∀ j, j < k → g 10 (M j) = um (K2 w n s (M j))) → sinv g (K1 w n s) c M k → (∀ j, j < c → g 13 j = bI (bec w n s (M j))) → hp (f_X9_row_b238 m (r : Int) (ow w s n r) (k : Int) g) (rq g w n s c M) := by
  intro m
  induction m with
  | zero => intro k g hx h1 h2; omega
  | succ m ih =>
    intro k g hx h1 h2 hA hB hbec
    obtain ⟨b1, b2, b3, b4, b5⟩ := mcx_b hx
    obtain ⟨a1, a2, a3, a4, a5, a6, a7, a8⟩ := id hx
    rw [f_X9_row_b238]
    dsimp only
    rw [a3, cb_wn (n := c) (by omega), cb_wn (n := k) (by omega)]
    by_cases hend : c ≤ k
    · rw [if_pos (by omega)]
      exact q_digits cb_N 0 g _ hx (Nat.zero_le _) (by unfold cb_N; omega) ⟨fun j hj => by omega, fun j _ hj => hA j (by omega)⟩ (by rw [if_pos rfl])
    · have hMk := b5 k (by omega)
      obtain ⟨hr, hs9⟩ := hB k (Nat.le_refl _) (by omega)
      have e8 : ((k : Int) + 1) = ((k + 1 : Nat) : Int) := by omega
      have goA : ∀ g' : cb_S, mcx g' w n s r c M → g' 10 (M k) = um (K2 w n s (M k)) → (∀ j, j < c → j ≠ k → g' 10 (M j) = g 10 (M j)) → g' 13 = g 13 → hp (f_X9_row_b301 (f_X9_row_b238 m) (r : Int) (ow w s n r) (k : Int) g') (rq g' w n s c M) := by
        intro g' hx' x1 x2 x3
        unfold f_X9_row_b301
        rw [e8]
        refine ih (k + 1) g' hx' (by omega) (by omega) (fun j hj => ?_) (fun j hj hj2 => ?_) (fun j hj => by rw [x3]; exact hbec j hj)
        · by_cases e : j = k
          · rw [e]; exact x1
          · rw [x2 j (by omega) e]; exact hA j (by omega)
        · rw [x2 j hj2 (by omega)]; exact hB j (by omega) hj2
      have b300 : ∀ v : Int, v = um (K2 w n s (M k)) → hp (f_X9_row_b300 (f_X9_row_b238 m) (r : Int) (ow w s n r) (k : Int) v (M k : Int) g) (rq g w n s c M) := by
        intro v hv
        unfold f_X9_row_b300
        rw [cb_wn (n := M k) (by omega), if_pos (by omega), Int.toNat_natCast]
        refine rq_tr (goA _ (mcx_keep hx (fun t x y z => cb_u_other g _ _ x)) (by rw [cb_u_same, hv]) (fun j hj hj2 => cb_u_ne _ _ _ _ (fun z => hj2 (mbs_inj a7 hj (by omega) z))) (cb_u_other g _ _ (by decide))) (fun j _ => by rw [cb_u_other _ _ _ (by decide)]) (fun t x y z => cb_u_other g _ _ x)
      have b276 : K1 w n s (M k) = 3 → hp (f_X9_row_b276 (f_X9_row_b238 m) (r : Int) (ow w s n r) (k : Int) g) (rq g w n s c M) := by
        intro h3
        have hK2 : K2 w n s (M k) = if bec w n s (M k) = true then 2 else 4 := by
          unfold K2 bec
          rw [if_pos h3]
          by_cases z : pk (K1 w n s) (lat w s (M k) (ro w s (M k))) 4 = 2 ∧ pk (K1 w n s) (bh w s n (M k)) 4 = 2
          · rw [if_pos z, if_pos (decide_eq_true ⟨h3, z⟩)]
          · rw [if_neg z, if_neg (by rw [decide_eq_false (fun y => z y.2)]; decide)]
        unfold f_X9_row_b276
        rw [cb_wn (n := k) (by omega), if_pos (by omega), if_pos (by omega), Int.toNat_natCast, a4 k (by omega), hbec k (by omega)]
        cases hq : bec w n s (M k) with
        | false =>
          rw [bI_f, if_pos (by decide)]
          exact b300 5 (by rw [hK2, hq]; rfl)
        | true =>
          rw [bI_t, if_neg (by decide)]
          exact b300 2 (by rw [hK2, hq]; rfl)
      rw [if_neg (by omega), if_pos (by omega), Int.toNat_natCast, a4 k (by omega), cb_wn (n := M k) (by omega), if_pos (by omega), Int.toNat_natCast, cb_id (x := g 10 (M k)) (by omega) (by omega)]
      by_cases z3 : g 10 (M k) = 3
      · rw [if_pos z3]
        exact b276 (by rw [← hs9]; exact sm_3.mpr (Or.inl z3))
      · rw [if_neg z3, if_pos (by omega), if_pos (by omega)]
        by_cases z4 : g 10 (M k) = 4
        · rw [if_pos z4]
          exact b276 (by rw [← hs9]; exact sm_3.mpr (Or.inr z4))
        · rw [if_neg z4]
          have hn3 : sm (g 10 (M k)) ≠ 3 := fun z => by have := sm_3.mp z; omega
          refine goA g hx ?_ (fun _ _ _ => rfl) rfl
          have hK2 : K2 w n s (M k) = K1 w n s (M k) := by
            unfold K2
            rw [if_neg (by rw [← hs9]; exact hn3)]
          rw [hK2, ← hs9, sm_um hn3 hr]
theorem m_digitAt {w : Int} {n : Nat} {s : Nat → Int} {r c : Nat} {M : Nat → Nat} {g : cb_S} (hx : mcx g w n s r c M) (hB : sinv g (K1 w n s) c M 0) {x : Int} (h0 : -1 ≤ x) (h1 : x ≤ (c : Int)) : v_X9_isDigitAt g x = some (bI (decide (0 ≤ x ∧ x < (c : Int) ∧ K1 w n s (M x.toNat) = 2))) := by
  obtain ⟨b1, b2, b3, b4, b5⟩ := mcx_b hx
  obtain ⟨a1, a2, a3, a4, a5, a6, a7, a8⟩ := id hx
  unfold v_X9_isDigitAt
  rw [a3, cb_wn (n := c) (by omega), cb_id (x := x) (by omega) (by omega)]
  by_cases z : x < 0
  · rw [if_pos z, decide_eq_false (by omega)]
    rfl
  · rw [if_neg z]
    by_cases z2 : (c : Int) ≤ x
    · rw [if_pos z2, decide_eq_false (by omega)]
      rfl
    · obtain ⟨hr, hs9⟩ := hB x.toNat (Nat.zero_le _) (by omega)
      have hM := b5 x.toNat (by omega)
      rw [if_neg z2, if_pos (by omega), a4 x.toNat (by omega), cb_wn (n := M x.toNat) (by omega), if_pos (by omega), Int.toNat_natCast, cb_id (x := g 10 (M x.toNat)) (by omega) (by omega)]
      by_cases z3 : g 10 (M x.toNat) = 2
      · rw [if_pos z3, decide_eq_true ⟨by omega, by omega, by rw [← hs9]; exact sm_2.mpr z3⟩]
        rfl
      · rw [if_neg z3, decide_eq_false (fun y => z3 (sm_2.mp (by rw [hs9]; exact y.2.2)))]
        rfl
theorem q_seps1 {w : Int} {n : Nat} {s : Nat → Int} {r c : Nat} {M : Nat → Nat} : ∀ (m k : Nat) (g : cb_S), mcx g w n s r c M → k ≤ c → c < k + m → sinv g (K1 w n s) c M 0 → (∀ j, j < k → g 13 j = bI (bec w n s (M j))) → hp (f_X9_row_b161 m (r : Int) (ow w s n r) (k : Int) g) (rq g w n s c M) := by
  intro m
  induction m with
  | zero => intro k g hx h1 h2; omega
  | succ m ih =>
    intro k g hx h1 h2 hB hbec
    obtain ⟨b1, b2, b3, b4, b5⟩ := mcx_b hx
    obtain ⟨a1, a2, a3, a4, a5, a6, a7, a8⟩ := id hx
    rw [f_X9_row_b161]
    dsimp only
    rw [a3, cb_wn (n := c) (by omega), cb_wn (n := k) (by omega)]
    by_cases hend : c ≤ k
    · rw [if_pos (by omega)]
      exact q_seps2 cb_N 0 g hx (Nat.zero_le _) (by unfold cb_N; omega) (fun j hj => by omega) hB (fun j hj => hbec j (by omega))
    · have hMk := b5 k (by omega)
      obtain ⟨hr, hs9⟩ := hB k (Nat.zero_le _) (by omega)
      have e8 : ((k : Int) + 1) = ((k + 1 : Nat) : Int) := by omega
      have b229 : ∀ v : Int, v = bI (bec w n s (M k)) → hp (f_X9_row_b229 (f_X9_row_b161 m) (r : Int) (ow w s n r) (k : Int) v (k : Int) g) (rq g w n s c M) := by
        intro v hv
        unfold f_X9_row_b229
        rw [cb_wn (n := k) (by omega), if_pos ⟨by omega, by rw [hv]; exact bI_01 _⟩, Int.toNat_natCast, e8]
        refine rq_tr (ih (k + 1) _ (mcx_keep hx (fun t x y z => cb_u_other g _ _ z)) (by omega) (by omega) (fun j hj hj2 => ?_) (fun j hj => ?_)) (fun j _ => by rw [cb_u_other _ _ _ (by decide)]) (fun t x y z => cb_u_other g _ _ z)
        · rw [cb_u_other _ _ _ (by decide)]
          exact hB j hj hj2
        · by_cases e : j = k
          · rw [e, cb_u_same, hv]
          · rw [cb_u_ne _ _ _ _ e]
            exact hbec j (by omega)
      have b204 : K1 w n s (M k) = 3 → hp (f_X9_row_b204 (f_X9_row_b161 m) (r : Int) (ow w s n r) (k : Int) (k : Int) g) (rq g w n s c M) := by
        intro h3
        have hpre : pk (K1 w n s) (lat w s (M k) (ro w s (M k))) 4 = 2 ↔ (0 ≤ (k : Int) - 1 ∧ (k : Int) - 1 < (c : Int) ∧ K1 w n s (M ((k : Int) - 1).toNat) = 2) := by
          rw [mbs_pre a7 (by omega)]
          by_cases k0 : k = 0
          · rw [if_pos k0]
            unfold pk
            rw [if_pos (by decide)]
            omega
          · rw [if_neg k0]
            unfold pk
            rw [if_neg (by omega), Int.toNat_natCast, show ((k : Int) - 1).toNat = k - 1 by omega]
            exact ⟨fun z => ⟨by omega, by omega, z⟩, fun z => z.2.2⟩
        have hsuf : pk (K1 w n s) (bh w s n (M k)) 4 = 2 ↔ (0 ≤ (k : Int) + 1 ∧ (k : Int) + 1 < (c : Int) ∧ K1 w n s (M ((k : Int) + 1).toNat) = 2) := by
          rw [mbs_suf a7 (by omega)]
          by_cases k0 : k + 1 = c
          · rw [if_pos k0]
            unfold pk
            rw [if_pos (by decide)]
            omega
          · rw [if_neg k0]
            unfold pk
            rw [if_neg (by omega), Int.toNat_natCast, show ((k : Int) + 1).toNat = k + 1 by omega]
            exact ⟨fun z => ⟨by omega, by omega, z⟩, fun z => z.2.2⟩
        unfold f_X9_row_b204 f_X9_row_b228
        rw [m_digitAt hx hB (by omega) (by omega), m_digitAt hx hB (by omega) (by omega), Option.bind_some]
        by_cases z1 : (0 ≤ (k : Int) - 1 ∧ (k : Int) - 1 < (c : Int) ∧ K1 w n s (M ((k : Int) - 1).toNat) = 2)
        · rw [decide_eq_true z1, bI_t, if_neg (by decide), Option.bind_some]
          by_cases z2 : (0 ≤ (k : Int) + 1 ∧ (k : Int) + 1 < (c : Int) ∧ K1 w n s (M ((k : Int) + 1).toNat) = 2)
          · rw [decide_eq_true z2, bI_t, if_neg (by decide)]
            refine b229 1 ?_
            unfold bec
            rw [decide_eq_true ⟨h3, hpre.mpr z1, hsuf.mpr z2⟩]
            rfl
          · rw [decide_eq_false z2, bI_f, if_pos (by decide)]
            refine b229 0 ?_
            unfold bec
            rw [decide_eq_false (fun y => z2 (hsuf.mp y.2.2))]
            rfl
        · rw [decide_eq_false z1, bI_f, if_pos (by decide)]
          refine b229 0 ?_
          unfold bec
          rw [decide_eq_false (fun y => z1 (hpre.mp y.2.1))]
          rfl
      rw [if_neg (by omega), if_pos (by omega), Int.toNat_natCast, a4 k (by omega), cb_wn (n := M k) (by omega), if_pos (by omega), Int.toNat_natCast, cb_id (x := g 10 (M k)) (by omega) (by omega)]
      by_cases z3 : g 10 (M k) = 3
      · rw [if_pos z3]
        exact b204 (by rw [← hs9]; exact sm_3.mpr (Or.inl z3))
      · rw [if_neg z3, if_pos (by omega), if_pos (by omega)]
        by_cases z4 : g 10 (M k) = 4
        · rw [if_pos z4]
          exact b204 (by rw [← hs9]; exact sm_3.mpr (Or.inr z4))
        · rw [if_neg z4]
          unfold f_X9_row_b228
          refine b229 0 ?_
          unfold bec
          rw [decide_eq_false (fun y => by have := sm_3.mp (by rw [hs9]; exact y.1 : sm (g 10 (M k)) = 3); omega)]
          rfl
/-- plainSort of a sign that is no mark -/
theorem m_plainSort {w : Int} {n : Nat} {s : Nat → Int} {g : cb_S} (hl : ln_M g w n s) {i : Nat} (hi : i < n) (hv : sg_k (s i) ≠ -1) (hm : ¬ (s i = 39 ∨ s i = 126)) : ∃ v, v_X9_plainSort g (i : Int) = some v ∧ (0 ≤ v ∧ v ≤ 5) ∧ sm v = sg_k (s i) := by
  obtain ⟨e1, e2, hn, hs, hb, hw⟩ := id hl
  have hsb := hb i hi
  unfold v_X9_plainSort
  rw [cb_wn (n := i) (by omega), if_pos (by omega), Int.toNat_natCast, hs i hi, m_isForward ⟨by omega, by omega⟩, m_isBackward ⟨by omega, by omega⟩, m_isDigit ⟨by omega, by omega⟩, cb_id (x := s i) (by omega) (by omega)]
  simp only [Option.bind_some]
  by_cases c0 : sg_k (s i) = 0
  · rw [if_pos c0, if_neg (by decide)]
    exact ⟨0, rfl, by omega, by rw [c0]; rfl⟩
  · rw [if_neg c0, if_pos (by decide)]
    by_cases c1 : sg_k (s i) = 1
    · rw [if_pos c1, if_neg (by decide)]
      exact ⟨1, rfl, by omega, by rw [c1]; rfl⟩
    · rw [if_neg c1, if_pos (by decide)]
      by_cases c2 : sg_k (s i) = 2
      · rw [if_pos c2, if_neg (by decide)]
        exact ⟨2, rfl, by omega, by rw [c2]; rfl⟩
      · rw [if_neg c2, if_pos (by decide)]
        by_cases d1 : s i = 43
        · rw [if_pos d1, d1]
          exact ⟨3, rfl, by omega, by decide⟩
        · rw [if_neg d1]
          by_cases d2 : s i = 45
          · rw [if_pos d2, d2]
            exact ⟨3, rfl, by omega, by decide⟩
          · rw [if_neg d2]
            by_cases d3 : s i = 44
            · rw [if_pos d3, d3]
              exact ⟨4, rfl, by omega, by decide⟩
            · rw [if_neg d3]
              by_cases d4 : s i = 46
              · rw [if_pos d4, d4]
                exact ⟨4, rfl, by omega, by decide⟩
              · rw [if_neg d4]
                refine ⟨5, rfl, by omega, ?_⟩
                show (4 : Int) = sg_k (s i)
                revert hv c0 c1 c2
                unfold sg_k
                repeat' split
                all_goals first | (intros; omega) | (intros; rfl)
theorem q_sorts {w : Int} {n : Nat} {s : Nat → Int} {r c : Nat} {M : Nat → Nat} : ∀ (m k : Nat) (g : cb_S), mcx g w n s r c M → k ≤ c → c < k + m → (∀ j, j < k → (0 ≤ g 10 (M j) ∧ g 10 (M j) ≤ 5) ∧ sm (g 10 (M j)) = K1 w n s (M j)) → hp (f_X9_row_b65 m (r : Int) (ow w s n r) (k : Int) g) (rq g w n s c M) := by
  intro m
  induction m with
  | zero => intro k g hx h1 h2; omega
  | succ m ih =>
    intro k g hx h1 h2 hA
    obtain ⟨b1, b2, b3, b4, b5⟩ := mcx_b hx
    obtain ⟨a1, a2, a3, a4, a5, a6, a7, a8⟩ := id hx
    obtain ⟨e1, e2, hn, hs, hb, hw⟩ := id a1
    rw [f_X9_row_b65]
    dsimp only
    rw [a3, cb_wn (n := c) (by omega), cb_wn (n := k) (by omega)]
    by_cases hend : c ≤ k
    · rw [if_pos (by omega)]
      exact q_seps1 cb_N 0 g hx (Nat.zero_le _) (by unfold cb_N; omega) (fun j _ hj => hA j (by omega)) (fun j hj => by omega)
    · have hMk := b5 k (by omega)
      have hMn := (a7.2.1 k (by omega)).1
      have e8 : ((k : Int) + 1) = ((k + 1 : Nat) : Int) := by omega
      have hsb := hb (M k) hMn
      have how := ow_01 (w := w) (s := s) (n := n) (r := r)
      have b152 : ∀ v : Int, (0 ≤ v ∧ v ≤ 5) → sm v = K1 w n s (M k) → hp (f_X9_row_b152 (f_X9_row_b65 m) (r : Int) (ow w s n r) (k : Int) v (M k : Int) g) (rq g w n s c M) := by
        intro v hv1 hv2
        unfold f_X9_row_b152
        rw [cb_wn (n := M k) (by omega), if_pos (by omega), Int.toNat_natCast, e8]
        refine rq_tr (ih (k + 1) _ (mcx_keep hx (fun t x y z => cb_u_other g _ _ x)) (by omega) (by omega) (fun j hj => ?_)) (fun j _ => by rw [cb_u_other _ _ _ (by decide)]) (fun t x y z => cb_u_other g _ _ x)
        by_cases e : j = k
        · rw [e, cb_u_same]
          exact ⟨hv1, hv2⟩
        · rw [cb_u_ne _ _ _ _ (fun z => e (mbs_inj a7 (by omega) (by omega) z))]
          exact hA j (by omega)
      have hK := K1_eq w n s (M k)
      unfold f1 at hK
      rw [if_neg (by omega), if_pos (by omega), Int.toNat_natCast, a4 k (by omega), cb_wn (n := M k) (by omega), if_pos (by omega), Int.toNat_natCast, hs _ hMn, m_isMark ⟨by omega, by omega⟩, Option.bind_some]
      by_cases hm : s (M k) = 39 ∨ s (M k) = 126
      · rw [if_pos hm, mbs_pre a7 (by omega), (wy_M hx (by omega)).1] at hK
        rw [if_pos hm, if_neg (by decide)]
        by_cases k0 : k = 0
        · rw [if_pos k0] at hK
          rw [if_pos (by omega)]
          refine b152 _ (by omega) ?_
          rw [hK]
          show sm (ow w s n r) = ow w s n r
          unfold sm
          rw [if_neg (by omega), if_neg (by omega)]
        · have hMk1 := b5 (k - 1) (by omega)
          rw [if_neg k0] at hK
          have e7 : ((k : Int) - 1) = ((k - 1 : Nat) : Int) := by omega
          rw [if_neg (by omega), e7, cb_wn (n := k - 1) (by omega), if_pos (by omega), Int.toNat_natCast, a4 (k - 1) (by omega), cb_wn (n := M (k - 1)) (by omega), if_pos (by omega), Int.toNat_natCast]
          have := hA (k - 1) (by omega)
          refine b152 _ this.1 ?_
          rw [hK, this.2]
          unfold pk
          rw [if_neg (by omega), Int.toNat_natCast]
      · rw [if_neg hm] at hK
        rw [if_neg hm, if_pos (by decide), if_pos (by omega), a2 _ hMn]
        cases hq : jn n s (M k) with
        | false =>
          rw [hq, if_neg (by decide)] at hK
          rw [bI_f, if_pos (by decide)]
          obtain ⟨v, v1, v2, v3⟩ := m_plainSort a1 hMn (a8 _ hMn) hm
          rw [v1, Option.bind_some]
          exact b152 v v2 (by rw [hK]; exact v3)
        | true =>
          rw [hq, if_pos rfl] at hK
          obtain ⟨j1, j2⟩ := ro_join (w := w) hq
          have e7 : ((M k : Int) - 1) = ((M k - 1 : Nat) : Int) := by omega
          rw [bI_t, if_neg (by decide), e7, cb_wn (n := M k - 1) (by omega), if_pos (by omega), Int.toNat_natCast]
          obtain ⟨q, hq1, hq2⟩ := a7.2.2.2.2.1 (M k - 1) (by omega) (by rw [j2]; exact (a7.2.1 k (by omega)).2)
          have hqk : q < k := by
            rcases Nat.lt_trichotomy q k with h | h | h
            · exact h
            · subst h; omega
            · have := mbs_lt a7 (q - k - 1) k (by omega)
              rw [show k + (q - k - 1) + 1 = q by omega] at this
              omega
          have := hA q hqk
          rw [hq2] at this
          exact b152 _ this.1 (by rw [hK]; exact this.2)
/-- the members gathered -/
theorem q_row1 {w : Int} {n : Nat} {s : Nat → Int} {r : Nat} : ∀ (m i : Nat) (g : cb_S), ln_M g w n s → (∀ j, j < n → g 9 j = bI (jn n s j)) → (∀ j, j < n → g 6 j = (ro w s j : Int)) → g 7 r = (rst w s n).2.2 r → r < (rst w s n).2.1 → (∀ j, j < n → sg_k (s j) ≠ -1) → i ≤ n → n < i + m → g 0 18 = ((mi w s r i).1 : Int) → (∀ k, k < (mi w s r i).1 → g 12 k = ((mi w s r i).2 k : Int)) → hp (f_X9_row_b7 m (r : Int) (i : Int) g) (fun _ g2 => (∀ j, j < n → ro w s j = r → g2 11 j = L0 w n s j) ∧ (∀ j, ¬ (j < n ∧ ro w s j = r) → g2 11 j = g 11 j) ∧ (∀ t, t ≠ 18 → g2 0 t = g 0 t) ∧ ∀ k, k ≠ 0 → k ≠ 10 → k ≠ 11 → k ≠ 12 → k ≠ 13 → g2 k = g k) := by
  intro m
  induction m with
  | zero => intro i g hl h9 h6 h7 hr hv h1 h2; omega
  | succ m ih =>
    intro i g hl h9 h6 h7 hr hv h1 h2 h18 h12
    obtain ⟨e1, e2, hn, hs, hb, hw⟩ := id hl
    have hrn := rst_num (w := w) (s := s) n
    have hro := (rst_ok hw s n).2.2 r hr
    have hmi := mi_ok w s r i
    rw [f_X9_row_b7]
    dsimp only
    rw [e1, cb_wn (n := n) (by omega), cb_wn (n := i) (by omega), cb_wn (n := r) (by omega)]
    by_cases hend : n ≤ i
    · have hin : i = n := by omega
      subst hin
      rw [if_pos (by omega), if_pos (by omega), Int.toNat_natCast, h7, cb_id (x := (rst w s i).2.2 r) (by omega) (by omega), Int.tmod_eq_emod_of_nonneg hro.1]
      have hx : mcx g w i s r (mi w s r i).1 (mi w s r i).2 := ⟨hl, h9, h18, h12, h7, hr, hmi, hv⟩
      refine hp_imp (q_sorts cb_N 0 g hx (Nat.zero_le _) (by have := hmi.1; unfold cb_N; omega) (fun j hj => by omega)) (fun _ g2 ⟨q1, q2, q3⟩ => ⟨fun j hj1 hj2 => ?_, fun j hj => ?_, fun t _ => by rw [q3 0 (by decide) (by decide) (by decide)], fun k _ x y _ z => q3 k x y z⟩)
      · obtain ⟨k, hk1, hk2⟩ := hmi.2.2.2.2.1 j hj1 hj2
        rw [← hk2]
        exact q1 k hk1
      · refine q2 j (fun k hk z => hj ?_)
        rw [z]
        exact hmi.2.1 k hk
    · have e8 : ((i : Int) + 1) = ((i + 1 : Nat) : Int) := by omega
      have hri := ro_n (w := w) hw (s := s) (i := i) (n := n) (by omega)
      rw [if_neg (by omega), if_pos (by omega), Int.toNat_natCast, h6 i (by omega), cb_wn (n := ro w s i) (by omega)]
      unfold f_X9_row_b48
      rw [e8]
      by_cases hc : ro w s i = r
      · have hms : mi w s r (i + 1) = ((mi w s r i).1 + 1, fun k => if k = (mi w s r i).1 then i else (mi w s r i).2 k) := by
          conv => lhs; unfold mi
          rw [if_pos hc]
        have hci := hmi.1
        rw [if_pos (by omega), h18, cb_wn (n := (mi w s r i).1) (by omega), if_pos (by omega), Int.toNat_natCast]
        generalize hG : cb_u (cb_u g 12 (mi w s r i).1 (i : Int)) 0 18 (((mi w s r i).1 : Int) + 1) = G
        have Gk : ∀ k, k ≠ 0 → k ≠ 12 → G k = g k := fun k x y => by rw [← hG, cb_u_other _ _ _ x, cb_u_other _ _ _ y]
        have G0 : ∀ t, t ≠ 18 → G 0 t = g 0 t := fun t ht => by rw [← hG, cb_u_ne _ _ _ _ ht, cb_u_other _ _ _ (by decide)]
        refine hp_imp (ih (i + 1) G (ln_M_keep hl (G0 0 (by decide)) (G0 1 (by decide)) (Gk 1 (by decide) (by decide))) (by rw [Gk 9 (by decide) (by decide)]; exact h9) (by rw [Gk 6 (by decide) (by decide)]; exact h6) (by rw [Gk 7 (by decide) (by decide)]; exact h7) hr hv (by omega) (by omega) ?_ (fun k hk => ?_)) (fun _ g2 ⟨q1, q2, q3, q4⟩ => ⟨q1, fun j hj => by rw [q2 j hj, Gk 11 (by decide) (by decide)], fun t ht => by rw [q3 t ht, G0 t ht], fun k x y z u v => by rw [q4 k x y z u v, Gk k x u]⟩)
        · rw [hms, ← hG, cb_u_same]
          dsimp only
          omega
        · rw [hms] at hk ⊢
          dsimp only at hk ⊢
          rw [← hG, cb_u_other _ _ _ (by decide)]
          by_cases e : k = (mi w s r i).1
          · rw [if_pos e, e, cb_u_same]
          · rw [if_neg e, cb_u_ne _ _ _ _ e]
            exact h12 k (by omega)
      · have hms : mi w s r (i + 1) = mi w s r i := by
          conv => lhs; unfold mi
          rw [if_neg hc]
        rw [if_neg (by omega)]
        exact ih (i + 1) g hl h9 h6 h7 hr hv (by omega) (by omega) (by rw [hms]; exact h18) (by rw [hms]; exact h12)
theorem q_row {w : Int} {n : Nat} {s : Nat → Int} {r : Nat} {g : cb_S} (hl : ln_M g w n s) (h9 : ∀ j, j < n → g 9 j = bI (jn n s j)) (h6 : ∀ j, j < n → g 6 j = (ro w s j : Int)) (h7 : g 7 r = (rst w s n).2.2 r) (hr : r < (rst w s n).2.1) (hv : ∀ j, j < n → sg_k (s j) ≠ -1) : hp (f_X9_row g (r : Int)) (fun _ g2 => (∀ j, j < n → ro w s j = r → g2 11 j = L0 w n s j) ∧ (∀ j, ¬ (j < n ∧ ro w s j = r) → g2 11 j = g 11 j) ∧ (∀ t, t ≠ 18 → g2 0 t = g 0 t) ∧ ∀ k, k ≠ 0 → k ≠ 10 → k ≠ 11 → k ≠ 12 → k ≠ 13 → g2 k = g k) := by
  unfold f_X9_row
  have hn := hl.2.2.1
  refine hp_imp (q_row1 (w := w) (n := n) (s := s) cb_N 0 (cb_u g 0 18 0) (ln_M_keep hl (cb_u_ne _ _ _ _ (by decide)) (cb_u_ne _ _ _ _ (by decide)) (cb_u_other g _ _ (by decide))) (by rw [cb_u_other _ _ _ (by decide)]; exact h9) (by rw [cb_u_other _ _ _ (by decide)]; exact h6) (by rw [cb_u_other _ _ _ (by decide)]; exact h7) hr hv (Nat.zero_le _) (by unfold cb_N; omega) (cb_u_same _ _ _ _) (fun k hk => absurd hk (Nat.not_lt_zero _))) (fun _ g2 ⟨q1, q2, q3, q4⟩ => ⟨q1, fun j hj => by rw [q2 j hj, cb_u_other _ _ _ (by decide)], fun t ht => by rw [q3 t ht, cb_u_ne _ _ _ _ ht], fun k x y z u v => by rw [q4 k x y z u v, cb_u_other _ _ _ x]⟩)
