/-! the model's sorts: PLAIN is 5, COMMA 4, PLUS 3 -/
def um (k : Int) : Int := if k = 4 then 5 else k
def ow (w : Int) (s : Nat → Int) (n r : Nat) : Int := (rst w s n).2.2 r % 2
def mcx (g : cb_S) (w : Int) (n : Nat) (s : Nat → Int) (r c : Nat) (M : Nat → Nat) : Prop := ln_M g w n s ∧ (∀ j, j < n → g 9 j = bI (jn n s j)) ∧ g 0 18 = (c : Int) ∧ (∀ k, k < c → g 12 k = (M k : Int)) ∧ g 7 r = (rst w s n).2.2 r ∧ r < (rst w s n).2.1 ∧ mbs w s n r c M ∧ (∀ j, j < n → sg_k (s j) ≠ -1)
theorem mcx_keep {g g2 : cb_S} {w : Int} {n : Nat} {s : Nat → Int} {r c : Nat} {M : Nat → Nat} (h : mcx g w n s r c M) (hk : ∀ k, k ≠ 10 → k ≠ 11 → k ≠ 13 → g2 k = g k) : mcx g2 w n s r c M := by
  obtain ⟨a1, a2, a3, a4, a5, a6, a7, a8⟩ := h
  refine ⟨ln_M_keep a1 (by rw [hk 0 (by decide) (by decide) (by decide)]) (by rw [hk 0 (by decide) (by decide) (by decide)]) (hk 1 (by decide) (by decide) (by decide)), ?_, ?_, ?_, ?_, a6, a7, a8⟩
  · rw [hk 9 (by decide) (by decide) (by decide)]; exact a2
  · rw [hk 0 (by decide) (by decide) (by decide)]; exact a3
  · rw [hk 12 (by decide) (by decide) (by decide)]; exact a4
  · rw [hk 7 (by decide) (by decide) (by decide)]; exact a5
/-- what row() leaves -/
def rq (g : cb_S) (w : Int) (n : Nat) (s : Nat → Int) (c : Nat) (M : Nat → Nat) : Int → cb_S → Prop := fun _ g2 => (∀ k, k < c → g2 11 (M k) = L0 w n s (M k)) ∧ (∀ j, (∀ k, k < c → j ≠ M k) → g2 11 j = g 11 j) ∧ ∀ k, k ≠ 10 → k ≠ 11 → k ≠ 13 → g2 k = g k
theorem rq_tr {g g1 : cb_S} {w : Int} {n : Nat} {s : Nat → Int} {c : Nat} {M : Nat → Nat} {F : Option (Int × cb_S)} (h : hp F (rq g1 w n s c M)) (h11 : ∀ j, (∀ k, k < c → j ≠ M k) → g1 11 j = g 11 j) (hk : ∀ k, k ≠ 10 → k ≠ 11 → k ≠ 13 → g1 k = g k) : hp F (rq g w n s c M) :=
  hp_imp h (fun _ g2 ⟨a, b, d⟩ => ⟨a, fun j hj => (b j hj).trans (h11 j hj), fun k x y z => (d k x y z).trans (hk k x y z)⟩)
theorem wy_M {g : cb_S} {w : Int} {n : Nat} {s : Nat → Int} {r c : Nat} {M : Nat → Nat} (h : mcx g w n s r c M) {k : Nat} (hk : k < c) : wy w s (M k) = ow w s n r ∧ rba w s (M k) = (rst w s n).2.2 r := by
  obtain ⟨a1, a2, a3, a4, a5, a6, a7, a8⟩ := h
  have h1 := a7.2.1 k hk
  have h2 := rba_n (w := w) a1.2.2.2.2.2 (s := s) (i := M k) (n := n) (by omega)
  rw [h1.2] at h2
  unfold wy ow
  rw [h2]
  exact ⟨rfl, rfl⟩
theorem ow_01 {w : Int} {s : Nat → Int} {n r : Nat} : ow w s n r = 0 ∨ ow w s n r = 1 := by unfold ow; omega
theorem mcx_rwd {g : cb_S} {w : Int} {n : Nat} {s : Nat → Int} {r c : Nat} {M : Nat → Nat} (h : mcx g w n s r c M) : ∃ g' : cb_S, rwd g' w n s := rwd_ex h.1.2.2.1 h.1.2.2.2.2.1 h.1.2.2.2.2.2 h.2.2.2.2.2.2.2
theorem mcx_b {g : cb_S} {w : Int} {n : Nat} {s : Nat → Int} {r c : Nat} {M : Nat → Nat} (h : mcx g w n s r c M) : c ≤ 60 ∧ r ≤ 60 ∧ 0 ≤ (rst w s n).2.2 r ∧ (rst w s n).2.2 r ≤ 121 ∧ ∀ k, k < c → M k < 60 := by
  obtain ⟨a1, a2, a3, a4, a5, a6, a7, a8⟩ := h
  have hn := a1.2.2.1
  have h1 := (rst_ok a1.2.2.2.2.2 s n).2.2 r a6
  have h2 := rst_num (w := w) (s := s) n
  have h3 := a7.1
  refine ⟨by omega, by omega, h1.1, by omega, fun k hk => ?_⟩
  have := (a7.2.1 k hk).1
  omega
theorem rise_M {k y : Int} (hk : k = 0 ∨ k = 1 ∨ k = 2) (hy : y = 0 ∨ y = 1) : rise k y = (if y = 0 then (if um k = 0 then 0 else if um k = 1 then 1 else 2) else (if um k = 1 then 0 else 1)) := by
  rcases hk with rfl | rfl | rfl <;> rcases hy with rfl | rfl <;> rfl
theorem q_lv {w : Int} {n : Nat} {s : Nat → Int} {r c : Nat} {M : Nat → Nat} : ∀ (m k : Nat) (g : cb_S), mcx g w n s r c M → k ≤ c → c < k + m → (∀ j, j < c → g 10 (M j) = um (K4 w n s (M j))) → (∀ j, j < k → g 11 (M j) = L0 w n s (M j)) → hp (f_X9_row_b582 m (r : Int) (ow w s n r) (k : Int) g) (rq g w n s c M) := by
  intro m
  induction m with
  | zero => intro k g hx h1 h2; omega
  | succ m ih =>
    intro k g hx h1 h2 hK hL
    obtain ⟨b1, b2, b3, b4, b5⟩ := mcx_b hx
    obtain ⟨a1, a2, a3, a4, a5, a6, a7, a8⟩ := id hx
    rw [f_X9_row_b582]
    dsimp only
    rw [a3, cb_wn (n := c) (by omega), cb_wn (n := k) (by omega)]
    by_cases hend : c ≤ k
    · rw [if_pos (by omega)]
      exact hp_some ⟨fun j hj => hL j (by omega), fun _ _ => rfl, fun _ _ _ _ => rfl⟩
    · have hMk := b5 k (by omega)
      obtain ⟨gw, hgw⟩ := mcx_rwd hx
      have hr := K4_r hgw (a7.2.1 k (by omega)).1
      have hum : 0 ≤ um (K4 w n s (M k)) ∧ um (K4 w n s (M k)) ≤ 5 := by unfold um; split <;> omega
      have how := ow_01 (w := w) (s := s) (n := n) (r := r)
      have hwy := wy_M hx (k := k) (by omega)
      have e8 : ((k : Int) + 1) = ((k + 1 : Nat) : Int) := by omega
      rw [if_neg (by omega), if_pos (by omega), Int.toNat_natCast, a4 k (by omega), cb_wn (n := M k) (by omega), if_pos (by omega), cb_wn (n := r) (by omega), if_pos (by omega), Int.toNat_natCast, Int.toNat_natCast, a5, hK k (by omega), cb_id (x := um (K4 w n s (M k))) (by omega) (by omega), cb_id (x := ow w s n r) (by omega) (by omega)]
      have key : ∀ v : Int, v = rise (K4 w n s (M k)) (ow w s n r) → hp (f_X9_row_b659 (f_X9_row_b582 m) (r : Int) (ow w s n r) (k : Int) v ((rst w s n).2.2 r) (M k : Int) g) (rq g w n s c M) := by
        intro v hv
        unfold f_X9_row_b659
        rw [cb_wn (n := M k) (by omega), if_pos (by omega), Int.toNat_natCast, e8]
        refine rq_tr (ih (k + 1) _ (mcx_keep hx (fun q x y z => cb_u_other g _ _ y)) (by omega) (by omega) (fun j hj => ?_) (fun j hj => ?_)) (fun j hj => ?_) (fun q x y z => cb_u_other g _ _ y)
        · rw [cb_u_other _ _ _ (by decide)]
          exact hK j hj
        · by_cases e : j = k
          · rw [e, cb_u_same, hv]
            unfold L0
            rw [hwy.1, hwy.2]
          · rw [cb_u_ne _ _ _ _ (fun z => e (mbs_inj a7 (by omega) (by omega) z))]
            exact hL j (by omega)
        · exact cb_u_ne _ _ _ _ (hj k (by omega))
      have hri := rise_M hr how
      by_cases c1 : ow w s n r = 0
      · rw [if_pos c1] at hri ⊢
        by_cases c2 : um (K4 w n s (M k)) = 0
        · rw [if_pos c2] at hri ⊢
          exact key _ hri.symm
        · rw [if_neg c2] at hri ⊢
          by_cases c3 : um (K4 w n s (M k)) = 1
          · rw [if_pos c3] at hri ⊢
            exact key _ hri.symm
          · rw [if_neg c3] at hri ⊢
            exact key _ hri.symm
      · rw [if_neg c1] at hri ⊢
        by_cases c2 : um (K4 w n s (M k)) = 1
        · rw [if_pos c2] at hri ⊢
          exact key _ hri.symm
        · rw [if_neg c2] at hri ⊢
          exact key _ hri.symm
def pinv (g : cb_S) (A B : Nat → Int) (c : Nat) (M : Nat → Nat) (k : Nat) : Prop := (∀ j, j < k → g 10 (M j) = um (A (M j))) ∧ (∀ j, k ≤ j → j < c → g 10 (M j) = um (B (M j)))
/-- one entry more -/
theorem pinv_step {w : Int} {s : Nat → Int} {n r : Nat} {g : cb_S} {A B : Nat → Int} {c : Nat} {M : Nat → Nat} {k : Nat} (hM : mbs w s n r c M) (hk : k < c) (h : pinv g A B c M k) {v : Int} (hv : v = um (A (M k))) : pinv (cb_u g 10 (M k) v) A B c M (k + 1) := by
  refine ⟨fun j hj => ?_, fun j h1 h2 => ?_⟩
  · by_cases e : j = k
    · rw [e, cb_u_same, hv]
    · rw [cb_u_ne _ _ _ _ (fun z => e (mbs_inj hM (by omega) (by omega) z))]
      exact h.1 j (by omega)
  · rw [cb_u_ne _ _ _ _ (fun z => by have := mbs_inj hM h2 hk z; omega)]
    exact h.2 j (by omega) h2
theorem pinv_same {g : cb_S} {A B : Nat → Int} {c : Nat} {M : Nat → Nat} {k : Nat} (hk : k < c) (h : pinv g A B c M k) (hv : um (B (M k)) = um (A (M k))) : pinv g A B c M (k + 1) := by
  refine ⟨fun j hj => ?_, fun j h1 h2 => h.2 j (by omega) h2⟩
  by_cases e : j = k
  · rw [e, h.2 k (Nat.le_refl _) hk, hv]
  · exact h.1 j (by omega)
theorem q_fill {w : Int} {n : Nat} {s : Nat → Int} {r c e k : Nat} {M : Nat → Nat} {a b v : Int} {kk : Int → Int → Int → cb_S → Option (Int × cb_S)} (hkk : ∀ g', mcx g' w n s r c M → pinv g' (K4 w n s) (K3 w n s) c M e → hp (kk (r : Int) (ow w s n r) (e : Int) g') (rq g' w n s c M)) (he : e ≤ c) (hv : ∀ j, k ≤ j → j < e → K4 w n s (M j) = v) (ha : a = 0 ∨ a = 1) (hb : b = 0 ∨ b = 1) (hab : v = if a = b then a else ow w s n r) : ∀ (m q : Nat) (g : cb_S), mcx g w n s r c M → k ≤ q → q ≤ e → e < q + m → pinv g (K4 w n s) (K3 w n s) c M q → hp (f_X9_row_b529 kk m (r : Int) (ow w s n r) (e : Int) a b (q : Int) g) (rq g w n s c M) := by
  intro m
  induction m with
  | zero => intro q g hx h1 h2; omega
  | succ m ih =>
    intro q g hx h1 h2 h3 hp9
    obtain ⟨b1, b2, b3, b4, b5⟩ := mcx_b hx
    obtain ⟨a1, a2, a3, a4, a5, a6, a7, a8⟩ := id hx
    rw [f_X9_row_b529]
    dsimp only
    rw [cb_wn (n := e) (by omega), cb_wn (n := q) (by omega), cb_id (x := a) (by omega) (by omega), cb_id (x := b) (by omega) (by omega)]
    by_cases hend : e ≤ q
    · rw [if_pos (by omega)]
      unfold f_X9_row_b573
      rw [show (e : Int) - 1 + 1 = (e : Int) by omega]
      rw [show q = e by omega] at hp9
      exact hkk g hx hp9
    · have hMq := b5 q (by omega)
      have e8 : ((q : Int) + 1) = ((q + 1 : Nat) : Int) := by omega
      have how := ow_01 (w := w) (s := s) (n := n) (r := r)
      rw [if_neg (by omega), if_pos (by omega), Int.toNat_natCast, a4 q (by omega)]
      have key : hp (f_X9_row_b560 (f_X9_row_b529 kk m) kk (r : Int) (ow w s n r) (e : Int) a b (q : Int) v (M q : Int) g) (rq g w n s c M) := by
        unfold f_X9_row_b560
        rw [cb_wn (n := M q) (by omega), if_pos (by omega), Int.toNat_natCast, e8]
        have hq := hv q (by omega) (by omega)
        refine rq_tr (ih (q + 1) _ (mcx_keep hx (fun t x y z => cb_u_other g _ _ x)) (by omega) (by omega) (by omega) (pinv_step a7 (by omega) hp9 ?_)) (fun j _ => by rw [cb_u_other _ _ _ (by decide)]) (fun t x y z => cb_u_other g _ _ x)
        rw [hq]
        unfold um
        rw [if_neg (by rw [hab]; split <;> omega)]
      by_cases hc : a = b
      · rw [if_pos hc] at hab ⊢
        rw [hab] at key
        exact key
      · rw [if_neg hc] at hab ⊢
        rw [hab] at key
        exact key
theorem um_0 {k : Int} : um k = 0 ↔ k = 0 := by unfold um; split <;> omega
theorem um_4 {k : Int} (h : k = 0 ∨ k = 1 ∨ k = 2 ∨ k = 4) : um k = 5 ↔ k = 4 := by unfold um; split <;> omega
theorem um_r {k : Int} (h : k = 0 ∨ k = 1 ∨ k = 2 ∨ k = 4) : 0 ≤ um k ∧ um k ≤ 5 := by unfold um; split <;> omega
/-- behind the run k .. e of plain ones: both sides -/
theorem q_ends {w : Int} {n : Nat} {s : Nat → Int} {r c e k : Nat} {M : Nat → Nat} {g : cb_S} {kk : Int → Int → Int → cb_S → Option (Int × cb_S)} (hkk : ∀ g', mcx g' w n s r c M → pinv g' (K4 w n s) (K3 w n s) c M e → hp (kk (r : Int) (ow w s n r) (e : Int) g') (rq g' w n s c M)) (hx : mcx g w n s r c M) (hke : k < e) (he : e ≤ c) (hrun : ∀ j, k ≤ j → j < e → K3 w n s (M j) = 4) (hb : k = 0 ∨ K3 w n s (M (k - 1)) ≠ 4) (hend : e = c ∨ K3 w n s (M e) ≠ 4) (hp9 : pinv g (K4 w n s) (K3 w n s) c M k) : hp (f_X9_row_b457 kk (r : Int) (ow w s n r) (k : Int) (e : Int) g) (rq g w n s c M) := by
  obtain ⟨b1, b2, b3, b4, b5⟩ := mcx_b hx
  obtain ⟨a1, a2, a3, a4, a5, a6, a7, a8⟩ := id hx
  obtain ⟨gw, hgw⟩ := mcx_rwd hx
  have how := ow_01 (w := w) (s := s) (n := n) (r := r)
  have hWA : ∀ d, k + d < e → WA w n s (M (k + d)) = if k = 0 then ow w s n r else bs (K3 w n s (M (k - 1))) := by
    intro d
    induction d with
    | zero =>
      intro hd
      rw [WA_eq]
      unfold f3
      rw [if_pos (hrun _ (by omega) hd), mbs_pre a7 (by omega), (wy_M hx (by omega)).1]
      show pk _ (if k = 0 then -1 else (M (k - 1) : Int)) _ = _
      by_cases k0 : k = 0
      · rw [if_pos k0, if_pos k0]
        rfl
      · rw [if_neg k0, if_neg k0]
        unfold pk
        rw [if_neg (by omega), Int.toNat_natCast, WA_eq]
        unfold f3
        rw [if_neg (by rcases hb with hb | hb; exact absurd hb k0; exact hb)]
    | succ d ih =>
      intro hd
      rw [WA_eq]
      unfold f3
      rw [if_pos (hrun _ (by omega) hd), mbs_pre a7 (by omega), if_neg (by omega)]
      unfold pk
      rw [if_neg (by omega), Int.toNat_natCast, show k + (d + 1) - 1 = k + d by omega]
      exact ih (by omega)
  have hWB : ∀ d q, q + d + 1 = e → k ≤ q → WB w n s (M q) = if e = c then ow w s n r else bs (K3 w n s (M e)) := by
    intro d
    induction d with
    | zero =>
      intro q hq hkq
      rw [WB_eq w n s (a7.2.1 q (by omega)).1]
      unfold f4
      rw [if_pos (hrun _ hkq (by omega)), mbs_suf a7 (by omega), (wy_M hx (by omega)).1]
      by_cases ec : e = c
      · rw [if_pos (by omega), if_pos ec]
        rfl
      · rw [if_neg (by omega), if_neg ec]
        unfold pk
        rw [if_neg (by omega), Int.toNat_natCast, show q + 1 = e by omega, WB_eq w n s (a7.2.1 e (by omega)).1]
        unfold f4
        rw [if_neg (by rcases hend with hb | hb; exact absurd hb ec; exact hb)]
    | succ d ih =>
      intro q hq hkq
      rw [WB_eq w n s (a7.2.1 q (by omega)).1]
      unfold f4
      rw [if_pos (hrun _ hkq (by omega)), mbs_suf a7 (by omega), if_neg (by omega)]
      unfold pk
      rw [if_neg (by omega), Int.toNat_natCast]
      exact ih (q + 1) (by omega) (by omega)
  have hK4 : ∀ a b : Int, a = (if k = 0 then ow w s n r else bs (K3 w n s (M (k - 1)))) → b = (if e = c then ow w s n r else bs (K3 w n s (M e))) → ∀ j, k ≤ j → j < e → K4 w n s (M j) = if a = b then a else ow w s n r := by
    intro a b ha hb j h1 h2
    unfold K4
    have x1 := hWA (j - k) (by omega)
    rw [show k + (j - k) = j by omega] at x1
    have x2 := hWB (e - j - 1) j (by omega) h1
    rw [if_pos (hrun j h1 h2), x1, x2, ← ha, ← hb, (wy_M hx (by omega)).1]
  have key : ∀ a b : Int, a = (if k = 0 then ow w s n r else bs (K3 w n s (M (k - 1)))) → b = (if e = c then ow w s n r else bs (K3 w n s (M e))) → hp (f_X9_row_b523 kk (r : Int) (ow w s n r) (k : Int) (e : Int) a b g) (rq g w n s c M) := by
    intro a b ha hb9
    have a01 : a = 0 ∨ a = 1 := by
      rw [ha]
      split
      · exact how
      · exact bs_01 _
    have b01 : b = 0 ∨ b = 1 := by
      rw [hb9]
      split
      · exact how
      · exact bs_01 _
    unfold f_X9_row_b523
    exact q_fill hkk he (hK4 a b ha hb9) a01 b01 rfl cb_N k g hx (Nat.le_refl _) (by omega) (by unfold cb_N; omega) hp9
  have k488 : ∀ a : Int, a = (if k = 0 then ow w s n r else bs (K3 w n s (M (k - 1)))) → hp (f_X9_row_b488 kk (r : Int) (ow w s n r) (k : Int) (e : Int) a g) (rq g w n s c M) := by
    intro a ha
    unfold f_X9_row_b488
    rw [a3, cb_wn (n := e) (by omega), cb_wn (n := c) (by omega)]
    by_cases ec : e = c
    · rw [if_pos (by omega)]
      exact key a _ ha (by rw [if_pos ec])
    · have hMe := b5 e (by omega)
      have hK3 := K3_r hgw (a7.2.1 e (by omega)).1
      have hur := um_r hK3
      rw [if_neg (by omega), if_pos (by omega), Int.toNat_natCast, a4 e (by omega), cb_wn (n := M e) (by omega), if_pos (by omega), Int.toNat_natCast, hp9.2 e (by omega) (by omega), cb_id (x := um (K3 w n s (M e))) (by omega) (by omega)]
      by_cases z : um (K3 w n s (M e)) = 0
      · rw [if_pos z]
        refine key a _ ha ?_
        rw [if_neg ec]
        unfold bs
        rw [if_pos (um_0.mp z)]
      · rw [if_neg z]
        refine key a _ ha ?_
        rw [if_neg ec]
        unfold bs
        rw [if_neg (fun y => z (um_0.mpr y))]
  unfold f_X9_row_b457
  rw [cb_wn (n := k) (by omega)]
  by_cases k0 : k = 0
  · rw [if_pos (by omega)]
    exact k488 _ (by rw [if_pos k0])
  · have hMk := b5 (k - 1) (by omega)
    have hK3 := K3_r hgw (a7.2.1 (k - 1) (by omega)).1
    have hn4 : K3 w n s (M (k - 1)) ≠ 4 := by rcases hb with hb | hb; exact absurd hb k0; exact hb
    have hK43 : K4 w n s (M (k - 1)) = K3 w n s (M (k - 1)) := by
      unfold K4
      rw [if_neg hn4]
    have hur := um_r hK3
    have e7 : ((k : Int) - 1) = ((k - 1 : Nat) : Int) := by omega
    rw [if_neg (by omega), e7, cb_wn (n := k - 1) (by omega), if_pos (by omega), Int.toNat_natCast, a4 (k - 1) (by omega), cb_wn (n := M (k - 1)) (by omega), if_pos (by omega), Int.toNat_natCast, hp9.1 (k - 1) (by omega), hK43, cb_id (x := um (K3 w n s (M (k - 1)))) (by omega) (by omega)]
    by_cases z : um (K3 w n s (M (k - 1))) = 0
    · rw [if_pos z]
      refine k488 _ ?_
      rw [if_neg k0]
      unfold bs
      rw [if_pos (um_0.mp z)]
    · rw [if_neg z]
      refine k488 _ ?_
      rw [if_neg k0]
      unfold bs
      rw [if_neg (fun y => z (um_0.mpr y))]
theorem q_run {w : Int} {n : Nat} {s : Nat → Int} {r c k : Nat} {M : Nat → Nat} {kk : Int → Int → Int → cb_S → Option (Int × cb_S)} {g : cb_S} (hkk : ∀ e, k < e → e ≤ c → (e = c ∨ K3 w n s (M e) ≠ 4) → ∀ g', mcx g' w n s r c M → pinv g' (K4 w n s) (K3 w n s) c M e → hp (kk (r : Int) (ow w s n r) (e : Int) g') (rq g' w n s c M)) (hx : mcx g w n s r c M) (hk : k < c) (hk4 : K3 w n s (M k) = 4) (hb : k = 0 ∨ K3 w n s (M (k - 1)) ≠ 4) (hp9 : pinv g (K4 w n s) (K3 w n s) c M k) : ∀ (m e : Nat), k ≤ e → e ≤ c → c < e + m → (∀ j, k ≤ j → j < e → K3 w n s (M j) = 4) → hp (f_X9_row_b426 kk m (r : Int) (ow w s n r) (k : Int) (e : Int) g) (rq g w n s c M) := by
  obtain ⟨b1, b2, b3, b4, b5⟩ := mcx_b hx
  obtain ⟨a1, a2, a3, a4, a5, a6, a7, a8⟩ := id hx
  obtain ⟨gw, hgw⟩ := mcx_rwd hx
  intro m
  induction m with
  | zero => intro e h1 h2; omega
  | succ m ih =>
    intro e h1 h2 h3 hrun
    have out : (e = c ∨ K3 w n s (M e) ≠ 4) → hp (f_X9_row_b457 kk (r : Int) (ow w s n r) (k : Int) (e : Int) g) (rq g w n s c M) := by
      intro ho
      have hke : k < e := by
        by_cases z : k = e
        · subst z
          rcases ho with ho | ho
          · omega
          · exact absurd hk4 ho
        · omega
      exact q_ends (hkk e hke h2 ho) hx hke h2 hrun hb ho hp9
    rw [f_X9_row_b426]
    dsimp only
    rw [a3, cb_wn (n := c) (by omega), cb_wn (n := e) (by omega)]
    by_cases hend : c ≤ e
    · rw [if_pos (by omega)]
      exact out (Or.inl (by omega))
    · have hMe := b5 e (by omega)
      have hK3 := K3_r hgw (a7.2.1 e (by omega)).1
      have hur := um_r hK3
      rw [if_neg (by omega), if_pos (by omega), Int.toNat_natCast, a4 e (by omega), cb_wn (n := M e) (by omega), if_pos (by omega), Int.toNat_natCast, hp9.2 e (by omega) (by omega), cb_id (x := um (K3 w n s (M e))) (by omega) (by omega)]
      by_cases z : um (K3 w n s (M e)) = 5
      · rw [if_pos z, show (e : Int) + 1 = ((e + 1 : Nat) : Int) by omega]
        refine ih (e + 1) (by omega) (by omega) (by omega) (fun j x y => ?_)
        by_cases ej : j = e
        · rw [ej]; exact (um_4 hK3).mp z
        · exact hrun j x (by omega)
      · rw [if_neg z]
        exact out (Or.inr (fun y => z ((um_4 hK3).mpr y)))
theorem q_plain {w : Int} {n : Nat} {s : Nat → Int} {r c : Nat} {M : Nat → Nat} : ∀ (m k : Nat) (g : cb_S), mcx g w n s r c M → k ≤ c → c < k + m → pinv g (K4 w n s) (K3 w n s) c M k → (k = 0 ∨ k = c ∨ K3 w n s (M k) ≠ 4 ∨ K3 w n s (M (k - 1)) ≠ 4) → hp (f_X9_row_b394 m (r : Int) (ow w s n r) (k : Int) g) (rq g w n s c M) := by
  intro m
  induction m with
  | zero => intro k g hx h1 h2; omega
  | succ m ih =>
    intro k g hx h1 h2 hp9 hb
    obtain ⟨b1, b2, b3, b4, b5⟩ := mcx_b hx
    obtain ⟨a1, a2, a3, a4, a5, a6, a7, a8⟩ := id hx
    obtain ⟨gw, hgw⟩ := mcx_rwd hx
    rw [f_X9_row_b394]
    dsimp only
    rw [a3, cb_wn (n := c) (by omega), cb_wn (n := k) (by omega)]
    by_cases hend : c ≤ k
    · rw [if_pos (by omega)]
      exact q_lv cb_N 0 g hx (Nat.zero_le _) (by unfold cb_N; omega) (fun j hj => hp9.1 j (by omega)) (fun j hj => by omega)
    · have hMk := b5 k (by omega)
      have hK3 := K3_r hgw (a7.2.1 k (by omega)).1
      have hur := um_r hK3
      rw [if_neg (by omega), if_pos (by omega), Int.toNat_natCast, a4 k (by omega), cb_wn (n := M k) (by omega), if_pos (by omega), Int.toNat_natCast, hp9.2 k (Nat.le_refl _) (by omega), cb_id (x := um (K3 w n s (M k))) (by omega) (by omega)]
      by_cases z : um (K3 w n s (M k)) = 5
      · have z4 := (um_4 hK3).mp z
        rw [if_pos z]
        refine q_run (fun e h3 h4 h5 g' hx' hp' => ih e g' hx' h4 (by omega) hp' ?_) hx (by omega) z4 ?_ hp9 cb_N k (Nat.le_refl _) (by omega) (by unfold cb_N; omega) (fun j x y => by omega)
        · rcases h5 with h5 | h5
          · exact Or.inr (Or.inl h5)
          · exact Or.inr (Or.inr (Or.inl h5))
        · rcases hb with hb | hb | hb | hb
          · exact Or.inl hb
          · omega
          · exact absurd z4 hb
          · exact Or.inr hb
      · have z4 : K3 w n s (M k) ≠ 4 := fun y => z ((um_4 hK3).mpr y)
        rw [if_neg z]
        unfold f_X9_row_b573
        rw [show (k : Int) + 1 = ((k + 1 : Nat) : Int) by omega]
        refine ih (k + 1) g hx (by omega) (by omega) (pinv_same (by omega) hp9 ?_) (Or.inr (Or.inr (Or.inr z4)))
        unfold K4
        rw [if_neg z4]
