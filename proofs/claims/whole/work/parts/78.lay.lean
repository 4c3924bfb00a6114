theorem fls_ext {lev : Int → Int} {c : Nat} : ∀ (l : Nat) (a b : Nat → Int), (∀ v, v < c → a v = b v) → ∀ v, v < c → fls lev c l a v = fls lev c l b v
  | 0, _, _, h => h
  | l + 1, _, _, h => fls_ext l _ _ (trs_ext h (c + 1) (Nat.le_refl _)).2.1
theorem xs_ext {n : Nat} {s : Nat → Int} {o p : Nat → Int} {c : Nat} (h : ∀ v, v < c → o v = p v) : ∀ v, v ≤ c → xs n s o v = xs n s p v := by
  intro v
  induction v with
  | zero => intro _; rfl
  | succ v ih =>
    intro hv
    show xs n s o v + wd n s (fs n s (o v).toNat) = xs n s p v + wd n s (fs n s (p v).toNat)
    rw [ih (by omega), h v (by omega)]
/-- what the sight's cells say behind lay() -/
def sgh (g : cb_S) (w : Int) (n : Nat) (s : Nat → Int) : Prop := g 4 4 = (cn n s n : Int) ∧ g 4 7 = w ∧ g 4 6 = xs n s (OR w n s) (cn n s n) ∧ (∀ k, k < cn n s n → g 26 k = CL w n s k) ∧ (∀ v, v < cn n s n → g 27 v = OR w n s v ∧ g 28 (OR w n s v).toNat = (v : Int) ∧ g 29 (OR w n s v).toNat = xs n s (OR w n s) v)
theorem p_sight1 {w : Int} {n : Nat} {s : Nat → Int} : ∀ (m i : Nat) (g : cb_S), sgt g w n s → g 4 4 = (cn n s n : Int) → g 4 7 = w → i ≤ cn n s n → cn n s n < i + m → g 4 5 = mx w n s i → (∀ k, k < i → g 26 k = CL w n s k ∧ g 27 k = (k : Int)) → hp (f_X6_lay_b24 m (i : Int) g) (fun _ g2 => sgh g2 w n s ∧ ∀ k, k ≠ 4 → ¬ (26 ≤ k ∧ k ≤ 29) → g2 k = g k) := by
  intro m
  induction m with
  | zero => intro i g h1 h2 h3 h4 h5; omega
  | succ m ih =>
    intro i g hd h4 h7 hi hm h5 hk
    obtain ⟨a1, a2, a3, a4⟩ := id hd
    have hcn := cn_le (n := n) (s := s) n
    have hmx := mx_r (n := n) (s := s) a4 i hi
    rw [f_X6_lay_b24]
    dsimp only
    rw [h4, cb_wn (n := cn n s n) (by omega), cb_wn (n := i) (by omega)]
    by_cases hend : cn n s n ≤ i
    · rw [if_pos (by omega), h5]
      have : i = cn n s n := by omega
      subst this
      have e5 : mx w n s (cn n s n) = ((mx w n s (cn n s n)).toNat : Int) := by omega
      rw [e5]
      have ho : ord (cn n s n) (g 27) := fun v hv => by rw [(hk v hv).2]; omega
      have hin : inj (cn n s n) (g 27) := fun u v hu hv huv => by rw [(hk u hu).2, (hk v hv).2] at huv; omega
      refine hp_imp (p_floors cb_N _ g hd h4 ho hin (fun k hk9 => (hk k hk9).1) (by omega) (by unfold cb_N; omega)) (fun r g2 ⟨⟨p1, p2, p3⟩, q2, q3⟩ => ⟨?_, fun k hk hk2 => q3 k hk (by omega)⟩)
      have hext := fls_ext (lev := lvC w n s) (mx w n s (cn n s n)).toNat (g 27) (fun v => (v : Int)) (fun v hv => (hk v hv).2)
      have hext : ∀ v, v < cn n s n → fls (lvC w n s) (cn n s n) (mx w n s (cn n s n)).toNat (g 27) v = OR w n s v := hext
      refine ⟨by rw [q2 4 (by decide)]; exact h4, by rw [q2 7 (by decide)]; exact h7, ?_, fun k hk9 => ?_, fun v hv => ?_⟩
      · rw [p2]
        exact xs_ext hext _ (Nat.le_refl _)
      · rw [q3 26 (by decide) (by omega)]
        exact (hk k hk9).1
      · have := p3 v hv
        rw [hext v hv] at this
        refine ⟨by rw [p1]; exact hext v hv, this.1, this.2.trans (xs_ext hext _ (by omega))⟩
    · have hfk := fs_ok (n := n) (s := s) (k := i) (by omega)
      have hcl := CL_r (n := n) (s := s) a4 (k := i) (by omega)
      have e8 : ((i : Int) + 1) = ((i + 1 : Nat) : Int) := by omega
      have hlev : v_X5_levelOf g (fs n s i : Int) = some (CL w n s i) := by
        unfold v_X5_levelOf
        rw [v_val_in (by decide) (by omega) (by omega), Option.bind_some, Int.toNat_natCast, a2 _ hfk.2.2]
        rfl
      rw [if_neg (by omega), v_first_in a1.1 (by omega) (by omega) (by omega), Option.bind_some, Int.toNat_natCast, (clu_k a1 (k := i) (by omega)).1, hlev, Option.bind_some, if_pos (by omega), if_pos (by omega), if_pos (by omega), h5, cb_id (x := mx w n s i) (by omega) (by omega), cb_id (x := CL w n s i) (by omega) (by omega), e8]
      have hmx2 : (if mx w n s i < CL w n s i then CL w n s i else mx w n s i) = mx w n s (i + 1) := rfl
      rw [hmx2]
      refine hp_imp (ih (i + 1) _ (sgt_keep hd (fun k hk hk2 => by rw [cb_u_other _ _ _ hk, cb_u_other _ _ _ (by omega), cb_u_other _ _ _ (by omega)])) (by simp [cb_u]; exact h4) (by simp [cb_u]; exact h7) (by omega) (by omega) (cb_u_same _ _ _ _) (fun k hk9 => ?_)) (fun r g2 ⟨q1, q2⟩ => ⟨q1, fun k hk hk2 => ?_⟩)
      · by_cases e : k = i
        · subst e
          simp [cb_u]
        · have h9 := hk k (by omega)
          simp [cb_u, e, h9.1, h9.2]
      · rw [q2 k hk hk2, cb_u_other _ _ _ hk, cb_u_other _ _ _ (by omega), cb_u_other _ _ _ (by omega)]
/-- all that layOut() leaves -/
def laid (g : cb_S) (w : Int) (n : Nat) (s : Nat → Int) : Prop := gth g w n s n ∧ rok g w n s ∧ sgh g w n s
def lay_w (k : Nat) : Prop := (2 ≤ k ∧ k ≤ 4) ∨ (9 ≤ k ∧ k ≤ 29)
theorem p_layOut {w : Int} {n : Nat} {s : Nat → Int} {g : cb_S} (h : ln_C g w n s) (hv : ∀ j, j < n → sg_k (s j) ≠ -1) : hp (f_X8_layOut g) (fun _ g2 => laid g2 w n s ∧ ∀ k, ¬ lay_w k → g2 k = g k) := by
  unfold f_X8_layOut
  refine hp_b (p_gather h) (fun _ g1 ⟨a1, a2⟩ => ?_)
  refine hp_b (p_rows a1.1 a1.2.1 hv) (fun _ g2 ⟨b1, b2⟩ => ?_)
  have hg2 : gth g2 w n s n := by
    obtain ⟨c1, c2, c3, c4⟩ := a1
    refine ⟨ln_C_keep c1 (b2 1 (by unfold rw_w; omega)) (b2 8 (by unfold rw_w; omega)), jns_keep c2 (b2 9 (by unfold rw_w; omega)), ?_, by rw [b2 2 (by unfold rw_w; omega)]; exact c4⟩
    unfold clu at c3 ⊢
    rw [b2 2 (by unfold rw_w; omega), b2 10 (by unfold rw_w; omega), b2 11 (by unfold rw_w; omega), b2 12 (by unfold rw_w; omega), b2 13 (by unfold rw_w; omega), b2 14 (by unfold rw_w; omega), b2 15 (by unfold rw_w; omega)]
    exact c3
  have hs : hp (f_X6_lay g2) (fun _ g3 => sgh g3 w n s ∧ ∀ k, k ≠ 4 → ¬ (26 ≤ k ∧ k ≤ 29) → g3 k = g2 k) := by
    unfold f_X6_lay v_X1_number v_X3_base
    have hsg : sgt g2 w n s := ⟨hg2.2.2.1, b1.2.2.1, h.2.2.1, h.2.2.2.2.2⟩
    have hcn := cn_le (n := n) (s := s) n
    have hn := h.2.2.1
    rw [Option.bind_some, Option.bind_some, hg2.2.2.1.1, cb_u_other _ _ _ (by decide), hg2.1.2.1]
    refine hp_imp (p_sight1 cb_N 0 _ (sgt_keep hsg (fun k hk _ => by rw [cb_u_other _ _ _ hk, cb_u_other _ _ _ hk, cb_u_other _ _ _ hk])) (by simp [cb_u]) (by simp [cb_u]) (Nat.zero_le _) (by unfold cb_N; omega) (cb_u_same _ _ _ _) (fun k hk => by omega)) (fun r g3 ⟨q1, q2⟩ => ⟨q1, fun k hk hk2 => ?_⟩)
    rw [q2 k hk hk2, cb_u_other _ _ _ hk, cb_u_other _ _ _ hk, cb_u_other _ _ _ hk]
  refine hp_b hs (fun _ g3 ⟨d1, d2⟩ => hp_some ⟨⟨?_, ?_, d1⟩, fun k hk => ?_⟩)
  · obtain ⟨c1, c2, c3, c4⟩ := hg2
    refine ⟨ln_C_keep c1 (d2 1 (by omega) (by omega)) (d2 8 (by omega) (by omega)), jns_keep c2 (d2 9 (by omega) (by omega)), ?_, by rw [d2 2 (by omega) (by omega)]; exact c4⟩
    unfold clu at c3 ⊢
    rw [d2 2 (by omega) (by omega), d2 10 (by omega) (by omega), d2 11 (by omega) (by omega), d2 12 (by omega) (by omega), d2 13 (by omega) (by omega), d2 14 (by omega) (by omega), d2 15 (by omega) (by omega)]
    exact c3
  · unfold rok at b1 ⊢
    rw [d2 3 (by omega) (by omega), d2 25 (by omega) (by omega), d2 18 (by omega) (by omega)]
    exact b1
  · unfold lay_w at hk
    rw [d2 k (by omega) (by omega), b2 k (by unfold rw_w; omega), a2 k (by unfold cl_w; omega) (by omega)]
