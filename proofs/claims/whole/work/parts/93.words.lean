/-! by words -/
def wl (b : Int) : Bool := decide (sg_k b = 0 ∨ sg_k b = 1 ∨ sg_k b = 2)
def iw (n : Nat) (s : Nat → Int) (x : Int) : Bool := decide (en n s x ≠ -1 ∧ bg n s x ≠ -1 ∧ wl (s (fs n s (en n s x).toNat)) = false ∧ wl (s (fs n s (bg n s x).toNat)) = true)
theorem c_iw {g : cb_S} {w : Int} {n : Nat} {s : Nat → Int} (hl : laid g w n s) {x : Int} (hx : cb_i x) : v_X8_beginsWord g x = some (bI (iw n s x)) := by
  have h := laid_vw hl
  obtain ⟨a1, a2, a3, a4, a5, a6, a7, hn, hw, hcl, a11⟩ := id h
  have hb := hl.1.1.2.2.2.2.1
  have r2 := bg_r n s hn x
  have r3 := en_r n s hn x
  unfold v_X8_beginsWord iw
  rw [c_en hcl hn hx, Option.bind_some, c_bg hcl hn hx, Option.bind_some, cb_id (x := en n s x) (by omega) (by omega), cb_id (x := bg n s x) (by omega) (by omega)]
  by_cases e1 : en n s x = -1
  · rw [if_pos e1, decide_eq_false (fun z => z.1 e1)]
    rfl
  · rw [if_neg e1]
    by_cases e2 : bg n s x = -1
    · rw [if_pos e2, decide_eq_false (fun z => z.2.1 e2)]
      rfl
    · obtain ⟨k, k1, k2, k3⟩ := en_ex e1
      obtain ⟨q, q1, q2, q3⟩ := bg_ex e2
      have f1 := fs_ok k1
      have f2 := fs_ok q1
      have b1 := hb _ f1.2.2
      have b2 := hb _ f2.2.2
      have A1 : v_X3_at g (fs n s k : Int) = some (s (fs n s k)) := by rw [c_at9 hl.1.1 ⟨by omega, by omega⟩, if_pos (by omega), Int.toNat_natCast]
      have A2 : v_X3_at g (fs n s q : Int) = some (s (fs n s q)) := by rw [c_at9 hl.1.1 ⟨by omega, by omega⟩, if_pos (by omega), Int.toNat_natCast]
      rw [if_neg e2, k3, q3, Int.toNat_natCast, Int.toNat_natCast, c_first h k1, Option.bind_some, A1, Option.bind_some, v_isOfWord ⟨by omega, by omega⟩, Option.bind_some, c_first h q1, Option.bind_some, A2, Option.bind_some, v_isOfWord ⟨by omega, by omega⟩, Option.bind_some]
      unfold wl
      by_cases z1 : sg_k (s (fs n s k)) = 0 ∨ sg_k (s (fs n s k)) = 1 ∨ sg_k (s (fs n s k)) = 2
      · rw [if_pos z1, if_neg (by decide), decide_eq_true z1, decide_eq_false (fun z => by cases z.2.2.1)]
        rfl
      · rw [if_neg z1, if_pos (by decide), decide_eq_false z1]
        by_cases z2 : sg_k (s (fs n s q)) = 0 ∨ sg_k (s (fs n s q)) = 1 ∨ sg_k (s (fs n s q)) = 2
        · rw [if_pos z2, if_neg (by decide), decide_eq_true z2, decide_eq_true ⟨by omega, by omega, rfl, rfl⟩]
          rfl
        · rw [if_neg z2, if_pos (by decide), decide_eq_false z2, decide_eq_false (fun z => by cases z.2.2.2)]
          rfl
theorem m_wl {b : Int} (h : cb_i b) (g : cb_S) (A B : Option Int) : ((v_X9_isLetter g b).bind (fun r3 => if cb_w r3 = 0 then ((v_X9_isDigit g b).bind (fun r4 => if cb_w r4 = 0 then A else B)) else B)) = if wl b = true then B else A := by
  rw [m_isLetter h, Option.bind_some, m_isDigit h, Option.bind_some]
  unfold wl
  by_cases z1 : sg_k b = 0 ∨ sg_k b = 1
  · rw [if_pos z1, if_neg (by decide), if_pos (decide_eq_true (by omega))]
  · rw [if_neg z1, if_pos (by decide)]
    by_cases z2 : sg_k b = 2
    · rw [if_pos z2, if_neg (by decide), if_pos (decide_eq_true (by omega))]
    · rw [if_neg z2, if_pos (by decide), if_neg (by rw [decide_eq_false (by omega)]; decide)]
theorem m_iw {g : cb_S} {w : Int} {n : Nat} {s : Nat → Int} (h : mvw g w n s) {x : Int} (hx : cb_i x) : v_X9_isWord g x = some (bI (iw n s x)) := by
  obtain ⟨m1, m2, m3, m4, m5, m6, m7⟩ := id h
  obtain ⟨e1, e2, hn, hs, hb, hw⟩ := id m7
  have hcn := cn_le (n := n) (s := s) n
  have r2 := bg_r n s hn x
  have r3 := en_r n s hn x
  unfold v_X9_isWord v_X9_isWord_b66 iw
  rw [m_en m1 hn hx, Option.bind_some, m_bg m1 hn hx, Option.bind_some, cb_id (x := en n s x) (by omega) (by omega), cb_id (x := bg n s x) (by omega) (by omega)]
  by_cases e1 : en n s x = -1
  · rw [if_pos e1, decide_eq_false (fun z => z.1 e1)]
    rfl
  · rw [if_neg e1]
    by_cases e2 : bg n s x = -1
    · rw [if_pos e2, decide_eq_false (fun z => z.2.1 e2)]
      rfl
    · obtain ⟨k, k1, k2, k3⟩ := en_ex e1
      obtain ⟨q, q1, q2, q3⟩ := bg_ex e2
      have f1 := fs_ok k1
      have f2 := fs_ok q1
      have b1 := hb _ f1.2.2
      have b2 := hb _ f2.2.2
      rw [if_neg e2, k3, q3, Int.toNat_natCast, Int.toNat_natCast, if_pos (by omega), (m1.2 k k1).1, (m1.2 q q1).1, cb_wn (n := fs n s k) (by omega), cb_wn (n := fs n s q) (by omega), if_pos (by omega), if_pos (by omega), if_pos (by omega), Int.toNat_natCast, Int.toNat_natCast, hs _ f1.2.2, hs _ f2.2.2, m_wl ⟨by omega, by omega⟩, m_wl ⟨by omega, by omega⟩]
      cases z2 : wl (s (fs n s q)) with
      | false =>
        rw [if_neg (show ¬ (false = true) by decide), decide_eq_false (fun z => by cases z.2.2.2)]
        rfl
      | true =>
        rw [if_pos (show true = true from rfl)]
        cases z1 : wl (s (fs n s k)) with
        | true =>
          rw [if_pos (show true = true from rfl), decide_eq_false (fun z => by cases z.2.2.1)]
          rfl
        | false =>
          rw [if_neg (show ¬ (false = true) by decide), decide_eq_true ⟨by omega, by omega, rfl, rfl⟩]
          rfl
theorem iw_B {n : Nat} {s : Nat → Int} {x : Int} (h : iw n s x = true) : isB n s x = true := by
  unfold iw at h
  have h := decide_eq_true_iff.mp h
  obtain ⟨q, q1, q2, q3⟩ := bg_ex h.2.1
  rw [q2]
  exact isB_fs q1
/-- on: (stand, side); back likewise -/
def won (n : Nat) (s : Nat → Int) : Nat → Nat → Nat × Int
  | 0, t => (t, 0)
  | m + 1, t => if iw n s (t : Int) = true then (t, 1) else won n s m (t + 1)
def wba (n : Nat) (s : Nat → Int) : Nat → Nat
  | 0 => 0
  | t + 1 => if iw n s ((t + 1 : Nat) : Int) = true then t + 1 else wba n s t
theorem won_cst {n : Nat} {s : Nat → Int} : ∀ (m t : Nat), t + m = n → cst n s (won n s m t).1 (won n s m t).2 := by
  intro m
  induction m with
  | zero =>
    intro t h
    rw [show t = n by omega]
    exact cst_B (isB_n n s) (Or.inl rfl)
  | succ m ih =>
    intro t h
    unfold won
    split
    · rename_i e
      exact cst_B (iw_B e) (Or.inr rfl)
    · exact ih (t + 1) (by omega)
theorem wba_cst {n : Nat} {s : Nat → Int} : ∀ t, cst n s (wba n s t) 1 := by
  intro t
  induction t with
  | zero => exact cst_B (isB_0 n s) (Or.inr rfl)
  | succ t ih =>
    unfold wba
    split
    · rename_i e
      exact cst_B (iw_B e) (Or.inr rfl)
    · exact ih
theorem c_plB {g : cb_S} {n : Nat} {s : Nat → Int} (h : clu g n s n) (hn : n ≤ 60) {q : Nat} {d : Int} (hB : isB n s (q : Int) = true) : f_X0_place g (q : Int) d = some (0, cb_u (cb_u g 5 2 (q : Int)) 5 3 d) := by
  have := isB_iff.mp hB
  rw [c_pl h hn ⟨by omega, by omega⟩, hh_B hB, if_pos rfl]
theorem c_won {g : cb_S} {w : Int} {n : Nat} {s : Nat → Int} (hl : laid g w n s) : ∀ (m m2 t : Nat), t + m2 = n → m2 < m → f_X8_goOnByWord_b31 m (n : Int) (t : Int) g = some (1, cb_u (cb_u g 5 2 ((won n s m2 t).1 : Int)) 5 3 (won n s m2 t).2) := by
  have h := laid_vw hl
  have hn := h.2.2.2.2.2.2.2.1
  have hcl := h.2.2.2.2.2.2.2.2.2.1
  intro m
  induction m with
  | zero => intro m2 t h1 h2; omega
  | succ m ih =>
    intro m2 t h1 h2
    rw [f_X8_goOnByWord_b31]
    dsimp only
    rw [cb_wn (n := n) (by omega), cb_wn (n := t) (by omega), c_iw hl ⟨by omega, by omega⟩, Option.bind_some]
    cases m2 with
    | zero =>
      rw [if_pos (by omega), c_plB hcl hn (isB_n n s), cb_b_some]
      unfold won
      rw [show t = n by omega]
    | succ m2 =>
      rw [if_neg (by omega)]
      unfold won
      cases e : iw n s (t : Int) with
      | true => rw [bI_t, if_neg (by decide), c_plB hcl hn (iw_B e), cb_b_some, if_pos rfl]
      | false => rw [bI_f, if_pos (by decide), if_neg (by decide), show (t : Int) + 1 = ((t + 1 : Nat) : Int) by omega, ih m2 (t + 1) (by omega) (by omega)]
theorem c_wba {g : cb_S} {w : Int} {n : Nat} {s : Nat → Int} (hl : laid g w n s) : ∀ (m t : Nat), t ≤ n → t < m → f_X8_goBackByWord_b22 m (t : Int) g = some (1, cb_u (cb_u g 5 2 (wba n s t : Int)) 5 3 1) := by
  have h := laid_vw hl
  have hn := h.2.2.2.2.2.2.2.1
  have hcl := h.2.2.2.2.2.2.2.2.2.1
  intro m
  induction m with
  | zero => intro t h1 h2; omega
  | succ m ih =>
    intro t h1 h2
    rw [f_X8_goBackByWord_b22]
    dsimp only
    unfold f_X8_goBackByWord_b40
    rw [cb_wn (n := t) (by omega), c_iw hl ⟨by omega, by omega⟩, Option.bind_some]
    cases t with
    | zero => rw [if_pos (by omega), c_plB hcl hn (isB_0 n s), cb_b_some]; rfl
    | succ t =>
      rw [if_neg (by omega)]
      unfold wba
      cases e : iw n s ((t + 1 : Nat) : Int) with
      | true => rw [bI_t, if_neg (by decide), c_plB hcl hn (iw_B e), cb_b_some, if_pos rfl]
      | false => rw [bI_f, if_pos (by decide), if_neg (by decide), show ((t + 1 : Nat) : Int) + (-1) = (t : Int) by omega, ih t (by omega) (by omega)]
theorem m_won {g : cb_S} {w : Int} {n : Nat} {s : Nat → Int} (h : mvw g w n s) : ∀ (m m2 t : Nat), t + m2 = n → m2 < m → 0 < t → f_X9_word_b51 m 1 (t : Int) g = some (1, cb_u (cb_u g 0 3 ((won n s m2 t).1 : Int)) 0 4 (won n s m2 t).2) := by
  have hn := h.2.2.2.2.2.2.2.2.1
  have e1 := h.2.2.2.2.2.2.1
  intro m
  induction m with
  | zero => intro m2 t h1 h2; omega
  | succ m ih =>
    intro m2 t h1 h2 h3
    rw [f_X9_word_b51]
    dsimp only
    unfold f_X9_word_b86 f_X9_word_b81 f_X9_word_b104 f_X9_word_b105 f_X9_goes
    rw [e1, cb_wn (n := n) (by omega), cb_wn (n := t) (by omega), m_iw h ⟨by omega, by omega⟩, Option.bind_some, if_neg (by omega)]
    cases m2 with
    | zero =>
      rw [if_pos (show (n : Int) ≤ (t : Int) by omega), if_pos (show (t : Int) = (n : Int) by omega), if_neg (show ¬ cb_w 1 = 0 by decide), cb_b_some]
      rfl
    | succ m2 =>
      rw [if_neg (show ¬ (n : Int) ≤ (t : Int) by omega), if_neg (show ¬ (t : Int) = (n : Int) by omega)]
      unfold won
      cases e : iw n s (t : Int) with
      | true => rw [bI_t, if_neg (show ¬ cb_w 1 = 0 by decide), cb_b_some, if_pos rfl]
      | false =>
        rw [bI_f, if_pos (show cb_w 0 = 0 by decide), if_neg (show ¬ cb_w 1 = 0 by decide), if_neg (by decide), show (t : Int) + 1 = ((t + 1 : Nat) : Int) by omega, ih m2 (t + 1) (by omega) (by omega) (by omega)]
theorem m_wba {g : cb_S} {w : Int} {n : Nat} {s : Nat → Int} (h : mvw g w n s) : ∀ (m t : Nat), t < n → t < m → f_X9_word_b51 m 0 (t : Int) g = some (1, cb_u (cb_u g 0 3 (wba n s t : Int)) 0 4 1) := by
  have hn := h.2.2.2.2.2.2.2.2.1
  have e1 := h.2.2.2.2.2.2.1
  intro m
  induction m with
  | zero => intro t h1 h2; omega
  | succ m ih =>
    intro t h1 h2
    rw [f_X9_word_b51]
    dsimp only
    unfold f_X9_word_b86 f_X9_word_b81 f_X9_word_b104 f_X9_word_b105 f_X9_goes
    rw [e1, cb_wn (n := n) (by omega), cb_wn (n := t) (by omega), m_iw h ⟨by omega, by omega⟩, Option.bind_some, if_neg (show ¬ (n : Int) ≤ (t : Int) by omega), if_neg (show ¬ (t : Int) = (n : Int) by omega), cb_b_some]
    cases t with
    | zero => rw [if_pos (by omega)]; rfl
    | succ t =>
      rw [if_neg (by omega)]
      unfold wba
      cases e : iw n s ((t + 1 : Nat) : Int) with
      | true => rw [bI_t, if_neg (by decide), if_pos rfl]
      | false => rw [bI_f, if_pos (show cb_w 0 = 0 by decide), if_pos (show cb_w 0 = 0 by decide), if_neg (by decide), show ((t + 1 : Nat) : Int) + (-1) = (t : Int) by omega, ih t (by omega) (by omega)]
theorem o12 : lw_o12 Rel := by
  intro gC gM hR x hx
  obtain ⟨w, n, s, p, d, h⟩ := hR
  obtain ⟨r0, g1, l1, l2, l3⟩ := rL_looks h
  obtain ⟨a1, a2, a3, a4, a5, a6, a7, a8, a9, a10⟩ := id l3
  have hn := a6.2.2.1
  have hp := isS_le a5.1
  have cb : f_X8_goBackByWord gC = if p = 0 then some (0, gC) else some (1, cb_u (cb_u gC 5 2 (wba n s (p - 1) : Int)) 5 3 1) := by
    unfold f_X8_goBackByWord v_X0_stand
    rw [Option.bind_some, Option.bind_some, a3, cb_wn (n := p) (by omega)]
    by_cases e : p = 0
    · rw [if_pos (by omega), if_pos e]
    · rw [if_neg (by omega), if_neg e, show (p : Int) - 1 = ((p - 1 : Nat) : Int) by omega, c_wba a1 cb_N (p - 1) (by omega) (by unfold cb_N; omega)]
  have co : f_X8_goOnByWord gC = if p = n then some (0, gC) else some (1, cb_u (cb_u gC 5 2 ((won n s (n - (p + 1)) (p + 1)).1 : Int)) 5 3 (won n s (n - (p + 1)) (p + 1)).2) := by
    unfold f_X8_goOnByWord v_X0_stand v_X3_length
    rw [Option.bind_some, Option.bind_some, Option.bind_some, a3, a1.1.1.1, cb_wn (n := p) (by omega), cb_wn (n := n) (by omega)]
    by_cases e : p = n
    · rw [if_pos (by omega), if_pos e]
    · rw [if_neg (by omega), if_neg e, show (p : Int) + 1 = ((p + 1 : Nat) : Int) by omega, c_won a1 cb_N (n - (p + 1)) (p + 1) (by omega) (by unfold cb_N; omega)]
  unfold f_X8_word f_X9_word f_X9_word_b31 f_X9_word_b50
  rw [l1, cb_b_some, a7, a6.1, cb_wn (n := p) (by omega), cb_wn (n := n) (by omega), cb, co]
  rcases hx with rfl | rfl
  · rw [if_pos (show cb_w 0 = 0 by decide), if_pos (show cb_w 0 = 0 by decide), if_pos (show cb_w 0 = 0 by decide)]
    by_cases e : p = 0
    · rw [if_pos e, if_pos (show (p : Int) = 0 by omega), cb_b_some, if_pos (Or.inl rfl)]
      exact ⟨0, gC, 0, g1, rfl, rfl, rfl, ⟨w, n, s, p, d, l3⟩⟩
    · rw [if_neg e, if_neg (show ¬ (p : Int) = 0 by omega), show (p : Int) - 1 = ((p - 1 : Nat) : Int) by omega, m_wba l2 cb_N (p - 1) (by omega) (by unfold cb_N; omega), cb_b_some, if_pos (Or.inr rfl)]
      exact ⟨1, _, 1, _, rfl, rfl, rfl, ⟨w, n, s, _, _, rL_move l3 (wba_cst (p - 1))⟩⟩
  · rw [if_neg (show ¬ cb_w 1 = 0 by decide), if_neg (show ¬ cb_w 1 = 0 by decide), if_neg (show ¬ cb_w 1 = 0 by decide)]
    by_cases e : p = n
    · rw [if_pos e, if_pos (show (p : Int) = (n : Int) by omega), cb_b_some, if_pos (Or.inl rfl)]
      exact ⟨0, gC, 0, g1, rfl, rfl, rfl, ⟨w, n, s, p, d, l3⟩⟩
    · rw [if_neg e, if_neg (show ¬ (p : Int) = (n : Int) by omega), show (p : Int) + 1 = ((p + 1 : Nat) : Int) by omega, m_won l2 cb_N (n - (p + 1)) (p + 1) (by omega) (by unfold cb_N; omega) (by omega), cb_b_some, if_pos (Or.inr rfl)]
      exact ⟨1, _, 1, _, rfl, rfl, rfl, ⟨w, n, s, _, _, rL_move l3 (won_cst _ _ (by omega))⟩⟩
