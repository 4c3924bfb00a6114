/-! counted -/
def csn (n : Nat) (s : Nat → Int) : Nat → Nat
  | 0 => 0
  | i + 1 => csn n s i + (if isS n s (i : Int) = true then 1 else 0)
theorem isS_bd {n : Nat} {s : Nat → Int} {i : Nat} (hi : i ≤ n) : isS n s (i : Int) = (bd n s i || (decide (2 ≤ i) && bd n s (i - 2) && jn n s (i - 1))) := by
  have hB : isB n s (i : Int) = bd n s i := by
    unfold isB
    rw [Int.toNat_natCast]
    cases bd n s i with
    | true => exact decide_eq_true ⟨by omega, by omega, rfl⟩
    | false => exact decide_eq_false (fun z => by cases z.2.2)
  unfold isS
  rw [hB]
  have hH : decide (hh n s (i : Int) ≠ -1) = (decide (2 ≤ i) && bd n s (i - 2) && jn n s (i - 1)) := by
    unfold hh
    rw [Int.toNat_natCast]
    by_cases c : 2 ≤ (i : Int) ∧ (i : Int) < (n : Int) ∧ bd n s (i - 2) = true ∧ jn n s (i - 1) = true
    · rw [if_pos c, decide_eq_true (by omega), c.2.2.1, c.2.2.2, decide_eq_true (by omega)]
      rfl
    · rw [if_neg c, decide_eq_false (fun z => z rfl)]
      cases e2 : jn n s (i - 1) with
      | false => rw [Bool.and_false]
      | true =>
        have hlt := ((jn_iff n s (i - 1)).mp e2).2.2.1
        cases e1 : bd n s (i - 2) with
        | false => rw [Bool.and_false, Bool.false_and]
        | true =>
          rw [decide_eq_false (fun z => c ⟨by omega, by omega, e1, e2⟩)]
          rfl
  rw [hH]
theorem csn_eq {n : Nat} {s : Nat → Int} : ∀ i, i ≤ n + 1 → csn n s i = cn n s i + jc n s (i - 2) := by
  intro i
  induction i with
  | zero => intro _; rfl
  | succ i ih =>
    intro hi
    have h1 := ih (by omega)
    have e1 : csn n s (i + 1) = csn n s i + (if isS n s (i : Int) = true then 1 else 0) := rfl
    have e2 : cn n s (i + 1) = cn n s i + (if bd n s i then 1 else 0) := rfl
    rw [e1, h1, e2, isS_bd (by omega)]
    by_cases h2 : 2 ≤ i
    · have e3 : jc n s (i + 1 - 2) = jc n s (i - 2) + (if bd n s (i - 2) && jn n s (i - 1) then 1 else 0) := by
        rw [show i + 1 - 2 = (i - 2) + 1 by omega]
        show jc n s (i - 2) + (if bd n s (i - 2) && jn n s (i - 2 + 1) then 1 else 0) = _
        rw [show i - 2 + 1 = i - 1 by omega]
      rw [e3, decide_eq_true h2, Bool.true_and]
      cases hb : bd n s i with
      | false =>
        cases (bd n s (i - 2) && jn n s (i - 1)) <;> simp <;> omega
      | true =>
        have hno : (bd n s (i - 2) && jn n s (i - 1)) = false := by
          cases e : (bd n s (i - 2) && jn n s (i - 1)) with
          | false => rfl
          | true =>
            have hj := (Bool.and_eq_true_iff.mp e).2
            rw [show i - 1 = (i - 2) + 1 by omega] at hj
            have := (bd_hh hj).1
            rw [show i - 2 + 2 = i by omega, hb] at this
            cases this
        rw [hno]
        simp
        omega
    · rw [decide_eq_false h2, show i + 1 - 2 = 0 by omega, show i - 2 = 0 by omega]
      cases bd n s i <;> simp
      omega
theorem csn_all {n : Nat} {s : Nat → Int} : csn n s (n + 1) = cn n s n + 1 + jc n s n := by
  rw [csn_eq (n + 1) (Nat.le_refl _)]
  have e2 : cn n s (n + 1) = cn n s n + (if bd n s n then 1 else 0) := rfl
  rw [e2, bd_n, if_pos rfl]
  cases n with
  | zero => rfl
  | succ n =>
    have e3 : jc (n + 1) s (n + 1) = jc (n + 1) s n + (if bd (n + 1) s n && jn (n + 1) s (n + 1) then 1 else 0) := rfl
    rw [e3, jn_far (by omega), Bool.and_false, show n + 1 + 1 - 2 = n by omega]
    simp
theorem m_cs1 {g : cb_S} {n : Nat} {s : Nat → Int} (h : mcs g n s) (h1 : g 0 1 = (n : Int)) (hn : n ≤ 60) : ∀ (m i : Nat), i ≤ n + 1 → n + 1 < i + m → f_X9_count_b56 m (csn n s i : Int) (i : Int) g = some ((csn n s (n + 1) : Int), g) := by
  intro m
  induction m with
  | zero => intro i h2 h3; omega
  | succ m ih =>
    intro i h2 h3
    rw [f_X9_count_b56]
    dsimp only
    unfold f_X9_count_b75
    rw [h1, cb_wn (n := n) (by omega), cb_wn (n := i) (by omega)]
    by_cases e : n < i
    · rw [if_pos (by omega), show i = n + 1 by omega]
    · have e1 : csn n s (i + 1) = csn n s i + (if isS n s (i : Int) = true then 1 else 0) := rfl
      have go := ih (i + 1) (by omega) (by omega)
      rw [if_neg (by omega), m_isS h h1 hn ⟨by omega, by omega⟩, Option.bind_some, show (i : Int) + 1 = ((i + 1 : Nat) : Int) by omega]
      cases hS : isS n s (i : Int) with
      | true =>
        rw [hS, if_pos rfl] at e1
        rw [bI_t, if_neg (by decide), show (csn n s i : Int) + 1 = (csn n s (i + 1) : Int) by omega]
        exact go
      | false =>
        rw [hS, if_neg (by decide)] at e1
        rw [bI_f, if_pos (by decide), show (csn n s i : Int) = (csn n s (i + 1) : Int) by omega]
        exact go
/-- rows with signs -/
def hs1 (w : Int) (s : Nat → Int) (n r : Nat) : Bool := decide (lat w s n r ≠ -1)
def rcn (w : Int) (s : Nat → Int) (n : Nat) : Nat → Nat
  | 0 => 0
  | r + 1 => rcn w s n r + (if hs1 w s n r = true then 1 else 0)
theorem rcn_le {w : Int} {s : Nat → Int} {n : Nat} (r : Nat) : rcn w s n r ≤ r := by
  induction r with
  | zero => exact Nat.le_refl _
  | succ r ih => unfold rcn; split <;> omega
theorem c_rows1 {g : cb_S} {w : Int} {n : Nat} {s : Nat → Int} (h : rok g w n s) (hn : n ≤ 60) : ∀ (m r : Nat), r ≤ (rst w s n).2.1 → (rst w s n).2.1 < r + m → v_X5_numberWithSigns_b4 m (rcn w s n r : Int) (r : Int) g = some (rcn w s n (rst w s n).2.1 : Int) := by
  have hrn := rst_num (w := w) (s := s) n
  intro m
  induction m with
  | zero => intro r h2 h3; omega
  | succ m ih =>
    intro r h2 h3
    rw [v_X5_numberWithSigns_b4]
    dsimp only
    unfold v_X5_numberWithSigns_b25
    rw [h.2.2.2.1, cb_wn (n := (rst w s n).2.1) (by omega), cb_wn (n := r) (by omega)]
    by_cases e : (rst w s n).2.1 ≤ r
    · rw [if_pos (by omega), show r = (rst w s n).2.1 by omega]
    · have hl := lat_rng w s n r
      have e1 : rcn w s n (r + 1) = rcn w s n r + (if hs1 w s n r = true then 1 else 0) := rfl
      have go := ih (r + 1) (by omega) (by omega)
      rw [if_neg (by omega), if_pos (by omega), Int.toNat_natCast, h.2.2.2.2 r (by omega), cb_id (x := lat w s n r) (by omega) (by omega), show (r : Int) + 1 = ((r + 1 : Nat) : Int) by omega]
      by_cases z : lat w s n r = -1
      · rw [show hs1 w s n r = false from decide_eq_false (fun y => y z), if_neg (by decide)] at e1
        rw [if_pos z, show (rcn w s n r : Int) = (rcn w s n (r + 1) : Int) by omega]
        exact go
      · rw [show hs1 w s n r = true from decide_eq_true z, if_pos rfl] at e1
        rw [if_neg z, show (rcn w s n r : Int) + 1 = (rcn w s n (r + 1) : Int) by omega]
        exact go
theorem m_rowhas {g : cb_S} {w : Int} {n : Nat} {s : Nat → Int} (h6 : ∀ j, j < n → g 6 j = (ro w s j : Int)) (h1 : g 0 1 = (n : Int)) (hn : n ≤ 60) (hw : w = 0 ∨ w = 1) {kk : Int → Int → cb_S → Option (Int × cb_S)} {x2 : Int} {r : Nat} (hr : r ≤ 61) : ∀ (m i : Nat), i ≤ n → n < i + m → f_X9_count_b104 kk m x2 (r : Int) (bI (hs1 w s i r)) (i : Int) g = (if hs1 w s n r = true then kk (x2 + 1) ((r : Int) + 1) g else kk x2 ((r : Int) + 1) g) := by
  intro m
  induction m with
  | zero => intro i h2 h3; omega
  | succ m ih =>
    intro i h2 h3
    rw [f_X9_count_b104]
    dsimp only
    unfold f_X9_count_b150 f_X9_count_b129 f_X9_count_b134
    rw [h1, cb_wn (n := n) (by omega), cb_wn (n := i) (by omega), cb_wn (n := r) (by omega)]
    by_cases e : n ≤ i
    · rw [if_pos (by omega), show i = n by omega]
      cases hs1 w s n r with
      | true => rw [bI_t, if_neg (by decide), if_pos rfl]
      | false => rw [bI_f, if_pos (by decide), if_neg (by decide)]
    · have go := ih (i + 1) (by omega) (by omega)
      have hro := ro_n (w := w) hw (s := s) (i := i) (n := n) (by omega)
      have hrn := rst_num (w := w) (s := s) n
      have hl : lat w s (i + 1) r = if ro w s i = r then (i : Int) else lat w s i r := rfl
      rw [if_neg (show ¬ (n : Int) ≤ (i : Int) by omega), if_pos (show 0 ≤ (i : Int) ∧ (i : Int) < ((64 : Nat) : Int) by omega), Int.toNat_natCast, h6 i (by omega), cb_wn (n := ro w s i) (by omega), show (i : Int) + 1 = ((i + 1 : Nat) : Int) by omega]
      by_cases z : ro w s i = r
      · rw [if_pos z] at hl
        have hh1 : hs1 w s (i + 1) r = true := decide_eq_true (by rw [hl]; omega)
        rw [hh1, bI_t] at go
        rw [if_pos (show (ro w s i : Int) = (r : Int) by omega)]
        cases hs1 w s i r with
        | true => rw [bI_t, if_neg (by decide)]; exact go
        | false => rw [bI_f, if_pos (by decide)]; exact go
      · rw [if_neg z] at hl
        have hh1 : hs1 w s (i + 1) r = hs1 w s i r := by unfold hs1; rw [hl]
        rw [hh1] at go
        rw [if_neg (show ¬ (ro w s i : Int) = (r : Int) by omega)]
        cases hq : hs1 w s i r with
        | true =>
          rw [hq] at go
          rw [bI_t, if_neg (by decide)]
          exact go
        | false =>
          rw [hq] at go
          rw [bI_f, if_pos (by decide)]
          exact go
theorem m_rows1 {g : cb_S} {w : Int} {n : Nat} {s : Nat → Int} (h : mvw g w n s) : ∀ (m r : Nat), r ≤ (rst w s n).2.1 → (rst w s n).2.1 < r + m → f_X9_count_b90 m (rcn w s n r : Int) (r : Int) g = some ((rcn w s n (rst w s n).2.1 : Int), g) := by
  obtain ⟨m1, m2, m3, m4, m5, m6, m7⟩ := id h
  have hn := m7.2.2.1
  have hw := m7.2.2.2.2.2
  have hrn := rst_num (w := w) (s := s) n
  intro m
  induction m with
  | zero => intro r h2 h3; omega
  | succ m ih =>
    intro r h2 h3
    rw [f_X9_count_b90]
    dsimp only
    rw [m5, cb_wn (n := (rst w s n).2.1) (by omega), cb_wn (n := r) (by omega)]
    by_cases e : (rst w s n).2.1 ≤ r
    · rw [if_pos (by omega), show r = (rst w s n).2.1 by omega]
    · have e1 : rcn w s n (r + 1) = rcn w s n r + (if hs1 w s n r = true then 1 else 0) := rfl
      have go := ih (r + 1) (by omega) (by omega)
      have hh9 := m_rowhas (kk := f_X9_count_b90 m) (x2 := (rcn w s n r : Int)) (r := r) m6 m7.1 hn hw (by omega) cb_N 0 (Nat.zero_le _) (by unfold cb_N; omega)
      have hh8 : f_X9_count_b104 (f_X9_count_b90 m) cb_N (rcn w s n r : Int) (r : Int) 0 0 g = (if hs1 w s n r = true then f_X9_count_b90 m ((rcn w s n r : Int) + 1) ((r : Int) + 1) g else f_X9_count_b90 m (rcn w s n r : Int) ((r : Int) + 1) g) := hh9
      rw [if_neg (by omega), hh8, show (r : Int) + 1 = ((r + 1 : Nat) : Int) by omega]
      cases hq : hs1 w s n r with
      | true =>
        rw [hq, if_pos rfl] at e1
        rw [if_pos rfl, show (rcn w s n r : Int) + 1 = (rcn w s n (r + 1) : Int) by omega]
        exact go
      | false =>
        rw [hq, if_neg (by decide)] at e1
        rw [if_neg (by decide), show (rcn w s n r : Int) = (rcn w s n (r + 1) : Int) by omega]
        exact go
/-- the greatest level -/
def hxl (w : Int) (n : Nat) (s : Nat → Int) (b : Int) : Nat → Int
  | 0 => b
  | i + 1 => if hxl w n s b i < LV w n s i then LV w n s i else hxl w n s b i
theorem hxl_r {w : Int} {n : Nat} {s : Nat → Int} (hw : w = 0 ∨ w = 1) {b : Int} (hb : 0 ≤ b ∧ b ≤ 1) : ∀ i, 0 ≤ hxl w n s b i ∧ hxl w n s b i ≤ 2 * i + 3 := by
  intro i
  induction i with
  | zero => exact ⟨hb.1, by show b ≤ _; omega⟩
  | succ i ih =>
    have := LV_r (n := n) (s := s) hw i
    unfold hxl
    split <;> omega
theorem c_hi1 {g : cb_S} {w : Int} {n : Nat} {s : Nat → Int} (h : rok g w n s) (hn : n ≤ 60) (hw : w = 0 ∨ w = 1) {b : Int} (hb : 0 ≤ b ∧ b ≤ 1) : ∀ (m i : Nat), i ≤ n → n < i + m → v_X5_highest_b18 m (hxl w n s b i) (i : Int) g = some (hxl w n s b n) := by
  intro m
  induction m with
  | zero => intro r h2 h3; omega
  | succ m ih =>
    intro i h2 h3
    rw [v_X5_highest_b18]
    dsimp only
    rw [h.1, cb_wn (n := n) (by omega), cb_wn (n := i) (by omega)]
    by_cases e : n ≤ i
    · rw [if_pos (by omega), show i = n by omega]
    · have hr := hxl_r (n := n) (s := s) hw hb i
      have hl := LV_r (n := n) (s := s) hw i
      have go := ih (i + 1) (by omega) (by omega)
      have e1 : hxl w n s b (i + 1) = if hxl w n s b i < LV w n s i then LV w n s i else hxl w n s b i := rfl
      rw [if_neg (by omega), if_pos (by omega), Int.toNat_natCast, h.2.2.1 i (by omega), cb_id (x := LV w n s i) (by omega) (by omega), cb_id (x := hxl w n s b i) (by omega) (by omega), ← e1, show (i : Int) + 1 = ((i + 1 : Nat) : Int) by omega]
      exact go
theorem m_hi1 {g : cb_S} {w : Int} {n : Nat} {s : Nat → Int} (h : mvw g w n s) {b : Int} (hb : 0 ≤ b ∧ b ≤ 1) : ∀ (m i : Nat), i ≤ n → n < i + m → f_X9_count_b176 m (hxl w n s b i) (i : Int) g = some (hxl w n s b n, g) := by
  obtain ⟨m1, m2, m3, m4, m5, m6, m7⟩ := id h
  have hn := m7.2.2.1
  have hw := m7.2.2.2.2.2
  intro m
  induction m with
  | zero => intro r h2 h3; omega
  | succ m ih =>
    intro i h2 h3
    rw [f_X9_count_b176]
    dsimp only
    unfold f_X9_count_b201
    rw [m7.1, cb_wn (n := n) (by omega), cb_wn (n := i) (by omega)]
    by_cases e : n ≤ i
    · rw [if_pos (by omega), show i = n by omega]
    · have hr := hxl_r (n := n) (s := s) hw hb i
      have hl := LV_r (n := n) (s := s) hw i
      have go := ih (i + 1) (by omega) (by omega)
      have e1 : hxl w n s b (i + 1) = if hxl w n s b i < LV w n s i then LV w n s i else hxl w n s b i := rfl
      rw [if_neg (by omega), if_pos (show 0 ≤ (i : Int) ∧ (i : Int) < ((64 : Nat) : Int) by omega), if_pos (show 0 ≤ (i : Int) ∧ (i : Int) < ((64 : Nat) : Int) by omega), Int.toNat_natCast, m4 i (by omega), cb_id (x := LV w n s i) (by omega) (by omega), cb_id (x := hxl w n s b i) (by omega) (by omega), show (i : Int) + 1 = ((i + 1 : Nat) : Int) by omega]
      by_cases z : hxl w n s b i < LV w n s i
      · rw [if_pos z] at e1
        rw [if_neg (by omega), ← e1]
        exact go
      · rw [if_neg z] at e1
        rw [if_pos (by omega), ← e1]
        exact go
theorem o3 : lw_o3 Rel := by
  intro gC gM hR x hx
  obtain ⟨w, n, s, p, d, h⟩ := hR
  obtain ⟨r0, g1, l1, l2, l3⟩ := rL_looks h
  obtain ⟨a1, a2, a3, a4, a5, a6, a7, a8, a9, a10⟩ := id l3
  have cv := laid_vw a1
  obtain ⟨c1, c2, c3, c4, c5, c6, c7, hn, hw, hcl, c11⟩ := id cv
  obtain ⟨m1, m2, m3, m4, m5, m6, m7⟩ := id l2
  have hcn := cn_le (n := n) (s := s) n
  have hrn := rst_num (w := w) (s := s) n
  have key : ∀ v : Int, v_X8_count gC x = some v → f_X9_count gM x = some (v, g1) → ∃ r r2 gM2, v_X8_count gC x = some r ∧ f_X9_count gM x = some (r2, gM2) ∧ cb_w r = cb_w r2 ∧ Rel gC gM2 := fun v a b => ⟨v, v, g1, a, b, rfl, ⟨w, n, s, p, d, l3⟩⟩
  have hb0 : (0 : Int) ≤ (if n = 0 then w else 0) ∧ (if n = 0 then w else 0) ≤ (1 : Int) := by split <;> omega
  have cr : v_X5_numberWithSigns gC = some (rcn w s n (rst w s n).2.1 : Int) := c_rows1 a1.2.1 hn cb_N 0 (Nat.zero_le _) (by unfold cb_N; omega)
  have mr : f_X9_count_b90 cb_N 0 0 g1 = some ((rcn w s n (rst w s n).2.1 : Int), g1) := m_rows1 l2 cb_N 0 (Nat.zero_le _) (by unfold cb_N; omega)
  have ms : f_X9_count_b56 cb_N 0 0 g1 = some ((csn n s (n + 1) : Int), g1) := m_cs1 m1 a6.1 hn cb_N 0 (Nat.zero_le _) (by unfold cb_N; omega)
  have ch : v_X5_highest gC = some (hxl w n s (if n = 0 then w else 0) n) := by
    have := c_hi1 a1.2.1 hn hw hb0 cb_N 0 (Nat.zero_le _) (by unfold cb_N; omega)
    unfold v_X5_highest v_X5_highest_b15
    rw [a1.2.1.1, a1.2.1.2.1, cb_wn (n := n) (by omega)]
    by_cases e : n = 0
    · rw [if_pos e] at this ⊢
      rw [if_pos (by omega)]
      exact this
    · rw [if_neg e] at this ⊢
      rw [if_neg (by omega)]
      exact this
  have mh : (if cb_w (g1 0 1) = 0 then (f_X9_count_b173 (g1 0 0) g1) else (f_X9_count_b173 0 g1)) = some (hxl w n s (if n = 0 then w else 0) n, g1) := by
    have := m_hi1 l2 hb0 cb_N 0 (Nat.zero_le _) (by unfold cb_N; omega)
    unfold f_X9_count_b173
    rw [a6.1, a6.2.1, cb_wn (n := n) (by omega)]
    by_cases e : n = 0
    · rw [if_pos e] at this ⊢
      rw [if_pos (by omega)]
      exact this
    · rw [if_neg e] at this ⊢
      rw [if_neg (by omega)]
      exact this
  have hC : v_X8_count gC x = some (if x = 0 then (n : Int) else if x = 1 then (cn n s n : Int) else if x = 2 then (csn n s (n + 1) : Int) else if x = 3 then TW w n s else if x = 4 then (rcn w s n (rst w s n).2.1 : Int) else if x = 5 then hxl w n s (if n = 0 then w else 0) n else -1) := by
    unfold v_X8_count v_X3_length v_X1_number v_X1_standNumber v_X6_width
    rw [cr, ch, cb_id hx.1 hx.2, a1.1.1.1, c1, c6, c3, show (cn n s n : Int) + 1 + (jc n s n : Int) = (csn n s (n + 1) : Int) by rw [csn_all]; omega]
    by_cases y0 : x = 0
    · rw [if_pos y0, if_pos y0]; rfl
    by_cases y1 : x = 1
    · rw [if_neg y0, if_neg y0, if_pos y1, if_pos y1]; rfl
    by_cases y2 : x = 2
    · rw [if_neg y0, if_neg y0, if_neg y1, if_neg y1, if_pos y2, if_pos y2]; rfl
    by_cases y3 : x = 3
    · rw [if_neg y0, if_neg y0, if_neg y1, if_neg y1, if_neg y2, if_neg y2, if_pos y3, if_pos y3]; rfl
    by_cases y4 : x = 4
    · rw [if_neg y0, if_neg y0, if_neg y1, if_neg y1, if_neg y2, if_neg y2, if_neg y3, if_neg y3, if_pos y4, if_pos y4]; rfl
    by_cases y5 : x = 5
    · rw [if_neg y0, if_neg y0, if_neg y1, if_neg y1, if_neg y2, if_neg y2, if_neg y3, if_neg y3, if_neg y4, if_neg y4, if_pos y5, if_pos y5]; rfl
    rw [if_neg y0, if_neg y0, if_neg y1, if_neg y1, if_neg y2, if_neg y2, if_neg y3, if_neg y3, if_neg y4, if_neg y4, if_neg y5, if_neg y5]
  refine key _ hC ?_
  unfold f_X9_count
  rw [l1, cb_b_some, mh, mr, ms, cb_id hx.1 hx.2, a6.1, m1.1, m2]
  by_cases y0 : x = 0
  · rw [if_pos y0, if_pos y0]
  by_cases y1 : x = 1
  · rw [if_neg y0, if_neg y0, if_pos y1, if_pos y1]
  by_cases y2 : x = 2
  · rw [if_neg y0, if_neg y0, if_neg y1, if_neg y1, if_pos y2, if_pos y2]
  by_cases y3 : x = 3
  · rw [if_neg y0, if_neg y0, if_neg y1, if_neg y1, if_neg y2, if_neg y2, if_pos y3, if_pos y3]
  by_cases y4 : x = 4
  · rw [if_neg y0, if_neg y0, if_neg y1, if_neg y1, if_neg y2, if_neg y2, if_neg y3, if_neg y3, if_pos y4, if_pos y4]
  by_cases y5 : x = 5
  · rw [if_neg y0, if_neg y0, if_neg y1, if_neg y1, if_neg y2, if_neg y2, if_neg y3, if_neg y3, if_neg y4, if_neg y4, if_pos y5, if_pos y5]
  rw [if_neg y0, if_neg y0, if_neg y1, if_neg y1, if_neg y2, if_neg y2, if_neg y3, if_neg y3, if_neg y4, if_neg y4, if_neg y5, if_neg y5]
