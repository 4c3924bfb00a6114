/-! rows: the open ones (the inmost first), how many were made, their bases; behind the first i signs -/
def bw (b p : Int) : Int := if (b + 1) % 2 = p then b + 1 else b + 2
def pop : List Nat → List Nat
  | a :: b :: l => b :: l
  | l => l
def rst (w : Int) (s : Nat → Int) : Nat → List Nat × Nat × (Nat → Int)
  | 0 => ([0], 1, fun _ => w)
  | i + 1 =>
    let q := rst w s i
    let st := if s i = 93 then pop q.1 else q.1
    if s i = 91 ∨ s i = 123 then (q.2.1 :: st, q.2.1 + 1, fun r => if r = q.2.1 then bw (q.2.2 (st.headD 0)) (if s i = 91 then 0 else 1) else q.2.2 r) else (st, q.2.1, q.2.2)
/-- the row of sign i -/
def ro (w : Int) (s : Nat → Int) (i : Nat) : Nat := (if s i = 93 then pop (rst w s i).1 else (rst w s i).1).headD 0
/-- the base of sign i's row -/
def rba (w : Int) (s : Nat → Int) (i : Nat) : Int := (rst w s i).2.2 (ro w s i)
/-- the last sign of row r among the first i, or -1 -/
def lat (w : Int) (s : Nat → Int) : Nat → Nat → Int
  | 0, _ => -1
  | i + 1, r => if ro w s i = r then (i : Int) else lat w s i r
/-- the sign behind j in its row among the first i, or -1 -/
def bh (w : Int) (s : Nat → Int) : Nat → Nat → Int
  | 0, _ => -1
  | i + 1, j => if lat w s i (ro w s i) = (j : Int) then (i : Int) else bh w s i j
theorem lat_rng (w : Int) (s : Nat → Int) (i r : Nat) : -1 ≤ lat w s i r ∧ lat w s i r < (i : Int) := by
  induction i with
  | zero => simp [lat]
  | succ i ih =>
    unfold lat
    split <;> omega
theorem bh_out (w : Int) (s : Nat → Int) (i j : Nat) (h : i ≤ j) : bh w s i j = -1 := by
  induction i with
  | zero => rfl
  | succ i ih =>
    have := lat_rng w s i (ro w s i)
    unfold bh
    rw [if_neg (by omega)]
    exact ih (by omega)
/-- a list of rows, each within the next, the last one 0; all below k -/
def chn (o : Nat → Int) (k : Nat) : List Nat → Prop
  | [] => False
  | [a] => a = 0 ∧ o 0 = 0 ∧ 0 < k
  | a :: b :: l => o a = (b : Int) ∧ a < k ∧ chn o k (b :: l)
theorem chn_hd {o : Nat → Int} {k : Nat} {l : List Nat} (h : chn o k l) : l.headD 0 < k := by
  match l, h with
  | [a], h => rw [show a = 0 from h.1]; exact h.2.2
  | a :: b :: l, h => exact h.2.1
theorem chn_pop {o : Nat → Int} {k : Nat} {l : List Nat} (h : chn o k l) : chn o k (pop l) ∧ o (l.headD 0) = ((pop l).headD 0 : Int) := by
  match l, h with
  | [a], h =>
    refine ⟨h, ?_⟩
    obtain ⟨rfl, h2, -⟩ := h
    exact h2
  | a :: b :: l, h => exact ⟨h.2.2, h.1⟩
theorem chn_more {o o' : Nat → Int} {k k' : Nat} (hk : k ≤ k') (ho : ∀ r, r < k → o' r = o r) : ∀ l : List Nat, chn o k l → chn o' k' l
  | [], h => h
  | [a], h => ⟨h.1, by rw [ho 0 h.2.2]; exact h.2.1, by have := h.2.2; omega⟩
  | a :: b :: l, h => ⟨by rw [ho a h.2.1]; exact h.1, by have := h.2.1; omega, chn_more hk ho (b :: l) h.2.2⟩
theorem chn_push {o : Nat → Int} {k k' r : Nat} {l : List Nat} (h : chn o k l) (hr : o r = (l.headD 0 : Int)) (hk : r < k') (hkk : k ≤ k') : chn o k' (r :: l) := by
  match l, h with
  | [a], h => exact ⟨hr, hk, h.1, h.2.1, by have := h.2.2; omega⟩
  | a :: b :: l, h => exact ⟨hr, hk, chn_more hkk (fun _ _ => rfl) _ h⟩
/-- the class's row cells behind i signs; row: where it stands -/
def rws (g : cb_S) (w : Int) (s : Nat → Int) (i row : Nat) : Prop := (rst w s i).1.headD 0 = row ∧ g 3 11 = ((rst w s i).2.1 : Int) ∧ (rst w s i).2.1 ≤ i + 1 ∧ chn (g 17) (rst w s i).2.1 (rst w s i).1 ∧
  (∀ r, r < (rst w s i).2.1 → g 16 r = (rst w s i).2.2 r ∧ g 18 r = lat w s i r) ∧ (∀ r, (rst w s i).2.1 ≤ r → lat w s i r = -1) ∧ (∀ r, r < (rst w s i).2.1 → 0 ≤ (rst w s i).2.2 r ∧ (rst w s i).2.2 r ≤ 2 * i + 1) ∧
  (∀ j, j < i → g 19 j = rba w s j ∧ g 20 j = lat w s j (ro w s j) ∧ g 21 j = bh w s i j)
theorem v_val_in {g : cb_S} {a la : Nat} {i o : Int} (hl : la ≤ 1000) (h0 : 0 ≤ i) (h1 : i < la) : v_X8_valueAt g a la i o = some (g a i.toNat) := by
  unfold v_X8_valueAt
  rw [cb_id (x := i) (by omega) (by omega), cb_wn (n := la) (by omega), if_neg (by omega), if_neg (by omega), if_pos (by omega)]
theorem v_val_out {g : cb_S} {a la : Nat} {i o : Int} (hl : la ≤ 1000) (h : -1000 ≤ i ∧ i ≤ 2000) (h0 : i < 0 ∨ (la : Int) ≤ i) : v_X8_valueAt g a la i o = some o := by
  unfold v_X8_valueAt
  rw [cb_id (x := i) (by omega) (by omega), cb_wn (n := la) (by omega)]
  rcases h0 with h0 | h0
  · rw [if_pos h0]
  · by_cases h2 : i < 0
    · rw [if_pos h2]
    · rw [if_neg h2, if_pos h0]
/-- the cells that Rows writes -/
def rw_w (k : Nat) : Prop := k = 3 ∨ (16 ≤ k ∧ k ≤ 25)
/-- append(i, row): row is the row of sign i -/
theorem p_append {g : cb_S} {i row : Nat} {b0 l0 : Int} (hi : i < 60) (hr : row < 61) (h16 : g 16 row = b0) (h18 : g 18 row = l0) (hl0 : -1 ≤ l0 ∧ l0 < (i : Int)) : hp (f_X5_append g (i : Int) (row : Int)) (fun _ g2 => (∀ k, k ≠ 18 → k ≠ 19 → k ≠ 20 → k ≠ 21 → g2 k = g k) ∧ (∀ r, g2 18 r = if r = row then (i : Int) else g 18 r) ∧ (∀ j, g2 19 j = if j = i then b0 else g 19 j) ∧ (∀ j, g2 20 j = if j = i then l0 else g 20 j) ∧ (∀ j, g2 21 j = if l0 = (j : Int) then (i : Int) else if j = i then -1 else g 21 j)) := by
  have b71 : ∀ g' : cb_S, f_X5_append_b71 (i : Int) (row : Int) g' = some (0, cb_u g' 18 row (i : Int)) := fun g' => by
    unfold f_X5_append_b71
    rw [cb_wn (n := row) (by omega), cb_wn (n := 61) (by omega), if_neg (by omega), if_neg (by omega), if_pos (by omega), Int.toNat_natCast]
  unfold f_X5_append
  rw [v_val_in (by decide) (by omega) (by omega), Option.bind_some, cb_wn (n := i) (by omega), if_pos (by omega), v_val_in (by decide) (by omega) (by omega), Option.bind_some]
  simp only [Int.toNat_natCast]
  rw [cb_u_other _ _ _ (show (18 : Nat) ≠ 19 by decide), h16, h18, if_pos (by omega), if_pos (by omega), if_pos (by omega), cb_id (x := l0) (by omega) (by omega)]
  by_cases hneg : l0 < 0
  · rw [if_pos hneg, b71]
    refine hp_some ⟨fun k h1 h2 h3 h4 => ?_, fun r => ?_, fun j => ?_, fun j => ?_, fun j => ?_⟩
    · rw [cb_u_other _ _ _ h1, cb_u_other _ _ _ h4, cb_u_other _ _ _ h3, cb_u_other _ _ _ h2]
    · simp [cb_u]
    · simp [cb_u]
    · simp [cb_u]
    · rw [if_neg (show ¬ l0 = (j : Int) by omega)]
      simp [cb_u]
  · rw [if_neg hneg, if_pos (by omega), if_neg (by omega), if_pos (by omega), if_pos (by omega), b71]
    refine hp_some ⟨fun k h1 h2 h3 h4 => ?_, fun r => ?_, fun j => ?_, fun j => ?_, fun j => ?_⟩
    · rw [cb_u_other _ _ _ h1, cb_u_other _ _ _ h4, cb_u_other _ _ _ h4, cb_u_other _ _ _ h3, cb_u_other _ _ _ h2]
    · simp [cb_u]
    · simp [cb_u]
    · simp [cb_u]
    · have e : (l0 = (j : Int)) ↔ j = l0.toNat := by omega
      by_cases hj : j = l0.toNat
      · rw [if_pos (e.mpr hj)]
        simp [cb_u, hj]
      · rw [if_neg (fun z => hj (e.mp z))]
        simp [cb_u, hj]
