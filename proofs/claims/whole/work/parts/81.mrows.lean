/-! the model's rows: the open ones in a row of cells, the inmost last -/
def stk (o : Nat → Int) : List Nat → Prop
  | [] => True
  | a :: l => o l.length = (a : Int) ∧ stk o l
theorem stk_ext {o o' : Nat → Int} : ∀ l : List Nat, (∀ t, t < l.length → o' t = o t) → stk o l → stk o' l
  | [], _, _ => trivial
  | a :: l, h, hs => ⟨by rw [h l.length (by simp)]; exact hs.1, stk_ext l (fun t ht => h t (by simp; omega)) hs.2⟩
theorem stk_pop {o : Nat → Int} {l : List Nat} (h : stk o l) : stk o (pop l) := by
  match l, h with
  | [], h => exact h
  | [a], h => exact h
  | a :: b :: l, h => exact h.2
theorem stk_hd {o : Nat → Int} {l : List Nat} (h : stk o l) (hl : l ≠ []) : o (l.length - 1) = (l.headD 0 : Int) := by
  match l, h with
  | [], h => exact absurd rfl hl
  | a :: l, h => exact h.1
theorem pop_len {l : List Nat} : (pop l).length = if 1 < l.length then l.length - 1 else l.length := by
  match l with
  | [] => rfl
  | [a] => rfl
  | a :: b :: l => simp [pop]
theorem m_above {b p : Int} (h : 0 ≤ b ∧ b ≤ 1000) (hp : p = 0 ∨ p = 1) (g : cb_S) : v_X9_aboveBase g b p = some (bw b p) := by
  unfold v_X9_aboveBase bw
  rw [cb_id (x := b + 1) (by omega) (by omega), Int.tmod_eq_emod_of_nonneg (by omega), cb_id (x := (b + 1) % 2) (by omega) (by omega), cb_id (x := p) (by omega) (by omega)]
  split <;> rfl
/-- the model's row cells behind i signs -/
def mrw (g : cb_S) (w : Int) (s : Nat → Int) (i : Nat) : Prop := g 0 13 = ((rst w s i).2.1 : Int) ∧ (rst w s i).2.1 ≤ i + 1 ∧ (rst w s i).1.length ≤ (rst w s i).2.1 ∧ stk (g 8) (rst w s i).1 ∧ (∀ r, r < (rst w s i).2.1 → g 7 r = (rst w s i).2.2 r) ∧ (∀ j, j < i → g 6 j = (ro w s j : Int))
