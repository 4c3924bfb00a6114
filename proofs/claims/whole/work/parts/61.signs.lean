/-! signs: kinds by the class's numbers -/
def sg_k (b : Int) : Int := if 97 ≤ b ∧ b ≤ 122 then 0 else if 65 ≤ b ∧ b ≤ 90 then 1 else if 48 ≤ b ∧ b ≤ 57 then 2 else if 43 ≤ b ∧ b ≤ 46 then 3 else if b = 39 ∨ b = 126 then 5 else if b = 32 ∨ b = 33 ∨ b = 40 ∨ b = 41 ∨ b = 60 ∨ b = 62 ∨ b = 91 ∨ b = 93 ∨ b = 94 ∨ b = 123 then 4 else -1
theorem sg_rng (b : Int) : -1 ≤ sg_k b ∧ sg_k b ≤ 5 := by
  unfold sg_k
  repeat' split
  all_goals omega
theorem v_kind_fin : ∀ k : Fin 128, v_X7_kindOf (fun _ _ => 0) (k.val : Int) = some (sg_k (k.val : Int)) := by decide +kernel
theorem v_kindOf {b : Int} (h : cb_i b) (g : cb_S) : v_X7_kindOf g b = some (sg_k b) := by
  obtain ⟨h1, h2⟩ := h
  by_cases hb : 0 ≤ b ∧ b < 128
  · obtain ⟨k, hk, rfl⟩ : ∃ k : Nat, k < 128 ∧ b = (k : Int) := ⟨b.toNat, by omega, by omega⟩
    exact v_kind_fin ⟨k, hk⟩
  · have e : sg_k b = -1 := by
      unfold sg_k
      repeat rw [if_neg (by omega)]
    rw [e]
    unfold v_X7_kindOf v_X7_kindOf_b14 v_X7_kindOf_b28 v_X7_kindOf_b42
    rw [cb_id h1 h2]
    by_cases h3 : b < 0
    · rw [if_pos (by omega), if_pos (by omega), if_pos (by omega)]
      repeat rw [if_neg (by omega)]
    · rw [if_neg (by omega), if_pos (by omega), if_neg (by omega), if_pos (by omega), if_neg (by omega), if_pos (by omega)]
      repeat rw [if_neg (by omega)]
theorem v_isStrong {k : Int} (h : cb_i k) (g : cb_S) : v_X7_isStrong g k = some (if k = 0 ∨ k = 1 then 1 else 0) := by
  obtain ⟨h1, h2⟩ := h
  unfold v_X7_isStrong
  simp (disch := omega) only [cb_id]
  repeat' split
  all_goals first | rfl | (exfalso; omega)
theorem sg_i (b : Int) : cb_i (sg_k b) := by
  have := sg_rng b
  exact ⟨by omega, by omega⟩
theorem v_isLetter {b : Int} (h : cb_i b) (g : cb_S) : v_X7_isLetter g b = some (if sg_k b = 0 ∨ sg_k b = 1 then 1 else 0) := by
  unfold v_X7_isLetter
  rw [v_kindOf h, Option.bind_some, v_isStrong (sg_i b), Option.bind_some]
  repeat' split
  all_goals first | rfl | (exfalso; omega)
theorem v_isMark {b : Int} (h : cb_i b) (g : cb_S) : v_X7_isMark g b = some (if b = 39 ∨ b = 126 then 1 else 0) := by
  unfold v_X7_isMark
  have hr := sg_rng b
  rw [v_kindOf h, Option.bind_some, cb_id (by omega) (by omega)]
  unfold sg_k
  repeat' split
  all_goals first | rfl | (exfalso; omega)
theorem v_isSign {b : Int} (h : cb_i b) (g : cb_S) : v_X7_isSign g b = some (if sg_k b = -1 then 0 else 1) := by
  unfold v_X7_isSign
  have hr := sg_rng b
  rw [v_kindOf h, Option.bind_some, cb_id (by omega) (by omega)]
  repeat' split
  all_goals first | rfl | (exfalso; omega)
theorem v_isOfWord {b : Int} (h : cb_i b) (g : cb_S) : v_X7_isOfWord g b = some (if sg_k b = 0 ∨ sg_k b = 1 ∨ sg_k b = 2 then 1 else 0) := by
  unfold v_X7_isOfWord
  have hr := sg_rng b
  rw [v_isLetter h, Option.bind_some, v_kindOf h]
  simp only [Option.bind_some]
  rw [cb_id (x := sg_k b) (by omega) (by omega)]
  by_cases h1 : sg_k b = 0 ∨ sg_k b = 1
  · rw [if_pos h1, if_neg (by decide), if_pos (by omega)]
  · rw [if_neg h1, if_pos (by decide)]
    repeat' split
    all_goals first | rfl | (exfalso; omega)
theorem v_widthOf {b : Int} (h : cb_i b) (g : cb_S) : v_X7_widthOf g b = some (if sg_k b = 0 ∨ sg_k b = 1 then 10 else if sg_k b = 2 then 8 else if b = 32 then 5 else 6) := by
  unfold v_X7_widthOf
  have hr := sg_rng b
  rw [v_kindOf h, Option.bind_some, cb_id (x := sg_k b) (by omega) (by omega), cb_id (x := b) h.1 h.2]
  repeat' split
  all_goals first | rfl | (exfalso; omega)
/-! the model's -/
theorem m_isForward {b : Int} (h : cb_i b) (g : cb_S) : v_X9_isForward g b = some (if sg_k b = 0 then 1 else 0) := by
  obtain ⟨h1, h2⟩ := h
  unfold v_X9_isForward sg_k
  simp (disch := omega) only [cb_id]
  repeat' split
  all_goals first | rfl | (exfalso; omega)
theorem m_isBackward {b : Int} (h : cb_i b) (g : cb_S) : v_X9_isBackward g b = some (if sg_k b = 1 then 1 else 0) := by
  obtain ⟨h1, h2⟩ := h
  unfold v_X9_isBackward sg_k
  simp (disch := omega) only [cb_id]
  repeat' split
  all_goals first | rfl | (exfalso; omega)
theorem m_isDigit {b : Int} (h : cb_i b) (g : cb_S) : v_X9_isDigit g b = some (if sg_k b = 2 then 1 else 0) := by
  obtain ⟨h1, h2⟩ := h
  unfold v_X9_isDigit sg_k
  simp (disch := omega) only [cb_id]
  repeat' split
  all_goals first | rfl | (exfalso; omega)
theorem m_isLetter {b : Int} (h : cb_i b) (g : cb_S) : v_X9_isLetter g b = some (if sg_k b = 0 ∨ sg_k b = 1 then 1 else 0) := by
  unfold v_X9_isLetter
  rw [m_isForward h, Option.bind_some, m_isBackward h]
  simp only [Option.bind_some]
  by_cases h0 : sg_k b = 0
  · rw [if_pos h0, if_neg (by decide), if_pos (Or.inl h0)]
  · rw [if_neg h0, if_pos (by decide)]
    by_cases h1 : sg_k b = 1
    · rw [if_pos h1, if_neg (by decide), if_pos (Or.inr h1)]
    · rw [if_neg h1, if_pos (by decide), if_neg (by omega)]
theorem m_isMark {b : Int} (h : cb_i b) (g : cb_S) : v_X9_isMark g b = some (if b = 39 ∨ b = 126 then 1 else 0) := by
  obtain ⟨h1, h2⟩ := h
  unfold v_X9_isMark
  simp (disch := omega) only [cb_id]
  repeat' split
  all_goals first | rfl | (exfalso; omega)
theorem m_isIsle {b : Int} (h : cb_i b) (g : cb_S) : v_X9_isIsle g b = some (if b = 91 ∨ b = 123 ∨ b = 93 then 1 else 0) := by
  obtain ⟨h1, h2⟩ := h
  unfold v_X9_isIsle
  simp (disch := omega) only [cb_id]
  repeat' split
  all_goals first | rfl | (exfalso; omega)
