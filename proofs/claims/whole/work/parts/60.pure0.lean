/-! PURE PART: what the functions give. hp F Q: F ends, with Q -/
def hp (F : Option (Int × cb_S)) (Q : Int → cb_S → Prop) : Prop := ∃ r g, F = some (r, g) ∧ Q r g
theorem hp_some {r : Int} {g : cb_S} {Q : Int → cb_S → Prop} (h : Q r g) : hp (some (r, g)) Q := ⟨r, g, rfl, h⟩
theorem hp_b {F : Option (Int × cb_S)} {k : Int → cb_S → Option (Int × cb_S)} {P Q : Int → cb_S → Prop} (h : hp F P) (hk : ∀ r g, P r g → hp (k r g) Q) : hp (cb_b F k) Q := by
  obtain ⟨r, g, rfl, hP⟩ := h
  exact hk r g hP
theorem hp_imp {F : Option (Int × cb_S)} {P Q : Int → cb_S → Prop} (h : hp F P) (hk : ∀ r g, P r g → Q r g) : hp F Q := by
  obtain ⟨r, g, e, hP⟩ := h
  exact ⟨r, g, e, hk r g hP⟩
theorem hp_eq {F F' : Option (Int × cb_S)} {Q : Int → cb_S → Prop} (e : F = F') (h : hp F' Q) : hp F Q := e ▸ h
theorem cb_wn {n : Nat} (h : n < 2147483648) : cb_w (n : Int) = (n : Int) := cb_id (by omega) (by omega)
/-- the class's line: n signs s, way w -/
def ln_C (g : cb_S) (w : Int) (n : Nat) (s : Nat → Int) : Prop := g 1 1 = (n : Int) ∧ g 1 2 = w ∧ n ≤ 60 ∧ (∀ i, i < n → g 8 i = s i) ∧ (∀ i, i < n → 32 ≤ s i ∧ s i ≤ 126) ∧ (w = 0 ∨ w = 1)
theorem v_at_in {g : cb_S} {w : Int} {n : Nat} {s : Nat → Int} (h : ln_C g w n s) {i : Int} (h0 : 0 ≤ i) (h1 : i < n) : v_X3_at g i = some (s i.toNat) := by
  obtain ⟨e1, e2, hn, hs, hb, hw⟩ := h
  unfold v_X3_at v_X3_has
  rw [e1]
  simp (disch := omega) only [cb_id, if_pos, if_neg, Option.bind_some, ↓reduceIte]
  rw [hs _ (by omega)]
theorem v_at_out {g : cb_S} {w : Int} {n : Nat} {s : Nat → Int} (h : ln_C g w n s) {i : Int} (h0 : -1000 ≤ i) (h1 : i < 1000) (h2 : i < 0 ∨ (n : Int) ≤ i) : v_X3_at g i = some (-1) := by
  obtain ⟨e1, e2, hn, hs, hb, hw⟩ := h
  unfold v_X3_at v_X3_has
  rw [e1]
  rcases h2 with h2 | h2
  · simp (disch := omega) only [cb_id, if_pos, if_neg, Option.bind_some, ↓reduceIte]
  · by_cases h3 : i < 0
    · simp (disch := omega) only [cb_id, if_pos, if_neg, Option.bind_some, ↓reduceIte]
    · simp (disch := omega) only [cb_id, if_pos, if_neg, Option.bind_some, ↓reduceIte]
/-- an int array filled -/
theorem p_fill (a0 la0 : Nat) (x1 : Int) (hl : la0 ≤ 1000) : ∀ (n : Nat) (x2 : Nat) (g : cb_S), x2 ≤ la0 → la0 < x2 + n → hp (f_J7_fill_53178_b5 a0 la0 n x1 (x2 : Int) (la0 : Int) g) (fun _ g2 => (∀ k, k ≠ a0 → g2 k = g k) ∧ (∀ i, x2 ≤ i → i < la0 → g2 a0 i = x1) ∧ (∀ i, i < x2 → g2 a0 i = g a0 i)) := by
  intro n
  induction n with
  | zero => intro x2 g h1 h2; omega
  | succ n ih =>
    intro x2 g h1 h2
    rw [f_J7_fill_53178_b5]
    by_cases hc : la0 ≤ x2
    · simp (disch := omega) only [cb_id, if_pos, if_neg, ↓reduceIte]
      exact hp_some ⟨fun _ _ => rfl, fun i a b => by omega, fun _ _ => rfl⟩
    · simp (disch := omega) only [cb_id, if_pos, if_neg, ↓reduceIte]
      refine hp_imp (ih (x2 + 1) _ (by omega) (by omega)) (fun r g2 ⟨q1, q2, q3⟩ => ⟨fun k hk => ?_, fun i a b => ?_, fun i a => ?_⟩)
      · rw [q1 k hk]
        exact cb_u_other g _ _ hk
      · by_cases e : i = x2
        · subst e
          rw [q3 i (by omega)]
          simp [cb_u]
        · exact q2 i (by omega) b
      · rw [q3 i (by omega)]
        simp [cb_u]
        omega
