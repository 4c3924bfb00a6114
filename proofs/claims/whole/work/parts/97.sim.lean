/-- a new object of each stands in the relation; every call keeps it, and the two answer alike -/
theorem sim_all : ∃ (Rel : cb_S → cb_S → Prop) (r1 : Int) (g1 : cb_S), lw_sim Rel ∧ f_X8_layOut (fun _ _ => 0) = some (r1, g1) ∧ Rel g1 (fun _ _ => 0) := by
  obtain ⟨r, g1, e, q1, q2⟩ := p_layOut (g := fun _ _ => 0) (w := 0) (n := 0) (s := fun _ => 0) ⟨rfl, rfl, by omega, fun i hi => by omega, fun i hi => by omega, Or.inl rfl⟩ (fun j hj => by omega)
  refine ⟨Rel, r, g1, ⟨o0, o1, o2, o3, o4, o5, o6, o7, o8, o9, o10, o11, o12, o13, o14, o15, o16, o17, o18, o19, o20⟩, e, ⟨0, 0, fun _ => 0, 0, 0, q1, ⟨fun i hi => by omega, fun i hi => by omega⟩, ?_, ?_, cst_B (isB_0 0 _) (Or.inl rfl), ⟨rfl, rfl, by omega, fun i hi => by omega, fun i hi => by omega, Or.inl rfl⟩, rfl, rfl, ⟨0, 0, by omega, by omega, ?_, ?_, rfl, fun i hi => by omega⟩, ⟨0, by omega, ?_, rfl, fun k hk => by omega⟩⟩⟩
  · rw [q2 5 (by unfold lay_w; omega)]
    rfl
  · rw [q2 5 (by unfold lay_w; omega)]
  · rw [q2 7 (by unfold lay_w; omega)]
    rfl
  · rw [q2 7 (by unfold lay_w; omega)]
    rfl
  · rw [q2 6 (by unfold lay_w; omega)]
    rfl
