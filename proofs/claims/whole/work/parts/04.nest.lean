def cb_NL : List (String × Nat × MethodName × String) := [(RX0, 69, yX8_isEven, "CaretBench"), (RX1, 93, yX8_valueAt, "CaretBench"), (RX2, 53, yX8_valueAt, "CaretBench"), (RX4, 46, yX8_valueAt, "CaretBench"), (RX5, 91, yX8_valueAt, "CaretBench"), (RX6, 68, yX8_valueAt, "CaretBench")]
theorem cb_nest0 : (RX0, 69, yX8_isEven, "CaretBench") ∈ cb_NL := List.mem_of_getElem? (i := 0) rfl
theorem cb_nestw0 : Cond.methodLinkNest RX0 69 yX8_isEven "CaretBench" ∈ lw_tbl := List.mem_of_getElem? (i := 649) (by decide +kernel)
theorem cb_nest1 : (RX1, 93, yX8_valueAt, "CaretBench") ∈ cb_NL := List.mem_of_getElem? (i := 1) rfl
theorem cb_nestw1 : Cond.methodLinkNest RX1 93 yX8_valueAt "CaretBench" ∈ lw_tbl := List.mem_of_getElem? (i := 530) (by decide +kernel)
theorem cb_nest2 : (RX2, 53, yX8_valueAt, "CaretBench") ∈ cb_NL := List.mem_of_getElem? (i := 2) rfl
theorem cb_nestw2 : Cond.methodLinkNest RX2 53 yX8_valueAt "CaretBench" ∈ lw_tbl := List.mem_of_getElem? (i := 834) (by decide +kernel)
theorem cb_nest3 : (RX4, 46, yX8_valueAt, "CaretBench") ∈ cb_NL := List.mem_of_getElem? (i := 3) rfl
theorem cb_nestw3 : Cond.methodLinkNest RX4 46 yX8_valueAt "CaretBench" ∈ lw_tbl := List.mem_of_getElem? (i := 785) (by decide +kernel)
theorem cb_nest4 : (RX5, 91, yX8_valueAt, "CaretBench") ∈ cb_NL := List.mem_of_getElem? (i := 4) rfl
theorem cb_nestw4 : Cond.methodLinkNest RX5 91 yX8_valueAt "CaretBench" ∈ lw_tbl := List.mem_of_getElem? (i := 338) (by decide +kernel)
theorem cb_nest5 : (RX6, 68, yX8_valueAt, "CaretBench") ∈ cb_NL := List.mem_of_getElem? (i := 5) rfl
theorem cb_nestw5 : Cond.methodLinkNest RX6 68 yX8_valueAt "CaretBench" ∈ lw_tbl := List.mem_of_getElem? (i := 421) (by decide +kernel)
theorem cb_nestall : ∀ x ∈ cb_NL, Cond.methodLinkNest x.1 x.2.1 x.2.2.1 x.2.2.2 ∈ lw_tbl := by
  intro x hx
  simp only [cb_NL, List.mem_cons, List.not_mem_nil, or_false] at hx
  rcases hx with rfl | rfl | rfl | rfl | rfl | rfl
  · exact cb_nestw0
  · exact cb_nestw1
  · exact cb_nestw2
  · exact cb_nestw3
  · exact cb_nestw4
  · exact cb_nestw5
