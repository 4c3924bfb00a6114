theorem sim_all : ∃ (Rel : cb_S → cb_S → Prop) (r1 : Int) (g1 : cb_S), lw_sim Rel ∧ f_X8_layOut (fun _ _ => 0) = some (r1, g1) ∧ Rel g1 (fun _ _ => 0) := sorry
