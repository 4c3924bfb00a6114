theorem tb_m0 {w : Cond} (h : w ∈ k2_sels lw_privs) : w ∈ lw_tbl := List.mem_append_left _ h
theorem tb_m1 {w : Cond} (h : w ∈ tables_1_1) : w ∈ lw_tbl := List.mem_append_right _ (List.mem_append_left _ h)
theorem tb_m2 {w : Cond} (h : w ∈ tables_1_2) : w ∈ lw_tbl := List.mem_append_right _ (List.mem_append_right _ (List.mem_append_left _ h))
theorem tb_m3 {w : Cond} (h : w ∈ tables_1_3) : w ∈ lw_tbl := List.mem_append_right _ (List.mem_append_right _ (List.mem_append_right _ (List.mem_append_left _ h)))
theorem tb_m4 {w : Cond} (h : w ∈ tables_1_4) : w ∈ lw_tbl := List.mem_append_right _ (List.mem_append_right _ (List.mem_append_right _ (List.mem_append_right _ (List.mem_append_left _ h))))
theorem tb_m5 {w : Cond} (h : w ∈ tables_1_5) : w ∈ lw_tbl := List.mem_append_right _ (List.mem_append_right _ (List.mem_append_right _ (List.mem_append_right _ (List.mem_append_right _ (h)))))
def cb_N : Nat := 2000
def skC_f : Nat → cb_C := fun k => match k with
  | 0 => .inr (.inr (7, [some 1, some 2, some 3, some 4, some 5, some 6, some 7]))
  | 1 => .inr (.inr (3, [some 8, none, none]))
  | 2 => .inr (.inr (1, [some 9, some 10, some 11, some 12, some 13, some 14, some 15, none, none, none]))
  | 3 => .inr (.inr (5, [some 16, some 17, some 18, some 19, some 20, some 21, some 22, some 23, some 24, some 25, none, none, none]))
  | 4 => .inr (.inr (6, [some 26, some 27, some 28, some 29, none, none, none, none]))
  | 5 => .inr (.inr (0, [some 2, some 4, none, none]))
  | 6 => .inr (.inr (4, [some 30, some 31, none]))
  | 7 => .inr (.inr (2, [some 32, some 33, some 34, some 35, none, none]))
  | 8 => .inl (0, 60)
  | 9 => .inl (1, 60)
  | 10 => .inl (0, 60)
  | 11 => .inl (0, 60)
  | 12 => .inl (0, 60)
  | 13 => .inl (0, 61)
  | 14 => .inl (0, 61)
  | 15 => .inl (0, 61)
  | 16 => .inl (0, 61)
  | 17 => .inl (0, 61)
  | 18 => .inl (0, 61)
  | 19 => .inl (0, 60)
  | 20 => .inl (0, 60)
  | 21 => .inl (0, 60)
  | 22 => .inl (0, 60)
  | 23 => .inl (0, 60)
  | 24 => .inl (0, 60)
  | 25 => .inl (0, 60)
  | 26 => .inl (0, 60)
  | 27 => .inl (0, 60)
  | 28 => .inl (0, 60)
  | 29 => .inl (0, 60)
  | 30 => .inl (0, 60)
  | 31 => .inl (0, 60)
  | 32 => .inr (.inl (36, 8))
  | 33 => .inl (0, 8)
  | 34 => .inl (0, 8)
  | 35 => .inl (0, 8)
  | 36 => .inl (0, 60)
  | 37 => .inl (0, 60)
  | 38 => .inl (0, 60)
  | 39 => .inl (0, 60)
  | 40 => .inl (0, 60)
  | 41 => .inl (0, 60)
  | 42 => .inl (0, 60)
  | _ => .inl (0, 60)
def skC : cb_K := (skC_f, 44)
theorem skC_c0 : skC.1 0 = .inr (.inr (7, [some 1, some 2, some 3, some 4, some 5, some 6, some 7])) := rfl
theorem skC_b0 : 0 < skC.2 := by decide
theorem skC_c1 : skC.1 1 = .inr (.inr (3, [some 8, none, none])) := rfl
theorem skC_b1 : 1 < skC.2 := by decide
theorem skC_c2 : skC.1 2 = .inr (.inr (1, [some 9, some 10, some 11, some 12, some 13, some 14, some 15, none, none, none])) := rfl
theorem skC_b2 : 2 < skC.2 := by decide
theorem skC_c3 : skC.1 3 = .inr (.inr (5, [some 16, some 17, some 18, some 19, some 20, some 21, some 22, some 23, some 24, some 25, none, none, none])) := rfl
theorem skC_b3 : 3 < skC.2 := by decide
theorem skC_c4 : skC.1 4 = .inr (.inr (6, [some 26, some 27, some 28, some 29, none, none, none, none])) := rfl
theorem skC_b4 : 4 < skC.2 := by decide
theorem skC_c5 : skC.1 5 = .inr (.inr (0, [some 2, some 4, none, none])) := rfl
theorem skC_b5 : 5 < skC.2 := by decide
theorem skC_c6 : skC.1 6 = .inr (.inr (4, [some 30, some 31, none])) := rfl
theorem skC_b6 : 6 < skC.2 := by decide
theorem skC_c7 : skC.1 7 = .inr (.inr (2, [some 32, some 33, some 34, some 35, none, none])) := rfl
theorem skC_b7 : 7 < skC.2 := by decide
theorem skC_c8 : skC.1 8 = .inl (0, 60) := rfl
theorem skC_b8 : 8 < skC.2 := by decide
theorem skC_c9 : skC.1 9 = .inl (1, 60) := rfl
theorem skC_b9 : 9 < skC.2 := by decide
theorem skC_c10 : skC.1 10 = .inl (0, 60) := rfl
theorem skC_b10 : 10 < skC.2 := by decide
theorem skC_c11 : skC.1 11 = .inl (0, 60) := rfl
theorem skC_b11 : 11 < skC.2 := by decide
theorem skC_c12 : skC.1 12 = .inl (0, 60) := rfl
theorem skC_b12 : 12 < skC.2 := by decide
theorem skC_c13 : skC.1 13 = .inl (0, 61) := rfl
theorem skC_b13 : 13 < skC.2 := by decide
theorem skC_c14 : skC.1 14 = .inl (0, 61) := rfl
theorem skC_b14 : 14 < skC.2 := by decide
theorem skC_c15 : skC.1 15 = .inl (0, 61) := rfl
theorem skC_b15 : 15 < skC.2 := by decide
theorem skC_c16 : skC.1 16 = .inl (0, 61) := rfl
theorem skC_b16 : 16 < skC.2 := by decide
theorem skC_c17 : skC.1 17 = .inl (0, 61) := rfl
theorem skC_b17 : 17 < skC.2 := by decide
theorem skC_c18 : skC.1 18 = .inl (0, 61) := rfl
theorem skC_b18 : 18 < skC.2 := by decide
theorem skC_c19 : skC.1 19 = .inl (0, 60) := rfl
theorem skC_b19 : 19 < skC.2 := by decide
theorem skC_c20 : skC.1 20 = .inl (0, 60) := rfl
theorem skC_b20 : 20 < skC.2 := by decide
theorem skC_c21 : skC.1 21 = .inl (0, 60) := rfl
theorem skC_b21 : 21 < skC.2 := by decide
theorem skC_c22 : skC.1 22 = .inl (0, 60) := rfl
theorem skC_b22 : 22 < skC.2 := by decide
theorem skC_c23 : skC.1 23 = .inl (0, 60) := rfl
theorem skC_b23 : 23 < skC.2 := by decide
theorem skC_c24 : skC.1 24 = .inl (0, 60) := rfl
theorem skC_b24 : 24 < skC.2 := by decide
theorem skC_c25 : skC.1 25 = .inl (0, 60) := rfl
theorem skC_b25 : 25 < skC.2 := by decide
theorem skC_c26 : skC.1 26 = .inl (0, 60) := rfl
theorem skC_b26 : 26 < skC.2 := by decide
theorem skC_c27 : skC.1 27 = .inl (0, 60) := rfl
theorem skC_b27 : 27 < skC.2 := by decide
theorem skC_c28 : skC.1 28 = .inl (0, 60) := rfl
theorem skC_b28 : 28 < skC.2 := by decide
theorem skC_c29 : skC.1 29 = .inl (0, 60) := rfl
theorem skC_b29 : 29 < skC.2 := by decide
theorem skC_c30 : skC.1 30 = .inl (0, 60) := rfl
theorem skC_b30 : 30 < skC.2 := by decide
theorem skC_c31 : skC.1 31 = .inl (0, 60) := rfl
theorem skC_b31 : 31 < skC.2 := by decide
theorem skC_c32 : skC.1 32 = .inr (.inl (36, 8)) := rfl
theorem skC_b32 : 32 < skC.2 := by decide
theorem skC_c33 : skC.1 33 = .inl (0, 8) := rfl
theorem skC_b33 : 33 < skC.2 := by decide
theorem skC_c34 : skC.1 34 = .inl (0, 8) := rfl
theorem skC_b34 : 34 < skC.2 := by decide
theorem skC_c35 : skC.1 35 = .inl (0, 8) := rfl
theorem skC_b35 : 35 < skC.2 := by decide
theorem skC_c36 : skC.1 36 = .inl (0, 60) := rfl
theorem skC_b36 : 36 < skC.2 := by decide
theorem skC_c37 : skC.1 37 = .inl (0, 60) := rfl
theorem skC_b37 : 37 < skC.2 := by decide
theorem skC_c38 : skC.1 38 = .inl (0, 60) := rfl
theorem skC_b38 : 38 < skC.2 := by decide
theorem skC_c39 : skC.1 39 = .inl (0, 60) := rfl
theorem skC_b39 : 39 < skC.2 := by decide
theorem skC_c40 : skC.1 40 = .inl (0, 60) := rfl
theorem skC_b40 : 40 < skC.2 := by decide
theorem skC_c41 : skC.1 41 = .inl (0, 60) := rfl
theorem skC_b41 : 41 < skC.2 := by decide
theorem skC_c42 : skC.1 42 = .inl (0, 60) := rfl
theorem skC_b42 : 42 < skC.2 := by decide
theorem skC_c43 : skC.1 43 = .inl (0, 60) := rfl
theorem skC_b43 : 43 < skC.2 := by decide
def skM_f : Nat → cb_C := fun k => match k with
  | 0 => .inr (.inr (8, [none, none, some 1, none, none, none, some 2, some 3, some 4, some 5, some 6, some 7, some 8, none, some 9, some 10, some 11, some 12, none, some 13, none, some 14, some 15, some 16, some 17, some 18, some 19, some 20, none, none, some 21, some 22]))
  | 1 => .inl (0, 64)
  | 2 => .inl (0, 8)
  | 3 => .inl (0, 512)
  | 4 => .inl (0, 8)
  | 5 => .inl (0, 8)
  | 6 => .inl (0, 64)
  | 7 => .inl (0, 64)
  | 8 => .inl (0, 64)
  | 9 => .inl (1, 64)
  | 10 => .inl (0, 64)
  | 11 => .inl (0, 64)
  | 12 => .inl (0, 64)
  | 13 => .inl (1, 64)
  | 14 => .inl (0, 64)
  | 15 => .inl (0, 64)
  | 16 => .inl (1, 64)
  | 17 => .inl (0, 64)
  | 18 => .inl (0, 64)
  | 19 => .inl (0, 64)
  | 20 => .inl (0, 64)
  | 21 => .inl (0, 64)
  | _ => .inl (0, 64)
def skM : cb_K := (skM_f, 23)
theorem skM_c0 : skM.1 0 = .inr (.inr (8, [none, none, some 1, none, none, none, some 2, some 3, some 4, some 5, some 6, some 7, some 8, none, some 9, some 10, some 11, some 12, none, some 13, none, some 14, some 15, some 16, some 17, some 18, some 19, some 20, none, none, some 21, some 22])) := rfl
theorem skM_b0 : 0 < skM.2 := by decide
theorem skM_c1 : skM.1 1 = .inl (0, 64) := rfl
theorem skM_b1 : 1 < skM.2 := by decide
theorem skM_c2 : skM.1 2 = .inl (0, 8) := rfl
theorem skM_b2 : 2 < skM.2 := by decide
theorem skM_c3 : skM.1 3 = .inl (0, 512) := rfl
theorem skM_b3 : 3 < skM.2 := by decide
theorem skM_c4 : skM.1 4 = .inl (0, 8) := rfl
theorem skM_b4 : 4 < skM.2 := by decide
theorem skM_c5 : skM.1 5 = .inl (0, 8) := rfl
theorem skM_b5 : 5 < skM.2 := by decide
theorem skM_c6 : skM.1 6 = .inl (0, 64) := rfl
theorem skM_b6 : 6 < skM.2 := by decide
theorem skM_c7 : skM.1 7 = .inl (0, 64) := rfl
theorem skM_b7 : 7 < skM.2 := by decide
theorem skM_c8 : skM.1 8 = .inl (0, 64) := rfl
theorem skM_b8 : 8 < skM.2 := by decide
theorem skM_c9 : skM.1 9 = .inl (1, 64) := rfl
theorem skM_b9 : 9 < skM.2 := by decide
theorem skM_c10 : skM.1 10 = .inl (0, 64) := rfl
theorem skM_b10 : 10 < skM.2 := by decide
theorem skM_c11 : skM.1 11 = .inl (0, 64) := rfl
theorem skM_b11 : 11 < skM.2 := by decide
theorem skM_c12 : skM.1 12 = .inl (0, 64) := rfl
theorem skM_b12 : 12 < skM.2 := by decide
theorem skM_c13 : skM.1 13 = .inl (1, 64) := rfl
theorem skM_b13 : 13 < skM.2 := by decide
theorem skM_c14 : skM.1 14 = .inl (0, 64) := rfl
theorem skM_b14 : 14 < skM.2 := by decide
theorem skM_c15 : skM.1 15 = .inl (0, 64) := rfl
theorem skM_b15 : 15 < skM.2 := by decide
theorem skM_c16 : skM.1 16 = .inl (1, 64) := rfl
theorem skM_b16 : 16 < skM.2 := by decide
theorem skM_c17 : skM.1 17 = .inl (0, 64) := rfl
theorem skM_b17 : 17 < skM.2 := by decide
theorem skM_c18 : skM.1 18 = .inl (0, 64) := rfl
theorem skM_b18 : 18 < skM.2 := by decide
theorem skM_c19 : skM.1 19 = .inl (0, 64) := rfl
theorem skM_b19 : 19 < skM.2 := by decide
theorem skM_c20 : skM.1 20 = .inl (0, 64) := rfl
theorem skM_b20 : 20 < skM.2 := by decide
theorem skM_c21 : skM.1 21 = .inl (0, 64) := rfl
theorem skM_b21 : 21 < skM.2 := by decide
theorem skM_c22 : skM.1 22 = .inl (0, 64) := rfl
theorem skM_b22 : 22 < skM.2 := by decide
theorem skC_rows : ∀ i, i < 8 → 36 + i < skC.2 ∧ skC.1 (36 + i) = .inl (0, 60) := fun i h => match i, h with
  | 0, _ => ⟨by decide, rfl⟩
  | 1, _ => ⟨by decide, rfl⟩
  | 2, _ => ⟨by decide, rfl⟩
  | 3, _ => ⟨by decide, rfl⟩
  | 4, _ => ⟨by decide, rfl⟩
  | 5, _ => ⟨by decide, rfl⟩
  | 6, _ => ⟨by decide, rfl⟩
  | 7, _ => ⟨by decide, rfl⟩
  | n + 8, h => absurd h (by omega)
theorem skC_rb {i : Int} (h : 0 ≤ cb_w i ∧ cb_w i < (8 : Nat)) : 36 + (cb_w i).toNat < skC.2 := (skC_rows _ (by omega)).1
theorem skC_rc {i : Int} (h : 0 ≤ cb_w i ∧ cb_w i < (8 : Nat)) : skC.1 (36 + (cb_w i).toNat) = .inl (0, 60) := (skC_rows _ (by omega)).2
theorem tw_RX0 : ∀ w ∈ u_ws RX0 TX0 4, w ∈ tb_G := fun w hw => by
  obtain ⟨k, hk, rfl⟩ := List.mem_map.mp hw
  have hk := List.mem_range.mp hk
  exact match k, hk with
    | 0, _ => tb_at (tb_m1 (List.mem_of_getElem? (i := 163) rfl)) rfl
    | 1, _ => tb_at (tb_m1 (List.mem_of_getElem? (i := 165) rfl)) rfl
    | 2, _ => tb_at (tb_m1 (List.mem_of_getElem? (i := 167) rfl)) rfl
    | 3, _ => tb_at (tb_m1 (List.mem_of_getElem? (i := 169) rfl)) rfl
    | q + 4, h => absurd h (by omega)
theorem tw_RX1 : ∀ w ∈ u_ws RX1 TX1 10, w ∈ tb_G := fun w hw => by
  obtain ⟨k, hk, rfl⟩ := List.mem_map.mp hw
  have hk := List.mem_range.mp hk
  exact match k, hk with
    | 0, _ => tb_at (tb_m1 (List.mem_of_getElem? (i := 54) rfl)) rfl
    | 1, _ => tb_at (tb_m1 (List.mem_of_getElem? (i := 56) rfl)) rfl
    | 2, _ => tb_at (tb_m1 (List.mem_of_getElem? (i := 58) rfl)) rfl
    | 3, _ => tb_at (tb_m1 (List.mem_of_getElem? (i := 60) rfl)) rfl
    | 4, _ => tb_at (tb_m1 (List.mem_of_getElem? (i := 62) rfl)) rfl
    | 5, _ => tb_at (tb_m1 (List.mem_of_getElem? (i := 64) rfl)) rfl
    | 6, _ => tb_at (tb_m1 (List.mem_of_getElem? (i := 66) rfl)) rfl
    | 7, _ => tb_at (tb_m1 (List.mem_of_getElem? (i := 68) rfl)) rfl
    | 8, _ => tb_at (tb_m1 (List.mem_of_getElem? (i := 70) rfl)) rfl
    | 9, _ => tb_at (tb_m1 (List.mem_of_getElem? (i := 72) rfl)) rfl
    | q + 10, h => absurd h (by omega)
theorem tw_RX2 : ∀ w ∈ u_ws RX2 TX2 6, w ∈ tb_G := fun w hw => by
  obtain ⟨k, hk, rfl⟩ := List.mem_map.mp hw
  have hk := List.mem_range.mp hk
  exact match k, hk with
    | 0, _ => tb_at (tb_m1 (List.mem_of_getElem? (i := 202) rfl)) rfl
    | 1, _ => tb_at (tb_m1 (List.mem_of_getElem? (i := 204) rfl)) rfl
    | 2, _ => tb_at (tb_m1 (List.mem_of_getElem? (i := 206) rfl)) rfl
    | 3, _ => tb_at (tb_m1 (List.mem_of_getElem? (i := 208) rfl)) rfl
    | 4, _ => tb_at (tb_m1 (List.mem_of_getElem? (i := 210) rfl)) rfl
    | 5, _ => tb_at (tb_m1 (List.mem_of_getElem? (i := 212) rfl)) rfl
    | q + 6, h => absurd h (by omega)
theorem tw_RX3 : ∀ w ∈ u_ws RX3 TX3 3, w ∈ tb_G := fun w hw => by
  obtain ⟨k, hk, rfl⟩ := List.mem_map.mp hw
  have hk := List.mem_range.mp hk
  exact match k, hk with
    | 0, _ => tb_at (tb_m1 (List.mem_of_getElem? (i := 30) rfl)) rfl
    | 1, _ => tb_at (tb_m1 (List.mem_of_getElem? (i := 32) rfl)) rfl
    | 2, _ => tb_at (tb_m1 (List.mem_of_getElem? (i := 34) rfl)) rfl
    | q + 3, h => absurd h (by omega)
theorem tw_RX4 : ∀ w ∈ u_ws RX4 TX4 3, w ∈ tb_G := fun w hw => by
  obtain ⟨k, hk, rfl⟩ := List.mem_map.mp hw
  have hk := List.mem_range.mp hk
  exact match k, hk with
    | 0, _ => tb_at (tb_m1 (List.mem_of_getElem? (i := 181) rfl)) rfl
    | 1, _ => tb_at (tb_m1 (List.mem_of_getElem? (i := 183) rfl)) rfl
    | 2, _ => tb_at (tb_m1 (List.mem_of_getElem? (i := 185) rfl)) rfl
    | q + 3, h => absurd h (by omega)
theorem tw_RX5 : ∀ w ∈ u_ws RX5 TX5 13, w ∈ tb_G := fun w hw => by
  obtain ⟨k, hk, rfl⟩ := List.mem_map.mp hw
  have hk := List.mem_range.mp hk
  exact match k, hk with
    | 0, _ => tb_at (tb_m1 (List.mem_of_getElem? (i := 95) rfl)) rfl
    | 1, _ => tb_at (tb_m1 (List.mem_of_getElem? (i := 97) rfl)) rfl
    | 2, _ => tb_at (tb_m1 (List.mem_of_getElem? (i := 99) rfl)) rfl
    | 3, _ => tb_at (tb_m1 (List.mem_of_getElem? (i := 101) rfl)) rfl
    | 4, _ => tb_at (tb_m1 (List.mem_of_getElem? (i := 103) rfl)) rfl
    | 5, _ => tb_at (tb_m1 (List.mem_of_getElem? (i := 105) rfl)) rfl
    | 6, _ => tb_at (tb_m1 (List.mem_of_getElem? (i := 107) rfl)) rfl
    | 7, _ => tb_at (tb_m1 (List.mem_of_getElem? (i := 109) rfl)) rfl
    | 8, _ => tb_at (tb_m1 (List.mem_of_getElem? (i := 111) rfl)) rfl
    | 9, _ => tb_at (tb_m1 (List.mem_of_getElem? (i := 113) rfl)) rfl
    | 10, _ => tb_at (tb_m1 (List.mem_of_getElem? (i := 115) rfl)) rfl
    | 11, _ => tb_at (tb_m1 (List.mem_of_getElem? (i := 117) rfl)) rfl
    | 12, _ => tb_at (tb_m1 (List.mem_of_getElem? (i := 119) rfl)) rfl
    | q + 13, h => absurd h (by omega)
theorem tw_RX6 : ∀ w ∈ u_ws RX6 TX6 8, w ∈ tb_G := fun w hw => by
  obtain ⟨k, hk, rfl⟩ := List.mem_map.mp hw
  have hk := List.mem_range.mp hk
  exact match k, hk with
    | 0, _ => tb_at (tb_m1 (List.mem_of_getElem? (i := 136) rfl)) rfl
    | 1, _ => tb_at (tb_m1 (List.mem_of_getElem? (i := 138) rfl)) rfl
    | 2, _ => tb_at (tb_m1 (List.mem_of_getElem? (i := 140) rfl)) rfl
    | 3, _ => tb_at (tb_m1 (List.mem_of_getElem? (i := 142) rfl)) rfl
    | 4, _ => tb_at (tb_m1 (List.mem_of_getElem? (i := 144) rfl)) rfl
    | 5, _ => tb_at (tb_m1 (List.mem_of_getElem? (i := 146) rfl)) rfl
    | 6, _ => tb_at (tb_m1 (List.mem_of_getElem? (i := 148) rfl)) rfl
    | 7, _ => tb_at (tb_m1 (List.mem_of_getElem? (i := 150) rfl)) rfl
    | q + 8, h => absurd h (by omega)
theorem tw_RX8 : ∀ w ∈ u_ws RX8 TX8 7, w ∈ tb_G := fun w hw => by
  obtain ⟨k, hk, rfl⟩ := List.mem_map.mp hw
  have hk := List.mem_range.mp hk
  exact match k, hk with
    | 0, _ => tb_at (tb_m2 (List.mem_of_getElem? (i := 152) rfl)) rfl
    | 1, _ => tb_at (tb_m2 (List.mem_of_getElem? (i := 154) rfl)) rfl
    | 2, _ => tb_at (tb_m2 (List.mem_of_getElem? (i := 156) rfl)) rfl
    | 3, _ => tb_at (tb_m2 (List.mem_of_getElem? (i := 158) rfl)) rfl
    | 4, _ => tb_at (tb_m2 (List.mem_of_getElem? (i := 160) rfl)) rfl
    | 5, _ => tb_at (tb_m2 (List.mem_of_getElem? (i := 162) rfl)) rfl
    | 6, _ => tb_at (tb_m2 (List.mem_of_getElem? (i := 164) rfl)) rfl
    | q + 7, h => absurd h (by omega)
theorem tw_RX9 : ∀ w ∈ u_ws RX9 TX9 32, w ∈ tb_G := fun w hw => by
  obtain ⟨k, hk, rfl⟩ := List.mem_map.mp hw
  have hk := List.mem_range.mp hk
  exact match k, hk with
    | 0, _ => tb_at (tb_m4 (List.mem_of_getElem? (i := 111) rfl)) rfl
    | 1, _ => tb_at (tb_m4 (List.mem_of_getElem? (i := 113) rfl)) rfl
    | 2, _ => tb_at (tb_m4 (List.mem_of_getElem? (i := 115) rfl)) rfl
    | 3, _ => tb_at (tb_m4 (List.mem_of_getElem? (i := 117) rfl)) rfl
    | 4, _ => tb_at (tb_m4 (List.mem_of_getElem? (i := 119) rfl)) rfl
    | 5, _ => tb_at (tb_m4 (List.mem_of_getElem? (i := 121) rfl)) rfl
    | 6, _ => tb_at (tb_m4 (List.mem_of_getElem? (i := 123) rfl)) rfl
    | 7, _ => tb_at (tb_m4 (List.mem_of_getElem? (i := 125) rfl)) rfl
    | 8, _ => tb_at (tb_m4 (List.mem_of_getElem? (i := 127) rfl)) rfl
    | 9, _ => tb_at (tb_m4 (List.mem_of_getElem? (i := 129) rfl)) rfl
    | 10, _ => tb_at (tb_m4 (List.mem_of_getElem? (i := 131) rfl)) rfl
    | 11, _ => tb_at (tb_m4 (List.mem_of_getElem? (i := 133) rfl)) rfl
    | 12, _ => tb_at (tb_m4 (List.mem_of_getElem? (i := 135) rfl)) rfl
    | 13, _ => tb_at (tb_m4 (List.mem_of_getElem? (i := 137) rfl)) rfl
    | 14, _ => tb_at (tb_m4 (List.mem_of_getElem? (i := 139) rfl)) rfl
    | 15, _ => tb_at (tb_m4 (List.mem_of_getElem? (i := 141) rfl)) rfl
    | 16, _ => tb_at (tb_m4 (List.mem_of_getElem? (i := 143) rfl)) rfl
    | 17, _ => tb_at (tb_m4 (List.mem_of_getElem? (i := 145) rfl)) rfl
    | 18, _ => tb_at (tb_m4 (List.mem_of_getElem? (i := 147) rfl)) rfl
    | 19, _ => tb_at (tb_m4 (List.mem_of_getElem? (i := 149) rfl)) rfl
    | 20, _ => tb_at (tb_m4 (List.mem_of_getElem? (i := 151) rfl)) rfl
    | 21, _ => tb_at (tb_m4 (List.mem_of_getElem? (i := 153) rfl)) rfl
    | 22, _ => tb_at (tb_m4 (List.mem_of_getElem? (i := 155) rfl)) rfl
    | 23, _ => tb_at (tb_m4 (List.mem_of_getElem? (i := 157) rfl)) rfl
    | 24, _ => tb_at (tb_m4 (List.mem_of_getElem? (i := 159) rfl)) rfl
    | 25, _ => tb_at (tb_m4 (List.mem_of_getElem? (i := 161) rfl)) rfl
    | 26, _ => tb_at (tb_m4 (List.mem_of_getElem? (i := 163) rfl)) rfl
    | 27, _ => tb_at (tb_m4 (List.mem_of_getElem? (i := 165) rfl)) rfl
    | 28, _ => tb_at (tb_m4 (List.mem_of_getElem? (i := 167) rfl)) rfl
    | 29, _ => tb_at (tb_m4 (List.mem_of_getElem? (i := 169) rfl)) rfl
    | 30, _ => tb_at (tb_m4 (List.mem_of_getElem? (i := 171) rfl)) rfl
    | 31, _ => tb_at (tb_m4 (List.mem_of_getElem? (i := 173) rfl)) rfl
    | q + 32, h => absurd h (by omega)
theorem fl_RX0_9 : cb_FL RX0 9 0 0 := ⟨RX0, TX0, 4, rfl, tw_RX0, by decide, tb_at (tb_m1 (List.mem_of_getElem? (i := 159) rfl)) rfl⟩
theorem fl_RX0_15 : cb_FL RX0 15 0 1 := ⟨RX0, TX0, 4, rfl, tw_RX0, by decide, tb_at (tb_m1 (List.mem_of_getElem? (i := 160) rfl)) rfl⟩
theorem fl_RX0_19 : cb_FL RX0 19 0 2 := ⟨RX0, TX0, 4, rfl, tw_RX0, by decide, tb_at (tb_m1 (List.mem_of_getElem? (i := 161) rfl)) rfl⟩
theorem fl_RX0_23 : cb_FL RX0 23 0 3 := ⟨RX0, TX0, 4, rfl, tw_RX0, by decide, tb_at (tb_m1 (List.mem_of_getElem? (i := 162) rfl)) rfl⟩
theorem fl_RX1_9 : cb_FL RX1 9 1 0 := ⟨RX1, TX1, 10, rfl, tw_RX1, by decide, tb_at (tb_m1 (List.mem_of_getElem? (i := 44) rfl)) rfl⟩
theorem fl_RX1_15 : cb_FL RX1 15 1 1 := ⟨RX1, TX1, 10, rfl, tw_RX1, by decide, tb_at (tb_m1 (List.mem_of_getElem? (i := 45) rfl)) rfl⟩
theorem fl_RX1_19 : cb_FL RX1 19 1 2 := ⟨RX1, TX1, 10, rfl, tw_RX1, by decide, tb_at (tb_m1 (List.mem_of_getElem? (i := 46) rfl)) rfl⟩
theorem fl_RX1_22 : cb_FL RX1 22 1 3 := ⟨RX1, TX1, 10, rfl, tw_RX1, by decide, tb_at (tb_m1 (List.mem_of_getElem? (i := 47) rfl)) rfl⟩
theorem fl_RX1_25 : cb_FL RX1 25 1 4 := ⟨RX1, TX1, 10, rfl, tw_RX1, by decide, tb_at (tb_m1 (List.mem_of_getElem? (i := 48) rfl)) rfl⟩
theorem fl_RX1_28 : cb_FL RX1 28 1 5 := ⟨RX1, TX1, 10, rfl, tw_RX1, by decide, tb_at (tb_m1 (List.mem_of_getElem? (i := 49) rfl)) rfl⟩
theorem fl_RX1_31 : cb_FL RX1 31 1 6 := ⟨RX1, TX1, 10, rfl, tw_RX1, by decide, tb_at (tb_m1 (List.mem_of_getElem? (i := 50) rfl)) rfl⟩
theorem fl_RX1_44 : cb_FL RX1 44 1 7 := ⟨RX1, TX1, 10, rfl, tw_RX1, by decide, tb_at (tb_m1 (List.mem_of_getElem? (i := 51) rfl)) rfl⟩
theorem fl_RX1_48 : cb_FL RX1 48 1 8 := ⟨RX1, TX1, 10, rfl, tw_RX1, by decide, tb_at (tb_m1 (List.mem_of_getElem? (i := 52) rfl)) rfl⟩
theorem fl_RX1_57 : cb_FL RX1 57 1 9 := ⟨RX1, TX1, 10, rfl, tw_RX1, by decide, tb_at (tb_m1 (List.mem_of_getElem? (i := 53) rfl)) rfl⟩
theorem fl_RX2_11 : cb_FL RX2 11 2 0 := ⟨RX2, TX2, 6, rfl, tw_RX2, by decide, tb_at (tb_m1 (List.mem_of_getElem? (i := 196) rfl)) rfl⟩
theorem fl_RX2_16 : cb_FL RX2 16 2 1 := ⟨RX2, TX2, 6, rfl, tw_RX2, by decide, tb_at (tb_m1 (List.mem_of_getElem? (i := 197) rfl)) rfl⟩
theorem fl_RX2_20 : cb_FL RX2 20 2 2 := ⟨RX2, TX2, 6, rfl, tw_RX2, by decide, tb_at (tb_m1 (List.mem_of_getElem? (i := 198) rfl)) rfl⟩
theorem fl_RX2_23 : cb_FL RX2 23 2 3 := ⟨RX2, TX2, 6, rfl, tw_RX2, by decide, tb_at (tb_m1 (List.mem_of_getElem? (i := 199) rfl)) rfl⟩
theorem fl_RX2_26 : cb_FL RX2 26 2 4 := ⟨RX2, TX2, 6, rfl, tw_RX2, by decide, tb_at (tb_m1 (List.mem_of_getElem? (i := 200) rfl)) rfl⟩
theorem fl_RX2_30 : cb_FL RX2 30 2 5 := ⟨RX2, TX2, 6, rfl, tw_RX2, by decide, tb_at (tb_m1 (List.mem_of_getElem? (i := 201) rfl)) rfl⟩
theorem fl_RX3_9 : cb_FL RX3 9 3 0 := ⟨RX3, TX3, 3, rfl, tw_RX3, by decide, tb_at (tb_m1 (List.mem_of_getElem? (i := 27) rfl)) rfl⟩
theorem fl_RX3_15 : cb_FL RX3 15 3 1 := ⟨RX3, TX3, 3, rfl, tw_RX3, by decide, tb_at (tb_m1 (List.mem_of_getElem? (i := 28) rfl)) rfl⟩
theorem fl_RX3_19 : cb_FL RX3 19 3 2 := ⟨RX3, TX3, 3, rfl, tw_RX3, by decide, tb_at (tb_m1 (List.mem_of_getElem? (i := 29) rfl)) rfl⟩
theorem fl_RX4_9 : cb_FL RX4 9 4 0 := ⟨RX4, TX4, 3, rfl, tw_RX4, by decide, tb_at (tb_m1 (List.mem_of_getElem? (i := 178) rfl)) rfl⟩
theorem fl_RX4_15 : cb_FL RX4 15 4 1 := ⟨RX4, TX4, 3, rfl, tw_RX4, by decide, tb_at (tb_m1 (List.mem_of_getElem? (i := 179) rfl)) rfl⟩
theorem fl_RX4_18 : cb_FL RX4 18 4 2 := ⟨RX4, TX4, 3, rfl, tw_RX4, by decide, tb_at (tb_m1 (List.mem_of_getElem? (i := 180) rfl)) rfl⟩
theorem fl_RX5_9 : cb_FL RX5 9 5 0 := ⟨RX5, TX5, 13, rfl, tw_RX5, by decide, tb_at (tb_m1 (List.mem_of_getElem? (i := 82) rfl)) rfl⟩
theorem fl_RX5_15 : cb_FL RX5 15 5 1 := ⟨RX5, TX5, 13, rfl, tw_RX5, by decide, tb_at (tb_m1 (List.mem_of_getElem? (i := 83) rfl)) rfl⟩
theorem fl_RX5_18 : cb_FL RX5 18 5 2 := ⟨RX5, TX5, 13, rfl, tw_RX5, by decide, tb_at (tb_m1 (List.mem_of_getElem? (i := 84) rfl)) rfl⟩
theorem fl_RX5_21 : cb_FL RX5 21 5 3 := ⟨RX5, TX5, 13, rfl, tw_RX5, by decide, tb_at (tb_m1 (List.mem_of_getElem? (i := 85) rfl)) rfl⟩
theorem fl_RX5_24 : cb_FL RX5 24 5 4 := ⟨RX5, TX5, 13, rfl, tw_RX5, by decide, tb_at (tb_m1 (List.mem_of_getElem? (i := 86) rfl)) rfl⟩
theorem fl_RX5_27 : cb_FL RX5 27 5 5 := ⟨RX5, TX5, 13, rfl, tw_RX5, by decide, tb_at (tb_m1 (List.mem_of_getElem? (i := 87) rfl)) rfl⟩
theorem fl_RX5_30 : cb_FL RX5 30 5 6 := ⟨RX5, TX5, 13, rfl, tw_RX5, by decide, tb_at (tb_m1 (List.mem_of_getElem? (i := 88) rfl)) rfl⟩
theorem fl_RX5_33 : cb_FL RX5 33 5 7 := ⟨RX5, TX5, 13, rfl, tw_RX5, by decide, tb_at (tb_m1 (List.mem_of_getElem? (i := 89) rfl)) rfl⟩
theorem fl_RX5_36 : cb_FL RX5 36 5 8 := ⟨RX5, TX5, 13, rfl, tw_RX5, by decide, tb_at (tb_m1 (List.mem_of_getElem? (i := 90) rfl)) rfl⟩
theorem fl_RX5_39 : cb_FL RX5 39 5 9 := ⟨RX5, TX5, 13, rfl, tw_RX5, by decide, tb_at (tb_m1 (List.mem_of_getElem? (i := 91) rfl)) rfl⟩
theorem fl_RX5_48 : cb_FL RX5 48 5 10 := ⟨RX5, TX5, 13, rfl, tw_RX5, by decide, tb_at (tb_m1 (List.mem_of_getElem? (i := 92) rfl)) rfl⟩
theorem fl_RX5_54 : cb_FL RX5 54 5 12 := ⟨RX5, TX5, 13, rfl, tw_RX5, by decide, tb_at (tb_m1 (List.mem_of_getElem? (i := 94) rfl)) rfl⟩
theorem fl_RX5_80 : cb_FL RX5 80 5 11 := ⟨RX5, TX5, 13, rfl, tw_RX5, by decide, tb_at (tb_m1 (List.mem_of_getElem? (i := 93) rfl)) rfl⟩
theorem fl_RX6_9 : cb_FL RX6 9 6 0 := ⟨RX6, TX6, 8, rfl, tw_RX6, by decide, tb_at (tb_m1 (List.mem_of_getElem? (i := 128) rfl)) rfl⟩
theorem fl_RX6_15 : cb_FL RX6 15 6 1 := ⟨RX6, TX6, 8, rfl, tw_RX6, by decide, tb_at (tb_m1 (List.mem_of_getElem? (i := 129) rfl)) rfl⟩
theorem fl_RX6_18 : cb_FL RX6 18 6 2 := ⟨RX6, TX6, 8, rfl, tw_RX6, by decide, tb_at (tb_m1 (List.mem_of_getElem? (i := 130) rfl)) rfl⟩
theorem fl_RX6_21 : cb_FL RX6 21 6 3 := ⟨RX6, TX6, 8, rfl, tw_RX6, by decide, tb_at (tb_m1 (List.mem_of_getElem? (i := 131) rfl)) rfl⟩
theorem fl_RX6_30 : cb_FL RX6 30 6 4 := ⟨RX6, TX6, 8, rfl, tw_RX6, by decide, tb_at (tb_m1 (List.mem_of_getElem? (i := 132) rfl)) rfl⟩
theorem fl_RX6_39 : cb_FL RX6 39 6 7 := ⟨RX6, TX6, 8, rfl, tw_RX6, by decide, tb_at (tb_m1 (List.mem_of_getElem? (i := 135) rfl)) rfl⟩
theorem fl_RX6_42 : cb_FL RX6 42 6 5 := ⟨RX6, TX6, 8, rfl, tw_RX6, by decide, tb_at (tb_m1 (List.mem_of_getElem? (i := 133) rfl)) rfl⟩
theorem fl_RX6_76 : cb_FL RX6 76 6 6 := ⟨RX6, TX6, 8, rfl, tw_RX6, by decide, tb_at (tb_m1 (List.mem_of_getElem? (i := 134) rfl)) rfl⟩
theorem fl_RX8_10 : cb_FL RX8 10 7 0 := ⟨RX8, TX8, 7, rfl, tw_RX8, by decide, tb_at (tb_m2 (List.mem_of_getElem? (i := 145) rfl)) rfl⟩
theorem fl_RX8_19 : cb_FL RX8 19 7 1 := ⟨RX8, TX8, 7, rfl, tw_RX8, by decide, tb_at (tb_m2 (List.mem_of_getElem? (i := 146) rfl)) rfl⟩
theorem fl_RX8_26 : cb_FL RX8 26 7 2 := ⟨RX8, TX8, 7, rfl, tw_RX8, by decide, tb_at (tb_m2 (List.mem_of_getElem? (i := 147) rfl)) rfl⟩
theorem fl_RX8_33 : cb_FL RX8 33 7 3 := ⟨RX8, TX8, 7, rfl, tw_RX8, by decide, tb_at (tb_m2 (List.mem_of_getElem? (i := 148) rfl)) rfl⟩
theorem fl_RX8_42 : cb_FL RX8 42 7 4 := ⟨RX8, TX8, 7, rfl, tw_RX8, by decide, tb_at (tb_m2 (List.mem_of_getElem? (i := 149) rfl)) rfl⟩
theorem fl_RX8_49 : cb_FL RX8 49 7 5 := ⟨RX8, TX8, 7, rfl, tw_RX8, by decide, tb_at (tb_m2 (List.mem_of_getElem? (i := 150) rfl)) rfl⟩
theorem fl_RX8_56 : cb_FL RX8 56 7 6 := ⟨RX8, TX8, 7, rfl, tw_RX8, by decide, tb_at (tb_m2 (List.mem_of_getElem? (i := 151) rfl)) rfl⟩
theorem fl_RX9_7 : cb_FL RX9 7 8 2 := ⟨RX9, TX9, 32, rfl, tw_RX9, by decide, tb_at (tb_m4 (List.mem_of_getElem? (i := 81) rfl)) rfl⟩
theorem fl_RX9_13 : cb_FL RX9 13 8 6 := ⟨RX9, TX9, 32, rfl, tw_RX9, by decide, tb_at (tb_m4 (List.mem_of_getElem? (i := 85) rfl)) rfl⟩
theorem fl_RX9_16 : cb_FL RX9 16 8 7 := ⟨RX9, TX9, 32, rfl, tw_RX9, by decide, tb_at (tb_m4 (List.mem_of_getElem? (i := 86) rfl)) rfl⟩
theorem fl_RX9_19 : cb_FL RX9 19 8 8 := ⟨RX9, TX9, 32, rfl, tw_RX9, by decide, tb_at (tb_m4 (List.mem_of_getElem? (i := 87) rfl)) rfl⟩
theorem fl_RX9_22 : cb_FL RX9 22 8 9 := ⟨RX9, TX9, 32, rfl, tw_RX9, by decide, tb_at (tb_m4 (List.mem_of_getElem? (i := 88) rfl)) rfl⟩
theorem fl_RX9_25 : cb_FL RX9 25 8 10 := ⟨RX9, TX9, 32, rfl, tw_RX9, by decide, tb_at (tb_m4 (List.mem_of_getElem? (i := 89) rfl)) rfl⟩
theorem fl_RX9_28 : cb_FL RX9 28 8 11 := ⟨RX9, TX9, 32, rfl, tw_RX9, by decide, tb_at (tb_m4 (List.mem_of_getElem? (i := 90) rfl)) rfl⟩
theorem fl_RX9_31 : cb_FL RX9 31 8 12 := ⟨RX9, TX9, 32, rfl, tw_RX9, by decide, tb_at (tb_m4 (List.mem_of_getElem? (i := 91) rfl)) rfl⟩
theorem fl_RX9_34 : cb_FL RX9 34 8 14 := ⟨RX9, TX9, 32, rfl, tw_RX9, by decide, tb_at (tb_m4 (List.mem_of_getElem? (i := 93) rfl)) rfl⟩
theorem fl_RX9_38 : cb_FL RX9 38 8 15 := ⟨RX9, TX9, 32, rfl, tw_RX9, by decide, tb_at (tb_m4 (List.mem_of_getElem? (i := 94) rfl)) rfl⟩
theorem fl_RX9_41 : cb_FL RX9 41 8 16 := ⟨RX9, TX9, 32, rfl, tw_RX9, by decide, tb_at (tb_m4 (List.mem_of_getElem? (i := 95) rfl)) rfl⟩
theorem fl_RX9_44 : cb_FL RX9 44 8 17 := ⟨RX9, TX9, 32, rfl, tw_RX9, by decide, tb_at (tb_m4 (List.mem_of_getElem? (i := 96) rfl)) rfl⟩
theorem fl_RX9_47 : cb_FL RX9 47 8 19 := ⟨RX9, TX9, 32, rfl, tw_RX9, by decide, tb_at (tb_m4 (List.mem_of_getElem? (i := 98) rfl)) rfl⟩
theorem fl_RX9_50 : cb_FL RX9 50 8 21 := ⟨RX9, TX9, 32, rfl, tw_RX9, by decide, tb_at (tb_m4 (List.mem_of_getElem? (i := 100) rfl)) rfl⟩
theorem fl_RX9_53 : cb_FL RX9 53 8 22 := ⟨RX9, TX9, 32, rfl, tw_RX9, by decide, tb_at (tb_m4 (List.mem_of_getElem? (i := 101) rfl)) rfl⟩
theorem fl_RX9_56 : cb_FL RX9 56 8 23 := ⟨RX9, TX9, 32, rfl, tw_RX9, by decide, tb_at (tb_m4 (List.mem_of_getElem? (i := 102) rfl)) rfl⟩
theorem fl_RX9_59 : cb_FL RX9 59 8 24 := ⟨RX9, TX9, 32, rfl, tw_RX9, by decide, tb_at (tb_m4 (List.mem_of_getElem? (i := 103) rfl)) rfl⟩
theorem fl_RX9_62 : cb_FL RX9 62 8 25 := ⟨RX9, TX9, 32, rfl, tw_RX9, by decide, tb_at (tb_m4 (List.mem_of_getElem? (i := 104) rfl)) rfl⟩
theorem fl_RX9_65 : cb_FL RX9 65 8 26 := ⟨RX9, TX9, 32, rfl, tw_RX9, by decide, tb_at (tb_m4 (List.mem_of_getElem? (i := 105) rfl)) rfl⟩
theorem fl_RX9_68 : cb_FL RX9 68 8 27 := ⟨RX9, TX9, 32, rfl, tw_RX9, by decide, tb_at (tb_m4 (List.mem_of_getElem? (i := 106) rfl)) rfl⟩
theorem fl_RX9_71 : cb_FL RX9 71 8 30 := ⟨RX9, TX9, 32, rfl, tw_RX9, by decide, tb_at (tb_m4 (List.mem_of_getElem? (i := 109) rfl)) rfl⟩
theorem fl_RX9_74 : cb_FL RX9 74 8 31 := ⟨RX9, TX9, 32, rfl, tw_RX9, by decide, tb_at (tb_m4 (List.mem_of_getElem? (i := 110) rfl)) rfl⟩
theorem fl_RX9_77 : cb_FL RX9 77 8 5 := ⟨RX9, TX9, 32, rfl, tw_RX9, by decide, tb_at (tb_m4 (List.mem_of_getElem? (i := 84) rfl)) rfl⟩
theorem fl_RX9_81 : cb_FL RX9 81 8 1 := ⟨RX9, TX9, 32, rfl, tw_RX9, by decide, tb_at (tb_m4 (List.mem_of_getElem? (i := 80) rfl)) rfl⟩
theorem fl_RX9_84 : cb_FL RX9 84 8 3 := ⟨RX9, TX9, 32, rfl, tw_RX9, by decide, tb_at (tb_m4 (List.mem_of_getElem? (i := 82) rfl)) rfl⟩
theorem fl_RX9_87 : cb_FL RX9 87 8 4 := ⟨RX9, TX9, 32, rfl, tw_RX9, by decide, tb_at (tb_m4 (List.mem_of_getElem? (i := 83) rfl)) rfl⟩
theorem fl_RX9_109 : cb_FL RX9 109 8 0 := ⟨RX9, TX9, 32, rfl, tw_RX9, by decide, tb_at (tb_m4 (List.mem_of_getElem? (i := 79) rfl)) rfl⟩
theorem fl_RX9_112 : cb_FL RX9 112 8 13 := ⟨RX9, TX9, 32, rfl, tw_RX9, by decide, tb_at (tb_m4 (List.mem_of_getElem? (i := 92) rfl)) rfl⟩
theorem fl_RX9_119 : cb_FL RX9 119 8 18 := ⟨RX9, TX9, 32, rfl, tw_RX9, by decide, tb_at (tb_m4 (List.mem_of_getElem? (i := 97) rfl)) rfl⟩
theorem fl_RX9_129 : cb_FL RX9 129 8 20 := ⟨RX9, TX9, 32, rfl, tw_RX9, by decide, tb_at (tb_m4 (List.mem_of_getElem? (i := 99) rfl)) rfl⟩
theorem fl_RX9_147 : cb_FL RX9 147 8 28 := ⟨RX9, TX9, 32, rfl, tw_RX9, by decide, tb_at (tb_m4 (List.mem_of_getElem? (i := 107) rfl)) rfl⟩
theorem fl_RX9_203 : cb_FL RX9 203 8 29 := ⟨RX9, TX9, 32, rfl, tw_RX9, by decide, tb_at (tb_m4 (List.mem_of_getElem? (i := 108) rfl)) rfl⟩
theorem fp_RX0_19 : cb_FP RX0 19 0 2 := ⟨RX0, TX0, 4, tyX0, rfl, tw_RX0, by decide, tb_at (tb_m1 (List.mem_of_getElem? (i := 161) rfl)) rfl, tyX0_ok, nmX0, rfl, rfl⟩
theorem fp_RX0_23 : cb_FP RX0 23 0 3 := ⟨RX0, TX0, 4, tyX0, rfl, tw_RX0, by decide, tb_at (tb_m1 (List.mem_of_getElem? (i := 162) rfl)) rfl, tyX0_ok, nmX0, rfl, rfl⟩
theorem fp_RX1_44 : cb_FP RX1 44 1 7 := ⟨RX1, TX1, 10, tyX1, rfl, tw_RX1, by decide, tb_at (tb_m1 (List.mem_of_getElem? (i := 51) rfl)) rfl, tyX1_ok, nmX1, rfl, rfl⟩
theorem fp_RX1_48 : cb_FP RX1 48 1 8 := ⟨RX1, TX1, 10, tyX1, rfl, tw_RX1, by decide, tb_at (tb_m1 (List.mem_of_getElem? (i := 52) rfl)) rfl, tyX1_ok, nmX1, rfl, rfl⟩
theorem fp_RX1_57 : cb_FP RX1 57 1 9 := ⟨RX1, TX1, 10, tyX1, rfl, tw_RX1, by decide, tb_at (tb_m1 (List.mem_of_getElem? (i := 53) rfl)) rfl, tyX1_ok, nmX1, rfl, rfl⟩
theorem fp_RX2_26 : cb_FP RX2 26 2 4 := ⟨RX2, TX2, 6, tyX2, rfl, tw_RX2, by decide, tb_at (tb_m1 (List.mem_of_getElem? (i := 200) rfl)) rfl, tyX2_ok, nmX2, rfl, rfl⟩
theorem fp_RX2_30 : cb_FP RX2 30 2 5 := ⟨RX2, TX2, 6, tyX2, rfl, tw_RX2, by decide, tb_at (tb_m1 (List.mem_of_getElem? (i := 201) rfl)) rfl, tyX2_ok, nmX2, rfl, rfl⟩
theorem fp_RX3_15 : cb_FP RX3 15 3 1 := ⟨RX3, TX3, 3, tyX3, rfl, tw_RX3, by decide, tb_at (tb_m1 (List.mem_of_getElem? (i := 28) rfl)) rfl, tyX3_ok, nmX3, rfl, rfl⟩
theorem fp_RX3_19 : cb_FP RX3 19 3 2 := ⟨RX3, TX3, 3, tyX3, rfl, tw_RX3, by decide, tb_at (tb_m1 (List.mem_of_getElem? (i := 29) rfl)) rfl, tyX3_ok, nmX3, rfl, rfl⟩
theorem fp_RX4_18 : cb_FP RX4 18 4 2 := ⟨RX4, TX4, 3, tyX4, rfl, tw_RX4, by decide, tb_at (tb_m1 (List.mem_of_getElem? (i := 180) rfl)) rfl, tyX4_ok, nmX4, rfl, rfl⟩
