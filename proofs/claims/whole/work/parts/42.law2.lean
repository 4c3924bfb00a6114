section ljS
variable {X : lj_C} {OC OM : cb_O} {kc ks : Nat} {pc : Nat} {ls : cb_L} {st : List cb_V} {gC gM : cb_S}
variable {y : MethodName} {bytes : ByteArray} {maxL n idx : Nat} {rt : Option FieldType} {rm : Room} {as : List Int} {rest : List cb_V} {r : Int} {T : u_T} {N : Nat}
theorem lj_ints (ad ad' : Nat → Nat) (as : List Int) : (as.map Sum.inl).map (cb_v ad) = (as.map Sum.inl).map (cb_v ad') := by
  induction as with
  | nil => rfl
  | cons a l ih => rw [List.map_cons, List.map_cons, List.map_cons, ih]; rfl
theorem lj_sep {A : Nat → Prop} {w1 w2 : va_W} (h : va_D A (w1 ++ w2)) {i j : Nat} {p q : Nat × va_E} (hi : w1[i]? = some p) (hj : w2[j]? = some q) : p.1 ≠ q.1 := fun e => by
  have hl := (List.getElem?_eq_some_iff.mp hi).1
  have h1 : (w1 ++ w2)[i]? = some p := by rw [List.getElem?_append_left hl]; exact hi
  have h2 : (w1 ++ w2)[w1.length + j]? = some q := by rw [List.getElem?_append_right (by omega)]; rw [show w1.length + j - w1.length = j by omega]; exact hj
  have := h.1 _ _ _ _ h1 h2 e
  omega
theorem lj_callC {gC' : cb_S} (h : lj_ok X OC OM) (hl : cb_LV R_law idx y bytes maxL rt n) (hR : rm.frames + 1 ≤ room_1.frames ∧ 8 + (maxL + 11) + rm.locals ≤ room_1.locals) (hrc : rm.cells = 0 ∧ rm.slots = 0) (hk : kc ≤ room_1.cells ∧ ks ≤ room_1.slots) (hd : decode code pc = .ok (.invokevirtual idx, 3)) (hm : cb_J OC skC → cb_m OC skC false y bytes maxL rt rm (.inr 0 :: as.map Sum.inl) gC (r, gC')) (hst : (as.map Sum.inl).reverse ++ .inr 1 :: rest = st) (hn : as.length = n) (h8 : rest.length ≤ 8) (hcl : vwCl[7]? = some (y.cls, T, N))
    (kk : lj X OC OM kc ks (pc + 3) ls (.inl r :: rest) gC' gM) : lj X OC OM kc ks pc ls st gC gM := by
  subst hst
  obtain ⟨p, l, e, s, m, below, meth, c, b, L, xs⟩ := X
  intro H locs Ls hP hS hL
  obtain ⟨⟨hx, hb, hr, hml, hown, hts, hX, hbl, hlocks, hgv⟩, hl1, hl2, hD1, hD2, hKC, hKM, hJC, hJM, hD⟩ := h
  replace hl1 : OC.1 = l := hl1
  subst hl1
  replace hm := hm hJC
  obtain ⟨l1, l2, l3, l3b, l4, l5⟩ := hl
  have htG : ∀ w ∈ tb_G, w.before #[Value.ref b] s = true := fun w hw => hts w (List.mem_filter.mp hw).1
  have hPC : va_P OC.2.1 vwCl (cb_W OC skC gC) H := fun k q hk => hP k q (by rw [List.getElem?_append_left (List.getElem?_eq_some_iff.mp hk).1]; exact hk)
  have hPM : va_P OC.2.1 vwCl (cb_W OM skM gM) H := fun k q hk => hP ((cb_W OC skC gC).length + k) q (by rw [List.getElem?_append_right (by omega), show (cb_W OC skC gC).length + k - (cb_W OC skC gC).length = k by omega]; exact hk)
  obtain ⟨rs, hrs⟩ : ∃ rs, skC.1 0 = .inr (.inr (7, rs)) := ⟨_, skC_c0⟩
  have hg : (cb_W OC skC gC)[0]? = some (OC.2.2.2 0, .inr (7, cb_f OC.2.2.2 (gC 0) 0 rs)) := by rw [cb_get skC_b0, hrs]; rfl
  have hAA : ∀ q, cb_A OC skC q → s.heap.size ≤ q := fun q hq => by
    obtain ⟨k, hk, rfl⟩ := hq
    exact (hD gC gM).2 k (OC.2.2.2 k, cb_cell OC (skC.1 k) (gC k)) (by rw [List.getElem?_append_left (by simp [cb_W]; exact hk), cb_get hk])
  have hrun := va_runV (R := room_1) (H := H) (locs := locs) (cells := kc) (slots := ks) (p := p) (e := e) (s := s) (below := below) (meth := meth) (As := (as.map Sum.inl).map (cb_v OC.2.2.2)) (rest := rest.map (cb_v (lj_ad b OC OM))) (C := y.cls) (g := F0 m pc Ls (((as.map Sum.inl).reverse ++ (Sum.inr 1 : cb_V) :: rest).map (cb_v (lj_ad b OC OM)))) ⟨hx, hb, hml, hown, htG⟩ hm ⟨callB_of n htG (tb_inG l4) rfl hrc.1 hrc.2 (htG _ l3b) (htG _ l1) l5 hR, htG _ l2, htG _ l3⟩ ⟨cb_blind, va_recv hKC.1 hPC hcl hg, fun U hU hW => ⟨rfl, by rw [hU]; exact hPC, hKC.warm hW⟩⟩ rfl (by rw [List.length_map, List.length_map]; exact hn) hL.1 (by rw [lj_ints OC.2.2.2 (lj_ad b OC OM) as, List.map_append, List.map_reverse]; rfl) (lv_room (by rw [cb_catsum]; exact h8)) hd ⟨hk.1, hk.2⟩
  refine va_calli (a := (((Sum.inr 0 : cb_V) :: as.map Sum.inl).map (cb_v OC.2.2.2)).toArray) hrun hS (fun q _ z => hAA q z) hAA (fun r0 u t H1 locs1 ht hvm hw hB hz hk1 hS1 => ?_)
  rw [ht] at hB
  subst hw
  refine kk H1 locs1 Ls (va_P.app hB (hPM.kept (fun k q hq => ?_))) hS1 hL
  have hlt : q.1 < H.size := (hPM k q hq).lt
  refine hk1 q.1 hlt (fun hz => ?_)
  obtain ⟨k2, hk2, he⟩ := hz
  exact lj_sep (hD gC gM) (cb_get (O := OC) (K := skC) (g := gC) hk2) hq he.symm
theorem lj_callM {gM' : cb_S} (h : lj_ok X OC OM) (hl : cb_LV R_law idx y bytes maxL rt n) (hR : rm.frames + 1 ≤ room_1.frames ∧ 8 + (maxL + 11) + rm.locals ≤ room_1.locals) (hrc : rm.cells = 0 ∧ rm.slots = 0) (hk : kc ≤ room_1.cells ∧ ks ≤ room_1.slots) (hd : decode code pc = .ok (.invokevirtual idx, 3)) (hm : cb_J OM skM → cb_m OM skM false y bytes maxL rt rm (.inr 0 :: as.map Sum.inl) gM (r, gM')) (hst : (as.map Sum.inl).reverse ++ .inr 2 :: rest = st) (hn : as.length = n) (h8 : rest.length ≤ 8) (hcl : vwCl[8]? = some (y.cls, T, N))
    (kk : lj X OC OM kc ks (pc + 3) ls (.inl r :: rest) gC gM') : lj X OC OM kc ks pc ls st gC gM := by
  subst hst
  obtain ⟨p, l, e, s, m, below, meth, c, b, L, xs⟩ := X
  intro H locs Ls hP hS hL
  obtain ⟨⟨hx, hb, hr, hml, hown, hts, hX, hbl, hlocks, hgv⟩, hl1, hl2, hD1, hD2, hKC, hKM, hJC, hJM, hD⟩ := h
  replace hl2 : OM.1 = l := hl2
  subst hl2
  rw [hD1] at hP
  replace hm := hm hJM
  obtain ⟨l1, l2, l3, l3b, l4, l5⟩ := hl
  have htG : ∀ w ∈ tb_G, w.before #[Value.ref b] s = true := fun w hw => hts w (List.mem_filter.mp hw).1
  have hPC : va_P OM.2.1 vwCl (cb_W OC skC gC) H := fun k q hk => hP k q (by rw [List.getElem?_append_left (List.getElem?_eq_some_iff.mp hk).1]; exact hk)
  have hPM : va_P OM.2.1 vwCl (cb_W OM skM gM) H := fun k q hk => hP ((cb_W OC skC gC).length + k) q (by rw [List.getElem?_append_right (by omega), show (cb_W OC skC gC).length + k - (cb_W OC skC gC).length = k by omega]; exact hk)
  obtain ⟨rs, hrs⟩ : ∃ rs, skM.1 0 = .inr (.inr (8, rs)) := ⟨_, skM_c0⟩
  have hg : (cb_W OM skM gM)[0]? = some (OM.2.2.2 0, .inr (8, cb_f OM.2.2.2 (gM 0) 0 rs)) := by rw [cb_get skM_b0, hrs]; rfl
  have hAA : ∀ q, cb_A OM skM q → s.heap.size ≤ q := fun q hq => by
    obtain ⟨k, hk, rfl⟩ := hq
    exact (hD gC gM).2 ((cb_W OC skC gC).length + k) (OM.2.2.2 k, cb_cell OM (skM.1 k) (gM k)) (by rw [List.getElem?_append_right (by omega), show (cb_W OC skC gC).length + k - (cb_W OC skC gC).length = k by omega, cb_get hk])
  have hrun := va_runV (R := room_1) (H := H) (locs := locs) (cells := kc) (slots := ks) (p := p) (e := e) (s := s) (below := below) (meth := meth) (As := (as.map Sum.inl).map (cb_v OM.2.2.2)) (rest := rest.map (cb_v (lj_ad b OC OM))) (C := y.cls) (g := F0 m pc Ls (((as.map Sum.inl).reverse ++ (Sum.inr 2 : cb_V) :: rest).map (cb_v (lj_ad b OC OM)))) ⟨hx, hb, hml, hown, htG⟩ hm ⟨callB_of n htG (tb_inG l4) rfl hrc.1 hrc.2 (htG _ l3b) (htG _ l1) l5 hR, htG _ l2, htG _ l3⟩ ⟨cb_blind, va_recv hKM.1 hPM hcl hg, fun U hU hW => ⟨rfl, by rw [hU]; exact hPM, hKM.warm hW⟩⟩ rfl (by rw [List.length_map, List.length_map]; exact hn) hL.1 (by rw [lj_ints OM.2.2.2 (lj_ad b OC OM) as, List.map_append, List.map_reverse]; rfl) (lv_room (by rw [cb_catsum]; exact h8)) hd ⟨hk.1, hk.2⟩
  refine va_calli (a := (((Sum.inr 0 : cb_V) :: as.map Sum.inl).map (cb_v OM.2.2.2)).toArray) hrun hS (fun q _ z => hAA q z) hAA (fun r0 u t H1 locs1 ht hvm hw hB hz hk1 hS1 => ?_)
  rw [ht] at hB
  subst hw
  refine kk H1 locs1 Ls ?_ hS1 hL
  rw [hD1]
  refine va_P.app (hPC.kept (fun k q hq => ?_)) hB
  have hlt : q.1 < H.size := (hPC k q hq).lt
  refine hk1 q.1 hlt (fun hz => ?_)
  obtain ⟨k2, hk2, he⟩ := hz
  exact lj_sep (hD gC gM) hq (cb_get (O := OM) (K := skM) (g := gM) hk2) he
end ljS
