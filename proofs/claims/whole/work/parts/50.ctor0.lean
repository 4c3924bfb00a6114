/-! making cells: new arrays with their classes' ids known ahead -/
theorem vr_outer (c : ClassId) (N h0 : Nat) : ∀ i : Nat, Jvm.Free.Multi.outerC c N h0 i = arrV c N (fun j => va_rf (if j < i then some (h0 + 1 + j) else none))
  | 0 => by
    show ({ cls := c, slots := Array.replicate N .null, vm := .none } : Cell) = _
    rw [arrV_new]
    refine congrArg (arrV c N) (funext fun j => ?_)
    simp [va_rf]
  | i + 1 => by
    show (Jvm.Free.Multi.outerC c N h0 i).setSlot i (.ref (h0 + 1 + i)) = _
    rw [vr_outer c N h0 i, arrV_store]
    refine congrArg (arrV c N) (funext fun j => ?_)
    by_cases e : j = i
    · subst e
      simp [updV, va_rf]
    · by_cases h : j < i
      · simp [updV, e, h, Nat.lt_succ_of_lt h]
      · simp [updV, e, h, show ¬ j < i + 1 by omega]
theorem kt_D {A : Nat → Prop} {D : va_G} {cl : List vw_C} {ws w2 : va_W} {H : Heap} (hD : va_D A ws) (hP : va_P D cl ws H) (h2 : ∀ (k : Nat) (q : Nat × va_E), w2[k]? = some q → q.1 = H.size + k) (hA : ∀ q, H.size ≤ q → A q) : va_D A (ws ++ w2) := by
  refine va_D.app hD ⟨fun i j x y hi hj hxy => ?_, fun k q hk => hA _ (by rw [h2 k q hk]; omega)⟩ (fun i j x y hi hj hxy => ?_)
  · have e1 := h2 i x hi
    have e2 := h2 j y hj
    omega
  · have e1 := (hP i x hi).lt
    have e2 := h2 j y hj
    omega
def kt_AO (U : State) : Prop := (Cond.arrayOver (.array .int)).before #[] U = true
theorem kt_AO.use {A : Array Value} {U : State} (h : kt_AO U) : (Cond.arrayOver (.array .int)).before A U = true := h
theorem kt_AO.of {A : Array Value} {U : State} (h : (Cond.arrayOver (.array .int)).before A U = true) : kt_AO U := h
theorem kt_AO.moved {u U : State} (hvm : u.vm.Alike U.vm) (h : kt_AO u) : kt_AO U := Jvm.Stand.arrayOver_alikeB hvm h
section ktR
variable {p : Program} {l : Launch} {e : Env} {R : Room} {s : State} {m : MethodId} {args : Array Value} {below : List Frame} {meth : Method} {c : Code} {H : Heap} {locs : List Loc} {cells slots : Nat} {Q : State → Prop}
variable {cc : ByteArray} {pc : Nat} {ls : Array Slot} {rest : List Value} {A : Nat → Prop} {ws : va_W} {H0 : Heap} {O : cb_O}
theorem kt_newI (hexec : p.tables.exec = Jvm.exec) (hb : c.code = cc) (harr : (Cond.arrayClass .int).before args s = true) (hK : cb_KK O s) (hP : va_P O.2.1 vwCl ws H) (hD : va_D A ws) (hS : va_S A H0 H locs) (hA : ∀ q, H0.size ≤ q → A q)
    {n : Int} {N : Nat} (hn : ¬ Int32.ofInt n < 0) (hN : (Int32.ofInt n).toNatClampNeg = N) (hbytes : N * componentBytes .int ≤ 536870912) (hcells : cells + 1 ≤ R.cells) (hslots : slots + N ≤ R.slots) (hdg : decode cc pc = .ok (.newarray .int, 2))
    (kk : ∀ (q : Nat) (H1 : Heap), va_P O.2.1 vwCl (ws ++ [(q, .inl (O.2.2.1.1, N, .inl (fun _ => Int32.ofInt 0)))]) H1 → va_D A (ws ++ [(q, .inl (O.2.2.1.1, N, .inl (fun _ => Int32.ofInt 0)))]) → va_S A H0 H1 locs →
      W p l e R s m args below meth c H1 locs (cells + 1) (slots + N) Q (F0 m (pc + 2) ls (.ref q :: rest))) : W p l e R s m args below meth c H locs cells slots Q (F0 m pc ls (.int (Int32.ofInt n) :: rest)) := by
  refine va_newa (atype := .int) (ty := .int) (a0 := (N, .inl (fun _ => Int32.ofInt 0))) hexec hb harr rfl hK.1 hP hD hS hA (fun cA => rfl) hn hN hbytes hcells hslots hdg (fun q cA H1 hK1 hP1 hD1 hS1 => ?_)
  have h1 : va_RA s cA .int := (hK1.2 (cb_ty O).length (cA, .int) (by rw [List.getElem?_append_right (Nat.le_refl _), Nat.sub_self]; rfl)).2
  have h2 : va_RA s O.2.2.1.1 .int := (hK.1.2 0 _ rfl).2
  have e9 : cA = O.2.2.1.1 := Option.some.inj (h1.symm.trans h2)
  subst e9
  exact kk q H1 hP1 hD1 hS1
theorem kt_newZ (hexec : p.tables.exec = Jvm.exec) (hb : c.code = cc) (harr : (Cond.arrayClass .boolean).before args s = true) (hK : cb_KK O s) (hP : va_P O.2.1 vwCl ws H) (hD : va_D A ws) (hS : va_S A H0 H locs) (hA : ∀ q, H0.size ≤ q → A q)
    {n : Int} {N : Nat} (hn : ¬ Int32.ofInt n < 0) (hN : (Int32.ofInt n).toNatClampNeg = N) (hbytes : N * componentBytes .boolean ≤ 536870912) (hcells : cells + 1 ≤ R.cells) (hslots : slots + N ≤ R.slots) (hdg : decode cc pc = .ok (.newarray .boolean, 2))
    (kk : ∀ (q : Nat) (H1 : Heap), va_P O.2.1 vwCl (ws ++ [(q, .inl (O.2.2.1.2.1, N, .inl (fun _ => Int32.ofInt 0)))]) H1 → va_D A (ws ++ [(q, .inl (O.2.2.1.2.1, N, .inl (fun _ => Int32.ofInt 0)))]) → va_S A H0 H1 locs →
      W p l e R s m args below meth c H1 locs (cells + 1) (slots + N) Q (F0 m (pc + 2) ls (.ref q :: rest))) : W p l e R s m args below meth c H locs cells slots Q (F0 m pc ls (.int (Int32.ofInt n) :: rest)) := by
  refine va_newa (atype := .boolean) (ty := .boolean) (a0 := (N, .inl (fun _ => Int32.ofInt 0))) hexec hb harr rfl hK.1 hP hD hS hA (fun cA => rfl) hn hN hbytes hcells hslots hdg (fun q cA H1 hK1 hP1 hD1 hS1 => ?_)
  have h1 : va_RA s cA .boolean := (hK1.2 (cb_ty O).length (cA, .boolean) (by rw [List.getElem?_append_right (Nat.le_refl _), Nat.sub_self]; rfl)).2
  have h2 : va_RA s O.2.2.1.2.1 .boolean := (hK.1.2 1 _ rfl).2
  have e9 : cA = O.2.2.1.2.1 := Option.some.inj (h1.symm.trans h2)
  subst e9
  exact kk q H1 hP1 hD1 hS1
/-- new int[8][60] -/
theorem kt_newM (hexec : p.tables.exec = Jvm.exec) (hb : c.code = cc) {own : String} {index : Nat} (hown : s.vm.findClass own = some m.cls) (hclink : (Cond.classLink own index "[[I").before args s = true) (hover : (Cond.arrayOver (.array .int)).before args s = true) (harr : (Cond.arrayClass .int).before args s = true)
    (hK : cb_KK O s) (hP : va_P O.2.1 vwCl ws H) (hD : va_D A ws) (hS : va_S A H0 H locs) (hA : ∀ q, H0.size ≤ q → A q) (hcells : cells + 9 ≤ R.cells) (hslots : slots + 488 ≤ R.slots) (hdg : decode cc pc = .ok (.multianewarray index 2, 4))
    (kk : ∀ (q : Nat) (H1 : Heap), va_P O.2.1 vwCl (ws ++ ((q, .inl (O.2.2.1.2.2, 8, .inr (.inr (.inr (.inr (fun j => if j < 8 then some (q + 1 + j) else none)))))) :: (List.range 8).map (fun j => (q + 1 + j, .inl (O.2.2.1.1, 60, .inl (fun _ => Int32.ofInt 0)))))) H1 → va_D A (ws ++ ((q, .inl (O.2.2.1.2.2, 8, .inr (.inr (.inr (.inr (fun j => if j < 8 then some (q + 1 + j) else none)))))) :: (List.range 8).map (fun j => (q + 1 + j, .inl (O.2.2.1.1, 60, .inl (fun _ => Int32.ofInt 0)))))) → va_S A H0 H1 locs →
      W p l e R s m args below meth c H1 locs (cells + 9) (slots + 488) Q (F0 m (pc + 4) ls (.ref q :: rest))) : W p l e R s m args below meth c H locs cells slots Q (F0 m pc ls (.int (Int32.ofInt 60) :: .int (Int32.ofInt 8) :: rest)) := by
  intro T hT Xs
  obtain ⟨vm₁, cA, comp, -, fA, fC, hO, -, X', step⟩ := Xs.multianewarray2F hexec (ty := .int) hown hclink hover harr (g := F0 m pc ls (.int (Int32.ofInt 60) :: .int (Int32.ofInt 8) :: rest)) rfl (by rw [hb]; exact hdg) rfl (by decide) (by decide) (by decide) (by decide) (by decide) rfl rfl hcells hslots
  have eI : comp = O.2.2.1.1 := by
    have h2 : s.vm.findClass "[I" = some O.2.2.1.1 := (hK.1.2 0 _ rfl).2
    exact Option.some.inj (fC.symm.trans h2)
  have eA : cA = O.2.2.1.2.2 := by
    have h2 : s.vm.findClass "[[I" = some O.2.2.1.2.2 := (hK.1.2 2 _ rfl).2
    exact Option.some.inj (fA.symm.trans h2)
  subst eI
  subst eA
  have n8 : (Int32.ofInt 8).toNatClampNeg = 8 := by decide
  have n60 : (Int32.ofInt 60).toNatClampNeg = 60 := by decide
  rw [n8, n60] at X' step
  generalize hF : Jvm.Free.Multi.fill (T.setVm vm₁) O.2.2.1.2.2 O.2.2.1.1 8 60 (defaultValue .int) 8 = Fs at X' step
  have hTh : (T.setVm vm₁).heap = H := hT
  obtain ⟨f1, f2, -, -⟩ := Jvm.Free.Multi.fill_facts (T.setVm vm₁) O.2.2.1.2.2 O.2.2.1.1 8 60 (defaultValue .int) 8
  rw [hF, hTh] at f1 f2
  have hold : ∀ x : Nat, x < H.size → Fs.heap[x]? = H[x]? := fun x hx => by
    have := Jvm.Free.Multi.fill_old (T.setVm vm₁) O.2.2.1.2.2 O.2.2.1.1 8 60 (defaultValue .int) (a := x) (by rw [hTh]; exact hx) 8
    rw [hF, hTh] at this
    exact this
  have hrow : ∀ j : Nat, j < 8 → Fs.heap[H.size + 1 + j]? = some (vp_cell O.2.2.1.1 (60, .inl (fun _ => Int32.ofInt 0))) := fun j hj => by
    have := Jvm.Free.Multi.fill_inner (T.setVm vm₁) O.2.2.1.2.2 O.2.2.1.1 8 60 (defaultValue .int) 8 j hj
    rw [hF, hTh] at this
    rw [this]
    show some ({ cls := O.2.2.1.1, slots := Array.replicate 60 (Value.int 0), vm := .none } : Cell) = _
    rw [arrV_new]
    rfl
  have hout : Jvm.Free.Multi.outerC O.2.2.1.2.2 8 H.size 8 = vp_cell O.2.2.1.2.2 (8, .inr (.inr (.inr (.inr (fun i => if i < 8 then some (H.size + 1 + i) else none))))) := by
    rw [vp_cell_q]
    exact vr_outer O.2.2.1.2.2 8 H.size 8
  rw [hout] at f2
  have hP0 : va_P O.2.1 vwCl ws Fs.heap := hP.kept (fun k9 x hx => hold x.1 ((hP k9 x hx).lt))
  have key : ∀ (k : Nat) (q : Nat × va_E), ((H.size, (.inl (O.2.2.1.2.2, 8, .inr (.inr (.inr (.inr (fun j => if j < 8 then some (H.size + 1 + j) else none))))) : va_E)) :: (List.range 8).map (fun j => ((H.size + 1 + j, .inl (O.2.2.1.1, 60, .inl (fun _ => Int32.ofInt 0))) : Nat × va_E)))[k]? = some q → q.1 = H.size + k ∧ va_at O.2.1 vwCl q Fs.heap := fun k q hk => by
    cases k with
    | zero =>
      cases hk
      exact ⟨rfl, f2⟩
    | succ k =>
      rw [List.getElem?_cons_succ, List.getElem?_map] at hk
      by_cases h9 : k < 8
      · rw [List.getElem?_range h9] at hk
        cases hk
        exact ⟨by show H.size + 1 + k = H.size + (k + 1); omega, hrow k h9⟩
      · rw [List.getElem?_eq_none (by rw [List.length_range]; omega)] at hk
        cases hk
  have hsz : H.size ≤ Fs.heap.size := by rw [f1]; omega
  obtain ⟨t, a1, b1⟩ := kk H.size Fs.heap (hP0.app (fun k q hk => (key k q hk).2)) (kt_D hD hP (fun k q hk => (key k q hk).1) (fun q h => hA q (Nat.le_trans hS.1 h))) ⟨Nat.le_trans hS.1 hsz, fun x h1 h2 => (hold x (Nat.lt_of_lt_of_le h1 hS.1)).trans (hS.2.1 x h1 h2), hS.2.2⟩ Fs rfl X'
  refine ⟨t, step t ?_, b1⟩
  rw [hT]
  exact a1
end ktR
