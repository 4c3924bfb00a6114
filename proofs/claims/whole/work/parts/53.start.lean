theorem in_RX8 : Cond.instantiable RX8 7 ∈ tb_G := tb_at (tb_m1 (List.mem_of_getElem? (i := 14) rfl)) rfl
theorem in_RX9 : Cond.instantiable RX9 32 ∈ tb_G := tb_at (tb_m4 (List.mem_of_getElem? (i := 74) rfl)) rfl
theorem kc_X8_init : Cond.code yX8_init cX8_init 1 none ∈ tb_G := tb_at (tb_m1 (List.mem_of_getElem? (i := 17) rfl)) rfl
theorem kd_X8_init : (yX8_init.cls ≠ "java/lang/invoke/MethodHandle" ∧ yX8_init.cls ≠ "java/lang/invoke/VarHandle" ∧ (parseMethodDescriptor yX8_init.desc).map (fun d => d.parameters.length) = some 0) := by decide +kernel
theorem kc_X9_init : Cond.code yX9_init cX9_init 1 none ∈ tb_G := tb_at (tb_m4 (List.mem_of_getElem? (i := 77) rfl)) rfl
theorem kd_X9_init : (yX9_init.cls ≠ "java/lang/invoke/MethodHandle" ∧ yX9_init.cls ≠ "java/lang/invoke/VarHandle" ∧ (parseMethodDescriptor yX9_init.desc).map (fun d => d.parameters.length) = some 0) := by decide +kernel
theorem kt_KK {O O9 : cb_O} {s : State} (h : cb_KK O s) (e2 : O9.2.1 = O.2.1) (e3 : O9.2.2.1 = O.2.2.1) : cb_KK O9 s := by
  refine ⟨?_, h.2⟩
  have := h.1
  unfold cb_ty at this ⊢
  rw [e2, e3]
  exact this
theorem kt_at2 {O1 O2 : cb_O} {K1 K2 : cb_K} {g1 g2 : cb_S} {k : Nat} {q : Nat × va_E} (g1' g2' : cb_S) (h : (cb_W O1 K1 g1 ++ cb_W O2 K2 g2)[k]? = some q) : ∃ q' : Nat × va_E, (cb_W O1 K1 g1' ++ cb_W O2 K2 g2')[k]? = some q' ∧ q'.1 = q.1 := by
  have len : ∀ (O : cb_O) (K : cb_K) (g : cb_S), (cb_W O K g).length = K.2 := fun O K g => by simp [cb_W]
  by_cases hk : k < K1.2
  · rw [List.getElem?_append_left (by rw [len]; exact hk)] at h
    obtain ⟨h1, rfl⟩ := cb_W_at h
    exact ⟨(O1.2.2.2 k, cb_cell O1 (K1.1 k) (g1' k)), by rw [List.getElem?_append_left (by rw [len]; exact hk)]; exact cb_get h1, rfl⟩
  · rw [List.getElem?_append_right (by rw [len]; omega), len] at h
    obtain ⟨h1, rfl⟩ := cb_W_at h
    exact ⟨(O2.2.2.2 (k - K1.2), cb_cell O2 (K2.1 (k - K1.2)) (g2' (k - K1.2))), by rw [List.getElem?_append_right (by rw [len]; omega), len]; exact cb_get h1, rfl⟩
theorem kt_D2 {A : Nat → Prop} {O1 O2 : cb_O} {K1 K2 : cb_K} {g1 g2 : cb_S} (g1' g2' : cb_S) (h : va_D A (cb_W O1 K1 g1 ++ cb_W O2 K2 g2)) : va_D A (cb_W O1 K1 g1' ++ cb_W O2 K2 g2') := by
  refine ⟨fun i j x y hi hj hxy => ?_, fun k q hk => ?_⟩
  · obtain ⟨x', a1, a2⟩ := kt_at2 g1 g2 hi
    obtain ⟨y', b1, b2⟩ := kt_at2 g1 g2 hj
    exact h.1 i j x' y' a1 b1 (a2.trans (hxy.trans b2.symm))
  · obtain ⟨q', a1, a2⟩ := kt_at2 g1 g2 hk
    rw [← a2]
    exact h.2 k q' a1
theorem kt_J1 {A : Nat → Prop} {O1 O2 : cb_O} {K1 K2 : cb_K} {g1 g2 : cb_S} (h : va_D A (cb_W O1 K1 g1 ++ cb_W O2 K2 g2)) : cb_J O1 K1 := fun i j hi hj e => by
  have len : (cb_W O1 K1 g1).length = K1.2 := by simp [cb_W]
  exact h.1 i j _ _ (by rw [List.getElem?_append_left (by rw [len]; exact hi)]; exact cb_get hi) (by rw [List.getElem?_append_left (by rw [len]; exact hj)]; exact cb_get hj) e
theorem kt_J2 {A : Nat → Prop} {O1 O2 : cb_O} {K1 K2 : cb_K} {g1 g2 : cb_S} (h : va_D A (cb_W O1 K1 g1 ++ cb_W O2 K2 g2)) : cb_J O2 K2 := fun i j hi hj e => by
  have len : (cb_W O1 K1 g1).length = K1.2 := by simp [cb_W]
  have := h.1 (K1.2 + i) (K1.2 + j) _ _ (by rw [List.getElem?_append_right (by rw [len]; omega), len, show K1.2 + i - K1.2 = i by omega]; exact cb_get hi) (by rw [List.getElem?_append_right (by rw [len]; omega), len, show K1.2 + j - K1.2 = j by omega]; exact cb_get hj) e
  omega
set_option maxHeartbeats 8000000 in
set_option maxRecDepth 100000 in
/-- THE LAW, from its entry, out of a relation that every call keeps and that holds behind the constructors -/
theorem whole_of {Rel : cb_S → cb_S → Prop} (hsim : lw_sim Rel) {r1 : Int} {g1 : cb_S} (hlay : f_X8_layOut (fun _ _ => 0) = some (r1, g1)) (hinit : Rel g1 (fun _ _ => 0)) {p : Program} {e : Env} {s : State} {m : MethodId} {below : List Frame} {meth : Method} {c : Code} (l : Launch) {b L : Nat} {xs : Nat → Int32} (hL : L ≤ 2560) (C0 : lw_At p s m meth c b L xs) : W p l e room_1 s m #[Value.ref b] below meth c s.heap [] 0 0 (lw_Z below #[Value.ref b] s) (entryFrame m ([Value.ref b] : List Value).toArray 4) := by
  obtain ⟨hx, hb, hr, hml, hown, hts, hX, hbl, hlocks, hgv⟩ := id C0
  have htG : ∀ w ∈ tb_G, w.before #[Value.ref b] s = true := fun w hw => hts w (List.mem_filter.mp hw).1
  have hA : ∀ q : Nat, s.heap.size ≤ q → (fun q : Nat => s.heap.size ≤ q) q := fun _ h => h
  obtain ⟨c0, i0, k0⟩ := u_known (C := RX0) (T := TX0) (N := 4) (n := 4) htG tw_RX0 (htG _ in_RX0)
  obtain ⟨c1, i1, k1⟩ := u_known (C := RX1) (T := TX1) (N := 10) (n := 10) htG tw_RX1 (htG _ in_RX1)
  obtain ⟨c2, i2, k2⟩ := u_known (C := RX2) (T := TX2) (N := 6) (n := 6) htG tw_RX2 (htG _ in_RX2)
  obtain ⟨c3, i3, k3⟩ := u_known (C := RX3) (T := TX3) (N := 3) (n := 3) htG tw_RX3 (htG _ in_RX3)
  obtain ⟨c4, i4, k4⟩ := u_known (C := RX4) (T := TX4) (N := 3) (n := 3) htG tw_RX4 (htG _ in_RX4)
  obtain ⟨c5, i5, k5⟩ := u_known (C := RX5) (T := TX5) (N := 13) (n := 13) htG tw_RX5 (htG _ in_RX5)
  obtain ⟨c6, i6, k6⟩ := u_known (C := RX6) (T := TX6) (N := 8) (n := 8) htG tw_RX6 (htG _ in_RX6)
  obtain ⟨c7, i7, k7⟩ := u_known (C := RX8) (T := TX8) (N := 7) (n := 7) htG tw_RX8 (htG _ in_RX8)
  obtain ⟨c8, i8, k8⟩ := u_known (C := RX9) (T := TX9) (N := 32) (n := 32) htG tw_RX9 (htG _ in_RX9)
  obtain ⟨dC, dI, hKc⟩ : ∃ (dC : Nat → ClassId) (dI : Nat → Nat → Nat), ∀ (k : Nat) (q : vw_C), vwCl[k]? = some q → u_Kn s q.1 q.2.1 q.2.2 (dC k) (dI k) := by
    refine ⟨fun k => match k with | 0 => c0 | 1 => c1 | 2 => c2 | 3 => c3 | 4 => c4 | 5 => c5 | 6 => c6 | 7 => c7 | _ => c8, fun k => match k with | 0 => i0 | 1 => i1 | 2 => i2 | 3 => i3 | 4 => i4 | 5 => i5 | 6 => i6 | 7 => i7 | _ => i8, ?_⟩
    intro k q hq
    match k, hq with
    | 0, hq => cases hq; exact k0
    | 1, hq => cases hq; exact k1
    | 2, hq => cases hq; exact k2
    | 3, hq => cases hq; exact k3
    | 4, hq => cases hq; exact k4
    | 5, hq => cases hq; exact k5
    | 6, hq => cases hq; exact k6
    | 7, hq => cases hq; exact k7
    | 8, hq => cases hq; exact k8
    | k + 9, hq => simp [vwCl] at hq
  obtain ⟨cI, kI, compI, fI, gI, hI⟩ := Cond.arrayClass_spec (htG _ arrI)
  obtain ⟨cZ, kZ, compZ, fZ, gZ, hZ⟩ := Cond.arrayClass_spec (htG _ arrZ)
  have hAO : kt_AO s := kt_AO.of (hts _ arrO)
  obtain ⟨compA, cA, kA, fC, -, gA, hAk, fA⟩ := Jvm.Stand.arrayOver_specB hAO
  obtain ⟨O, hO1, hO2, hO3⟩ : ∃ O : cb_O, O.1 = l ∧ O.2.1 = (dC, dI) ∧ O.2.2.1 = (cI, cZ, cA) := ⟨(l, (dC, dI), (cI, cZ, cA), fun _ => 0), rfl, rfl, rfl⟩
  have hK : cb_KK O s := by
    refine ⟨⟨by rw [hO2]; exact hKc, fun k q hk => ?_⟩, fun x hx => va_Nw.of rfl (hts _ (cb_nestall x hx))⟩
    unfold cb_ty at hk
    rw [hO3] at hk
    match k, hk with
    | 0, hk => cases hk; exact ⟨fun n z => ⟨fun k h => (by cases h), kI, gI, compI, hI⟩, fI⟩
    | 1, hk => cases hk; exact ⟨fun n z => ⟨fun k h => (by cases h), kZ, gZ, compZ, hZ⟩, fZ⟩
    | 2, hk => cases hk; exact ⟨fun n z => ⟨fun k h => (by cases h), kA, gA, compA, hAk⟩, fA⟩
    | k + 3, hk => simp at hk
  subst hO1
  have hS : va_S (fun q : Nat => s.heap.size ≤ q) s.heap s.heap [] := va_S.rf
  have hP : va_P O.2.1 vwCl [] s.heap := fun k q h => by simp at h
  have hD : va_D (fun q : Nat => s.heap.size ≤ q) [] := ⟨fun i j p q h => by simp at h, fun k q h => by simp at h⟩
  have hl := lv_entry ([.ref b]) (n := 4) (Nat.le_of_ble_eq_true rfl)
  rw [lg_entry_eq]
  generalize (lg_sl ([.ref b]) ++ List.replicate (4 - (lg_sl ([.ref b])).length) Slot.unset).toArray = ls at hl ⊢
  have hl : lv_has ls 4 [(0, .ref b)] := hl
  refine va_new (D := O.2.1) (ci := 7) (fs := [.null, .null, .null, .null, .null, .null, .null]) (C := RX8) (T := TX8) (N := 7) hx hb htG tw_RX8 tyX8 tyX8_ok hown (htG _ cl_RL_7) (htG _ in_RX8) (htG _ (tb_at (tb_m1 (List.mem_of_getElem? (i := 1) rfl)) rfl)) hK.1 hP hD hS hA rfl (fun j hj => match j, hj with | 0, _ => rfl | 1, _ => rfl | 2, _ => rfl | 3, _ => rfl | 4, _ => rfl | 5, _ => rfl | 6, _ => rfl | q + 7, h => absurd h (by omega)) (Nat.le_of_ble_eq_true rfl) (Nat.le_of_ble_eq_true rfl) dL_law_0 (fun p1 H hP hD hS => ?_)
  have hP : va_P O.2.1 vwCl [(p1, .inr (7, [.null, .null, .null, .null, .null, .null, .null]))] H := hP
  have hD : va_D (fun q : Nat => s.heap.size ≤ q) [(p1, .inr (7, [.null, .null, .null, .null, .null, .null, .null]))] := hD
  refine W.widen (k := 1) (n := 7) (Nat.le_of_ble_eq_true rfl) (Nat.le_of_ble_eq_true rfl) ?_
  refine lv_dup hx hb dL_law_3 rfl ?_
  have hPc := hP.sub (ws' := [(p1, .inr (7, [.null, .null, .null, .null, .null, .null, .null]))]) [0] rfl
  have hDc := hD.sub (ws' := [(p1, .inr (7, [.null, .null, .null, .null, .null, .null, .null]))]) [0] (by decide) rfl
  have hFc := va_free (wc := [(p1, .inr (7, [.null, .null, .null, .null, .null, .null, .null]))]) hD hS hA [0] rfl
  refine va_callv (va_runI (As := []) (rest := [.ref p1]) ⟨hx, hb, hml, hown, htG⟩ (K_X8_init (O := O) p1 H.size hlay) ⟨callB_of 0 htG (tb_inG kc_X8_init) rfl rfl rfl (htG _ (tb_at (tb_m1 (List.mem_of_getElem? (i := 1) rfl)) rfl)) (htG _ (tb_at (tb_m1 (List.mem_of_getElem? (i := 15) rfl)) rfl)) kd_X8_init ⟨Nat.le_of_ble_eq_true rfl, Nat.le_of_ble_eq_true rfl⟩, rfl, htG _ (tb_at (tb_m1 (List.mem_of_getElem? (i := 16) rfl)) rfl)⟩ ⟨fun a U g mk q => by obtain ⟨q0, q1, qP, qK, qA, qD⟩ := q; exact ⟨q0, q1, qP, cb_KK.same qK rfl, kt_AO.moved (u := U) (U := U.calling g mk a) (Vm.Alike.refl U.vm) qA, qD⟩, fun U hU hW => ⟨rfl, by rw [hU], by rw [hU]; exact hPc, hK.warm hW, hAO.moved hW.alike, hDc.weaken (fun _ _ _ _ => trivial)⟩⟩ rfl rfl hl.1 rfl (lv_room (Nat.le_of_ble_eq_true rfl)) dL_law_4 ⟨Nat.le_of_ble_eq_true rfl, Nat.le_of_ble_eq_true rfl⟩) hS (fun q _ h => hFc q h) hFc (fun u t H1 locs ht hvm hw hB hz1 hk1 hS => ?_)
  obtain ⟨OC, o1, o2, o3, o4, hP1, hD1⟩ := hB
  rw [ht] at hP1
  obtain ⟨hP, hD⟩ := va_join (wr := []) (w1 := cb_W OC skC g1) hP hD [0] [] rfl rfl (by decide) (by decide) hk1 hFc hP1 hD1
  generalize H1 = H at hP hS ⊢
  have hP : va_P O.2.1 vwCl (cb_W OC skC g1) H := hP
  have hD : va_D (fun q : Nat => s.heap.size ≤ q) (cb_W OC skC g1) := hD
  refine W.widen (k := 44) (n := 2012) (Nat.le_of_ble_eq_true rfl) (Nat.le_of_ble_eq_true rfl) ?_
  refine lv_astore_n (lv' := [(1, .ref p1), (0, .ref b)]) hx hb dL_law_7 rfl hl (by decide) rfl (fun ls hl => ?_)
  refine va_new (D := O.2.1) (ci := 8) (fs := [.int (Int32.ofInt 0), .int (Int32.ofInt 0), .null, .int (Int32.ofInt 0), .int (Int32.ofInt 0), .int (Int32.ofInt 0), .null, .null, .null, .null, .null, .null, .null, .int (Int32.ofInt 0), .null, .null, .null, .null, .int (Int32.ofInt 0), .null, .int (Int32.ofInt 0), .null, .null, .null, .null, .null, .null, .null, .int (Int32.ofInt 0), .int (Int32.ofInt 0), .null, .null]) (C := RX9) (T := TX9) (N := 32) hx hb htG tw_RX9 tyX9 tyX9_ok hown (htG _ cl_RL_10) (htG _ in_RX9) (htG _ (tb_at (tb_m1 (List.mem_of_getElem? (i := 12) rfl)) rfl)) hK.1 hP hD hS hA rfl (fun j hj => match j, hj with | 0, _ => rfl | 1, _ => rfl | 2, _ => rfl | 3, _ => rfl | 4, _ => rfl | 5, _ => rfl | 6, _ => rfl | 7, _ => rfl | 8, _ => rfl | 9, _ => rfl | 10, _ => rfl | 11, _ => rfl | 12, _ => rfl | 13, _ => rfl | 14, _ => rfl | 15, _ => rfl | 16, _ => rfl | 17, _ => rfl | 18, _ => rfl | 19, _ => rfl | 20, _ => rfl | 21, _ => rfl | 22, _ => rfl | 23, _ => rfl | 24, _ => rfl | 25, _ => rfl | 26, _ => rfl | 27, _ => rfl | 28, _ => rfl | 29, _ => rfl | 30, _ => rfl | 31, _ => rfl | q + 32, h => absurd h (by omega)) (Nat.le_of_ble_eq_true rfl) (Nat.le_of_ble_eq_true rfl) dL_law_8 (fun p2 H hP hD hS => ?_)
  refine W.widen (k := 45) (n := 2044) (Nat.le_of_ble_eq_true rfl) (Nat.le_of_ble_eq_true rfl) ?_
  refine lv_dup hx hb dL_law_11 rfl ?_
  have hPc := hP.sub (ws' := [(p2, .inr (8, [.int (Int32.ofInt 0), .int (Int32.ofInt 0), .null, .int (Int32.ofInt 0), .int (Int32.ofInt 0), .int (Int32.ofInt 0), .null, .null, .null, .null, .null, .null, .null, .int (Int32.ofInt 0), .null, .null, .null, .null, .int (Int32.ofInt 0), .null, .int (Int32.ofInt 0), .null, .null, .null, .null, .null, .null, .null, .int (Int32.ofInt 0), .int (Int32.ofInt 0), .null, .null]))]) [44] rfl
  have hDc := hD.sub (ws' := [(p2, .inr (8, [.int (Int32.ofInt 0), .int (Int32.ofInt 0), .null, .int (Int32.ofInt 0), .int (Int32.ofInt 0), .int (Int32.ofInt 0), .null, .null, .null, .null, .null, .null, .null, .int (Int32.ofInt 0), .null, .null, .null, .null, .int (Int32.ofInt 0), .null, .int (Int32.ofInt 0), .null, .null, .null, .null, .null, .null, .null, .int (Int32.ofInt 0), .int (Int32.ofInt 0), .null, .null]))]) [44] (by decide) rfl
  have hFc := va_free (wc := [(p2, .inr (8, [.int (Int32.ofInt 0), .int (Int32.ofInt 0), .null, .int (Int32.ofInt 0), .int (Int32.ofInt 0), .int (Int32.ofInt 0), .null, .null, .null, .null, .null, .null, .null, .int (Int32.ofInt 0), .null, .null, .null, .null, .int (Int32.ofInt 0), .null, .int (Int32.ofInt 0), .null, .null, .null, .null, .null, .null, .null, .int (Int32.ofInt 0), .int (Int32.ofInt 0), .null, .null]))]) hD hS hA [44] rfl
  refine va_callv (va_runI (As := []) (rest := [.ref p2]) ⟨hx, hb, hml, hown, htG⟩ (K_X9_init (O := O) p2 H.size) ⟨callB_of 0 htG (tb_inG kc_X9_init) rfl rfl rfl (htG _ (tb_at (tb_m1 (List.mem_of_getElem? (i := 12) rfl)) rfl)) (htG _ (tb_at (tb_m4 (List.mem_of_getElem? (i := 75) rfl)) rfl)) kd_X9_init ⟨Nat.le_of_ble_eq_true rfl, Nat.le_of_ble_eq_true rfl⟩, rfl, htG _ (tb_at (tb_m4 (List.mem_of_getElem? (i := 76) rfl)) rfl)⟩ ⟨fun a U g mk q => by obtain ⟨q0, q1, qP, qK, qA, qD⟩ := q; exact ⟨q0, q1, qP, cb_KK.same qK rfl, kt_AO.moved (u := U) (U := U.calling g mk a) (Vm.Alike.refl U.vm) qA, qD⟩, fun U hU hW => ⟨rfl, by rw [hU], by rw [hU]; exact hPc, hK.warm hW, hAO.moved hW.alike, hDc.weaken (fun _ _ _ _ => trivial)⟩⟩ rfl rfl hl.1 rfl (lv_room (Nat.le_of_ble_eq_true rfl)) dL_law_12 ⟨Nat.le_of_ble_eq_true rfl, Nat.le_of_ble_eq_true rfl⟩) hS (fun q _ h => hFc q h) hFc (fun u t H1 locs ht hvm hw hB hz1 hk1 hS => ?_)
  obtain ⟨m1, m2, m3, m4, m5, m6, m7, m8, m9, m10, m11, m12, m13, m14, m15, m16, m17, m18, m19, m20, m21, m22, hP1, hD1⟩ := hB
  rw [ht] at hP1
  obtain ⟨hP, hD⟩ := va_join (wr := cb_W OC skC g1) (w1 := [(p2, .inr (8, [.int (Int32.ofInt 0), .int (Int32.ofInt 0), .ref m1, .int (Int32.ofInt 0), .int (Int32.ofInt 0), .int (Int32.ofInt 0), .ref m2, .ref m3, .ref m4, .ref m5, .ref m6, .ref m7, .ref m8, .int (Int32.ofInt 0), .ref m9, .ref m10, .ref m11, .ref m12, .int (Int32.ofInt 0), .ref m13, .int (Int32.ofInt 0), .ref m14, .ref m15, .ref m16, .ref m17, .ref m18, .ref m19, .ref m20, .int (Int32.ofInt 0), .int (Int32.ofInt 0), .ref m21, .ref m22])), (m1, .inl (O.2.2.1.1, 64, .inl (fun _ => Int32.ofInt 0))), (m2, .inl (O.2.2.1.1, 8, .inl (fun _ => Int32.ofInt 0))), (m3, .inl (O.2.2.1.1, 512, .inl (fun _ => Int32.ofInt 0))), (m4, .inl (O.2.2.1.1, 8, .inl (fun _ => Int32.ofInt 0))), (m5, .inl (O.2.2.1.1, 8, .inl (fun _ => Int32.ofInt 0))), (m6, .inl (O.2.2.1.1, 64, .inl (fun _ => Int32.ofInt 0))), (m7, .inl (O.2.2.1.1, 64, .inl (fun _ => Int32.ofInt 0))), (m8, .inl (O.2.2.1.1, 64, .inl (fun _ => Int32.ofInt 0))), (m9, .inl (O.2.2.1.2.1, 64, .inl (fun _ => Int32.ofInt 0))), (m10, .inl (O.2.2.1.1, 64, .inl (fun _ => Int32.ofInt 0))), (m11, .inl (O.2.2.1.1, 64, .inl (fun _ => Int32.ofInt 0))), (m12, .inl (O.2.2.1.1, 64, .inl (fun _ => Int32.ofInt 0))), (m13, .inl (O.2.2.1.2.1, 64, .inl (fun _ => Int32.ofInt 0))), (m14, .inl (O.2.2.1.1, 64, .inl (fun _ => Int32.ofInt 0))), (m15, .inl (O.2.2.1.1, 64, .inl (fun _ => Int32.ofInt 0))), (m16, .inl (O.2.2.1.2.1, 64, .inl (fun _ => Int32.ofInt 0))), (m17, .inl (O.2.2.1.1, 64, .inl (fun _ => Int32.ofInt 0))), (m18, .inl (O.2.2.1.1, 64, .inl (fun _ => Int32.ofInt 0))), (m19, .inl (O.2.2.1.1, 64, .inl (fun _ => Int32.ofInt 0))), (m20, .inl (O.2.2.1.1, 64, .inl (fun _ => Int32.ofInt 0))), (m21, .inl (O.2.2.1.1, 64, .inl (fun _ => Int32.ofInt 0))), (m22, .inl (O.2.2.1.1, 64, .inl (fun _ => Int32.ofInt 0)))]) hP hD [44] [0, 1, 2, 3, 4, 5, 6, 7, 8, 9, 10, 11, 12, 13, 14, 15, 16, 17, 18, 19, 20, 21, 22, 23, 24, 25, 26, 27, 28, 29, 30, 31, 32, 33, 34, 35, 36, 37, 38, 39, 40, 41, 42, 43] rfl rfl (by decide) (by decide) hk1 hFc hP1 hD1
  generalize H1 = H at hP hS ⊢
  have hPw : va_P O.2.1 vwCl (cb_W OC skC g1 ++ cb_W (O.1, O.2.1, O.2.2.1, fun k => ([p2, m1, m2, m3, m4, m5, m6, m7, m8, m9, m10, m11, m12, m13, m14, m15, m16, m17, m18, m19, m20, m21, m22] : List Nat).getD k 0) skM (fun _ _ => 0)) H := hP.sub [0, 1, 2, 3, 4, 5, 6, 7, 8, 9, 10, 11, 12, 13, 14, 15, 16, 17, 18, 19, 20, 21, 22, 23, 24, 25, 26, 27, 28, 29, 30, 31, 32, 33, 34, 35, 36, 37, 38, 39, 40, 41, 42, 43, 44, 45, 46, 47, 48, 49, 50, 51, 52, 53, 54, 55, 56, 57, 58, 59, 60, 61, 62, 63, 64, 65, 66] rfl
  have hDw : va_D (fun q : Nat => s.heap.size ≤ q) (cb_W OC skC g1 ++ cb_W (O.1, O.2.1, O.2.2.1, fun k => ([p2, m1, m2, m3, m4, m5, m6, m7, m8, m9, m10, m11, m12, m13, m14, m15, m16, m17, m18, m19, m20, m21, m22] : List Nat).getD k 0) skM (fun _ _ => 0)) := hD.sub [0, 1, 2, 3, 4, 5, 6, 7, 8, 9, 10, 11, 12, 13, 14, 15, 16, 17, 18, 19, 20, 21, 22, 23, 24, 25, 26, 27, 28, 29, 30, 31, 32, 33, 34, 35, 36, 37, 38, 39, 40, 41, 42, 43, 44, 45, 46, 47, 48, 49, 50, 51, 52, 53, 54, 55, 56, 57, 58, 59, 60, 61, 62, 63, 64, 65, 66] (by decide) rfl
  generalize hOM : ((O.1, O.2.1, O.2.2.1, fun k => ([p2, m1, m2, m3, m4, m5, m6, m7, m8, m9, m10, m11, m12, m13, m14, m15, m16, m17, m18, m19, m20, m21, m22] : List Nat).getD k 0) : cb_O) = OM at hPw hDw
  have n1 : OM.1 = O.1 := by rw [← hOM]
  have n2 : OM.2.1 = O.2.1 := by rw [← hOM]
  have n3 : OM.2.2.1 = O.2.2.1 := by rw [← hOM]
  have n4 : OM.2.2.2 0 = p2 := by rw [← hOM]; rfl
  refine W.widen (k := 67) (n := 3732) (Nat.le_of_ble_eq_true rfl) (Nat.le_of_ble_eq_true rfl) ?_
  refine lv_astore_n (lv' := [(2, .ref p2), (1, .ref p1), (0, .ref b)]) hx hb dL_law_15 rfl hl (by decide) rfl (fun ls hl => ?_)
  refine lv_iconst (v := Int32.ofInt 0) hx hb dL_law_16 rfl ?_
  refine lv_istore_n (lv' := [(3, .int (Int32.ofInt 0)), (2, .ref p2), (1, .ref p1), (0, .ref b)]) hx hb dL_law_17 rfl hl (by decide) rfl (fun ls hl => ?_)
  have hKC : cb_KK OC s := kt_KK hK o2 o3
  have hKM : cb_KK OM s := kt_KK hK n2 n3
  have hH : cb_H (lj_ad b OC OM) ls 4 [some (.inr 0), some (.inr 1), some (.inr 2), some (.inl 0)] := by
    refine ⟨hl.1, hl.2.1, fun i v hi => ?_⟩
    match i, hi with
    | 0, hi => cases hi; exact lv_at hl 3 rfl
    | 1, hi => cases hi; rw [show cb_v (lj_ad b OC OM) (.inr 1) = .ref p1 from congrArg Value.ref o4]; exact lv_at hl 2 rfl
    | 2, hi => cases hi; rw [show cb_v (lj_ad b OC OM) (.inr 2) = .ref p2 from congrArg Value.ref n4]; exact lv_at hl 1 rfl
    | 3, hi => cases hi; exact lv_at hl 0 rfl
    | i + 4, hi => simp at hi
  have two : lj_two s O.1 OC OM := ⟨o1, n1, o2.trans n2.symm, o3.trans n3.symm, hKC, hKM, kt_J1 hDw, kt_J2 hDw, fun g g9 => kt_D2 g g9 hDw⟩
  have hPw : va_P OC.2.1 vwCl (cb_W OC skC g1 ++ cb_W OM skM (fun _ _ => 0)) H := by rw [o2]; exact hPw
  exact lj_loop hsim (X := (p, O.1, e, s, m, below, meth, c, b, L, xs)) (OC := OC) (OM := OM) (kc := 67) (ks := 3732) ⟨C0, two⟩ ⟨Nat.le_of_ble_eq_true rfl, Nat.le_of_ble_eq_true rfl⟩ hL L 0 g1 (fun _ _ => 0) (by decide) (by decide) (by show (L : Int) ≤ 0 + L; omega) hinit H _ ls hPw hS hH
