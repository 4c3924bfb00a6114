section cbS
variable {O : cb_O} {K : cb_K} {v : Bool} {R : Room} {M : cb_M} {nL : Nat} {cc : ByteArray} {own : String} {ret : Option FieldType} {pc : Nat} {ls : cb_L} {st : List cb_V} {g : cb_S} {F : Option (Int × cb_S)}
theorem cb_lookup (h : cb_ok O K M cc nL own ret) {x : Int} {dflt off : Int} {ps : Array (Int × Int)} {len tgt : Nat} (hd : decode cc pc = .ok (.lookupswitch dflt ps, len)) (hp : (ps.toList.zip (ps.toList.drop 1)).all (fun (a, next) => a.1 < next.1) = true) (ho : Op.lookupswitch.offset ps.toList dflt (cb_w x) = off) (ht : (pc : Int) + off = (tgt : Int)) (k : cb_j O K v R M nL tgt ls st g F) : cb_j O K v R M nL pc ls (.inl x :: st) g F := by
  obtain ⟨p, e, s, m, args, below, meth, c⟩ := M
  intro q hq H locs L hP hS hL
  exact lv_lookup h.1 h.2.1 hd hp (by rw [cb_toInt]; exact ho) ht (k q hq H locs L hP hS hL)
theorem cb_tabOut (h : cb_ok O K M cc nL own ret) {x : Int} {dflt lo hi : Int} {offs : Array Int} {len tgt : Nat} (hd : decode cc pc = .ok (.tableswitch dflt lo hi offs, len)) (hx : cb_w x < lo ∨ hi < cb_w x) (ht : (pc : Int) + dflt = (tgt : Int)) (k : cb_j O K v R M nL tgt ls st g F) : cb_j O K v R M nL pc ls (.inl x :: st) g F := by
  obtain ⟨p, e, s, m, args, below, meth, c⟩ := M
  intro q hq H locs L hP hS hL
  exact lv_tableOut h.1 h.2.1 hd (by rw [cb_toInt]; exact hx) ht (k q hq H locs L hP hS hL)
theorem cb_tabIn (h : cb_ok O K M cc nL own ret) {x : Int} {dflt lo hi off : Int} {offs : Array Int} {len tgt : Nat} (j : Int) (hx : cb_w x = j) (hd : decode cc pc = .ok (.tableswitch dflt lo hi offs, len)) (h1 : ¬ j < lo) (h2 : ¬ hi < j) (ho : offs[(j - lo).toNat]? = some off) (ht : (pc : Int) + off = (tgt : Int)) (k : cb_j O K v R M nL tgt ls st g F) : cb_j O K v R M nL pc ls (.inl x :: st) g F := by
  obtain ⟨p, e, s, m, args, below, meth, c⟩ := M
  intro q hq H locs L hP hS hL
  subst hx
  exact lv_tableIn h.1 h.2.1 hd (by rw [cb_toInt]; exact h1) (by rw [cb_toInt]; exact h2) (by rw [cb_toInt]; exact ho) ht (k q hq H locs L hP hS hL)
/-- entry idx of class own is field k of class ci -/
def cb_FL (own : String) (idx ci k : Nat) : Prop := ∃ (C : String) (T : u_T) (N : Nat), vwCl[ci]? = some (C, T, N) ∧ (∀ w ∈ u_ws C T N, w ∈ tb_G) ∧ k < N ∧ Cond.fieldLink own idx (T k).1 (T k).2.1 (T k).2.2.1 ∈ tb_G
/-- the same of an int field that may be written -/
def cb_FP (own : String) (idx ci k : Nat) : Prop := ∃ (C : String) (T : u_T) (N : Nat) (ty : Nat → FieldType), vwCl[ci]? = some (C, T, N) ∧ (∀ w ∈ u_ws C T N, w ∈ tb_G) ∧ k < N ∧ Cond.fieldLink own idx (T k).1 (T k).2.1 (T k).2.2.1 ∈ tb_G ∧ (∀ k, k < N → parseFieldDescriptor (T k).2.2.1 = some (ty k)) ∧ (∀ a, a < N → ∀ b, b < N → a ≠ b → (T a).2.1 ≠ (T b).2.1) ∧ (T k).2.2.2 = false ∧ (T k).2.2.1 = "I"
theorem cb_gi (h : cb_ok O K M cc nL own ret) {idx ci b i : Nat} {rs : List (Option Nat)} (hd : decode cc pc = .ok (.getfield idx, 3)) (hf : cb_FL own idx ci i) (hb : b < K.2) (hc : K.1 b = .inr (.inr (ci, rs))) (hr : rs[i]? = some none) (k : cb_j O K v R M nL (pc + 3) ls (.inl (g b i) :: st) g F) : cb_j O K v R M nL pc ls (.inr b :: st) g F := by
  obtain ⟨p, e, s, m, args, below, meth, c⟩ := M
  obtain ⟨C, T, N, f1, f2, f3, f4⟩ := hf
  intro q hq H locs L hP hS hL
  obtain ⟨hx, hcode, hr0, hml, hown, hts, hlk, hK, hJ⟩ := h
  have hg : (cb_W O K g)[b]? = some (O.2.2.2 b, .inr (ci, cb_f O.2.2.2 (g b) 0 rs)) := by rw [cb_get hb, hc]; rfl
  have hv := cb_f_int O.2.2.2 (g b) rs 0 i hr
  rw [Nat.zero_add] at hv
  exact va_get hx hcode hts f2 hown hK.1 hP b hg f1 i f3 (hts _ f4) (fun _ z => z) hv hd (k q hq H locs L hP hS hL)
theorem cb_gr (h : cb_ok O K M cc nL own ret) {idx ci b i r : Nat} {rs : List (Option Nat)} (hd : decode cc pc = .ok (.getfield idx, 3)) (hf : cb_FL own idx ci i) (hb : b < K.2) (hc : K.1 b = .inr (.inr (ci, rs))) (hr : rs[i]? = some (some r)) (k : cb_j O K v R M nL (pc + 3) ls (.inr r :: st) g F) : cb_j O K v R M nL pc ls (.inr b :: st) g F := by
  obtain ⟨p, e, s, m, args, below, meth, c⟩ := M
  obtain ⟨C, T, N, f1, f2, f3, f4⟩ := hf
  intro q hq H locs L hP hS hL
  obtain ⟨hx, hcode, hr0, hml, hown, hts, hlk, hK, hJ⟩ := h
  have hg : (cb_W O K g)[b]? = some (O.2.2.2 b, .inr (ci, cb_f O.2.2.2 (g b) 0 rs)) := by rw [cb_get hb, hc]; rfl
  exact va_get hx hcode hts f2 hown hK.1 hP b hg f1 i f3 (hts _ f4) (fun _ z => z) (cb_f_ref O.2.2.2 (g b) rs 0 i hr) hd (k q hq H locs L hP hS hL)
theorem cb_u_self (g : cb_S) (b i : Nat) (x : Int) : cb_u g b i x b = fun j => if j = i then x else g b j := by
  funext j
  simp [cb_u]
theorem cb_u_other (g : cb_S) {a b : Nat} (i : Nat) (x : Int) (h : a ≠ b) : cb_u g b i x a = g a := by
  funext j
  simp [cb_u, h]
theorem cb_pi (h : cb_ok O K M cc nL own ret) {idx ci b i : Nat} {x : Int} {rs : List (Option Nat)} (hd : decode cc pc = .ok (.putfield idx, 3)) (hf : cb_FP own idx ci i) (hb : b < K.2) (hc : K.1 b = .inr (.inr (ci, rs))) (hr : rs[i]? = some none) (k : cb_j O K v R M nL (pc + 3) ls st (cb_u g b i x) F) : cb_j O K v R M nL pc ls (.inl x :: .inr b :: st) g F := by
  obtain ⟨p, e, s, m, args, below, meth, c⟩ := M
  obtain ⟨C, T, N, ty, f1, f2, f3, f4, f5, f6, f7, f8⟩ := hf
  intro q hq H locs L hP hS hL
  obtain ⟨hx, hcode, hr0, hml, hown, hts, hlk, hK, hJ⟩ := h
  have hg : (cb_W O K g)[b]? = some (O.2.2.2 b, .inr (ci, cb_f O.2.2.2 (g b) 0 rs)) := by rw [cb_get hb, hc]; rfl
  have hs : (cb_W O K g).set b (O.2.2.2 b, .inr (ci, (cb_f O.2.2.2 (g b) 0 rs).set i (.int (Int32.ofInt x)))) = cb_W O K (cb_u g b i x) := by
    refine cb_set hb ?_ (fun j hj => cb_u_other g i x hj)
    rw [hc, cb_u_self, cb_f_set _ _ _ _ _ _ hr, Nat.zero_add]
    rfl
  have hil : i < (cb_f O.2.2.2 (g b) 0 rs).length := by
    rw [cb_f_len]
    exact (List.getElem?_eq_some_iff.mp hr).1
  refine va_put (ty := .int) (v := .int (Int32.ofInt x)) hx hcode hts f2 ty f5 f6 hown hK.1 hP (cb_D hJ g) hS b hg f1 i f3 (hts _ f4) (fun _ z => z) f7 (by rw [f8]; decide +kernel) rfl rfl hil hd (fun H1 locs1 hP1 hD1 hS1 => ?_)
  rw [hs] at hP1
  exact k q hq H1 locs1 L hP1 hS1 hL
theorem cb_iald (h : cb_ok O K M cc nL own ret) {b n : Nat} {i : Int} (hd : decode cc pc = .ok (.iaload, 1)) (hb : b < K.2) (hc : K.1 b = .inl (0, n)) (k : cb_j O K v R M nL (pc + 1) ls (.inl (g b (cb_w i).toNat) :: st) g F) : cb_j O K v R M nL pc ls (.inl i :: .inr b :: st) g (if 0 ≤ cb_w i ∧ cb_w i < n then F else none) := by
  refine cb_ite (fun c0 => ?_) (fun c0 => cb_none)
  obtain ⟨p, e, s, m, args, below, meth, c⟩ := M
  intro q hq H locs L hP hS hL
  obtain ⟨hx, hcode, hr0, hml, hown, hts, hlk, hK, hJ⟩ := h
  have hg : (cb_W O K g)[b]? = some (O.2.2.2 b, .inl (O.2.2.1.1, n, .inl (fun i => Int32.ofInt (g b i)))) := by rw [cb_get hb, hc]; rfl
  refine va_iald hx hcode hK.1 hP b 0 hg rfl (cb_in_vp c0) hd ?_
  rw [cb_nat]
  exact k q hq H locs L hP hS hL
theorem cb_zald (h : cb_ok O K M cc nL own ret) {b n : Nat} {i : Int} (hd : decode cc pc = .ok (.baload, 1)) (hb : b < K.2) (hc : K.1 b = .inl (1, n)) (k : cb_j O K v R M nL (pc + 1) ls (.inl (g b (cb_w i).toNat) :: st) g F) : cb_j O K v R M nL pc ls (.inl i :: .inr b :: st) g (if 0 ≤ cb_w i ∧ cb_w i < n then F else none) := by
  refine cb_ite (fun c0 => ?_) (fun c0 => cb_none)
  obtain ⟨p, e, s, m, args, below, meth, c⟩ := M
  intro q hq H locs L hP hS hL
  obtain ⟨hx, hcode, hr0, hml, hown, hts, hlk, hK, hJ⟩ := h
  have hg : (cb_W O K g)[b]? = some (O.2.2.2 b, .inl (O.2.2.1.2.1, n, .inl (fun i => Int32.ofInt (g b i)))) := by rw [cb_get hb, hc]; rfl
  refine va_zald hx hcode hK.1 hP b 1 hg rfl (cb_in_vp c0) hd ?_
  rw [cb_nat]
  exact k q hq H locs L hP hS hL
theorem cb_iast (h : cb_ok O K M cc nL own ret) {b n : Nat} {i x : Int} (hd : decode cc pc = .ok (.iastore, 1)) (hb : b < K.2) (hc : K.1 b = .inl (0, n)) (k : cb_j O K v R M nL (pc + 1) ls st (cb_u g b (cb_w i).toNat x) F) : cb_j O K v R M nL pc ls (.inl x :: .inl i :: .inr b :: st) g (if 0 ≤ cb_w i ∧ cb_w i < n then F else none) := by
  refine cb_ite (fun c0 => ?_) (fun c0 => cb_none)
  obtain ⟨p, e, s, m, args, below, meth, c⟩ := M
  intro q hq H locs L hP hS hL
  obtain ⟨hx, hcode, hr0, hml, hown, hts, hlk, hK, hJ⟩ := h
  have hg : (cb_W O K g)[b]? = some (O.2.2.2 b, .inl (O.2.2.1.1, n, .inl (fun i => Int32.ofInt (g b i)))) := by rw [cb_get hb, hc]; rfl
  have hs : (cb_W O K g).set b (O.2.2.2 b, .inl (O.2.2.1.1, n, .inl (upd (fun i => Int32.ofInt (g b i)) (cb_w i).toNat (Int32.ofInt x)))) = cb_W O K (cb_u g b (cb_w i).toNat x) := by
    refine cb_set hb ?_ (fun j hj => cb_u_other g _ x hj)
    rw [hc, cb_u_self]
    have hf : (fun j => Int32.ofInt (if j = (cb_w i).toNat then x else g b j)) = upd (fun i => Int32.ofInt (g b i)) (cb_w i).toNat (Int32.ofInt x) := by
      funext j
      unfold upd
      split <;> rfl
    show Sum.inl (_, n, Sum.inl _) = _
    rw [hf]
  refine va_iast hx hcode hK.1 hP (cb_D hJ g) hS b 0 hg rfl (cb_in_vp c0) hd (fun H1 locs1 hP1 hD1 hS1 => ?_)
  rw [cb_nat, hs] at hP1
  exact k q hq H1 locs1 L hP1 hS1 hL
theorem cb_zast (h : cb_ok O K M cc nL own ret) {b n : Nat} {i x : Int} (hd : decode cc pc = .ok (.bastore, 1)) (hb : b < K.2) (hc : K.1 b = .inl (1, n)) (k : cb_j O K v R M nL (pc + 1) ls st (cb_u g b (cb_w i).toNat x) F) : cb_j O K v R M nL pc ls (.inl x :: .inl i :: .inr b :: st) g (if (0 ≤ cb_w i ∧ cb_w i < n) ∧ (x = 0 ∨ x = 1) then F else none) := by
  refine cb_ite (fun c0 => ?_) (fun c0 => cb_none)
  obtain ⟨p, e, s, m, args, below, meth, c⟩ := M
  intro q hq H locs L hP hS hL
  obtain ⟨hx, hcode, hr0, hml, hown, hts, hlk, hK, hJ⟩ := h
  have hg : (cb_W O K g)[b]? = some (O.2.2.2 b, .inl (O.2.2.1.2.1, n, .inl (fun i => Int32.ofInt (g b i)))) := by rw [cb_get hb, hc]; rfl
  have hs : (cb_W O K g).set b (O.2.2.2 b, .inl (O.2.2.1.2.1, n, .inl (upd (fun i => Int32.ofInt (g b i)) (cb_w i).toNat (Int32.ofInt x)))) = cb_W O K (cb_u g b (cb_w i).toNat x) := by
    refine cb_set hb ?_ (fun j hj => cb_u_other g _ x hj)
    rw [hc, cb_u_self]
    have hf : (fun j => Int32.ofInt (if j = (cb_w i).toNat then x else g b j)) = upd (fun i => Int32.ofInt (g b i)) (cb_w i).toNat (Int32.ofInt x) := by
      funext j
      unfold upd
      split <;> rfl
    show Sum.inl (_, n, Sum.inl _) = _
    rw [hf]
  have hz : vp_nar .boolean (Int32.ofInt x) = Int32.ofInt x := by
    rcases c0.2 with rfl | rfl <;> decide +kernel
  refine va_zast hx hcode hK.1 hP (cb_D hJ g) hS b 1 hg rfl (cb_in_vp c0.1) hd (fun H1 locs1 hP1 hD1 hS1 => ?_)
  rw [cb_nat, hz, hs] at hP1
  exact k q hq H1 locs1 L hP1 hS1 hL
theorem cb_alen (h : cb_ok O K M cc nL own ret) {b n z : Nat} (hd : decode cc pc = .ok (.arraylength, 1)) (hb : b < K.2) (hc : K.1 b = .inl (z, n)) (hz : z = 0 ∨ z = 1) (k : cb_j O K v R M nL (pc + 1) ls (.inl (n : Int) :: st) g F) : cb_j O K v R M nL pc ls (.inr b :: st) g F := by
  obtain ⟨p, e, s, m, args, below, meth, c⟩ := M
  intro q hq H locs L hP hS hL
  obtain ⟨hx, hcode, hr0, hml, hown, hts, hlk, hK, hJ⟩ := h
  rcases hz with rfl | rfl
  · have hg : (cb_W O K g)[b]? = some (O.2.2.2 b, .inl (O.2.2.1.1, n, .inl (fun i => Int32.ofInt (g b i)))) := by rw [cb_get hb, hc]; rfl
    exact va_alen hx hcode hK.1 hP b 0 hg rfl (Int32.ofInt_eq_ofNat (n := n)).symm hd (k q hq H locs L hP hS hL)
  · have hg : (cb_W O K g)[b]? = some (O.2.2.2 b, .inl (O.2.2.1.2.1, n, .inl (fun i => Int32.ofInt (g b i)))) := by rw [cb_get hb, hc]; rfl
    exact va_alen hx hcode hK.1 hP b 1 hg rfl (Int32.ofInt_eq_ofNat (n := n)).symm hd (k q hq H locs L hP hS hL)
theorem cb_aald (h : cb_ok O K M cc nL own ret) {b h0 n : Nat} {i : Int} (hd : decode cc pc = .ok (.aaload, 1)) (hb : b < K.2) (hc : K.1 b = .inr (.inl (h0, n))) (k : (0 ≤ cb_w i ∧ cb_w i < n) → cb_j O K v R M nL (pc + 1) ls (.inr (h0 + (cb_w i).toNat) :: st) g F) : cb_j O K v R M nL pc ls (.inl i :: .inr b :: st) g (if 0 ≤ cb_w i ∧ cb_w i < n then F else none) := by
  refine cb_ite (fun c0 => ?_) (fun c0 => cb_none)
  have k := k c0
  obtain ⟨p, e, s, m, args, below, meth, c⟩ := M
  intro q hq H locs L hP hS hL
  obtain ⟨hx, hcode, hr0, hml, hown, hts, hlk, hK, hJ⟩ := h
  have hg : (cb_W O K g)[b]? = some (O.2.2.2 b, .inl (O.2.2.1.2.2, n, .inr (.inr (.inr (.inr (fun j => if j < n then some (O.2.2.2 (h0 + j)) else none)))))) := by rw [cb_get hb, hc]; rfl
  have hcell := hP b _ hg
  have hlt : (cb_w i).toNat < n := by omega
  have hcell : H[O.2.2.2 b]? = some (arrV O.2.2.1.2.2 n (fun j => va_rf (if j < n then some (O.2.2.2 (h0 + j)) else none))) := hcell
  refine W.aald hx hcode hcell ((hK.1.2 2 _ rfl).1 _ _) rfl (fun z => by cases z) (j := Int32.ofInt i) ?_ (v := .ref (O.2.2.2 (h0 + (cb_w i).toNat))) ?_ rfl rfl hd (k q hq H locs L hP hS hL)
  · rw [cb_nat]
    have h2 := cb_in_vp c0
    unfold vp_in at h2
    rw [cb_nat] at h2
    simpa [arrV] using h2
  · rw [cb_nat]
    simp [arrV, hlt, va_rf]
/-- a method's ends -/
theorem cb_vret (h : cb_ok O K M cc nL own none) (hd : decode cc pc = .ok (.return_, 1)) : cb_j O K true R M nL pc ls [] g (some (0, g)) := by
  obtain ⟨p, e, s, m, args, below, meth, c⟩ := M
  intro q hq H locs L hP hS hL
  cases hq
  obtain ⟨hx, hcode, hr0, hml, hown, hts, hlk, hK, hJ⟩ := h
  exact W.vret hx hcode hr0 (fun t ht hW => ⟨⟨(), rfl, trivial, (by show va_P _ _ _ t.heap; rw [ht]; exact hP)⟩, hS.F ht⟩) hS.2.2 hd hlk
theorem cb_iret (h : cb_ok O K M cc nL own (some .int)) {x : Int} (hd : decode cc pc = .ok (.ireturn, 1)) : cb_j O K false R M nL pc ls [.inl x] g (some (x, g)) := by
  obtain ⟨p, e, s, m, args, below, meth, c⟩ := M
  intro q hq H locs L hP hS hL
  cases hq
  obtain ⟨hx, hcode, hr0, hml, hown, hts, hlk, hK, hJ⟩ := h
  exact W.iret hx hcode hr0 (fun t ht hW => ⟨⟨_, (), rfl, rfl, (by show va_P _ _ _ t.heap; rw [ht]; exact hP)⟩, hS.F ht⟩) hS.2.2 hd hlk
theorem cb_zret (h : cb_ok O K M cc nL own (some .boolean)) {x : Int} (hd : decode cc pc = .ok (.ireturn, 1)) (hz : x = 0 ∨ x = 1) : cb_j O K false R M nL pc ls [.inl x] g (some (x, g)) := by
  obtain ⟨p, e, s, m, args, below, meth, c⟩ := M
  intro q hq H locs L hP hS hL
  cases hq
  obtain ⟨hx, hcode, hr0, hml, hown, hts, hlk, hK, hJ⟩ := h
  exact W.zret hx hcode hr0 (by rcases hz with rfl | rfl <;> rfl) (fun t ht hW => ⟨⟨_, (), rfl, rfl, (by show va_P _ _ _ t.heap; rw [ht]; exact hP)⟩, hS.F ht⟩) hS.2.2 hd hlk
theorem cb_zretq (h : cb_ok O K M cc nL own (some .boolean)) {x : Int} (hd : decode cc pc = .ok (.ireturn, 1)) : cb_j O K false R M nL pc ls [.inl x] g (if x = 0 ∨ x = 1 then some (x, g) else none) :=
  cb_ite (fun hz => cb_zret h hd hz) (fun _ => cb_none)
/-! a call's answer, handed on -/
def cb_b (F : Option (Int × cb_S)) (k : Int → cb_S → Option (Int × cb_S)) : Option (Int × cb_S) := F.bind (fun q => k q.1 q.2)
theorem cb_b_some {r : Int} {g : cb_S} {k : Int → cb_S → Option (Int × cb_S)} : cb_b (some (r, g)) k = k r g := rfl
theorem cb_b_none {k : Int → cb_S → Option (Int × cb_S)} : cb_b none k = none := rfl
/-! calls -/
/-- entry idx of class own is a method of the object's own class -/
def cb_LV (own : String) (idx : Nat) (y : MethodName) (bytes : ByteArray) (maxL : Nat) (rt : Option FieldType) (n : Nat) : Prop :=
  Cond.methodLink own idx y ∈ tb_G ∧ Cond.instanceMethod y ∈ tb_G ∧ Cond.selects y.cls y y ∈ tb_G ∧ Cond.initialized y.cls ∈ tb_G ∧ Cond.code y bytes maxL rt ∈ tb_G ∧ (y.cls ≠ "java/lang/invoke/MethodHandle" ∧ y.cls ≠ "java/lang/invoke/VarHandle" ∧ (parseMethodDescriptor y.desc).map (fun d => d.parameters.length) = some n)
def cb_LS (own : String) (idx : Nat) (y : MethodName) (bytes : ByteArray) (maxL : Nat) (rt : Option FieldType) (n : Nat) : Prop :=
  Cond.methodLink own idx y ∈ tb_G ∧ Cond.static y ∈ tb_G ∧ Cond.initialized y.cls ∈ tb_G ∧ Cond.code y bytes maxL rt ∈ tb_G ∧ (y.cls ≠ "java/lang/invoke/MethodHandle" ∧ y.cls ≠ "java/lang/invoke/VarHandle" ∧ (parseMethodDescriptor y.desc).map (fun d => d.parameters.length) = some n)
def cb_LN (own : String) (idx : Nat) (y : MethodName) (host : String) (bytes : ByteArray) (maxL : Nat) (rt : Option FieldType) (n : Nat) : Prop :=
  (own, idx, y, host) ∈ cb_NL ∧ Cond.static y ∈ tb_G ∧ Cond.initialized y.cls ∈ tb_G ∧ Cond.code y bytes maxL rt ∈ tb_G ∧ (y.cls ≠ "java/lang/invoke/MethodHandle" ∧ y.cls ≠ "java/lang/invoke/VarHandle" ∧ (parseMethodDescriptor y.desc).map (fun d => d.parameters.length) = some n)
theorem cb_blind {O : cb_O} {K : cb_K} {as : List cb_V} {g : cb_S} : FrameBlind (cb_P O K as g) := fun a U f mk q => ⟨q.1, q.2.1, cb_KK.same (U := U.calling f mk a) q.2.2 rfl⟩
theorem cb_catsum (ad : Nat → Nat) : ∀ l : List cb_V, ((l.map (cb_v ad)).map fun v => v.category).sum = l.length
  | [] => rfl
  | a :: l => by
    rw [List.map_cons, List.map_cons, List.sum_cons, cb_catsum ad l, cb_v_cat, List.length_cons]
    omega
/-- behind a call -/
theorem cb_goesI {k : Int → cb_S → Option (Int × cb_S)} {q1 : Int × cb_S} {p : Program} {e : Env} {s : State} {m : MethodId} {args : Array Value} {below : List Frame} {meth : Method} {c : Code} {H : Heap} {locs : List Loc} {L : Array Slot} {rest : List cb_V} {st0 : List Value} {a : Array Value} {q : Int × cb_S}
    (hr : va_Run p O.1 e R s m args below meth c H locs 0 0 0 0 (F0 m pc L st0) (rest.map (cb_v O.2.2.2)) (cb_Q O K false q1 a) (cb_A O K)) (hS : va_S (cb_A O K) s.heap H locs) (hL : cb_H O.2.2.2 L nL ls)
    (hk : k q1.1 q1.2 = some q) (kk : ∀ r g', cb_j O K v R (p, e, s, m, args, below, meth, c) nL (pc + 3) ls (.inl r :: rest) g' (k r g')) :
    W p O.1 e R s m args below meth c H locs 0 0 (MQ below (cb_Q O K v q) args s 0 0 (cb_A O K)) (F0 m pc L st0) := by
  refine va_calli (a := a) hr hS (fun _ _ z => z) (fun _ z => z) (fun r u t H1 locs1 ht hvm hw hB hz hk1 hS1 => ?_)
  rw [ht] at hB
  subst hw
  exact kk q1.1 q1.2 q hk H1 locs1 L hB hS1 hL
theorem cb_goesV {k : Int → cb_S → Option (Int × cb_S)} {q1 : Int × cb_S} {p : Program} {e : Env} {s : State} {m : MethodId} {args : Array Value} {below : List Frame} {meth : Method} {c : Code} {H : Heap} {locs : List Loc} {L : Array Slot} {rest : List cb_V} {st0 : List Value} {a : Array Value} {q : Int × cb_S}
    (hr : va_Run p O.1 e R s m args below meth c H locs 0 0 0 0 (F0 m pc L st0) (rest.map (cb_v O.2.2.2)) (cb_Q O K true q1 a) (cb_A O K)) (hS : va_S (cb_A O K) s.heap H locs) (hL : cb_H O.2.2.2 L nL ls)
    (hk : k q1.1 q1.2 = some q) (kk : ∀ r g', cb_j O K v R (p, e, s, m, args, below, meth, c) nL (pc + 3) ls rest g' (k r g')) :
    W p O.1 e R s m args below meth c H locs 0 0 (MQ below (cb_Q O K v q) args s 0 0 (cb_A O K)) (F0 m pc L st0) := by
  refine va_callv (a := a) hr hS (fun _ _ z => z) (fun _ z => z) (fun u t H1 locs1 ht hvm hw hB hz hk1 hS1 => ?_)
  rw [ht] at hB
  exact kk q1.1 q1.2 q hk H1 locs1 L hB hS1 hL
section cbT
variable {y : MethodName} {bytes : ByteArray} {maxL n idx : Nat} {rt : Option FieldType} {rm : Room} {as rest : List cb_V} {Fc : Option (Int × cb_S)} {k : Int → cb_S → Option (Int × cb_S)} {v1 : Bool}
theorem cb_runS (h : cb_ok O K M cc nL own ret) (hl : cb_LS own idx y bytes maxL rt n) (hR : rm.frames + 1 ≤ R.frames ∧ 8 + (maxL + 11) + rm.locals ≤ R.locals) (hrc : rm.cells = 0 ∧ rm.slots = 0) (hd : decode cc pc = .ok (.invokestatic idx, 3)) {q1 : Int × cb_S} (hm : cb_m O K v1 y bytes maxL rt rm as g q1) (hn : as.length = n) (h8 : rest.length ≤ 8)
    {H : Heap} {locs : List Loc} {L : Array Slot} (hP : va_P O.2.1 vwCl (cb_W O K g) H) (hL : L.size = nL) : match M with
    | (p, e, s, m, args, below, meth, c) => va_Run p O.1 e R s m args below meth c H locs 0 0 0 0 (F0 m pc L ((as.reverse ++ rest).map (cb_v O.2.2.2))) (rest.map (cb_v O.2.2.2)) (cb_Q O K v1 q1 (as.map (cb_v O.2.2.2)).toArray) (cb_A O K) := by
  obtain ⟨p, e, s, m, args, below, meth, c⟩ := M
  obtain ⟨hx, hcode, hr0, hml, hown, hts, hlk, hK, hJ⟩ := h
  obtain ⟨l1, l2, l3, l4, l5⟩ := hl
  exact va_runS (As := as.map (cb_v O.2.2.2)) (rest := rest.map (cb_v O.2.2.2)) ⟨hx, hcode, hml, hown, hts⟩ hm ⟨callB_of n hts (tb_inG l4) rfl hrc.1 hrc.2 (hts _ l3) (hts _ l1) l5 hR, hts _ l2⟩ ⟨cb_blind, fun U hU hW => ⟨rfl, by rw [hU]; exact hP, hK.warm hW⟩⟩ rfl (by rw [List.length_map]; exact hn) hL (by rw [List.map_append, List.map_reverse]) (lv_room (by rw [cb_catsum]; exact h8)) hd ⟨Nat.zero_le _, Nat.zero_le _⟩
theorem cb_runN {host : String} (h : cb_ok O K M cc nL own ret) (hl : cb_LN own idx y host bytes maxL rt n) (hR : rm.frames + 1 ≤ R.frames ∧ 8 + (maxL + 11) + rm.locals ≤ R.locals) (hrc : rm.cells = 0 ∧ rm.slots = 0) (hd : decode cc pc = .ok (.invokestatic idx, 3)) {q1 : Int × cb_S} (hm : cb_m O K v1 y bytes maxL rt rm as g q1) (hn : as.length = n) (h8 : rest.length ≤ 8)
    {H : Heap} {locs : List Loc} {L : Array Slot} (hP : va_P O.2.1 vwCl (cb_W O K g) H) (hL : L.size = nL) : match M with
    | (p, e, s, m, args, below, meth, c) => va_Run p O.1 e R s m args below meth c H locs 0 0 0 0 (F0 m pc L ((as.reverse ++ rest).map (cb_v O.2.2.2))) (rest.map (cb_v O.2.2.2)) (cb_Q O K v1 q1 (as.map (cb_v O.2.2.2)).toArray) (cb_A O K) := by
  obtain ⟨p, e, s, m, args, below, meth, c⟩ := M
  obtain ⟨hx, hcode, hr0, hml, hown, hts, hlk, hK, hJ⟩ := h
  obtain ⟨l1, l2, l3, l4, l5⟩ := hl
  exact va_runSN (As := as.map (cb_v O.2.2.2)) (rest := rest.map (cb_v O.2.2.2)) ⟨hx, hcode, hml, hown, hts⟩ hm ⟨va_cnB n hts (tb_inG l4) rfl hrc.1 hrc.2 (hK.2 _ l1) (hts _ l3) l5 hR, hts _ l2, trivial⟩ ⟨cb_blind, fun U hU hW => ⟨rfl, by rw [hU]; exact hP, hK.warm hW⟩⟩ rfl (by rw [List.length_map]; exact hn) hL (by rw [List.map_append, List.map_reverse]) (lv_room (by rw [cb_catsum]; exact h8)) hd ⟨Nat.zero_le _, Nat.zero_le _⟩
theorem cb_runV {b ci : Nat} {rs : List (Option Nat)} {T : u_T} {N : Nat} (h : cb_ok O K M cc nL own ret) (hl : cb_LV own idx y bytes maxL rt n) (hR : rm.frames + 1 ≤ R.frames ∧ 8 + (maxL + 11) + rm.locals ≤ R.locals) (hrc : rm.cells = 0 ∧ rm.slots = 0) (hd : decode cc pc = .ok (.invokevirtual idx, 3)) {q1 : Int × cb_S} (hm : cb_m O K v1 y bytes maxL rt rm (.inr b :: as) g q1) (hn : as.length = n) (h8 : rest.length ≤ 8)
    (hb : b < K.2) (hc : K.1 b = .inr (.inr (ci, rs))) (hcl : vwCl[ci]? = some (y.cls, T, N))
    {H : Heap} {locs : List Loc} {L : Array Slot} (hP : va_P O.2.1 vwCl (cb_W O K g) H) (hL : L.size = nL) : match M with
    | (p, e, s, m, args, below, meth, c) => va_Run p O.1 e R s m args below meth c H locs 0 0 0 0 (F0 m pc L ((as.reverse ++ .inr b :: rest).map (cb_v O.2.2.2))) (rest.map (cb_v O.2.2.2)) (cb_Q O K v1 q1 ((.inr b :: as).map (cb_v O.2.2.2)).toArray) (cb_A O K) := by
  obtain ⟨p, e, s, m, args, below, meth, c⟩ := M
  obtain ⟨hx, hcode, hr0, hml, hown, hts, hlk, hK, hJ⟩ := h
  obtain ⟨l1, l2, l3, l3b, l4, l5⟩ := hl
  have hg : (cb_W O K g)[b]? = some (O.2.2.2 b, .inr (ci, cb_f O.2.2.2 (g b) 0 rs)) := by rw [cb_get hb, hc]; rfl
  exact va_runV (As := as.map (cb_v O.2.2.2)) (rest := rest.map (cb_v O.2.2.2)) (C := y.cls) ⟨hx, hcode, hml, hown, hts⟩ hm ⟨callB_of n hts (tb_inG l4) rfl hrc.1 hrc.2 (hts _ l3b) (hts _ l1) l5 hR, hts _ l2, hts _ l3⟩ ⟨cb_blind, va_recv hK.1 hP hcl hg, fun U hU hW => ⟨rfl, by rw [hU]; exact hP, hK.warm hW⟩⟩ rfl (by rw [List.length_map]; exact hn) hL (by rw [List.map_append, List.map_reverse]; rfl) (lv_room (by rw [cb_catsum]; exact h8)) hd ⟨Nat.zero_le _, Nat.zero_le _⟩
theorem cb_bind {Fc : Option (Int × cb_S)} {k : Int → cb_S → Option (Int × cb_S)} {q : Int × cb_S} (h : cb_b Fc k = some q) : ∃ q1, Fc = some q1 ∧ k q1.1 q1.2 = some q := by
  cases Fc with
  | none => cases h
  | some q1 => exact ⟨q1, rfl, h⟩
theorem cb_csi (h : cb_ok O K M cc nL own ret) (hl : cb_LS own idx y bytes maxL rt n) (hR : rm.frames + 1 ≤ R.frames ∧ 8 + (maxL + 11) + rm.locals ≤ R.locals) (hrc : rm.cells = 0 ∧ rm.slots = 0) (hd : decode cc pc = .ok (.invokestatic idx, 3)) (hm : ∀ q1, Fc = some q1 → cb_m O K false y bytes maxL rt rm as g q1) (hst : as.reverse ++ rest = st) (hn : as.length = n) (h8 : rest.length ≤ 8)
    (kk : ∀ r g', cb_j O K v R M nL (pc + 3) ls (.inl r :: rest) g' (k r g')) : cb_j O K v R M nL pc ls st g (cb_b Fc k) := by
  subst hst
  have key := fun q1 hq1 H locs L hP hL => cb_runS (v1 := false) (H := H) (locs := locs) (L := L) h hl hR hrc hd (hm q1 hq1) hn h8 hP hL
  obtain ⟨p, e, s, m, args, below, meth, c⟩ := M
  intro q hq H locs L hP hS hL
  obtain ⟨q1, h1, h2⟩ := cb_bind hq
  exact cb_goesI (key q1 h1 H locs L hP hL.1) hS hL h2 kk
theorem cb_csv (h : cb_ok O K M cc nL own ret) (hl : cb_LS own idx y bytes maxL rt n) (hR : rm.frames + 1 ≤ R.frames ∧ 8 + (maxL + 11) + rm.locals ≤ R.locals) (hrc : rm.cells = 0 ∧ rm.slots = 0) (hd : decode cc pc = .ok (.invokestatic idx, 3)) (hm : ∀ q1, Fc = some q1 → cb_m O K true y bytes maxL rt rm as g q1) (hst : as.reverse ++ rest = st) (hn : as.length = n) (h8 : rest.length ≤ 8)
    (kk : ∀ r g', cb_j O K v R M nL (pc + 3) ls rest g' (k r g')) : cb_j O K v R M nL pc ls st g (cb_b Fc k) := by
  subst hst
  have key := fun q1 hq1 H locs L hP hL => cb_runS (v1 := true) (H := H) (locs := locs) (L := L) h hl hR hrc hd (hm q1 hq1) hn h8 hP hL
  obtain ⟨p, e, s, m, args, below, meth, c⟩ := M
  intro q hq H locs L hP hS hL
  obtain ⟨q1, h1, h2⟩ := cb_bind hq
  exact cb_goesV (key q1 h1 H locs L hP hL.1) hS hL h2 kk
theorem cb_cni {host : String} (h : cb_ok O K M cc nL own ret) (hl : cb_LN own idx y host bytes maxL rt n) (hR : rm.frames + 1 ≤ R.frames ∧ 8 + (maxL + 11) + rm.locals ≤ R.locals) (hrc : rm.cells = 0 ∧ rm.slots = 0) (hd : decode cc pc = .ok (.invokestatic idx, 3)) (hm : ∀ q1, Fc = some q1 → cb_m O K false y bytes maxL rt rm as g q1) (hst : as.reverse ++ rest = st) (hn : as.length = n) (h8 : rest.length ≤ 8)
    (kk : ∀ r g', cb_j O K v R M nL (pc + 3) ls (.inl r :: rest) g' (k r g')) : cb_j O K v R M nL pc ls st g (cb_b Fc k) := by
  subst hst
  have key := fun q1 hq1 H locs L hP hL => cb_runN (v1 := false) (H := H) (locs := locs) (L := L) h hl hR hrc hd (hm q1 hq1) hn h8 hP hL
  obtain ⟨p, e, s, m, args, below, meth, c⟩ := M
  intro q hq H locs L hP hS hL
  obtain ⟨q1, h1, h2⟩ := cb_bind hq
  exact cb_goesI (key q1 h1 H locs L hP hL.1) hS hL h2 kk
theorem cb_cvi {b ci : Nat} {rs : List (Option Nat)} {T : u_T} {N : Nat} (h : cb_ok O K M cc nL own ret) (hl : cb_LV own idx y bytes maxL rt n) (hR : rm.frames + 1 ≤ R.frames ∧ 8 + (maxL + 11) + rm.locals ≤ R.locals) (hrc : rm.cells = 0 ∧ rm.slots = 0) (hd : decode cc pc = .ok (.invokevirtual idx, 3)) (hm : ∀ q1, Fc = some q1 → cb_m O K false y bytes maxL rt rm (.inr b :: as) g q1) (hst : as.reverse ++ .inr b :: rest = st) (hn : as.length = n) (h8 : rest.length ≤ 8)
    (hb : b < K.2) (hc : K.1 b = .inr (.inr (ci, rs))) (hcl : vwCl[ci]? = some (y.cls, T, N))
    (kk : ∀ r g', cb_j O K v R M nL (pc + 3) ls (.inl r :: rest) g' (k r g')) : cb_j O K v R M nL pc ls st g (cb_b Fc k) := by
  subst hst
  have key := fun q1 hq1 H locs L hP hL => cb_runV (v1 := false) (H := H) (locs := locs) (L := L) h hl hR hrc hd (hm q1 hq1) hn h8 hb hc hcl hP hL
  obtain ⟨p, e, s, m, args, below, meth, c⟩ := M
  intro q hq H locs L hP hS hL
  obtain ⟨q1, h1, h2⟩ := cb_bind hq
  exact cb_goesI (key q1 h1 H locs L hP hL.1) hS hL h2 kk
theorem cb_cvv {b ci : Nat} {rs : List (Option Nat)} {T : u_T} {N : Nat} (h : cb_ok O K M cc nL own ret) (hl : cb_LV own idx y bytes maxL rt n) (hR : rm.frames + 1 ≤ R.frames ∧ 8 + (maxL + 11) + rm.locals ≤ R.locals) (hrc : rm.cells = 0 ∧ rm.slots = 0) (hd : decode cc pc = .ok (.invokevirtual idx, 3)) (hm : ∀ q1, Fc = some q1 → cb_m O K true y bytes maxL rt rm (.inr b :: as) g q1) (hst : as.reverse ++ .inr b :: rest = st) (hn : as.length = n) (h8 : rest.length ≤ 8)
    (hb : b < K.2) (hc : K.1 b = .inr (.inr (ci, rs))) (hcl : vwCl[ci]? = some (y.cls, T, N))
    (kk : ∀ r g', cb_j O K v R M nL (pc + 3) ls rest g' (k r g')) : cb_j O K v R M nL pc ls st g (cb_b Fc k) := by
  subst hst
  have key := fun q1 hq1 H locs L hP hL => cb_runV (v1 := true) (H := H) (locs := locs) (L := L) h hl hR hrc hd (hm q1 hq1) hn h8 hb hc hcl hP hL
  obtain ⟨p, e, s, m, args, below, meth, c⟩ := M
  intro q hq H locs L hP hS hL
  obtain ⟨q1, h1, h2⟩ := cb_bind hq
  exact cb_goesV (key q1 h1 H locs L hP hL.1) hS hL h2 kk
end cbT
/-- Math.max, Math.min -/
def cb_LM (own : String) (idx : Nat) (y : MethodName) (bytes : ByteArray) : Prop := Cond.methodLink own idx y ∈ tb_G ∧ Cond.static y ∈ tb_G ∧ Cond.initialized "java/lang/Math" ∈ tb_G ∧ Cond.code y bytes 2 (some .int) ∈ tb_G
theorem cb_max {idx : Nat} (h : cb_ok O K M cc nL own ret) (hl : cb_LM own idx Lib.Math.max.name Lib.Math.max.code) (hR : 1 ≤ R.frames ∧ 21 ≤ R.locals) (h8 : st.length ≤ 8) {x y : Int} (hd : decode cc pc = .ok (.invokestatic idx, 3)) (k : cb_j O K v R M nL (pc + 3) ls (.inl (if cb_w x < cb_w y then y else x) :: st) g F) : cb_j O K v R M nL pc ls (.inl y :: .inl x :: st) g F := by
  obtain ⟨p, e, s, m, args, below, meth, c⟩ := M
  intro q hq H locs L hP hS hL
  obtain ⟨hx, hcode, hr0, hml, hown, hts, hlk, hK, hJ⟩ := h
  obtain ⟨l1, l2, l3, l4⟩ := hl
  refine va_mmax hx hcode (by rw [hml, hL.1]) hown (hts _ l1) (hts _ l2) (hts _ l3) (hts _ l4) hR.1 (by rw [cb_catsum]; omega) (Nat.zero_le _) (Nat.zero_le _) hd ?_
  have := k q hq H locs L hP hS hL
  have e9 : Value.int (if Int32.ofInt x < Int32.ofInt y then Int32.ofInt y else Int32.ofInt x) = cb_v O.2.2.2 (.inl (if cb_w x < cb_w y then y else x)) := by
    by_cases hc : cb_w x < cb_w y
    · rw [if_pos hc, if_pos (cb_lt.mpr hc)]; rfl
    · rw [if_neg hc, if_neg (fun z => hc (cb_lt.mp z))]; rfl
  rw [e9]
  exact this
theorem cb_min {idx : Nat} (h : cb_ok O K M cc nL own ret) (hl : cb_LM own idx Lib.Math.min.name Lib.Math.min.code) (hR : 1 ≤ R.frames ∧ 21 ≤ R.locals) (h8 : st.length ≤ 8) {x y : Int} (hd : decode cc pc = .ok (.invokestatic idx, 3)) (k : cb_j O K v R M nL (pc + 3) ls (.inl (if cb_w x ≤ cb_w y then x else y) :: st) g F) : cb_j O K v R M nL pc ls (.inl y :: .inl x :: st) g F := by
  obtain ⟨p, e, s, m, args, below, meth, c⟩ := M
  intro q hq H locs L hP hS hL
  obtain ⟨hx, hcode, hr0, hml, hown, hts, hlk, hK, hJ⟩ := h
  obtain ⟨l1, l2, l3, l4⟩ := hl
  refine va_mmin hx hcode (by rw [hml, hL.1]) hown (hts _ l1) (hts _ l2) (hts _ l3) (hts _ l4) hR.1 (by rw [cb_catsum]; omega) (Nat.zero_le _) (Nat.zero_le _) hd ?_
  have := k q hq H locs L hP hS hL
  have e9 : Value.int (if Int32.ofInt y < Int32.ofInt x then Int32.ofInt y else Int32.ofInt x) = cb_v O.2.2.2 (.inl (if cb_w x ≤ cb_w y then x else y)) := by
    by_cases hc : cb_w x ≤ cb_w y
    · rw [if_pos hc, if_neg (fun z => by have := cb_lt.mp z; omega)]; rfl
    · rw [if_neg hc, if_pos (cb_lt.mpr (by omega))]; rfl
  rw [e9]
  exact this
/-- a contract out of its body -/
theorem cb_of_body {y : MethodName} {rm : Room} {as : List cb_V} {q : Int × cb_S} (hJ : cb_J O K) (hy : plainName y.cls = true) (hn : as.length ≤ nL) (hF : F = some q)
    (body : ∀ M, cb_ok O K M cc nL y.cls ret → cb_j O K v rm M nL 0 (as.map some ++ List.replicate (nL - as.length) none) [] g F) : cb_m O K v y cc nL ret rm as g q := by
  refine Met.ofW (cc := cc) (maxL := nL) (ret := ret) hy rfl ?_
  intro p e s m args below meth c s₁ B hml hv
  obtain ⟨rfl, hP, hK⟩ := hv
  have hts := atoms_spec (ws := Cond.code y cc nL ret :: tb_G) B.pre
  have hlen : ∀ l : List cb_V, (lg_sl (l.map (cb_v O.2.2.2))).length = l.length := fun l => by
    induction l with
    | nil => rfl
    | cons a l ih =>
      show ((if (cb_v O.2.2.2 a).category = 2 then _ else _) ++ lg_sl (l.map (cb_v O.2.2.2))).length = _
      rw [if_neg (by rw [cb_v_cat]; decide), List.length_append, ih, List.length_cons]
      simp
      omega
  have hl := lv_entry (as.map (cb_v O.2.2.2)) (n := nL) (by rw [hlen]; exact hn)
  rw [lg_entry_eq]
  generalize (lg_sl (as.map (cb_v O.2.2.2)) ++ List.replicate (nL - (lg_sl (as.map (cb_v O.2.2.2))).length) Slot.unset).toArray = L at hl ⊢
  have hargs : ∀ (l : List cb_V) (i j : Nat) (w : cb_V), l[j]? = some w → (i + j, cb_v O.2.2.2 w) ∈ lv_args i (l.map (cb_v O.2.2.2)) := fun l => by
    induction l with
    | nil => intro i j w h; simp at h
    | cons a l ih =>
      intro i j w h
      show _ ∈ (i, cb_v O.2.2.2 a) :: lv_args (if (cb_v O.2.2.2 a).category = 2 then i + 2 else i + 1) (l.map (cb_v O.2.2.2))
      rw [if_neg (by rw [cb_v_cat]; decide)]
      cases j with
      | zero => cases h; exact List.mem_cons_self
      | succ j =>
        have := ih (i + 1) j w h
        rw [show i + 1 + j = i + (j + 1) by omega] at this
        exact List.mem_cons_of_mem _ this
  have hH : cb_H O.2.2.2 L nL (as.map some ++ List.replicate (nL - as.length) none) := by
    refine ⟨hl.1, hl.2.1, fun i w hi => ?_⟩
    by_cases h9 : i < as.length
    · rw [List.getElem?_append_left (by rw [List.length_map]; exact h9), List.getElem?_map] at hi
      have hw : as[i]? = some w := by
        rw [List.getElem?_eq_getElem h9] at hi ⊢
        cases hi
        rfl
      have := hl.2.2 _ (hargs as 0 i w hw)
      rw [Nat.zero_add] at this
      exact this
    · rw [List.getElem?_append_right (by rw [List.length_map]; omega), List.length_map] at hi
      have := List.mem_of_getElem? hi
      rw [List.mem_replicate] at this
      cases this.2
  exact body (p, e, s, m, (as.map (cb_v O.2.2.2)).toArray, below, meth, c) ⟨B.exec, B.bytes, B.returns, hml, findClass_of_methodNamed B.named, fun w hw => hts w (List.mem_cons_of_mem _ hw), B.notSynchronized, hK, hJ⟩ q hF s.heap [] L hP va_S.rf hH
end cbS
/-- fewer locals are said -/
def cb_sub : cb_L → cb_L → Prop
  | [], _ => True
  | _ :: _, [] => False
  | none :: a, _ :: b => cb_sub a b
  | some w :: a, x :: b => x = some w ∧ cb_sub a b
theorem cb_sub_at : ∀ (a b : cb_L), cb_sub a b → ∀ (i : Nat) (w : cb_V), a[i]? = some (some w) → b[i]? = some (some w)
  | [], _, _, i, w, h => by simp at h
  | none :: a, [], h0, i, w, h => h0.elim
  | some _ :: a, [], h0, i, w, h => h0.elim
  | none :: a, x :: b, h0, 0, w, h => by simp at h
  | none :: a, x :: b, h0, i + 1, w, h => cb_sub_at a b h0 i w h
  | some u :: a, x :: b, h0, 0, w, h => by
    rw [h0.1]
    exact h
  | some u :: a, x :: b, h0, i + 1, w, h => cb_sub_at a b h0.2 i w h
theorem cb_fewer {O : cb_O} {K : cb_K} {v : Bool} {R : Room} {M : cb_M} {nL : Nat} {pc : Nat} {ls ls' : cb_L} {st : List cb_V} {g : cb_S} {F : Option (Int × cb_S)} (h : cb_sub ls' ls) (k : cb_j O K v R M nL pc ls' st g F) : cb_j O K v R M nL pc ls st g F := by
  obtain ⟨p, e, s, m, args, below, meth, c⟩ := M
  intro q hq H locs L hP hS hL
  exact k q hq H locs L hP hS ⟨hL.1, hL.2.1, fun i w hi => hL.2.2 i w (cb_sub_at _ _ h i w hi)⟩
theorem cb_top {O : cb_O} {K : cb_K} {v : Bool} {R : Room} {M : cb_M} {nL : Nat} {pc : Nat} {ls : cb_L} {st : List cb_V} {g : cb_S} {F : Option (Int × cb_S)} {x y : Int} (h : x = y) (k : cb_j O K v R M nL pc ls (.inl y :: st) g F) : cb_j O K v R M nL pc ls (.inl x :: st) g F := h ▸ k
