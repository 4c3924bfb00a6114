/-! the tables' words that may be handed on -/
def tb_G : List Cond := lw_tbl.filter goodWord
theorem tb_good {w : Cond} (h : w ∈ tb_G) : goodWord w = true := (List.mem_filter.mp h).2
theorem tb_in {c0 c : Cond} (hc : c ∈ tb_G) : GoodIn (c0 :: tb_G) (c :: tb_G) := by
  intro w hw
  rcases List.mem_cons.mp hw with rfl | h
  · exact ⟨List.mem_cons_of_mem _ hc, good_of_word (tb_good hc)⟩
  · exact ⟨List.mem_cons_of_mem _ h, good_of_word (tb_good h)⟩
theorem tb_inG {c : Cond} (hc : c ∈ tb_G) : GoodIn tb_G (c :: tb_G) := by
  intro w hw
  rcases List.mem_cons.mp hw with rfl | h
  · exact ⟨hc, good_of_word (tb_good hc)⟩
  · exact ⟨h, good_of_word (tb_good h)⟩
theorem tb_at {w : Cond} (h : w ∈ lw_tbl) (hg : goodWord w = true) : w ∈ tb_G := List.mem_filter.mpr ⟨h, hg⟩
/-- where a method stands: the machine, its environment, the state at the entry, the method, its arguments, what is below -/
abbrev cb_M : Type := Program × Env × State × MethodId × Array Value × List Frame × Method × Code
def cb_ty (O : cb_O) : List (ClassId × FieldType) := [(O.2.2.1.1, .int), (O.2.2.1.2.1, .boolean), (O.2.2.1.2.2, .array .int)]
def cb_nw (U : State) : Prop := ∀ x ∈ cb_NL, va_Nw (.methodLinkNest x.1 x.2.1 x.2.2.1 x.2.2.2) U
/-- what the tables say: of the classes, of private members of nest mates -/
def cb_KK (O : cb_O) (U : State) : Prop := va_K O.2.1 vwCl (cb_ty O) U ∧ cb_nw U
theorem cb_KK.warm {O : cb_O} {s U : State} (h : cb_KK O s) (hW : s.WarmedH U.vm) : cb_KK O U := ⟨va_K.moved hW.alike h.1, fun x hx => va_Nw.warmM hW (h.2 x hx)⟩
theorem cb_KK.same {O : cb_O} {s U : State} (h : cb_KK O s) (hv : s.vm = U.vm) : cb_KK O U := ⟨va_K.moved (u := s) (U := U) (by rw [← hv]; exact Vm.Alike.refl s.vm) h.1, fun x hx => va_Nw.same rfl hv (h.2 x hx)⟩
/-- a method's end: its answer (none, if v), and what the cells hold then -/
def cb_Q (O : cb_O) (K : cb_K) (v : Bool) (q : Int × cb_S) : Array Value → State → Outcome → State → Prop := match v with
  | true => va_Qv (fun _ : Unit => True) (fun _ t => va_P O.2.1 vwCl (cb_W O K q.2) t.heap) (cb_A O K)
  | false => va_Qi (fun (r : Int32) (_ : Unit) => r = Int32.ofInt q.1) (fun _ t => va_P O.2.1 vwCl (cb_W O K q.2) t.heap) (cb_A O K)
def cb_P (O : cb_O) (K : cb_K) (as : List cb_V) (g : cb_S) : Array Value → State → Prop := va_Pc (as.map (cb_v O.2.2.2)) (fun U => va_P O.2.1 vwCl (cb_W O K g) U.heap ∧ cb_KK O U)
/-- a method's contract at these arguments, over cells that hold g: it ends with q -/
def cb_m (O : cb_O) (K : cb_K) (v : Bool) (y : MethodName) (cc : ByteArray) (nL : Nat) (ret : Option FieldType) (rm : Room) (as : List cb_V) (g : cb_S) (q : Int × cb_S) : Prop :=
  Met O.1 y (Cond.code y cc nL ret :: tb_G) rm (cb_P O K as g) (cb_Q O K v q) 0 0 (cb_A O K)
def cb_ok (O : cb_O) (K : cb_K) (M : cb_M) (cc : ByteArray) (nL : Nat) (own : String) (ret : Option FieldType) : Prop :=
  match M with
  | (p, _, s, m, args, _, meth, c) => p.tables.exec = Jvm.exec ∧ c.code = cc ∧ meth.sig.returnType = ret ∧ c.maxLocals = nL ∧ s.vm.findClass own = some m.cls ∧ (∀ w ∈ tb_G, w.before args s = true) ∧ meth.locks = false ∧ cb_KK O s ∧ cb_J O K
/-- at pc, with these locals, this stack and cells that hold g: if F says how it ends, then the method ends so -/
def cb_j (O : cb_O) (K : cb_K) (v : Bool) (R : Room) (M : cb_M) (nL : Nat) (pc : Nat) (ls : cb_L) (st : List cb_V) (g : cb_S) (F : Option (Int × cb_S)) : Prop :=
  match M with
  | (p, e, s, m, args, below, meth, c) => ∀ q, F = some q → ∀ (H : Heap) (locs : List Loc) (L : Array Slot), va_P O.2.1 vwCl (cb_W O K g) H → va_S (cb_A O K) s.heap H locs → cb_H O.2.2.2 L nL ls →
    W p O.1 e R s m args below meth c H locs 0 0 (MQ below (cb_Q O K v q) args s 0 0 (cb_A O K)) (F0 m pc L (st.map (cb_v O.2.2.2)))
section cbR
variable {O : cb_O} {K : cb_K} {v : Bool} {R : Room} {M : cb_M} {nL : Nat} {cc : ByteArray} {own : String} {ret : Option FieldType} {pc : Nat} {ls : cb_L} {st : List cb_V} {g : cb_S} {F : Option (Int × cb_S)}
theorem cb_none : cb_j O K v R M nL pc ls st g none := by
  obtain ⟨p, e, s, m, args, below, meth, c⟩ := M
  intro q hq
  cases hq
theorem cb_eqF {F' : Option (Int × cb_S)} (h : F = F') (k : cb_j O K v R M nL pc ls st g F') : cb_j O K v R M nL pc ls st g F := h ▸ k
theorem cb_ite {p : Prop} [d : Decidable p] {F1 F2 : Option (Int × cb_S)} (h1 : p → cb_j O K v R M nL pc ls st g F1) (h2 : ¬ p → cb_j O K v R M nL pc ls st g F2) : cb_j O K v R M nL pc ls st g (if p then F1 else F2) := by
  by_cases h : p
  · rw [if_pos h]; exact h1 h
  · rw [if_neg h]; exact h2 h
theorem cb_iconst (h : cb_ok O K M cc nL own ret) {n : Int} (hd : decode cc pc = .ok (.iconst n, 1)) (k : cb_j O K v R M nL (pc + 1) ls (.inl n :: st) g F) : cb_j O K v R M nL pc ls st g F := by
  obtain ⟨p, e, s, m, args, below, meth, c⟩ := M
  intro q hq H locs L hP hS hL
  exact lv_iconst h.1 h.2.1 hd rfl (k q hq H locs L hP hS hL)
theorem cb_bipush (h : cb_ok O K M cc nL own ret) {n : Int} (hd : decode cc pc = .ok (.bipush n, 2)) (hn : (Int8.ofInt n).toInt32 = Int32.ofInt n) (k : cb_j O K v R M nL (pc + 2) ls (.inl n :: st) g F) : cb_j O K v R M nL pc ls st g F := by
  obtain ⟨p, e, s, m, args, below, meth, c⟩ := M
  intro q hq H locs L hP hS hL
  exact lv_bipush h.1 h.2.1 hd hn (k q hq H locs L hP hS hL)
theorem cb_sipush (h : cb_ok O K M cc nL own ret) {n : Int} (hd : decode cc pc = .ok (.sipush n, 3)) (hn : (Int16.ofInt n).toInt32 = Int32.ofInt n) (k : cb_j O K v R M nL (pc + 3) ls (.inl n :: st) g F) : cb_j O K v R M nL pc ls st g F := by
  obtain ⟨p, e, s, m, args, below, meth, c⟩ := M
  intro q hq H locs L hP hS hL
  exact lv_sipush h.1 h.2.1 hd hn (k q hq H locs L hP hS hL)
theorem cb_iload_n (h : cb_ok O K M cc nL own ret) {i : Fin 4} {x : Int} (hd : decode cc pc = .ok (.iload_n i, 1)) (hl : ls[(i : Nat)]? = some (some (.inl x))) (k : cb_j O K v R M nL (pc + 1) ls (.inl x :: st) g F) : cb_j O K v R M nL pc ls st g F := by
  obtain ⟨p, e, s, m, args, below, meth, c⟩ := M
  intro q hq H locs L hP hS hL
  exact lv_iload_n h.1 h.2.1 hd rfl (hL.2.2 _ _ hl) (k q hq H locs L hP hS hL)
theorem cb_iload (h : cb_ok O K M cc nL own ret) {i : Nat} {x : Int} (hd : decode cc pc = .ok (.iload i, 2)) (hl : ls[i]? = some (some (.inl x))) (k : cb_j O K v R M nL (pc + 2) ls (.inl x :: st) g F) : cb_j O K v R M nL pc ls st g F := by
  obtain ⟨p, e, s, m, args, below, meth, c⟩ := M
  intro q hq H locs L hP hS hL
  exact lv_iload h.1 h.2.1 hd (hL.2.2 _ _ hl) (k q hq H locs L hP hS hL)
theorem cb_aload_n (h : cb_ok O K M cc nL own ret) {i : Fin 4} {x : Nat} (hd : decode cc pc = .ok (.aload_n i, 1)) (hl : ls[(i : Nat)]? = some (some (.inr x))) (k : cb_j O K v R M nL (pc + 1) ls (.inr x :: st) g F) : cb_j O K v R M nL pc ls st g F := by
  obtain ⟨p, e, s, m, args, below, meth, c⟩ := M
  intro q hq H locs L hP hS hL
  exact lv_aload_n h.1 h.2.1 hd rfl (hL.2.2 _ _ hl) (k q hq H locs L hP hS hL)
theorem cb_istore_n (h : cb_ok O K M cc nL own ret) {i : Fin 4} {x : Int} {ls' : cb_L} (hd : decode cc pc = .ok (.istore_n i, 1)) (hn : (i : Nat) < nL) (hl : ls.set (i : Nat) (some (.inl x)) = ls') (k : cb_j O K v R M nL (pc + 1) ls' st g F) : cb_j O K v R M nL pc ls (.inl x :: st) g F := by
  obtain ⟨p, e, s, m, args, below, meth, c⟩ := M
  intro q hq H locs L hP hS hL
  subst hl
  exact lv_istore_n h.1 h.2.1 hd rfl (cb_H_has hL) hn rfl (fun L' hL' => k q hq H locs L' hP hS (cb_H_set hL'))
theorem cb_istore (h : cb_ok O K M cc nL own ret) {i : Nat} {x : Int} {ls' : cb_L} (hd : decode cc pc = .ok (.istore i, 2)) (hn : i < nL) (hl : ls.set i (some (.inl x)) = ls') (k : cb_j O K v R M nL (pc + 2) ls' st g F) : cb_j O K v R M nL pc ls (.inl x :: st) g F := by
  obtain ⟨p, e, s, m, args, below, meth, c⟩ := M
  intro q hq H locs L hP hS hL
  subst hl
  exact lv_istore h.1 h.2.1 hd (cb_H_has hL) hn rfl (fun L' hL' => k q hq H locs L' hP hS (cb_H_set hL'))
theorem cb_iinc (h : cb_ok O K M cc nL own ret) {i : Nat} {n x : Int} {ls' : cb_L} (hd : decode cc pc = .ok (.iinc i n, 3)) (hx : ls[i]? = some (some (.inl x))) (hn : i < nL) (hl : ls.set i (some (.inl (x + n))) = ls') (k : cb_j O K v R M nL (pc + 3) ls' st g F) : cb_j O K v R M nL pc ls st g F := by
  obtain ⟨p, e, s, m, args, below, meth, c⟩ := M
  intro q hq H locs L hP hS hL
  subst hl
  obtain ⟨j, hj⟩ := List.getElem?_of_mem (cb_pr_mem (ad := O.2.2.2) (ls := ls) (q := (i, .int (Int32.ofInt x))) |>.mpr ⟨.inl x, hx, rfl⟩)
  exact lv_iinc h.1 h.2.1 hd (cb_H_has hL) hj (Int32.ofInt_add x n).symm hn rfl (fun L' hL' => k q hq H locs L' hP hS (cb_H_set hL'))
theorem cb_iadd (h : cb_ok O K M cc nL own ret) {x y : Int} (hd : decode cc pc = .ok (.iadd, 1)) (k : cb_j O K v R M nL (pc + 1) ls (.inl (x + y) :: st) g F) : cb_j O K v R M nL pc ls (.inl y :: .inl x :: st) g F := by
  obtain ⟨p, e, s, m, args, below, meth, c⟩ := M
  intro q hq H locs L hP hS hL
  have := k q hq H locs L hP hS hL
  rw [List.map_cons, show cb_v O.2.2.2 (.inl (x + y)) = .int (Int32.ofInt x + Int32.ofInt y) from congrArg Value.int (Int32.ofInt_add x y)] at this
  exact lv_iadd h.1 h.2.1 hd this
theorem cb_isub (h : cb_ok O K M cc nL own ret) {x y : Int} (hd : decode cc pc = .ok (.isub, 1)) (k : cb_j O K v R M nL (pc + 1) ls (.inl (x - y) :: st) g F) : cb_j O K v R M nL pc ls (.inl y :: .inl x :: st) g F := by
  obtain ⟨p, e, s, m, args, below, meth, c⟩ := M
  intro q hq H locs L hP hS hL
  have := k q hq H locs L hP hS hL
  rw [List.map_cons, show cb_v O.2.2.2 (.inl (x - y)) = .int (Int32.ofInt x - Int32.ofInt y) from congrArg Value.int (Int32.ofInt_sub x y)] at this
  exact lv_isub h.1 h.2.1 hd this
theorem cb_imul (h : cb_ok O K M cc nL own ret) {x y : Int} (hd : decode cc pc = .ok (.imul, 1)) (k : cb_j O K v R M nL (pc + 1) ls (.inl (x * y) :: st) g F) : cb_j O K v R M nL pc ls (.inl y :: .inl x :: st) g F := by
  obtain ⟨p, e, s, m, args, below, meth, c⟩ := M
  intro q hq H locs L hP hS hL
  have := k q hq H locs L hP hS hL
  rw [List.map_cons, show cb_v O.2.2.2 (.inl (x * y)) = .int (Int32.ofInt x * Int32.ofInt y) from congrArg Value.int (Int32.ofInt_mul x y)] at this
  exact lv_imul h.1 h.2.1 hd this
theorem cb_idiv (h : cb_ok O K M cc nL own ret) {x y b : Int} (hb : cb_w y = b) (hd : decode cc pc = .ok (.idiv, 1)) (hne : ¬ b = 0) (k : cb_j O K v R M nL (pc + 1) ls (.inl ((cb_w x).tdiv b) :: st) g F) : cb_j O K v R M nL pc ls (.inl y :: .inl x :: st) g F := by
  subst hb
  obtain ⟨p, e, s, m, args, below, meth, c⟩ := M
  intro q hq H locs L hP hS hL
  have := k q hq H locs L hP hS hL
  rw [List.map_cons, show cb_v O.2.2.2 (.inl ((cb_w x).tdiv (cb_w y))) = .int (Int32.ofInt x / Int32.ofInt y) from congrArg Value.int (cb_div x y)] at this
  exact lv_idiv h.1 h.2.1 hd (fun z => hne (cb_eq0.mp z)) this
theorem cb_irem (h : cb_ok O K M cc nL own ret) {x y b : Int} (hb : cb_w y = b) (hd : decode cc pc = .ok (.irem, 1)) (hne : ¬ b = 0) (k : cb_j O K v R M nL (pc + 1) ls (.inl ((cb_w x).tmod b) :: st) g F) : cb_j O K v R M nL pc ls (.inl y :: .inl x :: st) g F := by
  subst hb
  obtain ⟨p, e, s, m, args, below, meth, c⟩ := M
  intro q hq H locs L hP hS hL
  have := k q hq H locs L hP hS hL
  rw [List.map_cons, show cb_v O.2.2.2 (.inl ((cb_w x).tmod (cb_w y))) = .int (Int32.ofInt x - Int32.ofInt x / Int32.ofInt y * Int32.ofInt y) from congrArg Value.int (cb_rem x y)] at this
  exact lv_irem h.1 h.2.1 hd (fun z => hne (cb_eq0.mp z)) this
theorem cb_iand (h : cb_ok O K M cc nL own ret) {x y z : Int} (hd : decode cc pc = .ok (.iand, 1)) (hz : Int32.ofInt x &&& Int32.ofInt y = Int32.ofInt z) (k : cb_j O K v R M nL (pc + 1) ls (.inl z :: st) g F) : cb_j O K v R M nL pc ls (.inl y :: .inl x :: st) g F := by
  obtain ⟨p, e, s, m, args, below, meth, c⟩ := M
  intro q hq H locs L hP hS hL
  have := k q hq H locs L hP hS hL
  rw [List.map_cons, show cb_v O.2.2.2 (.inl z) = .int (Int32.ofInt x &&& Int32.ofInt y) from congrArg Value.int hz.symm] at this
  exact lv_iand h.1 h.2.1 hd this
theorem cb_ishr (h : cb_ok O K M cc nL own ret) {x y : Int} (hd : decode cc pc = .ok (.ishr, 1)) (k : cb_j O K v R M nL (pc + 1) ls (.inl (cb_w x / 2 ^ (y % 32).toNat) :: st) g F) : cb_j O K v R M nL pc ls (.inl y :: .inl x :: st) g F := by
  obtain ⟨p, e, s, m, args, below, meth, c⟩ := M
  intro q hq H locs L hP hS hL
  have := k q hq H locs L hP hS hL
  rw [List.map_cons, show cb_v O.2.2.2 (.inl (cb_w x / 2 ^ (y % 32).toNat)) = .int (Int32.ofInt x >>> (Int32.ofInt y &&& 31)) from congrArg Value.int (cb_shr x y).symm] at this
  exact lv_ishr h.1 h.2.1 hd this
theorem cb_iushr (h : cb_ok O K M cc nL own ret) {x y : Int} (hd : decode cc pc = .ok (.iushr, 1)) (k : cb_j O K v R M nL (pc + 1) ls (.inl (x % 4294967296 / 2 ^ (y % 32).toNat) :: st) g F) : cb_j O K v R M nL pc ls (.inl y :: .inl x :: st) g F := by
  obtain ⟨p, e, s, m, args, below, meth, c⟩ := M
  intro q hq H locs L hP hS hL
  exact lv_iushr h.1 h.2.1 hd (cb_ushr x y) (k q hq H locs L hP hS hL)
theorem cb_dup (h : cb_ok O K M cc nL own ret) {x : cb_V} (hd : decode cc pc = .ok (.dup, 1)) (k : cb_j O K v R M nL (pc + 1) ls (x :: x :: st) g F) : cb_j O K v R M nL pc ls (x :: st) g F := by
  obtain ⟨p, e, s, m, args, below, meth, c⟩ := M
  intro q hq H locs L hP hS hL
  exact lv_dup h.1 h.2.1 hd (cb_v_cat _ x) (k q hq H locs L hP hS hL)
theorem cb_goto (h : cb_ok O K M cc nL own ret) {off : Int} {tgt : Nat} (hd : decode cc pc = .ok (.goto off, 3)) (ht : (pc : Int) + off = (tgt : Int)) (k : cb_j O K v R M nL tgt ls st g F) : cb_j O K v R M nL pc ls st g F := by
  obtain ⟨p, e, s, m, args, below, meth, c⟩ := M
  intro q hq H locs L hP hS hL
  exact lv_goto h.1 h.2.1 hd ht (k q hq H locs L hP hS hL)
theorem cb_ifeq (h : cb_ok O K M cc nL own ret) {x a : Int} (ha : cb_w x = a) {off : Int} {tgt : Nat} {F1 F2 : Option (Int × cb_S)} (hd : decode cc pc = .ok (.ifCond .eq off, 3)) (ht : (pc : Int) + off = (tgt : Int)) (kt : a = 0 → cb_j O K v R M nL tgt ls st g F1) (kf : ¬ a = 0 → cb_j O K v R M nL (pc + 3) ls st g F2) : cb_j O K v R M nL pc ls (.inl x :: st) g (if a = 0 then F1 else F2) := by
  subst ha
  refine cb_ite (fun c0 => ?_) (fun c0 => ?_) <;> obtain ⟨p, e, s, m, args, below, meth, c⟩ := M <;> intro q hq H locs L hP hS hL
  · exact lv_if_eq h.1 h.2.1 hd ht (fun _ => kt c0 q hq H locs L hP hS hL) (fun z => absurd (cb_eq0.mpr c0) z)
  · exact lv_if_eq h.1 h.2.1 hd ht (fun z => absurd (cb_eq0.mp z) c0) (fun _ => kf c0 q hq H locs L hP hS hL)
theorem cb_ifne (h : cb_ok O K M cc nL own ret) {x a : Int} (ha : cb_w x = a) {off : Int} {tgt : Nat} {F1 F2 : Option (Int × cb_S)} (hd : decode cc pc = .ok (.ifCond .ne off, 3)) (ht : (pc : Int) + off = (tgt : Int)) (kt : ¬ a = 0 → cb_j O K v R M nL tgt ls st g F1) (kf : a = 0 → cb_j O K v R M nL (pc + 3) ls st g F2) : cb_j O K v R M nL pc ls (.inl x :: st) g (if a = 0 then F2 else F1) := by
  subst ha
  refine cb_ite (fun c0 => ?_) (fun c0 => ?_) <;> obtain ⟨p, e, s, m, args, below, meth, c⟩ := M <;> intro q hq H locs L hP hS hL
  · exact lv_if_ne h.1 h.2.1 hd ht (fun z => absurd (cb_eq0.mpr c0) z) (fun _ => kf c0 q hq H locs L hP hS hL)
  · exact lv_if_ne h.1 h.2.1 hd ht (fun _ => kt c0 q hq H locs L hP hS hL) (fun z => absurd (cb_eq0.mp z) c0)
theorem cb_iflt (h : cb_ok O K M cc nL own ret) {x a : Int} (ha : cb_w x = a) {off : Int} {tgt : Nat} {F1 F2 : Option (Int × cb_S)} (hd : decode cc pc = .ok (.ifCond .lt off, 3)) (ht : (pc : Int) + off = (tgt : Int)) (kt : a < 0 → cb_j O K v R M nL tgt ls st g F1) (kf : ¬ a < 0 → cb_j O K v R M nL (pc + 3) ls st g F2) : cb_j O K v R M nL pc ls (.inl x :: st) g (if a < 0 then F1 else F2) := by
  subst ha
  refine cb_ite (fun c0 => ?_) (fun c0 => ?_) <;> obtain ⟨p, e, s, m, args, below, meth, c⟩ := M <;> intro q hq H locs L hP hS hL
  · exact lv_if_lt h.1 h.2.1 hd ht (fun _ => kt c0 q hq H locs L hP hS hL) (fun z => absurd (cb_lt0.mpr c0) z)
  · exact lv_if_lt h.1 h.2.1 hd ht (fun z => absurd (cb_lt0.mp z) c0) (fun _ => kf c0 q hq H locs L hP hS hL)
theorem cb_ifge (h : cb_ok O K M cc nL own ret) {x a : Int} (ha : cb_w x = a) {off : Int} {tgt : Nat} {F1 F2 : Option (Int × cb_S)} (hd : decode cc pc = .ok (.ifCond .ge off, 3)) (ht : (pc : Int) + off = (tgt : Int)) (kt : 0 ≤ a → cb_j O K v R M nL tgt ls st g F1) (kf : ¬ 0 ≤ a → cb_j O K v R M nL (pc + 3) ls st g F2) : cb_j O K v R M nL pc ls (.inl x :: st) g (if 0 ≤ a then F1 else F2) := by
  subst ha
  refine cb_ite (fun c0 => ?_) (fun c0 => ?_) <;> obtain ⟨p, e, s, m, args, below, meth, c⟩ := M <;> intro q hq H locs L hP hS hL
  · exact lv_if_ge h.1 h.2.1 hd ht (fun _ => kt c0 q hq H locs L hP hS hL) (fun z => absurd (cb_ge0.mpr c0) z)
  · exact lv_if_ge h.1 h.2.1 hd ht (fun z => absurd (cb_ge0.mp z) c0) (fun _ => kf c0 q hq H locs L hP hS hL)
theorem cb_ifgt (h : cb_ok O K M cc nL own ret) {x a : Int} (ha : cb_w x = a) {off : Int} {tgt : Nat} {F1 F2 : Option (Int × cb_S)} (hd : decode cc pc = .ok (.ifCond .gt off, 3)) (ht : (pc : Int) + off = (tgt : Int)) (kt : 0 < a → cb_j O K v R M nL tgt ls st g F1) (kf : ¬ 0 < a → cb_j O K v R M nL (pc + 3) ls st g F2) : cb_j O K v R M nL pc ls (.inl x :: st) g (if 0 < a then F1 else F2) := by
  subst ha
  refine cb_ite (fun c0 => ?_) (fun c0 => ?_) <;> obtain ⟨p, e, s, m, args, below, meth, c⟩ := M <;> intro q hq H locs L hP hS hL
  · exact lv_if_gt h.1 h.2.1 hd ht (fun _ => kt c0 q hq H locs L hP hS hL) (fun z => absurd (cb_gt0.mpr c0) z)
  · exact lv_if_gt h.1 h.2.1 hd ht (fun z => absurd (cb_gt0.mp z) c0) (fun _ => kf c0 q hq H locs L hP hS hL)
theorem cb_ifle (h : cb_ok O K M cc nL own ret) {x a : Int} (ha : cb_w x = a) {off : Int} {tgt : Nat} {F1 F2 : Option (Int × cb_S)} (hd : decode cc pc = .ok (.ifCond .le off, 3)) (ht : (pc : Int) + off = (tgt : Int)) (kt : a ≤ 0 → cb_j O K v R M nL tgt ls st g F1) (kf : ¬ a ≤ 0 → cb_j O K v R M nL (pc + 3) ls st g F2) : cb_j O K v R M nL pc ls (.inl x :: st) g (if a ≤ 0 then F1 else F2) := by
  subst ha
  refine cb_ite (fun c0 => ?_) (fun c0 => ?_) <;> obtain ⟨p, e, s, m, args, below, meth, c⟩ := M <;> intro q hq H locs L hP hS hL
  · exact lv_if_le h.1 h.2.1 hd ht (fun _ => kt c0 q hq H locs L hP hS hL) (fun z => absurd (cb_le0.mpr c0) z)
  · exact lv_if_le h.1 h.2.1 hd ht (fun z => absurd (cb_le0.mp z) c0) (fun _ => kf c0 q hq H locs L hP hS hL)
theorem cb_iceq (h : cb_ok O K M cc nL own ret) {x y a b : Int} (ha : cb_w x = a) (hb : cb_w y = b) {off : Int} {tgt : Nat} {F1 F2 : Option (Int × cb_S)} (hd : decode cc pc = .ok (.if_icmp .eq off, 3)) (ht : (pc : Int) + off = (tgt : Int)) (kt : a = b → cb_j O K v R M nL tgt ls st g F1) (kf : ¬ a = b → cb_j O K v R M nL (pc + 3) ls st g F2) : cb_j O K v R M nL pc ls (.inl y :: .inl x :: st) g (if a = b then F1 else F2) := by
  subst ha
  subst hb
  refine cb_ite (fun c0 => ?_) (fun c0 => ?_) <;> obtain ⟨p, e, s, m, args, below, meth, c⟩ := M <;> intro q hq H locs L hP hS hL
  · exact lv_icmp_eq h.1 h.2.1 hd ht (fun _ => kt c0 q hq H locs L hP hS hL) (fun z => absurd (cb_eq.mpr c0) z)
  · exact lv_icmp_eq h.1 h.2.1 hd ht (fun z => absurd (cb_eq.mp z) c0) (fun _ => kf c0 q hq H locs L hP hS hL)
theorem cb_iclt (h : cb_ok O K M cc nL own ret) {x y a b : Int} (ha : cb_w x = a) (hb : cb_w y = b) {off : Int} {tgt : Nat} {F1 F2 : Option (Int × cb_S)} (hd : decode cc pc = .ok (.if_icmp .lt off, 3)) (ht : (pc : Int) + off = (tgt : Int)) (kt : a < b → cb_j O K v R M nL tgt ls st g F1) (kf : ¬ a < b → cb_j O K v R M nL (pc + 3) ls st g F2) : cb_j O K v R M nL pc ls (.inl y :: .inl x :: st) g (if a < b then F1 else F2) := by
  subst ha
  subst hb
  refine cb_ite (fun c0 => ?_) (fun c0 => ?_) <;> obtain ⟨p, e, s, m, args, below, meth, c⟩ := M <;> intro q hq H locs L hP hS hL
  · exact lv_icmp_lt h.1 h.2.1 hd ht (fun _ => kt c0 q hq H locs L hP hS hL) (fun z => absurd (cb_lt.mpr c0) z)
  · exact lv_icmp_lt h.1 h.2.1 hd ht (fun z => absurd (cb_lt.mp z) c0) (fun _ => kf c0 q hq H locs L hP hS hL)
theorem cb_icge (h : cb_ok O K M cc nL own ret) {x y a b : Int} (ha : cb_w x = a) (hb : cb_w y = b) {off : Int} {tgt : Nat} {F1 F2 : Option (Int × cb_S)} (hd : decode cc pc = .ok (.if_icmp .ge off, 3)) (ht : (pc : Int) + off = (tgt : Int)) (kt : b ≤ a → cb_j O K v R M nL tgt ls st g F1) (kf : ¬ b ≤ a → cb_j O K v R M nL (pc + 3) ls st g F2) : cb_j O K v R M nL pc ls (.inl y :: .inl x :: st) g (if b ≤ a then F1 else F2) := by
  subst ha
  subst hb
  refine cb_ite (fun c0 => ?_) (fun c0 => ?_) <;> obtain ⟨p, e, s, m, args, below, meth, c⟩ := M <;> intro q hq H locs L hP hS hL
  · exact lv_icmp_ge h.1 h.2.1 hd ht (fun _ => kt c0 q hq H locs L hP hS hL) (fun z => absurd (cb_le.mpr c0) z)
  · exact lv_icmp_ge h.1 h.2.1 hd ht (fun z => absurd (cb_le.mp z) c0) (fun _ => kf c0 q hq H locs L hP hS hL)
theorem cb_icgt (h : cb_ok O K M cc nL own ret) {x y a b : Int} (ha : cb_w x = a) (hb : cb_w y = b) {off : Int} {tgt : Nat} {F1 F2 : Option (Int × cb_S)} (hd : decode cc pc = .ok (.if_icmp .gt off, 3)) (ht : (pc : Int) + off = (tgt : Int)) (kt : b < a → cb_j O K v R M nL tgt ls st g F1) (kf : ¬ b < a → cb_j O K v R M nL (pc + 3) ls st g F2) : cb_j O K v R M nL pc ls (.inl y :: .inl x :: st) g (if b < a then F1 else F2) := by
  subst ha
  subst hb
  refine cb_ite (fun c0 => ?_) (fun c0 => ?_) <;> obtain ⟨p, e, s, m, args, below, meth, c⟩ := M <;> intro q hq H locs L hP hS hL
  · exact lv_icmp_gt h.1 h.2.1 hd ht (fun _ => kt c0 q hq H locs L hP hS hL) (fun z => absurd (cb_lt.mpr c0) z)
  · exact lv_icmp_gt h.1 h.2.1 hd ht (fun z => absurd (cb_lt.mp z) c0) (fun _ => kf c0 q hq H locs L hP hS hL)
theorem cb_icle (h : cb_ok O K M cc nL own ret) {x y a b : Int} (ha : cb_w x = a) (hb : cb_w y = b) {off : Int} {tgt : Nat} {F1 F2 : Option (Int × cb_S)} (hd : decode cc pc = .ok (.if_icmp .le off, 3)) (ht : (pc : Int) + off = (tgt : Int)) (kt : a ≤ b → cb_j O K v R M nL tgt ls st g F1) (kf : ¬ a ≤ b → cb_j O K v R M nL (pc + 3) ls st g F2) : cb_j O K v R M nL pc ls (.inl y :: .inl x :: st) g (if a ≤ b then F1 else F2) := by
  subst ha
  subst hb
  refine cb_ite (fun c0 => ?_) (fun c0 => ?_) <;> obtain ⟨p, e, s, m, args, below, meth, c⟩ := M <;> intro q hq H locs L hP hS hL
  · exact lv_icmp_le h.1 h.2.1 hd ht (fun _ => kt c0 q hq H locs L hP hS hL) (fun z => absurd (cb_le.mpr c0) z)
  · exact lv_icmp_le h.1 h.2.1 hd ht (fun z => absurd (cb_le.mp z) c0) (fun _ => kf c0 q hq H locs L hP hS hL)
theorem cb_icne (h : cb_ok O K M cc nL own ret) {x y a b : Int} (ha : cb_w x = a) (hb : cb_w y = b) {off : Int} {tgt : Nat} {F1 F2 : Option (Int × cb_S)} (hd : decode cc pc = .ok (.if_icmp .ne off, 3)) (ht : (pc : Int) + off = (tgt : Int)) (kt : ¬ a = b → cb_j O K v R M nL tgt ls st g F1) (kf : a = b → cb_j O K v R M nL (pc + 3) ls st g F2) : cb_j O K v R M nL pc ls (.inl y :: .inl x :: st) g (if a = b then F2 else F1) := by
  subst ha
  subst hb
  refine cb_ite (fun c0 => ?_) (fun c0 => ?_) <;> obtain ⟨p, e, s, m, args, below, meth, c⟩ := M <;> intro q hq H locs L hP hS hL
  · exact lv_icmp_ne h.1 h.2.1 hd ht (fun z => absurd (cb_eq.mpr c0) z) (fun _ => kf c0 q hq H locs L hP hS hL)
  · exact lv_icmp_ne h.1 h.2.1 hd ht (fun _ => kt c0 q hq H locs L hP hS hL) (fun z => absurd (cb_eq.mp z) c0)
end cbR
