/-! methods that write nothing: their function gives the answer alone -/
def cb_r (V : Option Int) (g : cb_S) : Option (Int × cb_S) := V.map (fun r => (r, g))
def cb_jr (O : cb_O) (K : cb_K) (R : Room) (M : cb_M) (nL : Nat) (pc : Nat) (ls : cb_L) (st : List cb_V) (g : cb_S) (V : Option Int) : Prop := cb_j O K false R M nL pc ls st g (cb_r V g)
theorem cb_r_ite {c : Prop} [Decidable c] (A B : Option Int) (g : cb_S) : cb_r (if c then A else B) g = if c then cb_r A g else cb_r B g := by split <;> rfl
theorem cb_r_none (g : cb_S) : cb_r none g = none := rfl
theorem cb_r_some (x : Int) (g : cb_S) : cb_r (some x) g = some (x, g) := rfl
theorem cb_r_bind (V : Option Int) (k : Int → Option Int) (g : cb_S) : cb_r (V.bind k) g = V.bind (fun r => cb_r (k r) g) := by cases V <;> rfl
section cbRO
variable {O : cb_O} {K : cb_K} {v : Bool} {R : Room} {M : cb_M} {nL : Nat} {cc : ByteArray} {own : String} {ret : Option FieldType} {pc : Nat} {ls : cb_L} {st : List cb_V} {g : cb_S} {F : Option (Int × cb_S)} {V : Option Int}
theorem cr_none : cb_jr O K R M nL pc ls st g none := cb_none
theorem cr_ite {p : Prop} [d : Decidable p] {F1 F2 : Option Int} (h1 : p → cb_jr O K R M nL pc ls st g F1) (h2 : ¬ p → cb_jr O K R M nL pc ls st g F2) : cb_jr O K R M nL pc ls st g (if p then F1 else F2) := by
  unfold cb_jr
  rw [cb_r_ite]
  exact cb_ite h1 h2
theorem cr_iconst (h : cb_ok O K M cc nL own ret) {n : Int} (hd : decode cc pc = .ok (.iconst n, 1)) (k : cb_jr O K R M nL (pc + 1) ls (.inl n :: st) g V) : cb_jr O K R M nL pc ls st g V := cb_iconst h hd k
theorem cr_bipush (h : cb_ok O K M cc nL own ret) {n : Int} (hd : decode cc pc = .ok (.bipush n, 2)) (hn : (Int8.ofInt n).toInt32 = Int32.ofInt n) (k : cb_jr O K R M nL (pc + 2) ls (.inl n :: st) g V) : cb_jr O K R M nL pc ls st g V := cb_bipush h hd hn k
theorem cr_sipush (h : cb_ok O K M cc nL own ret) {n : Int} (hd : decode cc pc = .ok (.sipush n, 3)) (hn : (Int16.ofInt n).toInt32 = Int32.ofInt n) (k : cb_jr O K R M nL (pc + 3) ls (.inl n :: st) g V) : cb_jr O K R M nL pc ls st g V := cb_sipush h hd hn k
theorem cr_iload_n (h : cb_ok O K M cc nL own ret) {i : Fin 4} {x : Int} (hd : decode cc pc = .ok (.iload_n i, 1)) (hl : ls[(i : Nat)]? = some (some (.inl x))) (k : cb_jr O K R M nL (pc + 1) ls (.inl x :: st) g V) : cb_jr O K R M nL pc ls st g V := cb_iload_n h hd hl k
theorem cr_iload (h : cb_ok O K M cc nL own ret) {i : Nat} {x : Int} (hd : decode cc pc = .ok (.iload i, 2)) (hl : ls[i]? = some (some (.inl x))) (k : cb_jr O K R M nL (pc + 2) ls (.inl x :: st) g V) : cb_jr O K R M nL pc ls st g V := cb_iload h hd hl k
theorem cr_aload_n (h : cb_ok O K M cc nL own ret) {i : Fin 4} {x : Nat} (hd : decode cc pc = .ok (.aload_n i, 1)) (hl : ls[(i : Nat)]? = some (some (.inr x))) (k : cb_jr O K R M nL (pc + 1) ls (.inr x :: st) g V) : cb_jr O K R M nL pc ls st g V := cb_aload_n h hd hl k
theorem cr_istore_n (h : cb_ok O K M cc nL own ret) {i : Fin 4} {x : Int} {ls' : cb_L} (hd : decode cc pc = .ok (.istore_n i, 1)) (hn : (i : Nat) < nL) (hl : ls.set (i : Nat) (some (.inl x)) = ls') (k : cb_jr O K R M nL (pc + 1) ls' st g V) : cb_jr O K R M nL pc ls (.inl x :: st) g V := cb_istore_n h hd hn hl k
theorem cr_istore (h : cb_ok O K M cc nL own ret) {i : Nat} {x : Int} {ls' : cb_L} (hd : decode cc pc = .ok (.istore i, 2)) (hn : i < nL) (hl : ls.set i (some (.inl x)) = ls') (k : cb_jr O K R M nL (pc + 2) ls' st g V) : cb_jr O K R M nL pc ls (.inl x :: st) g V := cb_istore h hd hn hl k
theorem cr_iinc (h : cb_ok O K M cc nL own ret) {i : Nat} {n x : Int} {ls' : cb_L} (hd : decode cc pc = .ok (.iinc i n, 3)) (hx : ls[i]? = some (some (.inl x))) (hn : i < nL) (hl : ls.set i (some (.inl (x + n))) = ls') (k : cb_jr O K R M nL (pc + 3) ls' st g V) : cb_jr O K R M nL pc ls st g V := cb_iinc h hd hx hn hl k
theorem cr_iadd (h : cb_ok O K M cc nL own ret) {x y : Int} (hd : decode cc pc = .ok (.iadd, 1)) (k : cb_jr O K R M nL (pc + 1) ls (.inl (x + y) :: st) g V) : cb_jr O K R M nL pc ls (.inl y :: .inl x :: st) g V := cb_iadd h hd k
theorem cr_isub (h : cb_ok O K M cc nL own ret) {x y : Int} (hd : decode cc pc = .ok (.isub, 1)) (k : cb_jr O K R M nL (pc + 1) ls (.inl (x - y) :: st) g V) : cb_jr O K R M nL pc ls (.inl y :: .inl x :: st) g V := cb_isub h hd k
theorem cr_imul (h : cb_ok O K M cc nL own ret) {x y : Int} (hd : decode cc pc = .ok (.imul, 1)) (k : cb_jr O K R M nL (pc + 1) ls (.inl (x * y) :: st) g V) : cb_jr O K R M nL pc ls (.inl y :: .inl x :: st) g V := cb_imul h hd k
theorem cr_idiv (h : cb_ok O K M cc nL own ret) {x y b : Int} (hb : cb_w y = b) (hd : decode cc pc = .ok (.idiv, 1)) (hne : ¬ b = 0) (k : cb_jr O K R M nL (pc + 1) ls (.inl ((cb_w x).tdiv b) :: st) g V) : cb_jr O K R M nL pc ls (.inl y :: .inl x :: st) g V := cb_idiv h hb hd hne k
theorem cr_irem (h : cb_ok O K M cc nL own ret) {x y b : Int} (hb : cb_w y = b) (hd : decode cc pc = .ok (.irem, 1)) (hne : ¬ b = 0) (k : cb_jr O K R M nL (pc + 1) ls (.inl ((cb_w x).tmod b) :: st) g V) : cb_jr O K R M nL pc ls (.inl y :: .inl x :: st) g V := cb_irem h hb hd hne k
theorem cr_iand (h : cb_ok O K M cc nL own ret) {x y z : Int} (hd : decode cc pc = .ok (.iand, 1)) (hz : Int32.ofInt x &&& Int32.ofInt y = Int32.ofInt z) (k : cb_jr O K R M nL (pc + 1) ls (.inl z :: st) g V) : cb_jr O K R M nL pc ls (.inl y :: .inl x :: st) g V := cb_iand h hd hz k
theorem cr_ishr (h : cb_ok O K M cc nL own ret) {x y : Int} (hd : decode cc pc = .ok (.ishr, 1)) (k : cb_jr O K R M nL (pc + 1) ls (.inl (cb_w x / 2 ^ (y % 32).toNat) :: st) g V) : cb_jr O K R M nL pc ls (.inl y :: .inl x :: st) g V := cb_ishr h hd k
theorem cr_iushr (h : cb_ok O K M cc nL own ret) {x y : Int} (hd : decode cc pc = .ok (.iushr, 1)) (k : cb_jr O K R M nL (pc + 1) ls (.inl (x % 4294967296 / 2 ^ (y % 32).toNat) :: st) g V) : cb_jr O K R M nL pc ls (.inl y :: .inl x :: st) g V := cb_iushr h hd k
theorem cr_dup (h : cb_ok O K M cc nL own ret) {x : cb_V} (hd : decode cc pc = .ok (.dup, 1)) (k : cb_jr O K R M nL (pc + 1) ls (x :: x :: st) g V) : cb_jr O K R M nL pc ls (x :: st) g V := cb_dup h hd k
theorem cr_goto (h : cb_ok O K M cc nL own ret) {off : Int} {tgt : Nat} (hd : decode cc pc = .ok (.goto off, 3)) (ht : (pc : Int) + off = (tgt : Int)) (k : cb_jr O K R M nL tgt ls st g V) : cb_jr O K R M nL pc ls st g V := cb_goto h hd ht k
theorem cr_lookup (h : cb_ok O K M cc nL own ret) {x : Int} {dflt off : Int} {ps : Array (Int × Int)} {len tgt : Nat} (hd : decode cc pc = .ok (.lookupswitch dflt ps, len)) (hp : (ps.toList.zip (ps.toList.drop 1)).all (fun (a, next) => a.1 < next.1) = true) (ho : Op.lookupswitch.offset ps.toList dflt (cb_w x) = off) (ht : (pc : Int) + off = (tgt : Int)) (k : cb_jr O K R M nL tgt ls st g V) : cb_jr O K R M nL pc ls (.inl x :: st) g V := cb_lookup h hd hp ho ht k
theorem cr_tabOut (h : cb_ok O K M cc nL own ret) {x : Int} {dflt lo hi : Int} {offs : Array Int} {len tgt : Nat} (hd : decode cc pc = .ok (.tableswitch dflt lo hi offs, len)) (hx : cb_w x < lo ∨ hi < cb_w x) (ht : (pc : Int) + dflt = (tgt : Int)) (k : cb_jr O K R M nL tgt ls st g V) : cb_jr O K R M nL pc ls (.inl x :: st) g V := cb_tabOut h hd hx ht k
theorem cr_tabIn (h : cb_ok O K M cc nL own ret) {x : Int} {dflt lo hi off : Int} {offs : Array Int} {len tgt : Nat} (j : Int) (hx : cb_w x = j) (hd : decode cc pc = .ok (.tableswitch dflt lo hi offs, len)) (h1 : ¬ j < lo) (h2 : ¬ hi < j) (ho : offs[(j - lo).toNat]? = some off) (ht : (pc : Int) + off = (tgt : Int)) (k : cb_jr O K R M nL tgt ls st g V) : cb_jr O K R M nL pc ls (.inl x :: st) g V := cb_tabIn h j hx hd h1 h2 ho ht k
theorem cr_gi (h : cb_ok O K M cc nL own ret) {idx ci b i : Nat} {rs : List (Option Nat)} (hd : decode cc pc = .ok (.getfield idx, 3)) (hf : cb_FL own idx ci i) (hb : b < K.2) (hc : K.1 b = .inr (.inr (ci, rs))) (hr : rs[i]? = some none) (k : cb_jr O K R M nL (pc + 3) ls (.inl (g b i) :: st) g V) : cb_jr O K R M nL pc ls (.inr b :: st) g V := cb_gi h hd hf hb hc hr k
theorem cr_gr (h : cb_ok O K M cc nL own ret) {idx ci b i r : Nat} {rs : List (Option Nat)} (hd : decode cc pc = .ok (.getfield idx, 3)) (hf : cb_FL own idx ci i) (hb : b < K.2) (hc : K.1 b = .inr (.inr (ci, rs))) (hr : rs[i]? = some (some r)) (k : cb_jr O K R M nL (pc + 3) ls (.inr r :: st) g V) : cb_jr O K R M nL pc ls (.inr b :: st) g V := cb_gr h hd hf hb hc hr k
theorem cr_alen (h : cb_ok O K M cc nL own ret) {b n z : Nat} (hd : decode cc pc = .ok (.arraylength, 1)) (hb : b < K.2) (hc : K.1 b = .inl (z, n)) (hz : z = 0 ∨ z = 1) (k : cb_jr O K R M nL (pc + 1) ls (.inl (n : Int) :: st) g V) : cb_jr O K R M nL pc ls (.inr b :: st) g V := cb_alen h hd hb hc hz k
theorem cr_max {idx : Nat} (h : cb_ok O K M cc nL own ret) (hl : cb_LM own idx Lib.Math.max.name Lib.Math.max.code) (hR : 1 ≤ R.frames ∧ 21 ≤ R.locals) (h8 : st.length ≤ 8) {x y : Int} (hd : decode cc pc = .ok (.invokestatic idx, 3)) (k : cb_jr O K R M nL (pc + 3) ls (.inl (if cb_w x < cb_w y then y else x) :: st) g V) : cb_jr O K R M nL pc ls (.inl y :: .inl x :: st) g V := cb_max h hl hR h8 hd k
theorem cr_min {idx : Nat} (h : cb_ok O K M cc nL own ret) (hl : cb_LM own idx Lib.Math.min.name Lib.Math.min.code) (hR : 1 ≤ R.frames ∧ 21 ≤ R.locals) (h8 : st.length ≤ 8) {x y : Int} (hd : decode cc pc = .ok (.invokestatic idx, 3)) (k : cb_jr O K R M nL (pc + 3) ls (.inl (if cb_w x ≤ cb_w y then x else y) :: st) g V) : cb_jr O K R M nL pc ls (.inl y :: .inl x :: st) g V := cb_min h hl hR h8 hd k
theorem cr_ifeq (h : cb_ok O K M cc nL own ret) {x a : Int} (ha : cb_w x = a) {off : Int} {tgt : Nat} {F1 F2 : Option Int} (hd : decode cc pc = .ok (.ifCond .eq off, 3)) (ht : (pc : Int) + off = (tgt : Int)) (kt : a = 0 → cb_jr O K R M nL tgt ls st g F1) (kf : ¬ a = 0 → cb_jr O K R M nL (pc + 3) ls st g F2) : cb_jr O K R M nL pc ls (.inl x :: st) g (if a = 0 then F1 else F2) := by
  unfold cb_jr
  rw [cb_r_ite]
  exact cb_ifeq h ha hd ht kt kf
theorem cr_ifne (h : cb_ok O K M cc nL own ret) {x a : Int} (ha : cb_w x = a) {off : Int} {tgt : Nat} {F1 F2 : Option Int} (hd : decode cc pc = .ok (.ifCond .ne off, 3)) (ht : (pc : Int) + off = (tgt : Int)) (kt : ¬ a = 0 → cb_jr O K R M nL tgt ls st g F1) (kf : a = 0 → cb_jr O K R M nL (pc + 3) ls st g F2) : cb_jr O K R M nL pc ls (.inl x :: st) g (if a = 0 then F2 else F1) := by
  unfold cb_jr
  rw [cb_r_ite]
  exact cb_ifne h ha hd ht kt kf
theorem cr_iflt (h : cb_ok O K M cc nL own ret) {x a : Int} (ha : cb_w x = a) {off : Int} {tgt : Nat} {F1 F2 : Option Int} (hd : decode cc pc = .ok (.ifCond .lt off, 3)) (ht : (pc : Int) + off = (tgt : Int)) (kt : a < 0 → cb_jr O K R M nL tgt ls st g F1) (kf : ¬ a < 0 → cb_jr O K R M nL (pc + 3) ls st g F2) : cb_jr O K R M nL pc ls (.inl x :: st) g (if a < 0 then F1 else F2) := by
  unfold cb_jr
  rw [cb_r_ite]
  exact cb_iflt h ha hd ht kt kf
theorem cr_ifge (h : cb_ok O K M cc nL own ret) {x a : Int} (ha : cb_w x = a) {off : Int} {tgt : Nat} {F1 F2 : Option Int} (hd : decode cc pc = .ok (.ifCond .ge off, 3)) (ht : (pc : Int) + off = (tgt : Int)) (kt : 0 ≤ a → cb_jr O K R M nL tgt ls st g F1) (kf : ¬ 0 ≤ a → cb_jr O K R M nL (pc + 3) ls st g F2) : cb_jr O K R M nL pc ls (.inl x :: st) g (if 0 ≤ a then F1 else F2) := by
  unfold cb_jr
  rw [cb_r_ite]
  exact cb_ifge h ha hd ht kt kf
theorem cr_ifgt (h : cb_ok O K M cc nL own ret) {x a : Int} (ha : cb_w x = a) {off : Int} {tgt : Nat} {F1 F2 : Option Int} (hd : decode cc pc = .ok (.ifCond .gt off, 3)) (ht : (pc : Int) + off = (tgt : Int)) (kt : 0 < a → cb_jr O K R M nL tgt ls st g F1) (kf : ¬ 0 < a → cb_jr O K R M nL (pc + 3) ls st g F2) : cb_jr O K R M nL pc ls (.inl x :: st) g (if 0 < a then F1 else F2) := by
  unfold cb_jr
  rw [cb_r_ite]
  exact cb_ifgt h ha hd ht kt kf
theorem cr_ifle (h : cb_ok O K M cc nL own ret) {x a : Int} (ha : cb_w x = a) {off : Int} {tgt : Nat} {F1 F2 : Option Int} (hd : decode cc pc = .ok (.ifCond .le off, 3)) (ht : (pc : Int) + off = (tgt : Int)) (kt : a ≤ 0 → cb_jr O K R M nL tgt ls st g F1) (kf : ¬ a ≤ 0 → cb_jr O K R M nL (pc + 3) ls st g F2) : cb_jr O K R M nL pc ls (.inl x :: st) g (if a ≤ 0 then F1 else F2) := by
  unfold cb_jr
  rw [cb_r_ite]
  exact cb_ifle h ha hd ht kt kf
theorem cr_iceq (h : cb_ok O K M cc nL own ret) {x y a b : Int} (ha : cb_w x = a) (hb : cb_w y = b) {off : Int} {tgt : Nat} {F1 F2 : Option Int} (hd : decode cc pc = .ok (.if_icmp .eq off, 3)) (ht : (pc : Int) + off = (tgt : Int)) (kt : a = b → cb_jr O K R M nL tgt ls st g F1) (kf : ¬ a = b → cb_jr O K R M nL (pc + 3) ls st g F2) : cb_jr O K R M nL pc ls (.inl y :: .inl x :: st) g (if a = b then F1 else F2) := by
  unfold cb_jr
  rw [cb_r_ite]
  exact cb_iceq h ha hb hd ht kt kf
theorem cr_icne (h : cb_ok O K M cc nL own ret) {x y a b : Int} (ha : cb_w x = a) (hb : cb_w y = b) {off : Int} {tgt : Nat} {F1 F2 : Option Int} (hd : decode cc pc = .ok (.if_icmp .ne off, 3)) (ht : (pc : Int) + off = (tgt : Int)) (kt : ¬ a = b → cb_jr O K R M nL tgt ls st g F1) (kf : a = b → cb_jr O K R M nL (pc + 3) ls st g F2) : cb_jr O K R M nL pc ls (.inl y :: .inl x :: st) g (if a = b then F2 else F1) := by
  unfold cb_jr
  rw [cb_r_ite]
  exact cb_icne h ha hb hd ht kt kf
theorem cr_iclt (h : cb_ok O K M cc nL own ret) {x y a b : Int} (ha : cb_w x = a) (hb : cb_w y = b) {off : Int} {tgt : Nat} {F1 F2 : Option Int} (hd : decode cc pc = .ok (.if_icmp .lt off, 3)) (ht : (pc : Int) + off = (tgt : Int)) (kt : a < b → cb_jr O K R M nL tgt ls st g F1) (kf : ¬ a < b → cb_jr O K R M nL (pc + 3) ls st g F2) : cb_jr O K R M nL pc ls (.inl y :: .inl x :: st) g (if a < b then F1 else F2) := by
  unfold cb_jr
  rw [cb_r_ite]
  exact cb_iclt h ha hb hd ht kt kf
theorem cr_icge (h : cb_ok O K M cc nL own ret) {x y a b : Int} (ha : cb_w x = a) (hb : cb_w y = b) {off : Int} {tgt : Nat} {F1 F2 : Option Int} (hd : decode cc pc = .ok (.if_icmp .ge off, 3)) (ht : (pc : Int) + off = (tgt : Int)) (kt : b ≤ a → cb_jr O K R M nL tgt ls st g F1) (kf : ¬ b ≤ a → cb_jr O K R M nL (pc + 3) ls st g F2) : cb_jr O K R M nL pc ls (.inl y :: .inl x :: st) g (if b ≤ a then F1 else F2) := by
  unfold cb_jr
  rw [cb_r_ite]
  exact cb_icge h ha hb hd ht kt kf
theorem cr_icgt (h : cb_ok O K M cc nL own ret) {x y a b : Int} (ha : cb_w x = a) (hb : cb_w y = b) {off : Int} {tgt : Nat} {F1 F2 : Option Int} (hd : decode cc pc = .ok (.if_icmp .gt off, 3)) (ht : (pc : Int) + off = (tgt : Int)) (kt : b < a → cb_jr O K R M nL tgt ls st g F1) (kf : ¬ b < a → cb_jr O K R M nL (pc + 3) ls st g F2) : cb_jr O K R M nL pc ls (.inl y :: .inl x :: st) g (if b < a then F1 else F2) := by
  unfold cb_jr
  rw [cb_r_ite]
  exact cb_icgt h ha hb hd ht kt kf
theorem cr_icle (h : cb_ok O K M cc nL own ret) {x y a b : Int} (ha : cb_w x = a) (hb : cb_w y = b) {off : Int} {tgt : Nat} {F1 F2 : Option Int} (hd : decode cc pc = .ok (.if_icmp .le off, 3)) (ht : (pc : Int) + off = (tgt : Int)) (kt : a ≤ b → cb_jr O K R M nL tgt ls st g F1) (kf : ¬ a ≤ b → cb_jr O K R M nL (pc + 3) ls st g F2) : cb_jr O K R M nL pc ls (.inl y :: .inl x :: st) g (if a ≤ b then F1 else F2) := by
  unfold cb_jr
  rw [cb_r_ite]
  exact cb_icle h ha hb hd ht kt kf
theorem cr_iald (h : cb_ok O K M cc nL own ret) {b n : Nat} {i : Int} (hd : decode cc pc = .ok (.iaload, 1)) (hb : b < K.2) (hc : K.1 b = .inl (0, n)) (k : cb_jr O K R M nL (pc + 1) ls (.inl (g b (cb_w i).toNat) :: st) g V) : cb_jr O K R M nL pc ls (.inl i :: .inr b :: st) g (if 0 ≤ cb_w i ∧ cb_w i < n then V else none) := by
  unfold cb_jr
  rw [cb_r_ite]
  exact cb_iald h hd hb hc k
theorem cr_zald (h : cb_ok O K M cc nL own ret) {b n : Nat} {i : Int} (hd : decode cc pc = .ok (.baload, 1)) (hb : b < K.2) (hc : K.1 b = .inl (1, n)) (k : cb_jr O K R M nL (pc + 1) ls (.inl (g b (cb_w i).toNat) :: st) g V) : cb_jr O K R M nL pc ls (.inl i :: .inr b :: st) g (if 0 ≤ cb_w i ∧ cb_w i < n then V else none) := by
  unfold cb_jr
  rw [cb_r_ite]
  exact cb_zald h hd hb hc k
theorem cr_aald (h : cb_ok O K M cc nL own ret) {b h0 n : Nat} {i : Int} (hd : decode cc pc = .ok (.aaload, 1)) (hb : b < K.2) (hc : K.1 b = .inr (.inl (h0, n))) (k : (0 ≤ cb_w i ∧ cb_w i < n) → cb_jr O K R M nL (pc + 1) ls (.inr (h0 + (cb_w i).toNat) :: st) g V) : cb_jr O K R M nL pc ls (.inl i :: .inr b :: st) g (if 0 ≤ cb_w i ∧ cb_w i < n then V else none) := by
  unfold cb_jr
  rw [cb_r_ite]
  exact cb_aald h hd hb hc k
theorem cr_iret (h : cb_ok O K M cc nL own (some .int)) {x : Int} (hd : decode cc pc = .ok (.ireturn, 1)) : cb_jr O K R M nL pc ls [.inl x] g (some x) := cb_iret h hd
theorem cr_zret (h : cb_ok O K M cc nL own (some .boolean)) {x : Int} (hd : decode cc pc = .ok (.ireturn, 1)) (hz : x = 0 ∨ x = 1) : cb_jr O K R M nL pc ls [.inl x] g (some x) := cb_zret h hd hz
theorem cr_zretq (h : cb_ok O K M cc nL own (some .boolean)) {x : Int} (hd : decode cc pc = .ok (.ireturn, 1)) : cb_jr O K R M nL pc ls [.inl x] g (if x = 0 ∨ x = 1 then some x else none) :=
  cr_ite (fun hz => cr_zret h hd hz) (fun _ => cr_none)
theorem cr_fewer {ls' : cb_L} (h : cb_sub ls' ls) (k : cb_jr O K R M nL pc ls' st g V) : cb_jr O K R M nL pc ls st g V := cb_fewer h k
theorem cr_top {x y : Int} (h : x = y) (k : cb_jr O K R M nL pc ls (.inl y :: st) g V) : cb_jr O K R M nL pc ls (.inl x :: st) g V := h ▸ k
section cbRC
variable {y : MethodName} {bytes : ByteArray} {maxL n idx : Nat} {rt : Option FieldType} {rm : Room} {as rest : List cb_V} {k : Int → Option (Int × cb_S)} {kr : Int → Option Int}
theorem cb_gor {q1 : Int} {p : Program} {e : Env} {s : State} {m : MethodId} {args : Array Value} {below : List Frame} {meth : Method} {c : Code} {H : Heap} {locs : List Loc} {L : Array Slot} {st0 : List Value} {a : Array Value} {q : Int × cb_S}
    (hr : va_Run p O.1 e R s m args below meth c H locs 0 0 0 0 (F0 m pc L st0) (rest.map (cb_v O.2.2.2)) (cb_Q O K false (q1, g) a) (cb_A O K)) (hS : va_S (cb_A O K) s.heap H locs) (hL : cb_H O.2.2.2 L nL ls)
    (hk : k q1 = some q) (kk : ∀ r, cb_j O K v R (p, e, s, m, args, below, meth, c) nL (pc + 3) ls (.inl r :: rest) g (k r)) :
    W p O.1 e R s m args below meth c H locs 0 0 (MQ below (cb_Q O K v q) args s 0 0 (cb_A O K)) (F0 m pc L st0) := by
  refine va_calli (a := a) hr hS (fun _ _ z => z) (fun _ z => z) (fun r u t H1 locs1 ht hvm hw hB hz hk1 hS1 => ?_)
  rw [ht] at hB
  subst hw
  exact kk q1 q hk H1 locs1 L hB hS1 hL
theorem cb_binds {k : Int → Option (Int × cb_S)} {q : Int × cb_S} (h : V.bind k = some q) : ∃ q1, V = some q1 ∧ k q1 = some q := by
  cases V with
  | none => cases h
  | some q1 => exact ⟨q1, rfl, h⟩
theorem cb_csr (h : cb_ok O K M cc nL own ret) (hl : cb_LS own idx y bytes maxL rt n) (hR : rm.frames + 1 ≤ R.frames ∧ 8 + (maxL + 11) + rm.locals ≤ R.locals) (hrc : rm.cells = 0 ∧ rm.slots = 0) (hd : decode cc pc = .ok (.invokestatic idx, 3)) (hm : ∀ q1, V = some q1 → cb_m O K false y bytes maxL rt rm as g (q1, g)) (hst : as.reverse ++ rest = st) (hn : as.length = n) (h8 : rest.length ≤ 8)
    (kk : ∀ r, cb_j O K v R M nL (pc + 3) ls (.inl r :: rest) g (k r)) : cb_j O K v R M nL pc ls st g (V.bind k) := by
  subst hst
  have key := fun q1 hq1 H locs L hP hL => cb_runS (v1 := false) (H := H) (locs := locs) (L := L) h hl hR hrc hd (hm q1 hq1) hn h8 hP hL
  obtain ⟨p, e, s, m, args, below, meth, c⟩ := M
  intro q hq H locs L hP hS hL
  obtain ⟨q1, h1, h2⟩ := cb_binds hq
  exact cb_gor (key q1 h1 H locs L hP hL.1) hS hL h2 kk
theorem cr_csr (h : cb_ok O K M cc nL own ret) (hl : cb_LS own idx y bytes maxL rt n) (hR : rm.frames + 1 ≤ R.frames ∧ 8 + (maxL + 11) + rm.locals ≤ R.locals) (hrc : rm.cells = 0 ∧ rm.slots = 0) (hd : decode cc pc = .ok (.invokestatic idx, 3)) (hm : ∀ q1, V = some q1 → cb_m O K false y bytes maxL rt rm as g (q1, g)) (hst : as.reverse ++ rest = st) (hn : as.length = n) (h8 : rest.length ≤ 8)
    (kk : ∀ r, cb_jr O K R M nL (pc + 3) ls (.inl r :: rest) g (kr r)) : cb_jr O K R M nL pc ls st g (V.bind kr) := by
  unfold cb_jr
  rw [cb_r_bind]
  exact cb_csr h hl hR hrc hd hm hst hn h8 kk
theorem cb_cnr {host : String} (h : cb_ok O K M cc nL own ret) (hl : cb_LN own idx y host bytes maxL rt n) (hR : rm.frames + 1 ≤ R.frames ∧ 8 + (maxL + 11) + rm.locals ≤ R.locals) (hrc : rm.cells = 0 ∧ rm.slots = 0) (hd : decode cc pc = .ok (.invokestatic idx, 3)) (hm : ∀ q1, V = some q1 → cb_m O K false y bytes maxL rt rm as g (q1, g)) (hst : as.reverse ++ rest = st) (hn : as.length = n) (h8 : rest.length ≤ 8)
    (kk : ∀ r, cb_j O K v R M nL (pc + 3) ls (.inl r :: rest) g (k r)) : cb_j O K v R M nL pc ls st g (V.bind k) := by
  subst hst
  have key := fun q1 hq1 H locs L hP hL => cb_runN (v1 := false) (H := H) (locs := locs) (L := L) h hl hR hrc hd (hm q1 hq1) hn h8 hP hL
  obtain ⟨p, e, s, m, args, below, meth, c⟩ := M
  intro q hq H locs L hP hS hL
  obtain ⟨q1, h1, h2⟩ := cb_binds hq
  exact cb_gor (key q1 h1 H locs L hP hL.1) hS hL h2 kk
theorem cr_cnr {host : String} (h : cb_ok O K M cc nL own ret) (hl : cb_LN own idx y host bytes maxL rt n) (hR : rm.frames + 1 ≤ R.frames ∧ 8 + (maxL + 11) + rm.locals ≤ R.locals) (hrc : rm.cells = 0 ∧ rm.slots = 0) (hd : decode cc pc = .ok (.invokestatic idx, 3)) (hm : ∀ q1, V = some q1 → cb_m O K false y bytes maxL rt rm as g (q1, g)) (hst : as.reverse ++ rest = st) (hn : as.length = n) (h8 : rest.length ≤ 8)
    (kk : ∀ r, cb_jr O K R M nL (pc + 3) ls (.inl r :: rest) g (kr r)) : cb_jr O K R M nL pc ls st g (V.bind kr) := by
  unfold cb_jr
  rw [cb_r_bind]
  exact cb_cnr h hl hR hrc hd hm hst hn h8 kk
theorem cb_cvr {b ci : Nat} {rs : List (Option Nat)} {T : u_T} {N : Nat} (h : cb_ok O K M cc nL own ret) (hl : cb_LV own idx y bytes maxL rt n) (hR : rm.frames + 1 ≤ R.frames ∧ 8 + (maxL + 11) + rm.locals ≤ R.locals) (hrc : rm.cells = 0 ∧ rm.slots = 0) (hd : decode cc pc = .ok (.invokevirtual idx, 3)) (hm : ∀ q1, V = some q1 → cb_m O K false y bytes maxL rt rm (.inr b :: as) g (q1, g)) (hst : as.reverse ++ .inr b :: rest = st) (hn : as.length = n) (h8 : rest.length ≤ 8) (hb : b < K.2) (hc : K.1 b = .inr (.inr (ci, rs))) (hcl : vwCl[ci]? = some (y.cls, T, N))
    (kk : ∀ r, cb_j O K v R M nL (pc + 3) ls (.inl r :: rest) g (k r)) : cb_j O K v R M nL pc ls st g (V.bind k) := by
  subst hst
  have key := fun q1 hq1 H locs L hP hL => cb_runV (v1 := false) (H := H) (locs := locs) (L := L) h hl hR hrc hd (hm q1 hq1) hn h8 hb hc hcl hP hL
  obtain ⟨p, e, s, m, args, below, meth, c⟩ := M
  intro q hq H locs L hP hS hL
  obtain ⟨q1, h1, h2⟩ := cb_binds hq
  exact cb_gor (key q1 h1 H locs L hP hL.1) hS hL h2 kk
theorem cr_cvr {b ci : Nat} {rs : List (Option Nat)} {T : u_T} {N : Nat} (h : cb_ok O K M cc nL own ret) (hl : cb_LV own idx y bytes maxL rt n) (hR : rm.frames + 1 ≤ R.frames ∧ 8 + (maxL + 11) + rm.locals ≤ R.locals) (hrc : rm.cells = 0 ∧ rm.slots = 0) (hd : decode cc pc = .ok (.invokevirtual idx, 3)) (hm : ∀ q1, V = some q1 → cb_m O K false y bytes maxL rt rm (.inr b :: as) g (q1, g)) (hst : as.reverse ++ .inr b :: rest = st) (hn : as.length = n) (h8 : rest.length ≤ 8) (hb : b < K.2) (hc : K.1 b = .inr (.inr (ci, rs))) (hcl : vwCl[ci]? = some (y.cls, T, N))
    (kk : ∀ r, cb_jr O K R M nL (pc + 3) ls (.inl r :: rest) g (kr r)) : cb_jr O K R M nL pc ls st g (V.bind kr) := by
  unfold cb_jr
  rw [cb_r_bind]
  exact cb_cvr h hl hR hrc hd hm hst hn h8 hb hc hcl kk
theorem cr_of_body {y : MethodName} {rm : Room} {as : List cb_V} {q : Int} (hJ : cb_J O K) (hy : plainName y.cls = true) (hn : as.length ≤ nL) (hF : V = some q)
    (body : ∀ M, cb_ok O K M cc nL y.cls ret → cb_jr O K rm M nL 0 (as.map some ++ List.replicate (nL - as.length) none) [] g V) : cb_m O K false y cc nL ret rm as g (q, g) :=
  cb_of_body hJ hy hn (F := cb_r V g) (by rw [hF]; rfl) body
end cbRC
end cbRO
