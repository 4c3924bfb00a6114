/-! numbers: an int of the machine is Int32.ofInt of an integer; cb_w is what the machine keeps of it -/
def cb_w (x : Int) : Int := (x + 2147483648) % 4294967296 - 2147483648
theorem cb_toInt (x : Int) : (Int32.ofInt x).toInt = cb_w x := by
  rw [Int32.toInt_ofInt]
  show Int.bmod x 4294967296 = _
  rw [Int.bmod_def]
  unfold cb_w
  split <;> omega
theorem cb_id {x : Int} (h1 : -2147483648 ≤ x) (h2 : x < 2147483648) : cb_w x = x := by unfold cb_w; omega
theorem cb_lt {x y : Int} : Int32.ofInt x < Int32.ofInt y ↔ cb_w x < cb_w y := by rw [Int32.lt_iff_toInt_lt, cb_toInt, cb_toInt]
theorem cb_le {x y : Int} : Int32.ofInt x ≤ Int32.ofInt y ↔ cb_w x ≤ cb_w y := by rw [Int32.le_iff_toInt_le, cb_toInt, cb_toInt]
theorem cb_eq {x y : Int} : Int32.ofInt x = Int32.ofInt y ↔ cb_w x = cb_w y := by rw [← Int32.toInt_inj, cb_toInt, cb_toInt]
theorem cb_w0 : cb_w 0 = 0 := by decide
theorem cb_ww (x : Int) : cb_w (cb_w x) = cb_w x := by unfold cb_w; omega
theorem cb_of (x : Int) : Int32.ofInt (cb_w x) = Int32.ofInt x := cb_eq.mpr (cb_ww x)
theorem cb_lt0 {x : Int} : Int32.ofInt x < 0 ↔ cb_w x < 0 := by
  have h := @cb_lt x 0
  rw [cb_w0] at h
  exact h
theorem cb_le0 {x : Int} : Int32.ofInt x ≤ 0 ↔ cb_w x ≤ 0 := by
  have h := @cb_le x 0
  rw [cb_w0] at h
  exact h
theorem cb_gt0 {x : Int} : 0 < Int32.ofInt x ↔ 0 < cb_w x := by
  have h := @cb_lt 0 x
  rw [cb_w0] at h
  exact h
theorem cb_ge0 {x : Int} : 0 ≤ Int32.ofInt x ↔ 0 ≤ cb_w x := by
  have h := @cb_le 0 x
  rw [cb_w0] at h
  exact h
theorem cb_eq0 {x : Int} : Int32.ofInt x = 0 ↔ cb_w x = 0 := by
  have h := @cb_eq x 0
  rw [cb_w0] at h
  exact h
/-- an index within a row of n -/
def cb_in (i : Int) (n : Nat) : Prop := 0 ≤ cb_w i ∧ cb_w i < n
theorem cb_in_vp {i : Int} {n : Nat} (h : cb_in i n) : vp_in (Int32.ofInt i) n := by
  rw [vp_in_iff, cb_toInt]
  exact h
theorem cb_nat (i : Int) : (Int32.ofInt i).toNatClampNeg = (cb_w i).toNat := by
  show (Int32.ofInt i).toInt.toNat = _
  rw [cb_toInt]
theorem cb_div (x y : Int) : Int32.ofInt ((cb_w x).tdiv (cb_w y)) = Int32.ofInt x / Int32.ofInt y := by
  apply Int32.toInt_inj.mp
  rw [Int32.toInt_div, cb_toInt x, cb_toInt y, Int32.toInt_ofInt]
theorem cb_rem (x y : Int) : Int32.ofInt ((cb_w x).tmod (cb_w y)) = Int32.ofInt x - Int32.ofInt x / Int32.ofInt y * Int32.ofInt y := by
  have h := Int.tdiv_mul_self (cb_w x) (cb_w y)
  have e : (cb_w x).tmod (cb_w y) = cb_w x - (cb_w x).tdiv (cb_w y) * cb_w y := by omega
  rw [e, Int32.ofInt_sub, Int32.ofInt_mul, cb_of, cb_of, cb_div]
theorem cb_and255 (x : Int) : Int32.ofInt x &&& Int32.ofInt 255 = Int32.ofInt (x % 256) := by
  apply Int32.toBitVec_inj.mp
  rw [Int32.toBitVec_and, Int32.toBitVec_ofInt, Int32.toBitVec_ofInt, Int32.toBitVec_ofInt]
  apply BitVec.eq_of_toNat_eq
  rw [BitVec.toNat_and, show (BitVec.ofInt 32 255).toNat = 2 ^ 8 - 1 from rfl, Nat.and_two_pow_sub_one_eq_mod, BitVec.toNat_ofInt, BitVec.toNat_ofInt]
  show (x % 4294967296).toNat % 256 = (x % 256 % 4294967296).toNat
  omega
theorem cb_and31 (x : Int) : Int32.ofInt x &&& Int32.ofInt 31 = Int32.ofInt (x % 32) := by
  apply Int32.toBitVec_inj.mp
  rw [Int32.toBitVec_and, Int32.toBitVec_ofInt, Int32.toBitVec_ofInt, Int32.toBitVec_ofInt]
  apply BitVec.eq_of_toNat_eq
  rw [BitVec.toNat_and, show (BitVec.ofInt 32 31).toNat = 2 ^ 5 - 1 from rfl, Nat.and_two_pow_sub_one_eq_mod, BitVec.toNat_ofInt, BitVec.toNat_ofInt]
  show (x % 4294967296).toNat % 32 = (x % 32 % 4294967296).toNat
  omega
theorem cb_and3 (x : Int) : Int32.ofInt x &&& Int32.ofInt 3 = Int32.ofInt (x % 4) := by
  apply Int32.toBitVec_inj.mp
  rw [Int32.toBitVec_and, Int32.toBitVec_ofInt, Int32.toBitVec_ofInt, Int32.toBitVec_ofInt]
  apply BitVec.eq_of_toNat_eq
  rw [BitVec.toNat_and, show (BitVec.ofInt 32 3).toNat = 2 ^ 2 - 1 from rfl, Nat.and_two_pow_sub_one_eq_mod, BitVec.toNat_ofInt, BitVec.toNat_ofInt]
  show (x % 4294967296).toNat % 4 = (x % 4 % 4294967296).toNat
  omega
theorem cb_and1 (x : Int) : Int32.ofInt x &&& Int32.ofInt 1 = Int32.ofInt (x % 2) := by
  apply Int32.toBitVec_inj.mp
  rw [Int32.toBitVec_and, Int32.toBitVec_ofInt, Int32.toBitVec_ofInt, Int32.toBitVec_ofInt]
  apply BitVec.eq_of_toNat_eq
  rw [BitVec.toNat_and, show (BitVec.ofInt 32 1).toNat = 2 ^ 1 - 1 from rfl, Nat.and_two_pow_sub_one_eq_mod, BitVec.toNat_ofInt, BitVec.toNat_ofInt]
  show (x % 4294967296).toNat % 2 = (x % 2 % 4294967296).toNat
  omega
theorem cb_shr_k : ∀ k : Fin 32, ((BitVec.ofInt 32 (k.val : Int)).smod 32#32).toNat = k.val := by decide
theorem cb_shr (x y : Int) : Int32.ofInt x >>> (Int32.ofInt y &&& 31) = Int32.ofInt (cb_w x / 2 ^ (y % 32).toNat) := by
  rw [show (31 : Int32) = Int32.ofInt 31 from rfl, cb_and31]
  have h1 : 0 ≤ y % 32 := Int.emod_nonneg _ (by decide)
  have h2 : y % 32 < 32 := Int.emod_lt_of_pos _ (by decide)
  obtain ⟨k, hk, e⟩ : ∃ k : Nat, k < 32 ∧ y % 32 = (k : Int) := ⟨(y % 32).toNat, by omega, by omega⟩
  rw [e, Int.toNat_natCast]
  apply Int32.toInt_inj.mp
  rw [Int32.toInt_ofInt]
  show ((Int32.ofInt x).toBitVec.sshiftRight' ((BitVec.ofInt 32 (k : Int)).smod 32#32)).toInt = _
  rw [BitVec.sshiftRight_eq', BitVec.toInt_sshiftRight, cb_shr_k ⟨k, hk⟩, Int.shiftRight_eq_div_pow]
  have e2 : (Int32.ofInt x).toBitVec.toInt = cb_w x := cb_toInt x
  rw [e2]
  have hb : -2147483648 ≤ cb_w x ∧ cb_w x < 2147483648 := by unfold cb_w; omega
  have hp : (1 : Int) ≤ 2 ^ k := by
    have : 1 ≤ 2 ^ k := Nat.one_le_two_pow
    exact_mod_cast this
  have h3 : -2147483648 ≤ cb_w x / 2 ^ k := by
    apply Int.le_ediv_of_mul_le (by omega)
    have := Int.mul_le_mul_of_nonneg_left hp (show (0 : Int) ≤ 2147483648 by decide)
    omega
  have h4 : cb_w x / 2 ^ k < 2147483648 := by
    apply Int.ediv_lt_of_lt_mul (by omega)
    have := Int.mul_le_mul_of_nonneg_left hp (show (0 : Int) ≤ 2147483648 by decide)
    omega
  have h5 := cb_toInt (cb_w x / 2 ^ k)
  rw [Int32.toInt_ofInt, cb_id h3 h4] at h5
  rw [h5]
  simp
theorem cb_ushr_k : ∀ k : Fin 32, ((BitVec.ofInt 32 (k.val : Int)) % 32#32).toNat = k.val := by decide
theorem cb_ushr (x y : Int) : ((Int32.ofInt x).toUInt32 >>> ((Int32.ofInt y).toUInt32 &&& Int32.toUInt32 31)).toInt32 = Int32.ofInt (x % 4294967296 / 2 ^ (y % 32).toNat) := by
  have h1 : 0 ≤ y % 32 := Int.emod_nonneg _ (by decide)
  have h2 : y % 32 < 32 := Int.emod_lt_of_pos _ (by decide)
  obtain ⟨k, hk, e⟩ : ∃ k : Nat, k < 32 ∧ y % 32 = (k : Int) := ⟨(y % 32).toNat, by omega, by omega⟩
  have ey : (Int32.ofInt y).toUInt32 &&& Int32.toUInt32 31 = (Int32.ofInt (k : Int)).toUInt32 := by
    have := cb_and31 y
    rw [e] at this
    exact congrArg Int32.toUInt32 this
  rw [ey, e, Int.toNat_natCast]
  apply Int32.toBitVec_inj.mp
  apply BitVec.eq_of_toNat_eq
  show ((Int32.ofInt x).toBitVec >>> ((BitVec.ofInt 32 (k : Int)) % 32#32)).toNat = (BitVec.ofInt 32 (x % 4294967296 / 2 ^ k)).toNat
  rw [BitVec.ushiftRight_eq', BitVec.toNat_ushiftRight, cb_ushr_k ⟨k, hk⟩, Nat.shiftRight_eq_div_pow]
  show (BitVec.ofInt 32 x).toNat / 2 ^ k = _
  rw [BitVec.toNat_ofInt, BitVec.toNat_ofInt]
  show (x % 4294967296).toNat / 2 ^ k = (x % 4294967296 / 2 ^ k % 4294967296).toNat
  have g1 : 0 ≤ x % 4294967296 := Int.emod_nonneg _ (by decide)
  have g2 : x % 4294967296 < 4294967296 := Int.emod_lt_of_pos _ (by decide)
  obtain ⟨u, hu, e3⟩ : ∃ u : Nat, u < 4294967296 ∧ x % 4294967296 = (u : Int) := ⟨(x % 4294967296).toNat, by omega, by omega⟩
  rw [e3, Int.toNat_natCast]
  have e4 : (u : Int) / 2 ^ k = ((u / 2 ^ k : Nat) : Int) := by
    rw [Int.natCast_ediv, Int.natCast_pow]
    rfl
  rw [e4]
  have h6 : u / 2 ^ k ≤ u := Nat.div_le_self _ _
  generalize u / 2 ^ k = d at h6 ⊢
  omega
/-! abstract values: an int, or the number of a cell -/
abbrev cb_V : Type := Int ⊕ Nat
def cb_v (ad : Nat → Nat) : cb_V → Value
  | .inl i => .int (Int32.ofInt i)
  | .inr k => .ref (ad k)
theorem cb_v_cat (ad : Nat → Nat) (v : cb_V) : (cb_v ad v).category = 1 := by
  cases v <;> rfl
/-- what the int slots of the cells hold: by the cell's number and the slot -/
abbrev cb_S : Type := Nat → Nat → Int
def cb_u (g : cb_S) (k i : Nat) (v : Int) : cb_S := fun a b => if a = k then (if b = i then v else g a b) else g a b
/-- a cell of the skeleton: .inl (z, n): an array of n ints (z = 0) or booleans; .inr (.inl (h, n)): an array of the n int arrays from cell h on; .inr (.inr (ci, rs)): an object of class ci; a slot is a reference to a cell (some k) or an int (none) -/
abbrev cb_C : Type := (Nat × Nat) ⊕ (Nat × Nat) ⊕ (Nat × List (Option Nat))
/-- the surroundings: the launch, the classes, the ids of int[], boolean[], int[][], the addresses -/
abbrev cb_O : Type := Launch × va_G × (ClassId × ClassId × ClassId) × (Nat → Nat)
def cb_f (ad : Nat → Nat) (f : Nat → Int) : Nat → List (Option Nat) → List Value
  | _, [] => []
  | i, some r :: rs => .ref (ad r) :: cb_f ad f (i + 1) rs
  | i, none :: rs => .int (Int32.ofInt (f i)) :: cb_f ad f (i + 1) rs
def cb_cell (O : cb_O) (c : cb_C) (f : Nat → Int) : va_E := match c with
  | .inl (0, n) => .inl (O.2.2.1.1, n, .inl (fun i => Int32.ofInt (f i)))
  | .inl (_ + 1, n) => .inl (O.2.2.1.2.1, n, .inl (fun i => Int32.ofInt (f i)))
  | .inr (.inl (h, n)) => .inl (O.2.2.1.2.2, n, .inr (.inr (.inr (.inr (fun j => if j < n then some (O.2.2.2 (h + j)) else none)))))
  | .inr (.inr (ci, rs)) => .inr (ci, cb_f O.2.2.2 f 0 rs)
abbrev cb_K : Type := (Nat → cb_C) × Nat
def cb_W (O : cb_O) (K : cb_K) (g : cb_S) : va_W := (List.range K.2).map (fun k => (O.2.2.2 k, cb_cell O (K.1 k) (g k)))
theorem cb_get {O : cb_O} {K : cb_K} {g : cb_S} {k : Nat} (h : k < K.2) : (cb_W O K g)[k]? = some (O.2.2.2 k, cb_cell O (K.1 k) (g k)) := by
  unfold cb_W
  rw [List.getElem?_map, List.getElem?_range h]
  rfl
theorem cb_set {O : cb_O} {K : cb_K} {g g' : cb_S} {k : Nat} {e : va_E} (h : k < K.2) (he : cb_cell O (K.1 k) (g' k) = e) (ho : ∀ j, j ≠ k → g' j = g j) : (cb_W O K g).set k (O.2.2.2 k, e) = cb_W O K g' := by
  apply List.ext_getElem?
  intro j
  by_cases hj : j = k
  · subst hj
    rw [List.getElem?_set_self (by simp [cb_W]; exact h), cb_get h, he]
  · rw [List.getElem?_set_ne (Ne.symm hj)]
    unfold cb_W
    rw [List.getElem?_map, List.getElem?_map]
    by_cases hn : j < K.2
    · rw [List.getElem?_range hn]
      simp only [Option.map_some]
      rw [ho j hj]
    · rw [List.getElem?_eq_none (by simp; omega)]
      rfl
theorem cb_f_len (ad : Nat → Nat) (f : Nat → Int) : ∀ (rs : List (Option Nat)) (i : Nat), (cb_f ad f i rs).length = rs.length
  | [], _ => rfl
  | some r :: rs, i => congrArg (· + 1) (cb_f_len ad f rs (i + 1))
  | none :: rs, i => congrArg (· + 1) (cb_f_len ad f rs (i + 1))
theorem cb_f_int (ad : Nat → Nat) (f : Nat → Int) : ∀ (rs : List (Option Nat)) (i k : Nat), rs[k]? = some none → (cb_f ad f i rs)[k]? = some (.int (Int32.ofInt (f (i + k))))
  | [], _, k, h => by simp at h
  | some r :: rs, i, 0, h => by simp at h
  | none :: rs, i, 0, h => rfl
  | some r :: rs, i, k + 1, h => by
    have := cb_f_int ad f rs (i + 1) k h
    rw [show i + (k + 1) = i + 1 + k by omega]
    exact this
  | none :: rs, i, k + 1, h => by
    have := cb_f_int ad f rs (i + 1) k h
    rw [show i + (k + 1) = i + 1 + k by omega]
    exact this
theorem cb_f_ref (ad : Nat → Nat) (f : Nat → Int) {r : Nat} : ∀ (rs : List (Option Nat)) (i k : Nat), rs[k]? = some (some r) → (cb_f ad f i rs)[k]? = some (.ref (ad r))
  | [], _, k, h => by simp at h
  | some r :: rs, i, 0, h => by cases h; rfl
  | none :: rs, i, 0, h => by simp at h
  | some r :: rs, i, k + 1, h => cb_f_ref ad f rs (i + 1) k h
  | none :: rs, i, k + 1, h => cb_f_ref ad f rs (i + 1) k h
theorem cb_f_congr (ad : Nat → Nat) {f f' : Nat → Int} : ∀ (rs : List (Option Nat)) (i : Nat), (∀ j, i ≤ j → f j = f' j) → cb_f ad f i rs = cb_f ad f' i rs
  | [], _, _ => rfl
  | some r :: rs, i, h => by
    show _ :: _ = _ :: _
    rw [cb_f_congr ad rs (i + 1) (fun j hj => h j (by omega))]
  | none :: rs, i, h => by
    show _ :: _ = _ :: _
    rw [cb_f_congr ad rs (i + 1) (fun j hj => h j (by omega)), h i (Nat.le_refl i)]
theorem cb_f_set (ad : Nat → Nat) (f : Nat → Int) (v : Int) : ∀ (rs : List (Option Nat)) (i k : Nat), rs[k]? = some none → (cb_f ad f i rs).set k (.int (Int32.ofInt v)) = cb_f ad (fun b => if b = i + k then v else f b) i rs
  | [], _, k, h => by simp at h
  | some r :: rs, i, 0, h => by simp at h
  | none :: rs, i, 0, h => by
    show _ :: _ = _ :: _
    dsimp only
    rw [if_pos (show i = i + 0 from rfl)]
    refine congrArg _ (cb_f_congr ad rs (i + 1) (fun j hj => ?_))
    rw [if_neg (by omega)]
  | some r :: rs, i, k + 1, h => by
    show _ :: _ = _ :: _
    have := cb_f_set ad f v rs (i + 1) k h
    rw [this, show i + (k + 1) = i + 1 + k by omega]
  | none :: rs, i, k + 1, h => by
    show _ :: _ = _ :: _
    have := cb_f_set ad f v rs (i + 1) k h
    rw [this, show i + (k + 1) = i + 1 + k by omega]
    dsimp only
    rw [if_neg (show ¬ i = i + 1 + k by omega)]
/-- the addresses are apart -/
def cb_J (O : cb_O) (K : cb_K) : Prop := ∀ i j, i < K.2 → j < K.2 → O.2.2.2 i = O.2.2.2 j → i = j
def cb_A (O : cb_O) (K : cb_K) : Nat → Prop := fun q => ∃ k, k < K.2 ∧ q = O.2.2.2 k
theorem cb_W_at {O : cb_O} {K : cb_K} {g : cb_S} {k : Nat} {q : Nat × va_E} (h : (cb_W O K g)[k]? = some q) : k < K.2 ∧ q = (O.2.2.2 k, cb_cell O (K.1 k) (g k)) := by
  have hl : k < K.2 := by
    have := (List.getElem?_eq_some_iff.mp h).1
    simpa [cb_W] using this
  rw [cb_get hl] at h
  exact ⟨hl, (Option.some.inj h).symm⟩
theorem cb_D {O : cb_O} {K : cb_K} (hJ : cb_J O K) (g : cb_S) : va_D (cb_A O K) (cb_W O K g) := by
  refine ⟨fun i j x y hi hj hxy => ?_, fun k q hk => ?_⟩
  · obtain ⟨h1, rfl⟩ := cb_W_at hi
    obtain ⟨h2, rfl⟩ := cb_W_at hj
    exact hJ i j h1 h2 hxy
  · obtain ⟨h1, rfl⟩ := cb_W_at hk
    exact ⟨k, h1, rfl⟩
/-! locals: a place holds a value, or nothing is said of it -/
abbrev cb_L : Type := List (Option cb_V)
def cb_H (ad : Nat → Nat) (L : Array Slot) (nL : Nat) (ls : cb_L) : Prop := L.size = nL ∧ lv_wf L ∧ ∀ (i : Nat) (v : cb_V), ls[i]? = some (some v) → L[i]? = some (.val (cb_v ad v))
def cb_pr (ad : Nat → Nat) (ls : cb_L) : List (Nat × Value) := (List.range ls.length).filterMap (fun i => (ls.getD i none).map (fun v => (i, cb_v ad v)))
theorem cb_pr_mem {ad : Nat → Nat} {ls : cb_L} {q : Nat × Value} : q ∈ cb_pr ad ls ↔ ∃ v, ls[q.1]? = some (some v) ∧ q.2 = cb_v ad v := by
  unfold cb_pr
  rw [List.mem_filterMap]
  constructor
  · rintro ⟨i, hi, h⟩
    rw [List.mem_range] at hi
    rw [List.getD_eq_getElem?_getD, List.getElem?_eq_getElem hi, Option.getD_some] at h
    cases hv : ls[i] with
    | none => rw [hv] at h; cases h
    | some v =>
      rw [hv] at h
      cases h
      exact ⟨v, by rw [List.getElem?_eq_getElem hi, hv], rfl⟩
  · rintro ⟨v, h1, h2⟩
    obtain ⟨hi, he⟩ := List.getElem?_eq_some_iff.mp h1
    refine ⟨q.1, List.mem_range.mpr hi, ?_⟩
    rw [List.getD_eq_getElem?_getD, h1, Option.getD_some]
    simp only [Option.map_some]
    rw [← h2]
theorem cb_H_has {ad : Nat → Nat} {L : Array Slot} {nL : Nat} {ls : cb_L} (h : cb_H ad L nL ls) : lv_has L nL (cb_pr ad ls) := by
  refine ⟨h.1, h.2.1, fun q hq => ?_⟩
  obtain ⟨v, h1, h2⟩ := cb_pr_mem.mp hq
  rw [h2]
  exact h.2.2 q.1 v h1
theorem cb_H_set {ad : Nat → Nat} {L' : Array Slot} {nL i : Nat} {ls : cb_L} {x : Int} (h : lv_has L' nL ((i, Value.int (Int32.ofInt x)) :: (cb_pr ad ls).filter (fun q => !(q.1 == i) && !(q.1 + 1 == i && q.2.category == 2)))) : cb_H ad L' nL (ls.set i (some (.inl x))) := by
  refine ⟨h.1, h.2.1, fun j v hj => ?_⟩
  by_cases hi : j = i
  · subst hi
    have hlt : j < ls.length := by
      have := (List.getElem?_eq_some_iff.mp hj).1
      simpa using this
    rw [List.getElem?_set_self hlt] at hj
    cases hj
    exact h.2.2 (j, Value.int (Int32.ofInt x)) List.mem_cons_self
  · rw [List.getElem?_set_ne (Ne.symm hi)] at hj
    refine h.2.2 (j, cb_v ad v) (List.mem_cons_of_mem _ (List.mem_filter.mpr ⟨cb_pr_mem.mpr ⟨v, hj, rfl⟩, ?_⟩))
    simp [cb_v_cat, hi]
