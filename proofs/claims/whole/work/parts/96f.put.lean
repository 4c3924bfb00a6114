/-! put: sixteen bytes -/
def byt (v : Int) : Nat → Int
  | 0 => v / 16777216 % 256
  | 1 => v / 65536 % 256
  | 2 => v / 256 % 256
  | _ => v % 256
theorem byt_r (v : Int) (j : Nat) : 0 ≤ byt v j ∧ byt v j ≤ 255 := by
  unfold byt
  split <;> omega
theorem byt_u (v : Int) : ∀ j : Nat, j < 4 → (v % 4294967296 / 2 ^ ((24 - 8 * (j : Int)) % 32).toNat) % 256 = byt v j
  | 0, _ => by show v % 4294967296 / 16777216 % 256 = v / 16777216 % 256; omega
  | 1, _ => by show v % 4294967296 / 65536 % 256 = v / 65536 % 256; omega
  | 2, _ => by show v % 4294967296 / 256 % 256 = v / 256 % 256; omega
  | 3, _ => by show v % 4294967296 / 1 % 256 = v % 256; omega
  | j + 4, h => by omega
theorem byt_s (v : Int) : ∀ j : Nat, j < 4 → (v / 2 ^ ((24 - 8 * (j : Int)) % 32).toNat) % 256 = byt v j
  | 0, _ => by show v / 16777216 % 256 = v / 16777216 % 256; rfl
  | 1, _ => by show v / 65536 % 256 = v / 65536 % 256; rfl
  | 2, _ => by show v / 256 % 256 = v / 256 % 256; rfl
  | 3, _ => by show v / 1 % 256 = v % 256; omega
  | j + 4, h => by omega
def wv (a b c d : Int) (u : Nat) : Int := if u = 0 then a else if u = 1 then b else if u = 2 then c else d
def bv (a b c d : Int) (i : Nat) : Int := byt (wv a b c d (i / 4)) (i % 4)
theorem bv_at (a b c d : Int) (u j : Nat) (hj : j < 4) : bv a b c d (4 * u + j) = byt (wv a b c d u) j := by
  unfold bv
  rw [show (4 * u + j) / 4 = u by omega, show (4 * u + j) % 4 = j by omega]
theorem c_byte {g : cb_S} {a b c d : Int} {i : Nat} (hi : i < 16) : v_X8_byteOf g a b c d (i : Int) = some (bv a b c d i) := by
  have e : ∀ v : Int, v_X8_byteOf_b33 (i : Int) v g = some (byt v (i % 4)) := fun v => by
    unfold v_X8_byteOf_b33
    rw [show (i : Int) % 4 = ((i % 4 : Nat) : Int) by omega, byt_u v (i % 4) (by omega)]
  unfold v_X8_byteOf bv wv
  rw [e, e, e, e, cb_wn (n := i) (by omega)]
  by_cases h1 : 4 ≤ i
  · rw [if_pos (by omega), if_neg (show ¬ i / 4 = 0 by omega)]
    by_cases h2 : 8 ≤ i
    · rw [if_pos (by omega), if_neg (show ¬ i / 4 = 1 by omega)]
      by_cases h3 : 12 ≤ i
      · rw [if_pos (by omega), if_neg (show ¬ i / 4 = 2 by omega)]
      · rw [if_neg (by omega), if_pos (show i / 4 = 2 by omega)]
    · rw [if_neg (by omega), if_pos (show i / 4 = 1 by omega)]
  · rw [if_neg (by omega), if_pos (show i / 4 = 0 by omega)]
def nzc (B : Nat → Int) : Nat → Nat
  | 0 => 0
  | i + 1 => nzc B i + (if B i = 0 then 0 else 1)
def okb (B : Nat → Int) : Nat → Bool
  | 0 => true
  | i + 1 => okb B i && (decide (B i = 0) || decide (sg_k (B i) ≠ -1))
theorem nzc_mono {B : Nat → Int} {i j : Nat} (h : i ≤ j) : nzc B i ≤ nzc B j := by
  induction j with
  | zero => rw [show i = 0 by omega]; exact Nat.le_refl _
  | succ j ih =>
    by_cases e : i = j + 1
    · rw [e]; exact Nat.le_refl _
    · have := ih (by omega)
      have e1 : nzc B (j + 1) = nzc B j + (if B j = 0 then 0 else 1) := rfl
      omega
theorem nzc_le {B : Nat → Int} (i : Nat) : nzc B i ≤ i := by
  induction i with
  | zero => exact Nat.le_refl _
  | succ i ih =>
    unfold nzc
    split <;> omega
theorem okb_le {B : Nat → Int} {i j : Nat} (h : i ≤ j) (hj : okb B j = true) : okb B i = true := by
  induction j with
  | zero => rw [show i = 0 by omega]; rfl
  | succ j ih =>
    by_cases e : i = j + 1
    · rw [e]; exact hj
    · have hj : (okb B j && (decide (B j = 0) || decide (sg_k (B j) ≠ -1))) = true := hj
      exact ih (by omega) (Bool.and_eq_true_iff.mp hj).1
theorem okb_F {B : Nat → Int} {i j : Nat} (h : i ≤ j) (hi : okb B i = false) : okb B j = false := by
  cases e : okb B j with
  | false => rfl
  | true => rw [okb_le h e] at hi; cases hi
theorem okb_sg {B : Nat → Int} {i j : Nat} (h : i < j) (hj : okb B j = true) (hz : B i ≠ 0) : sg_k (B i) ≠ -1 := by
  have h1 := okb_le (i := i + 1) h hj
  have h1 : (okb B i && (decide (B i = 0) || decide (sg_k (B i) ≠ -1))) = true := h1
  have h2 := (Bool.and_eq_true_iff.mp h1).2
  rw [decide_eq_false hz, Bool.false_or] at h2
  exact decide_eq_true_iff.mp h2
def cTail (a b c d : Int) (k : Int) (g : cb_S) : Option (Int × cb_S) := (v_X3_hasRoomFor g k).bind (fun r1 => if cb_w r1 = 0 then (some (-2, g)) else (if cb_w k ≤ 0 then (f_X8_put_b107 g) else (cb_b (f_X8_keepForUndo g) (fun r2 g2 => cb_b (f_X8_appendBytes g2 a b c d) (fun r3 g3 => cb_b (f_X8_layOut g3) (fun r4 g4 => (v_X0_stand g4).bind (fun r5 => (v_X0_side g4).bind (fun r6 => cb_b (f_X0_settle g4 r5 r6) (fun r7 g7 => f_X8_put_b107 g7)))))))))
theorem c_put1 {g : cb_S} {a b c d : Int} : ∀ (m i : Nat), i ≤ 16 → 16 < i + m → okb (bv a b c d) i = true → f_X8_put_b6 m a b c d (nzc (bv a b c d) i : Int) (i : Int) g = if okb (bv a b c d) 16 = true then cTail a b c d (nzc (bv a b c d) 16 : Int) g else some (-1, g) := by
  intro m
  induction m with
  | zero => intro i h1 h2; omega
  | succ m ih =>
    intro i h1 h2 hok
    rw [f_X8_put_b6]
    dsimp only
    unfold f_X8_put_b43
    rw [cb_wn (n := i) (by omega)]
    by_cases e : 16 ≤ i
    · have hi : i = 16 := by omega
      subst hi
      rw [if_pos (by omega), if_pos hok]
      rfl
    · have hbr := byt_r (wv a b c d (i / 4)) (i % 4)
      have hbr : 0 ≤ bv a b c d i ∧ bv a b c d i ≤ 255 := hbr
      have e1 : nzc (bv a b c d) (i + 1) = nzc (bv a b c d) i + (if bv a b c d i = 0 then 0 else 1) := rfl
      have e2 : okb (bv a b c d) (i + 1) = (okb (bv a b c d) i && (decide (bv a b c d i = 0) || decide (sg_k (bv a b c d i) ≠ -1))) := rfl
      rw [if_neg (by omega), c_byte (by omega), Option.bind_some, cb_id (x := bv a b c d i) (by omega) (by omega), v_isSign ⟨by omega, by omega⟩, Option.bind_some, show (i : Int) + 1 = ((i + 1 : Nat) : Int) by omega]
      by_cases z : bv a b c d i = 0
      · rw [if_pos z] at e1
        rw [hok, decide_eq_true z] at e2
        rw [if_pos z, show (nzc (bv a b c d) i : Int) = (nzc (bv a b c d) (i + 1) : Int) by omega]
        exact ih (i + 1) (by omega) (by omega) e2
      · rw [if_neg z] at e1
        rw [hok, decide_eq_false z] at e2
        rw [if_neg z]
        by_cases hs : sg_k (bv a b c d i) = -1
        · rw [decide_eq_false (fun y => y hs)] at e2
          rw [if_pos hs, if_pos (show cb_w 0 = 0 by decide), okb_F (show i + 1 ≤ 16 by omega) e2, if_neg (show ¬ (false = true) by decide)]
        · rw [decide_eq_true hs] at e2
          rw [if_neg hs, if_neg (show ¬ cb_w 1 = 0 by decide), show (nzc (bv a b c d) i : Int) + 1 = (nzc (bv a b c d) (i + 1) : Int) by omega]
          exact ih (i + 1) (by omega) (by omega) e2
theorem m_put2 {g : cb_S} {a b c d : Int} {u : Nat} (hu : u < 4) {v : Int} (hv : v = wv a b c d u) (hi : cb_i v) {kk : Int → Int → Int → Int → Int → Int → Int → cb_S → Option (Int × cb_S)} : ∀ (m j : Nat), j ≤ 4 → 4 < j + m → f_X9_put_b52 kk m a b c d (nzc (bv a b c d) (4 * u + j) : Int) (bI (okb (bv a b c d) (4 * u + j))) (u : Int) v (24 - 8 * (j : Int)) g = kk a b c d (nzc (bv a b c d) (4 * (u + 1)) : Int) (bI (okb (bv a b c d) (4 * (u + 1)))) ((u + 1 : Nat) : Int) g := by
  intro m
  induction m with
  | zero => intro j h1 h2; omega
  | succ m ih =>
    intro j h1 h2
    rw [f_X9_put_b52]
    dsimp only
    rw [cb_id (x := 24 - 8 * (j : Int)) (by omega) (by omega)]
    by_cases e : 4 ≤ j
    · have hj : j = 4 := by omega
      subst hj
      rw [if_pos (by omega), show 4 * u + 4 = 4 * (u + 1) by omega, show (u : Int) + 1 = ((u + 1 : Nat) : Int) by omega]
    · have hbr := byt_r v j
      have hB : bv a b c d (4 * u + j) = byt v j := by rw [bv_at a b c d u j (by omega), hv]
      have e1 : nzc (bv a b c d) (4 * u + j + 1) = nzc (bv a b c d) (4 * u + j) + (if bv a b c d (4 * u + j) = 0 then 0 else 1) := rfl
      have e2 : okb (bv a b c d) (4 * u + j + 1) = (okb (bv a b c d) (4 * u + j) && (decide (bv a b c d (4 * u + j) = 0) || decide (sg_k (bv a b c d (4 * u + j)) ≠ -1))) := rfl
      rw [hB] at e1 e2
      have go := ih (j + 1) (by omega) (by omega)
      rw [show 4 * u + (j + 1) = 4 * u + j + 1 by omega, show (24 : Int) - 8 * ((j + 1 : Nat) : Int) = 24 - 8 * (j : Int) + (-8) by omega] at go
      rw [if_neg (by omega), cb_id hi.1 hi.2, byt_s v j (by omega), cb_id (x := byt v j) (by omega) (by omega)]
      unfold f_X9_put_b76 f_X9_put_b98 f_X9_put_b94 f_X9_put_b99
      rw [m_isSign ⟨by omega, by omega⟩, Option.bind_some, cb_id (x := byt v j) (by omega) (by omega)]
      by_cases z : byt v j = 0
      · rw [if_pos z] at e1
        rw [decide_eq_true z, Bool.true_or, Bool.and_true] at e2
        rw [e2, show (nzc (bv a b c d) (4 * u + j + 1) : Int) = (nzc (bv a b c d) (4 * u + j) : Int) by omega] at go
        rw [if_pos z, if_pos z]
        cases hq : okb (bv a b c d) (4 * u + j) with
        | true =>
          rw [hq, bI_t] at go
          rw [bI_t, if_neg (show ¬ cb_w 1 = 0 by decide)]
          exact go
        | false =>
          rw [hq, bI_f] at go
          rw [bI_f, if_pos (show cb_w 0 = 0 by decide)]
          exact go
      · rw [if_neg z] at e1
        rw [decide_eq_false z, Bool.false_or] at e2
        rw [show (nzc (bv a b c d) (4 * u + j + 1) : Int) = (nzc (bv a b c d) (4 * u + j) : Int) + 1 by omega] at go
        rw [if_neg z, if_neg z]
        cases hq : okb (bv a b c d) (4 * u + j) with
        | false =>
          rw [hq, Bool.false_and] at e2
          rw [e2, bI_f] at go
          rw [bI_f, if_pos (show cb_w 0 = 0 by decide)]
          exact go
        | true =>
          rw [hq, Bool.true_and] at e2
          rw [bI_t, if_neg (show ¬ cb_w 1 = 0 by decide)]
          by_cases hs : sg_k (byt v j) = -1
          · rw [decide_eq_false (fun y => y hs)] at e2
            rw [e2, bI_f] at go
            rw [if_pos hs, Option.bind_some, if_pos (show cb_w 0 = 0 by decide)]
            exact go
          · rw [decide_eq_true hs] at e2
            rw [e2, bI_t] at go
            rw [if_neg hs, Option.bind_some, if_neg (show ¬ cb_w 1 = 0 by decide)]
            exact go
def mTail (a b c d : Int) (k : Int) (g : cb_S) : Option (Int × cb_S) := if cb_w ((g 0 1) + k) ≤ 60 then (if cb_w k ≤ 0 then (f_X9_put_b144 a b c d g) else (cb_b (f_X9_keeps g) (fun r1 g1 => f_X9_put_b144 a b c d g1))) else (some (-2, g))
theorem m_put1 {g : cb_S} {a b c d : Int} (ha : cb_i a) (hb : cb_i b) (hc : cb_i c) (hd : cb_i d) : ∀ (m u : Nat), u ≤ 4 → 4 < u + m → f_X9_put_b9 m a b c d (nzc (bv a b c d) (4 * u) : Int) (bI (okb (bv a b c d) (4 * u))) (u : Int) g = if okb (bv a b c d) 16 = true then mTail a b c d (nzc (bv a b c d) 16 : Int) g else some (-1, g) := by
  intro m
  induction m with
  | zero => intro u h1 h2; omega
  | succ m ih =>
    intro u h1 h2
    rw [f_X9_put_b9]
    dsimp only
    unfold f_X9_put_b46
    rw [cb_wn (n := u) (by omega)]
    by_cases e : 4 ≤ u
    · have hu : u = 4 := by omega
      subst hu
      rw [if_pos (by omega), show 4 * 4 = 16 from rfl]
      cases okb (bv a b c d) 16 with
      | true =>
        rw [bI_t, if_neg (show ¬ cb_w 1 = 0 by decide), if_pos rfl]
        rfl
      | false => rw [bI_f, if_pos (show cb_w 0 = 0 by decide), if_neg (show ¬ (false = true) by decide)]
    · have go := ih (u + 1) (by omega) (by omega)
      have inner : ∀ v : Int, v = wv a b c d u → cb_i v → f_X9_put_b52 (f_X9_put_b9 m) cb_N a b c d (nzc (bv a b c d) (4 * u) : Int) (bI (okb (bv a b c d) (4 * u))) (u : Int) v 24 g = if okb (bv a b c d) 16 = true then mTail a b c d (nzc (bv a b c d) 16 : Int) g else some (-1, g) := by
        intro v hv hi
        have := m_put2 (g := g) (a := a) (b := b) (c := c) (d := d) (u := u) (by omega) hv hi (kk := f_X9_put_b9 m) cb_N 0 (by omega) (by unfold cb_N; omega)
        rw [show 4 * u + 0 = 4 * u by omega, show (24 : Int) - 8 * ((0 : Nat) : Int) = 24 by omega] at this
        rw [this]
        exact go
      rw [if_neg (by omega)]
      by_cases u0 : u = 0
      · rw [if_pos (by omega)]
        exact inner a (by rw [u0]; rfl) ha
      · rw [if_neg (by omega)]
        by_cases u1 : u = 1
        · rw [if_pos (by omega)]
          exact inner b (by rw [u1]; rfl) hb
        · rw [if_neg (by omega)]
          by_cases u2 : u = 2
          · rw [if_pos (by omega)]
            exact inner c (by rw [u2]; rfl) hc
          · rw [if_neg (by omega)]
            exact inner d (by rw [show u = 3 by omega]; rfl) hd
/-- the line behind the first i bytes -/
def ap (B : Nat → Int) (n : Nat) (s : Nat → Int) : Nat → Nat × (Nat → Int)
  | 0 => (n, s)
  | i + 1 => if B i = 0 then ap B n s i else ((ap B n s i).1 + 1, fun j => if j = (ap B n s i).1 then B i else (ap B n s i).2 j)
theorem ap_n {B : Nat → Int} {n : Nat} {s : Nat → Int} (i : Nat) : (ap B n s i).1 = n + nzc B i := by
  induction i with
  | zero => rfl
  | succ i ih =>
    unfold ap nzc
    split
    · rw [ih]; rfl
    · show (ap B n s i).1 + 1 = _
      omega
theorem ap_vld {B : Nat → Int} {n : Nat} {s : Nat → Int} (h : vld n s) : ∀ i, okb B i = true → vld (ap B n s i).1 (ap B n s i).2 := by
  intro i
  induction i with
  | zero => intro _; exact h
  | succ i ih =>
    intro hok
    have h1 := ih (okb_le (show i ≤ i + 1 by omega) hok)
    unfold ap
    by_cases z : B i = 0
    · rw [if_pos z]; exact h1
    · rw [if_neg z]
      have hs := okb_sg (show i < i + 1 by omega) hok z
      have hi := sg_in hs
      refine ⟨fun j hj => ?_, fun j hj => ?_⟩
      · have hj : j < (ap B n s i).1 + 1 := hj
        dsimp only
        split
        · exact hi
        · exact h1.1 j (by omega)
      · have hj : j < (ap B n s i).1 + 1 := hj
        dsimp only
        split
        · exact hs
        · exact h1.2 j (by omega)
theorem ln_C_ext {g : cb_S} {w : Int} {n : Nat} {s s2 : Nat → Int} (h : ln_C g w n s) (he : ∀ j, j < n → s2 j = s j) : ln_C g w n s2 := by
  obtain ⟨e1, e2, hn, hs, hb, hw⟩ := h
  exact ⟨e1, e2, hn, fun i hi => by rw [he i hi]; exact hs i hi, fun i hi => by rw [he i hi]; exact hb i hi, hw⟩
theorem p_append1 {a b c d : Int} {w : Int} {n : Nat} {s : Nat → Int} (hok : okb (bv a b c d) 16 = true) (hroom : n + nzc (bv a b c d) 16 ≤ 60) : ∀ (m i : Nat) (g : cb_S), i ≤ 16 → 16 < i + m → ln_C g w (ap (bv a b c d) n s i).1 (ap (bv a b c d) n s i).2 → hp (f_X8_appendBytes_b3 m a b c d (i : Int) g) (fun _ g2 => ln_C g2 w (ap (bv a b c d) n s 16).1 (ap (bv a b c d) n s 16).2 ∧ ∀ k, k ≠ 1 → k ≠ 8 → g2 k = g k) := by
  intro m
  induction m with
  | zero => intro i g h1 h2; omega
  | succ m ih =>
    intro i g h1 h2 hl
    rw [f_X8_appendBytes_b3]
    dsimp only
    unfold f_X8_appendBytes_b43
    rw [cb_wn (n := i) (by omega)]
    by_cases e : 16 ≤ i
    · have hi : i = 16 := by omega
      subst hi
      rw [if_pos (by omega)]
      exact hp_some ⟨hl, fun _ _ _ => rfl⟩
    · have hbr := byt_r (wv a b c d (i / 4)) (i % 4)
      have hbr : 0 ≤ bv a b c d i ∧ bv a b c d i ≤ 255 := hbr
      have hap : ap (bv a b c d) n s (i + 1) = if bv a b c d i = 0 then ap (bv a b c d) n s i else ((ap (bv a b c d) n s i).1 + 1, fun j => if j = (ap (bv a b c d) n s i).1 then bv a b c d i else (ap (bv a b c d) n s i).2 j) := rfl
      rw [if_neg (by omega), c_byte (by omega), Option.bind_some, cb_id (x := bv a b c d i) (by omega) (by omega), show (i : Int) + 1 = ((i + 1 : Nat) : Int) by omega]
      by_cases z : bv a b c d i = 0
      · rw [if_pos z] at hap
        rw [if_pos z]
        exact ih (i + 1) g (by omega) (by omega) (by rw [hap]; exact hl)
      · have hs := okb_sg (show i < 16 by omega) hok z
        have hnn := ap_n (B := bv a b c d) (n := n) (s := s) i
        have e1 : nzc (bv a b c d) (i + 1) = nzc (bv a b c d) i + (if bv a b c d i = 0 then 0 else 1) := rfl
        rw [if_neg z] at e1 hap
        have hm := nzc_mono (B := bv a b c d) (show i + 1 ≤ 16 by omega)
        rw [if_neg z]
        unfold v_X3_length
        rw [Option.bind_some, hl.1]
        refine hp_b (p_insert (b := bv a b c d i) hl (Nat.le_refl _) (by omega) hs) (fun _ g1 ⟨q1, q2⟩ => ?_)
        refine hp_imp (ih (i + 1) g1 (by omega) (by omega) ?_) (fun _ g2 ⟨p1, p2⟩ => ⟨p1, fun k x y => by rw [p2 k x y, q2 k x y]⟩)
        rw [hap]
        refine ln_C_ext q1 (fun j hj => ?_)
        dsimp only
        unfold insS
        by_cases ej : j = (ap (bv a b c d) n s i).1
        · rw [if_pos ej, if_neg (by omega), if_pos ej]
        · rw [if_neg ej, if_pos (by omega)]
theorem q_put2 {a b c d : Int} {w : Int} {n : Nat} {s : Nat → Int} (hok : okb (bv a b c d) 16 = true) (hroom : n + nzc (bv a b c d) 16 ≤ 60) {u : Nat} (hu : u < 4) {v : Int} (hv : v = wv a b c d u) (hi : cb_i v) {kk : Int → Int → Int → Int → Int → cb_S → Option (Int × cb_S)} : ∀ (m j : Nat) (g : cb_S), j ≤ 4 → 4 < j + m → ln_M g w (ap (bv a b c d) n s (4 * u + j)).1 (ap (bv a b c d) n s (4 * u + j)).2 → ∃ g2, f_X9_put_b190 kk m a b c d (u : Int) v (24 - 8 * (j : Int)) g = kk a b c d ((u + 1 : Nat) : Int) g2 ∧ ln_M g2 w (ap (bv a b c d) n s (4 * (u + 1))).1 (ap (bv a b c d) n s (4 * (u + 1))).2 ∧ (∀ t, t ≠ 1 → g2 0 t = g 0 t) ∧ ∀ k, k ≠ 0 → k ≠ 1 → g2 k = g k := by
  intro m
  induction m with
  | zero => intro j g h1 h2; omega
  | succ m ih =>
    intro j g h1 h2 hl
    rw [f_X9_put_b190]
    dsimp only
    unfold f_X9_put_b235
    rw [cb_id (x := 24 - 8 * (j : Int)) (by omega) (by omega)]
    by_cases e : 4 ≤ j
    · have hj : j = 4 := by omega
      subst hj
      rw [if_pos (by omega), show (u : Int) + 1 = ((u + 1 : Nat) : Int) by omega]
      rw [show 4 * u + 4 = 4 * (u + 1) by omega] at hl
      exact ⟨g, rfl, hl, fun _ _ => rfl, fun _ _ _ => rfl⟩
    · have hbr := byt_r v j
      have hB : bv a b c d (4 * u + j) = byt v j := by rw [bv_at a b c d u j (by omega), hv]
      have hap : ap (bv a b c d) n s (4 * u + j + 1) = if bv a b c d (4 * u + j) = 0 then ap (bv a b c d) n s (4 * u + j) else ((ap (bv a b c d) n s (4 * u + j)).1 + 1, fun q => if q = (ap (bv a b c d) n s (4 * u + j)).1 then bv a b c d (4 * u + j) else (ap (bv a b c d) n s (4 * u + j)).2 q) := rfl
      have e1 : nzc (bv a b c d) (4 * u + j + 1) = nzc (bv a b c d) (4 * u + j) + (if bv a b c d (4 * u + j) = 0 then 0 else 1) := rfl
      rw [hB] at hap e1
      rw [if_neg (by omega), cb_id hi.1 hi.2, byt_s v j (by omega), cb_id (x := byt v j) (by omega) (by omega), show (24 : Int) - 8 * (j : Int) + (-8) = 24 - 8 * ((j + 1 : Nat) : Int) by omega]
      by_cases z : byt v j = 0
      · rw [if_pos z] at hap
        rw [if_pos z]
        exact ih (j + 1) g (by omega) (by omega) (by rw [show 4 * u + (j + 1) = 4 * u + j + 1 by omega, hap]; exact hl)
      · have hs := okb_sg (B := bv a b c d) (show 4 * u + j < 16 by omega) hok (by rw [hB]; exact z)
        rw [hB] at hs
        have hin := sg_in hs
        have hnn := ap_n (B := bv a b c d) (n := n) (s := s) (4 * u + j)
        rw [if_neg z] at e1 hap
        have hm := nzc_mono (B := bv a b c d) (show 4 * u + j + 1 ≤ 16 by omega)
        obtain ⟨l1, l2, l3, l4, l5, l6⟩ := id hl
        rw [if_neg z, l1, cb_wn (n := (ap (bv a b c d) n s (4 * u + j)).1) (by omega), if_pos (by omega), Int.toNat_natCast]
        generalize hG : cb_u (cb_u g 1 (ap (bv a b c d) n s (4 * u + j)).1 (byt v j)) 0 1 (((ap (bv a b c d) n s (4 * u + j)).1 : Int) + 1) = G
        have G0 : ∀ t, t ≠ 1 → G 0 t = g 0 t := fun t ht => by rw [← hG, cb_u_ne _ _ _ _ ht, cb_u_other _ _ _ (by decide)]
        have Gk : ∀ k, k ≠ 0 → k ≠ 1 → G k = g k := fun k x y => by rw [← hG, cb_u_other _ _ _ x, cb_u_other _ _ _ y]
        obtain ⟨g2, p1, p2, p3, p4⟩ := ih (j + 1) G (by omega) (by omega) (by
          rw [show 4 * u + (j + 1) = 4 * u + j + 1 by omega, hap]
          refine ⟨by rw [← hG, cb_u_same]; dsimp only; omega, by rw [G0 0 (by decide)]; exact l2, by dsimp only; omega, fun q hq => ?_, fun q hq => ?_, l6⟩
          · have hq : q < (ap (bv a b c d) n s (4 * u + j)).1 + 1 := hq
            dsimp only
            rw [← hG, cb_u_other _ _ _ (by decide)]
            by_cases eq : q = (ap (bv a b c d) n s (4 * u + j)).1
            · rw [if_pos eq, eq, cb_u_same]
            · rw [if_neg eq, cb_u_ne _ _ _ _ eq]
              exact l4 q (by omega)
          · have hq : q < (ap (bv a b c d) n s (4 * u + j)).1 + 1 := hq
            dsimp only
            split
            · exact hin
            · exact l5 q (by omega))
        exact ⟨g2, p1, p2, fun t ht => by rw [p3 t ht, G0 t ht], fun k x y => by rw [p4 k x y, Gk k x y]⟩
theorem q_put1 {a b c d : Int} {w : Int} {n : Nat} {s : Nat → Int} (ha : cb_i a) (hb : cb_i b) (hc : cb_i c) (hd : cb_i d) (hok : okb (bv a b c d) 16 = true) (hroom : n + nzc (bv a b c d) 16 ≤ 60) : ∀ (m u : Nat) (g : cb_S), u ≤ 4 → 4 < u + m → ln_M g w (ap (bv a b c d) n s (4 * u)).1 (ap (bv a b c d) n s (4 * u)).2 → ∃ g2, f_X9_put_b147 m a b c d (u : Int) g = cb_b (f_X9_settles g2) (fun r1 g1 => some (g1 0 1, g1)) ∧ ln_M g2 w (ap (bv a b c d) n s 16).1 (ap (bv a b c d) n s 16).2 ∧ (∀ t, t ≠ 1 → g2 0 t = g 0 t) ∧ ∀ k, k ≠ 0 → k ≠ 1 → g2 k = g k := by
  intro m
  induction m with
  | zero => intro u g h1 h2; omega
  | succ m ih =>
    intro u g h1 h2 hl
    rw [f_X9_put_b147]
    dsimp only
    unfold f_X9_put_b184
    rw [cb_wn (n := u) (by omega)]
    by_cases e : 4 ≤ u
    · have hu : u = 4 := by omega
      subst hu
      rw [if_pos (by omega)]
      exact ⟨g, rfl, hl, fun _ _ => rfl, fun _ _ _ => rfl⟩
    · have inner : ∀ v : Int, v = wv a b c d u → cb_i v → ∃ g2, f_X9_put_b190 (f_X9_put_b147 m) cb_N a b c d (u : Int) v 24 g = cb_b (f_X9_settles g2) (fun r1 g1 => some (g1 0 1, g1)) ∧ ln_M g2 w (ap (bv a b c d) n s 16).1 (ap (bv a b c d) n s 16).2 ∧ (∀ t, t ≠ 1 → g2 0 t = g 0 t) ∧ ∀ k, k ≠ 0 → k ≠ 1 → g2 k = g k := by
        intro v hv hi
        obtain ⟨g1, p1, p2, p3, p4⟩ := q_put2 (w := w) (n := n) (s := s) hok hroom (u := u) (by omega) hv hi (kk := f_X9_put_b147 m) cb_N 0 g (by omega) (by unfold cb_N; omega) hl
        rw [show (24 : Int) - 8 * ((0 : Nat) : Int) = 24 by omega] at p1
        obtain ⟨g2, q1, q2, q3, q4⟩ := ih (u + 1) g1 (by omega) (by omega) p2
        exact ⟨g2, by rw [p1, q1], q2, fun t ht => by rw [q3 t ht, p3 t ht], fun k x y => by rw [q4 k x y, p4 k x y]⟩
      rw [if_neg (by omega)]
      by_cases u0 : u = 0
      · rw [if_pos (by omega)]
        exact inner a (by rw [u0]; rfl) ha
      · rw [if_neg (by omega)]
        by_cases u1 : u = 1
        · rw [if_pos (by omega)]
          exact inner b (by rw [u1]; rfl) hb
        · rw [if_neg (by omega)]
          by_cases u2 : u = 2
          · rw [if_pos (by omega)]
            exact inner c (by rw [u2]; rfl) hc
          · rw [if_neg (by omega)]
            exact inner d (by rw [show u = 3 by omega]; rfl) hd
theorem cb_u_id {g : cb_S} {k i : Nat} {v : Int} (h : g k i = v) : cb_u g k i v = g := by
  funext a b
  unfold cb_u
  by_cases e1 : a = k
  · rw [if_pos e1]
    by_cases e2 : b = i
    · rw [if_pos e2, e1, e2, h]
    · rw [if_neg e2]
  · rw [if_neg e1]
theorem o1 : lw_o1 Rel := by
  intro gC gM hR a b c d ha hb hc hd
  obtain ⟨w, n, s, p, e, h⟩ := hR
  have hn := h.2.2.2.2.2.1.2.2.1
  have hC : f_X8_put gC a b c d = if okb (bv a b c d) 16 = true then cTail a b c d (nzc (bv a b c d) 16 : Int) gC else some (-1, gC) := c_put1 cb_N 0 (by omega) (by unfold cb_N; omega) rfl
  have hM : f_X9_put gM a b c d = if okb (bv a b c d) 16 = true then mTail a b c d (nzc (bv a b c d) 16 : Int) gM else some (-1, gM) := m_put1 ha hb hc hd cb_N 0 (by omega) (by unfold cb_N; omega)
  have hnz := nzc_le (B := bv a b c d) 16
  rw [hC, hM]
  cases hok : okb (bv a b c d) 16 with
  | false =>
    rw [if_neg (show ¬ (false = true) by decide), if_neg (show ¬ (false = true) by decide)]
    exact ⟨-1, gC, -1, gM, rfl, rfl, rfl, ⟨w, n, s, p, e, h⟩⟩
  | true =>
    rw [if_pos rfl, if_pos rfl]
    unfold cTail mTail v_X3_hasRoomFor
    rw [h.1.1.1.1, h.2.2.2.2.2.1.1, cb_id (x := 60 - (n : Int)) (by omega) (by omega), cb_wn (n := nzc (bv a b c d) 16) (by omega), cb_id (x := (n : Int) + (nzc (bv a b c d) 16 : Int)) (by omega) (by omega)]
    by_cases room : n + nzc (bv a b c d) 16 ≤ 60
    · rw [if_neg (show ¬ 60 - (n : Int) < (nzc (bv a b c d) 16 : Int) by omega), Option.bind_some, if_neg (show ¬ cb_w 1 = 0 by decide), if_pos (show (n : Int) + (nzc (bv a b c d) 16 : Int) ≤ 60 by omega)]
      have hnn := ap_n (B := bv a b c d) (n := n) (s := s) 16
      by_cases z : nzc (bv a b c d) 16 = 0
      · rw [if_pos (show (nzc (bv a b c d) 16 : Int) ≤ 0 by omega), if_pos (show (nzc (bv a b c d) 16 : Int) ≤ 0 by omega)]
        obtain ⟨a1, a2, a3, a4, a5, a6, a7, a8, a9, a10⟩ := id h
        have hp := isS_le a5.1
        obtain ⟨g2, q1, q2, q3, q4⟩ := q_put1 (w := w) (n := n) (s := s) ha hb hc hd hok room cb_N 0 gM (by omega) (by unfold cb_N; omega) a6
        have q1' : f_X9_put_b147 cb_N a b c d 0 gM = cb_b (f_X9_settles g2) (fun r1 g1 => some (g1 0 1, g1)) := q1
        have hs : ∀ i, nzc (bv a b c d) i = 0 → (ap (bv a b c d) n s i).2 = s := by
          intro i
          induction i with
          | zero => intro _; rfl
          | succ i ih =>
            intro hz
            have e1 : nzc (bv a b c d) (i + 1) = nzc (bv a b c d) i + (if bv a b c d i = 0 then 0 else 1) := rfl
            have hap : ap (bv a b c d) n s (i + 1) = if bv a b c d i = 0 then ap (bv a b c d) n s i else ((ap (bv a b c d) n s i).1 + 1, fun j => if j = (ap (bv a b c d) n s i).1 then bv a b c d i else (ap (bv a b c d) n s i).2 j) := rfl
            by_cases y : bv a b c d i = 0
            · rw [if_pos y] at e1 hap
              rw [hap]
              exact ih (by omega)
            · rw [if_neg y] at e1
              omega
        rw [hs 16 z, hnn, z, Nat.add_zero] at q2
        obtain ⟨r, gC2, r2, gM2, y1, y2, q, e2, y3⟩ := j_settle (x := p) (e := e) a1 a2 q2 (hist_keep a9 rfl (fun _ _ => rfl) (q3 5 (by decide)) (fun k u v => q4 k (by omega) (by omega))) (pcs_keep a10 rfl rfl rfl (q3 29 (by decide)) (q4 21 (by decide) (by decide)) (q4 22 (by decide) (by decide))) (by omega) a5.2.1 (by rw [q3 3 (by decide)]; exact a7) (by rw [q3 4 (by decide)]; exact a8)
        rw [c_stay a1 a5, cb_u_id (v := (p : Int)) a3, cb_u_id a4] at y1
        cases y1
        unfold f_X8_put_b107 v_X3_length f_X9_put_b144
        rw [Option.bind_some, q1', y2, cb_b_some, a1.1.1.1, y3.2.2.2.2.2.1.1]
        exact ⟨_, _, _, _, rfl, rfl, rfl, ⟨_, _, _, _, _, y3⟩⟩
      · rw [if_neg (show ¬ (nzc (bv a b c d) 16 : Int) ≤ 0 by omega), if_neg (show ¬ (nzc (bv a b c d) 16 : Int) ≤ 0 by omega)]
        obtain ⟨r, gC1, r1, gM1, z1, z2, z3⟩ := j_keep h
        obtain ⟨a1, a2, a3, a4, a5, a6, a7, a8, a9, a10⟩ := id z3
        have hp := isS_le a5.1
        obtain ⟨r2, gC2, z4, z5, z6⟩ := p_append1 (w := w) (n := n) (s := s) hok room cb_N 0 gC1 (by omega) (by unfold cb_N; omega) a1.1.1
        have z4' : f_X8_appendBytes gC1 a b c d = some (r2, gC2) := z4
        have hv := ap_vld a2 16 hok
        obtain ⟨r3, gC3, z7, z8, z9⟩ := p_layOut z5 hv.2
        obtain ⟨g2, q1, q2, q3, q4⟩ := q_put1 (w := w) (n := n) (s := s) ha hb hc hd hok room cb_N 0 gM1 (by omega) (by unfold cb_N; omega) a6
        have q1' : f_X9_put_b147 cb_N a b c d 0 gM1 = cb_b (f_X9_settles g2) (fun r1 g1 => some (g1 0 1, g1)) := q1
        have kC : ∀ k, ¬ lay_w k → k ≠ 1 → k ≠ 8 → gC3 k = gC1 k := fun k x y z => by rw [z9 k x, z6 k y z]
        have g52 : gC3 5 2 = (p : Int) := by rw [kC 5 (by unfold lay_w; omega) (by decide) (by decide)]; exact a3
        have g53 : gC3 5 3 = e := by rw [kC 5 (by unfold lay_w; omega) (by decide) (by decide)]; exact a4
        obtain ⟨r4, gC4, r5, gM4, y1, y2, q, e2, y3⟩ := j_settle (x := p) (e := e) z8 hv q2 (hist_keep a9 (kC 7 (by unfold lay_w; omega) (by decide) (by decide)) (fun k hk9 => kC k (by unfold lay_w; omega) (by omega) (by omega)) (q3 5 (by decide)) (fun k y z => q4 k (by omega) (by omega))) (pcs_keep a10 (kC 6 (by unfold lay_w; omega) (by decide) (by decide)) (kC 30 (by unfold lay_w; omega) (by decide) (by decide)) (kC 31 (by unfold lay_w; omega) (by decide) (by decide)) (q3 29 (by decide)) (q4 21 (by decide) (by decide)) (q4 22 (by decide) (by decide))) (by omega) a5.2.1 (by rw [q3 3 (by decide)]; exact a7) (by rw [q3 4 (by decide)]; exact a8)
        unfold v_X0_stand v_X0_side f_X8_put_b107 v_X3_length f_X9_put_b144
        rw [z1, cb_b_some, z4', cb_b_some, z7, cb_b_some, Option.bind_some, Option.bind_some, g52, g53, y1, cb_b_some, Option.bind_some, z2, cb_b_some, q1', y2, cb_b_some, y3.1.1.1.1, y3.2.2.2.2.2.1.1]
        exact ⟨_, _, _, _, rfl, rfl, rfl, ⟨_, _, _, _, _, y3⟩⟩
    · rw [if_pos (show 60 - (n : Int) < (nzc (bv a b c d) 16 : Int) by omega), Option.bind_some, if_pos (show cb_w 0 = 0 by decide), if_neg (show ¬ (n : Int) + (nzc (bv a b c d) 16 : Int) ≤ 60 by omega)]
      exact ⟨-2, gC, -2, gM, rfl, rfl, rfl, ⟨w, n, s, p, e, h⟩⟩
