/-! where the caret may stand: pure, and as class and model read it -/
theorem v_val {g : cb_S} {a la : Nat} {i o : Int} (hl : la ≤ 1000) (h : cb_i i) : v_X8_valueAt g a la i o = some (if 0 ≤ i ∧ i < (la : Int) then g a i.toNat else o) := by
  unfold v_X8_valueAt
  rw [cb_id h.1 h.2, cb_wn (n := la) (by omega)]
  by_cases h0 : i < 0
  · rw [if_pos h0, if_neg (by omega)]
  · rw [if_neg h0]
    by_cases h1 : (la : Int) ≤ i
    · rw [if_pos h1, if_neg (by omega)]
    · rw [if_neg h1, if_pos (by omega), if_pos (by omega)]
def bg (n : Nat) (s : Nat → Int) (x : Int) : Int := if 0 ≤ x ∧ x < (n : Int) ∧ bd n s x.toNat = true then (cn n s x.toNat : Int) else -1
def en (n : Nat) (s : Nat → Int) (x : Int) : Int := if 0 < x ∧ x ≤ (n : Int) ∧ bd n s x.toNat = true then (cn n s x.toNat : Int) - 1 else -1
def hh (n : Nat) (s : Nat → Int) (x : Int) : Int := if 2 ≤ x ∧ x < (n : Int) ∧ bd n s (x.toNat - 2) = true ∧ jn n s (x.toNat - 1) = true then (cn n s (x.toNat - 2) : Int) else -1
theorem bd_n (n : Nat) (s : Nat → Int) : bd n s n = true := by simp [bd]
theorem bd_0 (n : Nat) (s : Nat → Int) : bd n s 0 = true := by simp [bd]
theorem cn_pos {n : Nat} {s : Nat → Int} {x : Nat} (h : 0 < x) : 0 < cn n s x := by
  have := cn_lt (n := n) (s := s) h (bd_0 n s)
  omega
theorem es_ok {n : Nat} {s : Nat → Int} {k : Nat} (hk : k < cn n s n) : bd n s (es n s k) = true ∧ es n s k ≤ n ∧ cn n s (es n s k) = k + 1 ∧ fs n s k < es n s k := by
  have hf := fs_ok hk
  have h3 : bd n s (es n s k) = true ∧ es n s k ≤ n ∧ cn n s (es n s k) = k + 1 := by
    unfold es
    by_cases e : k + 1 < cn n s n
    · rw [if_pos e]
      have := fs_ok e
      exact ⟨this.1, by omega, this.2.1⟩
    · rw [if_neg e]
      exact ⟨bd_n n s, Nat.le_refl _, by omega⟩
  refine ⟨h3.1, h3.2.1, h3.2.2, ?_⟩
  by_cases z : fs n s k < es n s k
  · exact z
  · have := cn_mono (n := n) (s := s) (show es n s k ≤ fs n s k by omega)
    omega
theorem es_cn {n : Nat} {s : Nat → Int} {x : Nat} (h0 : 0 < x) (h1 : x ≤ n) (hb : bd n s x = true) : cn n s x - 1 < cn n s n ∧ es n s (cn n s x - 1) = x := by
  have h2 := cn_pos (n := n) (s := s) h0
  have h3 := cn_mono (n := n) (s := s) h1
  have h4 := es_ok (n := n) (s := s) (k := cn n s x - 1) (by omega)
  exact ⟨by omega, cn_inj h4.1 hb (by omega)⟩
theorem bg_fs {n : Nat} {s : Nat → Int} {k : Nat} (hk : k < cn n s n) : bg n s (fs n s k : Int) = (k : Int) := by
  have hf := fs_ok hk
  unfold bg
  rw [if_pos ⟨by omega, by omega, by rw [Int.toNat_natCast]; exact hf.1⟩, Int.toNat_natCast, hf.2.1]
theorem bg_ex {n : Nat} {s : Nat → Int} {x : Int} (h : bg n s x ≠ -1) : ∃ k, k < cn n s n ∧ x = (fs n s k : Int) ∧ bg n s x = (k : Int) := by
  unfold bg at h ⊢
  by_cases c : 0 ≤ x ∧ x < (n : Int) ∧ bd n s x.toNat = true
  · rw [if_pos c]
    refine ⟨cn n s x.toNat, cn_lt (n := n) (s := s) (by omega) c.2.2, ?_, rfl⟩
    rw [fs_cn c.2.2 (by omega)]
    omega
  · rw [if_neg c] at h
    exact absurd rfl h
theorem en_es {n : Nat} {s : Nat → Int} {k : Nat} (hk : k < cn n s n) : en n s (es n s k : Int) = (k : Int) := by
  have hf := es_ok hk
  unfold en
  rw [if_pos ⟨by omega, by omega, by rw [Int.toNat_natCast]; exact hf.1⟩, Int.toNat_natCast, hf.2.2.1]
  omega
theorem en_ex {n : Nat} {s : Nat → Int} {x : Int} (h : en n s x ≠ -1) : ∃ k, k < cn n s n ∧ x = (es n s k : Int) ∧ en n s x = (k : Int) := by
  unfold en at h ⊢
  by_cases c : 0 < x ∧ x ≤ (n : Int) ∧ bd n s x.toNat = true
  · rw [if_pos c]
    have h1 := es_cn (n := n) (s := s) (x := x.toNat) (by omega) (by omega) c.2.2
    have h2 := cn_pos (n := n) (s := s) (x := x.toNat) (by omega)
    exact ⟨cn n s x.toNat - 1, h1.1, by rw [h1.2]; omega, by omega⟩
  · rw [if_neg c] at h
    exact absurd rfl h
theorem hh_fs {n : Nat} {s : Nat → Int} {k : Nat} (hk : k < cn n s n) (hj : jn n s (fs n s k + 1) = true) : hh n s ((fs n s k : Int) + 2) = (k : Int) ∧ fs n s k + 2 < n := by
  have hf := fs_ok hk
  have hj2 := ((jn_iff n s (fs n s k + 1)).mp hj).2.2.1
  unfold hh
  have e1 : ((fs n s k : Int) + 2).toNat = fs n s k + 2 := by omega
  rw [e1, show fs n s k + 2 - 2 = fs n s k by omega, show fs n s k + 2 - 1 = fs n s k + 1 by omega, if_pos ⟨by omega, by omega, hf.1, hj⟩, hf.2.1]
  exact ⟨rfl, by omega⟩
theorem hh_ex {n : Nat} {s : Nat → Int} {x : Int} (h : hh n s x ≠ -1) : ∃ k, k < cn n s n ∧ x = (fs n s k : Int) + 2 ∧ hh n s x = (k : Int) ∧ jn n s (fs n s k + 1) = true ∧ fs n s k + 2 < n := by
  unfold hh at h ⊢
  by_cases c : 2 ≤ x ∧ x < (n : Int) ∧ bd n s (x.toNat - 2) = true ∧ jn n s (x.toNat - 1) = true
  · rw [if_pos c]
    have h1 := fs_cn (n := n) (s := s) (b := x.toNat - 2) c.2.2.1 (by omega)
    refine ⟨cn n s (x.toNat - 2), cn_lt (n := n) (s := s) (by omega) c.2.2.1, ?_, rfl, ?_, ?_⟩
    · rw [h1]; omega
    · rw [h1, show x.toNat - 2 + 1 = x.toNat - 1 by omega]; exact c.2.2.2
    · rw [h1]; omega
  · rw [if_neg c] at h
    exact absurd rfl h
/-- within a joined cluster there is no boundary -/
theorem bd_hh {n : Nat} {s : Nat → Int} {k : Nat} (hj : jn n s (k + 1) = true) : bd n s (k + 2) = false ∧ bd n s (k + 1) = false := by
  obtain ⟨j1, j2, j3, ⟨j4, j5⟩, j6⟩ := (jn_iff n s (k + 1)).mp hj
  rw [show k + 1 + 1 = k + 2 by omega, show k + 1 - 1 = k by omega] at j5
  rw [show k + 1 - 1 = k by omega] at j4
  have hnm : ¬ (s (k + 2) = 39 ∨ s (k + 2) = 126) := fun z => by
    have := sg_mark z
    omega
  refine ⟨?_, ?_⟩
  · rw [bd_in (by omega) (by omega), if_neg hnm, show k + 2 - 1 = k + 1 by omega, hj]
    simp
  · rw [bd_in (by omega) (by omega), if_neg (by omega), hj]
    simp
def isB (n : Nat) (s : Nat → Int) (x : Int) : Bool := decide (0 ≤ x ∧ x ≤ (n : Int) ∧ bd n s x.toNat = true)
def isS (n : Nat) (s : Nat → Int) (x : Int) : Bool := isB n s x || decide (hh n s x ≠ -1)
theorem isB_iff {n : Nat} {s : Nat → Int} {x : Int} : isB n s x = true ↔ (0 ≤ x ∧ x ≤ (n : Int) ∧ bd n s x.toNat = true) := by
  unfold isB
  exact decide_eq_true_iff
theorem hh_isB {n : Nat} {s : Nat → Int} {x : Int} (h : hh n s x ≠ -1) : isB n s x = false := by
  obtain ⟨k, h1, h2, h3, h4, h5⟩ := hh_ex h
  cases e : isB n s x with
  | false => rfl
  | true =>
    have := (isB_iff.mp e).2.2
    rw [h2, show ((fs n s k : Int) + 2).toNat = fs n s k + 2 by omega, (bd_hh h4).1] at this
    cases this
theorem isS_iff {n : Nat} {s : Nat → Int} {x : Int} : isS n s x = true ↔ (isB n s x = true ∨ hh n s x ≠ -1) := by
  unfold isS
  rw [Bool.or_eq_true, decide_eq_true_iff]
theorem isS_le {n : Nat} {s : Nat → Int} {x : Int} (h : isS n s x = true) : 0 ≤ x ∧ x ≤ (n : Int) := by
  rcases isS_iff.mp h with h | h
  · have := isB_iff.mp h
    omega
  · obtain ⟨k, h1, h2, h3, h4, h5⟩ := hh_ex h
    omega
theorem isB_n (n : Nat) (s : Nat → Int) : isB n s (n : Int) = true := isB_iff.mpr ⟨by omega, by omega, by rw [Int.toNat_natCast]; exact bd_n n s⟩
theorem isB_0 (n : Nat) (s : Nat → Int) : isB n s 0 = true := isB_iff.mpr ⟨by omega, by omega, bd_0 n s⟩
theorem isB_bg {n : Nat} {s : Nat → Int} {x : Int} (h : x ≠ (n : Int)) : isB n s x = decide (bg n s x ≠ -1) := by
  have e : isB n s x = true ↔ bg n s x ≠ -1 := by
    rw [isB_iff]
    refine ⟨fun z => ?_, fun z => ?_⟩
    · unfold bg
      rw [if_pos ⟨z.1, by omega, z.2.2⟩]
      omega
    · obtain ⟨k, h1, h2, h3⟩ := bg_ex z
      have := fs_ok h1
      rw [h2, Int.toNat_natCast]
      exact ⟨by omega, by omega, this.1⟩
  by_cases z : bg n s x ≠ -1
  · rw [e.mpr z, decide_eq_true z]
  · rw [decide_eq_false z]
    cases q : isB n s x with
    | false => rfl
    | true => exact absurd (e.mp q) z
/-- a caret -/
def cst (n : Nat) (s : Nat → Int) (p : Nat) (d : Int) : Prop := isS n s (p : Int) = true ∧ (d = 0 ∨ d = 1) ∧ (hh n s (p : Int) ≠ -1 → d = 0)
theorem bg_r (n : Nat) (s : Nat → Int) (hn : n ≤ 60) (x : Int) : -1 ≤ bg n s x ∧ bg n s x < 60 := by
  by_cases h : bg n s x = -1
  · omega
  · obtain ⟨k, h1, h2, h3⟩ := bg_ex h
    have := cn_le (n := n) (s := s) n
    omega
theorem en_r (n : Nat) (s : Nat → Int) (hn : n ≤ 60) (x : Int) : -1 ≤ en n s x ∧ en n s x < 60 := by
  by_cases h : en n s x = -1
  · omega
  · obtain ⟨k, h1, h2, h3⟩ := en_ex h
    have := cn_le (n := n) (s := s) n
    omega
theorem hh_r (n : Nat) (s : Nat → Int) (hn : n ≤ 60) (x : Int) : -1 ≤ hh n s x ∧ hh n s x < 60 := by
  by_cases h : hh n s x = -1
  · omega
  · obtain ⟨k, h1, h2, h3, h4⟩ := hh_ex h
    have := cn_le (n := n) (s := s) n
    omega
/-! the class -/
theorem c_bg {g : cb_S} {n : Nat} {s : Nat → Int} (h : clu g n s n) (hn : n ≤ 60) {x : Int} (hx : cb_i x) : v_X1_beginningAt g x = some (bg n s x) := by
  unfold v_X1_beginningAt
  rw [v_val (by decide) hx, Option.bind_some]
  refine congrArg some ?_
  unfold bg
  by_cases h0 : 0 ≤ x ∧ x < ((61 : Nat) : Int)
  · rw [if_pos h0, h.2.2.2.2.1 x.toNat (by omega)]
    by_cases hb : x.toNat < n ∧ bd n s x.toNat = true
    · rw [if_pos hb, if_pos ⟨by omega, by omega, hb.2⟩]
    · rw [if_neg hb, if_neg (fun z => hb ⟨by omega, z.2.2⟩)]
  · rw [if_neg h0, if_neg (by omega)]
theorem c_en {g : cb_S} {n : Nat} {s : Nat → Int} (h : clu g n s n) (hn : n ≤ 60) {x : Int} (hx : cb_i x) : v_X1_endingAt g x = some (en n s x) := by
  unfold v_X1_endingAt
  rw [v_val (by decide) hx, Option.bind_some]
  refine congrArg some ?_
  unfold en
  by_cases h0 : 0 ≤ x ∧ x < ((61 : Nat) : Int)
  · rw [if_pos h0, h.2.2.2.2.2.1 x.toNat (by omega)]
    by_cases hb : 0 < x.toNat ∧ x.toNat ≤ n ∧ bd n s x.toNat = true
    · rw [if_pos hb, if_pos ⟨by omega, by omega, hb.2.2⟩]
    · rw [if_neg hb, if_neg (fun z => hb ⟨by omega, by omega, z.2.2⟩)]
  · rw [if_neg h0, if_neg (by omega)]
theorem c_hh {g : cb_S} {n : Nat} {s : Nat → Int} (h : clu g n s n) (hn : n ≤ 60) {x : Int} (hx : cb_i x) : v_X1_joinedAround g x = some (hh n s x) := by
  unfold v_X1_joinedAround
  rw [v_val (by decide) hx, Option.bind_some]
  refine congrArg some ?_
  unfold hh
  by_cases h0 : 0 ≤ x ∧ x < ((61 : Nat) : Int)
  · rw [if_pos h0, h.2.2.2.2.2.2 x.toNat (by omega)]
    by_cases hb : (2 ≤ x.toNat ∧ x.toNat - 2 < n) ∧ bd n s (x.toNat - 2) = true ∧ jn n s (x.toNat - 1) = true
    · have := ((jn_iff n s (x.toNat - 1)).mp hb.2.2).2.2.1
      rw [if_pos hb, if_pos ⟨by omega, by omega, hb.2.1, hb.2.2⟩]
    · rw [if_neg hb, if_neg (fun z => hb ⟨⟨by omega, by omega⟩, z.2.2.1, z.2.2.2⟩)]
  · rw [if_neg h0, if_neg (by omega)]
theorem c_bgv {g : cb_S} {n : Nat} {s : Nat → Int} (h : clu g n s n) (hn : n ≤ 60) {x : Int} (hx : cb_i x) : v_X8_valueAt g 13 61 x (-1) = some (bg n s x) := by
  have e := c_bg h hn hx
  unfold v_X1_beginningAt at e
  rw [v_val (by decide) hx, Option.bind_some] at e
  rw [v_val (by decide) hx, e]
theorem c_hhv {g : cb_S} {n : Nat} {s : Nat → Int} (h : clu g n s n) (hn : n ≤ 60) {x : Int} (hx : cb_i x) : v_X8_valueAt g 15 61 x (-1) = some (hh n s x) := by
  have e := c_hh h hn hx
  unfold v_X1_joinedAround at e
  rw [v_val (by decide) hx, Option.bind_some] at e
  rw [v_val (by decide) hx, e]
/-- the cluster that is joined around a stand, or the one that ends there -/
theorem c_aA {g : cb_S} {n : Nat} {s : Nat → Int} (h : clu g n s n) (hn : n ≤ 60) {x : Int} (hx : cb_i x) : v_X1_aroundOrAheadOf g x = some (if hh n s x = -1 then en n s x else hh n s x) := by
  unfold v_X1_aroundOrAheadOf
  have hr := hh_r n s hn x
  rw [c_hh h hn hx, Option.bind_some, c_en h hn hx, Option.bind_some, cb_id (x := hh n s x) (by omega) (by omega)]
  split <;> rfl
/-- the cluster that is joined around a stand, or the one that begins there -/
theorem c_aB {g : cb_S} {n : Nat} {s : Nat → Int} (h : clu g n s n) (hn : n ≤ 60) {x : Int} (hx : cb_i x) : v_X1_aroundOrBehind g x = some (if hh n s x = -1 then bg n s x else hh n s x) := by
  unfold v_X1_aroundOrBehind
  have hr := hh_r n s hn x
  rw [c_hh h hn hx, Option.bind_some, c_bg h hn hx, Option.bind_some, cb_id (x := hh n s x) (by omega) (by omega)]
  split <;> rfl
theorem c_isB {g : cb_S} {n : Nat} {s : Nat → Int} (h : clu g n s n) (h9 : g 2 9 = (n : Int)) (hn : n ≤ 60) {x : Int} (hx : cb_i x) : v_X1_isBetween g x = some (bI (isB n s x)) := by
  unfold v_X1_isBetween
  rw [h9, cb_wn (n := n) (by omega), cb_id hx.1 hx.2, c_bgv h hn hx, Option.bind_some]
  by_cases e : x = (n : Int)
  · rw [if_pos e, e, isB_n]
    rfl
  · have hr := bg_r n s hn x
    rw [if_neg e, isB_bg e, cb_id (x := bg n s x) (by omega) (by omega)]
    by_cases z : bg n s x = -1
    · rw [if_pos z, decide_eq_false (fun y => y z)]
      rfl
    · rw [if_neg z, decide_eq_true z]
      rfl
theorem c_isS {g : cb_S} {n : Nat} {s : Nat → Int} (h : clu g n s n) (h9 : g 2 9 = (n : Int)) (hn : n ≤ 60) {x : Int} (hx : cb_i x) : v_X1_isStand g x = some (bI (isS n s x)) := by
  unfold v_X1_isStand isS
  have hr := hh_r n s hn x
  rw [c_isB h h9 hn hx, Option.bind_some, c_hhv h hn hx, Option.bind_some, cb_id (x := hh n s x) (by omega) (by omega)]
  cases isB n s x with
  | true => rw [bI_t, if_neg (by decide)]; rfl
  | false =>
    rw [bI_f, if_pos (by decide)]
    by_cases z : hh n s x = -1
    · rw [if_pos z, decide_eq_false (fun y => y z)]
      rfl
    · rw [if_neg z, decide_eq_true z]
      rfl
/-! the model -/
theorem m_bg1 {g : cb_S} {n : Nat} {s : Nat → Int} (h : mcs g n s) (hn : n ≤ 60) {x : Int} (hx : cb_i x) : ∀ (m k : Nat), k ≤ cn n s n → cn n s n < k + m → (∀ j, j < k → (fs n s j : Int) ≠ x) → v_X9_beginsAt_b2 m x (k : Int) g = some (bg n s x) := by
  have hcn := cn_le (n := n) (s := s) n
  intro m
  induction m with
  | zero => intro k h1 h2; omega
  | succ m ih =>
    intro k h1 h2 hj
    rw [v_X9_beginsAt_b2]
    dsimp only
    rw [h.1, cb_wn (n := cn n s n) (by omega), cb_wn (n := k) (by omega), cb_id hx.1 hx.2]
    by_cases hend : cn n s n ≤ k
    · rw [if_pos (by omega)]
      by_cases z : bg n s x = -1
      · rw [z]
      · obtain ⟨q, q1, q2, q3⟩ := bg_ex z
        exact absurd q2.symm (hj q (by omega))
    · have hf := fs_ok (n := n) (s := s) (k := k) (by omega)
      rw [if_neg (by omega), if_pos (by omega), Int.toNat_natCast, (h.2 k (by omega)).1, cb_wn (n := fs n s k) (by omega)]
      by_cases e : (fs n s k : Int) = x
      · rw [if_pos e, ← e, bg_fs (by omega)]
      · rw [if_neg e, show (k : Int) + 1 = ((k + 1 : Nat) : Int) by omega]
        refine ih (k + 1) (by omega) (by omega) (fun j hj9 => ?_)
        by_cases ej : j = k
        · rw [ej]; exact e
        · exact hj j (by omega)
theorem m_bg {g : cb_S} {n : Nat} {s : Nat → Int} (h : mcs g n s) (hn : n ≤ 60) {x : Int} (hx : cb_i x) : v_X9_beginsAt g x = some (bg n s x) :=
  m_bg1 h hn hx cb_N 0 (Nat.zero_le _) (by have := cn_le (n := n) (s := s) n; unfold cb_N; omega) (fun j hj => by omega)
theorem m_en1 {g : cb_S} {n : Nat} {s : Nat → Int} (h : mcs g n s) (hn : n ≤ 60) {x : Int} (hx : cb_i x) : ∀ (m k : Nat), k ≤ cn n s n → cn n s n < k + m → (∀ j, j < k → (es n s j : Int) ≠ x) → v_X9_endsAt_b2 m x (k : Int) g = some (en n s x) := by
  have hcn := cn_le (n := n) (s := s) n
  intro m
  induction m with
  | zero => intro k h1 h2; omega
  | succ m ih =>
    intro k h1 h2 hj
    rw [v_X9_endsAt_b2]
    dsimp only
    rw [h.1, cb_wn (n := cn n s n) (by omega), cb_wn (n := k) (by omega), cb_id hx.1 hx.2]
    by_cases hend : cn n s n ≤ k
    · rw [if_pos (by omega)]
      by_cases z : en n s x = -1
      · rw [z]
      · obtain ⟨q, q1, q2, q3⟩ := en_ex z
        exact absurd q2.symm (hj q (by omega))
    · have hf := es_ok (n := n) (s := s) (k := k) (by omega)
      have hk := h.2 k (by omega)
      rw [if_neg (by omega), if_pos (by omega), if_pos (by omega), Int.toNat_natCast, hk.1, hk.2.1, show (fs n s k : Int) + ((es n s k : Int) - (fs n s k : Int)) = (es n s k : Int) by omega, cb_wn (n := es n s k) (by omega)]
      by_cases e : (es n s k : Int) = x
      · rw [if_pos e, ← e, en_es (by omega)]
      · rw [if_neg e, show (k : Int) + 1 = ((k + 1 : Nat) : Int) by omega]
        refine ih (k + 1) (by omega) (by omega) (fun j hj9 => ?_)
        by_cases ej : j = k
        · rw [ej]; exact e
        · exact hj j (by omega)
theorem m_en {g : cb_S} {n : Nat} {s : Nat → Int} (h : mcs g n s) (hn : n ≤ 60) {x : Int} (hx : cb_i x) : v_X9_endsAt g x = some (en n s x) :=
  m_en1 h hn hx cb_N 0 (Nat.zero_le _) (by have := cn_le (n := n) (s := s) n; unfold cb_N; omega) (fun j hj => by omega)
theorem m_hh1 {g : cb_S} {n : Nat} {s : Nat → Int} (h : mcs g n s) (hn : n ≤ 60) {x : Int} (hx : cb_i x) : ∀ (m k : Nat), k ≤ cn n s n → cn n s n < k + m → (∀ j, j < k → jn n s (fs n s j + 1) = true → (fs n s j : Int) + 2 ≠ x) → v_X9_holds_b2 m x (k : Int) g = some (hh n s x) := by
  have hcn := cn_le (n := n) (s := s) n
  intro m
  induction m with
  | zero => intro k h1 h2; omega
  | succ m ih =>
    intro k h1 h2 hj
    rw [v_X9_holds_b2]
    dsimp only
    unfold v_X9_holds_b33
    rw [h.1, cb_wn (n := cn n s n) (by omega), cb_wn (n := k) (by omega), cb_id hx.1 hx.2]
    by_cases hend : cn n s n ≤ k
    · rw [if_pos (by omega)]
      by_cases z : hh n s x = -1
      · rw [z]
      · obtain ⟨q, q1, q2, q3, q4, q5⟩ := hh_ex z
        exact absurd q2.symm (hj q (by omega) q4)
    · have hf := fs_ok (n := n) (s := s) (k := k) (by omega)
      have hk := h.2 k (by omega)
      have go : (jn n s (fs n s k + 1) = true → (fs n s k : Int) + 2 ≠ x) → v_X9_holds_b2 m x ((k : Int) + 1) g = some (hh n s x) := by
        intro e
        rw [show (k : Int) + 1 = ((k + 1 : Nat) : Int) by omega]
        refine ih (k + 1) (by omega) (by omega) (fun j hj9 => ?_)
        by_cases ej : j = k
        · rw [ej]; exact e
        · exact hj j (by omega)
      rw [if_neg (by omega), if_pos (by omega), Int.toNat_natCast, hk.1, hk.2.2, cb_id (x := (fs n s k : Int) + 2) (by omega) (by omega)]
      cases hq : jn n s (fs n s k + 1) with
      | false =>
        rw [bI_f, if_pos (by decide)]
        exact go (fun z => by rw [hq] at z; cases z)
      | true =>
        rw [bI_t, if_neg (by decide), if_pos (by omega)]
        by_cases e : (fs n s k : Int) + 2 = x
        · rw [if_pos e, ← e, (hh_fs (by omega) hq).1]
        · rw [if_neg e]
          exact go (fun _ => e)
theorem m_hh {g : cb_S} {n : Nat} {s : Nat → Int} (h : mcs g n s) (hn : n ≤ 60) {x : Int} (hx : cb_i x) : v_X9_holds g x = some (hh n s x) :=
  m_hh1 h hn hx cb_N 0 (Nat.zero_le _) (by have := cn_le (n := n) (s := s) n; unfold cb_N; omega) (fun j hj => by omega)
theorem m_isB {g : cb_S} {n : Nat} {s : Nat → Int} (h : mcs g n s) (h1 : g 0 1 = (n : Int)) (hn : n ≤ 60) {x : Int} (hx : cb_i x) : v_X9_isBetween g x = some (bI (isB n s x)) := by
  unfold v_X9_isBetween
  rw [h1, cb_wn (n := n) (by omega), cb_id hx.1 hx.2, m_bg h hn hx, Option.bind_some]
  by_cases e0 : x = 0
  · rw [if_pos e0, e0, isB_0]
    rfl
  · rw [if_neg e0]
    by_cases e : x = (n : Int)
    · rw [if_pos e, e, isB_n]
      rfl
    · have hr := bg_r n s hn x
      rw [if_neg e]
      by_cases e2 : x ≤ 0
      · rw [if_pos e2]
        have : isB n s x = false := by
          unfold isB
          exact decide_eq_false (by omega)
        rw [this]
        rfl
      · rw [if_neg e2]
        by_cases e3 : (n : Int) ≤ x
        · rw [if_pos e3]
          have : isB n s x = false := by
            unfold isB
            exact decide_eq_false (by omega)
          rw [this]
          rfl
        · rw [if_neg e3, isB_bg e, cb_id (x := bg n s x) (by omega) (by omega)]
          by_cases z : bg n s x = -1
          · rw [if_pos z, decide_eq_false (fun y => y z)]
            rfl
          · rw [if_neg z, decide_eq_true z]
            rfl
theorem m_isS {g : cb_S} {n : Nat} {s : Nat → Int} (h : mcs g n s) (h1 : g 0 1 = (n : Int)) (hn : n ≤ 60) {x : Int} (hx : cb_i x) : v_X9_isStand g x = some (bI (isS n s x)) := by
  unfold v_X9_isStand
  have hr := hh_r n s hn x
  have hS : isS n s x = (isB n s x || decide (hh n s x ≠ -1)) := rfl
  rw [m_isB h h1 hn hx, Option.bind_some, m_hh h hn hx, Option.bind_some, h1, cb_wn (n := n) (by omega), cb_id hx.1 hx.2, cb_id (x := hh n s x) (by omega) (by omega), hS]
  cases isB n s x with
  | true => rw [bI_t, if_neg (by decide)]; rfl
  | false =>
    have no : (x ≤ 0 ∨ (n : Int) ≤ x) → hh n s x = -1 := fun z => by
      unfold hh
      rw [if_neg (by omega)]
    rw [bI_f, if_pos (by decide)]
    by_cases e2 : x ≤ 0
    · rw [if_pos e2, decide_eq_false (fun y => y (no (Or.inl e2)))]
      rfl
    · rw [if_neg e2]
      by_cases e3 : (n : Int) ≤ x
      · rw [if_pos e3, decide_eq_false (fun y => y (no (Or.inr e3)))]
        rfl
      · rw [if_neg e3]
        by_cases z : hh n s x = -1
        · rw [if_pos z, decide_eq_false (fun y => y z)]
          rfl
        · rw [if_neg z, decide_eq_true z]
          rfl
