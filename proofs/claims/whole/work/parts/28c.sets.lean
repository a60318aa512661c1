def bl (s : Int64) (i : Nat) : Bool := s.toBitVec.getLsbD i
def so (s : Int64) (v : Int32) : Int32 := ((s.toUInt64 >>> ((v * (9 : Int32)).toInt64.toUInt64 &&& Int64.toUInt64 63)).toInt64).toInt32 &&& (511 : Int32)
def wt (s : Int64) (v x : Int32) : Int64 := (s &&& (((511 : Int64) <<< ((v * (9 : Int32)).toInt64 &&& 63)) ^^^ (-1 : Int64))) ||| (x.toInt64 <<< ((v * (9 : Int32)).toInt64 &&& 63))
theorem ss_l : ∀ v, v < 4 → (((nI v * (9 : Int32)).toInt64 &&& 63).toBitVec.smod 64).toNat = 9 * v := by decide +kernel
theorem ss_u : ∀ v, v < 4 → (((nI v * (9 : Int32)).toInt64.toUInt64 &&& Int64.toUInt64 63).toBitVec % 64).toNat = 9 * v := by decide +kernel
theorem so_b (s : Int64) (v : Nat) (hv : v < 4) (i : Nat) (hi : i < 32) : bt (so s (nI v)) i = (decide (i < 9) && bl s (9 * v + i)) := by
  unfold so
  rw [b_and, b_511 i hi]
  by_cases h9 : i < 9
  · simp only [h9, decide_true, Bool.and_true, Bool.true_and]
    unfold bt bl
    rw [Int64.toBitVec_toInt32]
    show (BitVec.signExtend 32 ((s.toUInt64 >>> ((nI v * (9 : Int32)).toInt64.toUInt64 &&& Int64.toUInt64 63)).toBitVec)).getLsbD i = _
    rw [UInt64.toBitVec_shiftRight]
    show (BitVec.signExtend 32 (s.toBitVec >>> ((((nI v * (9 : Int32)).toInt64.toUInt64 &&& Int64.toUInt64 63).toBitVec % 64).toNat))).getLsbD i = _
    rw [ss_u v hv, BitVec.getLsbD_signExtend, BitVec.getLsbD_ushiftRight]
    simp [hi, show i < 64 by omega]
  · simp [h9]
theorem so_m9 (s : Int64) (v : Int32) : m9 (so s v) := by
  unfold so m9
  apply b_ext
  intro i hi
  rw [b_and, b_and, Bool.and_assoc, Bool.and_self]
theorem b64 : ∀ i, i < 64 → (511 : Int64).toBitVec.getLsbD i = decide (i < 9) := by decide +kernel
theorem bm1 : ∀ i, i < 64 → (-1 : Int64).toBitVec.getLsbD i = true := by decide +kernel
theorem wt_b (s : Int64) (v : Nat) (hv : v < 4) (x : Int32) (hx : m9 x) (j : Nat) (hj : j < 64) : bl (wt s (nI v) x) j = if 9 * v ≤ j ∧ j < 9 * v + 9 then bt x (j - 9 * v) else bl s j := by
  have hx' := (m9_iff x).mp hx
  have hsx : ∀ i, i < 64 → x.toInt64.toBitVec.getLsbD i = (decide (i < 9) && bt x i) := by
    intro i hi
    rw [Int32.toBitVec_toInt64, BitVec.getLsbD_signExtend]
    show (decide (i < 64) && if i < 32 then bt x i else x.toBitVec.msb) = _
    rw [BitVec.msb_eq_getLsbD_last]
    have h31 : x.toBitVec.getLsbD (32 - 1) = false := hx' 31 (by omega) (by omega)
    rw [h31]
    by_cases h9 : i < 9
    · simp [hi, h9, show i < 32 by omega]
    · by_cases h32 : i < 32
      · simp [h32, h9, hx' i h32 (by omega)]
      · simp [h32, h9]
  have hsh : ∀ (y : Int64), (y <<< ((nI v * (9 : Int32)).toInt64 &&& 63)).toBitVec.getLsbD j = (decide (9 * v ≤ j) && y.toBitVec.getLsbD (j - 9 * v)) := by
    intro y
    rw [Int64.toBitVec_shiftLeft]
    show (y.toBitVec <<< ((((nI v * (9 : Int32)).toInt64 &&& 63).toBitVec.smod 64).toNat)).getLsbD j = _
    rw [ss_l v hv, BitVec.getLsbD_shiftLeft]
    by_cases h : 9 * v ≤ j
    · simp [hj, h, Nat.not_lt.mpr h]
    · simp [h, Nat.not_le.mp h]
  unfold wt bl
  rw [Int64.toBitVec_or, Int64.toBitVec_and, Int64.toBitVec_xor, BitVec.getLsbD_or, BitVec.getLsbD_and, BitVec.getLsbD_xor, hsh, hsh, bm1 j hj]
  by_cases h : 9 * v ≤ j
  · rw [b64 _ (by omega), hsx _ (by omega)]
    by_cases h9 : j < 9 * v + 9
    · have : j - 9 * v < 9 := by omega
      simp [h, h9, this]
    · have : ¬ j - 9 * v < 9 := by omega
      simp [h, h9, this]
  · simp [h]
theorem so_wt (s : Int64) (v w : Nat) (hv : v < 4) (hw : w < 4) (x : Int32) (hx : m9 x) : so (wt s (nI v) x) (nI w) = if w = v then x else so s (nI w) := by
  have hx' := (m9_iff x).mp hx
  apply b_ext
  intro i hi
  rw [so_b _ w hw i hi]
  by_cases h9 : i < 9
  · rw [wt_b s v hv x hx _ (by omega)]
    by_cases hwv : w = v
    · subst hwv
      simp [h9, show 9 * w ≤ 9 * w + i by omega]
    · have : ¬ (9 * v ≤ 9 * w + i ∧ 9 * w + i < 9 * v + 9) := by omega
      simp only [this, if_false, hwv, h9, decide_true, Bool.true_and]
      rw [so_b s w hw i hi]
      simp [h9]
  · by_cases hwv : w = v
    · simp [h9, hwv, hx' i hi (by omega)]
    · simp only [hwv, if_false]
      rw [so_b s w hw i hi]
      simp [h9]
theorem so_0 (w : Nat) (hw : w < 4) : so 0 (nI w) = 0 := by
  apply b_ext
  intro i hi
  rw [so_b _ w hw i hi, b_0]
  unfold bl
  simp
theorem ex_with (s : Int64) (v x : Int32) (g : st_I) (q : st_L) (Q : Int64 → st_S → Prop) : wp_K_with s v x g q Q = Q (wt s v x) (g, q) := rfl
theorem ex_setOf (s : Int64) (v : Int32) (g : st_I) (q : st_L) (Q : Int32 → st_S → Prop) : wp_K_setOf s v g q Q = Q (so s v) (g, q) := rfl
theorem ex_has (x k : Int32) (g : st_I) (q : st_L) (Q : Int32 → st_S → Prop) : wp_K_has x k g q Q ↔ (hs x k = false → Q 0 (g, q)) ∧ (hs x k = true → Q 1 (g, q)) := by
  simp only [wp_K_has, wp_K_has_L13, zb_0, zb_1, true_and, hs]
  by_cases h : ((x >>> (k &&& 31)) &&& 1) = 0 <;> simp [h]
theorem ex_kon (x : Int32) (g : st_I) (q : st_L) (Q : Int32 → st_S → Prop) : wp_H_kindOfNumber x g q Q ↔ Q (kn x) (g, q) := by
  simp only [wp_H_kindOfNumber, wp_H_kindOfNumber_L16, kn]
  by_cases h : x = 0
  · simp [h]
  · by_cases h2 : 0 ≤ x <;> simp [h, h2]
def aA (f : Int32) : Int64 := if 3 ≤ f then wt (wt 0 0 511) 1 511 else wt 0 0 511
theorem ex_any (f : Int32) (g : st_I) (q : st_L) (Q : Int64 → st_S → Prop) : wp_K_anyArguments f g q Q ↔ Q (aA f) (g, q) := by
  simp only [wp_K_anyArguments, ex_with, ex_pms, wp_K_anyArguments_L29, aA]
  by_cases h : 3 ≤ f <;> simp [h]
theorem so_aA (f : Nat) (hf : f < 6) : ∀ v, v < 4 → so (aA (nI f)) (nI v) = va f v := by
  intro v hv
  have z511 := m9_c.2.2.2.2.1
  have e0 : ∀ w, w < 4 → so (wt 0 0 511) (nI w) = if w = 0 then 511 else 0 := by
    intro w hw
    have := so_wt 0 0 w (by omega) hw 511 z511
    rw [so_0 w hw] at this
    exact this
  unfold aA va
  have h3 : (3 ≤ nI f) ↔ 3 ≤ f := nI_leI (a := 3) (by omega) (by omega)
  by_cases h : 3 ≤ f
  · rw [if_pos (h3.mpr h)]
    have := so_wt (wt 0 0 511) 1 v (by omega) hv 511 z511
    rw [e0 v hv] at this
    refine this.trans ?_
    by_cases h1 : v = 1
    · simp [h1, h]
    · by_cases h0 : v = 0 <;> simp [h1, h0]
  · rw [if_neg (fun z => h (h3.mp z)), e0 v hv]
    by_cases h0 : v = 0 <;> simp [h0, h]
theorem ex_nko (s i j : Int32) (g : st_I) (q : st_L) (Q : Int32 → st_S → Prop) : wp_K_numberKindsOf s i j g q Q ↔ Q (if j = 5 then 1 <<< (i &&& 31) else if s = 4 then (if i = 5 then 1 <<< (j &&& 31) else 112) else 112) (g, q) := by
  simp only [wp_K_numberKindsOf, wp_K_numberKindsOf_L25, wp_K_numberKindsOf_L27]
  by_cases h1 : j = 5 <;> by_cases h2 : s = 4 <;> by_cases h3 : i = 5 <;> simp [h1, h2, h3]
theorem nk_in (Q : Int32 → st_S → Prop) (H5 : st_I → st_L → Int32 → Int32 → Int32 → Int32 → Int32 → Prop) (n : Nat) (g : st_I) (q : st_L) (s x y v3 i j : Int32) (hj : ¬ (6 : Int32) < j) (h : wp_K_numberKinds_L15 Q H5 n g q s x y (v3 ||| tm s x y i j) i (j + 1)) : wp_K_numberKinds_L15 Q H5 (n + 1) g q s x y v3 i j := by
  simp only [wp_K_numberKinds_L15, wp_K_numberKinds_L51, ex_has, ex_nko, hj, false_imp_iff, not_false_eq_true, true_imp_iff, true_and]
  unfold tm at h
  by_cases h1 : hs x i = true
  · by_cases h2 : hs y j = true
    · simp [h1, h2] at h ⊢; exact h
    · simp [h1, h2] at h ⊢; exact h
  · simp [h1] at h ⊢; exact h
theorem nk_out (Q : Int32 → st_S → Prop) (n : Nat) (g : st_I) (q : st_L) (s x y v3 i : Int32) (hi : ¬ (6 : Int32) < i) (h : wp_K_numberKinds_L5 Q n g q s x y (((v3 ||| tm s x y i 4) ||| tm s x y i 5) ||| tm s x y i 6) (i + 1)) : wp_K_numberKinds_L5 Q (n + 1) g q s x y v3 i := by
  simp only [wp_K_numberKinds_L5, hi, false_imp_iff, not_false_eq_true, true_imp_iff, true_and]
  refine ⟨4, nk_in _ _ 3 _ _ _ _ _ _ _ _ (by decide) (nk_in _ _ 2 _ _ _ _ _ _ _ _ (by decide) (nk_in _ _ 1 _ _ _ _ _ _ _ _ (by decide) ?_))⟩
  refine ⟨fun _ => h, fun z => absurd (by decide) z⟩
theorem ex_nk (s x y : Int32) (g : st_I) (q : st_L) (Q : Int32 → st_S → Prop) (h : Q (nk s x y) (g, q)) : wp_K_numberKinds s x y g q Q := by
  refine ⟨4, nk_out _ 3 _ _ _ _ _ _ _ (by decide) (nk_out _ 2 _ _ _ _ _ _ _ (by decide) (nk_out _ 1 _ _ _ _ _ _ _ (by decide) ?_))⟩
  refine ⟨fun _ => h, fun z => absurd (by decide) z⟩
