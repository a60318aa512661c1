def ko (v : Int64) : Int32 := (v >>> (((32 : Int32)).toInt64 &&& 63)).toInt32
def vl (k d : Int32) : Int64 := (k.toInt64 <<< (((32 : Int32)).toInt64 &&& 63)) ||| (d.toInt64 &&& (4294967295 : Int64))
theorem bl_ext {x y : Int64} (h : ∀ i, i < 64 → bl x i = bl y i) : x = y := Int64.toBitVec_inj.mp (BitVec.eq_of_getLsbD_eq (fun i hi => h i hi))
theorem b_lo : ∀ i, i < 64 → (4294967295 : Int64).toBitVec.getLsbD i = decide (i < 32) := by decide +kernel
theorem s32 : ((((32 : Int32)).toInt64 &&& 63).toBitVec.smod 64).toNat = 32 := by decide +kernel
theorem bl_64 (x : Int32) (i : Nat) (hi : i < 64) : bl x.toInt64 i = if i < 32 then bt x i else bt x 31 := by
  unfold bl bt
  rw [Int32.toBitVec_toInt64, BitVec.getLsbD_signExtend, BitVec.msb_eq_getLsbD_last]
  simp [hi]
theorem vl_b (k d : Int32) (i : Nat) (hi : i < 64) : bl (vl k d) i = if i < 32 then bt d i else bt k (i - 32) := by
  unfold vl
  show ((k.toInt64 <<< (((32 : Int32)).toInt64 &&& 63)) ||| (d.toInt64 &&& (4294967295 : Int64))).toBitVec.getLsbD i = _
  rw [Int64.toBitVec_or, Int64.toBitVec_and, Int64.toBitVec_shiftLeft, BitVec.getLsbD_or, BitVec.getLsbD_and, b_lo i hi]
  have e : (k.toInt64.toBitVec <<< ((((32 : Int32)).toInt64 &&& 63).toBitVec.smod 64)).getLsbD i = (k.toInt64.toBitVec <<< ((((32 : Int32)).toInt64 &&& 63).toBitVec.smod 64).toNat).getLsbD i := rfl
  rw [e, s32, BitVec.getLsbD_shiftLeft]
  have hd := bl_64 d i hi
  unfold bl at hd
  by_cases h : i < 32
  · rw [hd]; simp [h]
  · have hk := bl_64 k (i - 32) (by omega)
    unfold bl at hk
    rw [hk]
    have : i - 32 < 32 := by omega
    simp [h, this, hi]
theorem ko_b (v : Int64) (i : Nat) (hi : i < 32) : bt (ko v) i = bl v (32 + i) := by
  unfold ko bt bl
  rw [Int64.toBitVec_toInt32, Int64.toBitVec_shiftRight, BitVec.getLsbD_signExtend]
  show (decide (i < 32) && if i < 64 then (v.toBitVec.sshiftRight ((((32 : Int32)).toInt64 &&& 63).toBitVec.smod 64).toNat).getLsbD i else _) = _
  rw [s32, BitVec.getLsbD_sshiftRight]
  simp [hi, show i < 64 by omega, show 32 + i < 64 by omega]
theorem ko_vl (k d : Int32) : ko (vl k d) = k := by
  apply b_ext
  intro i hi
  rw [ko_b _ i hi, vl_b _ _ _ (by omega), if_neg (by omega), Nat.add_sub_cancel_left]
theorem dt_vl (k d : Int32) : (vl k d).toInt32 = d := by
  apply b_ext
  intro i hi
  have h := vl_b k d i (by omega)
  unfold bl at h
  unfold bt
  rw [Int64.toBitVec_toInt32, BitVec.getLsbD_signExtend, h]
  simp [hi, show i < 64 by omega]
  rfl
theorem vl_inj {k d k' d' : Int32} (h : vl k d = vl k' d') : k = k' ∧ d = d' := by
  have h1 := congrArg ko h
  have h2 := congrArg Int64.toInt32 h
  rw [ko_vl, ko_vl] at h1
  rw [dt_vl, dt_vl] at h2
  exact ⟨h1, h2⟩
theorem vl_nn (k : Nat) (hk : k < 9) (d : Int32) : (0 : Int64) ≤ vl (nI k) d := by
  have hb := vl_b (nI k) d 63 (by omega)
  have h31 : ∀ k, k < 9 → bt (nI k) 31 = false := by decide +kernel
  have e : bl (vl (nI k) d) 63 = false := by rw [hb]; simp [h31 k hk]
  rw [Int64.le_iff_toInt_le]
  have hm : (vl (nI k) d).toBitVec.msb = false := by
    rw [BitVec.msb_eq_getLsbD_last]; exact e
  rw [BitVec.msb_eq_toInt] at hm
  have : ¬ (vl (nI k) d).toBitVec.toInt < 0 := by simpa using hm
  show (0 : Int64).toInt ≤ (vl (nI k) d).toBitVec.toInt
  have z : (0 : Int64).toInt = 0 := rfl
  omega
theorem vl_ge (k : Nat) (hk : k < 9) (d : Int32) : 0 ≤ lg_cmp (vl (nI k) d) 0 := (lg_cmp_ge _ _).mpr (vl_nn k hk d)
theorem vl_ne (k : Nat) (hk : k < 9) (d : Int32) (m : Int64) (hm : m < 0) : ¬ vl (nI k) d = m := by
  intro z
  have := vl_nn k hk d
  rw [z] at this
  exact absurd hm (Int64.not_lt.mpr this)
theorem m_ge1 : ¬ 0 ≤ lg_cmp (-1 : Int64) 0 := by decide
theorem m_ge2 : ¬ 0 ≤ lg_cmp (-2 : Int64) 0 := by decide
theorem lg_e (x y : Int64) : (lg_cmp x y = 0) ↔ x = y := lg_cmp_eq x y
def rk (x : Int64) : Nat := if ko x = 8 then x.toInt32.toNatClampNeg + 1 else 0
theorem rk_p (p : Nat) (hp : p < 100) : rk (vl 8 (nI p)) = p + 1 := by
  unfold rk
  rw [ko_vl, dt_vl, if_pos rfl, nI_clamp (by omega)]
theorem rk_n (k : Nat) (hk : k < 8) (d : Int32) : rk (vl (nI k) d) = 0 := by
  unfold rk
  rw [ko_vl, if_neg]
  intro z
  have := (nI_eq (a := k) (b := 8) (by omega) (by omega)).mp z
  omega
theorem ex_value (k d : Int32) (g : st_I) (q : st_L) (Q : Int64 → st_S → Prop) : wp_H_value k d g q Q = Q (vl k d) (g, q) := rfl
theorem ex_kindOf (v : Int64) (g : st_I) (q : st_L) (Q : Int32 → st_S → Prop) : wp_H_kindOf v g q Q = Q (ko v) (g, q) := rfl
theorem ex_detailOf (v : Int64) (g : st_I) (q : st_L) (Q : Int32 → st_S → Prop) : wp_H_detailOf v g q Q = Q v.toInt32 (g, q) := rfl
theorem ex_number (x : Int32) (g : st_I) (q : st_L) (Q : Int64 → st_S → Prop) : wp_H_number x g q Q ↔ Q (vl (kn x) x) (g, q) := by
  unfold wp_H_number
  rw [ex_kon, ex_value]
theorem ex_isPair (v : Int64) (g : st_I) (q : st_L) (Q : Int32 → st_S → Prop) : wp_H_isPair v g q Q ↔ (ko v = 8 → Q 1 (g, q)) ∧ (¬ ko v = 8 → Q 0 (g, q)) := by
  simp only [wp_H_isPair, wp_H_isPair_L14, ex_kindOf, zb_0, zb_1, true_and]
  by_cases h : ko v = 8 <;> simp [h]
def isN (k : Int32) : Prop := ¬ k < 4 ∧ ¬ (6 : Int32) < k
theorem ex_isNum (v : Int64) (g : st_I) (q : st_L) (Q : Int32 → st_S → Prop) : wp_H_isNumber v g q Q ↔ (isN (ko v) → Q 1 (g, q)) ∧ (¬ isN (ko v) → Q 0 (g, q)) := by
  simp only [wp_H_isNumber, wp_H_isNumber_L21, wp_H_isNumber_L22, ex_kindOf, zb_0, zb_1, true_and, isN]
  by_cases h : ko v < 4 <;> by_cases h2 : (6 : Int32) < ko v <;> simp [h, h2]
theorem rx_isNum (k : Int32) (r : st_I) (Q : Int32 → st_I → Prop) : wp_M_isNumber k r Q ↔ (isN k → Q 1 r) ∧ (¬ isN k → Q 0 r) := by
  simp only [wp_M_isNumber, wp_M_isNumber_L15, wp_M_isNumber_L16, zb_0, zb_1, true_and, isN]
  by_cases h : k < 4 <;> by_cases h2 : (6 : Int32) < k <;> simp [h, h2]
