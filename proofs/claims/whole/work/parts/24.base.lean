theorem zb_0 : (narrow .boolean (.int (0:Int32)) = .int (0:Int32)) = True := eq_true rfl
theorem zb_1 : (narrow .boolean (.int (1:Int32)) = .int (1:Int32)) = True := eq_true rfl
theorem zf_0 : (fits .boolean (.int (0:Int32)) = true) = True := eq_true rfl
theorem zf_1 : (fits .boolean (.int (1:Int32)) = true) = True := eq_true rfl
theorem zn_0 : vp_nar .boolean (0:Int32) = 0 := rfl
theorem zn_1 : vp_nar .boolean (1:Int32) = 1 := rfl
theorem su_k (g : st_I) (k i : Nat) (x : Int32) (j : Nat) : st_u g k i x k j = if j = i then x else g k j := by simp [st_u, upd]
theorem su_o (g : st_I) (k i : Nat) (x : Int32) (a : Nat) (h : a ≠ k) : st_u g k i x a = g a := by simp [st_u, h]
theorem sv_k (g : st_L) (k i : Nat) (x : Int64) (j : Nat) : st_v g k i x k j = if j = i then x else g k j := by simp [st_v, vp_updL]
theorem sv_o (g : st_L) (k i : Nat) (x : Int64) (a : Nat) (h : a ≠ k) : st_v g k i x a = g a := by simp [st_v, h]
theorem zl_0 : (0 : Int32) = nI 0 := rfl
theorem zl_1 : (1 : Int32) = nI 1 := rfl
theorem zl_2 : (2 : Int32) = nI 2 := rfl
theorem zl_3 : (3 : Int32) = nI 3 := rfl
theorem zl_4 : (4 : Int32) = nI 4 := rfl
theorem zl_5 : (5 : Int32) = nI 5 := rfl
theorem zl_6 : (6 : Int32) = nI 6 := rfl
theorem zl_9 : (9 : Int32) = nI 9 := rfl
theorem zl_12 : (12 : Int32) = nI 12 := rfl
theorem zl_40 : (40 : Int32) = nI 40 := rfl
theorem zl_60 : (60 : Int32) = nI 60 := rfl
theorem zl_90 : (90 : Int32) = nI 90 := rfl
theorem zl_200 : (200 : Int32) = nI 200 := rfl
def isx (n : Nat) (a : Int32) : Prop := ∃ j, j < n ∧ a = nI j
theorem isx_iff {n : Nat} (hn : n < 2 ^ 31) (a : Int32) : isx n a ↔ ¬ a < 0 ∧ ¬ nI n ≤ a := by
  constructor
  · rintro ⟨j, hj, rfl⟩
    exact ⟨nI_pos (by omega), nI_ge hj hn⟩
  · rintro ⟨h1, h2⟩
    rcases pk_ix a hn with h | h | ⟨j, hj, h⟩
    · exact absurd h h1
    · exact absurd h h2
    · exact ⟨j, hj, h⟩
theorem ex_isF (a : Int32) (g : st_I) (q : st_L) (Q : Int32 → st_S → Prop) : wp_S_isFunction a g q Q ↔ (isx 6 a → Q 1 (g, q)) ∧ (¬ isx 6 a → Q 0 (g, q)) := by
  have h := isx_iff (n := 6) (by omega) a
  simp only [wp_S_isFunction, wp_S_isFunction_L14, wp_S_isFunction_L15, zb_0, zb_1, true_and, zl_6, h]
  by_cases h1 : a < 0 <;> by_cases h2 : nI 6 ≤ a <;> simp [h1, h2]
theorem ex_isE {n : Nat} (hn : n < 2 ^ 31) (a : Int32) (g : st_I) (q : st_L) (hg : g 1 8 = nI n) (Q : Int32 → st_S → Prop) : wp_P_isExpression a g q Q ↔ (isx n a → Q 1 (g, q)) ∧ (¬ isx n a → Q 0 (g, q)) := by
  have h := isx_iff hn a
  simp only [wp_P_isExpression, wp_P_isExpression_L16, wp_P_isExpression_L17, zb_0, zb_1, true_and, hg, h]
  by_cases h1 : a < 0 <;> by_cases h2 : nI n ≤ a <;> simp [h1, h2]
theorem ex_chF (a : Int32) (g : st_I) (q : st_L) (Q : st_S → Prop) (QX : String → st_S → Prop) : wp_S_checkFunction a g q Q QX ↔ (isx 6 a → Q (g, q)) ∧ (¬ isx 6 a → QX "java/lang/IllegalArgumentException" (g, q)) := by
  simp only [wp_S_checkFunction, ex_isF]
  by_cases h : isx 6 a <;> simp [h]
theorem ex_chE {n : Nat} (hn : n < 2 ^ 31) (a : Int32) (g : st_I) (q : st_L) (hg : g 1 8 = nI n) (Q : st_S → Prop) (QX : String → st_S → Prop) : wp_S_checkExpression a g q Q QX ↔ (isx n a → Q (g, q)) ∧ (¬ isx n a → QX "java/lang/IllegalArgumentException" (g, q)) := by
  simp only [wp_S_checkExpression, ex_isE hn a g q hg]
  by_cases h : isx n a <;> simp [h]
theorem ex_pms (a : Int32) (g : st_I) (q : st_L) (Q : Int32 → st_S → Prop) : wp_S_parametersOf a g q Q ↔ (3 ≤ a → Q 2 (g, q)) ∧ (¬ 3 ≤ a → Q 1 (g, q)) := by
  simp only [wp_S_parametersOf, wp_S_parametersOf_L10]
theorem rx_out (a : Int32) (m : Nat) (hm : m + 1 < 2 ^ 31) (r : st_I) (Q : Int32 → st_I → Prop) : wp_M_outside a (nI m) r Q ↔ (isx (m + 1) a → Q 0 r) ∧ (¬ isx (m + 1) a → Q 1 r) := by
  have h := isx_iff (n := m + 1) hm a
  simp only [wp_M_outside, wp_M_outside_L9, wp_M_outside_L14, zb_0, zb_1, true_and]
  rcases pk_ix a hm with h1 | h1 | ⟨j, hj, h1⟩
  · have h3 : ¬ isx (m + 1) a := fun z => (h.mp z).1 h1
    simp [h1, h3]
  · have h3 : ¬ isx (m + 1) a := fun z => (h.mp z).2 h1
    have h4 : ¬ a ≤ nI m := by
      intro z
      have := Int32.le_trans h1 z
      exact nI_ge (Nat.lt_succ_self m) hm this
    have h5 : ¬ a < 0 := by
      intro z
      have z1 := Int32.lt_iff_toInt_lt.mp z
      have z2 := Int32.le_iff_toInt_le.mp h1
      rw [nI_toInt hm] at z2
      simp at z1
      omega
    simp [h3, h4, h5]
  · have h3 : isx (m + 1) a := ⟨j, hj, h1⟩
    subst h1
    have h4 : nI j ≤ nI m := nI_le (by omega) (by omega)
    simp [h3, h4, nI_pos (show j < 2 ^ 31 by omega)]
theorem rx_pms (a : Int32) (r : st_I) (Q : Int32 → st_I → Prop) : wp_M_parameters a r Q ↔ (3 ≤ a → Q 2 r) ∧ (¬ 3 ≤ a → Q 1 r) := by
  simp only [wp_M_parameters, wp_M_parameters_L10]
theorem rx_isP {n : Nat} (hn : n < 2 ^ 31) (a : Int32) (r : st_I) (hr : r 20 0 = nI n) (Q : Int32 → st_I → Prop) : wp_M_isPart a r Q ↔ (isx n a → Q 1 r) ∧ (¬ isx n a → Q 0 r) := by
  have h := isx_iff hn a
  simp only [wp_M_isPart, wp_M_isPart_L16, wp_M_isPart_L17, zb_0, zb_1, true_and, hr, h]
  by_cases h1 : a < 0 <;> by_cases h2 : nI n ≤ a <;> simp [h1, h2]
