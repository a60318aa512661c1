def fit (t : Nat) (a b : Int32) : Prop := (t = 0 ∨ t = 1 → isx 4 a) ∧ (t = 9 → isx 512 b) ∧ (t = 10 → isx 6 a) ∧ (t = 11 → a = 2 ∨ a = 3)
def pp (t : Nat) (a : Int32) : Nat := if t = 10 then (if 3 ≤ a then 2 else 1) else ([0, 0, 0, 0, 2, 2, 2, 1, 1, 3, 0, 2, 2, 2, 0] : List Nat).getD t 0
theorem pp_3 (t : Nat) (ht : t < 15) (a : Int32) : pp t a ≤ 3 := by
  have : t = 0 ∨ t = 1 ∨ t = 2 ∨ t = 3 ∨ t = 4 ∨ t = 5 ∨ t = 6 ∨ t = 7 ∨ t = 8 ∨ t = 9 ∨ t = 10 ∨ t = 11 ∨ t = 12 ∨ t = 13 ∨ t = 14 := by omega
  rcases this with rfl | rfl | rfl | rfl | rfl | rfl | rfl | rfl | rfl | rfl | rfl | rfl | rfl | rfl | rfl <;> simp [pp]
  split <;> omega
theorem is23 (a : Int32) : (¬ a < 2 ∧ ¬ (4 : Int32) ≤ a) ↔ (a = 2 ∨ a = 3) := by
  constructor
  · rintro ⟨h1, h2⟩
    have h0 : ¬ a < 0 := by
      intro z
      exact h1 (Int32.lt_trans z (by decide))
    obtain ⟨j, hj, rfl⟩ := nI_of h0
    have a1 : ¬ j < 2 := fun z => h1 (nI_lt (b := 2) z (by omega))
    have a2 : ¬ 4 ≤ j := fun z => h2 (nI_le (a := 4) z hj)
    have : j = 2 ∨ j = 3 := by omega
    rcases this with rfl | rfl
    · exact Or.inl rfl
    · exact Or.inr rfl
  · rintro (rfl | rfl) <;> decide
theorem lt512 (b : Int32) : (511 : Int32) < b ↔ (512 : Int32) ≤ b := by
  rw [Int32.lt_iff_toInt_lt, Int32.le_iff_toInt_le]
  have e1 : (511 : Int32).toInt = 511 := by decide
  have e2 : (512 : Int32).toInt = 512 := by decide
  rw [e1, e2]; omega
theorem cd (t : Nat) (ht : t < 15) (a b c d : Int32) (g : st_I) (q : st_L) (Q : Int32 → st_S → Prop) : wp_P_draft (nI t) a b c d g q Q ↔ (fit t a b → wp_P_draft_L105 Q g q (nI t) d (if t = 9 then b else a) (nI (pp t a)) (if t = 10 ∨ t = 11 then b else a) (if t = 10 ∨ t = 11 ∨ t = 9 then c else b)) ∧ (¬ fit t a b → Q 0 (g, q)) := by
  have vt : vp_in (nI t) 15 := vp_in_nI ht (by omega)
  have i4 := isx_iff (n := 4) (by omega) a
  have i512 := isx_iff (n := 512) (by omega) b
  have i6 := isx_iff (n := 6) (by omega) a
  have i23 := is23 a
  have l512 := lt512 b
  have e4 : (4 : Int32) = nI 4 := rfl
  have : t = 0 ∨ t = 1 ∨ t = 2 ∨ t = 3 ∨ t = 4 ∨ t = 5 ∨ t = 6 ∨ t = 7 ∨ t = 8 ∨ t = 9 ∨ t = 10 ∨ t = 11 ∨ t = 12 ∨ t = 13 ∨ t = 14 := by omega
  rcases this with rfl | rfl | rfl | rfl | rfl | rfl | rfl | rfl | rfl | rfl | rfl | rfl | rfl | rfl | rfl
  · have k : nI 0 = 0 := rfl
    have kp : pt_P (0 : Int32).toNatClampNeg = nI 0 := rfl
    have kq : pt_P 0 = nI 0 := rfl
    rw [k] at vt
    simp only [k, wp_P_draft, wp_P_draft_L10, wp_P_draft_L23, wp_P_detailFits, wp_P_detailFits_L77, wp_P_detailFits_L78, wp_P_draft_L55, wp_P_draft_L74, wp_P_draft_L86, zb_0, zb_1, vt, kp, kq, true_and]
    simp only [fit, i4, pp]
    by_cases h1 : a < 0 <;> by_cases h2 : (4 : Int32) ≤ a <;> simp [h1, h2, ← e4, k]
  · have k : nI 1 = 1 := rfl
    have kp : pt_P (1 : Int32).toNatClampNeg = nI 0 := rfl
    have kq : pt_P 1 = nI 0 := rfl
    rw [k] at vt
    simp only [k, wp_P_draft, wp_P_draft_L10, wp_P_draft_L23, wp_P_detailFits, wp_P_detailFits_L92, wp_P_detailFits_L93, wp_P_draft_L55, wp_P_draft_L74, wp_P_draft_L86, zb_0, zb_1, vt, kp, kq, true_and]
    simp only [fit, i4, pp]
    by_cases h1 : a < 0 <;> by_cases h2 : (4 : Int32) ≤ a <;> simp [h1, h2, ← e4, k]
  · have k : nI 2 = 2 := rfl
    have kp : pt_P (2 : Int32).toNatClampNeg = nI 0 := rfl
    have kq : pt_P 2 = nI 0 := rfl
    rw [k] at vt
    simp [k, wp_P_draft, wp_P_draft_L10, wp_P_draft_L23, wp_P_detailFits, wp_P_detailFits_L132, wp_P_draft_L55, wp_P_draft_L74, wp_P_draft_L86, vt, kp, kq, fit, pp]
  · have k : nI 3 = 3 := rfl
    have kp : pt_P (3 : Int32).toNatClampNeg = nI 0 := rfl
    have kq : pt_P 3 = nI 0 := rfl
    rw [k] at vt
    simp [k, wp_P_draft, wp_P_draft_L10, wp_P_draft_L23, wp_P_detailFits, wp_P_detailFits_L132, wp_P_draft_L55, wp_P_draft_L74, wp_P_draft_L86, vt, kp, kq, fit, pp]
  · have k : nI 4 = 4 := rfl
    have kp : pt_P (4 : Int32).toNatClampNeg = nI 2 := rfl
    have kq : pt_P 4 = nI 2 := rfl
    rw [k] at vt
    simp [k, wp_P_draft, wp_P_draft_L10, wp_P_draft_L23, wp_P_detailFits, wp_P_detailFits_L132, wp_P_draft_L55, wp_P_draft_L74, wp_P_draft_L86, vt, kp, kq, fit, pp]
  · have k : nI 5 = 5 := rfl
    have kp : pt_P (5 : Int32).toNatClampNeg = nI 2 := rfl
    have kq : pt_P 5 = nI 2 := rfl
    rw [k] at vt
    simp [k, wp_P_draft, wp_P_draft_L10, wp_P_draft_L23, wp_P_detailFits, wp_P_detailFits_L132, wp_P_draft_L55, wp_P_draft_L74, wp_P_draft_L86, vt, kp, kq, fit, pp]
  · have k : nI 6 = 6 := rfl
    have kp : pt_P (6 : Int32).toNatClampNeg = nI 2 := rfl
    have kq : pt_P 6 = nI 2 := rfl
    rw [k] at vt
    simp [k, wp_P_draft, wp_P_draft_L10, wp_P_draft_L23, wp_P_detailFits, wp_P_detailFits_L132, wp_P_draft_L55, wp_P_draft_L74, wp_P_draft_L86, vt, kp, kq, fit, pp]
  · have k : nI 7 = 7 := rfl
    have kp : pt_P (7 : Int32).toNatClampNeg = nI 1 := rfl
    have kq : pt_P 7 = nI 1 := rfl
    rw [k] at vt
    simp [k, wp_P_draft, wp_P_draft_L10, wp_P_draft_L23, wp_P_detailFits, wp_P_detailFits_L132, wp_P_draft_L55, wp_P_draft_L74, wp_P_draft_L86, vt, kp, kq, fit, pp]
  · have k : nI 8 = 8 := rfl
    have kp : pt_P (8 : Int32).toNatClampNeg = nI 1 := rfl
    have kq : pt_P 8 = nI 1 := rfl
    rw [k] at vt
    simp [k, wp_P_draft, wp_P_draft_L10, wp_P_draft_L23, wp_P_detailFits, wp_P_detailFits_L132, wp_P_draft_L55, wp_P_draft_L74, wp_P_draft_L86, vt, kp, kq, fit, pp]
  · have k : nI 9 = 9 := rfl
    have k5 : nI 512 = 512 := rfl
    have kp : pt_P (9 : Int32).toNatClampNeg = nI 3 := rfl
    have kq : pt_P 9 = nI 3 := rfl
    rw [k] at vt
    simp only [k, wp_P_draft, wp_P_draft_L10, wp_P_draft_L23, wp_P_detailFits, wp_P_detailFits_L109, wp_P_detailFits_L110, wp_P_draft_L55, wp_P_draft_L74, wp_P_draft_L86, wp_P_draft_L99, zb_0, zb_1, vt, kp, kq, true_and, l512]
    simp only [fit, i512, k5, pp]
    by_cases h1 : b < 0 <;> by_cases h2 : (512 : Int32) ≤ b <;> simp [h1, h2, k]
  · have k : nI 10 = 10 := rfl
    rw [k] at vt
    simp only [k, wp_P_draft, wp_P_draft_L10, wp_P_draft_L23, wp_P_detailFits, ex_isF, ex_pms, wp_P_draft_L55, wp_P_draft_L69, wp_P_draft_L74, wp_P_draft_L86, wp_P_draft_L99, zb_0, zb_1, vt, true_and]
    simp only [fit, pp]
    have k1 : nI 1 = 1 := rfl
    have k2 : nI 2 = 2 := rfl
    by_cases h1 : isx 6 a
    · by_cases h2 : 3 ≤ a
      · simp [h1, h2, k, k2, Int32.not_lt.mpr h2, zb_1]
      · simp [h1, h2, k, k1, Int32.not_le.mp h2, zb_1]
    · simp [h1, zb_0, k]
  · have k : nI 11 = 11 := rfl
    have kp : pt_P (11 : Int32).toNatClampNeg = nI 2 := rfl
    have kq : pt_P 11 = nI 2 := rfl
    rw [k] at vt
    simp only [k, wp_P_draft, wp_P_draft_L10, wp_P_draft_L23, wp_P_detailFits, wp_P_detailFits_L130, wp_P_detailFits_L131, wp_P_draft_L55, wp_P_draft_L69, wp_P_draft_L74, wp_P_draft_L86, wp_P_draft_L99, zb_0, zb_1, vt, kp, kq, true_and]
    simp only [fit, ← i23, pp]
    by_cases h1 : a < 2 <;> by_cases h2 : (4 : Int32) ≤ a <;> simp [h1, h2, k]
  · have k : nI 12 = 12 := rfl
    have kp : pt_P (12 : Int32).toNatClampNeg = nI 2 := rfl
    have kq : pt_P 12 = nI 2 := rfl
    rw [k] at vt
    simp [k, wp_P_draft, wp_P_draft_L10, wp_P_draft_L23, wp_P_detailFits, wp_P_detailFits_L132, wp_P_draft_L55, wp_P_draft_L74, wp_P_draft_L86, vt, kp, kq, fit, pp]
  · have k : nI 13 = 13 := rfl
    have kp : pt_P (13 : Int32).toNatClampNeg = nI 2 := rfl
    have kq : pt_P 13 = nI 2 := rfl
    rw [k] at vt
    simp [k, wp_P_draft, wp_P_draft_L10, wp_P_draft_L23, wp_P_detailFits, wp_P_detailFits_L132, wp_P_draft_L55, wp_P_draft_L74, wp_P_draft_L86, vt, kp, kq, fit, pp]
  · have k : nI 14 = 14 := rfl
    have kp : pt_P (14 : Int32).toNatClampNeg = nI 0 := rfl
    have kq : pt_P 14 = nI 0 := rfl
    rw [k] at vt
    simp [k, wp_P_draft, wp_P_draft_L10, wp_P_draft_L23, wp_P_detailFits, wp_P_detailFits_L132, wp_P_draft_L55, wp_P_draft_L74, wp_P_draft_L86, vt, kp, kq, fit, pp]
