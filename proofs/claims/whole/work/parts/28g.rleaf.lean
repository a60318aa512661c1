theorem an1 (y : Int32) : y &&& 1 = 0 ∨ y &&& 1 = 1 := by
  cases h : bt y 0 with
  | false =>
    left
    apply b_ext
    intro i hi
    rw [b_and, b_1 i hi, b_0]
    by_cases h0 : i = 0
    · subst h0; simp [h]
    · simp [h0]
  | true =>
    right
    apply b_ext
    intro i hi
    rw [b_and, b_1 i hi]
    by_cases h0 : i = 0
    · subst h0; simp [h]
    · simp [h0]
theorem hs_1 (x k : Int32) : ((x >>> (k &&& 31)) &&& 1) = 1 ↔ hs x k = true := by
  unfold hs
  rcases an1 (x >>> (k &&& 31)) with h | h <;> simp [h]
theorem rx_parts_3 (s a : Int32) (h : s = 4 ∨ s = 5 ∨ s = 6 ∨ s = 12 ∨ s = 13) (r : st_I) (Q : Int32 → st_I → Prop) : wp_M_partsOf s a r Q ↔ Q 3 r := by
  rcases h with rfl | rfl | rfl | rfl | rfl <;> simp [wp_M_partsOf, wp_M_partsOf_L56]
theorem rx_parts_1 (s a : Int32) (h : s = 7 ∨ s = 8) (r : st_I) (Q : Int32 → st_I → Prop) : wp_M_partsOf s a r Q ↔ Q 1 r := by
  rcases h with rfl | rfl <;> simp [wp_M_partsOf, wp_M_partsOf_L58]
theorem rx_parts_9 (a : Int32) (r : st_I) (Q : Int32 → st_I → Prop) : wp_M_partsOf 9 a r Q ↔ Q 13 r := by simp [wp_M_partsOf]
theorem rx_parts_11 (a : Int32) (r : st_I) (Q : Int32 → st_I → Prop) : wp_M_partsOf 11 a r Q ↔ Q 6 r := by simp [wp_M_partsOf]
theorem rx_parts_10 (a : Int32) (r : st_I) (Q : Int32 → st_I → Prop) : wp_M_partsOf 10 a r Q ↔ Q (if 3 ≤ a then 6 else 2) r := by
  by_cases h : 3 ≤ a
  · simp [wp_M_partsOf, rx_pms, wp_M_partsOf_L77, h, Int32.not_lt.mpr h]
  · simp [wp_M_partsOf, rx_pms, wp_M_partsOf_L77, h, Int32.not_le.mp h]
theorem rx_parts_0 (s a : Int32) (h : s = 0 ∨ s = 1 ∨ s = 2 ∨ s = 3 ∨ s = 14) (r : st_I) (Q : Int32 → st_I → Prop) : wp_M_partsOf s a r Q ↔ Q 0 r := by
  rcases h with rfl | rfl | rfl | rfl | rfl <;> simp [wp_M_partsOf]
theorem rx_kind (x : Int32) (r : st_I) (Q : Int32 → st_I → Prop) : wp_M_kindOf x r Q ↔ Q (kn x) r := by
  simp only [wp_M_kindOf, wp_M_kindOf_L18, kn]
  by_cases h : x = 0
  · subst h; simp
  · by_cases h2 : 0 ≤ x <;> simp [h, h2]
theorem sm_in (Q : Int32 → st_I → Prop) (H5 : st_I → Int32 → Int32 → Int32 → Int32 → Int32 → Prop) (n : Nat) (r : st_I) (x y b s v3 i j : Int32) (hb : (¬ b = 0) ↔ s = 4) (hj : ¬ (7 : Int32) ≤ j) (h : wp_M_sums_L15 Q H5 n r x y b (v3 ||| tm s x y i j) i (j + 1)) : wp_M_sums_L15 Q H5 (n + 1) r x y b v3 i j := by
  simp only [wp_M_sums_L15, wp_M_sums_L46, wp_M_sums_L47, wp_M_sums_L79, wp_M_sums_L81, wp_M_sums_L95, hj, false_imp_iff, not_false_eq_true, true_imp_iff, true_and, hs_1]
  unfold tm at h
  by_cases h5 : j = 5
  · subst h5
    by_cases h1 : hs x i = true
    · by_cases h2 : hs y 5 = true <;> simp [h1, h2] at h ⊢ <;> exact h
    · simp [h1] at h ⊢; exact h
  · by_cases hb0 : b = 0
    · have h4 : ¬ s = 4 := fun z => (hb.mpr z) hb0
      by_cases h1 : hs x i = true
      · by_cases h2 : hs y j = true <;> simp [h1, h2, h5, hb0, h4] at h ⊢ <;> exact h
      · simp [h1, h5, hb0] at h ⊢; exact h
    · have h4 : s = 4 := hb.mp hb0
      by_cases hi : i = 5
      · by_cases h1 : hs x i = true
        · by_cases h2 : hs y j = true
          · simp only [h1, h2, h5, hb0, h4, hi, if_true, if_false, not_true, not_false_eq_true, false_imp_iff, true_imp_iff, true_and, and_true] at h ⊢; simp [hi ▸ h1] at h ⊢; exact h
          · simp only [h1, h2, h5, hb0, h4, hi, if_true, if_false, not_true, not_false_eq_true, false_imp_iff, true_imp_iff, true_and, and_true] at h ⊢; simp [hi ▸ h1] at h ⊢; exact h
        · simp only [h5, hb0, h4, hi, if_true, if_false, not_true, not_false_eq_true, false_imp_iff, true_imp_iff, true_and, and_true] at h ⊢; simp [hi ▸ h1] at h ⊢; exact h
      · by_cases h1 : hs x i = true
        · by_cases h2 : hs y j = true <;> simp [h1, h2, h5, hb0, h4, hi] at h ⊢ <;> exact h
        · simp [h1, h5, hb0, hi] at h ⊢; exact h
theorem sm_out (Q : Int32 → st_I → Prop) (n : Nat) (r : st_I) (x y b s v3 i : Int32) (hb : (¬ b = 0) ↔ s = 4) (hi : ¬ (7 : Int32) ≤ i) (h : wp_M_sums_L5 Q n r x y b (((v3 ||| tm s x y i 4) ||| tm s x y i 5) ||| tm s x y i 6) (i + 1)) : wp_M_sums_L5 Q (n + 1) r x y b v3 i := by
  simp only [wp_M_sums_L5, hi, false_imp_iff, not_false_eq_true, true_imp_iff, true_and]
  refine ⟨4, sm_in _ _ 3 _ _ _ _ s _ _ _ hb (by decide) (sm_in _ _ 2 _ _ _ _ s _ _ _ hb (by decide) (sm_in _ _ 1 _ _ _ _ s _ _ _ hb (by decide) ?_))⟩
  refine ⟨fun _ => h, fun z => absurd (by decide) z⟩
theorem rx_sums (s b x y : Int32) (hb : (¬ b = 0) ↔ s = 4) (r : st_I) (Q : Int32 → st_I → Prop) (h : Q (nk s x y) r) : wp_M_sums x y b r Q := by
  refine ⟨4, sm_out _ 3 _ _ _ _ s _ _ hb (by decide) (sm_out _ 2 _ _ _ _ s _ _ hb (by decide) (sm_out _ 1 _ _ _ _ s _ _ hb (by decide) ?_))⟩
  refine ⟨fun _ => h, fun z => absurd (by decide) z⟩
def clo (e : Nat) (x : Int32) (r : st_I) : st_I := st_u (st_u (st_u (st_u r 20 18 x) 20 13 ((r 20 13) - 1)) 31 e 1) 32 e (if ¬ r 32 e = 0 then 1 else if x = 0 then 0 else 1)
theorem rx_close (e : Nat) (he : e < 90) (x : Int32) (r : st_I) (Q : st_I → Prop) : wp_M_close (nI e) x r Q ↔ Q (clo e x r) := by
  have ce : (nI e).toNatClampNeg = e := nI_clamp (by omega)
  have vi : vp_in (nI e) 90 := vp_in_nI he (by omega)
  simp only [wp_M_close, wp_M_close_L40, wp_M_close_L45, ce, vi, true_and, clo, zn_0, zn_1]
  by_cases h1 : r 32 e = 0
  · by_cases h2 : x = 0 <;> simp [h1, h2, zn_0, zn_1]
  · simp [h1]
def psh (l : Nat) (c : Int32) (r : st_I) : st_I := st_u (st_u (st_u (st_u (st_u (st_u (st_u r 33 (l + 1) c) 34 (l + 1) 0) 35 (4 * (l + 1)) (r 35 (4 * l))) 35 (4 * (l + 1) + 1) (r 35 (4 * l + 1))) 35 (4 * (l + 1) + 2) (r 35 (4 * l + 2))) 35 (4 * (l + 1) + 3) (r 35 (4 * l + 3))) 20 13 (nI (l + 2))
theorem rx_look (l : Nat) (hl : l < 63) (c : Int32) (r : st_I) (ho : r 20 13 = nI (l + 1)) (Q : st_I → Prop) (h : Q (psh l c r)) : wp_M_look c r Q := by
  have co : (nI (l + 1)).toNatClampNeg = l + 1 := nI_clamp (by omega)
  have vo : vp_in (nI (l + 1)) 64 := vp_in_nI (by omega) (by omega)
  have no : ¬ nI (l + 1) ≤ 0 := nI_nle (by omega) (by omega)
  have m4 : ∀ x, (4 : Int32) * nI x = nI (4 * x) := fun x => pk_mul 4 x
  have p1 : nI (l + 1) - 1 = nI l := nI_pred l
  have a1 : ∀ v, nI (4 * l) + nI v = nI (4 * l + v) := fun v => nI_add _ _
  have a2 : ∀ v, nI (4 * (l + 1)) + nI v = nI (4 * (l + 1) + v) := fun v => nI_add _ _
  have c1 : ∀ v, v < 4 → (nI (4 * l + v)).toNatClampNeg = 4 * l + v := fun v hv => nI_clamp (by omega)
  have c2 : ∀ v, v < 4 → (nI (4 * (l + 1) + v)).toNatClampNeg = 4 * (l + 1) + v := fun v hv => nI_clamp (by omega)
  have i1 : ∀ v, v < 4 → vp_in (nI (4 * l + v)) 256 := fun v hv => vp_in_nI (by omega) (by omega)
  have i2 : ∀ v, v < 4 → vp_in (nI (4 * (l + 1) + v)) 256 := fun v hv => vp_in_nI (by omega) (by omega)
  have stp : ∀ (R : st_I) (v n : Nat), v < 4 → R 20 13 = nI (l + 1) → wp_M_look_L22 Q n (st_u R 35 (4 * (l + 1) + v) (R 35 (4 * l + v))) (nI (v + 1)) → wp_M_look_L22 Q (n + 1) R (nI v) := by
    intro R v n hv hR hk
    have v4 : ¬ (4 : Int32) ≤ nI v := nI_ge (b := 4) hv (by omega)
    rw [wp_M_look_L22]
    simp only [hR, no, v4, not_false_eq_true, false_imp_iff, true_imp_iff, true_and, p1, m4, a1, a2, c1 v hv, c2 v hv, i1 v hv, i2 v hv, nI_1]
    exact hk
  unfold wp_M_look
  simp only [ho, co, vo, true_and]
  refine ⟨5, ?_⟩
  have e0 : st_u (st_u r 33 (l + 1) c) 34 (l + 1) 0 35 = r 35 := by simp [st_u]
  refine stp _ 0 4 (by omega) (by simp [st_u, ho]) (stp _ 1 3 (by omega) (by simp [st_u, ho]) (stp _ 2 2 (by omega) (by simp [st_u, ho]) (stp _ 3 1 (by omega) (by simp [st_u, ho]) ?_)))
  rw [wp_M_look_L22]
  simp only [show (4 : Int32) ≤ nI (3 + 1) from by decide, not_true, false_imp_iff, true_imp_iff, and_true, wp_M_look_L68]
  unfold psh at h
  have t1 : ∀ (R : st_I) (i j : Nat) (x : Int32), i ≠ j → st_u R 35 i x 35 j = R 35 j := by intro R i j x hij; rw [su_k]; simp [Ne.symm hij]
  have o13 : st_u (st_u (st_u (st_u (st_u (st_u r 33 (l + 1) c) 34 (l + 1) 0) 35 (4 * (l + 1) + 0) (st_u (st_u r 33 (l + 1) c) 34 (l + 1) 0 35 (4 * l + 0))) 35 (4 * (l + 1) + 1) (st_u (st_u (st_u r 33 (l + 1) c) 34 (l + 1) 0) 35 (4 * (l + 1) + 0) (st_u (st_u r 33 (l + 1) c) 34 (l + 1) 0 35 (4 * l + 0)) 35 (4 * l + 1))) 35 (4 * (l + 1) + 2) 0) 35 (4 * (l + 1) + 3) 0 20 13 = nI (l + 1) := by simp [st_u, ho]
  rw [t1 _ _ _ _ (by omega), t1 _ _ _ _ (by omega), t1 _ _ _ _ (by omega), t1 _ _ _ _ (by omega), t1 _ _ _ _ (by omega), t1 _ _ _ _ (by omega), e0]
  have o14 : ∀ x0 x1 x2 x3, st_u (st_u (st_u (st_u (st_u (st_u r 33 (l + 1) c) 34 (l + 1) 0) 35 (4 * (l + 1) + 0) x0) 35 (4 * (l + 1) + 1) x1) 35 (4 * (l + 1) + 2) x2) 35 (4 * (l + 1) + 3) x3 20 13 = nI (l + 1) := by intros; simp [st_u, ho]
  rw [o14, nI_1]
  exact h
