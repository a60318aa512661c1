theorem k31 : (3 : Int32) &&& 1 = 1 := by decide
theorem k131 : (13 : Int32) &&& 1 = 1 := by decide
theorem k61 : (6 : Int32) &&& 1 = 0 := by decide
theorem k21 : (2 : Int32) &&& 1 = 0 := by decide
theorem lo_0 {l e : Nat} (hl : l < 63) (he : e < 90) {r : st_I} (ho : r 20 13 = nI (l + 1)) (hw : r 33 l = nI e) (ht : r 34 l = 0) (K : st_I → Prop) : wp_M_lookOn r K ↔ wp_M_lookOn_L92 K (st_u r 34 l 1) (nI l) (nI e) (r 21 e) 0 := by
  have p1 : nI (l + 1) - 1 = nI l := nI_pred l
  have cl : (nI l).toNatClampNeg = l := nI_clamp (by omega)
  have ce : (nI e).toNatClampNeg = e := nI_clamp (by omega)
  have v1 : vp_in (nI l) 64 := vp_in_nI (by omega) (by omega)
  have v2 : vp_in (nI e) 90 := vp_in_nI (by omega) (by omega)
  simp only [wp_M_lookOn, ho, p1, cl, hw, ce, v1, v2, ht, true_and]
  simp
theorem lo_1 {l e : Nat} (hl : l < 63) (he : e < 90) {r : st_I} (ho : r 20 13 = nI (l + 1)) (hw : r 33 l = nI e) (ht : r 34 l = 1) (K : st_I → Prop) : wp_M_lookOn r K ↔ wp_M_lookOn_L92 K (st_u (st_u r 34 l 2) 36 (2 * l) (r 20 18)) (nI l) (nI e) (r 21 e) 1 := by
  have p1 : nI (l + 1) - 1 = nI l := nI_pred l
  have cl : (nI l).toNatClampNeg = l := nI_clamp (by omega)
  have ce : (nI e).toNatClampNeg = e := nI_clamp (by omega)
  have v1 : vp_in (nI l) 64 := vp_in_nI (by omega) (by omega)
  have v2 : vp_in (nI e) 90 := vp_in_nI (by omega) (by omega)
  have m2 : (2 : Int32) * nI l = nI (2 * l) := pk_mul 2 l
  have a0 : nI (2 * l) + 0 = nI (2 * l) := by simp
  have c2 : (nI (2 * l)).toNatClampNeg = 2 * l := nI_clamp (by omega)
  have v3 : vp_in (nI (2 * l)) 128 := vp_in_nI (by omega) (by omega)
  simp only [wp_M_lookOn, wp_M_lookOn_L62, wp_M_lookOn_L91, ho, p1, cl, hw, ce, v1, v2, ht, true_and, m2, a0, c2, v3, su_o _ 34 _ _ 20 (by decide), su_o _ 34 _ _ 36 (by decide)]
  simp
theorem lo_2 {l e : Nat} (hl : l < 63) (he : e < 90) {r : st_I} (ho : r 20 13 = nI (l + 1)) (hw : r 33 l = nI e) (ht : r 34 l = 2) (K : st_I → Prop) : wp_M_lookOn r K ↔ wp_M_lookOn_L92 K (st_u (st_u r 34 l 3) 36 (2 * l + 1) (r 20 18)) (nI l) (nI e) (r 21 e) 2 := by
  have p1 : nI (l + 1) - 1 = nI l := nI_pred l
  have cl : (nI l).toNatClampNeg = l := nI_clamp (by omega)
  have ce : (nI e).toNatClampNeg = e := nI_clamp (by omega)
  have v1 : vp_in (nI l) 64 := vp_in_nI (by omega) (by omega)
  have v2 : vp_in (nI e) 90 := vp_in_nI (by omega) (by omega)
  have m2 : (2 : Int32) * nI l = nI (2 * l) := pk_mul 2 l
  have a0 : nI (2 * l) + 1 = nI (2 * l + 1) := nI_1 _
  have c2 : (nI (2 * l + 1)).toNatClampNeg = 2 * l + 1 := nI_clamp (by omega)
  have v3 : vp_in (nI (2 * l + 1)) 128 := vp_in_nI (by omega) (by omega)
  simp only [wp_M_lookOn, wp_M_lookOn_L62, wp_M_lookOn_L91, ho, p1, cl, hw, ce, v1, v2, ht, true_and, m2, a0, c2, v3, su_o _ 34 _ _ 20 (by decide), su_o _ 34 _ _ 36 (by decide)]
  simp
theorem lo_3 {l e : Nat} (hl : l < 63) (he : e < 90) {r : st_I} (ho : r 20 13 = nI (l + 1)) (hw : r 33 l = nI e) (ht : r 34 l = 3) (K : st_I → Prop) : wp_M_lookOn r K ↔ wp_M_lookOn_L92 K (st_u (st_u r 34 l 4) 36 (2 * l + 1) (r 36 (2 * l + 1) ||| r 20 18)) (nI l) (nI e) (r 21 e) 3 := by
  have p1 : nI (l + 1) - 1 = nI l := nI_pred l
  have cl : (nI l).toNatClampNeg = l := nI_clamp (by omega)
  have ce : (nI e).toNatClampNeg = e := nI_clamp (by omega)
  have v1 : vp_in (nI l) 64 := vp_in_nI (by omega) (by omega)
  have v2 : vp_in (nI e) 90 := vp_in_nI (by omega) (by omega)
  have m2 : (2 : Int32) * nI l = nI (2 * l) := pk_mul 2 l
  have a0 : nI (2 * l) + 1 = nI (2 * l + 1) := nI_1 _
  have c2 : (nI (2 * l + 1)).toNatClampNeg = 2 * l + 1 := nI_clamp (by omega)
  have v3 : vp_in (nI (2 * l + 1)) 128 := vp_in_nI (by omega) (by omega)
  simp only [wp_M_lookOn, wp_M_lookOn_L62, wp_M_lookOn_L91, ho, p1, cl, hw, ce, v1, v2, ht, true_and, m2, a0, c2, v3, su_o _ 34 _ _ 20 (by decide), su_o _ 34 _ _ 36 (by decide)]
  simp
theorem l9_0a {l e : Nat} (hl : l < 63) (he : e < 90) {R : st_I} (ho : R 20 13 = nI (l + 1)) {s : Int32} (hs : s = 4 ∨ s = 5 ∨ s = 6 ∨ s = 12 ∨ s = 13 ∨ s = 7 ∨ s = 8 ∨ s = 9) (K : st_I → Prop) (h : K (psh l (R 22 e) (st_u R 36 (2 * l + 1) 511))) : wp_M_lookOn_L92 K R (nI l) (nI e) s 0 := by
  have ce : (nI e).toNatClampNeg = e := nI_clamp (by omega)
  have v2 : vp_in (nI e) 90 := vp_in_nI (by omega) (by omega)
  have m2 : (2 : Int32) * nI l + 1 = nI (2 * l + 1) := by rw [show (2 : Int32) * nI l = nI (2 * l) from pk_mul 2 l, nI_1]
  have c2 : (nI (2 * l + 1)).toNatClampNeg = 2 * l + 1 := nI_clamp (by omega)
  have v3 : vp_in (nI (2 * l + 1)) 128 := vp_in_nI (by omega) (by omega)
  have go : wp_M_look (R 22 e) (st_u R 36 (2 * l + 1) 511) K := rx_look l hl _ _ (by simp [st_u, ho]) K h
  rcases hs with hs | hs | hs | hs | hs | hs | hs | hs
  · simp [wp_M_lookOn_L92, wp_M_lookOn_L165, k31, k131, k61, k21, ce, v2, rx_parts_3 s _ (by simp [hs]), m2, c2, v3, wp_M_lookOn_L434]; exact go
  · simp [wp_M_lookOn_L92, wp_M_lookOn_L165, k31, k131, k61, k21, ce, v2, rx_parts_3 s _ (by simp [hs]), m2, c2, v3, wp_M_lookOn_L434]; exact go
  · simp [wp_M_lookOn_L92, wp_M_lookOn_L165, k31, k131, k61, k21, ce, v2, rx_parts_3 s _ (by simp [hs]), m2, c2, v3, wp_M_lookOn_L434]; exact go
  · simp [wp_M_lookOn_L92, wp_M_lookOn_L165, k31, k131, k61, k21, ce, v2, rx_parts_3 s _ (by simp [hs]), m2, c2, v3, wp_M_lookOn_L434]; exact go
  · simp [wp_M_lookOn_L92, wp_M_lookOn_L165, k31, k131, k61, k21, ce, v2, rx_parts_3 s _ (by simp [hs]), m2, c2, v3, wp_M_lookOn_L434]; exact go
  · simp [wp_M_lookOn_L92, wp_M_lookOn_L165, k31, k131, k61, k21, ce, v2, rx_parts_1 s _ (by simp [hs]), m2, c2, v3, wp_M_lookOn_L434]; exact go
  · simp [wp_M_lookOn_L92, wp_M_lookOn_L165, k31, k131, k61, k21, ce, v2, rx_parts_1 s _ (by simp [hs]), m2, c2, v3, wp_M_lookOn_L434]; exact go
  · subst hs
    simp [wp_M_lookOn_L92, wp_M_lookOn_L165, k31, k131, k61, k21, ce, v2, rx_parts_9, m2, c2, v3, wp_M_lookOn_L434]; exact go
theorem l9_0b {l e : Nat} (hl : l < 63) (he : e < 90) {R : st_I} (ho : R 20 13 = nI (l + 1)) {s : Int32} (hs : s = 10 ∨ s = 11) (K : st_I → Prop) (h : K (psh l (R 23 e) (st_u R 36 (2 * l + 1) 511))) : wp_M_lookOn_L92 K R (nI l) (nI e) s 0 := by
  have ce : (nI e).toNatClampNeg = e := nI_clamp (by omega)
  have v2 : vp_in (nI e) 90 := vp_in_nI (by omega) (by omega)
  have m2 : (2 : Int32) * nI l + 1 = nI (2 * l + 1) := by rw [show (2 : Int32) * nI l = nI (2 * l) from pk_mul 2 l, nI_1]
  have c2 : (nI (2 * l + 1)).toNatClampNeg = 2 * l + 1 := nI_clamp (by omega)
  have v3 : vp_in (nI (2 * l + 1)) 128 := vp_in_nI (by omega) (by omega)
  have go : wp_M_look (R 23 e) (st_u R 36 (2 * l + 1) 511) K := rx_look l hl _ _ (by simp [st_u, ho]) K h
  rcases hs with hs | hs
  · subst hs
    rw [wp_M_lookOn_L92]
    refine ⟨v2, ?_⟩
    rw [rx_parts_10]
    by_cases z : 3 ≤ R 22 e
    · simp [wp_M_lookOn_L165, k31, k131, k61, k21, ce, v2, m2, c2, v3, wp_M_lookOn_L434, z]; exact go
    · simp [wp_M_lookOn_L165, k31, k131, k61, k21, ce, v2, m2, c2, v3, wp_M_lookOn_L434, z]; exact go
  · subst hs
    simp [wp_M_lookOn_L92, wp_M_lookOn_L165, k31, k131, k61, k21, ce, v2, rx_parts_11, m2, c2, v3, wp_M_lookOn_L434]; exact go
theorem l9_leaf {l e : Nat} (hl : l < 63) (he : e < 90) {R : st_I} {x : Int32} (hs : R 21 e = 0 ∧ (∃ v, v < 4 ∧ R 22 e = nI v ∧ x = R 35 (4 * l + v)) ∨ R 21 e = 1 ∧ x = 1 <<< (R 22 e &&& 31) ∨ R 21 e = 2 ∧ x = 1 <<< (kn (R 22 e) &&& 31) ∨ R 21 e = 3 ∧ x = 128 ∨ R 21 e = 14 ∧ x = 0) (K : st_I → Prop) (h : K (clo e x R)) : wp_M_lookOn_L92 K R (nI l) (nI e) (R 21 e) 0 := by
  have ce : (nI e).toNatClampNeg = e := nI_clamp (by omega)
  have v2 : vp_in (nI e) 90 := vp_in_nI (by omega) (by omega)
  have go : wp_M_close (nI e) x R K := (rx_close e he x R K).mpr h
  rcases hs with ⟨hs, v, hv, h3, rfl⟩ | ⟨hs, rfl⟩ | ⟨hs, rfl⟩ | ⟨hs, rfl⟩ | ⟨hs, rfl⟩
  · have m4 : (4 : Int32) * nI l + nI v = nI (4 * l + v) := by rw [show (4 : Int32) * nI l = nI (4 * l) from pk_mul 4 l, nI_add]
    have c4 : (nI (4 * l + v)).toNatClampNeg = 4 * l + v := nI_clamp (by omega)
    have v4 : vp_in (nI (4 * l + v)) 256 := vp_in_nI (by omega) (by omega)
    rw [hs, wp_M_lookOn_L92]
    refine ⟨v2, ?_⟩
    rw [rx_parts_0 _ _ (by simp)]
    simp [wp_M_leaf, ce, v2, hs, h3, m4, c4, v4, wp_M_lookOn_L434]; exact go
  · rw [hs, wp_M_lookOn_L92]
    refine ⟨v2, ?_⟩
    rw [rx_parts_0 _ _ (by simp)]
    simp [wp_M_leaf, ce, v2, hs, wp_M_lookOn_L434]; exact go
  · rw [hs, wp_M_lookOn_L92]
    refine ⟨v2, ?_⟩
    rw [rx_parts_0 _ _ (by simp)]
    simp [wp_M_leaf, ce, v2, hs, wp_M_lookOn_L434, rx_kind]; exact go
  · rw [hs, wp_M_lookOn_L92]
    refine ⟨v2, ?_⟩
    rw [rx_parts_0 _ _ (by simp)]
    simp [wp_M_leaf, ce, v2, hs, wp_M_lookOn_L434]; exact go
  · rw [hs, wp_M_lookOn_L92]
    refine ⟨v2, ?_⟩
    rw [rx_parts_0 _ _ (by simp)]
    simp [wp_M_leaf, ce, v2, hs, wp_M_lookOn_L434]; exact go
theorem hs8 (x : Int32) : x &&& 256 = 0 ↔ hs x 8 = false := by
  rw [b_an8, show hs x 8 = bt x 8 from hs_bt x 8 (by omega)]
theorem tog_1 {e : Nat} (he : e < 90) {R : st_I} (x y : Int32) (hs : R 21 e = 7 ∨ R 21 e = 8) (K : Int32 → st_I → Prop) (h : K (if x &&& 256 = 0 then 0 else 511) R) : wp_M_together (nI e) x y R K := by
  have ce : (nI e).toNatClampNeg = e := nI_clamp (by omega)
  have v2 : vp_in (nI e) 90 := vp_in_nI (by omega) (by omega)
  have key : ∀ t0, wp_M_together_L13 K R (nI e) x y t0 := by
    intro t0
    rcases hs with hs | hs <;> by_cases z : x &&& 256 = 0 <;> simp [wp_M_together_L13, wp_M_together_L103, wp_M_together_L118, ce, v2, hs, z] at h ⊢ <;> exact h
  simp only [wp_M_together, wp_M_together_L8]
  exact ⟨fun _ => key _, fun _ => ⟨fun _ => key _, fun _ => key _⟩⟩
theorem tog_2 {e : Nat} (he : e < 90) {R : st_I} (x y v : Int32) (hs : (R 21 e = 4 ∨ R 21 e = 5) ∧ v = nk (R 21 e) x y ∨ R 21 e = 12 ∧ v = x ||| y ∨ R 21 e = 6 ∧ v = (if x = 0 then 0 else if y = 0 then 0 else 256) ∨ R 21 e = 13 ∧ v = (if x = 0 then 0 else if y = 0 then 0 else 3)) (K : Int32 → st_I → Prop) (h : K v R) : wp_M_together (nI e) x y R K := by
  have ce : (nI e).toNatClampNeg = e := nI_clamp (by omega)
  have v2 : vp_in (nI e) 90 := vp_in_nI (by omega) (by omega)
  rcases hs with ⟨hs | hs, rfl⟩ | ⟨hs, rfl⟩ | ⟨hs, rfl⟩ | ⟨hs, rfl⟩
  · rw [hs] at h
    have key : ∀ t0, wp_M_together_L13 K R (nI e) x y t0 := by
      intro t0
      simp [wp_M_together_L13, ce, v2, hs]
      exact rx_sums 4 1 x y (by decide) R K h
    simp only [wp_M_together, wp_M_together_L8]
    exact ⟨fun _ => key _, fun _ => ⟨fun _ => key _, fun _ => key _⟩⟩
  · rw [hs] at h
    have key : ∀ t0, wp_M_together_L13 K R (nI e) x y t0 := by
      intro t0
      simp [wp_M_together_L13, ce, v2, hs]
      exact rx_sums 5 0 x y (by decide) R K h
    simp only [wp_M_together, wp_M_together_L8]
    exact ⟨fun _ => key _, fun _ => ⟨fun _ => key _, fun _ => key _⟩⟩
  · have key : ∀ t0, wp_M_together_L13 K R (nI e) x y t0 := by
      intro t0
      simp [wp_M_together_L13, wp_M_together_L143, ce, v2, hs]
      exact h
    simp only [wp_M_together, wp_M_together_L8]
    exact ⟨fun _ => key _, fun _ => ⟨fun _ => key _, fun _ => key _⟩⟩
  · by_cases z1 : x = 0 <;> by_cases z2 : y = 0 <;> simp [wp_M_together, wp_M_together_L8, wp_M_together_L13, wp_M_together_L102, ce, v2, hs, z1, z2] at h ⊢ <;> exact h
  · by_cases z1 : x = 0 <;> by_cases z2 : y = 0 <;> simp [wp_M_together, wp_M_together_L8, wp_M_together_L13, wp_M_together_L142, ce, v2, hs, z1, z2] at h ⊢ <;> exact h
theorem tog_c {e f : Nat} (he : e < 90) (hf : f < 6) {R : st_I} (x y : Int32) (hs : R 21 e = 10) (h3 : R 22 e = nI f) (K : Int32 → st_I → Prop) (h : K (if x &&& R 29 (2 * f) = 0 then 0 else if 3 ≤ f then (if y &&& R 29 (2 * f + 1) = 0 then 0 else R 30 f) else R 30 f) R) : wp_M_together (nI e) x y R K := by
  have ce : (nI e).toNatClampNeg = e := nI_clamp (by omega)
  have v2 : vp_in (nI e) 90 := vp_in_nI (by omega) (by omega)
  have cf : (nI f).toNatClampNeg = f := nI_clamp (by omega)
  have vf : vp_in (nI f) 6 := vp_in_nI hf (by omega)
  have m2 : (2 : Int32) * nI f = nI (2 * f) := pk_mul 2 f
  have m21 : nI (2 * f) + (1 : Int32) = nI (2 * f + 1) := nI_1 _
  have c2 : (nI (2 * f)).toNatClampNeg = 2 * f := nI_clamp (by omega)
  have c21 : (nI (2 * f + 1)).toNatClampNeg = 2 * f + 1 := nI_clamp (by omega)
  have w2 : vp_in (nI (2 * f)) 12 := vp_in_nI (by omega) (by omega)
  have w21 : vp_in (nI (2 * f + 1)) 12 := vp_in_nI (by omega) (by omega)
  have le3 : ((3 : Int32) ≤ nI f) ↔ 3 ≤ f := nI_leI (a := 3) (by omega) (by omega)
  have key : ∀ t0, wp_M_together_L13 K R (nI e) x y t0 := by
    intro t0
    simp only [wp_M_together_L13, wp_M_called, wp_M_called_L36, wp_M_called_L40, wp_M_called_L41, wp_M_called_L58, ce, v2, hs, h3, m2, m21, c2, c21, w2, w21, rx_pms, le3, cf, vf, true_and]
    by_cases z1 : x &&& R 29 (2 * f) = 0
    · simp [z1] at h ⊢; exact h
    · by_cases z3 : 3 ≤ f
      · by_cases z2 : y &&& R 29 (2 * f + 1) = 0 <;> simp [z1, z2, z3] at h ⊢ <;> exact h
      · simp [z1, z3] at h ⊢; exact h
  simp only [wp_M_together, wp_M_together_L8]
  exact ⟨fun _ => key _, fun _ => ⟨fun _ => key _, fun _ => key _⟩⟩
