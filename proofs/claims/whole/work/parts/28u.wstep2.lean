theorem w7_mask {l e : Nat} (he : e < 90) {R : st_I} {s t : Int32} (K : st_I → Prop) {M : Int32} (hM : ∀ Q : Int32 → st_I → Prop, wp_M_partsOf s (R 22 e) R Q ↔ Q M R) (hM0 : ¬ M = 0) (ht : ¬ t = 0) (h : (¬ s = (10 : Int32) → (¬ s = (9 : Int32) → wp_M_workOn_L201 K R (nI l) (nI e) s t M) ∧ (s = (9 : Int32) → (¬ t = (1 : Int32) → wp_M_workOn_L201 K R (nI l) (nI e) s t M) ∧ (t = (1 : Int32) → vp_in (R 20 18) 460 ∧ (¬ (((R 23 e) >>> ((R 37 ((R 20 18)).toNatClampNeg) &&& 31)) &&& (1 : Int32)) = (1 : Int32) → wp_M_work (R 25 e) R K) ∧ ((((R 23 e) >>> ((R 37 ((R 20 18)).toNatClampNeg) &&& 31)) &&& (1 : Int32)) = (1 : Int32) → wp_M_work (R 24 e) R K)))) ∧ (s = (10 : Int32) → wp_M_callOn (nI e) (nI l) t R K)) : wp_M_workOn_L67 K R (nI l) (nI e) s t := by
  have ce : (nI e).toNatClampNeg = e := nI_clamp (by omega)
  have v2 : vp_in (nI e) 90 := vp_in_nI (by omega) (by omega)
  rw [wp_M_workOn_L67]
  refine ⟨v2, ?_⟩
  rw [ce, hM]
  simp only [hM0, ht, not_false_eq_true, false_imp_iff, true_imp_iff, and_true, v2, true_and, wp_M_workOn_L195, wp_M_workOn_L393]
  exact h
theorem w7_e {l e : Nat} (hl : l < 63) (he : e < 90) {R : st_I} (ho : R 20 13 = nI (l + 1)) {s t : Int32} (hs : s = 9 ∧ t = 2 ∨ s = 11 ∧ t = 2 ∨ s = 12 ∧ (t = 1 ∨ t = 2)) (K : st_I → Prop) (h : K (edd R l (R 20 18))) : wp_M_workOn_L67 K R (nI l) (nI e) s t := by
  have ee : wp_M_end (R 20 18) R K := (rx_end ho _ K).mpr h
  rcases hs with ⟨rfl, rfl⟩ | ⟨rfl, rfl⟩ | ⟨rfl, ht⟩
  · refine w7_mask he K (rx_parts_9 _ R) (by decide) (by decide) ?_
    simp [wp_M_workOn_L201, wp_M_workOn_L261, wp_M_workOn_L279, wp_M_workOn_L393]; exact ee
  · refine w7_mask he K (rx_parts_11 _ R) (by decide) (by decide) ?_
    simp [wp_M_workOn_L201, wp_M_workOn_L261, wp_M_workOn_L279, wp_M_workOn_L393]; exact ee
  · refine w7_mask he K (rx_parts_3 12 _ (by simp) R) (by decide) (by rcases ht with rfl | rfl <;> decide) ?_
    rcases ht with rfl | rfl <;> simp [wp_M_workOn_L201, wp_M_workOn_L261, wp_M_workOn_L279, wp_M_workOn_L393] <;> exact ee
theorem w7_1b {l e : Nat} (he : e < 90) {R : st_I} {s : Int32} (hs : s = 4 ∨ s = 5 ∨ s = 6 ∨ s = 13) (K : st_I → Prop) (h : wp_M_work (R 23 e) R K) : wp_M_workOn_L67 K R (nI l) (nI e) s 1 := by
  have ce : (nI e).toNatClampNeg = e := nI_clamp (by omega)
  have v2 : vp_in (nI e) 90 := vp_in_nI (by omega) (by omega)
  refine w7_mask he K (rx_parts_3 s _ (by rcases hs with h | h | h | h <;> simp [h]) R) (by decide) (by decide) ?_
  rcases hs with rfl | rfl | rfl | rfl <;> simp [wp_M_workOn_L201, wp_M_workOn_L261, wp_M_workOn_L393, ce, v2] <;> exact h
theorem w7_2b {l e : Nat} (hl : l < 63) (he : e < 90) {R : st_I} {s : Int32} (hs : s = 4 ∨ s = 5 ∨ s = 6 ∨ s = 13) (K : st_I → Prop) (h : wp_M_combine s (R 36 (2 * l)) (R 36 (2 * l + 1)) R K) : wp_M_workOn_L67 K R (nI l) (nI e) s 2 := by
  have m2 : (2 : Int32) * nI l = nI (2 * l) := pk_mul 2 l
  have a0 : nI (2 * l) + 1 = nI (2 * l + 1) := nI_1 _
  have c2 : (nI (2 * l)).toNatClampNeg = 2 * l := nI_clamp (by omega)
  have v2 : vp_in (nI (2 * l)) 128 := vp_in_nI (by omega) (by omega)
  have c3 : (nI (2 * l + 1)).toNatClampNeg = 2 * l + 1 := nI_clamp (by omega)
  have v3 : vp_in (nI (2 * l + 1)) 128 := vp_in_nI (by omega) (by omega)
  refine w7_mask he K (rx_parts_3 s _ (by rcases hs with h | h | h | h <;> simp [h]) R) (by decide) (by decide) ?_
  rcases hs with rfl | rfl | rfl | rfl <;> simp [wp_M_workOn_L201, wp_M_workOn_L261, wp_M_workOn_L393, m2, a0, c2, c3, v2, v3] <;> exact h
theorem w7_1u {l e w F : Nat} (hl : l < 63) (he : e < 90) (hw : w < 460) (hF : F ≤ 6) {R : st_I} (ho : R 20 13 = nI (l + 1)) (h28 : R 20 28 = nI F) (hb : R 20 18 = nI w) {s : Int32} (hs : s = 7 ∨ s = 8) (K : st_I → Prop) (h1 : R 37 w = 8 → K (edd R l (if s = 7 then R 39 w else R 40 w))) (h2 : ¬ R 37 w = 8 → K (st_u (fl0 R F) 20 13 (nI l))) : wp_M_workOn_L67 K R (nI l) (nI e) s 1 := by
  have cw : (nI w).toNatClampNeg = w := nI_clamp (by omega)
  have vw : vp_in (nI w) 460 := vp_in_nI (by omega) (by omega)
  refine w7_mask he K (rx_parts_1 s _ hs R) (by decide) (by decide) ?_
  by_cases z : R 37 w = 8
  · rcases hs with rfl | rfl
    · have := (rx_end ho (R 39 w) K).mpr (h1 z)
      simp [wp_M_workOn_L201, wp_M_workOn_L261, wp_M_workOn_L338, wp_M_workOn_L393, hb, cw, vw, z]; exact this
    · have := (rx_end ho (R 40 w) K).mpr (h1 z)
      simp [wp_M_workOn_L201, wp_M_workOn_L261, wp_M_workOn_L338, wp_M_workOn_L393, hb, cw, vw, z]; exact this
  · have := (rx_fail hF ho h28 K).mpr (h2 z)
    rcases hs with rfl | rfl <;> simp [wp_M_workOn_L201, wp_M_workOn_L261, wp_M_workOn_L393, hb, cw, vw, z] <;> exact this
theorem w7_1k {l e w : Nat} (he : e < 90) (hw : w < 460) {R : st_I} (hb : R 20 18 = nI w) (K : st_I → Prop) (h : wp_M_work (if hs (R 23 e) (R 37 w) = true then R 24 e else R 25 e) R K) : wp_M_workOn_L67 K R (nI l) (nI e) 9 1 := by
  have cw : (nI w).toNatClampNeg = w := nI_clamp (by omega)
  have vw : vp_in (nI w) 460 := vp_in_nI (by omega) (by omega)
  refine w7_mask he K (rx_parts_9 _ R) (by decide) (by decide) ?_
  simp only [hb, cw, vw, true_and, hs_1]
  by_cases z : hs (R 23 e) (R 37 w) = true
  · simp [z] at h ⊢; exact h
  · simp [z] at h ⊢; exact h
theorem w7_1l {l e v S : Nat} (hl : l < 62) (he : e < 90) (hv : v < 4) {R : st_I} (ho : R 20 13 = nI (l + 1)) (h25 : R 20 25 = 0) (hS : R 20 26 = nI S) (hS2 : S ≤ 200) (h3 : R 22 e = nI v) (K : st_I → Prop) (h1 : S < 200 → K (st_u (psh l (R 24 e) (st_u R 20 26 (nI (S + 1)))) 35 (4 * (l + 1) + v) (R 36 (2 * l)))) (h2 : S = 200 → K (st_u R 20 25 1)) : wp_M_workOn_L67 K R (nI l) (nI e) 11 1 := by
  have ce : (nI e).toNatClampNeg = e := nI_clamp (by omega)
  have v2 : vp_in (nI e) 90 := vp_in_nI (by omega) (by omega)
  have m2 : (2 : Int32) * nI l = nI (2 * l) := pk_mul 2 l
  have c2 : (nI (2 * l)).toNatClampNeg = 2 * l := nI_clamp (by omega)
  have w2 : vp_in (nI (2 * l)) 128 := vp_in_nI (by omega) (by omega)
  have p1 : nI (l + 2) - 1 = nI (l + 1) := nI_pred (l + 1)
  have m4 : (4 : Int32) * nI (l + 1) + nI v = nI (4 * (l + 1) + v) := by rw [show (4 : Int32) * nI (l + 1) = nI (4 * (l + 1)) from pk_mul 4 (l + 1), nI_add]
  have c4 : (nI (4 * (l + 1) + v)).toNatClampNeg = 4 * (l + 1) + v := nI_clamp (by omega)
  have v4 : vp_in (nI (4 * (l + 1) + v)) 256 := vp_in_nI (by omega) (by omega)
  refine w7_mask he K (rx_parts_11 _ R) (by decide) (by decide) ?_
  have go : wp_M_work (R 24 e) R (fun u220 => (¬ u220 20 25 = 0 → K u220) ∧ (u220 20 25 = 0 → vp_in ((4 : Int32) * ((u220 20 13) - (1 : Int32)) + u220 22 e) 256 ∧ K (st_u u220 35 ((4 : Int32) * ((u220 20 13) - (1 : Int32)) + u220 22 e).toNatClampNeg (u220 36 (2 * l))))) := by
    refine rx_work (by omega) ho hS hS2 _ _ (fun z => ?_) (fun z => ?_)
    · have e25 : psh l (R 24 e) (st_u R 20 26 (nI (S + 1))) 20 25 = 0 := by rw [psh_20]; simp [st_u, upd, h25]
      simp only [e25, not_true, false_imp_iff, true_imp_iff, true_and, psh_20, if_true, p1, psh_o _ _ _ 22 (by decide) (by decide) (by decide) (by decide), psh_o _ _ _ 36 (by decide) (by decide) (by decide) (by decide), su_o _ 20 _ _ 22 (by decide), su_o _ 20 _ _ 36 (by decide), h3, m4, c4, v4]
      exact h1 z
    · have e25 : ¬ st_u R 20 25 1 20 25 = 0 := by simp [st_u, upd]
      exact ⟨fun _ => h2 z, fun w => absurd w e25⟩
  simp [wp_M_workOn_L201, wp_M_workOn_L393, ce, v2, m2, c2, w2]
  exact go
theorem w7_leaf {l e : Nat} (he : e < 90) {R : st_I} {s : Int32} (hs : s = 0 ∨ s = 1 ∨ s = 2 ∨ s = 3 ∨ s = 14) (K : st_I → Prop) (h : wp_M_leafValue (nI e) (nI l) R K) : wp_M_workOn_L67 K R (nI l) (nI e) s 0 := by
  have v2 : vp_in (nI e) 90 := vp_in_nI (by omega) (by omega)
  rw [wp_M_workOn_L67]
  refine ⟨v2, ?_⟩
  rw [rx_parts_0 s _ hs]
  simp only [not_true, false_imp_iff, true_imp_iff, true_and, wp_M_workOn_L393]
  exact h
theorem lv_0 {l e v F : Nat} (hl : l < 63) (he : e < 90) (hv : v < 4) (hF : F ≤ 6) {R : st_I} (ho : R 20 13 = nI (l + 1)) (h28 : R 20 28 = nI F) (hs : R 21 e = 0) (h3 : R 22 e = nI v) (K : st_I → Prop) (h1 : ¬ R 35 (4 * l + v) < 0 → K (edd R l (R 35 (4 * l + v)))) (h2 : R 35 (4 * l + v) < 0 → K (st_u (fl0 R F) 20 13 (nI l))) : wp_M_leafValue (nI e) (nI l) R K := by
  have ce : (nI e).toNatClampNeg = e := nI_clamp (by omega)
  have v2 : vp_in (nI e) 90 := vp_in_nI (by omega) (by omega)
  have m4 : (4 : Int32) * nI l + nI v = nI (4 * l + v) := by rw [show (4 : Int32) * nI l = nI (4 * l) from pk_mul 4 l, nI_add]
  have c4 : (nI (4 * l + v)).toNatClampNeg = 4 * l + v := nI_clamp (by omega)
  have v4 : vp_in (nI (4 * l + v)) 256 := vp_in_nI (by omega) (by omega)
  simp only [wp_M_leafValue, wp_M_leafValue_L51, wp_M_leafValue_L128, ce, v2, hs, h3, m4, c4, v4, true_and, rx_end ho, rx_fail hF ho h28]
  by_cases z : R 35 (4 * l + v) < 0
  · have := h2 z
    simp [z]; exact this
  · have := h1 z
    simp [z]; exact this
theorem lv_v {l e nv : Nat} (hl : l < 63) (he : e < 90) (hnv : nv < 460) {R : st_I} (ho : R 20 13 = nI (l + 1)) (h19 : R 20 19 = nI nv) {k x : Int32} (hs : R 21 e = 1 ∧ k = R 22 e ∧ x = 0 ∨ R 21 e = 2 ∧ k = kn (R 22 e) ∧ x = R 22 e ∨ R 21 e = 3 ∧ k = 7 ∧ x = 0) (K : st_I → Prop) (h : K (edd (nwv R nv k x) l (nI nv))) : wp_M_leafValue (nI e) (nI l) R K := by
  have ce : (nI e).toNatClampNeg = e := nI_clamp (by omega)
  have v2 : vp_in (nI e) 90 := vp_in_nI (by omega) (by omega)
  have ho' : ∀ k x, nwv R nv k x 20 13 = nI (l + 1) := by intro k x; simp [nwv, st_u, upd, ho]
  rcases hs with ⟨hs, rfl, rfl⟩ | ⟨hs, rfl, rfl⟩ | ⟨hs, rfl, rfl⟩
  · simp [wp_M_leafValue, wp_M_leafValue_L51, wp_M_leafValue_L128, ce, v2, hs, rx_value hnv h19, rx_end (ho' _ _)]; exact h
  · simp [wp_M_leafValue, wp_M_leafValue_L51, wp_M_leafValue_L128, ce, v2, hs, rx_kind, rx_value hnv h19, rx_end (ho' _ _)]; exact h
  · simp [wp_M_leafValue, wp_M_leafValue_L51, wp_M_leafValue_L128, ce, v2, hs, rx_value hnv h19, rx_end (ho' _ _)]; exact h
theorem lv_f {l e F : Nat} (hl : l < 63) (he : e < 90) (hF : F ≤ 6) {R : st_I} (ho : R 20 13 = nI (l + 1)) (h28 : R 20 28 = nI F) (hs : R 21 e = 14) (K : st_I → Prop) (h : K (st_u (fl0 R F) 20 13 (nI l))) : wp_M_leafValue (nI e) (nI l) R K := by
  have ce : (nI e).toNatClampNeg = e := nI_clamp (by omega)
  have v2 : vp_in (nI e) 90 := vp_in_nI (by omega) (by omega)
  have := (rx_fail hF ho h28 K).mpr h
  simp [wp_M_leafValue, wp_M_leafValue_L51, wp_M_leafValue_L128, ce, v2, hs]; exact this
theorem w7_c {l e : Nat} (he : e < 90) {R : st_I} {t : Int32} (ht : ¬ t = 0) (K : st_I → Prop) (h : wp_M_callOn (nI e) (nI l) t R K) : wp_M_workOn_L67 K R (nI l) (nI e) 10 t := by
  refine w7_mask he K (M := if 3 ≤ R 22 e then 6 else 2) (fun Q => rx_parts_10 _ R Q) (by split <;> decide) ht ?_
  simp; exact h
theorem cq_4 {l e : Nat} (he : e < 90) {R : st_I} (ho : R 20 13 = nI (l + 1)) (K : st_I → Prop) (h : K (edd (st_u R 20 29 (R 20 29 - 1)) l (R 20 18))) : wp_M_callOn (nI e) (nI l) 4 R K := by
  have ce : (nI e).toNatClampNeg = e := nI_clamp (by omega)
  have v2 : vp_in (nI e) 90 := vp_in_nI (by omega) (by omega)
  have ho' : st_u R 20 29 (R 20 29 - 1) 20 13 = nI (l + 1) := by simp [st_u, upd, ho]
  simp [wp_M_callOn, wp_M_callOn_L35, wp_M_callOn_L100, wp_M_callOn_L118, ce, v2, rx_end ho']
  exact h
theorem cq_1w {l e f : Nat} (he : e < 90) (hf : f < 6) (h3f : 3 ≤ f) {R : st_I} (h3 : R 22 e = nI f) (K : st_I → Prop) (h : wp_M_work (R 24 e) R K) : wp_M_callOn (nI e) (nI l) 1 R K := by
  have ce : (nI e).toNatClampNeg = e := nI_clamp (by omega)
  have v2 : vp_in (nI e) 90 := vp_in_nI (by omega) (by omega)
  have le3 : ((3 : Int32) ≤ nI f) ↔ 3 ≤ f := nI_leI (a := 3) (by omega) (by omega)
  simp only [wp_M_callOn, wp_M_callOn_L118, ce, v2, h3, rx_pms, le3, h3f, true_and]
  simp
  exact h
theorem cq_c {l e f : Nat} (hl : l < 63) (he : e < 90) (hf : f < 6) {R : st_I} (h3 : R 22 e = nI f) {t : Int32} (ht : t = 1 ∧ ¬ 3 ≤ f ∨ t = 2 ∧ 3 ≤ f) (K : st_I → Prop) (h : wp_M_call (nI f) (R 36 (2 * l)) (R 36 (2 * l + 1)) (st_u R 34 l 4) (fun u77 => (u77 20 24 = 0 → K u77) ∧ (¬ u77 20 24 = 0 → K (st_u u77 20 13 (u77 20 13 - 1))))) : wp_M_callOn (nI e) (nI l) t R K := by
  have ce : (nI e).toNatClampNeg = e := nI_clamp (by omega)
  have cl : (nI l).toNatClampNeg = l := nI_clamp (by omega)
  have vl' : vp_in (nI l) 64 := vp_in_nI (by omega) (by omega)
  have v2 : vp_in (nI e) 90 := vp_in_nI (by omega) (by omega)
  have le3 : ((3 : Int32) ≤ nI f) ↔ 3 ≤ f := nI_leI (a := 3) (by omega) (by omega)
  have m2 : (2 : Int32) * nI l = nI (2 * l) := pk_mul 2 l
  have a0 : nI (2 * l) + 1 = nI (2 * l + 1) := nI_1 _
  have c2 : (nI (2 * l)).toNatClampNeg = 2 * l := nI_clamp (by omega)
  have w2 : vp_in (nI (2 * l)) 128 := vp_in_nI (by omega) (by omega)
  have c3 : (nI (2 * l + 1)).toNatClampNeg = 2 * l + 1 := nI_clamp (by omega)
  have w3 : vp_in (nI (2 * l + 1)) 128 := vp_in_nI (by omega) (by omega)
  rcases ht with ⟨rfl, z⟩ | ⟨rfl, z⟩
  · simp only [wp_M_callOn, wp_M_callOn_L35, wp_M_callOn_L118, ce, cl, v2, vl', h3, rx_pms, le3, z, m2, a0, c2, c3, w2, w3, true_and]
    simp
    exact h
  · simp only [wp_M_callOn, wp_M_callOn_L35, wp_M_callOn_L118, ce, cl, v2, vl', h3, rx_pms, le3, z, m2, a0, c2, c3, w2, w3, true_and]
    simp
    exact h
