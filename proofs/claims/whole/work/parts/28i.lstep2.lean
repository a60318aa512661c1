theorem psh_o (l : Nat) (c : Int32) (r : st_I) (k : Nat) (h1 : k ≠ 20) (h2 : k ≠ 33) (h3 : k ≠ 34) (h4 : k ≠ 35) : psh l c r k = r k := by
  simp [psh, st_u, h1, h2, h3, h4]
theorem psh_20 (l : Nat) (c : Int32) (r : st_I) (j : Nat) : psh l c r 20 j = if j = 13 then nI (l + 2) else r 20 j := by
  simp [psh, st_u, upd]
theorem psh_33 (l : Nat) (c : Int32) (r : st_I) (j : Nat) : psh l c r 33 j = if j = l + 1 then c else r 33 j := by
  simp [psh, st_u, upd]
theorem psh_34 (l : Nat) (c : Int32) (r : st_I) (j : Nat) : psh l c r 34 j = if j = l + 1 then 0 else r 34 j := by
  simp [psh, st_u, upd]
theorem psh_35n (l : Nat) (c : Int32) (r : st_I) (v : Nat) (hv : v < 4) : psh l c r 35 (4 * (l + 1) + v) = r 35 (4 * l + v) := by
  have : v = 0 ∨ v = 1 ∨ v = 2 ∨ v = 3 := by omega
  rcases this with rfl | rfl | rfl | rfl <;> simp [psh, st_u, upd]
theorem psh_35o (l : Nat) (c : Int32) (r : st_I) (j : Nat) (hj : j < 4 * (l + 1)) : psh l c r 35 j = r 35 j := by
  have h0 : ¬ j = 4 * (l + 1) := by omega
  have h1 : ¬ j = 4 * (l + 1) + 1 := by omega
  have h2 : ¬ j = 4 * (l + 1) + 2 := by omega
  have h3 : ¬ j = 4 * (l + 1) + 3 := by omega
  simp [psh, st_u, upd, h0, h1, h2, h3]
theorem l406 {l e : Nat} (hl : l < 63) (he : e < 90) {R : st_I} {x : Int32} (K : st_I → Prop) (h : wp_M_together (nI e) (R 36 (2 * l)) (R 36 (2 * l + 1)) R (fun x u => wp_M_close (nI e) x u K)) : wp_M_lookOn_L406 K R (nI l) (nI e) := by
  have m2 : (2 : Int32) * nI l = nI (2 * l) := pk_mul 2 l
  have a0 : nI (2 * l) + 1 = nI (2 * l + 1) := nI_1 _
  have c2 : (nI (2 * l)).toNatClampNeg = 2 * l := nI_clamp (by omega)
  have v2 : vp_in (nI (2 * l)) 128 := vp_in_nI (by omega) (by omega)
  have c3 : (nI (2 * l + 1)).toNatClampNeg = 2 * l + 1 := nI_clamp (by omega)
  have v3 : vp_in (nI (2 * l + 1)) 128 := vp_in_nI (by omega) (by omega)
  simp only [wp_M_lookOn_L406, wp_M_lookOn_L434, m2, a0, c2, v2, c3, v3, true_and]
  exact h
theorem l9_1u {l e : Nat} (hl : l < 63) (he : e < 90) {R : st_I} (hs : R 21 e = 7 ∨ R 21 e = 8) (K : st_I → Prop) (h : K (clo e (if R 36 (2 * l) &&& 256 = 0 then 0 else 511) R)) : wp_M_lookOn_L92 K R (nI l) (nI e) (R 21 e) 1 := by
  have ce : (nI e).toNatClampNeg = e := nI_clamp (by omega)
  have v2 : vp_in (nI e) 90 := vp_in_nI (by omega) (by omega)
  have go : wp_M_lookOn_L406 K R (nI l) (nI e) := l406 (x := 0) hl he K (tog_1 he _ _ hs _ ((rx_close e he _ R K).mpr h))
  have pp := rx_parts_1 (R 21 e) (R 22 e) hs R
  rw [wp_M_lookOn_L92]
  refine ⟨v2, ?_⟩
  rw [ce, pp]
  rcases hs with hs | hs <;> simp [hs, wp_M_lookOn_L204, wp_M_lookOn_L243, wp_M_lookOn_L336] <;> exact go
theorem l9_1b {l e : Nat} (hl : l < 63) (he : e < 90) {R : st_I} (ho : R 20 13 = nI (l + 1)) (hs : R 21 e = 4 ∨ R 21 e = 5 ∨ R 21 e = 6 ∨ R 21 e = 12 ∨ R 21 e = 13) (K : st_I → Prop) (h : K (psh l (R 23 e) R)) : wp_M_lookOn_L92 K R (nI l) (nI e) (R 21 e) 1 := by
  have ce : (nI e).toNatClampNeg = e := nI_clamp (by omega)
  have v2 : vp_in (nI e) 90 := vp_in_nI (by omega) (by omega)
  have go : wp_M_look (R 23 e) R K := rx_look l hl _ _ ho K h
  have pp := rx_parts_3 (R 21 e) (R 22 e) hs R
  rw [wp_M_lookOn_L92]
  refine ⟨v2, ?_⟩
  rw [ce, pp]
  rcases hs with hs | hs | hs | hs | hs <;> simp [hs, wp_M_lookOn_L204, wp_M_lookOn_L243, wp_M_lookOn_L336, wp_M_lookOn_L400, wp_M_lookOn_L434, v2, ce] <;> exact go
theorem l9_2b {l e : Nat} (hl : l < 63) (he : e < 90) {R : st_I} {v : Int32} (hs : R 21 e = 4 ∨ R 21 e = 5 ∨ R 21 e = 6 ∨ R 21 e = 12 ∨ R 21 e = 13) (hv : (R 21 e = 4 ∨ R 21 e = 5) ∧ v = nk (R 21 e) (R 36 (2 * l)) (R 36 (2 * l + 1)) ∨ R 21 e = 12 ∧ v = R 36 (2 * l) ||| R 36 (2 * l + 1) ∨ R 21 e = 6 ∧ v = (if R 36 (2 * l) = 0 then 0 else if R 36 (2 * l + 1) = 0 then 0 else 256) ∨ R 21 e = 13 ∧ v = (if R 36 (2 * l) = 0 then 0 else if R 36 (2 * l + 1) = 0 then 0 else 3)) (K : st_I → Prop) (h : K (clo e v R)) : wp_M_lookOn_L92 K R (nI l) (nI e) (R 21 e) 2 := by
  have ce : (nI e).toNatClampNeg = e := nI_clamp (by omega)
  have v2 : vp_in (nI e) 90 := vp_in_nI (by omega) (by omega)
  have go : wp_M_lookOn_L406 K R (nI l) (nI e) := l406 (x := 0) hl he K (tog_2 he _ _ v hv _ ((rx_close e he _ R K).mpr h))
  have pp := rx_parts_3 (R 21 e) (R 22 e) hs R
  rw [wp_M_lookOn_L92]
  refine ⟨v2, ?_⟩
  rw [ce, pp]
  rcases hs with hs | hs | hs | hs | hs <;> simp [hs, wp_M_lookOn_L204, wp_M_lookOn_L243, wp_M_lookOn_L336] <;> exact go
theorem l9_1c {l e f : Nat} (hl : l < 63) (he : e < 90) (hf : f < 6) {R : st_I} (ho : R 20 13 = nI (l + 1)) (hs : R 21 e = 10) (h3 : R 22 e = nI f) (K : st_I → Prop) (h1 : ¬ 3 ≤ f → K (clo e (if R 36 (2 * l) &&& R 29 (2 * f) = 0 then 0 else R 30 f) R)) (h2 : 3 ≤ f → K (psh l (R 24 e) R)) : wp_M_lookOn_L92 K R (nI l) (nI e) (R 21 e) 1 := by
  have ce : (nI e).toNatClampNeg = e := nI_clamp (by omega)
  have v2 : vp_in (nI e) 90 := vp_in_nI (by omega) (by omega)
  have le3 : ((3 : Int32) ≤ nI f) ↔ 3 ≤ f := nI_leI (a := 3) (by omega) (by omega)
  rw [wp_M_lookOn_L92]
  refine ⟨v2, ?_⟩
  rw [ce, hs, rx_parts_10, h3]
  by_cases z : 3 ≤ f
  · have go : wp_M_look (R 24 e) R K := rx_look l hl _ _ ho K (h2 z)
    simp [le3, z, wp_M_lookOn_L204, wp_M_lookOn_L243, wp_M_lookOn_L336, wp_M_lookOn_L400, wp_M_lookOn_L434, v2, ce]; exact go
  · have go : wp_M_lookOn_L406 K R (nI l) (nI e) := l406 (x := 0) hl he K (tog_c he hf _ _ hs h3 _ ((rx_close e he _ R K).mpr (by simp [z]; exact h1 z)))
    simp [le3, z, wp_M_lookOn_L204, wp_M_lookOn_L243, wp_M_lookOn_L336]; exact go
theorem l9_2c {l e f : Nat} (hl : l < 63) (he : e < 90) (hf : f < 6) {R : st_I} (hs : R 21 e = 10) (h3 : R 22 e = nI f) (K : st_I → Prop) (h1 : K (clo e (if R 36 (2 * l) &&& R 29 (2 * f) = 0 then 0 else if 3 ≤ f then (if R 36 (2 * l + 1) &&& R 29 (2 * f + 1) = 0 then 0 else R 30 f) else R 30 f) R)) : wp_M_lookOn_L92 K R (nI l) (nI e) (R 21 e) 2 := by
  have ce : (nI e).toNatClampNeg = e := nI_clamp (by omega)
  have v2 : vp_in (nI e) 90 := vp_in_nI (by omega) (by omega)
  have le3 : ((3 : Int32) ≤ nI f) ↔ 3 ≤ f := nI_leI (a := 3) (by omega) (by omega)
  have go : wp_M_lookOn_L406 K R (nI l) (nI e) := l406 (x := 0) hl he K (tog_c he hf _ _ hs h3 _ ((rx_close e he _ R K).mpr h1))
  rw [wp_M_lookOn_L92]
  refine ⟨v2, ?_⟩
  rw [ce, hs, rx_parts_10, h3]
  by_cases z : 3 ≤ f <;> simp [le3, z, wp_M_lookOn_L204, wp_M_lookOn_L243, wp_M_lookOn_L336] <;> exact go
theorem l9_1l {l e v : Nat} (hl : l < 62) (he : e < 90) (hv : v < 4) {R : st_I} (ho : R 20 13 = nI (l + 1)) (hs : R 21 e = 11) (h3 : R 22 e = nI v) (K : st_I → Prop) (h0 : R 36 (2 * l) = 0 → K (st_u R 20 18 0)) (h1 : ¬ R 36 (2 * l) = 0 → K (st_u (psh l (R 24 e) (st_u R 20 18 0)) 35 (4 * (l + 1) + v) (R 36 (2 * l)))) : wp_M_lookOn_L92 K R (nI l) (nI e) (R 21 e) 1 := by
  have ce : (nI e).toNatClampNeg = e := nI_clamp (by omega)
  have v2 : vp_in (nI e) 90 := vp_in_nI (by omega) (by omega)
  have m2 : (2 : Int32) * nI l = nI (2 * l) := pk_mul 2 l
  have c2 : (nI (2 * l)).toNatClampNeg = 2 * l := nI_clamp (by omega)
  have w2 : vp_in (nI (2 * l)) 128 := vp_in_nI (by omega) (by omega)
  have p1 : nI (l + 2) - 1 = nI (l + 1) := nI_pred (l + 1)
  have m4 : (4 : Int32) * nI (l + 1) + nI v = nI (4 * (l + 1) + v) := by rw [show (4 : Int32) * nI (l + 1) = nI (4 * (l + 1)) from pk_mul 4 (l + 1), nI_add]
  have c4 : (nI (4 * (l + 1) + v)).toNatClampNeg = 4 * (l + 1) + v := nI_clamp (by omega)
  have v4 : vp_in (nI (4 * (l + 1) + v)) 256 := vp_in_nI (by omega) (by omega)
  rw [wp_M_lookOn_L92]
  refine ⟨v2, ?_⟩
  rw [ce, hs, rx_parts_11]
  by_cases z : R 36 (2 * l) = 0
  · have := h0 z
    simp [wp_M_lookOn_L204, wp_M_lookOn_L243, wp_M_lookOn_L434, m2, c2, w2, z]; exact this
  · simp [wp_M_lookOn_L204, wp_M_lookOn_L243, wp_M_lookOn_L434, m2, c2, w2, z, v2, ce]
    refine rx_look l (by omega) _ _ (by simp [st_u, upd, ho]) _ ?_
    simp only [psh_20, if_true, p1, psh_o _ _ _ 22 (by decide) (by decide) (by decide) (by decide), psh_o _ _ _ 36 (by decide) (by decide) (by decide) (by decide), su_o _ 20 _ _ 22 (by decide), su_o _ 20 _ _ 36 (by decide), h3, m4, c4, v4, true_and]
    exact h1 z
theorem l9_2l {l e : Nat} (hl : l < 63) (he : e < 90) {R : st_I} (hs : R 21 e = 11) (K : st_I → Prop) (h : K (clo e (R 36 (2 * l + 1)) R)) : wp_M_lookOn_L92 K R (nI l) (nI e) (R 21 e) 2 := by
  have ce : (nI e).toNatClampNeg = e := nI_clamp (by omega)
  have v2 : vp_in (nI e) 90 := vp_in_nI (by omega) (by omega)
  have m2 : (2 : Int32) * nI l + 1 = nI (2 * l + 1) := by rw [show (2 : Int32) * nI l = nI (2 * l) from pk_mul 2 l, nI_1]
  have c2 : (nI (2 * l + 1)).toNatClampNeg = 2 * l + 1 := nI_clamp (by omega)
  have v3 : vp_in (nI (2 * l + 1)) 128 := vp_in_nI (by omega) (by omega)
  rw [wp_M_lookOn_L92]
  refine ⟨v2, ?_⟩
  rw [ce, hs, rx_parts_11]
  simp [wp_M_lookOn_L204, wp_M_lookOn_L243, wp_M_lookOn_L336, wp_M_lookOn_L434, m2, c2, v3]
  exact (rx_close e he _ R K).mpr h
theorem lcase {l e a : Nat} (hl : l < 62) (he : e < 90) (ha : a < 90) {R : st_I} (ho : R 20 13 = nI (l + 1)) (h4 : R 22 e = nI a) (hv : R 21 a = 0 → ∃ v, v < 4 ∧ R 22 a = nI v) (set br : Int32) (K : st_I → Prop) (h0 : R 36 (2 * l) &&& set = 0 → K (st_u R 20 18 0)) (h1 : ¬ R 36 (2 * l) &&& set = 0 → ¬ R 21 a = 0 → K (psh l br (st_u R 20 18 0))) (h2 : ¬ R 36 (2 * l) &&& set = 0 → ∀ v, v < 4 → R 21 a = 0 → R 22 a = nI v → K (st_u (psh l br (st_u R 20 18 0)) 35 (4 * (l + 1) + v) (R 35 (4 * l + v) &&& set))) : wp_M_lookCase (nI e) (nI l) set br R K := by
  have ce : (nI e).toNatClampNeg = e := nI_clamp (by omega)
  have ca : (nI a).toNatClampNeg = a := nI_clamp (by omega)
  have v2 : vp_in (nI e) 90 := vp_in_nI (by omega) (by omega)
  have va : vp_in (nI a) 90 := vp_in_nI (by omega) (by omega)
  have m2 : (2 : Int32) * nI l = nI (2 * l) := pk_mul 2 l
  have c2 : (nI (2 * l)).toNatClampNeg = 2 * l := nI_clamp (by omega)
  have w2 : vp_in (nI (2 * l)) 128 := vp_in_nI (by omega) (by omega)
  have p1 : nI (l + 2) - 1 = nI (l + 1) := nI_pred (l + 1)
  simp only [wp_M_lookCase, wp_M_lookCase_L67, m2, c2, w2, true_and]
  refine ⟨h0, fun z => ?_⟩
  refine rx_look l (by omega) _ _ (by simp [st_u, upd, ho]) _ ?_
  simp only [psh_20, if_true, p1, psh_o _ _ _ 22 (by decide) (by decide) (by decide) (by decide), psh_o _ _ _ 21 (by decide) (by decide) (by decide) (by decide), su_o _ 20 _ _ 22 (by decide), su_o _ 20 _ _ 21 (by decide), ce, h4, v2, va, ca, true_and]
  refine ⟨h1 z, fun z0 => ?_⟩
  obtain ⟨v, hv4, hv2⟩ := hv z0
  have m4 : (4 : Int32) * nI (l + 1) + nI v = nI (4 * (l + 1) + v) := by rw [show (4 : Int32) * nI (l + 1) = nI (4 * (l + 1)) from pk_mul 4 (l + 1), nI_add]
  have c4 : (nI (4 * (l + 1) + v)).toNatClampNeg = 4 * (l + 1) + v := nI_clamp (by omega)
  have v4 : vp_in (nI (4 * (l + 1) + v)) 256 := vp_in_nI (by omega) (by omega)
  simp only [hv2, m4, c4, v4, true_and, psh_35n _ _ _ v hv4, su_o _ 20 _ _ 35 (by decide)]
  exact h2 z v hv4 z0 hv2
theorem l9_1k {l e : Nat} (hl : l < 63) (he : e < 90) {R : st_I} (hs : R 21 e = 9) (K : st_I → Prop) (h : wp_M_lookCase (nI e) (nI l) (R 23 e) (R 24 e) R K) : wp_M_lookOn_L92 K R (nI l) (nI e) (R 21 e) 1 := by
  have ce : (nI e).toNatClampNeg = e := nI_clamp (by omega)
  have v2 : vp_in (nI e) 90 := vp_in_nI (by omega) (by omega)
  rw [wp_M_lookOn_L92]
  refine ⟨v2, ?_⟩
  rw [ce, hs, rx_parts_9]
  simp [wp_M_lookOn_L434, ce, v2]; exact h
theorem l9_2k {l e : Nat} (hl : l < 63) (he : e < 90) {R : st_I} (hs : R 21 e = 9) (K : st_I → Prop) (h : wp_M_lookCase (nI e) (nI l) (511 &&& nm (R 23 e)) (R 25 e) R K) : wp_M_lookOn_L92 K R (nI l) (nI e) (R 21 e) 2 := by
  have ce : (nI e).toNatClampNeg = e := nI_clamp (by omega)
  have v2 : vp_in (nI e) 90 := vp_in_nI (by omega) (by omega)
  have hnm : ∀ x : Int32, x ^^^ (-1) = nm x := fun _ => rfl
  rw [wp_M_lookOn_L92]
  refine ⟨v2, ?_⟩
  rw [ce, hs, rx_parts_9]
  simp only [wp_M_lookOn_L204, hnm]
  simp [wp_M_lookOn_L434, ce, v2]; exact h
theorem l9_3k {l e : Nat} (hl : l < 63) (he : e < 90) {R : st_I} (hs : R 21 e = 9) (K : st_I → Prop) (h : K (clo e (R 36 (2 * l + 1)) R)) : wp_M_lookOn_L92 K R (nI l) (nI e) (R 21 e) 3 := by
  have ce : (nI e).toNatClampNeg = e := nI_clamp (by omega)
  have v2 : vp_in (nI e) 90 := vp_in_nI (by omega) (by omega)
  have m2 : (2 : Int32) * nI l + 1 = nI (2 * l + 1) := by rw [show (2 : Int32) * nI l = nI (2 * l) from pk_mul 2 l, nI_1]
  have c2 : (nI (2 * l + 1)).toNatClampNeg = 2 * l + 1 := nI_clamp (by omega)
  have v3 : vp_in (nI (2 * l + 1)) 128 := vp_in_nI (by omega) (by omega)
  rw [wp_M_lookOn_L92]
  refine ⟨v2, ?_⟩
  rw [ce, hs, rx_parts_9]
  simp [wp_M_lookOn_L204, wp_M_lookOn_L243, wp_M_lookOn_L434, m2, c2, v3]
  exact (rx_close e he _ R K).mpr h
