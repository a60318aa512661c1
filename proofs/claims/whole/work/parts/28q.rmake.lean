def rowM (r : st_I) (n : Nat) (s a b c d dp sz : Int32) : st_I := st_u (st_u (st_u (st_u (st_u (st_u (st_u (st_u (st_u r 20 35 0) 21 n s) 22 n a) 23 n b) 24 n c) 25 n d) 26 n dp) 27 n sz) 20 0 (nI (n + 1))
theorem rm_end {r : st_I} {n : Nat} (hn : n ≤ 90) (h0 : r 20 0 = nI n) (h35 : r 20 35 = 0) (s a b c d : Int32) {D Z : Nat} (hD : D < 7) (hZ : Z ≤ 181) (Q : Int32 → st_I → Prop) (h1 : ¬ (D ≤ 5 ∧ Z ≤ 60) → Q 0 (st_u r 20 35 1)) (h2 : D ≤ 5 ∧ Z ≤ 60 → n = 90 → Q 0 (st_u r 20 35 2)) (h3 : D ≤ 5 ∧ Z ≤ 60 → n < 90 → Q (nI n) (rowM r n s a b c d (nI D) (nI Z))) : wp_M_make_L131 Q r s a b c d (nI D) (nI Z) := by
  have cn : (nI n).toNatClampNeg = n := nI_clamp (by omega)
  have l5 : ((5 : Int32) < nI D) ↔ 5 < D := nI_ltI (a := 5) (by omega) (by omega)
  have l6 : (nI Z ≤ (60 : Int32)) ↔ Z ≤ 60 := nI_leI (b := 60) (by omega) (by omega)
  have e9 : (nI n = (90 : Int32)) ↔ n = 90 := nI_eq (b := 90) (by omega) (by omega)
  have np : nI n + 1 - 1 = nI n := by rw [nI_1, nI_pred]
  simp only [wp_M_make_L131, wp_M_make_L152, wp_M_make_L170, h35, h0, l5, l6, e9, cn, np, not_true, false_imp_iff, true_imp_iff, true_and, show ¬ (1 : Int32) = 0 from by decide, show ¬ (2 : Int32) = 0 from by decide, not_false_eq_true, and_true]
  refine ⟨fun z => h1 (by omega), fun z => ⟨fun w => ⟨fun y => ?_, fun y => h2 (by omega) y⟩, fun w => h1 (by omega)⟩⟩
  have vn : vp_in (nI n) 90 := vp_in_nI (by omega) (by omega)
  simp only [vn, true_and, nI_1]
  exact h3 (by omega) (by omega)
theorem mk_e {r : st_I} (s a b c d v6 v7 : Int32) (m : Nat) (Q : Int32 → st_I → Prop) (h : wp_M_make_L131 Q r s a b c d v6 v7) : wp_M_make_L27 Q (m + 1) r s a b c d v6 v7 (nI 4) := by
  rw [wp_M_make_L27]
  simp only [show (4 : Int32) ≤ nI 4 from by decide, not_true, false_imp_iff, true_imp_iff, and_true]
  exact h
theorem mk_s {r : st_I} (h35 : r 20 35 = 0) (s a b c d v6 v7 M : Int32) (hM : ∀ Q : Int32 → st_I → Prop, wp_M_partsOf s a r Q ↔ Q M r) (k m : Nat) (hk : k < 4) (hb : ¬ ((M >>> (nI k &&& 31)) &&& 1) = 1) (Q : Int32 → st_I → Prop) (h : wp_M_make_L27 Q m r s a b c d v6 v7 (nI (k + 1))) : wp_M_make_L27 Q (m + 1) r s a b c d v6 v7 (nI k) := by
  have z : ¬ (4 : Int32) ≤ nI k := nI_ge (b := 4) hk (by omega)
  rw [wp_M_make_L27]
  simp only [z, h35, not_true, not_false_eq_true, false_imp_iff, true_imp_iff, true_and, hM, hb, wp_M_make_L125, nI_1, and_true]
  exact h
theorem mk_p {g r : st_I} {n : Nat} (hn : n ≤ 90) (h0 : r 20 0 = nI n) (h35 : r 20 35 = 0) (hg : rws g n) (h26 : ∀ e, e < n → r 26 e = g 7 e) (h27 : ∀ e, e < n → r 27 e = g 8 e) (s a b c d M : Int32) (hM : ∀ Q : Int32 → st_I → Prop, wp_M_partsOf s a r Q ↔ Q M r) (k m : Nat) (hk : k < 4) (hb : ((M >>> (nI k &&& 31)) &&& 1) = 1) (D Z : Nat) (hD : D < 7) (hZ : Z < 400) (x : Int32) (hp : ∀ (Q : Int32 → st_I → Prop), wp_M_pick (nI k) a b c d r Q ↔ Q x r) (Q : Int32 → st_I → Prop) (h : ∀ e, x = nI e → e < n → wp_M_make_L27 Q m r s a b c d (nI (max D (dO g (some e)))) (nI (Z + zO g (some e))) (nI (k + 1))) (h' : ¬ isx n x → Q 0 (st_u r 20 35 1)) : wp_M_make_L27 Q (m + 1) r s a b c d (nI D) (nI Z) (nI k) := by
  have z : ¬ (4 : Int32) ≤ nI k := nI_ge (b := 4) hk (by omega)
  rw [wp_M_make_L27]
  simp only [z, h35, not_true, not_false_eq_true, false_imp_iff, true_imp_iff, true_and, hM, hb, hp, wp_M_make_L111, wp_M_make_L125, nI_1, and_true, rx_isP (n := n) (by omega) x r h0, show ¬ (1 : Int32) = 0 from by decide]
  refine ⟨fun w => ?_, h'⟩
  obtain ⟨e, he, rfl⟩ := w
  have ce : (nI e).toNatClampNeg = e := nI_clamp (by omega)
  have ve : vp_in (nI e) 90 := vp_in_nI (by omega) (by omega)
  obtain ⟨⟨dd, hd1, hd2⟩, ⟨zz, hz1, hz2⟩⟩ := hg e he
  have cd : (nI dd).toNatClampNeg = dd := nI_clamp (by omega)
  have cz : (nI zz).toNatClampNeg = zz := nI_clamp (by omega)
  have hh := h e rfl he
  simp only [dO, zO, hd2, hz2, cd, cz] at hh
  have le : (nI (dd + 1) ≤ nI D) ↔ dd + 1 ≤ D := nI_leI (by omega) (by omega)
  simp only [ce, ve, h26 e he, h27 e he, hd2, hz2, nI_1, nI_add, le, true_and]
  refine ⟨fun w => ?_, fun w => ?_⟩
  · rw [show max D (dd + 1) = D by omega] at hh; exact hh
  · rw [show max D (dd + 1) = dd + 1 by omega] at hh; exact hh
theorem rs (t : Nat) (ht : t < 15) (a b : Int32) (r : st_I) (Q : Int32 → st_I → Prop) : wp_M_isSaid (nI t) a b r Q ↔ (fit t a b → Q 1 r) ∧ (¬ fit t a b → Q 0 r) := by
  have e3 : (3 : Int32) = nI 3 := rfl
  have e511 : (511 : Int32) = nI 511 := rfl
  have e5 : (5 : Int32) = nI 5 := rfl
  have e14 : (14 : Int32) = nI 14 := rfl
  have o3 := rx_out a 3 (by omega) r
  have o511 := rx_out b 511 (by omega) r
  have o5 := rx_out a 5 (by omega) r
  rw [← e3] at o3
  rw [← e511] at o511
  rw [← e5] at o5
  have od : ∀ t : Nat, t < 15 → ∀ (K : Int32 → st_I → Prop), wp_M_outside (nI t) 14 r K ↔ K 0 r := by
    intro t ht K
    rw [e14, rx_out (nI t) 14 (by omega)]
    have : isx (14 + 1) (nI t) := ⟨t, by omega, rfl⟩
    simp [this]
  have : t = 0 ∨ t = 1 ∨ t = 2 ∨ t = 3 ∨ t = 4 ∨ t = 5 ∨ t = 6 ∨ t = 7 ∨ t = 8 ∨ t = 9 ∨ t = 10 ∨ t = 11 ∨ t = 12 ∨ t = 13 ∨ t = 14 := by omega
  rcases this with rfl | rfl | rfl | rfl | rfl | rfl | rfl | rfl | rfl | rfl | rfl | rfl | rfl | rfl | rfl
  · have k : nI 0 = 0 := rfl
    simp only [k, wp_M_isSaid, wp_M_isSaid_L64, wp_M_isSaid_L77, o3, zb_0, zb_1, true_and, fit]
    by_cases h : isx 4 a <;> simp [h]
  · have k : nI 1 = 1 := rfl
    simp only [k, wp_M_isSaid, wp_M_isSaid_L64, wp_M_isSaid_L77, o3, zb_0, zb_1, true_and, fit]
    by_cases h : isx 4 a <;> simp [h]
  · have k : nI 2 = 2 := rfl
    have o := od 2 (by omega); rw [k] at o
    simp [k, wp_M_isSaid, wp_M_isSaid_L124, wp_M_isSaid_L138, o, zb_0, zb_1, fit]
  · have k : nI 3 = 3 := rfl
    have o := od 3 (by omega); rw [k] at o
    simp [k, wp_M_isSaid, wp_M_isSaid_L124, wp_M_isSaid_L138, o, zb_0, zb_1, fit]
  · have k : nI 4 = 4 := rfl
    have o := od 4 (by omega); rw [k] at o
    simp [k, wp_M_isSaid, wp_M_isSaid_L124, wp_M_isSaid_L138, o, zb_0, zb_1, fit]
  · have k : nI 5 = 5 := rfl
    have o := od 5 (by omega); rw [k] at o
    simp [k, wp_M_isSaid, wp_M_isSaid_L124, wp_M_isSaid_L138, o, zb_0, zb_1, fit]
  · have k : nI 6 = 6 := rfl
    have o := od 6 (by omega); rw [k] at o
    simp [k, wp_M_isSaid, wp_M_isSaid_L124, wp_M_isSaid_L138, o, zb_0, zb_1, fit]
  · have k : nI 7 = 7 := rfl
    have o := od 7 (by omega); rw [k] at o
    simp [k, wp_M_isSaid, wp_M_isSaid_L124, wp_M_isSaid_L138, o, zb_0, zb_1, fit]
  · have k : nI 8 = 8 := rfl
    have o := od 8 (by omega); rw [k] at o
    simp [k, wp_M_isSaid, wp_M_isSaid_L124, wp_M_isSaid_L138, o, zb_0, zb_1, fit]
  · have k : nI 9 = 9 := rfl
    simp only [k, wp_M_isSaid, wp_M_isSaid_L93, o511, zb_0, zb_1, true_and, fit]
    by_cases h : isx 512 b <;> simp [h]
  · have k : nI 10 = 10 := rfl
    simp only [k, wp_M_isSaid, wp_M_isSaid_L107, o5, zb_0, zb_1, true_and, fit]
    by_cases h : isx 6 a <;> simp [h]
  · have k : nI 11 = 11 := rfl
    simp only [k, wp_M_isSaid, wp_M_isSaid_L118, wp_M_isSaid_L123, zb_0, zb_1, true_and, fit]
    by_cases h : a = 2
    · simp [h]
    · by_cases h2 : a = 3 <;> simp [h, h2]
  · have k : nI 12 = 12 := rfl
    have o := od 12 (by omega); rw [k] at o
    simp [k, wp_M_isSaid, wp_M_isSaid_L124, wp_M_isSaid_L138, o, zb_0, zb_1, fit]
  · have k : nI 13 = 13 := rfl
    have o := od 13 (by omega); rw [k] at o
    simp [k, wp_M_isSaid, wp_M_isSaid_L124, wp_M_isSaid_L138, o, zb_0, zb_1, fit]
  · have k : nI 14 = 14 := rfl
    have o := od 14 (by omega); rw [k] at o
    simp [k, wp_M_isSaid, wp_M_isSaid_L124, wp_M_isSaid_L138, o, zb_0, zb_1, fit]
theorem rs_no (s a b : Int32) (hs : ¬ isx 15 s) (r : st_I) (Q : Int32 → st_I → Prop) : wp_M_isSaid s a b r Q ↔ Q 0 r := by
  have e14 : (14 : Int32) = nI 14 := rfl
  have ne : ∀ t : Nat, t < 15 → ¬ s = nI t := fun t ht z => hs ⟨t, ht, z⟩
  have n0 : ¬ s = 0 := ne 0 (by omega)
  have n1 : ¬ s = 1 := ne 1 (by omega)
  have n2 : ¬ s = 2 := ne 2 (by omega)
  have n3 : ¬ s = 3 := ne 3 (by omega)
  have n4 : ¬ s = 4 := ne 4 (by omega)
  have n5 : ¬ s = 5 := ne 5 (by omega)
  have n6 : ¬ s = 6 := ne 6 (by omega)
  have n7 : ¬ s = 7 := ne 7 (by omega)
  have n8 : ¬ s = 8 := ne 8 (by omega)
  have n9 : ¬ s = 9 := ne 9 (by omega)
  have n10 : ¬ s = 10 := ne 10 (by omega)
  have n11 : ¬ s = 11 := ne 11 (by omega)
  have o := rx_out s 14 (by omega) r
  rw [← e14] at o
  have hs' : ¬ isx (14 + 1) s := hs
  simp [wp_M_isSaid, wp_M_isSaid_L124, wp_M_isSaid_L138, n0, n1, n2, n3, n4, n5, n6, n7, n8, n9, n10, n11, o, hs', zb_0]
theorem mk_bad {r : st_I} (s a b c d : Int32) (Q : Int32 → st_I → Prop) (h : Q 0 (st_u (st_u r 20 35 1) 20 35 1)) : wp_M_make_L15 Q r s a b c d 1 := by
  refine ⟨1, ?_⟩
  rw [wp_M_make_L27]
  have e : st_u r 20 35 1 20 35 = 1 := by simp [st_u, upd]
  simp only [e, show ¬ (4 : Int32) ≤ 0 from by decide, show ¬ (1 : Int32) = 0 from by decide, not_false_eq_true, not_true, false_imp_iff, true_imp_iff, true_and, and_true, wp_M_make_L131, wp_M_make_L152, wp_M_make_L170]
  exact h
