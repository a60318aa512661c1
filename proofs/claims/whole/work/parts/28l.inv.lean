def iv (g r : st_I) : Prop := ∃ n, pr_all g r n ∧ bod g r n ∧ (g 10 4 = 0 ∨ least g (g 11) (g 12)) ∧ (∃ p, p ≤ 60 ∧ g 14 1 = nI p ∧ r 20 33 = nI p ∧ ∀ j, j < p → g 15 j = r 43 j) ∧ g 14 2 = r 20 30
def op_post (x : Int32) (u : st_I × st_L × st_L) (y : Int32) (r' : st_I) : Prop := r' 20 35 = x ∧ (x = 0 → u.2.2 44 0 = y.toInt64) ∧ iv u.1 r'
theorem pr_g {g g' r : st_I} {n : Nat} (hp : pr_all g r n) (h : ∀ k, 1 ≤ k → k ≤ 8 → g' k = g k) : pr_all g' r n := by
  obtain ⟨a1, a2, a3, a4⟩ := hp
  refine ⟨a1, by rw [h 1 (by decide) (by decide)]; exact a2, a3, fun e he => ?_⟩
  obtain ⟨b1, b2, b3, b4⟩ := a4 e he
  unfold pr_row pr_c at b4 ⊢
  rw [h 2 (by decide) (by decide), h 3 (by decide) (by decide), h 4 (by decide) (by decide), h 5 (by decide) (by decide), h 6 (by decide) (by decide), h 7 (by decide) (by decide), h 8 (by decide) (by decide)]
  exact ⟨b1, b2, b3, b4⟩
theorem bod_g {g g' r : st_I} {n : Nat} (hb : bod g r n) (h : g' 9 = g 9) : bod g' r n := by
  unfold bod at *; rw [h]; exact hb
theorem pr_r {g r r' : st_I} {n : Nat} (hp : pr_all g r n) (h0 : r' 20 0 = r 20 0) (h : ∀ k, 21 ≤ k → k ≤ 27 → r' k = r k) : pr_all g r' n := by
  obtain ⟨a1, a2, a3, a4⟩ := hp
  refine ⟨a1, a2, by rw [h0]; exact a3, fun e he => ?_⟩
  obtain ⟨b1, b2, b3, b4⟩ := a4 e he
  unfold pr_row at b4 ⊢
  rw [h 21 (by decide) (by decide), h 22 (by decide) (by decide), h 23 (by decide) (by decide), h 24 (by decide) (by decide), h 25 (by decide) (by decide), h 26 (by decide) (by decide), h 27 (by decide) (by decide)]
  exact ⟨b1, b2, b3, b4⟩
theorem iv_r {g r r' : st_I} (h : iv g r) (hc : ∀ k, 21 ≤ k → k ≤ 28 → r' k = r k) (h43 : r' 43 = r 43) (h0 : r' 20 0 = r 20 0) (h33 : r' 20 33 = r 20 33) (h30 : r' 20 30 = r 20 30) : iv g r' := by
  obtain ⟨n, a1, a2, a3, ⟨p, b1, b2, b3, b4⟩, a5⟩ := h
  refine ⟨n, pr_r a1 h0 (fun k h1 h2 => hc k h1 (by omega)), ?_, a3, ⟨p, b1, b2, by rw [h33]; exact b3, by rw [h43]; exact b4⟩, by rw [h30]; exact a5⟩
  unfold bod at *; rw [hc 28 (by decide) (by decide)]; exact a2
theorem iv_35 {g r : st_I} (h : iv g r) (x : Int32) : iv g (st_u r 20 35 x) :=
  iv_r h (fun k h1 h2 => su_o _ _ _ _ _ (by omega)) (su_o _ _ _ _ _ (by decide)) (by simp [st_u, upd]) (by simp [st_u, upd]) (by simp [st_u, upd])
theorem iv_rfr {g r r' : st_I} (h : iv g r) (hr : rfr r r') : iv g r' :=
  iv_r h (fun k h1 h2 => hr.1 k (by omega) (by omega)) (hr.1 43 (by decide) (by decide)) (hr.2 0 (by decide) (by decide)) (hr.2 33 (by decide) (by decide)) (hr.2 30 (by decide) (by decide))
theorem iv_g {g g' r : st_I} (h : iv g r) (hc : ∀ k, k ≠ 10 → k ≠ 11 → k ≠ 12 → k ≠ 13 → g' k = g k) (hl : g' 10 4 = 0 ∨ least g' (g' 11) (g' 12)) : iv g' r := by
  obtain ⟨n, a1, a2, a3, ⟨p, b1, b2, b3, b4⟩, a5⟩ := h
  refine ⟨n, pr_g a1 (fun k h1 h2 => hc k (by omega) (by omega) (by omega) (by omega)), bod_g a2 (hc 9 (by decide) (by decide) (by decide) (by decide)), hl, ⟨p, b1, by rw [hc 14 (by decide) (by decide) (by decide) (by decide)]; exact b2, b3, by rw [hc 15 (by decide) (by decide) (by decide) (by decide)]; exact b4⟩, by rw [hc 14 (by decide) (by decide) (by decide) (by decide)]; exact a5⟩
theorem cl_0 : (0 : Int32).toNatClampNeg = 0 := rfl
theorem vi_1 : vp_in (0 : Int32) 1 := vp_in_nI (n := 0) (by omega) (by omega)
theorem sv_44 (o : st_L) (x : Int64) : st_v o 44 0 x 44 0 = x := by simp [st_v, vp_updL]
theorem ok_out (o : st_L) {x y : Int32} (h : x = y) (g : st_I) (q : st_L) : ((g, q, st_v o 44 0 x.toInt64) : st_I × st_L × st_L).2.2 44 0 = y.toInt64 := by subst h; exact sv_44 o _
theorem op_part (a : Int32) {g r : st_I} (q o : st_L) (hiv : iv g r) {C : Int32 → st_I × st_L × st_L → Int32 → st_I → Prop} (hC : ∀ x u y r', op_post x u y r' → C x u y r') : wp_L_part a g q o (fun x u => wp_M_part a r (fun y r' => C x u y r')) := by
  have hiv' := hiv
  obtain ⟨n, -, -, -, ⟨p, b1, b2, b3, b4⟩, -⟩ := hiv
  simp only [wp_L_part, wp_S_part, wp_S_part_L15, wp_M_part, wp_M_part_L13, wp_M_part_L18, wp_M_part_L38, cl_0, vi_1, true_and, b2, b3]
  rcases pk_ix a (n := p) (by omega) with h | h | ⟨j, hj, h⟩
  · simp [h]
    exact hC _ _ _ _ ⟨by simp [st_u, upd], fun z => absurd z (by decide), iv_35 hiv' 1⟩
  · have h1 : ¬ a < 0 := by
      intro z
      have z1 := Int32.lt_iff_toInt_lt.mp z
      have z2 := Int32.le_iff_toInt_le.mp h
      rw [nI_toInt (by omega)] at z2
      simp at z1
      omega
    have h2 : ¬ a < nI p := Int32.not_lt.mpr h
    simp only [h1, h2, false_imp_iff, not_false_eq_true, true_imp_iff, true_and, show ¬ (1 : Int32) = 0 from by decide, and_true]
    exact hC _ _ _ _ ⟨by simp [st_u, upd], fun z => absurd z (by decide), iv_35 hiv' 1⟩
  · subst h
    have h1 : ¬ nI j < 0 := nI_pos (by omega)
    have h2 : nI j < nI p := nI_lt hj (by omega)
    have cj : (nI j).toNatClampNeg = j := nI_clamp (by omega)
    have vj : vp_in (nI j) 60 := vp_in_nI (by omega) (by omega)
    simp only [h1, h2, false_imp_iff, not_false_eq_true, true_imp_iff, true_and, and_true, not_true, cj, vj]
    exact hC _ _ _ _ ⟨by simp [st_u, upd], fun _ => ok_out o (b4 j hj) g q, iv_35 hiv' 0⟩
theorem bod_r {g r r' : st_I} {n : Nat} (hb : bod g r n) (h : r' 28 = r 28) : bod g r' n := by
  unfold bod at *; rw [h]; exact hb
theorem kn0 {g r : st_I} {n : Nat} (hp : pr_all g r n) (hb : bod g r n) (Q : st_I → Prop) (h : ∀ r1, rfr (st_u r 20 35 0) r1 → least g (r1 29) (r1 30) → Q r1) : wp_M_know (st_u r 20 35 0) Q :=
  rl_know (pr_r hp (by simp [st_u, upd]) (fun k h1 h2 => su_o _ _ _ _ _ (by omega))) (bod_r hb (su_o _ _ _ _ _ (by decide))) Q h
theorem kb {g r g1 r1 : st_I} {n : Nat} (hiv : iv g r) (hp : pr_all g r n) (hb : bod g r n) (hg1 : ∀ k, k ≠ 10 → k ≠ 11 → k ≠ 12 → k ≠ 13 → g1 k = g k) (hl1 : least g1 (g1 11) (g1 12)) (hr1 : rfr (st_u r 20 35 0) r1) (hl2 : least g (r1 29) (r1 30)) : iv g1 r1 ∧ r1 20 35 = 0 ∧ (∀ f, f < 6 → g1 12 f = r1 30 f) ∧ (∀ f, f < 6 → ∀ i, i < pmn f → g1 11 (2 * f + i) = r1 29 (2 * f + i)) ∧ pr_all g1 r1 n ∧ bod g1 r1 n := by
  have hp0 : pr_all g (st_u r 20 35 0) n := pr_r hp (by simp [st_u, upd]) (fun k h1 h2 => su_o _ _ _ _ _ (by omega))
  have hb0 : bod g (st_u r 20 35 0) n := bod_r hb (su_o _ _ _ _ _ (by decide))
  have hl2' : least g1 (r1 29) (r1 30) := least_cg hp hb (fun k h1 h2 e he => by rw [hg1 k (by omega) (by omega) (by omega) (by omega)]) (fun f hf => by rw [hg1 9 (by decide) (by decide) (by decide) (by decide)]) hl2
  obtain ⟨e1, e2⟩ := least_eq hl1 hl2'
  refine ⟨iv_g (iv_rfr (iv_35 hiv 0) hr1) hg1 (Or.inr hl1), ?_, e1, e2, pr_g (pr_rfr hp0 hr1) (fun k h1 h2 => hg1 k (by omega) (by omega) (by omega) (by omega)), bod_g (bod_rfr hb0 hr1) (hg1 9 (by decide) (by decide) (by decide) (by decide))⟩
  rw [hr1.2 35 (by decide) (by decide)]; simp [st_u, upd]
theorem op_gives (a : Int32) {g r : st_I} (q o : st_L) (hiv : iv g r) {C : Int32 → st_I × st_L × st_L → Int32 → st_I → Prop} (hC : ∀ x u y r', op_post x u y r' → C x u y r') : wp_L_gives 7 a g q o (fun x u => wp_M_gives a r (fun y r' => C x u y r')) := by
  have hiv' := hiv
  obtain ⟨n, hp, hb, hl, -, -⟩ := hiv
  have e5 : (5 : Int32) = nI 5 := rfl
  simp only [wp_L_gives, wp_S_gives, ex_chF, wp_M_gives, wp_M_gives_L14, e5, rx_out a 5 (by omega), cl_0, vi_1, true_and]
  by_cases h : isx 6 a
  · have h' : isx (5 + 1) a := h
    obtain ⟨f, hf, rfl⟩ := h
    have cf : (nI f).toNatClampNeg = f := nI_clamp (by omega)
    have vf : vp_in (nI f) 6 := vp_in_nI (by omega) (by omega)
    simp only [h', show isx 6 (nI f) from h', true_imp_iff, not_true, false_imp_iff, and_true, wp_K_givesOf, cf, vf, true_and]
    refine cl_learn hp hb hl q _ (fun g1 hg1 hl1 => ?_)
    refine kn0 hp hb _ (fun r1 hr1 hl2 => ?_)
    obtain ⟨k1, k2, k3, k4, -, -⟩ := kb hiv' hp hb hg1 hl1 hr1 hl2
    exact hC _ _ _ _ ⟨k2, fun _ => ok_out o (k3 f hf) g1 q, k1⟩
  · have h' : ¬ isx (5 + 1) a := h
    simp only [h, h', true_imp_iff, not_false_eq_true, false_imp_iff, and_true, true_and, show ¬ (1 : Int32) = 0 from by decide]
    exact hC _ _ _ _ ⟨by simp [st_u, upd], fun z => absurd z (by decide), iv_35 hiv' 1⟩
theorem op_may (a b : Int32) {g r : st_I} (q o : st_L) (hiv : iv g r) {C : Int32 → st_I × st_L × st_L → Int32 → st_I → Prop} (hC : ∀ x u y r', op_post x u y r' → C x u y r') : wp_L_may 7 a b g q o (fun x u => wp_M_may a b r (fun y r' => C x u y r')) := by
  have hiv' := hiv
  obtain ⟨n, hp, hb, hl, -, -⟩ := hiv
  have e5 : (5 : Int32) = nI 5 := rfl
  have bad : ∀ y, C 1 (g, q, o) y (st_u r 20 35 1) := fun y => hC _ _ _ _ ⟨by simp [st_u, upd], fun z => absurd z (by decide), iv_35 hiv' 1⟩
  simp only [wp_L_may, wp_S_may, wp_S_may_L16, ex_chF, ex_pms, rx_pms, wp_M_may, wp_M_may_L21, wp_M_may_L26, e5, rx_out a 5 (by omega), cl_0, vi_1, true_and]
  by_cases h : isx 6 a
  · have h' : isx (5 + 1) a := h
    obtain ⟨f, hf, rfl⟩ := h
    have le3 : ((3 : Int32) ≤ nI f) ↔ 3 ≤ f := nI_leI (a := 3) (by omega) (by omega)
    simp only [h', show isx 6 (nI f) from h', true_imp_iff, not_true, false_imp_iff, and_true, le3]
    by_cases hb0 : b < 0
    · simp only [hb0, true_imp_iff, not_true, false_imp_iff, and_true, show ¬ (1 : Int32) = 0 from by decide, not_false_eq_true, true_and]
      exact bad _
    · simp only [hb0, false_imp_iff, not_false_eq_true, true_imp_iff, true_and]
      have good : ∀ i, i < pmn f → b = nI i → wp_K_learn 7 g q (fun u30 => wp_K_mayOf (nI f) b u30.1 u30.2 (fun x39 u39 => wp_M_know (st_u r 20 35 0) (fun u39' => vp_in ((2 : Int32) * nI f + b) 12 ∧ C 0 (u39.1, u39.2, st_v o 44 0 x39.toInt64) (u39' 29 ((2 : Int32) * nI f + b).toNatClampNeg) u39'))) := by
        intro i hi hbi
        have hi2 : i < 2 := by unfold pmn at hi; split at hi <;> omega
        have m1 : nI f * (2 : Int32) + b = nI (2 * f + i) := by rw [hbi, show nI f * (2 : Int32) = nI (2 * f) from by rw [Nat.mul_comm]; exact pk_mul f 2, nI_add]
        have m2 : (2 : Int32) * nI f + b = nI (2 * f + i) := by rw [hbi, show (2 : Int32) * nI f = nI (2 * f) from pk_mul 2 f, nI_add]
        have cp : (nI (2 * f + i)).toNatClampNeg = 2 * f + i := nI_clamp (by omega)
        have vp : vp_in (nI (2 * f + i)) 12 := vp_in_nI (by omega) (by omega)
        refine cl_learn hp hb hl q _ (fun g1 hg1 hl1 => ?_)
        simp only [wp_K_mayOf, m1, m2, cp, vp, true_and]
        refine kn0 hp hb _ (fun r1 hr1 hl2 => ?_)
        obtain ⟨k1, k2, k3, k4, -, -⟩ := kb hiv' hp hb hg1 hl1 hr1 hl2
        exact hC _ _ _ _ ⟨k2, fun _ => ok_out o (k4 f hf i hi) g1 q, k1⟩
      obtain ⟨j, hj, hjb⟩ := nI_of hb0
      by_cases z : 3 ≤ f
      · have hpm : pmn f = 2 := by unfold pmn; rw [if_neg (by omega)]
        simp only [z, true_imp_iff, not_true, false_imp_iff, and_true]
        by_cases w : b < 2
        · simp only [w, true_imp_iff, not_true, false_imp_iff, and_true]
          have hj2 : j < 2 := by rw [hjb] at w; exact (nI_ltI (b := 2) hj (by omega)).mp w
          exact good j (by omega) hjb
        · simp only [w, false_imp_iff, not_false_eq_true, true_imp_iff, true_and, show ¬ (1 : Int32) = 0 from by decide]
          exact bad _
      · have hpm : pmn f = 1 := by unfold pmn; rw [if_pos (by omega)]
        simp only [z, false_imp_iff, not_false_eq_true, true_imp_iff, true_and]
        by_cases w : b < 1
        · simp only [w, true_imp_iff, not_true, false_imp_iff, and_true]
          have hj2 : j < 1 := by rw [hjb] at w; exact (nI_ltI (b := 1) hj (by omega)).mp w
          exact good j (by omega) hjb
        · simp only [w, false_imp_iff, not_false_eq_true, true_imp_iff, true_and, show ¬ (1 : Int32) = 0 from by decide]
          exact bad _
  · have h' : ¬ isx (5 + 1) a := h
    simp only [h, h', true_imp_iff, not_false_eq_true, false_imp_iff, and_true, true_and, show ¬ (1 : Int32) = 0 from by decide]
    exact bad _
