theorem pr_row_mo {g r g' r' : st_I} {n n' e : Nat} (hn : n ≤ n') (he : e < n) (hg : ∀ k, 2 ≤ k → k ≤ 8 → ∀ e, e < n → g' k e = g k e) (hr : ∀ k, 21 ≤ k → k ≤ 27 → ∀ e, e < n → r' k e = r k e) (h : pr_row g r n e) : pr_row g' r' n' e := by
  have hc : ∀ c, pr_c g n e c → pr_c g' n' e c := by
    intro c hc
    exact ⟨Nat.lt_of_lt_of_le hc.1 hn, by rw [hg 7 (by decide) (by decide) c hc.1, hg 7 (by decide) (by decide) e he]; exact hc.2⟩
  unfold pr_row at *
  rw [hg 2 (by decide) (by decide) e he, hg 3 (by decide) (by decide) e he, hg 4 (by decide) (by decide) e he, hg 5 (by decide) (by decide) e he, hg 6 (by decide) (by decide) e he, hr 22 (by decide) (by decide) e he, hr 23 (by decide) (by decide) e he, hr 24 (by decide) (by decide) e he, hr 25 (by decide) (by decide) e he]
  rcases h with h | h | h | ⟨h2, a, b, ha, hb, h⟩ | ⟨h2, a, ha, h⟩ | ⟨h2, m, a, b, c, hm, h3, q3, ha, hb, hc', h⟩ | ⟨h2, f, a, hf, h3, q3, ha, h4, q4, h⟩ | ⟨h2, v, a, b, hv, h3, q3, ha, hb, h⟩
  · exact Or.inl h
  · exact Or.inr (Or.inl h)
  · exact Or.inr (Or.inr (Or.inl h))
  · exact Or.inr (Or.inr (Or.inr (Or.inl ⟨h2, a, b, hc a ha, hc b hb, h⟩)))
  · exact Or.inr (Or.inr (Or.inr (Or.inr (Or.inl ⟨h2, a, hc a ha, h⟩))))
  · exact Or.inr (Or.inr (Or.inr (Or.inr (Or.inr (Or.inl ⟨h2, m, a, b, c, hm, h3, q3, hc a ha, hc b hb, hc c hc', h⟩)))))
  · refine Or.inr (Or.inr (Or.inr (Or.inr (Or.inr (Or.inr (Or.inl ⟨h2, f, a, hf, h3, q3, hc a ha, h4, q4, ?_⟩))))))
    rcases h with h | ⟨b, hb, h⟩
    · exact Or.inl h
    · exact Or.inr ⟨b, hc b hb, h⟩
  · exact Or.inr (Or.inr (Or.inr (Or.inr (Or.inr (Or.inr (Or.inr ⟨h2, v, a, b, hv, h3, q3, hc a ha, hc b hb, h⟩))))))
theorem iv_row {g r g' r' : st_I} {n : Nat} (hiv : iv g r) (h8 : g 1 8 = nI n) (hn9 : n ≤ 90) (hc : ∀ k, k < 2 ∨ 8 < k → g' k = g k) (hg : ∀ k, 2 ≤ k → k ≤ 8 → ∀ e, e < n → g' k e = g k e) (hr : ∀ k, k ≠ 20 → r' k = r k) (hr2 : ∀ j, j ≠ 35 → r' 20 j = r 20 j) : iv g' r' := by
  obtain ⟨m, a1, a2, a3, ⟨p, b1, b2, b3, b4⟩, a5⟩ := hiv
  have hm9 := a1.1
  have : m = n := by
    have := a1.2.1; rw [h8] at this
    exact ((nI_eq (by omega) (by omega)).mp this).symm
  subst this
  refine ⟨m, ⟨a1.1, by rw [hc 1 (Or.inl (by decide))]; exact a1.2.1, by rw [hr2 0 (by decide)]; exact a1.2.2.1, fun e he => ?_⟩, ?_, ?_, ⟨p, b1, by rw [hc 14 (Or.inr (by decide))]; exact b2, by rw [hr2 33 (by decide)]; exact b3, by rw [hc 15 (Or.inr (by decide)), hr 43 (by decide)]; exact b4⟩, by rw [hc 14 (Or.inr (by decide)), hr2 30 (by decide)]; exact a5⟩
  · obtain ⟨c1, c2, c3, c4⟩ := a1.2.2.2 e he
    rw [hr 21 (by decide), hr 26 (by decide), hr 27 (by decide), hg 2 (by decide) (by decide) e he, hg 7 (by decide) (by decide) e he, hg 8 (by decide) (by decide) e he]
    exact ⟨c1, c2, c3, pr_row_mo (Nat.le_refl _) he hg (fun k h1 h2 e he => by rw [hr k (by omega)]) c4⟩
  · unfold bod at *; rw [hc 9 (Or.inr (by decide)), hr 28 (by decide)]; exact a2
  · rw [hc 10 (Or.inr (by decide)), hc 11 (Or.inr (by decide)), hc 12 (Or.inr (by decide))]
    rcases a3 with a3 | a3
    · exact Or.inl a3
    · exact Or.inr (least_cg a1 a2 (fun k h1 h2 e he => hg k h1 (by omega) e he) (fun f hf => by rw [hc 9 (Or.inr (by decide))]) a3)
theorem iv_new {g r g' r' : st_I} {n : Nat} (hiv : iv g r) (h8 : g 1 8 = nI n) (hn9 : n < 90) (hc : ∀ k, 8 < k → g' k = g k) (h1' : g' 1 8 = nI (n + 1)) (hg : ∀ k, 2 ≤ k → k ≤ 8 → ∀ e, e < n → g' k e = g k e) (hr : ∀ k, 28 ≤ k → r' k = r k) (h20 : r' 20 0 = nI (n + 1)) (hr2 : ∀ j, j ≠ 35 → j ≠ 0 → r' 20 j = r 20 j) (hrr : ∀ k, 21 ≤ k → k ≤ 27 → ∀ e, e < n → r' k e = r k e) (nw : r' 21 n = g' 2 n ∧ (∃ d, d ≤ 5 ∧ g' 7 n = nI d ∧ r' 26 n = nI d) ∧ (∃ z, 1 ≤ z ∧ z ≤ 60 ∧ g' 8 n = nI z ∧ r' 27 n = nI z) ∧ pr_row g' r' (n + 1) n) : iv g' r' := by
  obtain ⟨m, a1, a2, a3, ⟨p, b1, b2, b3, b4⟩, a5⟩ := hiv
  have hm9 := a1.1
  have : m = n := by
    have := a1.2.1; rw [h8] at this
    exact ((nI_eq (by omega) (by omega)).mp this).symm
  subst this
  refine ⟨m + 1, ⟨by omega, h1', h20, fun e he => ?_⟩, ?_, ?_, ⟨p, b1, by rw [hc 14 (by decide)]; exact b2, by rw [hr2 33 (by decide) (by decide)]; exact b3, by rw [hc 15 (by decide), hr 43 (by decide)]; exact b4⟩, by rw [hc 14 (by decide), hr2 30 (by decide) (by decide)]; exact a5⟩
  · by_cases z : e < m
    · obtain ⟨c1, c2, c3, c4⟩ := a1.2.2.2 e z
      rw [hrr 21 (by decide) (by decide) e z, hrr 26 (by decide) (by decide) e z, hrr 27 (by decide) (by decide) e z, hg 2 (by decide) (by decide) e z, hg 7 (by decide) (by decide) e z, hg 8 (by decide) (by decide) e z]
      exact ⟨c1, c2, c3, pr_row_mo (Nat.le_succ _) z hg hrr c4⟩
    · have : e = m := by omega
      subst this; exact nw
  · intro f hf
    rw [hc 9 (by decide), hr 28 (by decide)]
    rcases a2 f hf with w | ⟨e, he, w⟩
    · exact Or.inl w
    · exact Or.inr ⟨e, by omega, w⟩
  · rw [hc 10 (by decide), hc 11 (by decide), hc 12 (by decide)]
    rcases a3 with a3 | a3
    · exact Or.inl a3
    · exact Or.inr (least_cg a1 a2 (fun k h1 h2 e he => hg k h1 (by omega) e he) (fun f hf => by rw [hc 9 (by decide)]) a3)
theorem cb_l {g : st_I} (q : st_L) (Q : Int32 → st_S → Prop) (h : Q (nI (ct (fun f => ¬ g 9 f = -1) 6)) (g, q)) : ∀ j k, j + k = 6 → wp_P_countBodies_L4 Q (j + 1) g q (nI (ct (fun f => ¬ g 9 f = -1) k)) (nI k) := by
  intro j
  induction j with
  | zero =>
    intro k hk
    have : k = 6 := by omega
    subst this
    rw [wp_P_countBodies_L4]
    simp only [show (6 : Int32) ≤ nI 6 from by decide, not_true, false_imp_iff, true_imp_iff, and_true]
    exact h
  | succ j ih =>
    intro k hk
    have z : ¬ (6 : Int32) ≤ nI k := nI_ge (b := 6) (by omega) (by omega)
    have ci : (nI k).toNatClampNeg = k := nI_clamp (by omega)
    have vi : vp_in (nI k) 6 := vp_in_nI (by omega) (by omega)
    have nx := ih (k + 1) (by omega)
    rw [wp_P_countBodies_L4]
    simp only [z, not_false_eq_true, false_imp_iff, true_imp_iff, true_and, ci, vi, nI_1, wp_P_countBodies_L23]
    refine ⟨fun w => ?_, fun w => ?_⟩
    · simp only [ct, w, not_true, if_false, Nat.add_zero] at nx; exact nx
    · simp only [ct, w, not_false_eq_true, if_true] at nx; exact nx
theorem rb_l {r : st_I} (P : Nat → Prop) [DecidablePred P] (hP : ∀ f, f < 6 → (P f ↔ ¬ r 28 f < 0)) (Q : Int32 → st_I → Prop) (h : Q (nI (ct P 6)) r) : ∀ j k, j + k = 6 → wp_M_define_L46 Q (j + 1) r (nI (ct P k)) (nI k) := by
  intro j
  induction j with
  | zero =>
    intro k hk
    have : k = 6 := by omega
    subst this
    rw [wp_M_define_L46]
    simp only [show (6 : Int32) ≤ nI 6 from by decide, not_true, false_imp_iff, true_imp_iff, and_true]
    exact h
  | succ j ih =>
    intro k hk
    have z : ¬ (6 : Int32) ≤ nI k := nI_ge (b := 6) (by omega) (by omega)
    have ci : (nI k).toNatClampNeg = k := nI_clamp (by omega)
    have vi : vp_in (nI k) 6 := vp_in_nI (by omega) (by omega)
    have nx := ih (k + 1) (by omega)
    have hk := hP k (by omega)
    rw [wp_M_define_L46]
    simp only [z, not_false_eq_true, false_imp_iff, true_imp_iff, true_and, ci, vi, nI_1, wp_M_define_L70]
    refine ⟨fun w => ?_, fun w => ?_⟩
    · have : ¬ P k := fun y => (hk.mp y) w
      simp only [ct, this, if_false, Nat.add_zero] at nx; exact nx
    · have : P k := hk.mpr w
      simp only [ct, this, if_true] at nx; exact nx
theorem op_define (a b : Int32) {g r : st_I} (q o : st_L) (hiv : iv g r) {C : Int32 → st_I × st_L × st_L → Int32 → st_I → Prop} (hC : ∀ x u y r', op_post x u y r' → C x u y r') : wp_L_define a b g q o (fun x u => wp_M_define a b r (fun y r' => C x u y r')) := by
  have hiv' := hiv
  obtain ⟨n, hp, hb, hl, hpa, hca⟩ := hiv
  have hn := hp.1
  have e5 : (5 : Int32) = nI 5 := rfl
  have bad : ∀ y, C 1 (g, q, o) y (st_u r 20 35 1) := fun y => hC _ _ _ _ ⟨by simp [st_u, upd], fun z => absurd z (by decide), iv_35 hiv' 1⟩
  simp only [wp_L_define, wp_S_define, ex_chF, ex_chE (n := n) (by omega) b g q hp.2.1, wp_M_define, wp_M_define_L17, wp_M_define_L22, e5, rx_out a 5 (by omega), rx_isP (n := n) (by omega) b r hp.2.2.1, cl_0, vi_1, true_and]
  by_cases h : isx 6 a
  · have h' : isx (5 + 1) a := h
    obtain ⟨f, hf, rfl⟩ := h
    have cf : (nI f).toNatClampNeg = f := nI_clamp (by omega)
    have vf : vp_in (nI f) 6 := vp_in_nI (by omega) (by omega)
    by_cases h2 : isx n b
    · have h2' := h2
      obtain ⟨e, he, rfl⟩ := h2
      simp only [h', h2', show isx 6 (nI f) from h', true_imp_iff, not_true, false_imp_iff, and_true, show ¬ (1 : Int32) = 0 from by decide, not_false_eq_true, wp_P_setBody, wp_K_forget, cf, vf, true_and]
      refine ⟨7, cb_l q _ ?_ 6 0 (by omega)⟩
      have hbn : bod (st_u (st_u g 9 f (nI e)) 10 4 0) (st_u (st_u r 20 35 0) 28 f (nI e)) n := by
        intro f' hf'
        rw [su_o _ _ _ _ _ (by decide), su_k, su_k]
        by_cases z : f' = f
        · simp only [z, if_true]; exact Or.inr ⟨e, he, rfl, rfl⟩
        · simp only [z, if_false]
          rw [su_o _ _ _ _ _ (by decide)]
          exact hb f' hf'
      refine ⟨7, rb_l (fun f' => ¬ (st_u (st_u g 9 f (nI e)) 10 4 0) 9 f' = -1) (fun f' hf' => ?_) _ ?_ 6 0 (by omega)⟩
      · rcases hbn f' hf' with ⟨w1, w2⟩ | ⟨e', he', w1, w2⟩
        · rw [w1, w2]; decide
        · rw [w1, w2]
          exact ⟨fun _ => nI_pos (by omega), fun _ => n1_ne hn he'⟩
      · refine hC _ _ _ _ ⟨by simp [st_u, upd], fun _ => ok_out o rfl _ q, ?_⟩
        refine ⟨n, ?_, hbn, Or.inl (by simp [st_u, upd]), ?_, ?_⟩
        · exact pr_r (pr_g hp (fun k h1 h2 => by show st_u (st_u g 9 f (nI e)) 10 4 0 k = g k; rw [su_o _ _ _ _ _ (by omega), su_o _ _ _ _ _ (by omega)])) (by simp [st_u, upd]) (fun k h1 h2 => by rw [su_o _ _ _ _ _ (by omega), su_o _ _ _ _ _ (by omega)])
        · obtain ⟨p, b1, b2, b3, b4⟩ := hpa
          refine ⟨p, b1, by simpa [st_u] using b2, by simpa [st_u, upd] using b3, fun j hj => ?_⟩
          have := b4 j hj
          simpa [st_u] using this
        · simpa [st_u, upd] using hca
    · simp only [h', h2, show isx 6 (nI f) from h', true_imp_iff, not_true, false_imp_iff, and_true, true_and, show ¬ (1 : Int32) = 0 from by decide, not_false_eq_true]
      exact bad _
  · have h' : ¬ isx (5 + 1) a := h
    simp only [h, h', true_imp_iff, not_false_eq_true, false_imp_iff, and_true, true_and, show ¬ (1 : Int32) = 0 from by decide]
    exact bad _
