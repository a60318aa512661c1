theorem iv_m {g r g' r' : st_I} (h : iv g r) (hg : ∀ k, k ≠ 14 → k ≠ 15 → g' k = g k) (hr : ∀ k, 21 ≤ k → k ≤ 28 → r' k = r k) (h0 : r' 20 0 = r 20 0) (hpt : ∃ p, p ≤ 60 ∧ g' 14 1 = nI p ∧ r' 20 33 = nI p ∧ ∀ j, j < p → g' 15 j = r' 43 j) (hcl : g' 14 2 = r' 20 30) : iv g' r' := by
  obtain ⟨n, a1, a2, a3, -, -⟩ := h
  refine ⟨n, pr_r (pr_g a1 (fun k h1 h2 => hg k (by omega) (by omega))) h0 (fun k h1 h2 => hr k h1 (by omega)), bod_r (bod_g a2 (hg 9 (by decide) (by decide))) (hr 28 (by decide) (by decide)), ?_, hpt, hcl⟩
  rw [hg 10 (by decide) (by decide), hg 11 (by decide) (by decide), hg 12 (by decide) (by decide)]
  rcases a3 with z | z
  · exact Or.inl z
  · exact Or.inr (least_cg a1 a2 (fun k h1 h2 e he => by rw [hg k (by omega) (by omega)]) (fun f hf => by rw [hg 9 (by decide) (by decide)]) z)
theorem iv_ST {g r g' r' : st_I} (h : iv g r) (hs : sST g (st_u r 20 35 0) g' r') (x : Int32) : iv g' (st_u r' 20 35 x) := by
  obtain ⟨c1, c2, c3, c4, c5⟩ := hs
  have h' := h
  obtain ⟨n, a1, a2, a3, ⟨p, b1, b2, b3, b4⟩, -⟩ := h
  refine iv_m h' (fun k h1 _ => c1 k h1) (fun k h1 h2 => ?_) ?_ ⟨p, b1, by rw [c2]; exact b2, ?_, fun j hj => ?_⟩ ?_
  · rw [su_o _ _ _ _ _ (by omega), c3 k (by omega) (by omega), su_o _ _ _ _ _ (by omega)]
  · rw [su_k, if_neg (by decide), c4 0 (by omega), su_k, if_neg (by decide)]
  · rw [su_k, if_neg (by decide), c4 33 (by omega), su_k, if_neg (by decide)]; exact b3
  · rw [c1 15 (by decide), su_o _ _ _ _ _ (by decide), c3 43 (by omega) (by omega), su_o _ _ _ _ _ (by decide)]; exact b4 j hj
  · rw [su_k, if_neg (by decide)]; exact c5
theorem run_good {g r : st_I} {n : Nat} (hiv : iv g r) (hp : pr_all g r n) (hb : bod g r n) {f e1 : Nat} (hf : f < 6) (he1 : e1 < n) (c : Int32) (hc : 3 ≤ f → ∃ e2, e2 < n ∧ c = nI e2) (q o : st_L) {C : Int32 → st_I × st_L × st_L → Int32 → st_I → Prop} (hC : ∀ x u y r', op_post x u y r' → C x u y r') {W : (Int32 → st_I → Prop) → Prop} (hW : ∀ Q : Int32 → st_I → Prop, wp_M_run_L36 Q r (nI f) (nI e1) c → W Q) : wp_S_run_L22 40 (fun E u7 => (E = "java/lang/IllegalArgumentException" ∨ E = "java/lang/UnsupportedOperationException" ∨ E = "java/lang/IllegalStateException") ∧ (E = "java/lang/IllegalArgumentException" → W (fun y r' => C 1 (u7.1, u7.2, o) y r')) ∧ (E = "java/lang/UnsupportedOperationException" → W (fun y r' => C 2 (u7.1, u7.2, o) y r')) ∧ (E = "java/lang/IllegalStateException" → W (fun y r' => C 3 (u7.1, u7.2, o) y r'))) (fun x7 u7 => vp_in (0 : Int32) 1 ∧ W (fun y r' => C 0 (u7.1, u7.2, (st_v o 44 ((0 : Int32)).toNatClampNeg (x7).toInt64)) y r')) g q (nI f) (nI e1) c := by
  obtain ⟨v, g', q', r', k1, k2, k3⟩ := run_core hp hb hf he1 c hc q
  unfold wp_S_run_L22
  rcases k3 with ⟨rfl, x1, x2⟩ | ⟨rfl, x1, x2, x3⟩ | ⟨x1, x2, φ, nv, P, S, F, PM, w, a1, hnv, hw, rfl, x3⟩
  · refine k1 _ ⟨fun _ => ⟨fun z => absurd ((lg_e _ _).mpr rfl) z, fun _ => ⟨Or.inr (Or.inr rfl), fun z => absurd z (by decide), fun z => absurd z (by decide), fun _ => hW _ (k2 _ ?_)⟩⟩, fun z => absurd ((lg_e _ _).mp z) (by decide)⟩
    unfold wp_M_run_L171
    refine ⟨fun z => absurd z x1, fun _ => ?_⟩
    unfold wp_M_run_L195
    refine ⟨fun z => absurd z (by decide), fun _ => hC _ _ _ _ ⟨by simp [st_u, upd], fun z => absurd z (by decide), iv_ST hiv x2 3⟩⟩
  · refine k1 _ ⟨fun z => absurd ((lg_e _ _).mpr rfl) z, fun _ => ⟨Or.inr (Or.inl rfl), fun z => absurd z (by decide), fun _ => hW _ (k2 _ ?_), fun z => absurd z (by decide)⟩⟩
    unfold wp_M_run_L171
    refine ⟨fun _ => ⟨fun z => absurd z (by rw [x2]; decide), fun _ => ?_⟩, fun z => absurd x1 z⟩
    unfold wp_M_run_L195
    refine ⟨fun z => absurd z (by decide), fun _ => hC _ _ _ _ ⟨by simp [st_u, upd], fun z => absurd z (by decide), iv_ST hiv x3 2⟩⟩
  · have ne1 := v_ne a1.2.2 hw (-1) (by decide)
    have ne2 := v_ne a1.2.2 hw (-2) (by decide)
    have S200 : S ≤ 200 := a1.2.1.2.2.2.2.2.2.1
    have P40 : PM ≤ 40 := a1.2.1.2.2.2.2.2.2.2.2
    have PP := a1.2.2.2.2.1
    have kw := (vr_ko (a1.2.2.2.2.2.1 w hw)).1
    have cw' : (nI w).toNatClampNeg = w := nI_clamp (by omega)
    have vw : vp_in (nI w) 460 := vp_in_nI (by omega) (by omega)
    obtain ⟨⟨c1, c2, c3, c4, c5⟩, -, -, -, -, hrow, -⟩ := a1
    obtain ⟨c', g2, q2, r2, j1, j2, j3, j4, j5, j6, j7, j8⟩ := flt (φ := φ) (nv := nv) (P := P) (by omega) (by omega) 60 0 1 g' (st_v q' 19 0 (φ w)) (st_u (st_u (st_u r' 20 35 0) 41 0 (nI w)) 20 33 0) (by omega) (by omega) (fun v hv => vrow_c (hrow v hv) (sv_o _ _ _ _ _ (by decide)) (sv_o _ _ _ _ _ (by decide)) (by simp [st_u]) (by simp [st_u]) (by simp [st_u]) (by simp [st_u])) (fun j hj => by
      have : j = 0 := by omega
      subst this
      exact ⟨w, hw, by simp [st_v, vp_updL], by simp [st_u, upd]⟩) (by simp [st_u, upd]; rfl) (fun j hj => absurd hj (by omega))
    refine k1 _ ⟨fun _ => ⟨fun _ => ?_, fun z => absurd ((lg_e _ _).mp z) ne2⟩, fun z => absurd ((lg_e _ _).mp z) ne1⟩
    unfold wp_H_keepParts
    refine ⟨vp_in_nI (n := 0) (by omega) (by omega), j2 _ ?_⟩
    show vp_in (0 : Int32) 1 ∧ _
    refine ⟨vi_1, hW _ (k2 _ ?_)⟩
    unfold wp_M_run_L171
    refine ⟨fun _ => ⟨fun _ => ?_, fun z => absurd x2 z⟩, fun z => absurd x1 z⟩
    unfold wp_M_run_L195
    refine ⟨fun _ => ?_, fun z => absurd rfl z⟩
    unfold wp_M_flatten
    refine ⟨vp_in_nI (n := 0) (by omega) (by omega), ?_⟩
    rw [x3]
    refine j3 _ ?_
    have e18 : r2 20 18 = nI w := by rw [j6 18 (by decide)]; simpa [st_u, upd] using x3
    have e37 : r2 37 w = r' 37 w := by rw [j5 37 (by decide) (by decide) (by decide)]; simp [st_u]
    show vp_in (r2 20 18) 460 ∧ C 0 _ (r2 37 (r2 20 18).toNatClampNeg) r2
    rw [e18, cw']
    refine ⟨vw, hC _ _ _ _ ⟨?_, fun _ => ?_, ?_⟩⟩
    · rw [j6 35 (by decide)]; simp [st_u, upd]
    · rw [e37]; exact ok_out o kw _ q2
    · refine iv_m hiv (fun k h1 h2 => ?_) (fun k h1 h2 => ?_) ?_ ⟨c', j1, by simp [st_u, upd], j7, fun j hj => ?_⟩ ?_
      · show st_u g2 14 1 (nI c') k = g k
        rw [su_o _ _ _ _ _ h1, j4 k h2, c1 k h1]
      · rw [j5 k (by omega) (by omega) (by omega), su_o _ _ _ _ _ (by omega), su_o _ _ _ _ _ (by omega), su_o _ _ _ _ _ (by omega), c3 k (by omega) (by omega), su_o _ _ _ _ _ (by omega)]
      · rw [j6 0 (by decide)]
        have := c4 0 (by omega)
        simpa [st_u, upd] using this
      · show st_u g2 14 1 (nI c') 15 j = r2 43 j
        rw [su_o _ _ _ _ _ (by decide)]; exact j8 j hj
      · show st_u g2 14 1 (nI c') 14 2 = r2 20 30
        rw [su_k, if_neg (by decide), j4 14 (by decide), j6 30 (by decide)]
        simpa [st_u, upd] using c5
theorem op_run (a b c : Int32) {g r : st_I} (q o : st_L) (hiv : iv g r) {C : Int32 → st_I × st_L × st_L → Int32 → st_I → Prop} (hC : ∀ x u y r', op_post x u y r' → C x u y r') : wp_L_run 40 a b c g q o (fun x u => wp_M_run a b c r (fun y r' => C x u y r')) := by
  have hiv' := hiv
  obtain ⟨n, hp, hb, -, -, -⟩ := hiv
  have hn := hp.1
  have e5 : (5 : Int32) = nI 5 := rfl
  have bad : ∀ y, C 1 (g, q, o) y (st_u r 20 35 1) := fun y => hC _ _ _ _ ⟨by simp [st_u, upd], fun z => absurd z (by decide), iv_35 hiv' 1⟩
  have badr : ∀ Q : Int32 → st_I → Prop, Q 0 (st_u r 20 35 1) → wp_M_run_L32 Q r a b c := by
    intro Q hQ
    unfold wp_M_run_L32 wp_M_run_L37
    refine ⟨fun z => absurd z (by decide), fun _ => ?_⟩
    unfold wp_M_run_L50
    exact ⟨fun z => absurd z (by decide), fun _ => hQ⟩
  have badE : ∀ {P1 P2 P3 : Prop}, P1 → (("java/lang/IllegalArgumentException" = "java/lang/IllegalArgumentException" ∨ "java/lang/IllegalArgumentException" = "java/lang/UnsupportedOperationException" ∨ "java/lang/IllegalArgumentException" = "java/lang/IllegalStateException") ∧ ("java/lang/IllegalArgumentException" = "java/lang/IllegalArgumentException" → P1) ∧ ("java/lang/IllegalArgumentException" = "java/lang/UnsupportedOperationException" → P2) ∧ ("java/lang/IllegalArgumentException" = "java/lang/IllegalStateException" → P3)) := fun h => ⟨Or.inl rfl, fun _ => h, fun z => absurd z (by decide), fun z => absurd z (by decide)⟩
  unfold wp_L_run wp_S_run
  rw [ex_chF]
  refine ⟨fun ha => ?_, fun ha => badE ?_⟩
  · rw [ex_chE (by omega) b g q hp.2.1]
    refine ⟨fun hb1 => ?_, fun hb1 => badE ?_⟩
    · obtain ⟨f, hf, rfl⟩ := ha
      obtain ⟨e1, he1, rfl⟩ := hb1
      have hF : isx (5 + 1) (nI f) := ⟨f, hf, rfl⟩
      have hE : isx n (nI e1) := ⟨e1, he1, rfl⟩
      have le3 : ((3 : Int32) ≤ nI f) ↔ 3 ≤ f := nI_leI (a := 3) (by omega) (by omega)
      have mr : ∀ Q : Int32 → st_I → Prop, (3 ≤ f → wp_M_isPart c r (fun x26 u26 => (¬ x26 = 0 → wp_M_run_L36 Q u26 (nI f) (nI e1) c) ∧ (x26 = 0 → wp_M_run_L32 Q u26 (nI f) (nI e1) c))) → (¬ 3 ≤ f → wp_M_run_L36 Q r (nI f) (nI e1) c) → wp_M_run (nI f) (nI e1) c r Q := by
        intro Q h1 h2
        unfold wp_M_run
        rw [e5, rx_out _ 5 (by omega)]
        refine ⟨fun _ => ⟨fun z => absurd rfl z, fun _ => ?_⟩, fun z => absurd hF z⟩
        rw [rx_isP (by omega) _ _ hp.2.2.1]
        refine ⟨fun _ => ⟨fun z => absurd z (by decide), fun _ => ?_⟩, fun z => absurd hE z⟩
        rw [rx_pms]
        exact ⟨fun z => ⟨fun w => absurd rfl w, fun _ => h1 (le3.mp z)⟩, fun z => ⟨fun _ => h2 (fun w => z (le3.mpr w)), fun w => absurd w (by decide)⟩⟩
      rw [ex_pms]
      refine ⟨fun z => ⟨fun w => absurd rfl w, fun _ => ?_⟩, fun z => ⟨fun _ => ?_, fun w => absurd w (by decide)⟩⟩
      · have z3 := le3.mp z
        rw [ex_chE (by omega) c g q hp.2.1]
        refine ⟨fun hc1 => ?_, fun hc1 => badE ?_⟩
        · refine run_good (W := fun Q => wp_M_run (nI f) (nI e1) c r Q) hiv' hp hb hf he1 c (fun _ => hc1) q o hC (fun Q hQ => mr Q (fun _ => ?_) (fun w => absurd z3 w))
          rw [rx_isP (by omega) _ _ hp.2.2.1]
          exact ⟨fun _ => ⟨fun _ => hQ, fun w => absurd w (by decide)⟩, fun w => absurd hc1 w⟩
        · refine mr _ (fun _ => ?_) (fun w => absurd z3 w)
          rw [rx_isP (by omega) _ _ hp.2.2.1]
          exact ⟨fun w => absurd w hc1, fun _ => ⟨fun w => absurd rfl w, fun _ => badr _ (bad _)⟩⟩
      · have z3 : ¬ 3 ≤ f := fun w => z (le3.mpr w)
        exact run_good (W := fun Q => wp_M_run (nI f) (nI e1) c r Q) hiv' hp hb hf he1 c (fun w => absurd w z3) q o hC (fun Q hQ => mr Q (fun w => absurd w z3) (fun _ => hQ))
    · have ha' : isx (5 + 1) a := ha
      show wp_M_run a b c r _
      unfold wp_M_run
      rw [e5, rx_out _ 5 (by omega)]
      refine ⟨fun _ => ⟨fun z => absurd rfl z, fun _ => ?_⟩, fun z => absurd ha' z⟩
      rw [rx_isP (by omega) _ _ hp.2.2.1]
      exact ⟨fun z => absurd z hb1, fun _ => ⟨fun _ => badr _ (bad _), fun z => absurd rfl z⟩⟩
  · have ha' : ¬ isx (5 + 1) a := ha
    show wp_M_run a b c r _
    unfold wp_M_run
    rw [e5, rx_out _ 5 (by omega)]
    exact ⟨fun z => absurd z ha', fun _ => ⟨fun _ => badr _ (bad _), fun z => absurd z (by decide)⟩⟩
