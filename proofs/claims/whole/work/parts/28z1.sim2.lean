theorem gk_of {g0 r0 g r : st_I} {x : Int32} (h : sST g0 r0 (st_u g 14 10 x) r) : ∀ k, k ≠ 14 → g k = g0 k := fun k hk => by have := h.1 k hk; rwa [su_o _ _ _ _ _ hk] at this
theorem st_r {g0 r0 g r : st_I} (h : sST g0 r0 g r) : ∀ k, 20 < k → k < 33 → r k = r0 k := fun k h1 h2 => h.2.2.1 k (by omega) (Or.inl h2)
theorem cB_u {d e oc S : Nat} (he : e < 90) {g : st_I} (hgS : g 14 10 = nI S) (hS : S < 200) (hs : g 2 e = 7 ∨ g 2 e = 8) (q : st_L) (Q : Int64 → st_S → Prop) (h : wp_H_headOrTail (wp_H_workOut d) (nI e) (nI oc) (st_u g 14 10 (nI (S + 1))) q Q) : wp_H_workOut (d + 1) (nI e) (nI oc) g q Q := by
  show wp_H_workOut_B (wp_H_workOut d) (nI e) (nI oc) g q Q
  have ce : (nI e).toNatClampNeg = e := nI_clamp (by omega)
  have ve : vp_in (nI e) 91 := vp_in_nI (by omega) (by omega)
  have lS : nI S < (200 : Int32) := nI_lt (b := 200) hS (by omega)
  rcases hs with h2 | h2 <;> simp only [wp_H_workOut_B, wp_H_workOut_L141, hgS, lS, ce, ve, h2, nI_1] <;> simp <;> exact h
theorem cB_2 {d e oc S : Nat} (he : e < 90) {g : st_I} (hgS : g 14 10 = nI S) (hS : S < 200) (hs : g 2 e = 4 ∨ g 2 e = 5 ∨ g 2 e = 6 ∨ g 2 e = 13) (q : st_L) (Q : Int64 → st_S → Prop) (h : wp_H_fromTwo (wp_H_workOut d) (nI e) (nI oc) (st_u g 14 10 (nI (S + 1))) q Q) : wp_H_workOut (d + 1) (nI e) (nI oc) g q Q := by
  show wp_H_workOut_B (wp_H_workOut d) (nI e) (nI oc) g q Q
  have ce : (nI e).toNatClampNeg = e := nI_clamp (by omega)
  have ve : vp_in (nI e) 91 := vp_in_nI (by omega) (by omega)
  have lS : nI S < (200 : Int32) := nI_lt (b := 200) hS (by omega)
  rcases hs with h2 | h2 | h2 | h2 <;> simp only [wp_H_workOut_B, wp_H_workOut_L199, hgS, lS, ce, ve, h2, nI_1] <;> simp <;> exact h
theorem cB_9 {d e oc S : Nat} (he : e < 90) {g : st_I} (hgS : g 14 10 = nI S) (hS : S < 200) (hs : g 2 e = 9) (q : st_L) (Q : Int64 → st_S → Prop) (h : wp_H_oneOfCase (wp_H_workOut d) (nI e) (nI oc) (st_u g 14 10 (nI (S + 1))) q Q) : wp_H_workOut (d + 1) (nI e) (nI oc) g q Q := by
  show wp_H_workOut_B (wp_H_workOut d) (nI e) (nI oc) g q Q
  have ce : (nI e).toNatClampNeg = e := nI_clamp (by omega)
  have ve : vp_in (nI e) 91 := vp_in_nI (by omega) (by omega)
  have lS : nI S < (200 : Int32) := nI_lt (b := 200) hS (by omega)
  simp only [wp_H_workOut_B, hgS, lS, ce, ve, hs, nI_1]
  simp
  exact h
theorem cB_10 {d e oc S : Nat} (he : e < 90) {g : st_I} (hgS : g 14 10 = nI S) (hS : S < 200) (hs : g 2 e = 10) (q : st_L) (Q : Int64 → st_S → Prop) (h : wp_H_callWith (wp_H_workOut d) (g 3 e) (g 4 e) (g 5 e) (nI oc) (st_u g 14 10 (nI (S + 1))) q Q) : wp_H_workOut (d + 1) (nI e) (nI oc) g q Q := by
  show wp_H_workOut_B (wp_H_workOut d) (nI e) (nI oc) g q Q
  have ce : (nI e).toNatClampNeg = e := nI_clamp (by omega)
  have ve : vp_in (nI e) 91 := vp_in_nI (by omega) (by omega)
  have lS : nI S < (200 : Int32) := nI_lt (b := 200) hS (by omega)
  simp only [wp_H_workOut_B, hgS, lS, ce, ve, hs, nI_1]
  simp
  exact h
theorem cB_11 {d e oc S : Nat} (he : e < 90) {g : st_I} (hgS : g 14 10 = nI S) (hS : S < 200) (hs : g 2 e = 11) (q : st_L) (Q : Int64 → st_S → Prop) (h : wp_H_letIn (wp_H_workOut d) (nI e) (nI oc) (st_u g 14 10 (nI (S + 1))) q Q) : wp_H_workOut (d + 1) (nI e) (nI oc) g q Q := by
  show wp_H_workOut_B (wp_H_workOut d) (nI e) (nI oc) g q Q
  have ce : (nI e).toNatClampNeg = e := nI_clamp (by omega)
  have ve : vp_in (nI e) 91 := vp_in_nI (by omega) (by omega)
  have lS : nI S < (200 : Int32) := nI_lt (b := 200) hS (by omega)
  simp only [wp_H_workOut_B, hgS, lS, ce, ve, hs, nI_1]
  simp
  exact h
theorem cB_12 {d e oc S : Nat} (he : e < 90) {g : st_I} (hgS : g 14 10 = nI S) (hS : S < 200) (hs : g 2 e = 12) (q : st_L) (Q : Int64 → st_S → Prop) (h : wp_H_firstOrElse (wp_H_workOut d) (nI e) (nI oc) (st_u g 14 10 (nI (S + 1))) q Q) : wp_H_workOut (d + 1) (nI e) (nI oc) g q Q := by
  show wp_H_workOut_B (wp_H_workOut d) (nI e) (nI oc) g q Q
  have ce : (nI e).toNatClampNeg = e := nI_clamp (by omega)
  have ve : vp_in (nI e) 91 := vp_in_nI (by omega) (by omega)
  have lS : nI S < (200 : Int32) := nI_lt (b := 200) hS (by omega)
  simp only [wp_H_workOut_B, hgS, lS, ce, ve, hs, nI_1]
  simp
  exact h
theorem pop_f {g0 r0 : st_I} {n : Nat} (hp : pr_all g0 r0 n) {oc lev e : Nat} (hl : lev < 63) (he : e < n) {t : Int32} {q : st_L} {r : st_I} {φ : Nat → Int64} {nv : Nat} {g1 : st_I} {q1 : st_L} {R : st_I} {φ1 : Nat → Int64} {nv1 P1 S1 F1 PM1 : Nat} (h : FS g0 r0 oc lev e t q r φ nv g1 q1 R φ1 nv1 P1 S1 F1 PM1) (h24 : R 20 24 = 1) (hns : ¬ g0 2 e = 12 ∨ ¬ t = 1) (hnc : ¬ g0 2 e = 10 ∨ t < 4) : goes R (st_u (st_u R 20 29 (R 20 29)) 20 13 (nI lev)) := by
  obtain ⟨a1, a2, a3, a4, a5, a6, a7, a8, a9, a10, a11⟩ := h
  have hn := hp.1
  have r21 : R 21 e = g0 2 e := by rw [st_r a1.1 21 (by omega) (by omega), (hp.2.2.2 e he).1]
  refine goes_u hl a6 a7 h24 (fun K hK => ?_)
  exact goup_pop hl (by omega) a6 a9 (by rw [r21, a10]; exact hns) (by rw [r21, a10]; exact hnc) K hK
theorem sim_un {g0 r0 : st_I} {n d : Nat} (hp : pr_all g0 r0 n) (ih : SIM g0 r0 n d) {e oc lev : Nat} {g : st_I} {q : st_L} {r : st_I} {φ : Nat → Int64} {nv P S F PM : Nat} (he : e < n) (hoc : oc ≤ 5) (hd : (5 - oc) * 6 + (g0 7 e).toNatClampNeg + 1 ≤ d + 1) (hl : lev + (5 - oc) * 6 + (g0 7 e).toNatClampNeg ≤ 40) (hgS : g 14 10 = nI S) (hS : S < 200) (h : FS g0 r0 oc lev e 0 q r φ nv (st_u g 14 10 (nI (S + 1))) q r φ nv P (S + 1) F PM) (h24 : r 20 24 = 0) (hs : g0 2 e = 7 ∨ g0 2 e = 8) {a : Nat} (ha : pr_c g0 n e a) (h4 : g0 4 e = nI a) (q4 : r0 22 e = nI a) : ∃ v g' q' r', cw (d + 1) e oc g q v g' q' ∧ goes r r' ∧ OUT g0 r0 oc lev q r φ nv v g' q' r' := by
  have hn := hp.1
  have h' := h
  obtain ⟨a1, a2, a3, a4, a5, a6, a7, a8, a9, a10, a11⟩ := h
  have gk := gk_of a1.1
  have ce : (nI e).toNatClampNeg = e := nI_clamp (by omega)
  have ve : vp_in (nI e) 91 := vp_in_nI (by omega) (by omega)
  have hs21 : r0 21 e = g0 2 e := (hp.2.2.2 e he).1
  have r21 : r 21 e = g0 2 e := by rw [st_r a1.1 21 (by omega) (by omega), hs21]
  have FT := FS_t h' 1
  have t24 : (st_u r 34 lev 1) 20 24 = 0 := by simpa [st_u] using h24
  obtain ⟨Rp, v, g', q', r', k1, k2, k3, k4⟩ := kid ih ha hoc hd hl FT t24
  have go1 : goes r r' := by
    refine goes_tr (goes_w (by omega) a6 a7 h24 (fun K hK => ?_)) k3
    rw [wo_0 (by omega) (by omega) a6 a9 a10, r21]
    refine w7_0a (by omega) (by rcases hs with w | w <;> simp [w]) K ?_
    rw [su_o _ _ _ _ _ (by decide), st_r a1.1 22 (by omega) (by omega), q4]
    exact k1 K hK
  have e4 : st_u g 14 10 (nI (S + 1)) 4 e = nI a := by rw [su_o _ _ _ _ _ (by decide), gk 4 (by decide), h4]
  have cl : ∀ Q, wp_H_headOrTail (wp_H_workOut d) (nI e) (nI oc) (st_u g 14 10 (nI (S + 1))) q Q → wp_H_workOut (d + 1) (nI e) (nI oc) g q Q := fun Q => cB_u (by omega) hgS hS (by rw [gk 2 (by decide)]; exact hs) q Q
  rcases k4 with ⟨rfl, k5, k6⟩ | ⟨φ2, nv2, P2, S2, F2, PM2, f2, e2, -, -, ⟨rfl, k5⟩ | ⟨k5, w, hw, rfl, k6⟩⟩
  · refine ⟨-2, g', q', r', fun Q hQ => cl Q ?_, go1, Or.inl ⟨rfl, k5, k6⟩⟩
    simp only [wp_H_headOrTail, ce, ve, e4, true_and]
    exact k2 _ ⟨fun z => absurd z m_ge2, fun _ => hQ⟩
  · refine ⟨-1, g', q', _, fun Q hQ => cl Q ?_, goes_tr go1 (pop_f hp (by omega) he f2 k5 (Or.inl (by rcases hs with w | w <;> rw [w] <;> decide)) (Or.inl (by rcases hs with w | w <;> rw [w] <;> decide))), fin_u f2 k5⟩
    simp only [wp_H_headOrTail, ce, ve, e4, true_and]
    exact k2 _ ⟨fun z => absurd z m_ge1, fun _ => hQ⟩
  · have f2' := f2
    obtain ⟨b1, b2, b3, b4, b5, b6, b7, b8, b9, b10, b11⟩ := f2
    have gk' := b1.1.1
    have F6 : F2 ≤ 6 := b1.2.1.2.2.2.2.2.2.2.1
    have P40 : PM2 ≤ 40 := b1.2.1.2.2.2.2.2.2.2.2
    have PP := b1.2.2.2.2.1
    have nvb : nv2 ≤ 200 := by have := b1.2.1.2.2.2.2.2.2.1; omega
    have g11 : g' 14 11 = nI F2 := b1.2.1.2.2.1
    have ge := v_ge b1.2.2 hw
    have FU := FS_u (FS_t f2' 2) (2 * lev) (r' 20 18) (Or.inl rfl)
    have vw := b1.2.2.2.2.2.1 w hw
    have kw := (vr_ko vw).1
    have r21' : r' 21 e = g0 2 e := by rw [st_r b1.1 21 (by omega) (by omega), hs21]
    have stp : ∀ R3 : st_I, (∀ K : st_I → Prop, K R3 → wp_M_workOn_L67 K (st_u (st_u r' 34 lev 2) 36 (2 * lev) (r' 20 18)) (nI lev) (nI e) (g0 2 e) 1) → goes r R3 := by
      intro R3 hR3
      refine goes_tr go1 (goes_w (by omega) b6 b7 k5 (fun K hK => ?_))
      rw [wo_1 (by omega) (by omega) b6 b9 b10, r21']
      exact hR3 K hK
    have o3 : (st_u (st_u r' 34 lev 2) 36 (2 * lev) (r' 20 18)) 20 13 = nI (lev + 1) := by simpa [st_u] using b6
    have f3 : (st_u (st_u r' 34 lev 2) 36 (2 * lev) (r' 20 18)) 20 28 = nI F2 := by simpa [st_u] using b1.2.1.2.2.2.1
    have b3' : (st_u (st_u r' 34 lev 2) 36 (2 * lev) (r' 20 18)) 20 18 = nI w := by simpa [st_u] using k6
    have t24' : (st_u (st_u r' 34 lev 2) 36 (2 * lev) (r' 20 18)) 20 24 = 0 := by simpa [st_u] using k5
    have e37 : (st_u (st_u r' 34 lev 2) 36 (2 * lev) (r' 20 18)) 37 w = r' 37 w := by simp [st_u]
    have e39 : (st_u (st_u r' 34 lev 2) 36 (2 * lev) (r' 20 18)) 39 w = r' 39 w := by simp [st_u]
    have e40 : (st_u (st_u r' 34 lev 2) 36 (2 * lev) (r' 20 18)) 40 w = r' 40 w := by simp [st_u]
    rcases vw with ⟨k, hk, x1, x2⟩ | ⟨x1, x2, p, la, ra, hpp, hla, hra, x3, x4, x5, x6, x7⟩
    · have n8 : ¬ r' 37 w = 8 := by
        rw [x1]; intro z
        have := (nI_eq (a := k) (b := 8) (by omega) (by omega)).mp z
        omega
      refine ⟨_, _, _, _, fun Q hQ => cl Q ?_, stp _ (fun K hK => ?_), fin_f FU⟩
      · simp only [wp_H_headOrTail, ce, ve, e4, true_and]
        refine k2 _ ⟨fun _ => ?_, fun z => absurd ge z⟩
        rw [ex_isPair, kw]
        refine ⟨fun z => absurd z n8, fun _ => ⟨fun z => absurd rfl z, fun _ => ?_⟩⟩
        exact (ex_fail F6 g11 q' _).mpr hQ
      · exact w7_1u (by omega) (by omega) (by omega) F6 o3 f3 b3' hs K (fun z => absurd (e37 ▸ z) n8) (fun _ => hK)
    · have cp : (nI p).toNatClampNeg = p := nI_clamp (by omega)
      have vp' : vp_in (nI p) 40 := vp_in_nI (by omega) (by omega)
      have dt : (φ2 w).toInt32 = nI p := by rw [x3, dt_vl]
      rcases hs with hs | hs
      · refine ⟨_, _, _, _, fun Q hQ => cl Q ?_, stp _ (fun K hK => ?_), fin_v FU t24' (show la < nv2 by omega)⟩
        · simp only [wp_H_headOrTail, ce, ve, e4, true_and]
          refine k2 _ ⟨fun _ => ?_, fun z => absurd ge z⟩
          rw [ex_isPair, kw]
          refine ⟨fun _ => ⟨fun _ => ?_, fun z => absurd z (by decide)⟩, fun z => absurd x1 z⟩
          simp only [gk' 2 (by decide), hs, not_true, false_imp_iff, true_imp_iff, true_and, ex_detailOf, dt, cp, vp', wp_H_headOrTail_L70, x6]
          exact hQ
        · refine w7_1u (by omega) (by omega) (by omega) F6 o3 f3 b3' (Or.inl hs) K (fun _ => ?_) (fun z => absurd (by rw [e37]; exact x1) z)
          rw [if_pos hs, e39, x4]; exact hK
      · refine ⟨_, _, _, _, fun Q hQ => cl Q ?_, stp _ (fun K hK => ?_), fin_v FU t24' (show ra < nv2 by omega)⟩
        · simp only [wp_H_headOrTail, ce, ve, e4, true_and]
          refine k2 _ ⟨fun _ => ?_, fun z => absurd ge z⟩
          rw [ex_isPair, kw]
          refine ⟨fun _ => ⟨fun _ => ?_, fun z => absurd z (by decide)⟩, fun z => absurd x1 z⟩
          simp only [gk' 2 (by decide), hs, show ¬ (8 : Int32) = 7 from by decide, not_false_eq_true, false_imp_iff, true_imp_iff, true_and, and_true, ex_detailOf, dt, cp, vp', wp_H_headOrTail_L70, x7]
          exact hQ
        · refine w7_1u (by omega) (by omega) (by omega) F6 o3 f3 b3' (Or.inr hs) K (fun _ => ?_) (fun z => absurd (by rw [e37]; exact x1) z)
          rw [if_neg (by rw [hs]; decide), e40, x5]; exact hK
