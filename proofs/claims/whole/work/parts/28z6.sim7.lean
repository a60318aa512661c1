theorem sim_let {g0 r0 : st_I} {n d : Nat} (hp : pr_all g0 r0 n) (ih : SIM g0 r0 n d) {e oc lev : Nat} {g : st_I} {q : st_L} {r : st_I} {φ : Nat → Int64} {nv P S F PM : Nat} (he : e < n) (hoc : oc ≤ 5) (hd : (5 - oc) * 6 + (g0 7 e).toNatClampNeg + 1 ≤ d + 1) (hl : lev + (5 - oc) * 6 + (g0 7 e).toNatClampNeg ≤ 40) (hgS : g 14 10 = nI S) (hS : S < 200) (h : FS g0 r0 oc lev e 0 q r φ nv (st_u g 14 10 (nI (S + 1))) q r φ nv P (S + 1) F PM) (h24 : r 20 24 = 0) (hs : g0 2 e = 11) {vn a b : Nat} (hvn : vn < 4) (h3 : g0 3 e = nI vn) (q3 : r0 22 e = nI vn) (ha : pr_c g0 n e a) (hb : pr_c g0 n e b) (h4 : g0 4 e = nI a) (q4 : r0 23 e = nI a) (h5 : g0 5 e = nI b) (q5 : r0 24 e = nI b) : ∃ v g' q' r', cw (d + 1) e oc g q v g' q' ∧ goes r r' ∧ OUT g0 r0 oc lev q r φ nv v g' q' r' := by
  have hn := hp.1
  have h' := h
  obtain ⟨a1, a2, a3, a4, a5, a6, a7, a8, a9, a10, a11⟩ := h
  have gk := gk_of a1.1
  have ce : (nI e).toNatClampNeg = e := nI_clamp (by omega)
  have ve : vp_in (nI e) 91 := vp_in_nI (by omega) (by omega)
  have hdb := hb.2
  have hs21 : r0 21 e = g0 2 e := (hp.2.2.2 e he).1
  have r21 : r 21 e = g0 2 e := by rw [st_r a1.1 21 (by omega) (by omega), hs21]
  have FT := FS_t h' 1
  have t24 : (st_u r 34 lev 1) 20 24 = 0 := by simpa [st_u] using h24
  obtain ⟨Rp, v, g', q', r', k1, k2, k3, k4⟩ := kid ih ha hoc hd hl FT t24
  have go1 : goes r r' := by
    refine goes_tr (goes_w (by omega) a6 a7 h24 (fun K hK => ?_)) k3
    rw [wo_0 (by omega) (by omega) a6 a9 a10, r21]
    refine w7_0b (by omega) (by simp [hs]) K ?_
    rw [su_o _ _ _ _ _ (by decide), st_r a1.1 23 (by omega) (by omega), q4]
    exact k1 K hK
  have n12 : ¬ g0 2 e = 12 := by rw [hs]; decide
  have n10 : ¬ g0 2 e = 10 := by rw [hs]; decide
  have e4 : st_u g 14 10 (nI (S + 1)) 4 e = nI a := by rw [su_o _ _ _ _ _ (by decide), gk 4 (by decide), h4]
  have cl : ∀ Q, wp_H_letIn (wp_H_workOut d) (nI e) (nI oc) (st_u g 14 10 (nI (S + 1))) q Q → wp_H_workOut (d + 1) (nI e) (nI oc) g q Q := fun Q => cB_11 (by omega) hgS hS (by rw [gk 2 (by decide)]; exact hs) q Q
  rcases k4 with ⟨rfl, k5, k6⟩ | ⟨φ2, nv2, P2, S2, F2, PM2, f2, e2, -, -, ⟨rfl, k5⟩ | ⟨k5, w, hw, rfl, k6⟩⟩
  · refine ⟨-2, g', q', r', fun Q hQ => cl Q ?_, go1, Or.inl ⟨rfl, k5, k6⟩⟩
    simp only [wp_H_letIn, ce, ve, e4, true_and]
    exact k2 _ ⟨fun z => absurd z m_ge2, fun _ => hQ⟩
  · refine ⟨-1, g', q', _, fun Q hQ => cl Q ?_, goes_tr go1 (pop_f hp (by omega) he f2 k5 (Or.inl n12) (Or.inl n10)), fin_u f2 k5⟩
    simp only [wp_H_letIn, ce, ve, e4, true_and]
    exact k2 _ ⟨fun z => absurd z m_ge1, fun _ => hQ⟩
  · have FU := FS_u (FS_t f2 2) (2 * lev) (r' 20 18) (Or.inl rfl)
    obtain ⟨b1, b2, b3, b4, b5, b6, b7, b8, b9, b10, b11⟩ := f2
    have ge := v_ge b1.2.2 hw
    have S200 : S2 ≤ 200 := b1.2.1.2.2.2.2.2.2.1
    have r21' : r' 21 e = 11 := by rw [st_r b1.1 21 (by omega) (by omega), hs21, hs]
    have s22 : st_u (st_u r' 34 lev 2) 36 (2 * lev) (r' 20 18) 22 e = nI vn := by
      rw [su_o _ _ _ _ _ (by decide), su_o _ _ _ _ _ (by decide), st_r b1.1 22 (by omega) (by omega), q3]
    have s24 : st_u (st_u r' 34 lev 2) 36 (2 * lev) (r' 20 18) 24 e = nI b := by
      rw [su_o _ _ _ _ _ (by decide), su_o _ _ _ _ _ (by decide), st_r b1.1 24 (by omega) (by omega), q5]
    have s36 : st_u (st_u r' 34 lev 2) 36 (2 * lev) (r' 20 18) 36 (2 * lev) = nI w := by simp [st_u, upd, k6]
    have m4 : nI oc * (4 : Int32) = nI (4 * oc) := by rw [Nat.mul_comm]; exact pk_mul oc 4
    have ad : nI (4 * oc) + nI vn = nI (4 * oc + vn) := nI_add _ _
    have cv : (nI (4 * oc + vn)).toNatClampNeg = 4 * oc + vn := nI_clamp (by omega)
    have vv : vp_in (nI (4 * oc + vn)) 24 := vp_in_nI (by omega) (by omega)
    have g3 : g' 3 e = nI vn := by rw [b1.1.1 3 (by decide), h3]
    have g5 : g' 5 e = nI b := by rw [b1.1.1 5 (by decide), h5]
    have cl2 : ∀ (v2 : Int64) (g2 : st_I) (q2 : st_L), cw d b oc g' (st_v q' 16 (4 * oc + vn) (φ2 w)) v2 g2 q2 → ∀ Q : Int64 → st_S → Prop, Q v2 (g2, st_v q2 16 (4 * oc + vn) (q' 16 (4 * oc + vn))) → wp_H_workOut (d + 1) (nI e) (nI oc) g q Q := by
      intro v2 g2 q2 hcw Q hQ
      refine cl Q ?_
      simp only [wp_H_letIn, ce, ve, e4, true_and]
      refine k2 _ ⟨fun _ => ?_, fun z => absurd ge z⟩
      simp only [g3, g5, m4, ad, cv, vv, true_and]
      exact hcw _ hQ
    by_cases hS2 : S2 < 200
    · have fs : FS g0 r0 oc (lev + 1) b 0 (st_v q' 16 (4 * oc + vn) (φ2 w)) (st_u (psh lev (nI b) (st_u (st_u (st_u r' 34 lev 2) 36 (2 * lev) (r' 20 18)) 20 26 (nI (S2 + 1)))) 35 (4 * (lev + 1) + vn) (nI w)) φ2 nv2 (st_u g' 14 10 (nI (S2 + 1))) (st_v q' 16 (4 * oc + vn) (φ2 w)) (st_u (psh lev (nI b) (st_u (st_u (st_u r' 34 lev 2) 36 (2 * lev) (r' 20 18)) 20 26 (nI (S2 + 1)))) 35 (4 * (lev + 1) + vn) (nI w)) φ2 nv2 P2 (S2 + 1) F2 PM2 := by
        refine ⟨sAL_q (sAL_ctl (sAL_ctl (sAL_step FU.1 hS2) (ctl_psh _ _ _)) (ctl_u _ _ _ _ (by omega))) (sv_o _ _ _ _ _ (by decide)) (sv_o _ _ _ _ _ (by decide)), ext_rf _ _, by omega, fun _ _ => rfl, blw_rf _ _, ?_, ?_, ?_, ?_, ?_, fun v' hv' => ?_⟩
        · rw [su_o _ _ _ _ _ (by decide), psh_20]; simp
        · rw [su_o _ _ _ _ _ (by decide), psh_20]; simpa [st_u, upd] using b7
        · rw [su_o _ _ _ _ _ (by decide), psh_20]; simpa [st_u, upd] using b8
        · rw [su_o _ _ _ _ _ (by decide), psh_33]; simp
        · rw [su_o _ _ _ _ _ (by decide), psh_34]; simp
        · rw [sv_k, su_k]
          by_cases z : v' = vn
          · subst z
            rw [if_pos rfl, if_pos rfl]
            exact Or.inr ⟨w, hw, rfl, rfl⟩
          · rw [if_neg (by omega), if_neg (by omega), psh_35n _ _ _ v' hv', su_o _ _ _ _ _ (by decide)]
            exact FU.2.2.2.2.2.2.2.2.2.2 v' hv'
      obtain ⟨v2, g2, q2, r2, c1, c2, c3⟩ := ih b oc (lev + 1) g' _ _ φ2 nv2 P2 S2 F2 PM2 hb.1 hoc (by omega) (by omega) b1.2.1.1 hS2 fs (by rw [su_o _ _ _ _ _ (by decide), psh_20]; simpa [st_u, upd] using k5)
      have go2 : goes r r2 := by
        refine goes_tr go1 (goes_tr (goes_w (by omega) b6 b7 k5 (fun K hK => ?_)) c2)
        rw [wo_1 (by omega) (by omega) b6 b9 b10, r21']
        refine w7_1l (S := S2) (by omega) (by omega) hvn FU.2.2.2.2.2.1 FU.2.2.2.2.2.2.1 FU.1.2.1.2.1 S200 s22 K (fun _ => ?_) (fun z => absurd z (by omega))
        rw [s24, s36]; exact hK
      have ko := KO_of FU (blw_st (blw_tr (blw_u 20 26 (nI (S2 + 1)) (by omega) (by omega) (by omega)) (blw_psh (nI b))) 35 (4 * (lev + 1) + vn) (nI w) (by omega) (by omega) (by omega)) c3 (qf := st_v q2 16 (4 * oc + vn) (q' 16 (4 * oc + vn))) (fun hq j hj => by
        rw [sv_k]
        by_cases z : j = 4 * oc + vn
        · rw [if_pos z, z]
        · rw [if_neg z, hq j hj, sv_k, if_neg z]) (sv_o _ _ _ _ _ (by decide)) (sv_o _ _ _ _ _ (by decide))
      rcases ko with ⟨rfl, k5', k6'⟩ | ⟨φ3, nv3, P3, S3, F3, PM3, f3, e3, x36, -, ⟨rfl, k5'⟩ | ⟨k5', w2, hw2, rfl, k6'⟩⟩
      · exact ⟨-2, g2, _, r2, cl2 _ _ _ c1, go2, Or.inl ⟨rfl, k5', k6'⟩⟩
      · exact ⟨-1, g2, _, _, cl2 _ _ _ c1, goes_tr go2 (pop_f hp (by omega) he f3 k5' (Or.inl n12) (Or.inl n10)), fin_u f3 k5'⟩
      · have FV := FS_u (FS_t f3 3) (2 * lev + 1) (r2 20 18) (Or.inr rfl)
        obtain ⟨d1, d2, d3, d4, d5, d6, d7, d8, d9, d10, d11⟩ := f3
        have r21'' : r2 21 e = 11 := by rw [st_r d1.1 21 (by omega) (by omega), hs21, hs]
        refine ⟨_, g2, _, _, cl2 _ _ _ c1, goes_tr go2 (goes_w (by omega) d6 d7 k5' (fun K hK => ?_)), fin_v FV (by simpa [st_u] using k5') hw2⟩
        rw [wo_2 (by omega) (by omega) d6 d9 d10, r21'']
        refine w7_e (by omega) (by omega) (by simpa [st_u] using d6) (Or.inr (Or.inl ⟨rfl, rfl⟩)) K ?_
        have : st_u (st_u r2 34 lev 3) 36 (2 * lev + 1) (r2 20 18) 20 18 = nI w2 := by simpa [st_u] using k6'
        rw [this]; exact hK
    · have e200 : S2 = 200 := by omega
      subst e200
      refine ⟨-2, g', _, st_u (st_u (st_u r' 34 lev 2) 36 (2 * lev) (r' 20 18)) 20 25 1, cl2 _ _ _ (cut_c (by omega) b1.2.1.1 _), goes_tr go1 (goes_w (by omega) b6 b7 k5 (fun K hK => ?_)), Or.inl ⟨rfl, by simp [st_u, upd], sST_ctl FU.1.1 (ctl_u _ _ _ _ (by omega))⟩⟩
      rw [wo_1 (by omega) (by omega) b6 b9 b10, r21']
      exact w7_1l (S := 200) (by omega) (by omega) hvn FU.2.2.2.2.2.1 FU.2.2.2.2.2.2.1 FU.1.2.1.2.1 S200 s22 K (fun z => absurd z (by omega)) (fun _ => hK)
theorem sim_all {g0 r0 : st_I} {n : Nat} (hp : pr_all g0 r0 n) (hb : bod g0 r0 n) : ∀ d, SIM g0 r0 n d := by
  intro d
  induction d with
  | zero => intro e oc lev g q r φ nv P S F PM he hoc hd; omega
  | succ d ih =>
    intro e oc lev g q r φ nv P S F PM he hoc hd hl hgS hS h h24
    obtain ⟨-, -, -, row⟩ := hp.2.2.2 e he
    rcases row with ⟨h2, v, hv, x1, x2⟩ | ⟨h2, x1⟩ | h2 | ⟨h2, a, b, ha, hb', x1, x2, x3, x4⟩ | ⟨h2, a, ha, x1, x2⟩ | ⟨h2, m, a, b, c, hm, x1, x2, ha, hb', hc, y1, y2, y3, y4, y5, y6⟩ | ⟨h2, f, a, hf, x1, x2, ha, x3, x4, x5⟩ | ⟨h2, v, a, b, hv, x1, x2, ha, hb', x3, x4, x5, x6⟩
    · exact sim_leaf hp he hoc (by omega) hgS hS h h24 (Or.inl ⟨h2, v, hv, x1, x2⟩)
    · exact sim_leaf hp he hoc (by omega) hgS hS h h24 (Or.inr (Or.inl ⟨h2, x1⟩))
    · exact sim_leaf hp he hoc (by omega) hgS hS h h24 (Or.inr (Or.inr h2))
    · by_cases z : g0 2 e = 12
      · exact sim_try hp ih he hoc hd hl hgS hS h h24 z ha hb' x1 x2 x3 x4
      · refine sim_two hp ih he hoc hd hl hgS hS h h24 ?_ ha hb' x1 x2 x3 x4
        rcases h2 with w | w | w | w | w
        · exact Or.inl w
        · exact Or.inr (Or.inl w)
        · exact Or.inr (Or.inr (Or.inl w))
        · exact absurd w z
        · exact Or.inr (Or.inr (Or.inr w))
    · exact sim_un hp ih he hoc hd hl hgS hS h h24 h2 ha x1 x2
    · exact sim_case hp ih he hoc hd hl hgS hS h h24 h2 hm x1 x2 ha hb' hc y1 y2 y3 y4 y5 y6
    · exact sim_call hp hb ih he hoc hd hl hgS hS h h24 h2 hf x1 x2 ha x3 x4 x5
    · exact sim_let hp ih he hoc hd hl hgS hS h h24 h2 (by omega) x1 x2 ha hb' x3 x4 x5 x6
