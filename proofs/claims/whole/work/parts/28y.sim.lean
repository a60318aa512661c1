def SIM (g0 r0 : st_I) (n d : Nat) : Prop := ∀ e oc lev g q r φ nv P S F PM, e < n → oc ≤ 5 → (5 - oc) * 6 + (g0 7 e).toNatClampNeg + 1 ≤ d → lev + (5 - oc) * 6 + (g0 7 e).toNatClampNeg ≤ 40 → g 14 10 = nI S → S < 200 → FS g0 r0 oc lev e 0 q r φ nv (st_u g 14 10 (nI (S + 1))) q r φ nv P (S + 1) F PM → r 20 24 = 0 → ∃ v g' q' r', cw d e oc g q v g' q' ∧ goes r r' ∧ OUT g0 r0 oc lev q r φ nv v g' q' r'
theorem cut_c {d c oc : Nat} (hd : 0 < d) {g : st_I} (hS : g 14 10 = nI 200) (q : st_L) : cw d c oc g q (-2) g q := by
  intro Q hQ
  cases d with
  | zero => omega
  | succ d =>
    show wp_H_workOut_B (wp_H_workOut d) (nI c) (nI oc) g q Q
    unfold wp_H_workOut_B
    rw [hS]
    exact ⟨fun z => absurd z (by decide), fun _ => hQ⟩
theorem kid {g0 r0 : st_I} {n d : Nat} (ih : SIM g0 r0 n d) {e c oc lev : Nat} (hc : pr_c g0 n e c) (hoc : oc ≤ 5) (hd : (5 - oc) * 6 + (g0 7 e).toNatClampNeg + 1 ≤ d + 1) (hl : lev + (5 - oc) * 6 + (g0 7 e).toNatClampNeg ≤ 40) {t : Int32} {q : st_L} {r : st_I} {φ : Nat → Int64} {nv : Nat} {g1 : st_I} {q1 : st_L} {R : st_I} {φ1 : Nat → Int64} {nv1 P1 S1 F1 PM1 : Nat} (h : FS g0 r0 oc lev e t q r φ nv g1 q1 R φ1 nv1 P1 S1 F1 PM1) (h24 : R 20 24 = 0) : ∃ Rp v g' q' r', (∀ K : st_I → Prop, K Rp → wp_M_work (nI c) R K) ∧ cw d c oc g1 q1 v g' q' ∧ goes Rp r' ∧ KO g0 r0 oc lev e t q r φ nv R φ1 nv1 v g' q' r' := by
  have h' := h
  obtain ⟨a1, a2, a3, a4, a5, a6, a7, a8, a9, a10, a11⟩ := h
  have hS2 : S1 ≤ 200 := a1.2.1.2.2.2.2.2.2.1
  have hdc := hc.2
  by_cases hS : S1 < 200
  · have hs := sAL_step a1 hS
    have hfs : FS g0 r0 oc (lev + 1) c 0 q1 (psh lev (nI c) (st_u R 20 26 (nI (S1 + 1)))) φ1 nv1 (st_u g1 14 10 (nI (S1 + 1))) q1 (psh lev (nI c) (st_u R 20 26 (nI (S1 + 1)))) φ1 nv1 P1 (S1 + 1) F1 PM1 := by
      refine ⟨sAL_ctl hs (ctl_psh _ _ _), ext_rf _ _, by omega, fun _ _ => rfl, blw_rf _ _, by rw [psh_20]; simp, by rw [psh_20]; simpa [st_u, upd] using a7, by rw [psh_20]; simpa [st_u, upd] using a8, by rw [psh_33]; simp, by rw [psh_34]; simp, fun v hv => ?_⟩
      rw [psh_35n _ _ _ v hv, su_o _ _ _ _ _ (by decide)]
      exact a11 v hv
    obtain ⟨v, g', q', r', c1, c2, c3⟩ := ih c oc (lev + 1) g1 q1 _ φ1 nv1 P1 S1 F1 PM1 hc.1 hoc (by omega) (by omega) a1.2.1.1 hS hfs (by rw [psh_20]; simpa [st_u, upd] using h24)
    refine ⟨_, v, g', q', r', fun K hK => ?_, c1, c2, ?_⟩
    · exact rx_work (by omega) a6 a1.2.1.2.1 hS2 _ K (fun _ => hK) (fun z => absurd z (by omega))
    · exact KO_of h' (blw_tr (blw_u 20 26 _ (by omega) (by omega) (by omega)) (blw_psh _)) c3 (fun z => z) rfl rfl
  · have e200 : S1 = 200 := by omega
    subst e200
    refine ⟨st_u R 20 25 1, -2, g1, q1, st_u R 20 25 1, fun K hK => ?_, cut_c (by omega) a1.2.1.1 q1, goes_rf _, Or.inl ⟨rfl, by simp [st_u, upd], sST_ctl a1.1 (ctl_u _ _ _ _ (by omega))⟩⟩
    exact rx_work (by omega) a6 a1.2.1.2.1 hS2 _ K (fun z => absurd z (by omega)) (fun _ => hK)
theorem v_ge {g : st_I} {q : st_L} {r : st_I} {φ : Nat → Int64} {nv P PM : Nat} (h : sMV g q r φ nv P PM) {w : Nat} (hw : w < nv) : 0 ≤ lg_cmp (φ w) 0 := by
  obtain ⟨-, -, k, hk, -, x, hx⟩ := vr_ko (h.2.2.2.1 w hw)
  rw [hx]; exact vl_ge k hk x
theorem v_ne {g : st_I} {q : st_L} {r : st_I} {φ : Nat → Int64} {nv P PM : Nat} (h : sMV g q r φ nv P PM) {w : Nat} (hw : w < nv) (m : Int64) (hm : m < 0) : ¬ φ w = m := by
  obtain ⟨-, -, k, hk, -, x, hx⟩ := vr_ko (h.2.2.2.1 w hw)
  rw [hx]; exact vl_ne k hk x m hm
theorem kn_8 (x : Int32) : ∃ k, k < 8 ∧ kn x = nI k := by
  unfold kn
  split
  · exact ⟨5, by omega, rfl⟩
  · split
    · exact ⟨6, by omega, rfl⟩
    · exact ⟨4, by omega, rfl⟩
theorem sim_leaf {g0 r0 : st_I} {n d : Nat} (hp : pr_all g0 r0 n) {e oc lev : Nat} {g : st_I} {q : st_L} {r : st_I} {φ : Nat → Int64} {nv P S F PM : Nat} (he : e < n) (hoc : oc ≤ 5) (hl : lev ≤ 40) (hgS : g 14 10 = nI S) (hS : S < 200) (h : FS g0 r0 oc lev e 0 q r φ nv (st_u g 14 10 (nI (S + 1))) q r φ nv P (S + 1) F PM) (h24 : r 20 24 = 0) (hs : (g0 2 e = 0 ∨ g0 2 e = 1) ∧ (∃ v, v < 4 ∧ g0 3 e = nI v ∧ r0 22 e = nI v) ∨ g0 2 e = 2 ∧ g0 3 e = r0 22 e ∨ (g0 2 e = 3 ∨ g0 2 e = 14)) : ∃ v g' q' r', cw (d + 1) e oc g q v g' q' ∧ goes r r' ∧ OUT g0 r0 oc lev q r φ nv v g' q' r' := by
  have hn := hp.1
  have h' := h
  obtain ⟨a1, a2, a3, a4, a5, a6, a7, a8, a9, a10, a11⟩ := h
  obtain ⟨c1, c2, c3, c4, c5⟩ := a1.1
  have gk : ∀ k, k ≠ 14 → g k = g0 k := fun k hk => by have := c1 k hk; rwa [su_o _ _ _ _ _ hk] at this
  have ce : (nI e).toNatClampNeg = e := nI_clamp (by omega)
  have ve : vp_in (nI e) 91 := vp_in_nI (by omega) (by omega)
  have lS : nI S < (200 : Int32) := nI_lt (b := 200) hS (by omega)
  have g11 : (st_u g 14 10 (nI (S + 1))) 14 11 = nI F := a1.2.1.2.2.1
  have F6 : F ≤ 6 := a1.2.1.2.2.2.2.2.2.2.1
  have hs21 : r0 21 e = g0 2 e := (hp.2.2.2 e he).1
  have r21 : r 21 e = g0 2 e := by rw [c3 21 (by omega) (by omega), hs21]
  have r22 : r 22 e = r0 22 e := by rw [c3 22 (by omega) (by omega)]
  have FT := FS_t h' 1
  have o1 : (st_u r 34 lev 1) 20 13 = nI (lev + 1) := by simpa [st_u] using a6
  have f1 : (st_u r 34 lev 1) 20 28 = nI F := by simpa [st_u] using a1.2.1.2.2.2.1
  have t24 : (st_u r 34 lev 1) 20 24 = 0 := by simpa [st_u] using h24
  have s21 : (st_u r 34 lev 1) 21 e = g0 2 e := by simpa [st_u] using r21
  have s22 : (st_u r 34 lev 1) 22 e = r0 22 e := by simpa [st_u] using r22
  have nvb : nv < 460 := by have := a1.2.1.2.2.2.2.2.2.1; omega
  have n19 : (st_u r 34 lev 1) 20 19 = nI nv := by simpa [st_u] using a1.2.2.2.1
  have step : ∀ r', (∀ K : st_I → Prop, K r' → wp_M_leafValue (nI e) (nI lev) (st_u r 34 lev 1) K) → (g0 2 e = 0 ∨ g0 2 e = 1 ∨ g0 2 e = 2 ∨ g0 2 e = 3 ∨ g0 2 e = 14) → goes r r' := by
    intro r' hr' hss
    refine goes_w (by omega) a6 a7 h24 (fun K hK => ?_)
    rw [wo_0 (by omega) (by omega) a6 a9 a10, r21]
    exact w7_leaf (by omega) hss K (hr' K hK)
  have uf : ∀ Q, wp_H_workOut_B (wp_H_workOut d) (nI e) (nI oc) g q Q → wp_H_workOut (d + 1) (nI e) (nI oc) g q Q := fun Q h => h
  have fcase : ∀ Q : Int64 → st_S → Prop, Q (if F = 6 then -2 else -1) (st_u (st_u g 14 10 (nI (S + 1))) 14 11 (nI (F + 1)), q) → wp_H_fail (st_u g 14 10 (nI (S + 1))) q Q := fun Q hQ => (ex_fail F6 g11 q Q).mpr hQ
  rcases hs with ⟨h2, v, hv, h3, q3⟩ | ⟨h2, h3⟩ | h2
  · rcases h2 with h2 | h2
    · have mv : nI oc * (4 : Int32) + nI v = nI (4 * oc + v) := by rw [show nI oc * (4 : Int32) = nI (4 * oc) from by rw [Nat.mul_comm]; exact pk_mul oc 4, nI_add]
      have cv : (nI (4 * oc + v)).toNatClampNeg = 4 * oc + v := nI_clamp (by omega)
      have vv : vp_in (nI (4 * oc + v)) 24 := vp_in_nI (by omega) (by omega)
      rcases a11 v hv with ⟨k1, k2⟩ | ⟨w, hw, k1, k2⟩
      · refine ⟨_, _, _, _, fun Q hQ => uf Q ?_, step _ (fun K hK => ?_) (Or.inl h2), fin_f FT⟩
        · simp only [wp_H_workOut_B, hgS, lS, ce, ve, gk 2 (by decide), gk 3 (by decide), h2, h3, nI_1]
          simp [wp_H_variable, wp_H_variable_L27, mv, cv, vv, lg_e, k1]
          exact fcase _ hQ
        · refine lv_0 (by omega) (by omega) hv F6 o1 f1 (by rw [s21, h2]) (by rw [s22, q3]) K (fun z => absurd ?_ z) (fun _ => hK)
          simp only [su_o _ 34 _ _ 35 (by decide), k2]; decide
      · refine ⟨_, _, _, _, fun Q hQ => uf Q ?_, step _ (fun K hK => ?_) (Or.inl h2), fin_v FT t24 hw⟩
        · simp only [wp_H_workOut_B, hgS, lS, ce, ve, gk 2 (by decide), gk 3 (by decide), h2, h3, nI_1]
          have ne : ¬ φ w = -3 := v_ne a1.2.2 hw (-3) (by decide)
          simp [wp_H_variable, wp_H_variable_L27, mv, cv, vv, lg_e, k2, ne]
          exact hQ
        · refine lv_0 (by omega) (by omega) hv F6 o1 f1 (by rw [s21, h2]) (by rw [s22, q3]) K (fun _ => ?_) (fun z => absurd z ?_)
          · simp only [su_o _ 34 _ _ 35 (by decide), k1]; exact hK
          · simp only [su_o _ 34 _ _ 35 (by decide), k1]; exact nI_pos (by omega)
    · refine ⟨_, _, _, _, fun Q hQ => uf Q ?_, step _ (fun K hK => lv_v (by omega) (by omega) nvb o1 n19 (k := nI v) (x := 0) (Or.inl ⟨by rw [s21, h2], by rw [s22, q3], rfl⟩) K hK) (Or.inr (Or.inl h2)), fin_n FT t24 (by omega : v < 8) 0⟩
      simp only [wp_H_workOut_B, hgS, lS, ce, ve, gk 2 (by decide), gk 3 (by decide), h2, h3, nI_1]
      simp [ex_value]
      exact hQ
  · obtain ⟨k, hk, hkk⟩ := kn_8 (g0 3 e)
    refine ⟨_, _, _, _, fun Q hQ => uf Q ?_, step _ (fun K hK => lv_v (by omega) (by omega) nvb o1 n19 (k := nI k) (x := g0 3 e) (Or.inr (Or.inl ⟨by rw [s21, h2], by rw [s22, ← h3, hkk], by rw [s22, h3]⟩)) K hK) (Or.inr (Or.inr (Or.inl h2))), fin_n FT t24 hk (g0 3 e)⟩
    simp only [wp_H_workOut_B, hgS, lS, ce, ve, gk 2 (by decide), gk 3 (by decide), h2, nI_1]
    simp [ex_number, hkk]
    exact hQ
  · rcases h2 with h2 | h2
    · refine ⟨_, _, _, _, fun Q hQ => uf Q ?_, step _ (fun K hK => lv_v (by omega) (by omega) nvb o1 n19 (k := nI 7) (x := 0) (Or.inr (Or.inr ⟨by rw [s21, h2], rfl, rfl⟩)) K hK) (Or.inr (Or.inr (Or.inr (Or.inl h2)))), fin_n FT t24 (by omega : 7 < 8) 0⟩
      simp only [wp_H_workOut_B, hgS, lS, ce, ve, gk 2 (by decide), gk 3 (by decide), h2, nI_1]
      simp [ex_value]
      exact hQ
    · refine ⟨_, _, _, _, fun Q hQ => uf Q ?_, step _ (fun K hK => lv_f (by omega) (by omega) F6 o1 f1 (by rw [s21, h2]) K hK) (Or.inr (Or.inr (Or.inr (Or.inr h2)))), fin_f FT⟩
      simp only [wp_H_workOut_B, hgS, lS, ce, ve, gk 2 (by decide), gk 3 (by decide), h2, nI_1]
      simp
      exact fcase _ hQ
