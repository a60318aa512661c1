theorem nI_ne_m1 {e : Nat} (he : e < 2 ^ 31) : ¬ nI e = -1 := by
  intro z
  have := congrArg (fun x => decide (x < 0)) z
  simp [nI_pos he] at this
theorem nI_nn {e : Nat} (he : e < 2 ^ 31) : (0 : Int32) ≤ nI e := Int32.not_lt.mp (nI_pos he)
theorem lk_any (l : Nat) (hl : l < 64) (c : Int32) (r : st_I) (ho : r 20 13 = nI l) : ∃ Rp, (∀ Q : st_I → Prop, Q Rp → wp_M_look c r Q) ∧ ctl r Rp ∧ blw l r Rp ∧ Rp 20 13 = nI (l + 1) ∧ Rp 20 25 = r 20 25 ∧ Rp 20 24 = r 20 24 ∧ Rp 20 29 = r 20 29 ∧ Rp 33 l = c ∧ Rp 34 l = 0 := by
  cases l with
  | zero =>
    exact ⟨st_u (st_u (st_u r 33 0 c) 34 0 0) 20 13 1, fun Q hQ => rx_look0 c r ho Q hQ, ctl_tr (ctl_u _ _ _ _ (by omega)) (ctl_tr (ctl_u _ _ _ _ (by omega)) (ctl_u _ _ _ _ (by omega))), ⟨fun j hj => absurd hj (by omega), fun j hj => absurd hj (by omega), fun j hj => absurd hj (by omega)⟩, by rw [su_k, if_pos rfl]; rfl, by simp [st_u, upd], by simp [st_u, upd], by simp [st_u, upd], by simp [st_u, upd], by simp [st_u, upd]⟩
  | succ l =>
    exact ⟨psh l c r, fun Q hQ => rx_look l (by omega) c r ho Q hQ, ctl_psh _ _ _, blw_psh c, by rw [psh_20]; simp, by rw [psh_20]; simp, by rw [psh_20]; simp, by rw [psh_20]; simp, by rw [psh_33]; simp, by rw [psh_34]; simp⟩
theorem v4c {v : Nat} (hv : v < 4) : v = 0 ∨ v = 1 ∨ v = 2 ∨ v = 3 := by omega
theorem cal {g0 r0 : st_I} {n d : Nat} (hp : pr_all g0 r0 n) (hb : bod g0 r0 n) (ih : SIM g0 r0 n d) {oc l f w1 : Nat} (hoc : oc ≤ 5) (hf : f < 6) (hd : oc < 5 → (4 - oc) * 6 + 6 ≤ d) (hl : l ≤ 41) (hl2 : oc < 5 → l + (4 - oc) * 6 + 5 ≤ 40) {g1 : st_I} {q1 : st_L} {R : st_I} {φ1 : Nat → Int64} {nv1 P1 S1 F1 PM1 : Nat} (a1 : sAL g0 r0 g1 q1 R φ1 nv1 P1 S1 F1 PM1) (hnv : nv1 + l ≤ S1) (h13 : R 20 13 = nI l) (h25 : R 20 25 = 0) (h24 : R 20 24 = 0) (h29 : R 20 29 = nI oc) (hw1 : w1 < nv1) {y : Int64} {b : Int32} (hy : ¬ 3 ≤ f ∧ y = -3 ∨ 3 ≤ f ∧ ∃ w2, w2 < nv1 ∧ y = φ1 w2 ∧ b = nI w2) : ∃ v g' q' Rc, (∀ Q : Int64 → st_S → Prop, Q v (g', q') → wp_H_callWith_L51 (wp_H_workOut d) Q g1 q1 (nI f) (nI oc) (φ1 w1) y) ∧ (∀ K : st_I → Prop, K Rc → wp_M_call (nI f) (nI w1) b R K) ∧ ((v = -2 ∧ ¬ Rc 20 25 = 0 ∧ Rc 20 24 = 0 ∧ sST g0 r0 g' Rc) ∨ (v = -1 ∧ Rc 20 24 = 1 ∧ q' = q1 ∧ (∃ F', sAL g0 r0 g' q' Rc φ1 nv1 P1 S1 F' PM1) ∧ blw l R Rc ∧ Rc 20 13 = nI l ∧ Rc 20 25 = 0 ∧ Rc 20 29 = nI oc) ∨ (Rc 20 24 = 0 ∧ ∃ r' q2, goes Rc r' ∧ blw l R Rc ∧ (∀ j, j < 4 * (oc + 1) → q2 16 j = q1 16 j) ∧ OUT g0 r0 (oc + 1) l q2 Rc φ1 nv1 v g' q' r')) := by
  have hn := hp.1
  have cf : (nI f).toNatClampNeg = f := nI_clamp (by omega)
  have vf : vp_in (nI f) 6 := vp_in_nI hf (by omega)
  have le3 : ((3 : Int32) ≤ nI f) ↔ 3 ≤ f := nI_leI (a := 3) (by omega) (by omega)
  have e5 : (nI oc = (5 : Int32)) ↔ oc = 5 := nI_eq (b := 5) (by omega) (by omega)
  have l5 : (nI oc < (5 : Int32)) ↔ oc < 5 := nI_ltI (b := 5) (by omega) (by omega)
  by_cases h5 : oc = 5
  · refine ⟨-2, g1, q1, st_u R 20 25 1, fun Q hQ => ?_, fun K hK => ?_, Or.inl ⟨rfl, by simp [st_u, upd], by simpa [st_u, upd] using h24, sST_ctl a1.1 (ctl_u _ _ _ _ (by omega))⟩⟩
    · unfold wp_H_callWith_L51
      exact ⟨fun z => absurd (l5.mp z) (by omega), fun _ => hQ⟩
    · unfold wp_M_call
      exact ⟨fun z => absurd (h29.trans (e5.mpr h5)) z, fun _ => hK⟩
  · have ol : oc < 5 := by omega
    have hd' := hd ol
    have hl' := hl2 ol
    have ho1 : ¬ R 20 29 = (5 : Int32) := by rw [h29, e5]; exact h5
    have gb : g1 9 f = g0 9 f := by rw [a1.1.1 9 (by decide)]
    have rb : R 28 f = r0 28 f := by rw [st_r a1.1 28 (by omega) (by omega)]
    have ac := sAL_call a1
    have F6 : F1 ≤ 6 := a1.2.1.2.2.2.2.2.2.2.1
    have S200 : S1 ≤ 200 := a1.2.1.2.2.2.2.2.2.1
    rcases hb f hf with ⟨b1, b2⟩ | ⟨e, he, b1, b2⟩
    · have g11 : (st_u g1 14 2 (g1 14 2 + 1)) 14 11 = nI F1 := ac.2.1.2.2.1
      have r28 : (st_u R 20 30 (R 20 30 + 1)) 20 28 = nI F1 := ac.2.1.2.2.2.1
      have cls : ∀ Q : Int64 → st_S → Prop, Q (if F1 = 6 then -2 else -1) (st_u (st_u g1 14 2 (g1 14 2 + 1)) 14 11 (nI (F1 + 1)), q1) → wp_H_callWith_L51 (wp_H_workOut d) Q g1 q1 (nI f) (nI oc) (φ1 w1) y := by
        intro Q hQ
        unfold wp_H_callWith_L51
        refine ⟨fun _ => ⟨vf, ?_⟩, fun z => absurd (l5.mpr ol) z⟩
        rw [cf, gb, b1]
        exact ⟨fun z => absurd rfl z, fun _ => (ex_fail F6 g11 q1 _).mpr hQ⟩
      have ref : ∀ K : st_I → Prop, K (fl0 (st_u R 20 30 (R 20 30 + 1)) F1) → wp_M_call (nI f) (nI w1) b R K := by
        intro K hK
        unfold wp_M_call
        refine ⟨fun _ => ⟨vf, ?_⟩, fun z => absurd z ho1⟩
        rw [cf, rb, b2]
        exact ⟨fun z => absurd z (by decide), fun _ => (rx_fails F6 r28 _).mpr hK⟩
      refine ⟨_, _, _, _, cls, ref, ?_⟩
      by_cases z : F1 = 6
      · rw [if_pos z]
        refine Or.inl ⟨rfl, ?_, ?_, fl_st ac.1 _⟩
        · rw [fl0_6 _ z]; simp [st_u, upd]
        · rw [fl0_6 _ z]; simp [st_u, upd]
      · rw [if_neg z]
        refine Or.inr (Or.inl ⟨rfl, ?_, rfl, ⟨F1 + 1, fl_al ac z⟩, ?_, ?_, ?_, ?_⟩)
        · rw [fl0_5 _ z]; simp [st_u, upd]
        · rw [fl0_5 _ z]
          exact blw_st (blw_st (blw_st (blw_st (blw_rf _ _) _ _ _ (by omega) (by omega) (by omega)) _ _ _ (by omega) (by omega) (by omega)) _ _ _ (by omega) (by omega) (by omega)) _ _ _ (by omega) (by omega) (by omega)
        · rw [fl0_5 _ z]; simpa [st_u, upd] using h13
        · rw [fl0_5 _ z]; simp [st_u, upd]
        · rw [fl0_5 _ z]; simpa [st_u, upd] using h29
    · obtain ⟨-, ⟨dd, hdd, h7, -⟩, -⟩ := hp.2.2.2 e he
      have hde : (g0 7 e).toNatClampNeg ≤ 5 := by rw [h7, nI_clamp (by omega)]; omega
      have ae := sAL_ctl ac (ctl_u _ 20 29 (R 20 29 + 1) (by omega))
      have o1 : nI oc + 1 = nI (oc + 1) := nI_1 oc
      have m4 : nI (oc + 1) * (4 : Int32) = nI (4 * (oc + 1)) := by rw [Nat.mul_comm]; exact pk_mul (oc + 1) 4
      have a4 : ∀ v, nI (4 * (oc + 1)) + nI v = nI (4 * (oc + 1) + v) := fun v => nI_add _ _
      have c4 : ∀ v, v < 4 → (nI (4 * (oc + 1) + v)).toNatClampNeg = 4 * (oc + 1) + v := fun v hv => nI_clamp (by omega)
      have i4 : ∀ v, v < 4 → vp_in (nI (4 * (oc + 1) + v)) 24 := fun v hv => vp_in_nI (by omega) (by omega)
      have cls : ∀ (v : Int64) (g' : st_I) (q' : st_L), cw d e (oc + 1) (st_u g1 14 2 (g1 14 2 + 1)) (st_v (st_v (st_v (st_v q1 16 (4 * (oc + 1)) (φ1 w1)) 16 (4 * (oc + 1) + 1) y) 16 (4 * (oc + 1) + 2) (-3)) 16 (4 * (oc + 1) + 3) (-3)) v g' q' → ∀ Q : Int64 → st_S → Prop, Q v (g', q') → wp_H_callWith_L51 (wp_H_workOut d) Q g1 q1 (nI f) (nI oc) (φ1 w1) y := by
        intro v g' q' hcw Q hQ
        unfold wp_H_callWith_L51
        refine ⟨fun _ => ⟨vf, ?_⟩, fun z => absurd (l5.mpr ol) z⟩
        rw [cf, gb, b1, o1]
        refine ⟨fun _ => ?_, fun z => absurd z (nI_ne_m1 (by omega))⟩
        unfold wp_H_openFrame
        rw [m4, show nI (4 * (oc + 1)) + 1 = nI (4 * (oc + 1) + 1) from a4 1, show nI (4 * (oc + 1)) + 2 = nI (4 * (oc + 1) + 2) from a4 2, show nI (4 * (oc + 1)) + 3 = nI (4 * (oc + 1) + 3) from a4 3, c4 1 (by omega), c4 2 (by omega), c4 3 (by omega), show (nI (4 * (oc + 1))).toNatClampNeg = 4 * (oc + 1) from nI_clamp (by omega)]
        exact ⟨vp_in_nI (by omega) (by omega), i4 1 (by omega), i4 2 (by omega), i4 3 (by omega), hcw _ hQ⟩
      by_cases hS : S1 < 200
      · have st := sAL_step ae hS
        obtain ⟨Rp, p1, p2, p3, p4, p5, p6, p7, p8, p9⟩ := lk_any l (by omega) (nI e) (st_u (st_u (st_u R 20 30 (R 20 30 + 1)) 20 29 (R 20 29 + 1)) 20 26 (nI (S1 + 1))) (by simpa [st_u, upd] using h13)
        have p5' : Rp 20 25 = 0 := by rw [p5]; simpa [st_u, upd] using h25
        have p6' : Rp 20 24 = 0 := by rw [p6]; simpa [st_u, upd] using h24
        have p7' : Rp 20 29 = nI (oc + 1) := by rw [p7]; simp [st_u, upd, h29, o1]
        have n4 : (4 : Int32) * (nI (l + 1) - 1) = nI (4 * l) := by rw [nI_pred]; exact pk_mul 4 l
        have x4 : ∀ v, nI (4 * l) + nI v = nI (4 * l + v) := fun v => nI_add _ _
        have y4 : ∀ v, v < 4 → (nI (4 * l + v)).toNatClampNeg = 4 * l + v := fun v hv => nI_clamp (by omega)
        have z4 : ∀ v, v < 4 → vp_in (nI (4 * l + v)) 256 := fun v hv => vp_in_nI (by omega) (by omega)
        have ref : ∀ b', b' = (if 3 ≤ f then b else -1) → ∀ K : st_I → Prop, K (st_u (st_u (st_u (st_u Rp 35 (4 * l) (nI w1)) 35 (4 * l + 1) b') 35 (4 * l + 2) (-1)) 35 (4 * l + 3) (-1)) → wp_M_call (nI f) (nI w1) b R K := by
          intro b' hb' K hK
          unfold wp_M_call
          refine ⟨fun _ => ⟨vf, ?_⟩, fun z => absurd z ho1⟩
          rw [cf, rb, b2]
          refine ⟨fun _ => ⟨vf, ?_⟩, fun z => absurd (nI_nn (by omega)) z⟩
          unfold wp_M_work
          have r26 : (st_u (st_u R 20 30 (R 20 30 + 1)) 20 29 (R 20 29 + 1)) 20 26 = nI S1 := ae.2.1.2.1
          have n200 : ¬ nI S1 = (200 : Int32) := fun z => absurd ((nI_eq (a := S1) (b := 200) (by omega) (by omega)).mp z) (by omega)
          rw [r26, nI_1]
          refine ⟨fun _ => p1 _ ?_, fun z => absurd z n200⟩
          refine ⟨fun z => absurd p5' z, fun _ => ?_⟩
          have fin : wp_M_call_L104 K (st_u Rp 35 (4 * l) (nI w1)) (nI (4 * l)) b' (nI (4 * l) + 1) := by
            unfold wp_M_call_L104 wp_M_call_L125
            rw [show nI (4 * l) + 1 = nI (4 * l + 1) from x4 1, show nI (4 * l) + 2 = nI (4 * l + 2) from x4 2, show nI (4 * l) + 3 = nI (4 * l + 3) from x4 3, y4 1 (by omega), y4 2 (by omega), y4 3 (by omega)]
            exact ⟨z4 1 (by omega), z4 2 (by omega), z4 3 (by omega), hK⟩
          rw [p4, n4, show (nI (4 * l)).toNatClampNeg = 4 * l from nI_clamp (by omega)]
          refine ⟨vp_in_nI (by omega) (by omega), ?_⟩
          rw [rx_pms]
          by_cases z : 3 ≤ f
          · rw [if_pos z] at hb'
            subst hb'
            exact ⟨fun _ => ⟨fun _ => fin, fun w => absurd w (by decide)⟩, fun w => absurd (le3.mpr z) w⟩
          · rw [if_neg z] at hb'
            subst hb'
            exact ⟨fun w => absurd (le3.mp w) z, fun _ => ⟨fun w => absurd rfl w, fun _ => fin⟩⟩
        have hvb : ∃ b', b' = (if 3 ≤ f then b else -1) ∧ vR φ1 nv1 y b' := by
          rcases hy with ⟨z, hy⟩ | ⟨z, w2, hw2, hy, hb2⟩
          · exact ⟨-1, by rw [if_neg z], Or.inl ⟨hy, rfl⟩⟩
          · exact ⟨b, by rw [if_pos z], Or.inr ⟨w2, hw2, hb2, hy⟩⟩
        obtain ⟨b', hb', vb'⟩ := hvb
        have fs : FS g0 r0 (oc + 1) l e 0 (st_v (st_v (st_v (st_v q1 16 (4 * (oc + 1)) (φ1 w1)) 16 (4 * (oc + 1) + 1) y) 16 (4 * (oc + 1) + 2) (-3)) 16 (4 * (oc + 1) + 3) (-3)) (st_u (st_u (st_u (st_u Rp 35 (4 * l) (nI w1)) 35 (4 * l + 1) b') 35 (4 * l + 2) (-1)) 35 (4 * l + 3) (-1)) φ1 nv1 (st_u (st_u g1 14 2 (g1 14 2 + 1)) 14 10 (nI (S1 + 1))) (st_v (st_v (st_v (st_v q1 16 (4 * (oc + 1)) (φ1 w1)) 16 (4 * (oc + 1) + 1) y) 16 (4 * (oc + 1) + 2) (-3)) 16 (4 * (oc + 1) + 3) (-3)) (st_u (st_u (st_u (st_u Rp 35 (4 * l) (nI w1)) 35 (4 * l + 1) b') 35 (4 * l + 2) (-1)) 35 (4 * l + 3) (-1)) φ1 nv1 P1 (S1 + 1) F1 PM1 := by
          refine ⟨sAL_q (sAL_ctl st (ctl_tr p2 (ctl_tr (ctl_u _ _ _ _ (by omega)) (ctl_tr (ctl_u _ _ _ _ (by omega)) (ctl_tr (ctl_u _ _ _ _ (by omega)) (ctl_u _ _ _ _ (by omega))))))) (by simp [st_v]) (by simp [st_v]), ext_rf _ _, by omega, fun _ _ => rfl, blw_rf _ _, by simpa [st_u] using p4, by simpa [st_u] using p5', by simpa [st_u] using p7', by simpa [st_u] using p8, by simpa [st_u] using p9, fun v hv => ?_⟩
          rcases v4c hv with rfl | rfl | rfl | rfl
          · refine Or.inr ⟨w1, hw1, ?_, ?_⟩
            · simp [st_u, upd]
            · simp [st_v, vp_updL]
          · have e1 : st_v (st_v (st_v (st_v q1 16 (4 * (oc + 1)) (φ1 w1)) 16 (4 * (oc + 1) + 1) y) 16 (4 * (oc + 1) + 2) (-3)) 16 (4 * (oc + 1) + 3) (-3) 16 (4 * (oc + 1) + 1) = y := by simp [st_v, vp_updL]
            have e2 : st_u (st_u (st_u (st_u Rp 35 (4 * l) (nI w1)) 35 (4 * l + 1) b') 35 (4 * l + 2) (-1)) 35 (4 * l + 3) (-1) 35 (4 * l + 1) = b' := by simp [st_u, upd]
            rw [e1, e2]; exact vb'
          · refine Or.inl ⟨?_, ?_⟩
            · simp [st_v, vp_updL]
            · simp [st_u, upd]
          · refine Or.inl ⟨?_, ?_⟩
            · simp [st_v, vp_updL]
            · simp [st_u, upd]
        obtain ⟨v, g', q', r', c1, c2, c3⟩ := ih e (oc + 1) l _ _ _ φ1 nv1 P1 S1 F1 PM1 he (by omega) (by omega) (by omega) ac.2.1.1 hS fs (by simpa [st_u] using p6')
        refine ⟨v, g', q', _, cls v g' q' c1, ref b' hb', Or.inr (Or.inr ⟨by simpa [st_u] using p6', r', _, c2, ?_, fun j hj => ?_, c3⟩)⟩
        · exact blw_st (blw_st (blw_st (blw_st (blw_tr (blw_st (blw_st (blw_st (blw_rf _ _) _ _ _ (by omega) (by omega) (by omega)) _ _ _ (by omega) (by omega) (by omega)) _ _ _ (by omega) (by omega) (by omega)) p3) _ _ _ (by omega) (by omega) (by omega)) _ _ _ (by omega) (by omega) (by omega)) _ _ _ (by omega) (by omega) (by omega)) _ _ _ (by omega) (by omega) (by omega)
        · rw [sv_k, if_neg (by omega), sv_k, if_neg (by omega), sv_k, if_neg (by omega), sv_k, if_neg (by omega)]
      · have e200 : S1 = 200 := by omega
        subst e200
        refine ⟨-2, _, _, st_u (st_u (st_u R 20 30 (R 20 30 + 1)) 20 29 (R 20 29 + 1)) 20 25 1, cls (-2) _ _ (cut_c (by omega) ac.2.1.1 _), fun K hK => ?_, Or.inl ⟨rfl, by simp [st_u, upd], by simpa [st_u, upd] using h24, sST_ctl ae.1 (ctl_u _ _ _ _ (by omega))⟩⟩
        unfold wp_M_call
        refine ⟨fun _ => ⟨vf, ?_⟩, fun z => absurd z ho1⟩
        rw [cf, rb, b2]
        refine ⟨fun _ => ⟨vf, ?_⟩, fun z => absurd (nI_nn (by omega)) z⟩
        unfold wp_M_work
        have r26 : (st_u (st_u R 20 30 (R 20 30 + 1)) 20 29 (R 20 29 + 1)) 20 26 = nI 200 := ae.2.1.2.1
        refine ⟨fun z => absurd r26 z, fun _ => ?_⟩
        exact ⟨fun _ => hK, fun z => absurd z (by simp [st_u, upd])⟩
