theorem call_f {g0 r0 : st_I} {n d : Nat} (hp : pr_all g0 r0 n) (hb : bod g0 r0 n) (ih : SIM g0 r0 n d) {e oc lev : Nat} (he : e < n) (hoc : oc ≤ 5) (hd : (5 - oc) * 6 + (g0 7 e).toNatClampNeg + 1 ≤ d + 1) (hl : lev + (5 - oc) * 6 + (g0 7 e).toNatClampNeg ≤ 40) (hs : g0 2 e = 10) {f w1 : Nat} (hf : f < 6) {q : st_L} {r : st_I} {φ : Nat → Int64} {nv : Nat} {g1 : st_I} {q1 : st_L} {R : st_I} {φ1 : Nat → Int64} {nv1 P1 S1 F1 PM1 : Nat} (h : FS g0 r0 oc lev e 4 q r φ nv g1 q1 R φ1 nv1 P1 S1 F1 PM1) (h24 : R 20 24 = 0) (hw1 : w1 < nv1) {y : Int64} {b : Int32} (hy : ¬ 3 ≤ f ∧ y = -3 ∨ 3 ≤ f ∧ ∃ w2, w2 < nv1 ∧ y = φ1 w2 ∧ b = nI w2) : ∃ v g' q' r', (∀ Q : Int64 → st_S → Prop, Q v (g', q') → wp_H_callWith_L51 (wp_H_workOut d) Q g1 q1 (nI f) (nI oc) (φ1 w1) y) ∧ (∃ Rc, (∀ K : st_I → Prop, K Rc → wp_M_call (nI f) (nI w1) b R (fun u77 => (u77 20 24 = 0 → K u77) ∧ (¬ u77 20 24 = 0 → K (st_u u77 20 13 (u77 20 13 - 1))))) ∧ goes Rc r') ∧ OUT g0 r0 oc lev q r φ nv v g' q' r' := by
  have hn := hp.1
  obtain ⟨a1, a2, a3, a4, a5, a6, a7, a8, a9, a10, a11⟩ := h
  have hs21 : r0 21 e = g0 2 e := (hp.2.2.2 e he).1
  obtain ⟨v, g', q', Rc, k1, k2, k3⟩ := cal hp hb ih hoc hf (fun _ => by omega) (show lev + 1 ≤ 41 by omega) (fun _ => by omega) a1 (by omega) a6 a7 h24 a8 hw1 hy
  have p1 : nI (lev + 1) - 1 = nI lev := nI_pred lev
  have oc1 : nI (oc + 1) - 1 = nI oc := nI_pred oc
  rcases k3 with ⟨rfl, c1, c2, c3⟩ | ⟨rfl, c1, rfl, ⟨F', c2⟩, c3, c4, c5, c6⟩ | ⟨c1, r', q2, c2, c3, c4, c5⟩
  · exact ⟨-2, g', q', Rc, k1, ⟨Rc, fun K hK => k2 _ ⟨fun _ => hK, fun z => absurd c2 z⟩, goes_rf _⟩, Or.inl ⟨rfl, c1, c3⟩⟩
  · refine ⟨-1, g', q', st_u Rc 20 13 (nI lev), k1, ⟨st_u Rc 20 13 (nI lev), fun K hK => k2 _ ⟨fun z => absurd z (by rw [c1]; decide), fun _ => ?_⟩, goes_rf _⟩, Or.inr ⟨φ1, nv1, P1, S1, F', PM1, sAL_ctl c2 (ctl_u _ _ _ _ (by omega)), a2, by omega, a4, ?_, by simp [st_u, upd], by simpa [st_u, upd] using c5, by simpa [st_u, upd] using c6, Or.inl ⟨rfl, by simpa [st_u, upd] using c1⟩⟩⟩
    · rw [c4, p1]; exact hK
    · exact blw_st (blw_tr a5 (blw_mo (Nat.le_succ _) c3)) _ _ _ (by omega) (by omega) (by omega)
  · have kk : ∀ K : st_I → Prop, K Rc → wp_M_call (nI f) (nI w1) b R (fun u77 => (u77 20 24 = 0 → K u77) ∧ (¬ u77 20 24 = 0 → K (st_u u77 20 13 (u77 20 13 - 1)))) := fun K hK => k2 _ ⟨fun _ => hK, fun z => absurd c1 z⟩
    rcases c5 with c5 | ⟨φ2, nv2, P2, S2, F2, PM2, b1, b2, b3, b4, b5, b6, b7, b8, b9⟩
    · exact ⟨v, g', q', r', k1, ⟨Rc, kk, c2⟩, Or.inl c5⟩
    · have bl : blw (lev + 1) R r' := blw_tr c3 b5
      have r33 : r' 33 lev = nI e := by rw [(bl.1 lev (by omega)).1]; exact a9
      have r34 : r' 34 lev = 4 := by rw [(bl.1 lev (by omega)).2]; exact a10
      have r21 : r' 21 e = 10 := by rw [st_r b1.1 21 (by omega) (by omega), hs21, hs]
      have bl2 : blw lev r r' := blw_tr a5 (blw_mo (Nat.le_succ _) bl)
      have qq : ∀ j, j < 4 * (oc + 1) → q' 16 j = q 16 j := fun j hj => (b4 j (by omega)).trans ((c4 j hj).trans (a4 j hj))
      rcases b9 with ⟨rfl, x1⟩ | ⟨x1, w, hw, rfl, x2⟩
      · refine ⟨-1, g', q', _, k1, ⟨Rc, kk, goes_tr c2 (goes_u (by omega) b6 b7 x1 (fun K hK => goup_call (by omega) (by omega) b6 r33 r21 r34 K hK))⟩, Or.inr ⟨φ2, nv2, P2, S2, F2, PM2, sAL_ctl (sAL_ctl b1 (ctl_u _ _ _ _ (by omega))) (ctl_u _ _ _ _ (by omega)), ext_tr a2 b2, by omega, qq, ?_, by simp [st_u, upd], by simpa [st_u, upd] using b7, ?_, Or.inl ⟨rfl, by simpa [st_u, upd] using x1⟩⟩⟩
        · exact blw_st (blw_st bl2 _ _ _ (by omega) (by omega) (by omega)) _ _ _ (by omega) (by omega) (by omega)
        · simp [st_u, upd, b8, oc1]
      · refine ⟨φ2 w, g', q', edd (st_u (st_u r' 34 lev 5) 20 29 (nI oc)) lev (nI w), k1, ⟨Rc, kk, goes_tr c2 (goes_w (by omega) b6 b7 x1 (fun K hK => ?_))⟩, Or.inr ⟨φ2, nv2, P2, S2, F2, PM2, sAL_ctl (sAL_ctl (sAL_ctl b1 (ctl_u _ _ _ _ (by omega))) (ctl_u _ _ _ _ (by omega))) (ctl_edd _ _ _), ext_tr a2 b2, by omega, qq, ?_, by simp [edd, st_u, upd], by simpa [edd, st_u, upd] using b7, by simp [edd, st_u, upd], Or.inr ⟨by simpa [edd, st_u, upd] using x1, w, hw, rfl, by simp [edd, st_u, upd]⟩⟩⟩
        · rw [wo_4 (by omega) (by omega) b6 r33 r34, r21]
          refine w7_c (by omega) (by decide) K (cq_4 (by omega) (by simpa [st_u] using b6) K ?_)
          have e1 : st_u r' 34 lev 5 20 29 - 1 = nI oc := by rw [su_o _ _ _ _ _ (by decide), b8, oc1]
          have e2 : st_u r' 34 lev 5 20 18 = nI w := by rw [su_o _ _ _ _ _ (by decide), x2]
          rw [e1, e2]; exact hK
        · unfold edd
          exact blw_st (blw_st (blw_st (blw_st bl2 _ _ _ (by omega) (by omega) (by omega)) _ _ _ (by omega) (by omega) (by omega)) _ _ _ (by omega) (by omega) (by omega)) _ _ _ (by omega) (by omega) (by omega)
theorem sim_call {g0 r0 : st_I} {n d : Nat} (hp : pr_all g0 r0 n) (hbd : bod g0 r0 n) (ih : SIM g0 r0 n d) {e oc lev : Nat} {g : st_I} {q : st_L} {r : st_I} {φ : Nat → Int64} {nv P S F PM : Nat} (he : e < n) (hoc : oc ≤ 5) (hd : (5 - oc) * 6 + (g0 7 e).toNatClampNeg + 1 ≤ d + 1) (hl : lev + (5 - oc) * 6 + (g0 7 e).toNatClampNeg ≤ 40) (hgS : g 14 10 = nI S) (hS : S < 200) (h : FS g0 r0 oc lev e 0 q r φ nv (st_u g 14 10 (nI (S + 1))) q r φ nv P (S + 1) F PM) (h24 : r 20 24 = 0) (hs : g0 2 e = 10) {f a : Nat} (hf : f < 6) (h3 : g0 3 e = nI f) (q3 : r0 22 e = nI f) (ha : pr_c g0 n e a) (h4 : g0 4 e = nI a) (q4 : r0 23 e = nI a) (h5 : f < 3 ∨ ∃ b, pr_c g0 n e b ∧ g0 5 e = nI b ∧ r0 24 e = nI b) : ∃ v g' q' r', cw (d + 1) e oc g q v g' q' ∧ goes r r' ∧ OUT g0 r0 oc lev q r φ nv v g' q' r' := by
  have hn := hp.1
  have h' := h
  obtain ⟨a1, a2, a3, a4, a5, a6, a7, a8, a9, a10, a11⟩ := h
  have gk := gk_of a1.1
  have le3 : ((3 : Int32) ≤ nI f) ↔ 3 ≤ f := nI_leI (a := 3) (by omega) (by omega)
  have hs21 : r0 21 e = g0 2 e := (hp.2.2.2 e he).1
  have r21 : r 21 e = g0 2 e := by rw [st_r a1.1 21 (by omega) (by omega), hs21]
  have FT := FS_t h' 1
  have t24 : (st_u r 34 lev 1) 20 24 = 0 := by simpa [st_u] using h24
  obtain ⟨Rp, v, g', q', r', k1, k2, k3, k4⟩ := kid ih ha hoc hd hl FT t24
  have go1 : goes r r' := by
    refine goes_tr (goes_w (by omega) a6 a7 h24 (fun K hK => ?_)) k3
    rw [wo_0 (by omega) (by omega) a6 a9 a10, r21]
    refine w7_0b (by omega) (by simp [hs]) K ?_
    rw [su_o _ _ _ _ _ (by decide), st_r a1.1 23 (by omega) (by omega), q4]
    exact k1 K hK
  have n12 : ¬ g0 2 e = 12 := by rw [hs]; decide
  have cl : ∀ Q : Int64 → st_S → Prop, wp_H_callWith (wp_H_workOut d) (nI f) (nI a) (g0 5 e) (nI oc) (st_u g 14 10 (nI (S + 1))) q Q → wp_H_workOut (d + 1) (nI e) (nI oc) g q Q := fun Q hh => cB_10 (by omega) hgS hS (by rw [gk 2 (by decide)]; exact hs) q Q (by rw [gk 3 (by decide), gk 4 (by decide), gk 5 (by decide), h3, h4]; exact hh)
  rcases k4 with ⟨rfl, k5, k6⟩ | ⟨φ2, nv2, P2, S2, F2, PM2, f2, e2, -, -, ⟨rfl, k5⟩ | ⟨k5, w, hw, rfl, k6⟩⟩
  · refine ⟨-2, g', q', r', fun Q hQ => cl Q ?_, go1, Or.inl ⟨rfl, k5, k6⟩⟩
    unfold wp_H_callWith
    exact k2 _ ⟨fun z => absurd z m_ge2, fun _ => hQ⟩
  · refine ⟨-1, g', q', _, fun Q hQ => cl Q ?_, goes_tr go1 (pop_f hp (by omega) he f2 k5 (Or.inl n12) (Or.inr (by decide))), fin_u f2 k5⟩
    unfold wp_H_callWith
    exact k2 _ ⟨fun z => absurd z m_ge1, fun _ => hQ⟩
  · have FU := FS_u (FS_t f2 2) (2 * lev) (r' 20 18) (Or.inl rfl)
    obtain ⟨b1, b2, b3, b4, b5, b6, b7, b8, b9, b10, b11⟩ := f2
    have ge := v_ge b1.2.2 hw
    have r21' : r' 21 e = 10 := by rw [st_r b1.1 21 (by omega) (by omega), hs21, hs]
    have s22 : st_u (st_u r' 34 lev 2) 36 (2 * lev) (r' 20 18) 22 e = nI f := by
      rw [su_o _ _ _ _ _ (by decide), su_o _ _ _ _ _ (by decide), st_r b1.1 22 (by omega) (by omega), q3]
    by_cases z3 : 3 ≤ f
    · rcases h5 with z | ⟨b, hb, h5, q5⟩
      · omega
      · obtain ⟨Rp2, v2, g2, q2, r2, k1', k2', k3', k4'⟩ := kid ih hb hoc hd hl FU (by simpa [st_u] using k5)
        have go2 : goes r r2 := by
          refine goes_tr go1 (goes_tr (goes_w (by omega) b6 b7 k5 (fun K hK => ?_)) k3')
          rw [wo_1 (by omega) (by omega) b6 b9 b10, r21']
          refine w7_c (by omega) (by decide) K (cq_1w (by omega) hf z3 s22 K ?_)
          rw [su_o _ _ _ _ _ (by decide), su_o _ _ _ _ _ (by decide), st_r b1.1 24 (by omega) (by omega), q5]
          exact k1' K hK
        have cl2 : ∀ Q : Int64 → st_S → Prop, wp_H_workOut d (nI b) (nI oc) g' q' (fun x36 u36 => (0 ≤ (lg_cmp x36 (0 : Int64)) → wp_H_callWith_L51 (wp_H_workOut d) Q u36.1 u36.2 (nI f) (nI oc) (φ2 w) x36) ∧ (¬ 0 ≤ (lg_cmp x36 (0 : Int64)) → Q x36 (u36.1, u36.2))) → wp_H_workOut (d + 1) (nI e) (nI oc) g q Q := by
          intro Q hh
          refine cl Q ?_
          unfold wp_H_callWith
          refine k2 _ ⟨fun _ => ?_, fun z => absurd ge z⟩
          rw [ex_pms]
          refine ⟨fun _ => ⟨fun z => absurd rfl z, fun _ => ?_⟩, fun z => absurd (le3.mpr z3) z⟩
          rw [h5]; exact hh
        rcases k4' with ⟨rfl, k5', k6'⟩ | ⟨φ3, nv3, P3, S3, F3, PM3, f3, e3, x36, -, ⟨rfl, k5'⟩ | ⟨k5', w2, hw2, rfl, k6'⟩⟩
        · exact ⟨-2, g2, q2, r2, fun Q hQ => cl2 Q (k2' _ ⟨fun z => absurd z m_ge2, fun _ => hQ⟩), go2, Or.inl ⟨rfl, k5', k6'⟩⟩
        · exact ⟨-1, g2, q2, _, fun Q hQ => cl2 Q (k2' _ ⟨fun z => absurd z m_ge1, fun _ => hQ⟩), goes_tr go2 (pop_f hp (by omega) he f3 k5' (Or.inl n12) (Or.inr (by decide))), fin_u f3 k5'⟩
        · have FV := FS_t (FS_u (FS_t f3 3) (2 * lev + 1) (r2 20 18) (Or.inr rfl)) 4
          obtain ⟨d1, d2, d3, d4, d5, d6, d7, d8, d9, d10, d11⟩ := f3
          have ge2 := v_ge d1.2.2 hw2
          have r21'' : r2 21 e = 10 := by rw [st_r d1.1 21 (by omega) (by omega), hs21, hs]
          have hwl : w < nv3 := Nat.lt_of_lt_of_le hw e3.1
          have hφ : φ3 w = φ2 w := e3.2 w hw
          obtain ⟨v3, g3, q3', r3, m1, ⟨Rc, m2, m2'⟩, m3⟩ := call_f hp hbd ih he hoc hd hl hs hf FV (by simpa [st_u] using k5') hwl (y := φ3 w2) (b := nI w2) (Or.inr ⟨z3, w2, hw2, rfl, rfl⟩)
          refine ⟨v3, g3, q3', r3, fun Q hQ => cl2 Q (k2' _ ⟨fun _ => ?_, fun z => absurd ge2 z⟩), goes_tr go2 (goes_tr (goes_w (by omega) d6 d7 k5' (fun K hK => ?_)) m2'), m3⟩
          · have := m1 Q hQ
            rw [hφ] at this
            exact this
          · rw [wo_2 (by omega) (by omega) d6 d9 d10, r21'']
            have s22' : st_u (st_u r2 34 lev 3) 36 (2 * lev + 1) (r2 20 18) 22 e = nI f := by
              rw [su_o _ _ _ _ _ (by decide), su_o _ _ _ _ _ (by decide), st_r d1.1 22 (by omega) (by omega), q3]
            refine w7_c (by omega) (by decide) K (cq_c (by omega) (by omega) hf s22' (Or.inr ⟨rfl, z3⟩) K ?_)
            have x1 : st_u (st_u r2 34 lev 3) 36 (2 * lev + 1) (r2 20 18) 36 (2 * lev) = nI w := by
              have : r2 36 (2 * lev) = nI w := by rw [x36]; simp [st_u, upd, k6]
              simp [st_u, upd, this]
            have x2 : st_u (st_u r2 34 lev 3) 36 (2 * lev + 1) (r2 20 18) 36 (2 * lev + 1) = nI w2 := by simp [st_u, upd, k6']
            rw [x1, x2]
            exact m2 K hK
    · have FV := FS_t FU 4
      obtain ⟨v3, g3, q3', r3, m1, ⟨Rc, m2, m2'⟩, m3⟩ := call_f hp hbd ih he hoc hd hl hs hf FV (by simpa [st_u] using k5) hw (y := -3) (b := st_u (st_u r' 34 lev 2) 36 (2 * lev) (r' 20 18) 36 (2 * lev + 1)) (Or.inl ⟨z3, rfl⟩)
      refine ⟨v3, g3, q3', r3, fun Q hQ => cl Q ?_, goes_tr go1 (goes_tr (goes_w (by omega) b6 b7 k5 (fun K hK => ?_)) m2'), m3⟩
      · unfold wp_H_callWith
        refine k2 _ ⟨fun _ => ?_, fun z => absurd ge z⟩
        rw [ex_pms]
        exact ⟨fun z => absurd (le3.mp z) z3, fun _ => ⟨fun _ => m1 Q hQ, fun z => absurd z (by decide)⟩⟩
      · rw [wo_1 (by omega) (by omega) b6 b9 b10, r21']
        refine w7_c (by omega) (by decide) K (cq_c (by omega) (by omega) hf s22 (Or.inl ⟨rfl, z3⟩) K ?_)
        have x1 : st_u (st_u r' 34 lev 2) 36 (2 * lev) (r' 20 18) 36 (2 * lev) = nI w := by simp [st_u, upd, k6]
        have := m2 K hK
        rw [x1]
        exact this
