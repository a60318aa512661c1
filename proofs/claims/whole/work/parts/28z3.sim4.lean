theorem sim_two {g0 r0 : st_I} {n d : Nat} (hp : pr_all g0 r0 n) (ih : SIM g0 r0 n d) {e oc lev : Nat} {g : st_I} {q : st_L} {r : st_I} {φ : Nat → Int64} {nv P S F PM : Nat} (he : e < n) (hoc : oc ≤ 5) (hd : (5 - oc) * 6 + (g0 7 e).toNatClampNeg + 1 ≤ d + 1) (hl : lev + (5 - oc) * 6 + (g0 7 e).toNatClampNeg ≤ 40) (hgS : g 14 10 = nI S) (hS : S < 200) (h : FS g0 r0 oc lev e 0 q r φ nv (st_u g 14 10 (nI (S + 1))) q r φ nv P (S + 1) F PM) (h24 : r 20 24 = 0) (hs : g0 2 e = 4 ∨ g0 2 e = 5 ∨ g0 2 e = 6 ∨ g0 2 e = 13) {a b : Nat} (ha : pr_c g0 n e a) (hb : pr_c g0 n e b) (h4 : g0 4 e = nI a) (q4 : r0 22 e = nI a) (h5 : g0 5 e = nI b) (q5 : r0 23 e = nI b) : ∃ v g' q' r', cw (d + 1) e oc g q v g' q' ∧ goes r r' ∧ OUT g0 r0 oc lev q r φ nv v g' q' r' := by
  have hn := hp.1
  have h' := h
  obtain ⟨a1, a2, a3, a4, a5, a6, a7, a8, a9, a10, a11⟩ := h
  have gk := gk_of a1.1
  have ce : (nI e).toNatClampNeg = e := nI_clamp (by omega)
  have ve : vp_in (nI e) 91 := vp_in_nI (by omega) (by omega)
  have hs21 : r0 21 e = g0 2 e := (hp.2.2.2 e he).1
  have r21 : r 21 e = g0 2 e := by rw [st_r a1.1 21 (by omega) (by omega), hs21]
  have FT := FS_t h' 1
  have t24 : (st_u r 34 lev 1) 20 24 = 0 := by simpa [st_u] using h24
  obtain ⟨Rp, v, g', q', r', k1, k2, k3, k4⟩ := kid ih ha hoc hd hl FT t24
  have go1 : goes r r' := by
    refine goes_tr (goes_w (by omega) a6 a7 h24 (fun K hK => ?_)) k3
    rw [wo_0 (by omega) (by omega) a6 a9 a10, r21]
    refine w7_0a (by omega) (by rcases hs with w | w | w | w <;> simp [w]) K ?_
    rw [su_o _ _ _ _ _ (by decide), st_r a1.1 22 (by omega) (by omega), q4]
    exact k1 K hK
  have n12 : ¬ g0 2 e = 12 := by rcases hs with w | w | w | w <;> rw [w] <;> decide
  have n10 : ¬ g0 2 e = 10 := by rcases hs with w | w | w | w <;> rw [w] <;> decide
  have e4 : st_u g 14 10 (nI (S + 1)) 4 e = nI a := by rw [su_o _ _ _ _ _ (by decide), gk 4 (by decide), h4]
  have cl : ∀ Q, wp_H_fromTwo (wp_H_workOut d) (nI e) (nI oc) (st_u g 14 10 (nI (S + 1))) q Q → wp_H_workOut (d + 1) (nI e) (nI oc) g q Q := fun Q => cB_2 (by omega) hgS hS (by rw [gk 2 (by decide)]; exact hs) q Q
  rcases k4 with ⟨rfl, k5, k6⟩ | ⟨φ2, nv2, P2, S2, F2, PM2, f2, e2, -, -, ⟨rfl, k5⟩ | ⟨k5, w, hw, rfl, k6⟩⟩
  · refine ⟨-2, g', q', r', fun Q hQ => cl Q ?_, go1, Or.inl ⟨rfl, k5, k6⟩⟩
    simp only [wp_H_fromTwo, ce, ve, e4, true_and]
    exact k2 _ ⟨fun z => absurd z m_ge2, fun _ => hQ⟩
  · refine ⟨-1, g', q', _, fun Q hQ => cl Q ?_, goes_tr go1 (pop_f hp (by omega) he f2 k5 (Or.inl n12) (Or.inl n10)), fin_u f2 k5⟩
    simp only [wp_H_fromTwo, ce, ve, e4, true_and]
    exact k2 _ ⟨fun z => absurd z m_ge1, fun _ => hQ⟩
  · have FU := FS_u (FS_t f2 2) (2 * lev) (r' 20 18) (Or.inl rfl)
    obtain ⟨b1, b2, b3, b4, b5, b6, b7, b8, b9, b10, b11⟩ := f2
    have ge := v_ge b1.2.2 hw
    have r21' : r' 21 e = g0 2 e := by rw [st_r b1.1 21 (by omega) (by omega), hs21]
    obtain ⟨Rp2, v2, g2, q2, r2, k1', k2', k3', k4'⟩ := kid ih hb hoc hd hl FU (by simpa [st_u] using k5)
    have go2 : goes r r2 := by
      refine goes_tr go1 (goes_tr (goes_w (by omega) b6 b7 k5 (fun K hK => ?_)) k3')
      rw [wo_1 (by omega) (by omega) b6 b9 b10, r21']
      refine w7_1b (by omega) hs K ?_
      rw [su_o _ _ _ _ _ (by decide), su_o _ _ _ _ _ (by decide), st_r b1.1 23 (by omega) (by omega), q5]
      exact k1' K hK
    have e5 : g' 5 e = nI b := by rw [b1.1.1 5 (by decide), h5]
    have cl2 : ∀ Q : Int64 → st_S → Prop, wp_H_workOut d (nI b) (nI oc) g' q' (fun x34 u34 => (0 ≤ (lg_cmp x34 (0 : Int64)) → (¬ (u34.1 2 e) = (6 : Int32) → (¬ (u34.1 2 e) = (13 : Int32) → wp_H_calculate (u34.1 2 e) (φ2 w) x34 u34.1 u34.2 Q) ∧ ((u34.1 2 e) = (13 : Int32) → (¬ φ2 w = x34 → Q (vl 0 0) (u34.1, u34.2)) ∧ (φ2 w = x34 → Q (vl 1 0) (u34.1, u34.2)))) ∧ ((u34.1 2 e) = (6 : Int32) → wp_H_pair (φ2 w) x34 u34.1 u34.2 Q)) ∧ (¬ 0 ≤ (lg_cmp x34 (0 : Int64)) → Q x34 (u34.1, u34.2))) → wp_H_workOut (d + 1) (nI e) (nI oc) g q Q := by
      intro Q hh
      refine cl Q ?_
      simp only [wp_H_fromTwo, wp_H_fromTwo_L94, wp_H_fromTwo_L110, ce, ve, e4, true_and, lg_e, ex_value]
      refine k2 _ ⟨fun _ => ?_, fun z => absurd ge z⟩
      simp only [e5]
      exact hh
    rcases k4' with ⟨rfl, k5', k6'⟩ | ⟨φ3, nv3, P3, S3, F3, PM3, f3, e3, x36, -, ⟨rfl, k5'⟩ | ⟨k5', w2, hw2, rfl, k6'⟩⟩
    · exact ⟨-2, g2, q2, r2, fun Q hQ => cl2 Q (k2' _ ⟨fun z => absurd z m_ge2, fun _ => hQ⟩), go2, Or.inl ⟨rfl, k5', k6'⟩⟩
    · exact ⟨-1, g2, q2, _, fun Q hQ => cl2 Q (k2' _ ⟨fun z => absurd z m_ge1, fun _ => hQ⟩), goes_tr go2 (pop_f hp (by omega) he f3 k5' (Or.inl n12) (Or.inl n10)), fin_u f3 k5'⟩
    · have FV := FS_u (FS_t f3 3) (2 * lev + 1) (r2 20 18) (Or.inr rfl)
      obtain ⟨d1, d2, d3, d4, d5, d6, d7, d8, d9, d10, d11⟩ := f3
      have ge2 := v_ge d1.2.2 hw2
      have r21'' : r2 21 e = g0 2 e := by rw [st_r d1.1 21 (by omega) (by omega), hs21]
      have hwl : w < nv3 := Nat.lt_of_lt_of_le hw e3.1
      have hφ : φ3 w = φ2 w := e3.2 w hw
      obtain ⟨v3, g3, q3, r3, m1, m2, m3⟩ := comb (n := n) (d := d) (by omega) FV (by simpa [st_u] using k5') hs hwl hw2
      refine ⟨v3, g3, q3, r3, fun Q hQ => cl2 Q (k2' _ ⟨fun _ => ?_, fun z => absurd ge2 z⟩), goes_tr go2 (goes_w (by omega) d6 d7 k5' (fun K hK => ?_)), m3⟩
      · have := m1 Q hQ
        rw [hφ] at this
        simp only [d1.1.1 2 (by decide)]
        exact this
      · rw [wo_2 (by omega) (by omega) d6 d9 d10, r21'']
        refine w7_2b (by omega) (by omega) hs K ?_
        have x1 : st_u (st_u r2 34 lev 3) 36 (2 * lev + 1) (r2 20 18) 36 (2 * lev) = nI w := by
          have : r2 36 (2 * lev) = nI w := by rw [x36]; simp [st_u, upd, k6]
          simp [st_u, upd, this]
        have x2 : st_u (st_u r2 34 lev 3) 36 (2 * lev + 1) (r2 20 18) 36 (2 * lev + 1) = nI w2 := by simp [st_u, upd, k6']
        rw [x1, x2]
        exact m2 K hK
theorem sim_case {g0 r0 : st_I} {n d : Nat} (hp : pr_all g0 r0 n) (ih : SIM g0 r0 n d) {e oc lev : Nat} {g : st_I} {q : st_L} {r : st_I} {φ : Nat → Int64} {nv P S F PM : Nat} (he : e < n) (hoc : oc ≤ 5) (hd : (5 - oc) * 6 + (g0 7 e).toNatClampNeg + 1 ≤ d + 1) (hl : lev + (5 - oc) * 6 + (g0 7 e).toNatClampNeg ≤ 40) (hgS : g 14 10 = nI S) (hS : S < 200) (h : FS g0 r0 oc lev e 0 q r φ nv (st_u g 14 10 (nI (S + 1))) q r φ nv P (S + 1) F PM) (h24 : r 20 24 = 0) (h9 : g0 2 e = 9) {m a b c : Nat} (hm : m < 512) (h3 : g0 3 e = nI m) (q3 : r0 23 e = nI m) (ha : pr_c g0 n e a) (hb : pr_c g0 n e b) (hc : pr_c g0 n e c) (h4 : g0 4 e = nI a) (q4 : r0 22 e = nI a) (h5 : g0 5 e = nI b) (q5 : r0 24 e = nI b) (h6 : g0 6 e = nI c) (q6 : r0 25 e = nI c) : ∃ v g' q' r', cw (d + 1) e oc g q v g' q' ∧ goes r r' ∧ OUT g0 r0 oc lev q r φ nv v g' q' r' := by
  have hn := hp.1
  have h' := h
  obtain ⟨a1, a2, a3, a4, a5, a6, a7, a8, a9, a10, a11⟩ := h
  have gk := gk_of a1.1
  have ce : (nI e).toNatClampNeg = e := nI_clamp (by omega)
  have ve : vp_in (nI e) 91 := vp_in_nI (by omega) (by omega)
  have hs21 : r0 21 e = g0 2 e := (hp.2.2.2 e he).1
  have r21 : r 21 e = g0 2 e := by rw [st_r a1.1 21 (by omega) (by omega), hs21]
  have FT := FS_t h' 1
  have t24 : (st_u r 34 lev 1) 20 24 = 0 := by simpa [st_u] using h24
  obtain ⟨Rp, v, g', q', r', k1, k2, k3, k4⟩ := kid ih ha hoc hd hl FT t24
  have go1 : goes r r' := by
    refine goes_tr (goes_w (by omega) a6 a7 h24 (fun K hK => ?_)) k3
    rw [wo_0 (by omega) (by omega) a6 a9 a10, r21]
    refine w7_0a (by omega) (by simp [h9]) K ?_
    rw [su_o _ _ _ _ _ (by decide), st_r a1.1 22 (by omega) (by omega), q4]
    exact k1 K hK
  have n12 : ¬ g0 2 e = 12 := by rw [h9]; decide
  have n10 : ¬ g0 2 e = 10 := by rw [h9]; decide
  have e4 : st_u g 14 10 (nI (S + 1)) 4 e = nI a := by rw [su_o _ _ _ _ _ (by decide), gk 4 (by decide), h4]
  have cl : ∀ Q, wp_H_oneOfCase (wp_H_workOut d) (nI e) (nI oc) (st_u g 14 10 (nI (S + 1))) q Q → wp_H_workOut (d + 1) (nI e) (nI oc) g q Q := fun Q => cB_9 (by omega) hgS hS (by rw [gk 2 (by decide)]; exact h9) q Q
  rcases k4 with ⟨rfl, k5, k6⟩ | ⟨φ2, nv2, P2, S2, F2, PM2, f2, e2, -, -, ⟨rfl, k5⟩ | ⟨k5, w, hw, rfl, k6⟩⟩
  · refine ⟨-2, g', q', r', fun Q hQ => cl Q ?_, go1, Or.inl ⟨rfl, k5, k6⟩⟩
    simp only [wp_H_oneOfCase, ce, ve, e4, true_and]
    exact k2 _ ⟨fun z => absurd z m_ge2, fun _ => hQ⟩
  · refine ⟨-1, g', q', _, fun Q hQ => cl Q ?_, goes_tr go1 (pop_f hp (by omega) he f2 k5 (Or.inl n12) (Or.inl n10)), fin_u f2 k5⟩
    simp only [wp_H_oneOfCase, ce, ve, e4, true_and]
    exact k2 _ ⟨fun z => absurd z m_ge1, fun _ => hQ⟩
  · have FU := FS_u (FS_t f2 2) (2 * lev) (r' 20 18) (Or.inl rfl)
    obtain ⟨b1, b2, b3, b4, b5, b6, b7, b8, b9, b10, b11⟩ := f2
    have ge := v_ge b1.2.2 hw
    have kw := (vr_ko (b1.2.2.2.2.2.1 w hw)).1
    have nvb : nv2 ≤ 200 := by have := b1.2.1.2.2.2.2.2.2.1; omega
    have r21' : r' 21 e = g0 2 e := by rw [st_r b1.1 21 (by omega) (by omega), hs21]
    have hx : ∃ x, pr_c g0 n e x ∧ (if hs (g0 3 e) (r' 37 w) = true then g0 5 e else g0 6 e) = nI x ∧ (if hs (r0 23 e) (r' 37 w) = true then r0 24 e else r0 25 e) = nI x := by
      rw [q3, h3]
      by_cases z : hs (nI m) (r' 37 w) = true
      · exact ⟨b, hb, by rw [if_pos z, h5], by rw [if_pos z, q5]⟩
      · exact ⟨c, hc, by rw [if_neg z, h6], by rw [if_neg z, q6]⟩
    obtain ⟨x, hxc, x1, x2⟩ := hx
    obtain ⟨Rp2, v2, g2, q2, r2, k1', k2', k3', k4'⟩ := kid ih hxc hoc hd hl FU (by simpa [st_u] using k5)
    have go2 : goes r r2 := by
      refine goes_tr go1 (goes_tr (goes_w (by omega) b6 b7 k5 (fun K hK => ?_)) k3')
      rw [wo_1 (by omega) (by omega) b6 b9 b10, r21', h9]
      refine w7_1k (w := w) (by omega) (by omega) (by simpa [st_u] using k6) K ?_
      have y1 : st_u (st_u r' 34 lev 2) 36 (2 * lev) (r' 20 18) 23 e = r0 23 e := by simp [st_u, st_r b1.1 23 (by omega) (by omega)]
      have y2 : st_u (st_u r' 34 lev 2) 36 (2 * lev) (r' 20 18) 24 e = r0 24 e := by simp [st_u, st_r b1.1 24 (by omega) (by omega)]
      have y3 : st_u (st_u r' 34 lev 2) 36 (2 * lev) (r' 20 18) 25 e = r0 25 e := by simp [st_u, st_r b1.1 25 (by omega) (by omega)]
      have y4 : st_u (st_u r' 34 lev 2) 36 (2 * lev) (r' 20 18) 37 w = r' 37 w := by simp [st_u]
      rw [y1, y2, y3, y4, x2]
      exact k1' K hK
    have cl2 : ∀ Q : Int64 → st_S → Prop, wp_H_workOut d (nI x) (nI oc) g' q' (fun x69 u69 => Q x69 (u69.1, u69.2)) → wp_H_workOut (d + 1) (nI e) (nI oc) g q Q := by
      intro Q hh
      refine cl Q ?_
      simp only [wp_H_oneOfCase, wp_H_oneOfCase_L68, ce, ve, e4, true_and, ex_kindOf, ex_has]
      refine k2 _ ⟨fun _ => ?_, fun z => absurd ge z⟩
      simp only [kw, b1.1.1 3 (by decide), b1.1.1 5 (by decide), b1.1.1 6 (by decide)]
      refine ⟨fun z => ⟨fun _ => ?_, fun y => absurd trivial y⟩, fun z => ⟨fun y => absurd y (by decide), fun _ => ?_⟩⟩
      · rw [if_neg (by rw [z]; decide)] at x1
        rw [x1]; exact hh
      · rw [if_pos z] at x1
        rw [x1]; exact hh
    rcases k4' with ⟨rfl, k5', k6'⟩ | ⟨φ3, nv3, P3, S3, F3, PM3, f3, e3, x36, -, ⟨rfl, k5'⟩ | ⟨k5', w2, hw2, rfl, k6'⟩⟩
    · exact ⟨-2, g2, q2, r2, fun Q hQ => cl2 Q (k2' _ hQ), go2, Or.inl ⟨rfl, k5', k6'⟩⟩
    · exact ⟨-1, g2, q2, _, fun Q hQ => cl2 Q (k2' _ hQ), goes_tr go2 (pop_f hp (by omega) he f3 k5' (Or.inl n12) (Or.inl n10)), fin_u f3 k5'⟩
    · have FV := FS_u (FS_t f3 3) (2 * lev + 1) (r2 20 18) (Or.inr rfl)
      obtain ⟨d1, d2, d3, d4, d5, d6, d7, d8, d9, d10, d11⟩ := f3
      have r21'' : r2 21 e = g0 2 e := by rw [st_r d1.1 21 (by omega) (by omega), hs21]
      refine ⟨_, g2, q2, _, fun Q hQ => cl2 Q (k2' _ hQ), goes_tr go2 (goes_w (by omega) d6 d7 k5' (fun K hK => ?_)), fin_v FV (by simpa [st_u] using k5') hw2⟩
      rw [wo_2 (by omega) (by omega) d6 d9 d10, r21'']
      refine w7_e (by omega) (by omega) (by simpa [st_u] using d6) (Or.inl ⟨h9, rfl⟩) K ?_
      have : st_u (st_u r2 34 lev 3) 36 (2 * lev + 1) (r2 20 18) 20 18 = nI w2 := by simpa [st_u] using k6'
      rw [this]; exact hK
theorem sim_try {g0 r0 : st_I} {n d : Nat} (hp : pr_all g0 r0 n) (ih : SIM g0 r0 n d) {e oc lev : Nat} {g : st_I} {q : st_L} {r : st_I} {φ : Nat → Int64} {nv P S F PM : Nat} (he : e < n) (hoc : oc ≤ 5) (hd : (5 - oc) * 6 + (g0 7 e).toNatClampNeg + 1 ≤ d + 1) (hl : lev + (5 - oc) * 6 + (g0 7 e).toNatClampNeg ≤ 40) (hgS : g 14 10 = nI S) (hS : S < 200) (h : FS g0 r0 oc lev e 0 q r φ nv (st_u g 14 10 (nI (S + 1))) q r φ nv P (S + 1) F PM) (h24 : r 20 24 = 0) (hs : g0 2 e = 12) {a b : Nat} (ha : pr_c g0 n e a) (hb : pr_c g0 n e b) (h4 : g0 4 e = nI a) (q4 : r0 22 e = nI a) (h5 : g0 5 e = nI b) (q5 : r0 23 e = nI b) : ∃ v g' q' r', cw (d + 1) e oc g q v g' q' ∧ goes r r' ∧ OUT g0 r0 oc lev q r φ nv v g' q' r' := by
  have hn := hp.1
  have h' := h
  obtain ⟨a1, a2, a3, a4, a5, a6, a7, a8, a9, a10, a11⟩ := h
  have gk := gk_of a1.1
  have ce : (nI e).toNatClampNeg = e := nI_clamp (by omega)
  have ve : vp_in (nI e) 91 := vp_in_nI (by omega) (by omega)
  have hs21 : r0 21 e = g0 2 e := (hp.2.2.2 e he).1
  have r21 : r 21 e = g0 2 e := by rw [st_r a1.1 21 (by omega) (by omega), hs21]
  have FT := FS_t h' 1
  have t24 : (st_u r 34 lev 1) 20 24 = 0 := by simpa [st_u] using h24
  obtain ⟨Rp, v, g', q', r', k1, k2, k3, k4⟩ := kid ih ha hoc hd hl FT t24
  have go1 : goes r r' := by
    refine goes_tr (goes_w (by omega) a6 a7 h24 (fun K hK => ?_)) k3
    rw [wo_0 (by omega) (by omega) a6 a9 a10, r21]
    refine w7_0a (by omega) (by simp [hs]) K ?_
    rw [su_o _ _ _ _ _ (by decide), st_r a1.1 22 (by omega) (by omega), q4]
    exact k1 K hK
  have n10 : ¬ g0 2 e = 10 := by rw [hs]; decide
  have e4 : st_u g 14 10 (nI (S + 1)) 4 e = nI a := by rw [su_o _ _ _ _ _ (by decide), gk 4 (by decide), h4]
  have cl : ∀ Q, wp_H_firstOrElse (wp_H_workOut d) (nI e) (nI oc) (st_u g 14 10 (nI (S + 1))) q Q → wp_H_workOut (d + 1) (nI e) (nI oc) g q Q := fun Q => cB_12 (by omega) hgS hS (by rw [gk 2 (by decide)]; exact hs) q Q
  rcases k4 with ⟨rfl, k5, k6⟩ | ⟨φ2, nv2, P2, S2, F2, PM2, f2, e2, -, -, ⟨rfl, k5⟩ | ⟨k5, w, hw, rfl, k6⟩⟩
  · refine ⟨-2, g', q', r', fun Q hQ => cl Q ?_, go1, Or.inl ⟨rfl, k5, k6⟩⟩
    simp only [wp_H_firstOrElse, wp_H_firstOrElse_L41, ce, ve, e4, true_and, lg_e]
    exact k2 _ ⟨fun _ => hQ, fun z => absurd z (by decide)⟩
  · have FU := FS_t (FS_24 f2 0) 2
    obtain ⟨b1, b2, b3, b4, b5, b6, b7, b8, b9, b10, b11⟩ := f2
    have r21' : r' 21 e = g0 2 e := by rw [st_r b1.1 21 (by omega) (by omega), hs21]
    obtain ⟨Rp2, v2, g2, q2, r2, k1', k2', k3', k4'⟩ := kid ih hb hoc hd hl FU (by simp [st_u, upd])
    have go2 : goes r r2 := by
      refine goes_tr go1 (goes_tr (goes_u (by omega) b6 b7 k5 (fun K hK => ?_)) k3')
      refine goup_try (S := 0) (by omega) (by omega) b6 b9 (by rw [r21', hs]) b10 K ?_
      rw [st_r b1.1 23 (by omega) (by omega), q5]
      exact k1' K hK
    have e5 : g' 5 e = nI b := by rw [b1.1.1 5 (by decide), h5]
    have cl2 : ∀ Q : Int64 → st_S → Prop, wp_H_workOut d (nI b) (nI oc) g' q' (fun x34 u34 => Q x34 (u34.1, u34.2)) → wp_H_workOut (d + 1) (nI e) (nI oc) g q Q := by
      intro Q hh
      refine cl Q ?_
      simp only [wp_H_firstOrElse, wp_H_firstOrElse_L41, ce, ve, e4, true_and, lg_e]
      refine k2 _ ⟨fun z => absurd rfl z, fun _ => ?_⟩
      simp only [e5]
      exact hh
    rcases k4' with ⟨rfl, k5', k6'⟩ | ⟨φ3, nv3, P3, S3, F3, PM3, f3, e3, x36, -, ⟨rfl, k5'⟩ | ⟨k5', w2, hw2, rfl, k6'⟩⟩
    · exact ⟨-2, g2, q2, r2, fun Q hQ => cl2 Q (k2' _ hQ), go2, Or.inl ⟨rfl, k5', k6'⟩⟩
    · exact ⟨-1, g2, q2, _, fun Q hQ => cl2 Q (k2' _ hQ), goes_tr go2 (pop_f hp (by omega) he f3 k5' (Or.inr (by decide)) (Or.inl n10)), fin_u f3 k5'⟩
    · have FV := FS_u (FS_t f3 3) (2 * lev + 1) (r2 20 18) (Or.inr rfl)
      obtain ⟨d1, d2, d3, d4, d5, d6, d7, d8, d9, d10, d11⟩ := f3
      have r21'' : r2 21 e = g0 2 e := by rw [st_r d1.1 21 (by omega) (by omega), hs21]
      refine ⟨_, g2, q2, _, fun Q hQ => cl2 Q (k2' _ hQ), goes_tr go2 (goes_w (by omega) d6 d7 k5' (fun K hK => ?_)), fin_v FV (by simpa [st_u] using k5') hw2⟩
      rw [wo_2 (by omega) (by omega) d6 d9 d10, r21'']
      refine w7_e (by omega) (by omega) (by simpa [st_u] using d6) (Or.inr (Or.inr ⟨hs, Or.inr rfl⟩)) K ?_
      have : st_u (st_u r2 34 lev 3) 36 (2 * lev + 1) (r2 20 18) 20 18 = nI w2 := by simpa [st_u] using k6'
      rw [this]; exact hK
  · have FV := FS_u (FS_t f2 2) (2 * lev) (r' 20 18) (Or.inl rfl)
    obtain ⟨b1, b2, b3, b4, b5, b6, b7, b8, b9, b10, b11⟩ := f2
    have r21' : r' 21 e = g0 2 e := by rw [st_r b1.1 21 (by omega) (by omega), hs21]
    have ne := v_ne b1.2.2 hw (-1) (by decide)
    refine ⟨_, g', q', _, fun Q hQ => cl Q ?_, goes_tr go1 (goes_w (by omega) b6 b7 k5 (fun K hK => ?_)), fin_v FV (by simpa [st_u] using k5) hw⟩
    · simp only [wp_H_firstOrElse, wp_H_firstOrElse_L41, ce, ve, e4, true_and, lg_e]
      exact k2 _ ⟨fun _ => hQ, fun z => absurd z ne⟩
    · rw [wo_1 (by omega) (by omega) b6 b9 b10, r21']
      refine w7_e (by omega) (by omega) (by simpa [st_u] using b6) (Or.inr (Or.inr ⟨hs, Or.inl rfl⟩)) K ?_
      have : st_u (st_u r' 34 lev 2) 36 (2 * lev) (r' 20 18) 20 18 = nI w := by simpa [st_u] using k6
      rw [this]; exact hK
