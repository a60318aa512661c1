theorem go_e {r' : st_I} {Q : st_I → Prop} (h : r' 20 13 = 0 ∨ ¬ r' 20 25 = 0) (hQ : Q r') : ∃ n, wp_M_go_L0 Q n r' := by
  refine ⟨1, ?_⟩
  rw [wp_M_go_L0]
  refine ⟨fun _ => hQ, fun z => ⟨fun _ => hQ, fun w => ?_⟩⟩
  rcases h with h | h
  · exact absurd (by rw [h]; decide) z
  · exact absurd w h
theorem out_e {g0 r0 : st_I} {oc : Nat} {q : st_L} {r : st_I} {φ : Nat → Int64} {nv : Nat} {v : Int64} {g' : st_I} {q' : st_L} {r' : st_I} (h : OUT g0 r0 oc 0 q r φ nv v g' q' r') : r' 20 13 = 0 ∨ ¬ r' 20 25 = 0 := by
  rcases h with ⟨-, h, -⟩ | ⟨φ2, nv2, P2, S2, F2, PM2, b1, b2, b3, b4, b5, b6, -⟩
  · exact Or.inr h
  · exact Or.inl b6
theorem top {g0 r0 : st_I} {n d : Nat} (hp : pr_all g0 r0 n) (ih : SIM g0 r0 n d) {e : Nat} (he : e < n) (hd : 36 ≤ d) {g : st_I} {q : st_L} {R : st_I} {φ : Nat → Int64} {nv P S F PM : Nat} (a1 : sAL g0 r0 g q R φ nv P S F PM) (hnv : nv ≤ S) (h25 : R 20 25 = 0) (h24 : R 20 24 = 0) (h29 : R 20 29 = 0) (hq : ∀ j, j < 4 → q 16 j = -3) : ∃ v g' q' r' Rx, cw d e 0 g q v g' q' ∧ (∀ Q : Int32 → st_I → Prop, Q (r' 20 18) r' → wp_M_worked (nI e) R Q) ∧ OUT g0 r0 0 0 q Rx φ nv v g' q' r' := by
  have hn := hp.1
  obtain ⟨-, ⟨dd, hdd, h7, -⟩, -⟩ := hp.2.2.2 e he
  have hde : (g0 7 e).toNatClampNeg ≤ 5 := by rw [h7, nI_clamp (by omega)]; omega
  have S200 : S ≤ 200 := a1.2.1.2.2.2.2.2.2.1
  have r26 : (st_u R 20 13 0) 20 26 = nI S := by simpa [st_u, upd] using a1.2.1.2.1
  by_cases hS : S < 200
  · have st := sAL_step (sAL_ctl a1 (ctl_u R 20 13 0 (by omega))) hS
    have n200 : ¬ nI S = (200 : Int32) := fun z => absurd ((nI_eq (a := S) (b := 200) (by omega) (by omega)).mp z) (by omega)
    have fs : FS g0 r0 0 0 e 0 q (st_u (st_u (st_u (st_u (st_u (st_u (st_u (st_u (st_u R 20 13 0) 20 26 (nI (S + 1))) 33 0 (nI e)) 34 0 0) 20 13 1) 35 0 (-1)) 35 1 (-1)) 35 2 (-1)) 35 3 (-1)) φ nv (st_u g 14 10 (nI (S + 1))) q (st_u (st_u (st_u (st_u (st_u (st_u (st_u (st_u (st_u R 20 13 0) 20 26 (nI (S + 1))) 33 0 (nI e)) 34 0 0) 20 13 1) 35 0 (-1)) 35 1 (-1)) 35 2 (-1)) 35 3 (-1)) φ nv P (S + 1) F PM := by
      refine ⟨sAL_ctl st (ctl_tr (ctl_u _ _ _ _ (by omega)) (ctl_tr (ctl_u _ _ _ _ (by omega)) (ctl_tr (ctl_u _ _ _ _ (by omega)) (ctl_tr (ctl_u _ _ _ _ (by omega)) (ctl_tr (ctl_u _ _ _ _ (by omega)) (ctl_tr (ctl_u _ _ _ _ (by omega)) (ctl_u _ _ _ _ (by omega)))))))), ext_rf _ _, by omega, fun _ _ => rfl, blw_rf _ _, ?_, ?_, ?_, ?_, ?_, fun v hv => ?_⟩
      · simp [st_u, upd]; rfl
      · simpa [st_u, upd] using h25
      · simp [st_u, upd, h29]; rfl
      · simp [st_u, upd]
      · simp [st_u, upd]
      · refine Or.inl ⟨by rw [Nat.mul_zero, Nat.zero_add]; exact hq v hv, ?_⟩
        rcases v4c hv with rfl | rfl | rfl | rfl <;> simp [st_u, upd]
    obtain ⟨v, g', q', r', c1, c2, c3⟩ := ih e 0 0 g q _ φ nv P S F PM he (by omega) (by omega) (by omega) a1.2.1.1 hS fs (by simpa [st_u, upd] using h24)
    refine ⟨v, g', q', r', _, c1, fun Q hQ => ?_, c3⟩
    unfold wp_M_worked wp_M_work
    rw [r26, nI_1]
    refine ⟨fun _ => ?_, fun z => absurd z n200⟩
    refine rx_look0 _ _ (by simp [st_u, upd]) _ ?_
    have lp : ∀ (X : st_I) (v m : Nat), v < 4 → X 20 25 = 0 → wp_M_worked_L12 Q m (st_u X 35 v (-1)) (nI (v + 1)) → wp_M_worked_L12 Q (m + 1) X (nI v) := by
      intro X v m hv hX hm
      have l4 : ¬ (4 : Int32) ≤ nI v := nI_ge (b := 4) hv (by omega)
      have cv : (nI v).toNatClampNeg = v := nI_clamp (by omega)
      have v1 : nI v + 1 = nI (v + 1) := nI_1 v
      rw [wp_M_worked_L12]
      refine ⟨fun z => absurd z l4, fun _ => ⟨fun z => absurd hX z, fun _ => ⟨vp_in_nI (by omega) (by omega), ?_⟩⟩⟩
      rw [cv, v1]; exact hm
    refine ⟨5, lp _ 0 4 (by omega) (by simpa [st_u, upd] using h25) (lp _ 1 3 (by omega) (by simpa [st_u, upd] using h25) (lp _ 2 2 (by omega) (by simpa [st_u, upd] using h25) (lp _ 3 1 (by omega) (by simpa [st_u, upd] using h25) ?_)))⟩
    rw [wp_M_worked_L12]
    refine ⟨fun _ => ?_, fun z => absurd (by decide) z⟩
    unfold wp_M_worked_L37 wp_M_go
    exact c2 _ (go_e (out_e c3) hQ)
  · have e200 : S = 200 := by omega
    subst e200
    refine ⟨-2, g, q, st_u (st_u R 20 13 0) 20 25 1, R, cut_c (by omega) a1.2.1.1 q, fun Q hQ => ?_, Or.inl ⟨rfl, by simp [st_u, upd], sST_ctl (sST_ctl a1.1 (ctl_u _ _ _ _ (by omega))) (ctl_u _ _ _ _ (by omega))⟩⟩
    unfold wp_M_worked wp_M_work
    refine ⟨fun z => absurd r26 z, fun _ => ⟨1, ?_⟩⟩
    rw [wp_M_worked_L12]
    refine ⟨fun z => absurd z (by decide), fun _ => ⟨fun _ => ?_, fun z => absurd z (by simp [st_u, upd])⟩⟩
    unfold wp_M_worked_L37 wp_M_go
    exact go_e (Or.inl (by simp [st_u, upd])) hQ
def RO (g0 r0 : st_I) (v : Int64) (g' : st_I) (q' : st_L) (r' : st_I) : Prop := (v = -2 ∧ ¬ r' 20 25 = 0 ∧ sST g0 r0 g' r') ∨ (v = -1 ∧ r' 20 25 = 0 ∧ r' 20 24 = 1 ∧ sST g0 r0 g' r') ∨ (r' 20 25 = 0 ∧ r' 20 24 = 0 ∧ ∃ φ nv P S F PM w, sAL g0 r0 g' q' r' φ nv P S F PM ∧ nv ≤ S ∧ w < nv ∧ v = φ w ∧ r' 20 18 = nI w)
theorem ro_out {g0 r0 : st_I} {oc : Nat} {q : st_L} {r : st_I} {φ : Nat → Int64} {nv : Nat} {v : Int64} {g' : st_I} {q' : st_L} {r' : st_I} (h : OUT g0 r0 oc 0 q r φ nv v g' q' r') : RO g0 r0 v g' q' r' := by
  rcases h with h | ⟨φ2, nv2, P2, S2, F2, PM2, b1, b2, b3, b4, b5, b6, b7, b8, ⟨x1, x2⟩ | ⟨x1, w, hw, x2, x3⟩⟩
  · exact Or.inl h
  · exact Or.inr (Or.inl ⟨x1, b7, x2, b1.1⟩)
  · exact Or.inr (Or.inr ⟨b7, x1, φ2, nv2, P2, S2, F2, PM2, w, b1, by omega, hw, x2, x3⟩)
theorem run_c {g0 r0 : st_I} {n : Nat} (hp : pr_all g0 r0 n) (hb : bod g0 r0 n) {f w1 : Nat} (hf : f < 6) {g1 : st_I} {q1 : st_L} {R : st_I} {φ1 : Nat → Int64} {nv1 P1 S1 F1 PM1 : Nat} (a1 : sAL g0 r0 g1 q1 R φ1 nv1 P1 S1 F1 PM1) (hnv : nv1 ≤ S1) (h25 : R 20 25 = 0) (h24 : R 20 24 = 0) (h29 : R 20 29 = 0) (hw1 : w1 < nv1) {y : Int64} {b : Int32} (hy : ¬ 3 ≤ f ∧ y = -3 ∨ 3 ≤ f ∧ ∃ w2, w2 < nv1 ∧ y = φ1 w2 ∧ b = nI w2) : ∃ v g' q' r', (∀ Q : Int64 → st_S → Prop, Q v (g', q') → wp_H_callWith_L51 (wp_H_workOut 40) Q g1 q1 (nI f) 0 (φ1 w1) y) ∧ (∀ Q : Int32 → st_I → Prop, wp_M_run_L171 Q r' → wp_M_run_L139 Q R (nI f) (nI w1) b) ∧ RO g0 r0 v g' q' r' := by
  obtain ⟨v, g', q', Rc, k1, k2, k3⟩ := cal (R := st_u R 20 13 0) hp hb (sim_all hp hb 40) (oc := 0) (l := 0) (by omega) hf (fun _ => by omega) (by omega) (fun _ => by omega) (sAL_ctl a1 (ctl_u _ _ _ _ (by omega))) (by omega) (by simp [st_u, upd]; rfl) (by simpa [st_u, upd] using h25) (by simpa [st_u, upd] using h24) (by simp [st_u, upd, h29]; rfl) hw1 hy
  have fin : ∀ r', goes Rc r' → (r' 20 13 = 0 ∨ ¬ r' 20 25 = 0) → ∀ Q : Int32 → st_I → Prop, wp_M_run_L171 Q r' → wp_M_run_L139 Q R (nI f) (nI w1) b := by
    intro r' hg he Q hQ
    unfold wp_M_run_L139
    refine ⟨fun z => absurd h24 z, fun _ => ⟨fun z => absurd h25 z, fun _ => k2 _ ?_⟩⟩
    exact hg _ (go_e he hQ)
  rcases k3 with ⟨rfl, c1, c2, c3⟩ | ⟨rfl, c1, -, ⟨F', c2⟩, c3, c4, c5, c6⟩ | ⟨c1, r', q2, c2, c3, c4, c5⟩
  · exact ⟨-2, g', q', Rc, k1, fin Rc (goes_rf _) (Or.inr c1), Or.inl ⟨rfl, c1, c3⟩⟩
  · exact ⟨-1, g', q', Rc, k1, fin Rc (goes_rf _) (Or.inl c4), Or.inr (Or.inl ⟨rfl, c5, c1, c2.1⟩)⟩
  · exact ⟨v, g', q', r', k1, fin r' c2 (out_e c5), ro_out c5⟩
theorem run_core {g r : st_I} {n : Nat} (hp : pr_all g r n) (hb : bod g r n) {f e1 : Nat} (hf : f < 6) (he1 : e1 < n) (c : Int32) (hc : 3 ≤ f → ∃ e2, e2 < n ∧ c = nI e2) (q : st_L) : ∃ v g' q' r', (∀ Q : Int64 → st_S → Prop, Q v (g', q') → wp_H_start 40 (nI f) (nI e1) c g q Q) ∧ (∀ Q : Int32 → st_I → Prop, wp_M_run_L171 Q r' → wp_M_run_L36 Q r (nI f) (nI e1) c) ∧ RO g (st_u r 20 35 0) v g' q' r' := by
  have hp0 : pr_all g (st_u r 20 35 0) n := pr_r hp (by simp [st_u, upd]) (fun k h1 h2 => su_o _ _ _ _ _ (by omega))
  have hb0 : bod g (st_u r 20 35 0) n := bod_r hb (su_o _ _ _ _ _ (by decide))
  have le3 : ((3 : Int32) ≤ nI f) ↔ 3 ≤ f := nI_leI (a := 3) (by omega) (by omega)
  have sim := sim_all hp0 hb0 40
  have start : sAL g (st_u r 20 35 0) (st_u (st_u (st_u (st_u (st_u g 14 2 0) 14 8 0) 14 9 0) 14 10 0) 14 11 0) (st_v (st_v (st_v (st_v q 16 0 (-3)) 16 1 (-3)) 16 2 (-3)) 16 3 (-3)) (st_u (st_u (st_u (st_u (st_u (st_u (st_u (st_u (st_u r 20 35 0) 20 19 0) 20 24 0) 20 25 0) 20 26 0) 20 27 0) 20 28 0) 20 29 0) 20 30 0) (fun _ => 0) 0 0 0 0 0 := by
    refine ⟨⟨fun k hk => ?_, by simp [st_u, upd], fun k hk _ => ?_, fun j hj => ?_, by simp [st_u, upd]⟩, ⟨?_, ?_, ?_, ?_, ?_, ?_, by omega, by omega, by omega⟩, ⟨?_, ?_, by omega, fun v hv => absurd hv (by omega), fun p p' hp => absurd hp (by omega), fun p hp => absurd hp (by omega)⟩⟩
    · simp only [su_o _ 14 _ _ k hk]
    · simp only [su_o _ 20 _ _ k hk]
    · have n1 : ¬ j = 19 := by omega
      have n2 : ¬ j = 24 := by omega
      have n3 : ¬ j = 25 := by omega
      have n4 : ¬ j = 26 := by omega
      have n5 : ¬ j = 27 := by omega
      have n6 : ¬ j = 28 := by omega
      have n7 : ¬ j = 29 := by omega
      have n8 : ¬ j = 30 := by omega
      simp only [su_k, n1, n2, n3, n4, n5, n6, n7, n8, if_false]
    all_goals simp [st_u, upd]
    all_goals rfl
  have q3 : ∀ j, j < 4 → (st_v (st_v (st_v (st_v q 16 0 (-3)) 16 1 (-3)) 16 2 (-3)) 16 3 (-3)) 16 j = -3 := by
    intro j hj
    rcases v4c hj with rfl | rfl | rfl | rfl <;> simp [st_v, vp_updL]
  have cls : ∀ Q : Int64 → st_S → Prop, wp_H_callWith (wp_H_workOut 40) (nI f) (nI e1) c 0 (st_u (st_u (st_u (st_u (st_u g 14 2 0) 14 8 0) 14 9 0) 14 10 0) 14 11 0) (st_v (st_v (st_v (st_v q 16 0 (-3)) 16 1 (-3)) 16 2 (-3)) 16 3 (-3)) Q → wp_H_start 40 (nI f) (nI e1) c g q Q := by
    intro Q hQ
    unfold wp_H_start wp_H_openFrame
    exact ⟨vp_in_nI (n := 0) (by omega) (by omega), vp_in_nI (n := 1) (by omega) (by omega), vp_in_nI (n := 2) (by omega) (by omega), vp_in_nI (n := 3) (by omega) (by omega), hQ⟩
  obtain ⟨v1, g1, q1, r1, Rx, t1, t2, t3⟩ := top hp0 sim he1 (by omega) start (by omega) (by simp [st_u, upd]) (by simp [st_u, upd]) (by simp [st_u, upd]) q3
  have ref : ∀ Q : Int32 → st_I → Prop, ((¬ (r1 20 24) = 0 → wp_M_run_L139 Q r1 (nI f) (r1 20 18) ((-1) : Int32)) ∧ ((r1 20 24) = 0 → (¬ (r1 20 25) = 0 → wp_M_run_L139 Q r1 (nI f) (r1 20 18) ((-1) : Int32)) ∧ ((r1 20 25) = 0 → wp_M_parameters (nI f) r1 (fun x125 u125 => (¬ x125 = (2 : Int32) → wp_M_run_L139 Q u125 (nI f) (r1 20 18) ((-1) : Int32)) ∧ (x125 = (2 : Int32) → wp_M_worked c u125 (fun x134 u134 => wp_M_run_L139 Q u134 (nI f) (r1 20 18) x134)))))) → wp_M_run_L36 Q r (nI f) (nI e1) c := by
    intro Q hQ
    unfold wp_M_run_L36 wp_M_run_L37
    refine ⟨fun _ => ?_, fun z => absurd rfl z⟩
    unfold wp_M_run_L50
    exact ⟨fun _ => t2 _ hQ, fun z => absurd rfl z⟩
  have bad : ∀ (R : st_I) (x y : Int32) (Q : Int32 → st_I → Prop), (¬ R 20 25 = 0 ∨ R 20 24 = 1) → wp_M_run_L171 Q R → wp_M_run_L139 Q R (nI f) x y := by
    intro R x y Q hR hQ
    unfold wp_M_run_L139
    refine ⟨fun _ => hQ, fun z => ⟨fun _ => hQ, fun w => ?_⟩⟩
    rcases hR with h | h
    · exact absurd w h
    · rw [h] at z; exact absurd z (by decide)
  have bad1 : (¬ r1 20 25 = 0 ∨ r1 20 24 = 1) → ∀ Q : Int32 → st_I → Prop, wp_M_run_L171 Q r1 → wp_M_run_L36 Q r (nI f) (nI e1) c := by
    intro hR Q hQ
    refine ref Q ⟨fun _ => bad _ _ _ Q hR hQ, fun z => ⟨fun _ => bad _ _ _ Q hR hQ, fun w => ?_⟩⟩
    rcases hR with h | h
    · exact absurd w h
    · rw [h] at z; exact absurd z (by decide)
  rcases t3 with ⟨rfl, k5, k6⟩ | ⟨φ2, nv2, P2, S2, F2, PM2, b1, b2, b3, b4, b5, b6, b7, b8, ⟨rfl, x1⟩ | ⟨x1, w, hw, rfl, x2⟩⟩
  · refine ⟨-2, g1, q1, r1, fun Q hQ => cls Q ?_, bad1 (Or.inl k5), Or.inl ⟨rfl, k5, k6⟩⟩
    unfold wp_H_callWith
    exact t1 _ ⟨fun z => absurd z m_ge2, fun _ => hQ⟩
  · refine ⟨-1, g1, q1, r1, fun Q hQ => cls Q ?_, bad1 (Or.inr x1), Or.inr (Or.inl ⟨rfl, b7, x1, b1.1⟩)⟩
    unfold wp_H_callWith
    exact t1 _ ⟨fun z => absurd z m_ge1, fun _ => hQ⟩
  · have ge := v_ge b1.2.2 hw
    by_cases z3 : 3 ≤ f
    · obtain ⟨e2, he2, rfl⟩ := hc z3
      obtain ⟨v2, g2, q2, r2, Rx2, s1, s2, s3⟩ := top hp0 sim he2 (by omega) b1 (by omega) b7 x1 b8 (fun j hj => by rw [b4 j (by omega)]; exact q3 j hj)
      have ref2 : ∀ Q : Int32 → st_I → Prop, wp_M_run_L139 Q r2 (nI f) (nI w) (r2 20 18) → wp_M_run_L36 Q r (nI f) (nI e1) (nI e2) := by
        intro Q hQ
        refine ref Q ⟨fun z => absurd x1 z, fun _ => ⟨fun z => absurd b7 z, fun _ => ?_⟩⟩
        rw [rx_pms]
        refine ⟨fun _ => ⟨fun z => absurd rfl z, fun _ => s2 _ ?_⟩, fun z => absurd (le3.mpr z3) z⟩
        rw [x2]; exact hQ
      have cls2 : ∀ Q : Int64 → st_S → Prop, wp_H_workOut 40 (nI e2) 0 g1 q1 (fun x36 u36 => (0 ≤ (lg_cmp x36 (0 : Int64)) → wp_H_callWith_L51 (wp_H_workOut 40) Q u36.1 u36.2 (nI f) 0 (φ2 w) x36) ∧ (¬ 0 ≤ (lg_cmp x36 (0 : Int64)) → Q x36 (u36.1, u36.2))) → wp_H_start 40 (nI f) (nI e1) (nI e2) g q Q := by
        intro Q hh
        refine cls Q ?_
        unfold wp_H_callWith
        refine t1 _ ⟨fun _ => ?_, fun z => absurd ge z⟩
        rw [ex_pms]
        exact ⟨fun _ => ⟨fun z => absurd rfl z, fun _ => hh⟩, fun z => absurd (le3.mpr z3) z⟩
      rcases s3 with ⟨rfl, k5, k6⟩ | ⟨φ3, nv3, P3, S3, F3, PM3, d1, d2, d3, d4, d5, d6, d7, d8, ⟨rfl, y1⟩ | ⟨y1, w2, hw2, rfl, y2⟩⟩
      · exact ⟨-2, g2, q2, r2, fun Q hQ => cls2 Q (s1 _ ⟨fun z => absurd z m_ge2, fun _ => hQ⟩), fun Q hQ => ref2 Q (bad _ _ _ Q (Or.inl k5) hQ), Or.inl ⟨rfl, k5, k6⟩⟩
      · exact ⟨-1, g2, q2, r2, fun Q hQ => cls2 Q (s1 _ ⟨fun z => absurd z m_ge1, fun _ => hQ⟩), fun Q hQ => ref2 Q (bad _ _ _ Q (Or.inr y1) hQ), Or.inr (Or.inl ⟨rfl, d7, y1, d1.1⟩)⟩
      · have ge2 := v_ge d1.2.2 hw2
        have hwl : w < nv3 := Nat.lt_of_lt_of_le hw d2.1
        have hφ : φ3 w = φ2 w := d2.2 w hw
        obtain ⟨v3, g3, q3', r3, m1, m2, m3⟩ := run_c hp0 hb0 hf d1 (by omega) d7 y1 d8 hwl (y := φ3 w2) (b := nI w2) (Or.inr ⟨z3, w2, hw2, rfl, rfl⟩)
        refine ⟨v3, g3, q3', r3, fun Q hQ => cls2 Q (s1 _ ⟨fun _ => ?_, fun z => absurd ge2 z⟩), fun Q hQ => ref2 Q ?_, m3⟩
        · have := m1 Q hQ
          rw [hφ] at this
          exact this
        · rw [y2]; exact m2 Q hQ
    · obtain ⟨v3, g3, q3', r3, m1, m2, m3⟩ := run_c hp0 hb0 hf b1 (by omega) b7 x1 b8 hw (y := -3) (b := -1) (Or.inl ⟨z3, rfl⟩)
      refine ⟨v3, g3, q3', r3, fun Q hQ => cls Q ?_, fun Q hQ => ref Q ⟨fun z => absurd x1 z, fun _ => ⟨fun z => absurd b7 z, fun _ => ?_⟩⟩, m3⟩
      · unfold wp_H_callWith
        refine t1 _ ⟨fun _ => ?_, fun z => absurd ge z⟩
        rw [ex_pms]
        exact ⟨fun z => absurd (le3.mp z) z3, fun _ => ⟨fun _ => m1 Q hQ, fun z => absurd z (by decide)⟩⟩
      · rw [rx_pms]
        refine ⟨fun z => absurd (le3.mp z) z3, fun _ => ⟨fun _ => ?_, fun z => absurd z (by decide)⟩⟩
        rw [x2]; exact m2 Q hQ
