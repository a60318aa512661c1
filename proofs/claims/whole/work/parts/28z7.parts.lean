theorem kp_e {n c : Nat} (h : n = 0 ∨ c = 60) {g : st_I} {q : st_L} {Q : st_S → Prop} (hQ : Q (st_u g 14 1 (nI c), q)) : ∃ m, wp_H_keepParts_L12 Q m g q (nI n) (nI c) := by
  refine ⟨1, ?_⟩
  rw [wp_H_keepParts_L12]
  refine ⟨fun _ => hQ, fun z => ⟨fun _ => hQ, fun w => ?_⟩⟩
  rcases h with rfl | rfl
  · exact absurd (by decide) z
  · exact absurd (by decide) w
theorem kp_s {k c : Nat} (hk : k < 60) (hc : c < 60) {g : st_I} {q : st_L} {Q : st_S → Prop} (hp : ¬ ko (q 19 k) = 8) {x : Int32} (hx1 : isN (ko (q 19 k)) → (q 19 k).toInt32 = x) (hx2 : ¬ isN (ko (q 19 k)) → ko (q 19 k) = x) (h : ∃ m, wp_H_keepParts_L12 Q m (st_u g 15 c x) q (nI k) (nI (c + 1))) : ∃ m, wp_H_keepParts_L12 Q m g q (nI (k + 1)) (nI c) := by
  obtain ⟨m, h⟩ := h
  refine ⟨m + 1, ?_⟩
  have no : ¬ nI (k + 1) ≤ 0 := nI_nle (by omega) (by omega)
  have n6 : ¬ (60 : Int32) ≤ nI c := nI_ge (b := 60) hc (by omega)
  have m1 : nI (k + 1) + (-1) = nI k := pk_m1 k
  have ck : (nI k).toNatClampNeg = k := nI_clamp (by omega)
  have vk : vp_in (nI k) 61 := vp_in_nI (by omega) (by omega)
  have cc : (nI c).toNatClampNeg = c := nI_clamp (by omega)
  have vc : vp_in (nI c) 60 := vp_in_nI (by omega) (by omega)
  have c1 : nI c + 1 = nI (c + 1) := nI_1 c
  have fin : wp_H_keepParts_L61 Q (wp_H_keepParts_L12 Q m) g q (nI k) (nI c) (q 19 k) x (nI c) := by
    unfold wp_H_keepParts_L61 wp_H_keepParts_L110
    rw [cc, ex_isPair, c1]
    exact ⟨vc, fun z => absurd z hp, fun _ => ⟨fun _ => h, fun z => absurd rfl z⟩⟩
  rw [wp_H_keepParts_L12]
  refine ⟨fun z => absurd z no, fun _ => ⟨fun z => absurd z n6, fun _ => ?_⟩⟩
  rw [m1, ck, ex_isNum]
  refine ⟨vk, fun z => ⟨fun w => absurd w (by decide), fun _ => ?_⟩, fun z => ⟨fun _ => ?_, fun w => absurd rfl w⟩⟩
  · rw [ex_detailOf, hx1 z]; exact fin
  · rw [ex_kindOf, hx2 z]; exact fin
theorem n8N : ¬ isN (8 : Int32) := by unfold isN; decide
theorem kp_p {k c p : Nat} (hk : k < 60) (hc : c < 60) (hpp : p < 40) {g : st_I} {q : st_L} {Q : st_S → Prop} (h8 : ko (q 19 k) = 8) (hd : (q 19 k).toInt32 = nI p) (h : ∃ m, wp_H_keepParts_L12 Q m (st_u g 15 c 8) (st_v (st_v q 19 k (q 18 p)) 19 (k + 1) (q 17 p)) (nI (k + 2)) (nI (c + 1))) : ∃ m, wp_H_keepParts_L12 Q m g q (nI (k + 1)) (nI c) := by
  obtain ⟨m, h⟩ := h
  refine ⟨m + 1, ?_⟩
  have no : ¬ nI (k + 1) ≤ 0 := nI_nle (by omega) (by omega)
  have n6 : ¬ (60 : Int32) ≤ nI c := nI_ge (b := 60) hc (by omega)
  have m1 : nI (k + 1) + (-1) = nI k := pk_m1 k
  have ck : (nI k).toNatClampNeg = k := nI_clamp (by omega)
  have vk : vp_in (nI k) 61 := vp_in_nI (by omega) (by omega)
  have k1 : nI k + 1 = nI (k + 1) := nI_1 k
  have k2 : nI k + 2 = nI (k + 2) := nI_add k 2
  have ck1 : (nI (k + 1)).toNatClampNeg = k + 1 := nI_clamp (by omega)
  have vk1 : vp_in (nI (k + 1)) 61 := vp_in_nI (by omega) (by omega)
  have cp : (nI p).toNatClampNeg = p := nI_clamp (by omega)
  have vp' : vp_in (nI p) 40 := vp_in_nI (by omega) (by omega)
  have cc : (nI c).toNatClampNeg = c := nI_clamp (by omega)
  have vc : vp_in (nI c) 60 := vp_in_nI (by omega) (by omega)
  have c1 : nI c + 1 = nI (c + 1) := nI_1 c
  have fin : wp_H_keepParts_L61 Q (wp_H_keepParts_L12 Q m) g q (nI k) (nI c) (q 19 k) 8 (nI c) := by
    unfold wp_H_keepParts_L61 wp_H_keepParts_L110
    rw [cc, ex_isPair, c1]
    refine ⟨vc, fun _ => ⟨fun z => absurd z (by decide), fun _ => ?_⟩, fun z => absurd h8 z⟩
    simp only [ex_detailOf, hd, cp, vp', ck, vk, k1, k2, ck1, vk1, true_and, sv_o _ 19 _ _ 17 (by decide)]
    exact h
  rw [wp_H_keepParts_L12]
  refine ⟨fun z => absurd z no, fun _ => ⟨fun z => absurd z n6, fun _ => ?_⟩⟩
  rw [m1, ck, ex_isNum]
  refine ⟨vk, fun z => absurd (h8 ▸ z) n8N, fun z => ⟨fun _ => ?_, fun w => absurd rfl w⟩⟩
  rw [ex_kindOf, h8]; exact fin
theorem ft_e {n c : Nat} {r : st_I} (h33 : r 20 33 = nI c) (h : n = 0 ∨ c = 60) {Q : st_I → Prop} (hQ : Q r) : ∃ m, wp_M_flatten_L14 Q m r (nI n) := by
  refine ⟨1, ?_⟩
  rw [wp_M_flatten_L14]
  refine ⟨fun _ => hQ, fun z => ⟨fun _ => hQ, fun w => ?_⟩⟩
  rcases h with rfl | rfl
  · exact absurd (by decide) z
  · exact absurd (by rw [h33]; decide) w
theorem ft_s {k c w : Nat} (hk : k < 60) (hc : c < 60) (hw : w < 460) {r : st_I} (h33 : r 20 33 = nI c) (h41 : r 41 k = nI w) {Q : st_I → Prop} (hp : ¬ r 37 w = 8) {x : Int32} (hx1 : isN (r 37 w) → r 38 w = x) (hx2 : ¬ isN (r 37 w) → r 37 w = x) (h : ∃ m, wp_M_flatten_L14 Q m (st_u (st_u r 43 c x) 20 33 (nI (c + 1))) (nI k)) : ∃ m, wp_M_flatten_L14 Q m r (nI (k + 1)) := by
  obtain ⟨m, h⟩ := h
  refine ⟨m + 1, ?_⟩
  have no : ¬ nI (k + 1) ≤ 0 := nI_nle (by omega) (by omega)
  have n6 : ¬ (60 : Int32) ≤ nI c := nI_ge (b := 60) hc (by omega)
  have m1 : nI (k + 1) + (-1) = nI k := pk_m1 k
  have ck : (nI k).toNatClampNeg = k := nI_clamp (by omega)
  have vk : vp_in (nI k) 400 := vp_in_nI (by omega) (by omega)
  have cw' : (nI w).toNatClampNeg = w := nI_clamp (by omega)
  have vw : vp_in (nI w) 460 := vp_in_nI (by omega) (by omega)
  have cc : (nI c).toNatClampNeg = c := nI_clamp (by omega)
  have vc : vp_in (nI c) 60 := vp_in_nI (by omega) (by omega)
  have c1 : nI c + 1 = nI (c + 1) := nI_1 c
  have fin : wp_M_flatten_L72 Q (wp_M_flatten_L14 Q m) r (nI k) (nI w) x (nI c) := by
    unfold wp_M_flatten_L72 wp_M_flatten_L123
    rw [cc, cw', h33, c1]
    exact ⟨vc, vw, fun _ => h, fun z => absurd z hp⟩
  rw [wp_M_flatten_L14]
  refine ⟨fun z => absurd z no, fun _ => ⟨fun z => absurd z (by rw [h33]; exact n6), fun _ => ?_⟩⟩
  rw [m1, ck, h41, cw', h33, rx_isNum]
  refine ⟨vk, vw, fun z => ⟨fun w => absurd w (by decide), fun _ => ⟨vw, ?_⟩⟩, fun z => ⟨fun _ => ⟨vw, ?_⟩, fun w => absurd rfl w⟩⟩
  · rw [hx1 z]; exact fin
  · rw [hx2 z]; exact fin
theorem ft_p {k c w : Nat} (hk : k < 60) (hc : c < 60) (hw : w < 460) {r : st_I} (h33 : r 20 33 = nI c) (h41 : r 41 k = nI w) {Q : st_I → Prop} (h8 : r 37 w = 8) (h : ∃ m, wp_M_flatten_L14 Q m (st_u (st_u (st_u (st_u r 43 c 8) 20 33 (nI (c + 1))) 41 k (r 40 w)) 41 (k + 1) (r 39 w)) (nI (k + 2))) : ∃ m, wp_M_flatten_L14 Q m r (nI (k + 1)) := by
  obtain ⟨m, h⟩ := h
  refine ⟨m + 1, ?_⟩
  have no : ¬ nI (k + 1) ≤ 0 := nI_nle (by omega) (by omega)
  have n6 : ¬ (60 : Int32) ≤ nI c := nI_ge (b := 60) hc (by omega)
  have m1 : nI (k + 1) + (-1) = nI k := pk_m1 k
  have ck : (nI k).toNatClampNeg = k := nI_clamp (by omega)
  have vk : vp_in (nI k) 400 := vp_in_nI (by omega) (by omega)
  have k1 : nI k + 1 = nI (k + 1) := nI_1 k
  have k2 : nI k + 2 = nI (k + 2) := nI_add k 2
  have ck1 : (nI (k + 1)).toNatClampNeg = k + 1 := nI_clamp (by omega)
  have vk1 : vp_in (nI (k + 1)) 400 := vp_in_nI (by omega) (by omega)
  have cw' : (nI w).toNatClampNeg = w := nI_clamp (by omega)
  have vw : vp_in (nI w) 460 := vp_in_nI (by omega) (by omega)
  have cc : (nI c).toNatClampNeg = c := nI_clamp (by omega)
  have vc : vp_in (nI c) 60 := vp_in_nI (by omega) (by omega)
  have c1 : nI c + 1 = nI (c + 1) := nI_1 c
  have fin : wp_M_flatten_L72 Q (wp_M_flatten_L14 Q m) r (nI k) (nI w) 8 (nI c) := by
    unfold wp_M_flatten_L72 wp_M_flatten_L123
    rw [cc, cw', h33, c1, k1, k2, ck, ck1]
    exact ⟨vc, vw, fun z => absurd h8 z, fun _ => ⟨vw, vk, vw, vk1, h⟩⟩
  rw [wp_M_flatten_L14]
  refine ⟨fun z => absurd z no, fun _ => ⟨fun z => absurd z (by rw [h33]; exact n6), fun _ => ?_⟩⟩
  rw [m1, ck, h41, cw', h33, rx_isNum]
  refine ⟨vk, vw, fun z => absurd (h8 ▸ z) n8N, fun z => ⟨fun _ => ⟨vw, ?_⟩, fun w => absurd rfl w⟩⟩
  rw [h8]; exact fin
theorem vrow_c {q q' : st_L} {r r' : st_I} {φ : Nat → Int64} {P v : Nat} (h : vrow q r φ P v) (h17 : q' 17 = q 17) (h18 : q' 18 = q 18) (h37 : r' 37 = r 37) (h38 : r' 38 = r 38) (h39 : r' 39 = r 39) (h40 : r' 40 = r 40) : vrow q' r' φ P v := by
  unfold vrow at *
  rw [h17, h18, h37, h38, h39, h40]; exact h
theorem flt {φ : Nat → Int64} {nv P : Nat} (hnv : nv ≤ 460) (hP : P ≤ 40) : ∀ m c n (g : st_I) (q : st_L) (r : st_I), c + m = 60 → n ≤ c + 1 → (∀ v, v < nv → vrow q r φ P v) → (∀ j, j < n → ∃ w, w < nv ∧ q 19 j = φ w ∧ r 41 j = nI w) → r 20 33 = nI c → (∀ j, j < c → g 15 j = r 43 j) → ∃ c' g' q' r', c' ≤ 60 ∧ (∀ Q : st_S → Prop, Q (st_u g' 14 1 (nI c'), q') → ∃ m, wp_H_keepParts_L12 Q m g q (nI n) (nI c)) ∧ (∀ Q : st_I → Prop, Q r' → ∃ m, wp_M_flatten_L14 Q m r (nI n)) ∧ (∀ k, k ≠ 15 → g' k = g k) ∧ (∀ k, k ≠ 20 → k ≠ 41 → k ≠ 43 → r' k = r k) ∧ (∀ j, j ≠ 33 → r' 20 j = r 20 j) ∧ r' 20 33 = nI c' ∧ ∀ j, j < c' → g' 15 j = r' 43 j := by
  intro m
  induction m with
  | zero =>
    intro c n g q r hc hn hrow hst h33 hpt
    exact ⟨c, g, q, r, by omega, fun Q hQ => kp_e (Or.inr (by omega)) hQ, fun Q hQ => ft_e (c := c) h33 (Or.inr (by omega)) hQ, fun _ _ => rfl, fun _ _ _ _ => rfl, fun _ _ => rfl, h33, hpt⟩
  | succ m ih =>
    intro c n g q r hc hn hrow hst h33 hpt
    cases n with
    | zero => exact ⟨c, g, q, r, by omega, fun Q hQ => kp_e (Or.inl rfl) hQ, fun Q hQ => ft_e (c := c) h33 (Or.inl rfl) hQ, fun _ _ => rfl, fun _ _ _ _ => rfl, fun _ _ => rfl, h33, hpt⟩
    | succ k =>
      obtain ⟨w, hw, x1, x2⟩ := hst k (by omega)
      have vw := hrow w hw
      have kw : ko (q 19 k) = r 37 w := by rw [x1]; exact (vr_ko vw).1
      rcases vw with ⟨kk, hkk, y1, y2⟩ | ⟨y1, y2, p, a, b, hp, ha, hb, y3, y4, y5, y6, y7⟩
      · have n8 : ¬ r 37 w = 8 := by
          rw [y1]; intro z
          have := (nI_eq (a := kk) (b := 8) (by omega) (by omega)).mp z
          omega
        have dw : (q 19 k).toInt32 = r 38 w := by rw [x1, y2, dt_vl]
        have hx : ∃ x, (isN (r 37 w) → r 38 w = x) ∧ (¬ isN (r 37 w) → r 37 w = x) := by
          by_cases z : isN (r 37 w)
          · exact ⟨_, fun _ => rfl, fun y => absurd z y⟩
          · exact ⟨_, fun y => absurd y z, fun _ => rfl⟩
        obtain ⟨x, hx1, hx2⟩ := hx
        obtain ⟨c', g', q', r', j1, j2, j3, j4, j5, j6, j7, j8⟩ := ih (c + 1) k (st_u g 15 c x) q (st_u (st_u r 43 c x) 20 33 (nI (c + 1))) (by omega) (by omega) (fun v hv => vrow_c (hrow v hv) rfl rfl (by simp [st_u]) (by simp [st_u]) (by simp [st_u]) (by simp [st_u])) (fun j hj => by
          obtain ⟨w', hw', z1, z2⟩ := hst j (by omega)
          exact ⟨w', hw', z1, by simpa [st_u] using z2⟩) (by simp [st_u, upd]) (fun j hj => by
          rw [su_k, su_o _ _ _ _ _ (by decide), su_k]
          by_cases z : j = c
          · rw [if_pos z, if_pos z]
          · rw [if_neg z, if_neg z]; exact hpt j (by omega))
        refine ⟨c', g', q', r', j1, fun Q hQ => kp_s (by omega) (by omega) (by rw [kw]; exact n8) (x := x) (fun z => by rw [kw] at z; rw [dw]; exact hx1 z) (fun z => by rw [kw] at z ⊢; exact hx2 z) (j2 Q hQ), fun Q hQ => ft_s (by omega) (by omega) (by omega) h33 x2 n8 hx1 hx2 (j3 Q hQ), fun k' hk' => (j4 k' hk').trans (su_o _ _ _ _ _ hk'), fun k' h1 h2 h3 => (j5 k' h1 h2 h3).trans ?_, fun j hj => (j6 j hj).trans ?_, j7, j8⟩
        · rw [su_o _ _ _ _ _ h1, su_o _ _ _ _ _ h3]
        · rw [su_k, if_neg hj, su_o _ _ _ _ _ (by decide)]
      · have h8 : ko (q 19 k) = 8 := kw.trans y1
        have dw : (q 19 k).toInt32 = nI p := by rw [x1, y3, dt_vl]
        obtain ⟨c', g', q', r', j1, j2, j3, j4, j5, j6, j7, j8⟩ := ih (c + 1) (k + 2) (st_u g 15 c 8) (st_v (st_v q 19 k (q 18 p)) 19 (k + 1) (q 17 p)) (st_u (st_u (st_u (st_u r 43 c 8) 20 33 (nI (c + 1))) 41 k (r 40 w)) 41 (k + 1) (r 39 w)) (by omega) (by omega) (fun v hv => vrow_c (hrow v hv) (by simp [st_v]) (by simp [st_v]) (by simp [st_u]) (by simp [st_u]) (by simp [st_u]) (by simp [st_u])) (fun j hj => by
          rw [sv_k, sv_k, su_k, su_k]
          by_cases z : j = k + 1
          · rw [if_pos z, if_pos z]; exact ⟨a, by omega, y6, y4⟩
          · rw [if_neg z, if_neg z]
            by_cases z2 : j = k
            · rw [if_pos z2, if_pos z2]; exact ⟨b, by omega, y7, y5⟩
            · rw [if_neg z2, if_neg z2]
              obtain ⟨w', hw', z1, z3⟩ := hst j (by omega)
              exact ⟨w', hw', z1, by simpa [st_u] using z3⟩) (by simp [st_u, upd]) (fun j hj => by
          rw [su_k, su_o _ _ _ _ _ (by decide), su_o _ _ _ _ _ (by decide), su_o _ _ _ _ _ (by decide), su_k]
          by_cases z : j = c
          · rw [if_pos z, if_pos z]
          · rw [if_neg z, if_neg z]; exact hpt j (by omega))
        refine ⟨c', g', q', r', j1, fun Q hQ => kp_p (by omega) (by omega) (by omega) h8 dw (j2 Q hQ), fun Q hQ => ft_p (by omega) (by omega) (by omega) h33 x2 y1 (j3 Q hQ), fun k' hk' => (j4 k' hk').trans (su_o _ _ _ _ _ hk'), fun k' h1 h2 h3 => (j5 k' h1 h2 h3).trans ?_, fun j hj => (j6 j hj).trans ?_, j7, j8⟩
        · rw [su_o _ _ _ _ _ h2, su_o _ _ _ _ _ h2, su_o _ _ _ _ _ h1, su_o _ _ _ _ _ h3]
        · rw [su_o _ _ _ _ _ (by decide), su_o _ _ _ _ _ (by decide), su_k, if_neg hj, su_o _ _ _ _ _ (by decide)]
