theorem fin_po {g0 r0 : st_I} {oc lev e : Nat} {t : Int32} {q : st_L} {r : st_I} {φ : Nat → Int64} {nv : Nat} {g1 : st_I} {q1 : st_L} {R : st_I} {φ1 : Nat → Int64} {nv1 P1 S1 F1 PM1 : Nat} (h : FS g0 r0 oc lev e t q r φ nv g1 q1 R φ1 nv1 P1 S1 F1 PM1) (h24 : R 20 24 = 0) (hPM : PM1 < 40) {a b p : Nat} (ha : a < nv1) (hb : b < nv1) (hp : p < P1) (h17 : q1 17 p = φ1 a) (h18 : q1 18 p = φ1 b) : OUT g0 r0 oc lev q r φ nv (vl 8 (nI p)) (st_u g1 14 9 (nI (PM1 + 1))) q1 (edd (npr R nv1 PM1 (nI a) (nI b)) lev (nI nv1)) := by
  obtain ⟨a1, a2, a3, a4, a5, a6, a7, a8, a9, a10, a11⟩ := h
  refine Or.inr ⟨_, nv1 + 1, P1, S1, F1, PM1 + 1, sAL_ctl (sAL_po a1 hPM ha hb hp h17 h18) (ctl_edd _ _ _), ext_tr a2 (ext_val φ1 nv1 _), by omega, a4, ?_, by simp [edd, st_u, upd], by simpa [edd, npr, nwv, st_u, upd] using a7, by simpa [edd, npr, nwv, st_u, upd] using a8, Or.inr ⟨by simpa [edd, npr, nwv, st_u, upd] using h24, nv1, by omega, by simp, by simp [edd, st_u, upd]⟩⟩
  unfold edd npr nwv
  exact blw_st (blw_st (blw_st (blw_st (blw_st (blw_st (blw_st (blw_st a5 _ _ _ (by omega) (by omega) (by omega)) _ _ _ (by omega) (by omega) (by omega)) _ _ _ (by omega) (by omega) (by omega)) _ _ _ (by omega) (by omega) (by omega)) _ _ _ (by omega) (by omega) (by omega)) _ _ _ (by omega) (by omega) (by omega)) _ _ _ (by omega) (by omega) (by omega)) _ _ _ (by omega) (by omega) (by omega)
theorem fin_pn {g0 r0 : st_I} {oc lev e : Nat} {t : Int32} {q : st_L} {r : st_I} {φ : Nat → Int64} {nv : Nat} {g1 : st_I} {q1 : st_L} {R : st_I} {φ1 : Nat → Int64} {nv1 P1 S1 F1 PM1 : Nat} (h : FS g0 r0 oc lev e t q r φ nv g1 q1 R φ1 nv1 P1 S1 F1 PM1) (h24 : R 20 24 = 0) (hPM : PM1 < 40) {a b : Nat} (ha : a < nv1) (hb : b < nv1) (hno : ∀ p, p < P1 → q1 17 p = φ1 a → ¬ q1 18 p = φ1 b) : OUT g0 r0 oc lev q r φ nv (vl 8 (nI P1)) (st_u (st_u g1 14 9 (nI (PM1 + 1))) 14 8 (nI (P1 + 1))) (st_v (st_v q1 17 P1 (φ1 a)) 18 P1 (φ1 b)) (edd (npr R nv1 PM1 (nI a) (nI b)) lev (nI nv1)) := by
  obtain ⟨a1, a2, a3, a4, a5, a6, a7, a8, a9, a10, a11⟩ := h
  refine Or.inr ⟨_, nv1 + 1, P1 + 1, S1, F1, PM1 + 1, sAL_ctl (sAL_pn a1 hPM ha hb hno) (ctl_edd _ _ _), ext_tr a2 (ext_val φ1 nv1 _), by omega, fun j hj => ?_, ?_, by simp [edd, st_u, upd], by simpa [edd, npr, nwv, st_u, upd] using a7, by simpa [edd, npr, nwv, st_u, upd] using a8, Or.inr ⟨by simpa [edd, npr, nwv, st_u, upd] using h24, nv1, by omega, by simp, by simp [edd, st_u, upd]⟩⟩
  · rw [sv_o _ _ _ _ _ (by decide), sv_o _ _ _ _ _ (by decide)]; exact a4 j hj
  · unfold edd npr nwv
    exact blw_st (blw_st (blw_st (blw_st (blw_st (blw_st (blw_st (blw_st a5 _ _ _ (by omega) (by omega) (by omega)) _ _ _ (by omega) (by omega) (by omega)) _ _ _ (by omega) (by omega) (by omega)) _ _ _ (by omega) (by omega) (by omega)) _ _ _ (by omega) (by omega) (by omega)) _ _ _ (by omega) (by omega) (by omega)) _ _ _ (by omega) (by omega) (by omega)) _ _ _ (by omega) (by omega) (by omega)
theorem FS_41 {g0 r0 : st_I} {oc lev e : Nat} {t : Int32} {q : st_L} {r : st_I} {φ : Nat → Int64} {nv : Nat} {g1 : st_I} {q1 : st_L} {R R' : st_I} {φ1 : Nat → Int64} {nv1 P1 S1 F1 PM1 : Nat} (h : FS g0 r0 oc lev e t q r φ nv g1 q1 R φ1 nv1 P1 S1 F1 PM1) (hR : ∀ k, k ≠ 41 → k ≠ 42 → R' k = R k) : FS g0 r0 oc lev e t q r φ nv g1 q1 R' φ1 nv1 P1 S1 F1 PM1 := by
  obtain ⟨a1, a2, a3, a4, a5, a6, a7, a8, a9, a10, a11⟩ := h
  have c : ctl R R' := ⟨fun k _ _ h3 h4 => hR k h3 h4, fun j _ _ _ _ _ => by rw [hR 20 (by decide) (by decide)]⟩
  have b : blw lev R R' := ⟨fun j _ => ⟨by rw [hR 33 (by decide) (by decide)], by rw [hR 34 (by decide) (by decide)]⟩, fun j _ => by rw [hR 35 (by decide) (by decide)], fun j _ => by rw [hR 36 (by decide) (by decide)]⟩
  refine ⟨sAL_ctl a1 c, a2, a3, a4, blw_tr a5 b, ?_, ?_, ?_, ?_, ?_, ?_⟩
  · rw [hR 20 (by decide) (by decide)]; exact a6
  · rw [hR 20 (by decide) (by decide)]; exact a7
  · rw [hR 20 (by decide) (by decide)]; exact a8
  · rw [hR 33 (by decide) (by decide)]; exact a9
  · rw [hR 34 (by decide) (by decide)]; exact a10
  · rw [hR 35 (by decide) (by decide)]; exact a11
theorem isN_k {k : Nat} (hk : k < 9) : isN (nI k) ↔ (4 ≤ k ∧ k ≤ 6) := by
  unfold isN
  rw [show (nI k < (4 : Int32)) ↔ k < 4 from nI_ltI (b := 4) (by omega) (by omega), show ((6 : Int32) < nI k) ↔ 6 < k from nI_ltI (a := 6) (by omega) (by omega)]
  omega
theorem comb {g0 r0 : st_I} {n d : Nat} {oc lev e : Nat} (hl : lev < 63) {q : st_L} {r : st_I} {φ : Nat → Int64} {nv : Nat} {g1 : st_I} {q1 : st_L} {R : st_I} {φ1 : Nat → Int64} {nv1 P1 S1 F1 PM1 : Nat} (h : FS g0 r0 oc lev e 3 q r φ nv g1 q1 R φ1 nv1 P1 S1 F1 PM1) (h24 : R 20 24 = 0) {s : Int32} (hs : s = 4 ∨ s = 5 ∨ s = 6 ∨ s = 13) {w1 w2 : Nat} (hw1 : w1 < nv1) (hw2 : w2 < nv1) : ∃ v g' q' r', (∀ Q : Int64 → st_S → Prop, Q v (g', q') → (¬ s = (6 : Int32) → (¬ s = (13 : Int32) → wp_H_calculate s (φ1 w1) (φ1 w2) g1 q1 Q) ∧ (s = (13 : Int32) → (¬ φ1 w1 = φ1 w2 → Q (vl 0 0) (g1, q1)) ∧ (φ1 w1 = φ1 w2 → Q (vl 1 0) (g1, q1)))) ∧ (s = (6 : Int32) → wp_H_pair (φ1 w1) (φ1 w2) g1 q1 Q)) ∧ (∀ K : st_I → Prop, K r' → wp_M_combine s (nI w1) (nI w2) R K) ∧ OUT g0 r0 oc lev q r φ nv v g' q' r' := by
  have h' := h
  obtain ⟨a1, a2, a3, a4, a5, a6, a7, a8, a9, a10, a11⟩ := h
  have F6 : F1 ≤ 6 := a1.2.1.2.2.2.2.2.2.2.1
  have P40 : PM1 ≤ 40 := a1.2.1.2.2.2.2.2.2.2.2
  have PP := a1.2.2.2.2.1
  have nvb : nv1 ≤ 200 := by have := a1.2.1.2.2.2.2.2.2.1; omega
  have g11 : g1 14 11 = nI F1 := a1.2.1.2.2.1
  have r28 : R 20 28 = nI F1 := a1.2.1.2.2.2.1
  have g9 : g1 14 9 = nI PM1 := a1.2.1.2.2.2.2.1
  have r27 : R 20 27 = nI PM1 := a1.2.1.2.2.2.2.2.1
  have g8 : g1 14 8 = nI P1 := a1.2.2.1
  have r19 : R 20 19 = nI nv1 := a1.2.2.2.1
  have c1 : (nI w1).toNatClampNeg = w1 := nI_clamp (by omega)
  have c2 : (nI w2).toNatClampNeg = w2 := nI_clamp (by omega)
  have i1 : vp_in (nI w1) 460 := vp_in_nI (by omega) (by omega)
  have i2 : vp_in (nI w2) 460 := vp_in_nI (by omega) (by omega)
  have vw1 := a1.2.2.2.2.2.1 w1 hw1
  have vw2 := a1.2.2.2.2.2.1 w2 hw2
  have kw1 := (vr_ko vw1).1
  have kw2 := (vr_ko vw2).1
  by_cases s6 : s = 6
  · subst s6
    have e40 : (nI PM1 = (40 : Int32)) ↔ PM1 = 40 := nI_eq (b := 40) (by omega) (by omega)
    have l40 : (nI PM1 < (40 : Int32)) ↔ PM1 < 40 := nI_ltI (b := 40) (by omega) (by omega)
    by_cases hPM : PM1 < 40
    · have hne : ¬ PM1 = 40 := by omega
      have ref : ∀ K : st_I → Prop, K (edd (npr R nv1 PM1 (nI w1) (nI w2)) lev (nI nv1)) → wp_M_combine 6 (nI w1) (nI w2) R K := by
        intro K hK
        have cn : (nI nv1).toNatClampNeg = nv1 := nI_clamp (by omega)
        have vn : vp_in (nI nv1) 460 := vp_in_nI (by omega) (by omega)
        have r19' : (st_u R 20 27 (nI (PM1 + 1))) 20 19 = nI nv1 := by simpa [st_u, upd] using r19
        have r13' : (st_u (st_u (nwv (st_u R 20 27 (nI (PM1 + 1))) nv1 8 0) 39 nv1 (nI w1)) 40 nv1 (nI w2)) 20 13 = nI (lev + 1) := by simpa [nwv, st_u, upd] using a6
        simp only [wp_M_combine, wp_M_pair, wp_M_combine_L129, r27, e40, hne, nI_1, rx_value (show nv1 < 460 by omega) r19', cn, vn, true_and, rx_end r13']
        simp
        exact hK
      have cls' : ∀ Q : Int64 → st_S → Prop, (∀ p, p < P1 → q1 17 p = φ1 w1 → q1 18 p = φ1 w2 → Q (vl 8 (nI p)) (st_u g1 14 9 (nI (PM1 + 1)), q1)) → ((∀ p, p < P1 → q1 17 p = φ1 w1 → ¬ q1 18 p = φ1 w2) → Q (vl 8 (nI P1)) (st_u (st_u g1 14 9 (nI (PM1 + 1))) 14 8 (nI (P1 + 1)), st_v (st_v q1 17 P1 (φ1 w1)) 18 P1 (φ1 w2))) → wp_H_pair (φ1 w1) (φ1 w2) g1 q1 Q := by
        intro Q k1 k2
        unfold wp_H_pair
        simp only [g9, l40, hPM, nI_1, true_imp_iff, not_true, false_imp_iff, and_true]
        exact ⟨P1 + 1, cp_l (by omega) (by simpa [st_u, upd] using g8) q1 _ _ Q (by omega) k1 k2 P1 0 (by omega) (fun p hp => absurd hp (by omega))⟩
      by_cases hex : ∃ p, p < P1 ∧ q1 17 p = φ1 w1 ∧ q1 18 p = φ1 w2
      · obtain ⟨p, hp, k1, k2⟩ := hex
        refine ⟨_, _, _, _, fun Q hQ => ⟨fun z => absurd rfl z, fun _ => cls' Q (fun p' hp' e1 e2 => ?_) (fun z => absurd k2 (z p hp k1))⟩, ref, fin_po h' h24 hPM hw1 hw2 hp k1 k2⟩
        have : p' = p := a1.2.2.2.2.2.2.1 p' p hp' hp (by rw [e1, k1]) (by rw [e2, k2])
        subst this; exact hQ
      · have hno : ∀ p, p < P1 → q1 17 p = φ1 w1 → ¬ q1 18 p = φ1 w2 := fun p hp e1 e2 => hex ⟨p, hp, e1, e2⟩
        exact ⟨_, _, _, _, fun Q hQ => ⟨fun z => absurd rfl z, fun _ => cls' Q (fun p' hp' e1 e2 => absurd e2 (hno p' hp' e1)) (fun _ => hQ)⟩, ref, fin_pn h' h24 hPM hw1 hw2 hno⟩
    · have e : PM1 = 40 := by omega
      subst e
      refine ⟨-2, g1, q1, st_u R 20 25 1, fun Q hQ => ⟨fun z => absurd rfl z, fun _ => ?_⟩, fun K hK => ?_, Or.inl ⟨rfl, by simp [st_u, upd], sST_ctl a1.1 (ctl_u _ _ _ _ (by omega))⟩⟩
      · unfold wp_H_pair
        rw [g9]
        exact ⟨fun z => absurd z (by decide), fun _ => hQ⟩
      · simp only [wp_M_combine, wp_M_pair, wp_M_combine_L129, r27, e40]
        simp
        exact hK
  · by_cases s13 : s = 13
    · subst s13
      obtain ⟨R', e1, e2, e3⟩ := rx_same a1.2.2 P40 (by omega) hw1 hw2
      have FR := FS_41 h' e1
      have t24 : R' 20 24 = 0 := by rw [e1 20 (by decide) (by decide)]; exact h24
      have r19' : R' 20 19 = nI nv1 := by rw [e1 20 (by decide) (by decide)]; exact r19
      have fin : ∀ (k : Nat) (K : st_I → Prop), K (edd (nwv R' nv1 (nI k) 0) lev (nI nv1)) → wp_M_combine_L37 K R' (nI k) := by
        intro k K hK
        have r13' : (nwv R' nv1 (nI k) 0) 20 13 = nI (lev + 1) := by
          have : R' 20 13 = nI (lev + 1) := by rw [e1 20 (by decide) (by decide)]; exact a6
          simpa [nwv, st_u, upd] using this
        simp only [wp_M_combine_L37, wp_M_combine_L129, rx_value (show nv1 < 460 by omega) r19', rx_end r13']
        exact hK
      by_cases heq : φ1 w1 = φ1 w2
      · refine ⟨_, _, _, _, fun Q hQ => ⟨fun _ => ⟨fun z => absurd rfl z, fun _ => ⟨fun z => absurd heq z, fun _ => hQ⟩⟩, fun z => absurd z (by decide)⟩, fun K hK => ?_, fin_n FR t24 (show 1 < 8 by omega) 0⟩
        unfold wp_M_combine
        refine ⟨fun _ => ⟨fun z => absurd rfl z, fun _ => e2 heq _ ⟨fun z => absurd z (by decide), fun _ => fin 1 K hK⟩⟩, fun z => absurd z (by decide)⟩
      · refine ⟨_, _, _, _, fun Q hQ => ⟨fun _ => ⟨fun z => absurd rfl z, fun _ => ⟨fun _ => hQ, fun z => absurd z heq⟩⟩, fun z => absurd z (by decide)⟩, fun K hK => ?_, fin_n FR t24 (show 0 < 8 by omega) 0⟩
        unfold wp_M_combine
        refine ⟨fun _ => ⟨fun z => absurd rfl z, fun _ => e3 heq _ ⟨fun _ => fin 0 K hK, fun z => absurd rfl z⟩⟩, fun z => absurd z (by decide)⟩
    · have ff : ∀ K : st_I → Prop, K (st_u (fl0 R F1) 20 13 (nI lev)) → wp_M_combine_L125 K R := by
        intro K hK
        simp only [wp_M_combine_L125, wp_M_combine_L129, rx_fail F6 a6 r28]
        exact hK
      have cf : ∀ Q : Int64 → st_S → Prop, Q (if F1 = 6 then -2 else -1) (st_u g1 14 11 (nI (F1 + 1)), q1) → wp_H_calculate_L15 Q g1 q1 := by
        intro Q hQ
        unfold wp_H_calculate_L15
        exact (ex_fail F6 g11 q1 _).mpr hQ
      by_cases n1 : isN (R 37 w1)
      · by_cases n2 : isN (R 37 w2)
        · have num : ∀ w, w < nv1 → isN (R 37 w) → (φ1 w).toInt32 = R 38 w := by
            intro w hw hn
            rcases a1.2.2.2.2.2.1 w hw with ⟨k, hk, x1, x2⟩ | ⟨x1, _⟩
            · rw [x2, dt_vl]
            · rw [x1] at hn; exact absurd hn (by unfold isN; decide)
          have d1 := num w1 hw1 n1
          have d2 := num w2 hw2 n2
          have fin : ∀ (x : Int32) (K : st_I → Prop), K (edd (nwv R nv1 (kn x) x) lev (nI nv1)) → wp_M_combine_L105 K R x := by
            intro x K hK
            have r13' : (nwv R nv1 (kn x) x) 20 13 = nI (lev + 1) := by simpa [nwv, st_u, upd] using a6
            simp only [wp_M_combine_L105, wp_M_combine_L129, rx_kind, rx_value (show nv1 < 460 by omega) r19, rx_end r13']
            exact hK
          have cal : ∀ (x : Int32) (Q : Int64 → st_S → Prop), Q (vl (kn x) x) (g1, q1) → wp_H_calculate_L51 Q g1 q1 x := by
            intro x Q hQ
            simp only [wp_H_calculate_L51, ex_number]; exact hQ
          by_cases s4 : s = 4
          · subst s4
            obtain ⟨k, hk, hkk⟩ := kn_8 (R 38 w1 + R 38 w2)
            refine ⟨vl (kn (R 38 w1 + R 38 w2)) (R 38 w1 + R 38 w2), g1, q1, edd (nwv R nv1 (kn (R 38 w1 + R 38 w2)) (R 38 w1 + R 38 w2)) lev (nI nv1), fun Q hQ => ⟨fun _ => ⟨fun _ => ?_, fun z => absurd z (by decide)⟩, fun z => absurd z (by decide)⟩, fun K hK => ?_, by rw [hkk]; exact fin_n h' h24 hk _⟩
            · simp only [wp_H_calculate, ex_isNum, kw1, kw2, n1, n2, ex_detailOf, d1, d2]
              simp
              exact cal _ Q hQ
            · simp only [wp_M_combine, rx_isNum, c1, c2, i1, i2, n1, n2]
              simp
              exact fin _ K hK
          · have s5 : s = 5 := by
              rcases hs with w | w | w | w
              · exact absurd w s4
              · exact w
              · exact absurd w s6
              · exact absurd w s13
            subst s5
            obtain ⟨k, hk, hkk⟩ := kn_8 (R 38 w1 - R 38 w2)
            refine ⟨vl (kn (R 38 w1 - R 38 w2)) (R 38 w1 - R 38 w2), g1, q1, edd (nwv R nv1 (kn (R 38 w1 - R 38 w2)) (R 38 w1 - R 38 w2)) lev (nI nv1), fun Q hQ => ⟨fun _ => ⟨fun _ => ?_, fun z => absurd z (by decide)⟩, fun z => absurd z (by decide)⟩, fun K hK => ?_, by rw [hkk]; exact fin_n h' h24 hk _⟩
            · simp only [wp_H_calculate, ex_isNum, kw1, kw2, n1, n2, ex_detailOf, d1, d2]
              simp
              exact cal _ Q hQ
            · simp only [wp_M_combine, rx_isNum, c1, c2, i1, i2, n1, n2]
              simp
              exact fin _ K hK
        · refine ⟨_, _, _, _, fun Q hQ => ⟨fun _ => ⟨fun _ => ?_, fun z => absurd z s13⟩, fun z => absurd z s6⟩, fun K hK => ?_, fin_f h'⟩
          · simp only [wp_H_calculate, ex_isNum, kw1, kw2, n1, n2]
            simp
            exact cf Q hQ
          · simp only [wp_M_combine, rx_isNum, c1, c2, i1, i2, n1, n2, s6, s13]
            simp
            exact ff K hK
      · refine ⟨_, _, _, _, fun Q hQ => ⟨fun _ => ⟨fun _ => ?_, fun z => absurd z s13⟩, fun z => absurd z s6⟩, fun K hK => ?_, fin_f h'⟩
        · simp only [wp_H_calculate, ex_isNum, kw1, kw2, n1]
          simp
          exact cf Q hQ
        · simp only [wp_M_combine, rx_isNum, c1, c2, i1, i2, n1, s6, s13]
          simp
          exact ff K hK
