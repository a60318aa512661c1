def OUT (g0 r0 : st_I) (oc lev : Nat) (q : st_L) (r : st_I) (φ : Nat → Int64) (nv : Nat) (v : Int64) (g' : st_I) (q' : st_L) (r' : st_I) : Prop := (v = -2 ∧ ¬ r' 20 25 = 0 ∧ sST g0 r0 g' r') ∨ ∃ φ' nv' P' S' F' PM', sAL g0 r0 g' q' r' φ' nv' P' S' F' PM' ∧ ext φ nv φ' nv' ∧ nv' + lev ≤ S' ∧ (∀ j, j < 4 * (oc + 1) → q' 16 j = q 16 j) ∧ blw lev r r' ∧ r' 20 13 = nI lev ∧ r' 20 25 = 0 ∧ r' 20 29 = nI oc ∧ ((v = -1 ∧ r' 20 24 = 1) ∨ (r' 20 24 = 0 ∧ ∃ w, w < nv' ∧ v = φ' w ∧ r' 20 18 = nI w))
def FS (g0 r0 : st_I) (oc lev e : Nat) (t : Int32) (q : st_L) (r : st_I) (φ : Nat → Int64) (nv : Nat) (g1 : st_I) (q1 : st_L) (R : st_I) (φ1 : Nat → Int64) (nv1 P1 S1 F1 PM1 : Nat) : Prop := sAL g0 r0 g1 q1 R φ1 nv1 P1 S1 F1 PM1 ∧ ext φ nv φ1 nv1 ∧ nv1 + lev + 1 ≤ S1 ∧ (∀ j, j < 4 * (oc + 1) → q1 16 j = q 16 j) ∧ blw lev r R ∧ R 20 13 = nI (lev + 1) ∧ R 20 25 = 0 ∧ R 20 29 = nI oc ∧ R 33 lev = nI e ∧ R 34 lev = t ∧ ∀ v, v < 4 → vR φ1 nv1 (q1 16 (4 * oc + v)) (R 35 (4 * lev + v))
def cw (d c oc : Nat) (g : st_I) (q : st_L) (v : Int64) (g' : st_I) (q' : st_L) : Prop := ∀ Q : Int64 → st_S → Prop, Q v (g', q') → wp_H_workOut d (nI c) (nI oc) g q Q
theorem blw_st {l : Nat} {r R : st_I} (h : blw l r R) (k i : Nat) (x : Int32) (hk : (k = 33 ∨ k = 34) → l ≤ i) (h5 : k = 35 → 4 * l ≤ i) (h6 : k = 36 → 2 * l ≤ i) : blw l r (st_u R k i x) := blw_tr h (blw_u k i x hk h5 h6)
theorem FS_u {g0 r0 : st_I} {oc lev e : Nat} {t : Int32} {q : st_L} {r : st_I} {φ : Nat → Int64} {nv : Nat} {g1 : st_I} {q1 : st_L} {R : st_I} {φ1 : Nat → Int64} {nv1 P1 S1 F1 PM1 : Nat} (h : FS g0 r0 oc lev e t q r φ nv g1 q1 R φ1 nv1 P1 S1 F1 PM1) (i : Nat) (x : Int32) (hi : i = 2 * lev ∨ i = 2 * lev + 1) : FS g0 r0 oc lev e t q r φ nv g1 q1 (st_u R 36 i x) φ1 nv1 P1 S1 F1 PM1 := by
  obtain ⟨a1, a2, a3, a4, a5, a6, a7, a8, a9, a10, a11⟩ := h
  refine ⟨sAL_ctl a1 (ctl_u _ _ _ _ (by omega)), a2, a3, a4, blw_st a5 _ _ _ (by omega) (by omega) (by omega), by simpa [st_u] using a6, by simpa [st_u] using a7, by simpa [st_u] using a8, by simpa [st_u] using a9, by simpa [st_u] using a10, by simpa [st_u] using a11⟩
theorem FS_t {g0 r0 : st_I} {oc lev e : Nat} {t : Int32} {q : st_L} {r : st_I} {φ : Nat → Int64} {nv : Nat} {g1 : st_I} {q1 : st_L} {R : st_I} {φ1 : Nat → Int64} {nv1 P1 S1 F1 PM1 : Nat} (h : FS g0 r0 oc lev e t q r φ nv g1 q1 R φ1 nv1 P1 S1 F1 PM1) (t' : Int32) : FS g0 r0 oc lev e t' q r φ nv g1 q1 (st_u R 34 lev t') φ1 nv1 P1 S1 F1 PM1 := by
  obtain ⟨a1, a2, a3, a4, a5, a6, a7, a8, a9, a10, a11⟩ := h
  refine ⟨sAL_ctl a1 (ctl_u _ _ _ _ (by omega)), a2, a3, a4, blw_st a5 _ _ _ (by omega) (by omega) (by omega), by simpa [st_u] using a6, by simpa [st_u] using a7, by simpa [st_u] using a8, by simpa [st_u] using a9, by simp [st_u, upd], by simpa [st_u] using a11⟩
theorem FS_24 {g0 r0 : st_I} {oc lev e : Nat} {t : Int32} {q : st_L} {r : st_I} {φ : Nat → Int64} {nv : Nat} {g1 : st_I} {q1 : st_L} {R : st_I} {φ1 : Nat → Int64} {nv1 P1 S1 F1 PM1 : Nat} (h : FS g0 r0 oc lev e t q r φ nv g1 q1 R φ1 nv1 P1 S1 F1 PM1) (x : Int32) : FS g0 r0 oc lev e t q r φ nv g1 q1 (st_u R 20 24 x) φ1 nv1 P1 S1 F1 PM1 := by
  obtain ⟨a1, a2, a3, a4, a5, a6, a7, a8, a9, a10, a11⟩ := h
  refine ⟨sAL_ctl a1 (ctl_u _ _ _ _ (by omega)), a2, a3, a4, blw_st a5 _ _ _ (by omega) (by omega) (by omega), by simpa [st_u, upd] using a6, by simpa [st_u, upd] using a7, by simpa [st_u, upd] using a8, by simpa [st_u] using a9, by simpa [st_u] using a10, by simpa [st_u] using a11⟩
theorem fin_v {g0 r0 : st_I} {oc lev e : Nat} {t : Int32} {q : st_L} {r : st_I} {φ : Nat → Int64} {nv : Nat} {g1 : st_I} {q1 : st_L} {R : st_I} {φ1 : Nat → Int64} {nv1 P1 S1 F1 PM1 : Nat} (h : FS g0 r0 oc lev e t q r φ nv g1 q1 R φ1 nv1 P1 S1 F1 PM1) (h24 : R 20 24 = 0) {w : Nat} (hw : w < nv1) : OUT g0 r0 oc lev q r φ nv (φ1 w) g1 q1 (edd R lev (nI w)) := by
  obtain ⟨a1, a2, a3, a4, a5, a6, a7, a8, a9, a10, a11⟩ := h
  refine Or.inr ⟨φ1, nv1, P1, S1, F1, PM1, sAL_ctl a1 (ctl_edd _ _ _), a2, by omega, a4, ?_, by simp [edd, st_u, upd], by simpa [edd, st_u, upd] using a7, by simpa [edd, st_u, upd] using a8, Or.inr ⟨by simpa [edd, st_u, upd] using h24, w, hw, rfl, by simp [edd, st_u, upd]⟩⟩
  unfold edd
  exact blw_st (blw_st a5 _ _ _ (by omega) (by omega) (by omega)) _ _ _ (by omega) (by omega) (by omega)
theorem fin_n {g0 r0 : st_I} {oc lev e : Nat} {t : Int32} {q : st_L} {r : st_I} {φ : Nat → Int64} {nv : Nat} {g1 : st_I} {q1 : st_L} {R : st_I} {φ1 : Nat → Int64} {nv1 P1 S1 F1 PM1 : Nat} (h : FS g0 r0 oc lev e t q r φ nv g1 q1 R φ1 nv1 P1 S1 F1 PM1) (h24 : R 20 24 = 0) {k : Nat} (hk : k < 8) (x : Int32) : OUT g0 r0 oc lev q r φ nv (vl (nI k) x) g1 q1 (edd (nwv R nv1 (nI k) x) lev (nI nv1)) := by
  obtain ⟨a1, a2, a3, a4, a5, a6, a7, a8, a9, a10, a11⟩ := h
  refine Or.inr ⟨_, nv1 + 1, P1, S1, F1, PM1, sAL_ctl (sAL_val a1 hk x) (ctl_edd _ _ _), ext_tr a2 (ext_val φ1 nv1 _), by omega, a4, ?_, by simp [edd, st_u, upd], by simpa [edd, nwv, st_u, upd] using a7, by simpa [edd, nwv, st_u, upd] using a8, Or.inr ⟨by simpa [edd, nwv, st_u, upd] using h24, nv1, by omega, by simp, by simp [edd, st_u, upd]⟩⟩
  unfold edd nwv
  exact blw_st (blw_st (blw_st (blw_st (blw_st a5 _ _ _ (by omega) (by omega) (by omega)) _ _ _ (by omega) (by omega) (by omega)) _ _ _ (by omega) (by omega) (by omega)) _ _ _ (by omega) (by omega) (by omega)) _ _ _ (by omega) (by omega) (by omega)
theorem fl0_5 (r : st_I) {F : Nat} (hF : ¬ F = 6) : fl0 r F = st_u (st_u (st_u r 20 25 0) 20 28 (nI (F + 1))) 20 24 1 := by unfold fl0; rw [if_neg hF]
theorem fl0_6 (r : st_I) {F : Nat} (hF : F = 6) : fl0 r F = st_u (st_u (st_u r 20 25 1) 20 28 6) 20 24 0 := by unfold fl0; rw [if_pos hF]
theorem su_c (r : st_I) (k i j : Nat) (x y : Int32) (h : i ≠ j) : st_u (st_u r k i x) k j y = st_u (st_u r k j y) k i x := by
  funext a b
  by_cases z : a = k
  · subst z
    rw [su_k, su_k, su_k, su_k]
    by_cases z1 : b = i
    · have : ¬ b = j := by omega
      simp [z1, h]
    · simp [z1]
  · rw [su_o _ _ _ _ _ z, su_o _ _ _ _ _ z, su_o _ _ _ _ _ z, su_o _ _ _ _ _ z]
theorem fl_al {g0 r0 : st_I} {g1 : st_I} {q1 : st_L} {R : st_I} {φ1 : Nat → Int64} {nv1 P1 S1 F1 PM1 : Nat} (a1 : sAL g0 r0 g1 q1 R φ1 nv1 P1 S1 F1 PM1) (hF : ¬ F1 = 6) : sAL g0 r0 (st_u g1 14 11 (nI (F1 + 1))) q1 (fl0 R F1) φ1 nv1 P1 S1 (F1 + 1) PM1 := by
  have := a1.2.1.2.2.2.2.2.2.2.1
  rw [fl0_5 _ hF, su_c _ _ 25 28 _ _ (by omega)]
  exact sAL_ctl (sAL_ctl (sAL_fl a1 (by omega)) (ctl_u _ _ _ _ (by omega))) (ctl_u _ _ _ _ (by omega))
theorem fl_st {g0 r0 : st_I} {g1 : st_I} {R : st_I} {F1 : Nat} (a1 : sST g0 r0 g1 R) (x : Int32) : sST g0 r0 (st_u g1 14 11 x) (fl0 R F1) := by
  obtain ⟨c1, c2, c3, c4, c5⟩ := a1
  have k : ∀ k, k ≠ 20 → fl0 R F1 k = R k := by
    intro k hk
    unfold fl0; split
    · rw [su_o _ _ _ _ _ hk, su_o _ _ _ _ _ hk, su_o _ _ _ _ _ hk]
    · rw [su_o _ _ _ _ _ hk, su_o _ _ _ _ _ hk, su_o _ _ _ _ _ hk]
  have j : ∀ j, j ≠ 25 → j ≠ 28 → j ≠ 24 → fl0 R F1 20 j = R 20 j := by
    intro j h1 h2 h3
    unfold fl0; split
    · rw [su_k, if_neg h3, su_k, if_neg h2, su_k, if_neg h1]
    · rw [su_k, if_neg h3, su_k, if_neg h2, su_k, if_neg h1]
  refine ⟨fun a ha => by rw [su_o _ _ _ _ _ ha]; exact c1 a ha, by simpa [st_u, upd] using c2, fun a h1 h2 => by rw [k a h1]; exact c3 a h1 h2, fun b hb => by rw [j b (by omega) (by omega) (by omega)]; exact c4 b hb, ?_⟩
  rw [j 30 (by omega) (by omega) (by omega)]
  simpa [st_u, upd] using c5
theorem fin_f {g0 r0 : st_I} {oc lev e : Nat} {t : Int32} {q : st_L} {r : st_I} {φ : Nat → Int64} {nv : Nat} {g1 : st_I} {q1 : st_L} {R : st_I} {φ1 : Nat → Int64} {nv1 P1 S1 F1 PM1 : Nat} (h : FS g0 r0 oc lev e t q r φ nv g1 q1 R φ1 nv1 P1 S1 F1 PM1) : OUT g0 r0 oc lev q r φ nv (if F1 = 6 then -2 else -1) (st_u g1 14 11 (nI (F1 + 1))) q1 (st_u (fl0 R F1) 20 13 (nI lev)) := by
  obtain ⟨a1, a2, a3, a4, a5, a6, a7, a8, a9, a10, a11⟩ := h
  by_cases z : F1 = 6
  · rw [if_pos z]
    refine Or.inl ⟨rfl, ?_, sST_ctl (fl_st a1.1 _) (ctl_u _ _ _ _ (by omega))⟩
    rw [fl0_6 _ z]; simp [st_u, upd]
  · rw [if_neg z]
    refine Or.inr ⟨φ1, nv1, P1, S1, F1 + 1, PM1, sAL_ctl (fl_al a1 z) (ctl_u _ _ _ _ (by omega)), a2, by omega, a4, ?_, by simp [st_u, upd], ?_, ?_, Or.inl ⟨rfl, ?_⟩⟩
    · rw [fl0_5 _ z]
      exact blw_st (blw_st (blw_st (blw_st a5 _ _ _ (by omega) (by omega) (by omega)) _ _ _ (by omega) (by omega) (by omega)) _ _ _ (by omega) (by omega) (by omega)) _ _ _ (by omega) (by omega) (by omega)
    · rw [fl0_5 _ z]; simp [st_u, upd]
    · rw [fl0_5 _ z]; simpa [st_u, upd] using a8
    · rw [fl0_5 _ z]; simp [st_u, upd]
theorem fin_u {g0 r0 : st_I} {oc lev e : Nat} {t : Int32} {q : st_L} {r : st_I} {φ : Nat → Int64} {nv : Nat} {g1 : st_I} {q1 : st_L} {R : st_I} {φ1 : Nat → Int64} {nv1 P1 S1 F1 PM1 : Nat} (h : FS g0 r0 oc lev e t q r φ nv g1 q1 R φ1 nv1 P1 S1 F1 PM1) (h24 : R 20 24 = 1) : OUT g0 r0 oc lev q r φ nv (-1) g1 q1 (st_u (st_u R 20 29 (R 20 29)) 20 13 (nI lev)) := by
  obtain ⟨a1, a2, a3, a4, a5, a6, a7, a8, a9, a10, a11⟩ := h
  refine Or.inr ⟨φ1, nv1, P1, S1, F1, PM1, sAL_ctl (sAL_ctl a1 (ctl_u _ _ _ _ (by omega))) (ctl_u _ _ _ _ (by omega)), a2, by omega, a4, ?_, by simp [st_u, upd], by simpa [st_u, upd] using a7, by simpa [st_u, upd] using a8, Or.inl ⟨rfl, by simpa [st_u, upd] using h24⟩⟩
  exact blw_st (blw_st a5 _ _ _ (by omega) (by omega) (by omega)) _ _ _ (by omega) (by omega) (by omega)
def KO (g0 r0 : st_I) (oc lev e : Nat) (t : Int32) (q : st_L) (r : st_I) (φ : Nat → Int64) (nv : Nat) (R : st_I) (φ1 : Nat → Int64) (nv1 : Nat) (v : Int64) (g' : st_I) (q' : st_L) (r' : st_I) : Prop := (v = -2 ∧ ¬ r' 20 25 = 0 ∧ sST g0 r0 g' r') ∨ ∃ φ2 nv2 P2 S2 F2 PM2, FS g0 r0 oc lev e t q r φ nv g' q' r' φ2 nv2 P2 S2 F2 PM2 ∧ ext φ1 nv1 φ2 nv2 ∧ r' 36 (2 * lev) = R 36 (2 * lev) ∧ r' 36 (2 * lev + 1) = R 36 (2 * lev + 1) ∧ ((v = -1 ∧ r' 20 24 = 1) ∨ (r' 20 24 = 0 ∧ ∃ w, w < nv2 ∧ v = φ2 w ∧ r' 20 18 = nI w))
theorem KO_of {g0 r0 : st_I} {oc lev e : Nat} {t : Int32} {q : st_L} {r : st_I} {φ : Nat → Int64} {nv : Nat} {g1 : st_I} {q1 q2 : st_L} {R Rp : st_I} {φ1 : Nat → Int64} {nv1 P1 S1 F1 PM1 : Nat} (h : FS g0 r0 oc lev e t q r φ nv g1 q1 R φ1 nv1 P1 S1 F1 PM1) (hR : blw (lev + 1) R Rp) {v : Int64} {g' : st_I} {q' qf : st_L} {r' : st_I} (ho : OUT g0 r0 oc (lev + 1) q2 Rp φ1 nv1 v g' q' r') (hqf : (∀ j, j < 4 * (oc + 1) → q' 16 j = q2 16 j) → ∀ j, j < 4 * (oc + 1) → qf 16 j = q1 16 j) (h17 : qf 17 = q' 17) (h18 : qf 18 = q' 18) : KO g0 r0 oc lev e t q r φ nv R φ1 nv1 v g' qf r' := by
  obtain ⟨a1, a2, a3, a4, a5, a6, a7, a8, a9, a10, a11⟩ := h
  rcases ho with ho | ⟨φ2, nv2, P2, S2, F2, PM2, b1, b2, b3, b4, b5, b6, b7, b8, b9⟩
  · exact Or.inl ho
  · have hb : blw (lev + 1) R r' := blw_tr hR b5
    have hq := hqf b4
    refine Or.inr ⟨φ2, nv2, P2, S2, F2, PM2, ⟨sAL_q b1 h17 h18, ext_tr a2 b2, by omega, fun j hj => (hq j hj).trans (a4 j hj), blw_tr a5 (blw_mo (Nat.le_succ _) hb), b6, b7, b8, by rw [(hb.1 lev (by omega)).1]; exact a9, by rw [(hb.1 lev (by omega)).2]; exact a10, fun v hv => ?_⟩, b2, hb.2.2 _ (by omega), hb.2.2 _ (by omega), b9⟩
    rw [hq _ (by omega), hb.2.1 _ (by omega)]
    exact vR_ext b2 (a11 v hv)
