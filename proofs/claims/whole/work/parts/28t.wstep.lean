theorem wo_0 {l e : Nat} (hl : l < 63) (he : e < 90) {r : st_I} (ho : r 20 13 = nI (l + 1)) (hw : r 33 l = nI e) (ht : r 34 l = 0) (K : st_I → Prop) : wp_M_workOn r K ↔ wp_M_workOn_L67 K (st_u r 34 l 1) (nI l) (nI e) (r 21 e) 0 := by
  have p1 : nI (l + 1) - 1 = nI l := nI_pred l
  have cl : (nI l).toNatClampNeg = l := nI_clamp (by omega)
  have ce : (nI e).toNatClampNeg = e := nI_clamp (by omega)
  have v1 : vp_in (nI l) 64 := vp_in_nI (by omega) (by omega)
  have v2 : vp_in (nI e) 90 := vp_in_nI (by omega) (by omega)
  simp only [wp_M_workOn, ho, p1, cl, hw, ce, v1, v2, ht, true_and]
  simp
theorem wo_1 {l e : Nat} (hl : l < 63) (he : e < 90) {r : st_I} (ho : r 20 13 = nI (l + 1)) (hw : r 33 l = nI e) (ht : r 34 l = 1) (K : st_I → Prop) : wp_M_workOn r K ↔ wp_M_workOn_L67 K (st_u (st_u r 34 l 2) 36 (2 * l) (r 20 18)) (nI l) (nI e) (r 21 e) 1 := by
  have p1 : nI (l + 1) - 1 = nI l := nI_pred l
  have cl : (nI l).toNatClampNeg = l := nI_clamp (by omega)
  have ce : (nI e).toNatClampNeg = e := nI_clamp (by omega)
  have v1 : vp_in (nI l) 64 := vp_in_nI (by omega) (by omega)
  have v2 : vp_in (nI e) 90 := vp_in_nI (by omega) (by omega)
  have m2 : (2 : Int32) * nI l + 1 - 1 = nI (2 * l) := by rw [show (2 : Int32) * nI l = nI (2 * l) from pk_mul 2 l, nI_1, nI_pred]
  have c2 : (nI (2 * l)).toNatClampNeg = 2 * l := nI_clamp (by omega)
  have v3 : vp_in (nI (2 * l)) 128 := vp_in_nI (by omega) (by omega)
  simp only [wp_M_workOn, ho, p1, cl, hw, ce, v1, v2, ht, true_and, m2, c2, v3]
  simp
theorem wo_2 {l e : Nat} (hl : l < 63) (he : e < 90) {r : st_I} (ho : r 20 13 = nI (l + 1)) (hw : r 33 l = nI e) (ht : r 34 l = 2) (K : st_I → Prop) : wp_M_workOn r K ↔ wp_M_workOn_L67 K (st_u (st_u r 34 l 3) 36 (2 * l + 1) (r 20 18)) (nI l) (nI e) (r 21 e) 2 := by
  have p1 : nI (l + 1) - 1 = nI l := nI_pred l
  have cl : (nI l).toNatClampNeg = l := nI_clamp (by omega)
  have ce : (nI e).toNatClampNeg = e := nI_clamp (by omega)
  have v1 : vp_in (nI l) 64 := vp_in_nI (by omega) (by omega)
  have v2 : vp_in (nI e) 90 := vp_in_nI (by omega) (by omega)
  have m2 : (2 : Int32) * nI l + 2 - 1 = nI (2 * l + 1) := by rw [show (2 : Int32) * nI l = nI (2 * l) from pk_mul 2 l, show (2 : Int32) = nI 2 from rfl, nI_add]; exact nI_pred (2 * l + 1)
  have c2 : (nI (2 * l + 1)).toNatClampNeg = 2 * l + 1 := nI_clamp (by omega)
  have v3 : vp_in (nI (2 * l + 1)) 128 := vp_in_nI (by omega) (by omega)
  simp only [wp_M_workOn, ho, p1, cl, hw, ce, v1, v2, ht, true_and, m2, c2, v3]
  simp
theorem wo_4 {l e : Nat} (hl : l < 63) (he : e < 90) {r : st_I} (ho : r 20 13 = nI (l + 1)) (hw : r 33 l = nI e) (ht : r 34 l = 4) (K : st_I → Prop) : wp_M_workOn r K ↔ wp_M_workOn_L67 K (st_u r 34 l 5) (nI l) (nI e) (r 21 e) 4 := by
  have p1 : nI (l + 1) - 1 = nI l := nI_pred l
  have cl : (nI l).toNatClampNeg = l := nI_clamp (by omega)
  have ce : (nI e).toNatClampNeg = e := nI_clamp (by omega)
  have v1 : vp_in (nI l) 64 := vp_in_nI (by omega) (by omega)
  have v2 : vp_in (nI e) 90 := vp_in_nI (by omega) (by omega)
  simp only [wp_M_workOn, ho, p1, cl, hw, ce, v1, v2, ht, true_and]
  simp
def nwv (r : st_I) (nv : Nat) (k x : Int32) : st_I := st_u (st_u (st_u r 37 nv k) 38 nv x) 20 19 (nI (nv + 1))
theorem rx_value {nv : Nat} (hnv : nv < 460) {r : st_I} (h : r 20 19 = nI nv) (k x : Int32) (Q : Int32 → st_I → Prop) : wp_M_value k x r Q ↔ Q (nI nv) (nwv r nv k x) := by
  have cn : (nI nv).toNatClampNeg = nv := nI_clamp (by omega)
  have vn : vp_in (nI nv) 460 := vp_in_nI (by omega) (by omega)
  have e : nI nv + 1 - 1 = nI nv := by rw [nI_1, nI_pred]
  simp only [wp_M_value, h, cn, vn, true_and, nI_1, nI_pred, nwv]
def edd (r : st_I) (l : Nat) (v : Int32) : st_I := st_u (st_u r 20 18 v) 20 13 (nI l)
theorem rx_end {l : Nat} {r : st_I} (ho : r 20 13 = nI (l + 1)) (v : Int32) (Q : st_I → Prop) : wp_M_end v r Q ↔ Q (edd r l v) := by
  have p1 : nI (l + 1) - 1 = nI l := nI_pred l
  simp only [wp_M_end, ho, p1, edd]
def fl0 (r : st_I) (F : Nat) : st_I := if F = 6 then st_u (st_u (st_u r 20 25 1) 20 28 6) 20 24 0 else st_u (st_u (st_u r 20 25 0) 20 28 (nI (F + 1))) 20 24 1
theorem rx_fails {F : Nat} (hF : F ≤ 6) {r : st_I} (h : r 20 28 = nI F) (Q : st_I → Prop) : wp_M_fails r Q ↔ Q (fl0 r F) := by
  have e6 : (nI F = (6 : Int32)) ↔ F = 6 := nI_eq (b := 6) (by omega) (by omega)
  unfold wp_M_fails wp_M_fails_L15 wp_M_fails_L37 wp_M_fails_L53 fl0
  by_cases z : F = 6
  · subst z
    have k : nI 6 = 6 := rfl
    have t : st_u r 20 25 1 20 25 = 1 := by simp [st_u, upd]
    simp [h, k, zb_0, zb_1, zf_0, zf_1, t]
  · have k : ¬ nI F = 6 := fun w => z (e6.mp w)
    have t : st_u r 20 25 0 20 25 = 0 := by simp [st_u, upd]
    simp [h, k, z, zb_0, zb_1, zf_0, zf_1, t, nI_1]
theorem rx_fail {l F : Nat} (hF : F ≤ 6) {r : st_I} (ho : r 20 13 = nI (l + 1)) (h : r 20 28 = nI F) (Q : st_I → Prop) : wp_M_fail r Q ↔ Q (st_u (fl0 r F) 20 13 (nI l)) := by
  unfold wp_M_fail
  rw [rx_fails hF h]
  have e : fl0 r F 20 13 = nI (l + 1) := by unfold fl0; split <;> simp [st_u, upd, ho]
  rw [e, nI_pred]
theorem rx_work {l S : Nat} (hl : l < 63) {R : st_I} (ho : R 20 13 = nI (l + 1)) (hS : R 20 26 = nI S) (hS2 : S ≤ 200) (c : Int32) (K : st_I → Prop) (h1 : S < 200 → K (psh l c (st_u R 20 26 (nI (S + 1))))) (h2 : S = 200 → K (st_u R 20 25 1)) : wp_M_work c R K := by
  have e : (nI S = (200 : Int32)) ↔ S = 200 := nI_eq (b := 200) (by omega) (by omega)
  unfold wp_M_work
  simp only [hS, e, nI_1]
  refine ⟨fun z => ?_, h2⟩
  exact rx_look l hl c _ (by simp [st_u, upd, ho]) _ (h1 (by omega))
theorem ex_fail {F : Nat} (hF : F ≤ 6) {g : st_I} (h : g 14 11 = nI F) (q : st_L) (Q : Int64 → st_S → Prop) : wp_H_fail g q Q ↔ Q (if F = 6 then -2 else -1) (st_u g 14 11 (nI (F + 1)), q) := by
  have e6 : (nI (F + 1) ≤ (6 : Int32)) ↔ F + 1 ≤ 6 := nI_leI (b := 6) (by omega) (by omega)
  simp only [wp_H_fail, wp_H_fail_L28, h, nI_1, e6]
  by_cases z : F = 6
  · have : ¬ F + 1 ≤ 6 := by omega
    simp [z]
  · have : F + 1 ≤ 6 := by omega
    simp [z, this]
def goes (r r' : st_I) : Prop := ∀ Q : st_I → Prop, (∃ n, wp_M_go_L0 Q n r') → ∃ n, wp_M_go_L0 Q n r
theorem goes_rf (r : st_I) : goes r r := fun _ h => h
theorem goes_tr {r r1 r2 : st_I} (h : goes r r1) (k : goes r1 r2) : goes r r2 := fun Q x => h Q (k Q x)
theorem goes_w {l : Nat} (hl : l < 63) {r r' : st_I} (ho : r 20 13 = nI (l + 1)) (h25 : r 20 25 = 0) (h24 : r 20 24 = 0) (h : ∀ K : st_I → Prop, K r' → wp_M_workOn r K) : goes r r' := by
  intro Q hx
  obtain ⟨n, hn⟩ := hx
  refine ⟨n + 1, ?_⟩
  have no : ¬ nI (l + 1) ≤ 0 := nI_nle (by omega) (by omega)
  rw [wp_M_go_L0]
  simp only [ho, no, h25, h24, not_false_eq_true, not_true, false_imp_iff, true_imp_iff, true_and, and_true]
  exact h _ hn
theorem goes_u {l : Nat} (hl : l < 63) {r r' : st_I} (ho : r 20 13 = nI (l + 1)) (h25 : r 20 25 = 0) (h24 : r 20 24 = 1) (h : ∀ K : st_I → Prop, K r' → wp_M_goUp r K) : goes r r' := by
  intro Q hx
  obtain ⟨n, hn⟩ := hx
  refine ⟨n + 1, ?_⟩
  have no : ¬ nI (l + 1) ≤ 0 := nI_nle (by omega) (by omega)
  rw [wp_M_go_L0]
  simp only [ho, no, h25, h24, show ¬ (1 : Int32) = 0 from by decide, not_false_eq_true, not_true, false_imp_iff, true_imp_iff, true_and, and_true]
  exact h _ hn
theorem goup_pop {l e : Nat} (hl : l < 63) (he : e < 90) {r : st_I} (ho : r 20 13 = nI (l + 1)) (hw : r 33 l = nI e) (hns : ¬ r 21 e = 12 ∨ ¬ r 34 l = 1) (hnc : ¬ r 21 e = 10 ∨ r 34 l < 4) (K : st_I → Prop) (h : K (st_u (st_u r 20 29 (r 20 29)) 20 13 (nI l))) : wp_M_goUp r K := by
  have p1 : nI (l + 1) - 1 = nI l := nI_pred l
  have cl : (nI l).toNatClampNeg = l := nI_clamp (by omega)
  have ce : (nI e).toNatClampNeg = e := nI_clamp (by omega)
  have v1 : vp_in (nI l) 64 := vp_in_nI (by omega) (by omega)
  have v2 : vp_in (nI e) 90 := vp_in_nI (by omega) (by omega)
  have key : wp_M_goUp_L60 K r (nI l) (nI e) := by
    simp only [wp_M_goUp_L60, wp_M_goUp_L91, wp_M_goUp_L95, wp_M_goUp_L108, cl, ce, v1, v2, true_and, ho, p1]
    by_cases z : r 21 e = 10
    · have : r 34 l < 4 := hnc.resolve_left (fun w => w z)
      simp only [z, this, not_true, false_imp_iff, true_imp_iff, true_and, and_true]
      exact h
    · simp only [z, not_false_eq_true, false_imp_iff, true_imp_iff, and_true]
      exact h
  simp only [wp_M_goUp, ho, p1, cl, ce, hw, v1, v2, true_and]
  refine ⟨fun _ => key, fun z => ⟨fun _ => key, fun w => ?_⟩⟩
  rcases hns with y | y
  · exact absurd z y
  · exact absurd w y
theorem goup_call {l e : Nat} (hl : l < 63) (he : e < 90) {r : st_I} (ho : r 20 13 = nI (l + 1)) (hw : r 33 l = nI e) (hs : r 21 e = 10) (ht : r 34 l = 4) (K : st_I → Prop) (h : K (st_u (st_u r 20 29 (r 20 29 - 1)) 20 13 (nI l))) : wp_M_goUp r K := by
  have p1 : nI (l + 1) - 1 = nI l := nI_pred l
  have cl : (nI l).toNatClampNeg = l := nI_clamp (by omega)
  have ce : (nI e).toNatClampNeg = e := nI_clamp (by omega)
  have v1 : vp_in (nI l) 64 := vp_in_nI (by omega) (by omega)
  have v2 : vp_in (nI e) 90 := vp_in_nI (by omega) (by omega)
  simp only [wp_M_goUp, wp_M_goUp_L60, wp_M_goUp_L91, wp_M_goUp_L95, wp_M_goUp_L108, ho, p1, cl, ce, hw, v1, v2, hs, ht, true_and]
  simp
  exact h
theorem goup_try {l e S : Nat} (hl : l < 63) (he : e < 90) {r : st_I} (ho : r 20 13 = nI (l + 1)) (hw : r 33 l = nI e) (hs : r 21 e = 12) (ht : r 34 l = 1) (K : st_I → Prop) (h : wp_M_work (r 23 e) (st_u (st_u r 20 24 0) 34 l 2) K) : wp_M_goUp r K := by
  have p1 : nI (l + 1) - 1 = nI l := nI_pred l
  have cl : (nI l).toNatClampNeg = l := nI_clamp (by omega)
  have ce : (nI e).toNatClampNeg = e := nI_clamp (by omega)
  have v1 : vp_in (nI l) 64 := vp_in_nI (by omega) (by omega)
  have v2 : vp_in (nI e) 90 := vp_in_nI (by omega) (by omega)
  simp only [wp_M_goUp, wp_M_goUp_L108, ho, p1, cl, ce, hw, v1, v2, hs, ht, true_and]
  simp
  exact h
theorem w7_0a {l e : Nat} (he : e < 90) {R : st_I} {s : Int32} (hs : s = 4 ∨ s = 5 ∨ s = 6 ∨ s = 12 ∨ s = 13 ∨ s = 7 ∨ s = 8 ∨ s = 9) (K : st_I → Prop) (h : wp_M_work (R 22 e) R K) : wp_M_workOn_L67 K R (nI l) (nI e) s 0 := by
  have ce : (nI e).toNatClampNeg = e := nI_clamp (by omega)
  have v2 : vp_in (nI e) 90 := vp_in_nI (by omega) (by omega)
  rw [wp_M_workOn_L67]
  refine ⟨v2, ?_⟩
  have : s = 4 ∨ s = 5 ∨ s = 6 ∨ s = 12 ∨ s = 13 ∨ s = 7 ∨ s = 8 ∨ s = 9 := hs
  rcases hs with hs | hs | hs | hs | hs | hs | hs | hs
  · rw [rx_parts_3 s _ (by simp [hs])]; simp [k31, ce, v2, wp_M_workOn_L122, wp_M_workOn_L393]; exact h
  · rw [rx_parts_3 s _ (by simp [hs])]; simp [k31, ce, v2, wp_M_workOn_L122, wp_M_workOn_L393]; exact h
  · rw [rx_parts_3 s _ (by simp [hs])]; simp [k31, ce, v2, wp_M_workOn_L122, wp_M_workOn_L393]; exact h
  · rw [rx_parts_3 s _ (by simp [hs])]; simp [k31, ce, v2, wp_M_workOn_L122, wp_M_workOn_L393]; exact h
  · rw [rx_parts_3 s _ (by simp [hs])]; simp [k31, ce, v2, wp_M_workOn_L122, wp_M_workOn_L393]; exact h
  · rw [rx_parts_1 s _ (by simp [hs])]; simp [ce, v2, wp_M_workOn_L122, wp_M_workOn_L393]; exact h
  · rw [rx_parts_1 s _ (by simp [hs])]; simp [ce, v2, wp_M_workOn_L122, wp_M_workOn_L393]; exact h
  · subst hs; rw [rx_parts_9]; simp [k131, ce, v2, wp_M_workOn_L122, wp_M_workOn_L393]; exact h
theorem w7_0b {l e : Nat} (he : e < 90) {R : st_I} {s : Int32} (hs : s = 10 ∨ s = 11) (K : st_I → Prop) (h : wp_M_work (R 23 e) R K) : wp_M_workOn_L67 K R (nI l) (nI e) s 0 := by
  have ce : (nI e).toNatClampNeg = e := nI_clamp (by omega)
  have v2 : vp_in (nI e) 90 := vp_in_nI (by omega) (by omega)
  rw [wp_M_workOn_L67]
  refine ⟨v2, ?_⟩
  rcases hs with hs | hs
  · subst hs; rw [rx_parts_10]
    by_cases z : 3 ≤ R 22 (nI e).toNatClampNeg
    · simp [k61, ce, v2, wp_M_workOn_L122, wp_M_workOn_L393, z]; rw [ce] at z; simp [z, k61]; exact h
    · simp [k21, ce, v2, wp_M_workOn_L122, wp_M_workOn_L393, z]; rw [ce] at z; simp [z, k21]; exact h
  · subst hs; rw [rx_parts_11]; simp [k61, ce, v2, wp_M_workOn_L122, wp_M_workOn_L393]; exact h
