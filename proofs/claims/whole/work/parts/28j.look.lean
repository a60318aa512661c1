def fr (r0 r : st_I) : Prop := (∀ k, k ≠ 20 → (k < 31 ∨ 36 < k) → r k = r0 k) ∧ ∀ j, j ≠ 13 → j ≠ 18 → r 20 j = r0 20 j
def blw (l : Nat) (r r' : st_I) : Prop := (∀ j, j < l → r' 33 j = r 33 j ∧ r' 34 j = r 34 j) ∧ (∀ j, j < 4 * l → r' 35 j = r 35 j) ∧ ∀ j, j < 2 * l → r' 36 j = r 36 j
def cm (c : Nat → Int32) (T : List (Nat × Int32)) : Nat → Int32 := T.foldl (fun c p => upd c p.1 1) c
def gv (v : Nat → Int32) (T : List (Nat × Int32)) : Nat → Int32 := T.foldl (fun v p => upd v p.1 (if ¬ v p.1 = 0 then 1 else if p.2 = 0 then 0 else 1)) v
theorem cm_app (c : Nat → Int32) (A B : List (Nat × Int32)) : cm c (A ++ B) = cm (cm c A) B := List.foldl_append
theorem gv_app (c : Nat → Int32) (A B : List (Nat × Int32)) : gv c (A ++ B) = gv (gv c A) B := List.foldl_append
theorem blw_rf (l : Nat) (r : st_I) : blw l r r := ⟨fun _ _ => ⟨rfl, rfl⟩, fun _ _ => rfl, fun _ _ => rfl⟩
theorem blw_tr {l : Nat} {r r' r2 : st_I} (h : blw l r r') (k : blw l r' r2) : blw l r r2 :=
  ⟨fun j hj => ⟨(k.1 j hj).1.trans (h.1 j hj).1, (k.1 j hj).2.trans (h.1 j hj).2⟩, fun j hj => (k.2.1 j hj).trans (h.2.1 j hj), fun j hj => (k.2.2 j hj).trans (h.2.2 j hj)⟩
theorem blw_mo {l l' : Nat} (hl : l ≤ l') {r r' : st_I} (h : blw l' r r') : blw l r r' :=
  ⟨fun j hj => h.1 j (by omega), fun j hj => h.2.1 j (by omega), fun j hj => h.2.2 j (by omega)⟩
theorem fr_u {r0 r : st_I} (h : fr r0 r) (k i : Nat) (x : Int32) (hk : 31 ≤ k ∧ k ≤ 36 ∨ k = 20 ∧ (i = 13 ∨ i = 18)) : fr r0 (st_u r k i x) := by
  refine ⟨fun k' h1 h2 => ?_, fun j h1 h2 => ?_⟩
  · rw [su_o _ _ _ _ _ (by omega)]; exact h.1 k' h1 h2
  · by_cases z : 20 = k
    · subst z
      rw [su_k]
      have : ¬ j = i := by omega
      simp only [this, if_false]
      exact h.2 j h1 h2
    · rw [su_o _ _ _ _ _ z]; exact h.2 j h1 h2
theorem fr_psh {r0 r : st_I} (h : fr r0 r) (l : Nat) (c : Int32) : fr r0 (psh l c r) := by
  unfold psh
  refine fr_u (fr_u (fr_u (fr_u (fr_u (fr_u (fr_u h _ _ _ ?_) _ _ _ ?_) _ _ _ ?_) _ _ _ ?_) _ _ _ ?_) _ _ _ ?_) _ _ _ ?_ <;> omega
theorem fr_clo {r0 r : st_I} (h : fr r0 r) (e : Nat) (x : Int32) : fr r0 (clo e x r) := by
  unfold clo
  refine fr_u (fr_u (fr_u (fr_u h _ _ _ ?_) _ _ _ ?_) _ _ _ ?_) _ _ _ ?_ <;> omega
theorem blw_u {l : Nat} {r : st_I} (k i : Nat) (x : Int32) (hk : (k = 33 ∨ k = 34) → l ≤ i) (h5 : k = 35 → 4 * l ≤ i) (h6 : k = 36 → 2 * l ≤ i) : blw l r (st_u r k i x) := by
  refine ⟨fun j hj => ⟨?_, ?_⟩, fun j hj => ?_, fun j hj => ?_⟩
  · by_cases z : 33 = k
    · subst z; rw [su_k]; simp [show ¬ j = i by have := hk (by simp); omega]
    · rw [su_o _ _ _ _ _ z]
  · by_cases z : 34 = k
    · subst z; rw [su_k]; simp [show ¬ j = i by have := hk (by simp); omega]
    · rw [su_o _ _ _ _ _ z]
  · by_cases z : 35 = k
    · subst z; rw [su_k]; simp [show ¬ j = i by have := h5 rfl; omega]
    · rw [su_o _ _ _ _ _ z]
  · by_cases z : 36 = k
    · subst z; rw [su_k]; simp [show ¬ j = i by have := h6 rfl; omega]
    · rw [su_o _ _ _ _ _ z]
theorem blw_psh {l : Nat} {r : st_I} (c : Int32) : blw (l + 1) r (psh l c r) := by
  refine ⟨fun j hj => ⟨?_, ?_⟩, fun j hj => ?_, fun j hj => ?_⟩
  · rw [psh_33]; simp [show ¬ j = l + 1 by omega]
  · rw [psh_34]; simp [show ¬ j = l + 1 by omega]
  · exact psh_35o l c r j hj
  · rw [psh_o _ _ _ 36 (by decide) (by decide) (by decide) (by decide)]
theorem blw_clo {l e : Nat} {r : st_I} (x : Int32) : blw l r (clo e x r) := by
  refine ⟨fun j hj => ⟨?_, ?_⟩, fun j hj => ?_, fun j hj => ?_⟩ <;> simp [clo, st_u]
def FJ (l e : Nat) (t : Int32) (V : Nat → Int32) (r : st_I) : Prop := r 33 l = nI e ∧ r 34 l = t ∧ ∀ v, v < 4 → r 35 (4 * l + v) = V v
theorem FJ_blw {l e : Nat} {t : Int32} {V : Nat → Int32} {r r' : st_I} (h : FJ l e t V r) (hb : blw (l + 1) r r') : FJ l e t V r' :=
  ⟨(hb.1 l (by omega)).1.trans h.1, (hb.1 l (by omega)).2.trans h.2.1, fun v hv => (hb.2.1 _ (by omega)).trans (h.2.2 v hv)⟩
theorem lk_go {Q : Int32 → st_I → Prop} {l : Nat} (hl : l < 63) {r : st_I} (ho : r 20 13 = nI (l + 1)) {r' : st_I} (h : ∃ n, wp_M_looked_L55 Q n r') (hk : ∀ K : st_I → Prop, K r' → wp_M_lookOn r K) : ∃ n, wp_M_looked_L55 Q n r := by
  obtain ⟨n, hn⟩ := h
  refine ⟨n + 1, ?_⟩
  have no : ¬ nI (l + 1) ≤ 0 := nI_nle (by omega) (by omega)
  rw [wp_M_looked_L55]
  simp only [ho, no, not_false_eq_true, false_imp_iff, true_imp_iff, true_and]
  exact hk _ hn
theorem FJ_psh {l c : Nat} {V : Nat → Int32} {R : st_I} (hV : ∀ v, v < 4 → R 35 (4 * l + v) = V v) : FJ (l + 1) c 0 V (psh l (nI c) R) :=
  ⟨by rw [psh_33]; simp, by rw [psh_34]; simp, fun v hv => by rw [psh_35n _ _ _ v hv]; exact hV v hv⟩
theorem FJ_pshu {l c w : Nat} (hw : w < 4) {V : Nat → Int32} {x : Int32} {R : st_I} (hV : ∀ v, v < 4 → R 35 (4 * l + v) = V v) : FJ (l + 1) c 0 (upd V w x) (st_u (psh l (nI c) R) 35 (4 * (l + 1) + w) x) := by
  refine ⟨by rw [su_o _ _ _ _ _ (by decide), psh_33]; simp, by rw [su_o _ _ _ _ _ (by decide), psh_34]; simp, fun v hv => ?_⟩
  rw [su_k]
  by_cases z : v = w
  · subst z; simp [upd]
  · have : ¬ 4 * (l + 1) + v = 4 * (l + 1) + w := by omega
    simp only [this, if_false, upd, z]
    rw [psh_35n _ _ _ v hv]; exact hV v hv
theorem lk {g r0 : st_I} {n : Nat} (hp : pr_all g r0 n) {ma gi : Nat → Int32} (hma : ∀ f, f < 6 → r0 29 (2 * f) = ma (2 * f) ∧ (3 ≤ f → r0 29 (2 * f + 1) = ma (2 * f + 1))) (hgi : ∀ f, f < 6 → r0 30 f = gi f) (hm9 : ∀ f, f < 6 → m9 (gi f)) (Q : Int32 → st_I → Prop) : ∀ d e l V r, e < n → (g 7 e).toNatClampNeg < d → l + (g 7 e).toNatClampNeg < 60 → (∀ v, v < 4 → m9 (V v)) → fr r0 r → r 20 13 = nI (l + 1) → FJ l e 0 V r → (∀ r', fr r0 r' → r' 20 13 = nI l → r' 20 18 = kz g ma gi d e V → blw l r r' → r' 31 = cm (r 31) (kt g ma gi d e V) → r' 32 = gv (r 32) (kt g ma gi d e V) → ∃ n, wp_M_looked_L55 Q n r') → ∃ n, wp_M_looked_L55 Q n r := by
  intro d
  induction d with
  | zero => intro e l V r _ hd; exact absurd hd (by omega)
  | succ d ih =>
    intro e l V r he hd hld hV9 hfr ho hFJ h
    have hn := hp.1
    obtain ⟨hsort, -, -, hr⟩ := hp.2.2.2 e he
    have he9 : e < 90 := by omega
    have hl : l < 60 := by omega
    have hk9 : ∀ a V, a < n → (∀ v, v < 4 → m9 (V v)) → m9 (kz g ma gi d a V) := fun a V ha hV => kz_m9 hp hm9 d a V ha hV
    have cl : ∀ a, a < n → (nI a).toNatClampNeg = a := fun a ha => nI_clamp (by omega)
    have hkt : kt g ma gi (d + 1) e V = ktB g (kz g ma gi d) (kt g ma gi d) e V ++ [(e, kzB g ma gi (kz g ma gi d) e V)] := rfl
    have hkz : kz g ma gi (d + 1) e V = kzB g ma gi (kz g ma gi d) e V := rfl
    rw [hkt, hkz] at h
    have rd : ∀ R, fr r0 R → ∀ k, 20 < k → k < 31 → R k = r0 k := fun R hR k h1 h2 => hR.1 k (by omega) (Or.inl h2)
    have child : ∀ (R R1 : st_I) (c : Nat) (V' : Nat → Int32), pr_c g n e c → fr r0 R1 → R1 20 13 = nI (l + 2) → FJ (l + 1) c 0 V' R1 → (∀ v, v < 4 → m9 (V' v)) → blw (l + 1) R R1 → R1 31 = R 31 → R1 32 = R 32 → (∀ r', fr r0 r' → r' 20 13 = nI (l + 1) → r' 20 18 = kz g ma gi d c V' → blw (l + 1) R r' → r' 31 = cm (R 31) (kt g ma gi d c V') → r' 32 = gv (R 32) (kt g ma gi d c V') → ∃ n, wp_M_looked_L55 Q n r') → ∃ n, wp_M_looked_L55 Q n R1 := by
      intro R R1 c V' hc h1 h2 h3 h4 h5 h6 h7 hh
      refine ih c (l + 1) V' R1 hc.1 (by have := hc.2; omega) (by have := hc.2; omega) h4 h1 h2 h3 (fun r' a1 a2 a3 a4 a5 a6 => ?_)
      exact hh r' a1 a2 a3 (blw_tr h5 a4) (by rw [a5, h6]) (by rw [a6, h7])
    have fin : ∀ (R : st_I) (T : List (Nat × Int32)), fr r0 R → R 20 13 = nI (l + 1) → blw l r R → R 31 = cm (r 31) T → R 32 = gv (r 32) T → ktB g (kz g ma gi d) (kt g ma gi d) e V = T → ∀ x, x = kzB g ma gi (kz g ma gi d) e V → ∃ n, wp_M_looked_L55 Q n (clo e x R) := by
      intro R T h1 h2 h3 h4 h5 h6 x hx
      subst hx
      refine h _ (fr_clo h1 _ _) ?_ ?_ (blw_tr h3 (blw_clo _)) ?_ ?_
      · simp [clo, st_u, upd, h2]
        exact nI_pred l
      · simp [clo, st_u, upd]
      · rw [h6, cm_app, ← h4]
        simp [clo, st_u, cm]
      · rw [h6, gv_app, ← h5]
        simp [clo, st_u, gv]
    have hr21 := rd r hfr 21 (by decide) (by decide)
    have hr22 := rd r hfr 22 (by decide) (by decide)
    obtain ⟨hw, ht, hVr⟩ := hFJ
    rcases hr with ⟨h2, v, hv, h3, q3⟩ | ⟨h2, q3⟩ | h2 | ⟨h2, a, b, ha, hb, h4, q4, h5, q5⟩ | ⟨h2, a, ha, h4, q4⟩ | ⟨h2, m, a, b, c, hm9', h3, q3, ha, hb, hc, h4, q4, h5, q5, h6, q6⟩ | ⟨h2, f, a, hf, h3, q3, ha, h4, q4, hb⟩ | ⟨h2, v, a, b, hv, h3, q3, ha, hb, h4, q4, h5, q5⟩
    · have cv : (nI v).toNatClampNeg = v := nI_clamp (by omega)
      rcases h2 with h2 | h2
      · refine lk_go (by omega) ho (fin (st_u r 34 l 1) [] (fr_u hfr _ _ _ (by omega)) (by simp [st_u, ho]) (blw_u _ _ _ (by omega) (by omega) (by omega)) (by simp [st_u, cm]) (by simp [st_u, gv]) (by simp [ktB, h2]) (V v) (by simp [kzB, h2, h3, cv])) (fun K hK => ?_)
        rw [lo_0 (by omega) he9 ho hw ht]
        have e21 : st_u r 34 l 1 21 e = r 21 e := by simp [st_u]
        rw [← e21]
        refine l9_leaf (by omega) he9 (x := V v) (Or.inl ⟨?_, v, hv, ?_, ?_⟩) K hK
        · rw [e21, hr21, hsort, h2]
        · simp [st_u, hr22, q3]
        · simp [st_u, hVr v hv]
      · refine lk_go (by omega) ho (fin (st_u r 34 l 1) [] (fr_u hfr _ _ _ (by omega)) (by simp [st_u, ho]) (blw_u _ _ _ (by omega) (by omega) (by omega)) (by simp [st_u, cm]) (by simp [st_u, gv]) (by simp [ktB, h2]) (1 <<< (nI v &&& 31)) (by simp [kzB, h2, h3])) (fun K hK => ?_)
        rw [lo_0 (by omega) he9 ho hw ht]
        have e21 : st_u r 34 l 1 21 e = r 21 e := by simp [st_u]
        rw [← e21]
        refine l9_leaf (by omega) he9 (x := 1 <<< (nI v &&& 31)) (Or.inr (Or.inl ⟨?_, ?_⟩)) K hK
        · rw [e21, hr21, hsort, h2]
        · simp [st_u, hr22, q3]
    · refine lk_go (by omega) ho (fin (st_u r 34 l 1) [] (fr_u hfr _ _ _ (by omega)) (by simp [st_u, ho]) (blw_u _ _ _ (by omega) (by omega) (by omega)) (by simp [st_u, cm]) (by simp [st_u, gv]) (by simp [ktB, h2]) (1 <<< (kn (g 3 e) &&& 31)) (by simp [kzB, h2])) (fun K hK => ?_)
      rw [lo_0 (by omega) he9 ho hw ht]
      have e21 : st_u r 34 l 1 21 e = r 21 e := by simp [st_u]
      rw [← e21]
      refine l9_leaf (by omega) he9 (x := 1 <<< (kn (g 3 e) &&& 31)) (Or.inr (Or.inr (Or.inl ⟨?_, ?_⟩))) K hK
      · rw [e21, hr21, hsort, h2]
      · simp [st_u, hr22, q3]
    · rcases h2 with h2 | h2
      · refine lk_go (by omega) ho (fin (st_u r 34 l 1) [] (fr_u hfr _ _ _ (by omega)) (by simp [st_u, ho]) (blw_u _ _ _ (by omega) (by omega) (by omega)) (by simp [st_u, cm]) (by simp [st_u, gv]) (by simp [ktB, h2]) 128 (by simp [kzB, h2])) (fun K hK => ?_)
        rw [lo_0 (by omega) he9 ho hw ht]
        have e21 : st_u r 34 l 1 21 e = r 21 e := by simp [st_u]
        rw [← e21]
        refine l9_leaf (by omega) he9 (x := 128) (Or.inr (Or.inr (Or.inr (Or.inl ⟨?_, rfl⟩)))) K hK
        rw [e21, hr21, hsort, h2]
      · refine lk_go (by omega) ho (fin (st_u r 34 l 1) [] (fr_u hfr _ _ _ (by omega)) (by simp [st_u, ho]) (blw_u _ _ _ (by omega) (by omega) (by omega)) (by simp [st_u, cm]) (by simp [st_u, gv]) (by simp [ktB, h2]) 0 (by simp [kzB, h2])) (fun K hK => ?_)
        rw [lo_0 (by omega) he9 ho hw ht]
        have e21 : st_u r 34 l 1 21 e = r 21 e := by simp [st_u]
        rw [← e21]
        refine l9_leaf (by omega) he9 (x := 0) (Or.inr (Or.inr (Or.inr (Or.inr ⟨?_, rfl⟩)))) K hK
        rw [e21, hr21, hsort, h2]
    · -- two parts
      have step0 : (∃ n, wp_M_looked_L55 Q n (psh l (nI a) (st_u (st_u r 34 l 1) 36 (2 * l + 1) 511))) → ∃ n, wp_M_looked_L55 Q n r := by
        intro hh
        refine lk_go (by omega) ho hh (fun K hK => ?_)
        rw [lo_0 (by omega) he9 ho hw ht]
        refine l9_0a (by omega) he9 (by simp [st_u, ho]) ?_ K ?_
        · rw [hr21, hsort]; rcases h2 with h2 | h2 | h2 | h2 | h2 <;> simp [h2]
        · simpa [st_u, hr22, q4] using hK
      refine step0 ?_
      refine child (st_u (st_u r 34 l 1) 36 (2 * l + 1) 511) _ a V ha (fr_psh (fr_u (fr_u hfr _ _ _ (by omega)) _ _ _ (by omega)) _ _) (by rw [psh_20]; simp) (FJ_psh (by simpa [st_u] using hVr)) hV9 (blw_psh _) (psh_o _ _ _ 31 (by decide) (by decide) (by decide) (by decide)) (psh_o _ _ _ 32 (by decide) (by decide) (by decide) (by decide)) (fun r1 f1 o1 b1 w1 c1 v1 => ?_)
      have J1 : FJ l e 1 V r1 := FJ_blw ⟨by simp [st_u, hw], by simp [st_u, upd], by simpa [st_u] using hVr⟩ w1
      obtain ⟨hw1, ht1, hVr1⟩ := J1
      have step1 : (∃ n, wp_M_looked_L55 Q n (psh l (nI b) (st_u (st_u r1 34 l 2) 36 (2 * l) (r1 20 18)))) → ∃ n, wp_M_looked_L55 Q n r1 := by
        intro hh
        refine lk_go (by omega) o1 hh (fun K hK => ?_)
        rw [lo_1 (by omega) he9 o1 hw1 ht1]
        have e21 : st_u (st_u r1 34 l 2) 36 (2 * l) (r1 20 18) 21 e = r1 21 e := by simp [st_u]
        have s21 : r1 21 e = g 2 e := by rw [rd r1 f1 21 (by decide) (by decide), hsort]
        rw [← e21]
        refine l9_1b (by omega) he9 (by simp [st_u, o1]) (by rw [e21, s21]; exact h2) K ?_
        have : st_u (st_u r1 34 l 2) 36 (2 * l) (r1 20 18) 23 e = nI b := by simp [st_u, rd r1 f1 23 (by decide) (by decide), q5]
        rw [this]; exact hK
      refine step1 ?_
      refine child (st_u (st_u r1 34 l 2) 36 (2 * l) (r1 20 18)) _ b V hb (fr_psh (fr_u (fr_u f1 _ _ _ (by omega)) _ _ _ (by omega)) _ _) (by rw [psh_20]; simp) (FJ_psh (by simpa [st_u] using hVr1)) hV9 (blw_psh _) (psh_o _ _ _ 31 (by decide) (by decide) (by decide) (by decide)) (psh_o _ _ _ 32 (by decide) (by decide) (by decide) (by decide)) (fun r2 f2 o2 b2 w2 c2 v2 => ?_)
      have J2 : FJ l e 2 V r2 := FJ_blw ⟨by simp [st_u, hw1], by simp [st_u, upd], by simpa [st_u] using hVr1⟩ w2
      obtain ⟨hw2, ht2, hVr2⟩ := J2
      have x36 : r2 36 (2 * l) = kz g ma gi d a V := by
        rw [w2.2.2 (2 * l) (by omega)]; simp [st_u, upd, b1]
      have s21 : r2 21 e = g 2 e := by rw [rd r2 f2 21 (by decide) (by decide), hsort]
      have wb : blw l r (st_u (st_u r2 34 l 3) 36 (2 * l + 1) (r2 20 18)) := by
        refine blw_tr (blw_u 34 l 1 (by omega) (by omega) (by omega)) (blw_tr (blw_u 36 (2 * l + 1) 511 (by omega) (by omega) (by omega)) (blw_tr (blw_mo (Nat.le_succ l) w1) (blw_tr (blw_u 34 l 2 (by omega) (by omega) (by omega)) (blw_tr (blw_u 36 (2 * l) (r1 20 18) (by omega) (by omega) (by omega)) (blw_tr (blw_mo (Nat.le_succ l) w2) (blw_tr (blw_u 34 l 3 (by omega) (by omega) (by omega)) (blw_u 36 (2 * l + 1) (r2 20 18) (by omega) (by omega) (by omega))))))))
      refine lk_go (by omega) o2 (fin (st_u (st_u r2 34 l 3) 36 (2 * l + 1) (r2 20 18)) (kt g ma gi d a V ++ kt g ma gi d b V) (fr_u (fr_u f2 _ _ _ (by omega)) _ _ _ (by omega)) (by simp [st_u, o2]) wb ?_ ?_ ?_ _ rfl) (fun K hK => ?_)
      · rw [cm_app]; simp [st_u] at c1 c2 ⊢; rw [c2, c1]
      · rw [gv_app]; simp [st_u] at v1 v2 ⊢; rw [v2, v1]
      · rcases h2 with h2 | h2 | h2 | h2 | h2 <;> simp [ktB, h2, h4, h5, cl a ha.1, cl b hb.1]
      · rw [lo_2 (by omega) he9 o2 hw2 ht2]
        have e21 : st_u (st_u r2 34 l 3) 36 (2 * l + 1) (r2 20 18) 21 e = g 2 e := by simp [st_u, s21]
        have ex : st_u (st_u r2 34 l 3) 36 (2 * l + 1) (r2 20 18) 36 (2 * l) = kz g ma gi d a V := by simp [st_u, upd, x36]
        have ey : st_u (st_u r2 34 l 3) 36 (2 * l + 1) (r2 20 18) 36 (2 * l + 1) = kz g ma gi d b V := by simp [st_u, upd, b2]
        rw [s21, ← e21]
        refine l9_2b (by omega) he9 (v := kzB g ma gi (kz g ma gi d) e V) (by rw [e21]; exact h2) ?_ K hK
        rw [e21, ex, ey]
        rcases h2 with h2 | h2 | h2 | h2 | h2
        · left
          refine ⟨Or.inl h2, ?_⟩
          simp [kzB, h2, h4, h5, cl a ha.1, cl b hb.1]
          by_cases z1 : kz g ma gi d a V = 0
          · simp [z1, nk_0l]
          · by_cases z2 : kz g ma gi d b V = 0 <;> simp [z1, z2, nk_0r]
        · left
          refine ⟨Or.inr h2, ?_⟩
          simp [kzB, h2, h4, h5, cl a ha.1, cl b hb.1]
          by_cases z1 : kz g ma gi d a V = 0
          · simp [z1, nk_0l]
          · by_cases z2 : kz g ma gi d b V = 0 <;> simp [z1, z2, nk_0r]
        · right; right; left
          exact ⟨h2, by simp [kzB, h2, h4, h5, cl a ha.1, cl b hb.1]⟩
        · right; left
          exact ⟨h2, by simp [kzB, h2, h4, h5, cl a ha.1, cl b hb.1]⟩
        · right; right; right
          exact ⟨h2, by simp [kzB, h2, h4, h5, cl a ha.1, cl b hb.1]⟩
    · -- one part
      have step0 : (∃ n, wp_M_looked_L55 Q n (psh l (nI a) (st_u (st_u r 34 l 1) 36 (2 * l + 1) 511))) → ∃ n, wp_M_looked_L55 Q n r := by
        intro hh
        refine lk_go (by omega) ho hh (fun K hK => ?_)
        rw [lo_0 (by omega) he9 ho hw ht]
        refine l9_0a (by omega) he9 (by simp [st_u, ho]) ?_ K ?_
        · rw [hr21, hsort]; rcases h2 with h2 | h2 <;> simp [h2]
        · simpa [st_u, hr22, q4] using hK
      refine step0 ?_
      refine child (st_u (st_u r 34 l 1) 36 (2 * l + 1) 511) _ a V ha (fr_psh (fr_u (fr_u hfr _ _ _ (by omega)) _ _ _ (by omega)) _ _) (by rw [psh_20]; simp) (FJ_psh (by simpa [st_u] using hVr)) hV9 (blw_psh _) (psh_o _ _ _ 31 (by decide) (by decide) (by decide) (by decide)) (psh_o _ _ _ 32 (by decide) (by decide) (by decide) (by decide)) (fun r1 f1 o1 b1 w1 c1 v1 => ?_)
      have J1 : FJ l e 1 V r1 := FJ_blw ⟨by simp [st_u, hw], by simp [st_u, upd], by simpa [st_u] using hVr⟩ w1
      obtain ⟨hw1, ht1, hVr1⟩ := J1
      have s21 : r1 21 e = g 2 e := by rw [rd r1 f1 21 (by decide) (by decide), hsort]
      have wb : blw l r (st_u (st_u r1 34 l 2) 36 (2 * l) (r1 20 18)) := by
        refine blw_tr (blw_u 34 l 1 (by omega) (by omega) (by omega)) (blw_tr (blw_u 36 (2 * l + 1) 511 (by omega) (by omega) (by omega)) (blw_tr (blw_mo (Nat.le_succ l) w1) (blw_tr (blw_u 34 l 2 (by omega) (by omega) (by omega)) (blw_u 36 (2 * l) (r1 20 18) (by omega) (by omega) (by omega)))))
      refine lk_go (by omega) o1 (fin (st_u (st_u r1 34 l 2) 36 (2 * l) (r1 20 18)) (kt g ma gi d a V) (fr_u (fr_u f1 _ _ _ (by omega)) _ _ _ (by omega)) (by simp [st_u, o1]) wb ?_ ?_ ?_ _ rfl) (fun K hK => ?_)
      · simp [st_u] at c1 ⊢; rw [c1]
      · simp [st_u] at v1 ⊢; rw [v1]
      · rcases h2 with h2 | h2 <;> simp [ktB, h2, h4, cl a ha.1]
      · rw [lo_1 (by omega) he9 o1 hw1 ht1]
        have e21 : st_u (st_u r1 34 l 2) 36 (2 * l) (r1 20 18) 21 e = g 2 e := by simp [st_u, s21]
        have ex : st_u (st_u r1 34 l 2) 36 (2 * l) (r1 20 18) 36 (2 * l) = kz g ma gi d a V := by simp [st_u, upd, b1]
        rw [s21, ← e21]
        refine l9_1u (by omega) he9 (by rw [e21]; exact h2) K ?_
        rw [ex]
        have : (if kz g ma gi d a V &&& 256 = 0 then (0 : Int32) else 511) = kzB g ma gi (kz g ma gi d) e V := by
          have h8 := hs8 (kz g ma gi d a V)
          rcases h2 with h2 | h2
          · simp [kzB, h2, h4, cl a ha.1]
            by_cases z : kz g ma gi d a V &&& 256 = 0
            · simp [z, h8.mp z]
            · have : hs (kz g ma gi d a V) 8 = true := by
                cases hh : hs (kz g ma gi d a V) 8 with
                | true => rfl
                | false => exact absurd (h8.mpr hh) z
              simp [z, this]
          · simp [kzB, h2, h4, cl a ha.1]
            by_cases z : kz g ma gi d a V &&& 256 = 0
            · simp [z, h8.mp z]
            · have : hs (kz g ma gi d a V) 8 = true := by
                cases hh : hs (kz g ma gi d a V) 8 with
                | true => rfl
                | false => exact absurd (h8.mpr hh) z
              simp [z, this]
        rw [this]; exact hK
    · -- case
      have ka := hk9 a V ha.1 hV9
      have hTB : ktB g (kz g ma gi d) (kt g ma gi d) e V = kt g ma gi d a V ++ ((if kz g ma gi d a V &&& g 3 e = 0 then [] else kt g ma gi d b (kzN g a V (kz g ma gi d a V &&& g 3 e))) ++ (if kz g ma gi d a V &&& nm (g 3 e) = 0 then [] else kt g ma gi d c (kzN g a V (kz g ma gi d a V &&& nm (g 3 e))))) := by
        simp [ktB, h2, h4, h5, h6, cl a ha.1, cl b hb.1, cl c hc.1]
      have hZB : kzB g ma gi (kz g ma gi d) e V = (if kz g ma gi d a V &&& g 3 e = 0 then 0 else kz g ma gi d b (kzN g a V (kz g ma gi d a V &&& g 3 e))) ||| (if kz g ma gi d a V &&& nm (g 3 e) = 0 then 0 else kz g ma gi d c (kzN g a V (kz g ma gi d a V &&& nm (g 3 e)))) := by
        simp [kzB, h2, h4, h5, h6, cl a ha.1, cl b hb.1, cl c hc.1]
      have nm5 : kz g ma gi d a V &&& (511 &&& nm (g 3 e)) = kz g ma gi d a V &&& nm (g 3 e) := by
        have : kz g ma gi d a V &&& 511 = kz g ma gi d a V := ka
        rw [← Int32.and_assoc, this]
      obtain ⟨hsa, -, -, hra⟩ := hp.2.2.2 a ha.1
      have hav : g 2 a = 0 → ∃ w, w < 4 ∧ g 3 a = nI w ∧ r0 22 a = nI w := by
        intro z0
        rcases hra with ⟨-, w, hw, h3, h3'⟩ | ⟨z, -⟩ | z | ⟨z, -⟩ | ⟨z, -⟩ | ⟨z, -⟩ | ⟨z, -⟩ | ⟨z, -⟩
        · exact ⟨w, hw, h3, h3'⟩
        · rw [z0] at z; exact absurd z (by decide)
        · rw [z0] at z; exact absurd z (by decide)
        · rw [z0] at z; exact absurd z (by decide)
        · rw [z0] at z; exact absurd z (by decide)
        · rw [z0] at z; exact absurd z (by decide)
        · rw [z0] at z; exact absurd z (by decide)
        · rw [z0] at z; exact absurd z (by decide)
      have hva : g 2 a = 0 → ∀ w, w < 4 → g 3 a = nI w → kz g ma gi d a V = V w := by
        intro z0 w hw hg3
        cases d with
        | zero => exact absurd ha.2 (by omega)
        | succ d' =>
          show kzB g ma gi (kz g ma gi d') a V = V w
          simp [kzB, z0, hg3, nI_clamp (show w < 2 ^ 31 by omega)]
      have kN9 : ∀ y, m9 (kz g ma gi d a V &&& y) → ∀ v, v < 4 → m9 (kzN g a V (kz g ma gi d a V &&& y) v) := by
        intro y hx v hv
        unfold kzN
        by_cases h1 : g 2 a = 0
        · simp only [h1, if_true, upd]
          exact if_m9 hx (hV9 v hv)
        · simp only [h1, if_false]
          exact hV9 v hv
      -- one branch: from state R (frame e at stage t, result whole), set, branch
      have branch : ∀ (R : st_I) (t : Int32) (set y : Int32) (br : Nat), pr_c g n e br → fr r0 R → R 20 13 = nI (l + 1) → FJ l e t V R → R 36 (2 * l) = kz g ma gi d a V → kz g ma gi d a V &&& set = kz g ma gi d a V &&& y → (∀ r', fr r0 r' → r' 20 13 = nI (l + 1) → r' 20 18 = (if kz g ma gi d a V &&& y = 0 then 0 else kz g ma gi d br (kzN g a V (kz g ma gi d a V &&& y))) → blw (l + 1) R r' → r' 31 = cm (R 31) (if kz g ma gi d a V &&& y = 0 then [] else kt g ma gi d br (kzN g a V (kz g ma gi d a V &&& y))) → r' 32 = gv (R 32) (if kz g ma gi d a V &&& y = 0 then [] else kt g ma gi d br (kzN g a V (kz g ma gi d a V &&& y))) → ∃ n, wp_M_looked_L55 Q n r') → ∃ R1, (∃ n, wp_M_looked_L55 Q n R1) ∧ ∀ K : st_I → Prop, K R1 → wp_M_lookCase (nI e) (nI l) set (nI br) R K := by
        intro R t set y br hbr hR hRo hRJ hR36 hset hh
        have R22 : R 22 e = nI a := by rw [rd R hR 22 (by decide) (by decide), q4]
        have R21a : R 21 a = g 2 a := by rw [rd R hR 21 (by decide) (by decide), hsa]
        have R22a : R 22 a = r0 22 a := by rw [rd R hR 22 (by decide) (by decide)]
        have hvR : R 21 a = 0 → ∃ v, v < 4 ∧ R 22 a = nI v := by
          intro z; rw [R21a] at z; obtain ⟨w, hw, -, h3⟩ := hav z; exact ⟨w, hw, by rw [R22a, h3]⟩
        by_cases z : kz g ma gi d a V &&& y = 0
        · refine ⟨st_u R 20 18 0, ?_, fun K hK => ?_⟩
          · refine hh _ (fr_u hR _ _ _ (by omega)) (by simp [st_u, upd, hRo]) (by simp [st_u, upd, z]) (blw_u _ _ _ (by omega) (by omega) (by omega)) ?_ ?_
            · simp [st_u, z, cm]
            · simp [st_u, z, gv]
          · refine lcase (by omega) he9 (by have := ha.1; omega) hRo R22 hvR set (nI br) K (fun _ => hK) (fun w => ?_) (fun w => ?_)
            · rw [hR36, hset] at w; exact absurd z w
            · rw [hR36, hset] at w; exact absurd z w
        · by_cases za : g 2 a = 0
          · obtain ⟨w, hw4, hw3, hw22⟩ := hav za
            have hVw := hva za w hw4 hw3
            refine ⟨st_u (psh l (nI br) (st_u R 20 18 0)) 35 (4 * (l + 1) + w) (R 35 (4 * l + w) &&& set), ?_, fun K hK => ?_⟩
            · have hx : R 35 (4 * l + w) &&& set = kz g ma gi d a V &&& y := by rw [hRJ.2.2 w hw4, ← hVw, hset]
              rw [hx]
              have hN : kzN g a V (kz g ma gi d a V &&& y) = upd V w (kz g ma gi d a V &&& y) := by
                simp [kzN, za, hw3, nI_clamp (show w < 2 ^ 31 by omega)]
              rw [hN] at hh
              refine child R _ br (upd V w (kz g ma gi d a V &&& y)) hbr (fr_u (fr_psh (fr_u hR _ _ _ (by omega)) _ _) _ _ _ (by omega)) ?_ (FJ_pshu hw4 (by simpa [st_u] using hRJ.2.2)) ?_ ?_ ?_ ?_ (fun r' a1 a2 a3 a4 a5 a6 => ?_)
              · rw [su_o _ _ _ _ _ (by decide), psh_20]; simp
              · have := kN9 y (m9_an ka); rw [hN] at this; exact this
              · exact blw_tr (blw_u 20 18 0 (by omega) (by omega) (by omega)) (blw_tr (blw_psh _) (blw_u _ _ _ (by omega) (by omega) (by omega)))
              · rw [su_o _ _ _ _ _ (by decide), psh_o _ _ _ 31 (by decide) (by decide) (by decide) (by decide)]; simp [st_u]
              · rw [su_o _ _ _ _ _ (by decide), psh_o _ _ _ 32 (by decide) (by decide) (by decide) (by decide)]; simp [st_u]
              · exact hh r' a1 a2 (by simp [z, a3]) a4 (by simp [z, a5]) (by simp [z, a6])
            · refine lcase (by omega) he9 (by have := ha.1; omega) hRo R22 hvR set (nI br) K (fun w => ?_) (fun w w2 => ?_) (fun _ v hv _ hv2 => ?_)
              · rw [hR36, hset] at w; exact absurd w z
              · rw [R21a] at w2; exact absurd za w2
              · have : v = w := by
                  rw [R22a, hw22] at hv2
                  exact ((nI_eq (by omega) (by omega)).mp hv2).symm
                subst this; exact hK
          · have hN : kzN g a V (kz g ma gi d a V &&& y) = V := by simp [kzN, za]
            rw [hN] at hh
            refine ⟨psh l (nI br) (st_u R 20 18 0), ?_, fun K hK => ?_⟩
            · refine child R _ br V hbr (fr_psh (fr_u hR _ _ _ (by omega)) _ _) (by rw [psh_20]; simp) (FJ_psh (by simpa [st_u] using hRJ.2.2)) hV9 (blw_tr (blw_u 20 18 0 (by omega) (by omega) (by omega)) (blw_psh _)) ?_ ?_ (fun r' a1 a2 a3 a4 a5 a6 => ?_)
              · rw [psh_o _ _ _ 31 (by decide) (by decide) (by decide) (by decide)]; simp [st_u]
              · rw [psh_o _ _ _ 32 (by decide) (by decide) (by decide) (by decide)]; simp [st_u]
              · exact hh r' a1 a2 (by simp [z, a3]) a4 (by simp [z, a5]) (by simp [z, a6])
            · refine lcase (by omega) he9 (by have := ha.1; omega) hRo R22 hvR set (nI br) K (fun w => ?_) (fun _ _ => hK) (fun _ v hv w => ?_)
              · rw [hR36, hset] at w; exact absurd w z
              · rw [R21a] at w; exact absurd w za
      have step0 : (∃ n, wp_M_looked_L55 Q n (psh l (nI a) (st_u (st_u r 34 l 1) 36 (2 * l + 1) 511))) → ∃ n, wp_M_looked_L55 Q n r := by
        intro hh
        refine lk_go (by omega) ho hh (fun K hK => ?_)
        rw [lo_0 (by omega) he9 ho hw ht]
        refine l9_0a (by omega) he9 (by simp [st_u, ho]) ?_ K ?_
        · rw [hr21, hsort]; simp [h2]
        · simpa [st_u, hr22, q4] using hK
      refine step0 ?_
      refine child (st_u (st_u r 34 l 1) 36 (2 * l + 1) 511) _ a V ha (fr_psh (fr_u (fr_u hfr _ _ _ (by omega)) _ _ _ (by omega)) _ _) (by rw [psh_20]; simp) (FJ_psh (by simpa [st_u] using hVr)) hV9 (blw_psh _) (psh_o _ _ _ 31 (by decide) (by decide) (by decide) (by decide)) (psh_o _ _ _ 32 (by decide) (by decide) (by decide) (by decide)) (fun r1 f1 o1 b1 w1 c1 v1 => ?_)
      have J1 : FJ l e 1 V r1 := FJ_blw ⟨by simp [st_u, hw], by simp [st_u, upd], by simpa [st_u] using hVr⟩ w1
      obtain ⟨hw1, ht1, hVr1⟩ := J1
      have s21 : ∀ R, fr r0 R → R 21 e = 9 := fun R hR => by rw [rd R hR 21 (by decide) (by decide), hsort, h2]
      obtain ⟨R1, hR1, hK1⟩ := branch (st_u (st_u r1 34 l 2) 36 (2 * l) (r1 20 18)) 2 (g 3 e) (g 3 e) b hb (fr_u (fr_u f1 _ _ _ (by omega)) _ _ _ (by omega)) (by simp [st_u, o1]) ⟨by simp [st_u, hw1], by simp [st_u, upd], by simpa [st_u] using hVr1⟩ (by simp [st_u, upd, b1]) rfl (fun r2 f2 o2 b2 w2 c2 v2 => by
        have J2 : FJ l e 2 V r2 := FJ_blw ⟨by simp [st_u, hw1], by simp [st_u, upd], by simpa [st_u] using hVr1⟩ w2
        obtain ⟨hw2, ht2, hVr2⟩ := J2
        have x36 : r2 36 (2 * l) = kz g ma gi d a V := by
          rw [w2.2.2 (2 * l) (by omega)]; simp [st_u, upd, b1]
        obtain ⟨R2, hR2, hK2⟩ := branch (st_u (st_u r2 34 l 3) 36 (2 * l + 1) (r2 20 18)) 3 (511 &&& nm (g 3 e)) (nm (g 3 e)) c hc (fr_u (fr_u f2 _ _ _ (by omega)) _ _ _ (by omega)) (by simp [st_u, o2]) ⟨by simp [st_u, hw2], by simp [st_u, upd], by simpa [st_u] using hVr2⟩ (by simp [st_u, upd, x36]) nm5 (fun r3 f3 o3 b3 w3 c3 v3 => by
          have J3 : FJ l e 3 V r3 := FJ_blw ⟨by simp [st_u, hw2], by simp [st_u, upd], by simpa [st_u] using hVr2⟩ w3
          obtain ⟨hw3, ht3, hVr3⟩ := J3
          have y36 : r3 36 (2 * l + 1) = r2 20 18 := by
            rw [w3.2.2 (2 * l + 1) (by omega)]; simp [st_u, upd]
          have wb : blw l r (st_u (st_u r3 34 l 4) 36 (2 * l + 1) (r3 36 (2 * l + 1) ||| r3 20 18)) := by
            refine blw_tr (blw_u 34 l 1 (by omega) (by omega) (by omega)) (blw_tr (blw_u 36 (2 * l + 1) 511 (by omega) (by omega) (by omega)) (blw_tr (blw_mo (Nat.le_succ l) w1) (blw_tr (blw_u 34 l 2 (by omega) (by omega) (by omega)) (blw_tr (blw_u 36 (2 * l) (r1 20 18) (by omega) (by omega) (by omega)) (blw_tr (blw_mo (Nat.le_succ l) w2) (blw_tr (blw_u 34 l 3 (by omega) (by omega) (by omega)) (blw_tr (blw_u 36 (2 * l + 1) (r2 20 18) (by omega) (by omega) (by omega)) (blw_tr (blw_mo (Nat.le_succ l) w3) (blw_tr (blw_u 34 l 4 (by omega) (by omega) (by omega)) (blw_u 36 (2 * l + 1) _ (by omega) (by omega) (by omega)))))))))))
          refine lk_go (by omega) o3 (fin (st_u (st_u r3 34 l 4) 36 (2 * l + 1) (r3 36 (2 * l + 1) ||| r3 20 18)) _ (fr_u (fr_u f3 _ _ _ (by omega)) _ _ _ (by omega)) (by simp [st_u, o3]) wb ?_ ?_ hTB _ rfl) (fun K hK => ?_)
          · rw [cm_app, cm_app]
            simp only [su_o _ 36 _ _ 31 (by decide), su_o _ 34 _ _ 31 (by decide)] at c1 c2 c3 ⊢
            rw [c3, c2, c1]
          · rw [gv_app, gv_app]
            simp only [su_o _ 36 _ _ 32 (by decide), su_o _ 34 _ _ 32 (by decide)] at v1 v2 v3 ⊢
            rw [v3, v2, v1]
          · rw [lo_3 (by omega) he9 o3 hw3 ht3]
            have e21 : st_u (st_u r3 34 l 4) 36 (2 * l + 1) (r3 36 (2 * l + 1) ||| r3 20 18) 21 e = r3 21 e := by simp [st_u]
            rw [← e21]
            refine l9_3k (by omega) he9 (by rw [e21]; exact s21 r3 f3) K ?_
            have : st_u (st_u r3 34 l 4) 36 (2 * l + 1) (r3 36 (2 * l + 1) ||| r3 20 18) 36 (2 * l + 1) = kzB g ma gi (kz g ma gi d) e V := by
              rw [hZB, su_k, if_pos rfl, y36, b2, b3]
            rw [this]; exact hK)
        refine lk_go (by omega) o2 hR2 (fun K hK => ?_)
        rw [lo_2 (by omega) he9 o2 hw2 ht2]
        have e21 : st_u (st_u r2 34 l 3) 36 (2 * l + 1) (r2 20 18) 21 e = r2 21 e := by simp [st_u]
        rw [← e21]
        refine l9_2k (by omega) he9 (by rw [e21]; exact s21 r2 f2) K ?_
        have e23 : st_u (st_u r2 34 l 3) 36 (2 * l + 1) (r2 20 18) 23 e = g 3 e := by simp [st_u, rd r2 f2 23 (by decide) (by decide), q3, h3]
        have e25 : st_u (st_u r2 34 l 3) 36 (2 * l + 1) (r2 20 18) 25 e = nI c := by simp [st_u, rd r2 f2 25 (by decide) (by decide), q6]
        rw [e23, e25]
        exact hK2 K hK)
      refine lk_go (by omega) o1 hR1 (fun K hK => ?_)
      rw [lo_1 (by omega) he9 o1 hw1 ht1]
      have e21 : st_u (st_u r1 34 l 2) 36 (2 * l) (r1 20 18) 21 e = r1 21 e := by simp [st_u]
      rw [← e21]
      refine l9_1k (by omega) he9 (by rw [e21]; exact s21 r1 f1) K ?_
      have e23 : st_u (st_u r1 34 l 2) 36 (2 * l) (r1 20 18) 23 e = g 3 e := by simp [st_u, rd r1 f1 23 (by decide) (by decide), q3, h3]
      have e24 : st_u (st_u r1 34 l 2) 36 (2 * l) (r1 20 18) 24 e = nI b := by simp [st_u, rd r1 f1 24 (by decide) (by decide), q5]
      rw [e23, e24]
      exact hK1 K hK
    · -- call
      have cf : (nI f).toNatClampNeg = f := nI_clamp (by omega)
      have hM := hma f hf
      have hG := hgi f hf
      have s21 : ∀ R, fr r0 R → R 21 e = 10 := fun R hR => by rw [rd R hR 21 (by decide) (by decide), hsort, h2]
      have s22 : ∀ R, fr r0 R → R 22 e = nI f := fun R hR => by rw [rd R hR 22 (by decide) (by decide), q3]
      have step0 : (∃ n, wp_M_looked_L55 Q n (psh l (nI a) (st_u (st_u r 34 l 1) 36 (2 * l + 1) 511))) → ∃ n, wp_M_looked_L55 Q n r := by
        intro hh
        refine lk_go (by omega) ho hh (fun K hK => ?_)
        rw [lo_0 (by omega) he9 ho hw ht]
        refine l9_0b (by omega) he9 (by simp [st_u, ho]) ?_ K ?_
        · rw [hr21, hsort]; simp [h2]
        · simpa [st_u, rd r hfr 23 (by decide) (by decide), q4] using hK
      refine step0 ?_
      refine child (st_u (st_u r 34 l 1) 36 (2 * l + 1) 511) _ a V ha (fr_psh (fr_u (fr_u hfr _ _ _ (by omega)) _ _ _ (by omega)) _ _) (by rw [psh_20]; simp) (FJ_psh (by simpa [st_u] using hVr)) hV9 (blw_psh _) (psh_o _ _ _ 31 (by decide) (by decide) (by decide) (by decide)) (psh_o _ _ _ 32 (by decide) (by decide) (by decide) (by decide)) (fun r1 f1 o1 b1 w1 c1 v1 => ?_)
      have J1 : FJ l e 1 V r1 := FJ_blw ⟨by simp [st_u, hw], by simp [st_u, upd], by simpa [st_u] using hVr⟩ w1
      obtain ⟨hw1, ht1, hVr1⟩ := J1
      have wb1 : blw l r (st_u (st_u r1 34 l 2) 36 (2 * l) (r1 20 18)) := by
        refine blw_tr (blw_u 34 l 1 (by omega) (by omega) (by omega)) (blw_tr (blw_u 36 (2 * l + 1) 511 (by omega) (by omega) (by omega)) (blw_tr (blw_mo (Nat.le_succ l) w1) (blw_tr (blw_u 34 l 2 (by omega) (by omega) (by omega)) (blw_u 36 (2 * l) (r1 20 18) (by omega) (by omega) (by omega)))))
      have e21 : st_u (st_u r1 34 l 2) 36 (2 * l) (r1 20 18) 21 e = r1 21 e := by simp [st_u]
      have e22 : st_u (st_u r1 34 l 2) 36 (2 * l) (r1 20 18) 22 e = nI f := by simp [st_u, s22 r1 f1]
      have e36 : st_u (st_u r1 34 l 2) 36 (2 * l) (r1 20 18) 36 (2 * l) = kz g ma gi d a V := by simp [st_u, upd, b1]
      have e29 : ∀ R, fr r0 R → R 29 (2 * f) = ma (2 * f) := fun R hR => by rw [rd R hR 29 (by decide) (by decide), hM.1]
      have e30 : ∀ R, fr r0 R → R 30 f = gi f := fun R hR => by rw [rd R hR 30 (by decide) (by decide), hG]
      by_cases z3 : 3 ≤ f
      · rcases hb with hb | ⟨b, hb, h5, q5⟩
        · exact absurd z3 (by omega)
        · have e24 : st_u (st_u r1 34 l 2) 36 (2 * l) (r1 20 18) 24 e = nI b := by simp [st_u, rd r1 f1 24 (by decide) (by decide), q5]
          have step1 : (∃ n, wp_M_looked_L55 Q n (psh l (nI b) (st_u (st_u r1 34 l 2) 36 (2 * l) (r1 20 18)))) → ∃ n, wp_M_looked_L55 Q n r1 := by
            intro hh
            refine lk_go (by omega) o1 hh (fun K hK => ?_)
            rw [lo_1 (by omega) he9 o1 hw1 ht1, ← e21]
            exact l9_1c (by omega) he9 hf (by simp [st_u, o1]) (by rw [e21]; exact s21 r1 f1) e22 K (fun z => absurd z3 z) (fun _ => by rw [e24]; exact hK)
          refine step1 ?_
          refine child (st_u (st_u r1 34 l 2) 36 (2 * l) (r1 20 18)) _ b V hb (fr_psh (fr_u (fr_u f1 _ _ _ (by omega)) _ _ _ (by omega)) _ _) (by rw [psh_20]; simp) (FJ_psh (by simpa [st_u] using hVr1)) hV9 (blw_psh _) (psh_o _ _ _ 31 (by decide) (by decide) (by decide) (by decide)) (psh_o _ _ _ 32 (by decide) (by decide) (by decide) (by decide)) (fun r2 f2 o2 b2 w2 c2 v2 => ?_)
          have J2 : FJ l e 2 V r2 := FJ_blw ⟨by simp [st_u, hw1], by simp [st_u, upd], by simpa [st_u] using hVr1⟩ w2
          obtain ⟨hw2, ht2, hVr2⟩ := J2
          have x36 : r2 36 (2 * l) = kz g ma gi d a V := by
            rw [w2.2.2 (2 * l) (by omega)]; simp [st_u, upd, b1]
          have wb : blw l r (st_u (st_u r2 34 l 3) 36 (2 * l + 1) (r2 20 18)) :=
            blw_tr wb1 (blw_tr (blw_mo (Nat.le_succ l) w2) (blw_tr (blw_u 34 l 3 (by omega) (by omega) (by omega)) (blw_u 36 (2 * l + 1) (r2 20 18) (by omega) (by omega) (by omega))))
          refine lk_go (by omega) o2 (fin (st_u (st_u r2 34 l 3) 36 (2 * l + 1) (r2 20 18)) (kt g ma gi d a V ++ kt g ma gi d b V) (fr_u (fr_u f2 _ _ _ (by omega)) _ _ _ (by omega)) (by simp [st_u, o2]) wb ?_ ?_ ?_ _ rfl) (fun K hK => ?_)
          · rw [cm_app]; simp [st_u] at c1 c2 ⊢; rw [c2, c1]
          · rw [gv_app]; simp [st_u] at v1 v2 ⊢; rw [v2, v1]
          · simp [ktB, h2, h3, h4, h5, cl a ha.1, cl b hb.1, cf, z3]
          · rw [lo_2 (by omega) he9 o2 hw2 ht2]
            have f2' : fr r0 (st_u (st_u r2 34 l 3) 36 (2 * l + 1) (r2 20 18)) := fr_u (fr_u f2 _ _ _ (by omega)) _ _ _ (by omega)
            have g21 : st_u (st_u r2 34 l 3) 36 (2 * l + 1) (r2 20 18) 21 e = r2 21 e := by simp [st_u]
            have ex : st_u (st_u r2 34 l 3) 36 (2 * l + 1) (r2 20 18) 36 (2 * l) = kz g ma gi d a V := by simp [st_u, upd, x36]
            have ey : st_u (st_u r2 34 l 3) 36 (2 * l + 1) (r2 20 18) 36 (2 * l + 1) = kz g ma gi d b V := by simp [st_u, upd, b2]
            rw [← g21]
            refine l9_2c (by omega) he9 hf (by rw [g21]; exact s21 r2 f2) (s22 _ f2') K ?_
            rw [ex, ey, e29 _ f2', e30 _ f2', rd _ f2' 29 (by decide) (by decide), hM.2 z3]
            have : (if kz g ma gi d a V &&& ma (2 * f) = 0 then 0 else if 3 ≤ f then (if kz g ma gi d b V &&& ma (2 * f + 1) = 0 then 0 else gi f) else gi f) = kzB g ma gi (kz g ma gi d) e V := by
              simp [kzB, h2, h3, h4, h5, cl a ha.1, cl b hb.1, cf]
            rw [this]; exact hK
      · refine lk_go (by omega) o1 (fin (st_u (st_u r1 34 l 2) 36 (2 * l) (r1 20 18)) (kt g ma gi d a V) (fr_u (fr_u f1 _ _ _ (by omega)) _ _ _ (by omega)) (by simp [st_u, o1]) wb1 ?_ ?_ ?_ _ rfl) (fun K hK => ?_)
        · simp [st_u] at c1 ⊢; rw [c1]
        · simp [st_u] at v1 ⊢; rw [v1]
        · simp [ktB, h2, h3, h4, cl a ha.1, cf, z3]
        · rw [lo_1 (by omega) he9 o1 hw1 ht1, ← e21]
          have f1' : fr r0 (st_u (st_u r1 34 l 2) 36 (2 * l) (r1 20 18)) := fr_u (fr_u f1 _ _ _ (by omega)) _ _ _ (by omega)
          refine l9_1c (by omega) he9 hf (by simp [st_u, o1]) (by rw [e21]; exact s21 r1 f1) e22 K (fun _ => ?_) (fun z => absurd z z3)
          rw [e36, e29 _ f1', e30 _ f1']
          have : (if kz g ma gi d a V &&& ma (2 * f) = 0 then 0 else gi f) = kzB g ma gi (kz g ma gi d) e V := by
            simp [kzB, h2, h3, h4, cl a ha.1, cf, z3]
          rw [this]; exact hK
    · -- let
      have hv4 : v < 4 := by omega
      have cv : (nI v).toNatClampNeg = v := nI_clamp (by omega)
      have ka := hk9 a V ha.1 hV9
      have s21 : ∀ R, fr r0 R → R 21 e = 11 := fun R hR => by rw [rd R hR 21 (by decide) (by decide), hsort, h2]
      have s22 : ∀ R, fr r0 R → R 22 e = nI v := fun R hR => by rw [rd R hR 22 (by decide) (by decide), q3]
      have step0 : (∃ n, wp_M_looked_L55 Q n (psh l (nI a) (st_u (st_u r 34 l 1) 36 (2 * l + 1) 511))) → ∃ n, wp_M_looked_L55 Q n r := by
        intro hh
        refine lk_go (by omega) ho hh (fun K hK => ?_)
        rw [lo_0 (by omega) he9 ho hw ht]
        refine l9_0b (by omega) he9 (by simp [st_u, ho]) ?_ K ?_
        · rw [hr21, hsort]; simp [h2]
        · simpa [st_u, rd r hfr 23 (by decide) (by decide), q4] using hK
      refine step0 ?_
      refine child (st_u (st_u r 34 l 1) 36 (2 * l + 1) 511) _ a V ha (fr_psh (fr_u (fr_u hfr _ _ _ (by omega)) _ _ _ (by omega)) _ _) (by rw [psh_20]; simp) (FJ_psh (by simpa [st_u] using hVr)) hV9 (blw_psh _) (psh_o _ _ _ 31 (by decide) (by decide) (by decide) (by decide)) (psh_o _ _ _ 32 (by decide) (by decide) (by decide) (by decide)) (fun r1 f1 o1 b1 w1 c1 v1 => ?_)
      have J1 : FJ l e 1 V r1 := FJ_blw ⟨by simp [st_u, hw], by simp [st_u, upd], by simpa [st_u] using hVr⟩ w1
      obtain ⟨hw1, ht1, hVr1⟩ := J1
      have wb1 : blw l r (st_u (st_u r1 34 l 2) 36 (2 * l) (r1 20 18)) := by
        refine blw_tr (blw_u 34 l 1 (by omega) (by omega) (by omega)) (blw_tr (blw_u 36 (2 * l + 1) 511 (by omega) (by omega) (by omega)) (blw_tr (blw_mo (Nat.le_succ l) w1) (blw_tr (blw_u 34 l 2 (by omega) (by omega) (by omega)) (blw_u 36 (2 * l) (r1 20 18) (by omega) (by omega) (by omega)))))
      have f1' : fr r0 (st_u (st_u r1 34 l 2) 36 (2 * l) (r1 20 18)) := fr_u (fr_u f1 _ _ _ (by omega)) _ _ _ (by omega)
      have e21 : st_u (st_u r1 34 l 2) 36 (2 * l) (r1 20 18) 21 e = r1 21 e := by simp [st_u]
      have e36 : st_u (st_u r1 34 l 2) 36 (2 * l) (r1 20 18) 36 (2 * l) = kz g ma gi d a V := by simp [st_u, upd, b1]
      have e24 : st_u (st_u r1 34 l 2) 36 (2 * l) (r1 20 18) 24 e = nI b := by simp [st_u, rd r1 f1 24 (by decide) (by decide), q5]
      have J1' : FJ l e 2 V (st_u (st_u r1 34 l 2) 36 (2 * l) (r1 20 18)) := ⟨by simp [st_u, hw1], by simp [st_u, upd], by simpa [st_u] using hVr1⟩
      -- from the frame at stage 2 to the end
      have last : ∀ r2 T, fr r0 r2 → r2 20 13 = nI (l + 1) → blw (l + 1) (st_u (st_u r1 34 l 2) 36 (2 * l) (r1 20 18)) r2 → r2 31 = cm (r1 31) T → r2 32 = gv (r1 32) T → ktB g (kz g ma gi d) (kt g ma gi d) e V = kt g ma gi d a V ++ T → r2 20 18 = kzB g ma gi (kz g ma gi d) e V → ∃ n, wp_M_looked_L55 Q n r2 := by
        intro r2 T f2 o2 w2 c2 v2 hT hx
        obtain ⟨hw2, ht2, hVr2⟩ := FJ_blw J1' w2
        have wb : blw l r (st_u (st_u r2 34 l 3) 36 (2 * l + 1) (r2 20 18)) :=
          blw_tr wb1 (blw_tr (blw_mo (Nat.le_succ l) w2) (blw_tr (blw_u 34 l 3 (by omega) (by omega) (by omega)) (blw_u 36 (2 * l + 1) (r2 20 18) (by omega) (by omega) (by omega))))
        refine lk_go (by omega) o2 (fin (st_u (st_u r2 34 l 3) 36 (2 * l + 1) (r2 20 18)) (kt g ma gi d a V ++ T) (fr_u (fr_u f2 _ _ _ (by omega)) _ _ _ (by omega)) (by simp [st_u, o2]) wb ?_ ?_ hT _ rfl) (fun K hK => ?_)
        · rw [cm_app]; simp [st_u] at c1 c2 ⊢; rw [c2, c1]
        · rw [gv_app]; simp [st_u] at v1 v2 ⊢; rw [v2, v1]
        · rw [lo_2 (by omega) he9 o2 hw2 ht2]
          have g21 : st_u (st_u r2 34 l 3) 36 (2 * l + 1) (r2 20 18) 21 e = r2 21 e := by simp [st_u]
          have ey : st_u (st_u r2 34 l 3) 36 (2 * l + 1) (r2 20 18) 36 (2 * l + 1) = kzB g ma gi (kz g ma gi d) e V := by simp [st_u, upd, hx]
          rw [← g21]
          refine l9_2l (by omega) he9 (by rw [g21]; exact s21 r2 f2) K ?_
          rw [ey]; exact hK
      by_cases z : kz g ma gi d a V = 0
      · refine lk_go (by omega) o1 (r' := st_u (st_u (st_u r1 34 l 2) 36 (2 * l) (r1 20 18)) 20 18 0) (last _ [] (fr_u f1' _ _ _ (by omega)) (by simp [st_u, upd, o1]) (blw_u _ _ _ (by omega) (by omega) (by omega)) (by simp [st_u, cm]) (by simp [st_u, gv]) ?_ ?_) (fun K hK => ?_)
        · simp [ktB, h2, h4, cl a ha.1, z]
        · simp [kzB, h2, h4, cl a ha.1, z, st_u, upd]
        · rw [lo_1 (by omega) he9 o1 hw1 ht1, ← e21]
          exact l9_1l (by omega) he9 hv4 (by simp [st_u, o1]) (by rw [e21]; exact s21 r1 f1) (s22 _ f1') K (fun _ => hK) (fun w => absurd (e36.trans z) w)
      · refine lk_go (by omega) o1 (r' := st_u (psh l (nI b) (st_u (st_u (st_u r1 34 l 2) 36 (2 * l) (r1 20 18)) 20 18 0)) 35 (4 * (l + 1) + v) (kz g ma gi d a V)) ?_ (fun K hK => ?_)
        · refine child (st_u (st_u r1 34 l 2) 36 (2 * l) (r1 20 18)) _ b (upd V v (kz g ma gi d a V)) hb (fr_u (fr_psh (fr_u f1' _ _ _ (by omega)) _ _) _ _ _ (by omega)) ?_ (FJ_pshu hv4 (by simpa [st_u] using hVr1)) ?_ ?_ ?_ ?_ (fun r2 a1 a2 a3 a4 a5 a6 => ?_)
          · rw [su_o _ _ _ _ _ (by decide), psh_20]; simp
          · intro w hw; simp only [upd]; exact if_m9 ka (hV9 w hw)
          · exact blw_tr (blw_u 20 18 0 (by omega) (by omega) (by omega)) (blw_tr (blw_psh _) (blw_u _ _ _ (by omega) (by omega) (by omega)))
          · rw [su_o _ _ _ _ _ (by decide), psh_o _ _ _ 31 (by decide) (by decide) (by decide) (by decide)]; simp [st_u]
          · rw [su_o _ _ _ _ _ (by decide), psh_o _ _ _ 32 (by decide) (by decide) (by decide) (by decide)]; simp [st_u]
          · refine last r2 (kt g ma gi d b (upd V v (kz g ma gi d a V))) a1 a2 a4 (by simpa [st_u] using a5) (by simpa [st_u] using a6) ?_ ?_
            · simp [ktB, h2, h3, h4, h5, cl a ha.1, cl b hb.1, cv, z]
            · rw [a3]; simp [kzB, h2, h3, h4, h5, cl a ha.1, cl b hb.1, cv, z]
        · rw [lo_1 (by omega) he9 o1 hw1 ht1, ← e21]
          refine l9_1l (by omega) he9 hv4 (by simp [st_u, o1]) (by rw [e21]; exact s21 r1 f1) (s22 _ f1') K (fun w => absurd w (by rw [e36]; exact z)) (fun _ => ?_)
          rw [e24, e36]; exact hK
