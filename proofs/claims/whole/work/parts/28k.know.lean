theorem rx_look0 (c : Int32) (r : st_I) (ho : r 20 13 = 0) (Q : st_I → Prop) (h : Q (st_u (st_u (st_u r 33 0 c) 34 0 0) 20 13 1)) : wp_M_look c r Q := by
  have c0 : (0 : Int32).toNatClampNeg = 0 := rfl
  have v0 : vp_in (0 : Int32) 64 := vp_in_nI (n := 0) (by omega) (by omega)
  unfold wp_M_look
  simp only [ho, c0, v0, true_and]
  refine ⟨1, ?_⟩
  have e : st_u (st_u r 33 0 c) 34 0 0 20 13 = 0 := by simp [st_u, ho]
  rw [wp_M_look_L22]
  simp only [e, wp_M_look_L68]
  refine ⟨fun z => absurd z (by decide), fun _ => ⟨fun _ => ?_, fun z => absurd (by decide) z⟩⟩
  exact h
theorem fr_rf (r : st_I) : fr r r := ⟨fun _ _ _ => rfl, fun _ _ _ => rfl⟩
theorem fr_tr {r r1 r2 : st_I} (h : fr r r1) (k : fr r1 r2) : fr r r2 := ⟨fun a h1 h2 => (k.1 a h1 h2).trans (h.1 a h1 h2), fun j h1 h2 => (k.2 j h1 h2).trans (h.2 j h1 h2)⟩
theorem rlooked {g r : st_I} {n : Nat} (hp : pr_all g r n) {ma gi : Nat → Int32} (hma : ∀ f, f < 6 → r 29 (2 * f) = ma (2 * f) ∧ (3 ≤ f → r 29 (2 * f + 1) = ma (2 * f + 1))) (hgi : ∀ f, f < 6 → r 30 f = gi f) (hm9 : ∀ f, f < 6 → m9 (gi f)) {f e : Nat} (hf : f < 6) (he : e < n) (hbe : r 28 f = nI e) (x y : Int32) (V : Nat → Int32) (h0 : V 0 = x) (h1 : V 1 = if 3 ≤ f then y else 0) (h2 : V 2 = 0) (h3 : V 3 = 0) (hV9 : ∀ v, v < 4 → m9 (V v)) (Q : Int32 → st_I → Prop) (h : ∀ r', fr r r' → r' 31 = cm (r 31) (kt g ma gi 7 e V) → r' 32 = gv (r 32) (kt g ma gi 7 e V) → Q (kz g ma gi 7 e V) r') : wp_M_looked (nI f) x y r Q := by
  have cf : (nI f).toNatClampNeg = f := nI_clamp (by omega)
  have vf : vp_in (nI f) 6 := vp_in_nI hf (by omega)
  have i0 : vp_in (0 : Int32) 256 := vp_in_nI (n := 0) (by omega) (by omega)
  have i1 : vp_in (1 : Int32) 256 := vp_in_nI (n := 1) (by omega) (by omega)
  have i2 : vp_in (2 : Int32) 256 := vp_in_nI (n := 2) (by omega) (by omega)
  have i3 : vp_in (3 : Int32) 256 := vp_in_nI (n := 3) (by omega) (by omega)
  have n0 : (0 : Int32).toNatClampNeg = 0 := rfl
  have n1 : (1 : Int32).toNatClampNeg = 1 := rfl
  have n2 : (2 : Int32).toNatClampNeg = 2 := rfl
  have n3 : (3 : Int32).toNatClampNeg = 3 := rfl
  have le3 : ((3 : Int32) ≤ nI f) ↔ 3 ≤ f := nI_leI (a := 3) (by omega) (by omega)
  obtain ⟨-, ⟨dd, hdd, h7, -⟩, -⟩ := hp.2.2.2 e he
  have hd : (g 7 e).toNatClampNeg ≤ 5 := by rw [h7, nI_clamp (by omega)]; omega
  simp only [wp_M_looked, wp_M_looked_L40, cf, vf, true_and, hbe, n0, n1, n2, n3, i0, i1, i2, i3]
  refine rx_look0 _ _ (by simp [st_u, upd]) _ ?_
  simp only [rx_pms, le3]
  have go : ∀ y', V 1 = y' → ∃ n55, wp_M_looked_L55 Q n55 (st_u (st_u (st_u (st_u (st_u (st_u (st_u (st_u r 20 13 0) 33 0 (nI e)) 34 0 0) 20 13 1) 35 0 x) 35 1 y') 35 2 0) 35 3 0) := by
    intro y' hy'
    refine lk hp hma hgi hm9 Q 7 e 0 V _ he (by omega) (by omega) hV9 ?_ ?_ ?_ (fun r' a1 a2 a3 a4 a5 a6 => ?_)
    · refine fr_u (fr_u (fr_u (fr_u (fr_u (fr_u (fr_u (fr_u (fr_rf r) _ _ _ ?_) _ _ _ ?_) _ _ _ ?_) _ _ _ ?_) _ _ _ ?_) _ _ _ ?_) _ _ _ ?_) _ _ _ ?_ <;> omega
    · simp [st_u, upd]; rfl
    · refine ⟨by simp [st_u, upd], by simp [st_u, upd], fun v hv => ?_⟩
      have : v = 0 ∨ v = 1 ∨ v = 2 ∨ v = 3 := by omega
      rcases this with rfl | rfl | rfl | rfl
      · simp [st_u, upd, h0]
      · simp [st_u, upd, hy']
      · simp [st_u, upd, h2]
      · simp [st_u, upd, h3]
    · refine ⟨1, ?_⟩
      refine ⟨fun _ => ?_, fun z => absurd (by rw [a2]; decide) z⟩
      rw [a3]
      refine h r' a1 ?_ ?_
      · rw [a5]; simp [st_u]
      · rw [a6]; simp [st_u]
  by_cases z : 3 ≤ f
  · simp only [z, true_imp_iff, not_true, false_imp_iff, and_true]
    refine ⟨fun _ => go y (by rw [h1]; simp [z]), fun w => absurd w (by decide)⟩
  · simp only [z, false_imp_iff, not_false_eq_true, true_imp_iff, true_and]
    exact ⟨fun w => absurd trivial w, go 0 (by rw [h1]; simp [z])⟩
def rfr (r0 r : st_I) : Prop := (∀ k, k ≠ 20 → (k < 29 ∨ 36 < k) → r k = r0 k) ∧ ∀ j, j ≠ 13 → j ≠ 18 → r 20 j = r0 20 j
theorem rfr_tr {r r1 r2 : st_I} (h : rfr r r1) (k : rfr r1 r2) : rfr r r2 := ⟨fun a h1 h2 => (k.1 a h1 h2).trans (h.1 a h1 h2), fun j h1 h2 => (k.2 j h1 h2).trans (h.2 j h1 h2)⟩
theorem rfr_rf (r : st_I) : rfr r r := ⟨fun _ _ _ => rfl, fun _ _ _ => rfl⟩
theorem fr_rfr {r r1 : st_I} (h : fr r r1) : rfr r r1 := ⟨fun k h1 h2 => h.1 k h1 (by omega), h.2⟩
theorem rfr_u (r : st_I) (k i : Nat) (x : Int32) (hk : k = 29 ∨ k = 30) : rfr r (st_u r k i x) := by
  refine ⟨fun k' h1 h2 => su_o _ _ _ _ _ (by omega), fun j _ _ => ?_⟩
  rw [su_o _ _ _ _ _ (by omega)]
theorem pr_rfr {g r r' : st_I} {n : Nat} (hp : pr_all g r n) (h : rfr r r') : pr_all g r' n := by
  obtain ⟨a1, a2, a3, a4⟩ := hp
  have c : ∀ k, 20 < k → k < 29 → r' k = r k := fun k h1 h2 => h.1 k (by omega) (Or.inl h2)
  refine ⟨a1, a2, by rw [h.2 0 (by decide) (by decide)]; exact a3, fun e he => ?_⟩
  obtain ⟨b1, b2, b3, b4⟩ := a4 e he
  unfold pr_row at b4 ⊢
  rw [c 21 (by decide) (by decide), c 22 (by decide) (by decide), c 23 (by decide) (by decide), c 24 (by decide) (by decide), c 25 (by decide) (by decide), c 26 (by decide) (by decide), c 27 (by decide) (by decide)]
  exact ⟨b1, b2, b3, b4⟩
theorem bod_rfr {g r r' : st_I} {n : Nat} (hb : bod g r n) (h : rfr r r') : bod g r' n := by
  unfold bod at *
  rw [h.1 28 (by decide) (by decide)]
  exact hb
theorem ri_none {g : st_I} {ma gi : Nat → Int32} {c0 f : Nat} {b : Prop} (h : ri g c0 f f 0 ma gi b) (h9 : g 9 f = -1) : ri g c0 (f + 1) (f + 1) 0 ma gi b := by
  obtain ⟨h1, h2, h3, h4⟩ := h
  refine ⟨h1, h2, h3, fun z => ⟨fun f' hf' hF => ?_, fun f' i' hf' hi' hz k hk hne => ?_⟩⟩
  · rcases Nat.lt_or_ge f' f with w | w
    · exact (h4 z).1 f' hf' w
    · have : f' = f := by omega
      subst this
      simp only [fG, h9, if_true]; exact lb_z _
  · by_cases w : f' < f
    · exact (h4 z).2 f' i' hf' hi' (Or.inl w) k hk hne
    · have : f' = f := by omega
      subst this
      simp only [fK, h9, if_true] at hne
      exact absurd trivial hne
theorem l53 {g r : st_I} {n : Nat} (hp : pr_all g r n) (hb : bod g r n) {f e i : Nat} (hf : f < 6) (he : e < n) (hi : i < pmn f) (hbe : g 9 f = nI e) (hrb : r 28 f = nI e) (hm9 : ∀ f, f < 6 → m9 (r 30 f)) (Q : Int32 → st_I → Prop) (H38 : st_I → Int32 → Int32 → Int32 → Prop) (v3 : Int32) (h : ∀ r' m, fr r r' → (∀ k, k < 32 → (bt m k = true ↔ k < 9 ∧ ¬ fK g (r 29) (r 30) f i k = 0)) → (¬ v3 = 0 → H38 (st_u r' 29 (2 * f + i) m) (nI f) 1 (nI (i + 1))) ∧ (v3 = 0 → (m = r 29 (2 * f + i) → H38 (st_u r' 29 (2 * f + i) m) (nI f) 0 (nI (i + 1))) ∧ (¬ m = r 29 (2 * f + i) → H38 (st_u r' 29 (2 * f + i) m) (nI f) 1 (nI (i + 1))))) : ∀ j k, j + k = 9 → ∀ r' m, fr r r' → (∀ k', k' < 32 → (bt m k' = true ↔ k' < k ∧ ¬ fK g (r 29) (r 30) f i k' = 0)) → wp_M_learn_L53 Q H38 (j + 1) r' (nI f) v3 (nI i) m (nI k) := by
  have hi2 : i < 2 := by unfold pmn at hi; split at hi <;> omega
  have cp : (nI (2 * f + i)).toNatClampNeg = 2 * f + i := nI_clamp (by omega)
  have vp : vp_in (nI (2 * f + i)) 12 := vp_in_nI (by omega) (by omega)
  have m2 : (2 : Int32) * nI f + nI i = nI (2 * f + i) := by rw [show (2 : Int32) * nI f = nI (2 * f) from pk_mul 2 f, nI_add]
  have hne1 := n1_ne hp.1 he
  intro j
  induction j with
  | zero =>
    intro k hk r' m hfr hm
    have k9 : k = 9 := by omega
    subst k9
    have h9 : (9 : Int32) ≤ nI 9 := by decide
    rw [wp_M_learn_L53]
    simp only [h9, not_true, false_imp_iff, true_imp_iff, and_true, wp_M_learn_L138, wp_M_learn_L143, m2, cp, vp, true_and, nI_1, hfr.1 29 (by decide) (by decide)]
    exact h r' m hfr hm
  | succ j ih =>
    intro k hk r' m hfr hm
    have h9 : ¬ (9 : Int32) ≤ nI k := by rw [zl_9]; exact nI_ge (by omega) (by omega)
    rw [wp_M_learn_L53]
    simp only [h9, not_false_eq_true, false_imp_iff, true_imp_iff, true_and, wp_M_learn_L79, wp_M_learn_L95, wp_M_learn_L109, nI_1]
    have hp' := pr_rfr hp (fr_rfr hfr)
    have r29 := hfr.1 29 (by decide) (by decide)
    have r30 := hfr.1 30 (by decide) (by decide)
    have hrb' : r' 28 f = nI e := by rw [hfr.1 28 (by decide) (by decide)]; exact hrb
    have z511 := m9_c.2.2.2.2.1
    have zk := m9_k k (by omega)
    have call : ∀ x y, (x = if i = 0 then (1 : Int32) <<< (nI k &&& 31) else 511) → (y = if i = 1 then (1 : Int32) <<< (nI k &&& 31) else 511) → wp_M_looked (nI f) x y r' (fun x95 u95 => (x95 = 0 → wp_M_learn_L53 Q H38 (j + 1) u95 (nI f) v3 (nI i) (m ||| 0) (nI (k + 1))) ∧ (¬ x95 = 0 → wp_M_learn_L53 Q H38 (j + 1) u95 (nI f) v3 (nI i) (m ||| 1 <<< (nI k &&& 31)) (nI (k + 1)))) := by
      intro x y hx hy
      refine rlooked hp' (ma := r 29) (gi := r 30) (fun f _ => by rw [r29]; exact ⟨rfl, fun _ => rfl⟩) (fun f _ => by rw [r30]) hm9 hf he hrb' x y (upd (va f) i ((1 : Int32) <<< (nI k &&& 31))) ?_ ?_ ?_ ?_ ?_ _ (fun r2 a1 _ _ => ?_)
      · rw [hx]
        by_cases z : i = 0
        · simp [upd, z]
        · have : ¬ 0 = i := by omega
          simp [upd, z, this, va]
      · rw [hy]
        by_cases z : i = 1
        · subst z
          have : 3 ≤ f := by unfold pmn at hi; split at hi <;> omega
          simp [upd, this]
        · have z0 : i = 0 := by omega
          subst z0
          simp [upd, va]
      · have : ¬ 2 = i := by omega
        simp [upd, this, va]
      · have : ¬ 3 = i := by omega
        simp [upd, this, va]
      · intro v hv
        simp only [upd]
        exact if_m9 zk (va_m9 f v)
      · have hF : kz g (r 29) (r 30) 7 e (upd (va f) i ((1 : Int32) <<< (nI k &&& 31))) = fK g (r 29) (r 30) f i k := by
          unfold fK
          rw [hbe, if_neg hne1, nI_clamp (by have := hp.1; omega)]
        rw [hF]
        refine ⟨fun z => ?_, fun z => ?_⟩
        · refine ih (k + 1) (by omega) r2 (m ||| 0) (fr_tr hfr a1) (fun k' hk' => ?_)
          rw [b_or, b_0, Bool.or_false, hm k' hk']
          constructor
          · rintro ⟨w1, w2⟩; exact ⟨by omega, w2⟩
          · rintro ⟨w1, w2⟩
            refine ⟨?_, w2⟩
            rcases Nat.lt_or_ge k' k with w | w
            · exact w
            · have : k' = k := by omega
              subst this; exact absurd z w2
        · refine ih (k + 1) (by omega) r2 _ (fr_tr hfr a1) (fun k' hk' => ?_)
          rw [b_or, b_k k (by omega) hk', Bool.or_eq_true, hm k' hk', decide_eq_true_eq]
          constructor
          · rintro (⟨w1, w2⟩ | w)
            · exact ⟨by omega, w2⟩
            · subst w; exact ⟨by omega, z⟩
          · rintro ⟨w1, w2⟩
            rcases Nat.lt_or_ge k' k with w | w
            · exact Or.inl ⟨w, w2⟩
            · exact Or.inr (by omega)
    have : i = 0 ∨ i = 1 := by omega
    rcases this with rfl | rfl
    · have e0 : nI 0 = 0 := rfl
      simp only [e0, not_true, false_imp_iff, true_imp_iff, true_and, show ¬ (0 : Int32) = 1 from by decide, not_false_eq_true, and_true]
      exact call _ _ (by simp) (by simp)
    · have e0 : nI 1 = 1 := rfl
      simp only [e0, not_true, false_imp_iff, true_imp_iff, true_and, show ¬ (1 : Int32) = 0 from by decide, not_false_eq_true, and_true]
      exact call _ _ (by simp) (by simp)
theorem l38 {g r0 : st_I} {n : Nat} (hp0 : pr_all g r0 n) (hb0 : bod g r0 n) {f e c0 : Nat} (hf : f < 6) (he : e < n) (hbe : g 9 f = nI e) (hrb : r0 28 f = nI e) (Q : Int32 → st_I → Prop) (B : Prop) (h : ∀ r' x, rfr r0 r' → (x = 0 ∨ x = 1) → ri g c0 (f + 1) (f + 1) 0 (r' 29) (r' 30) (B ∨ ¬ x = 0) → Q x r') : ∀ j i, j + i = pmn f → ∀ r v3, rfr r0 r → (v3 = 0 ∨ v3 = 1) → ri g c0 (f + 1) f i (r 29) (r 30) (B ∨ ¬ v3 = 0) → wp_M_learn_L38 Q (j + 1) r (nI f) v3 (nI i) := by
  have le3 : ((3 : Int32) ≤ nI f) ↔ 3 ≤ f := nI_leI (a := 3) (by omega) (by omega)
  intro j
  induction j with
  | zero =>
    intro i hi r v3 hfr hv3 hri
    have hi' : i = pmn f := by omega
    subst hi'
    have fin := h r v3 hfr hv3 (ri_N hri)
    have zb : narrow .boolean (.int v3) = .int v3 := by rcases hv3 with rfl | rfl <;> rfl
    rw [wp_M_learn_L38]
    simp only [rx_pms, le3]
    unfold pmn
    by_cases z : f < 3
    · have z3 : ¬ 3 ≤ f := by omega
      simp only [z, z3, if_true, false_imp_iff, not_false_eq_true, true_imp_iff, true_and, show (1 : Int32) ≤ nI 1 from by decide, not_true, and_true]
      exact ⟨zb, fin⟩
    · have z3 : 3 ≤ f := by omega
      simp only [z, z3, if_false, false_imp_iff, not_true, true_imp_iff, and_true, show (2 : Int32) ≤ nI 2 from by decide]
      exact ⟨zb, fin⟩
  | succ j ih =>
    intro i hi r v3 hfr hv3 hri
    have hip : i < pmn f := by omega
    have hp := pr_rfr hp0 hfr
    have hb := bod_rfr hb0 hfr
    have hrb' : r 28 f = nI e := by rw [hfr.1 28 (by decide) (by decide)]; exact hrb
    have hg := hri.1
    have body : ∃ n53, wp_M_learn_L53 Q (wp_M_learn_L38 Q (j + 1)) n53 r (nI f) v3 (nI i) 0 0 := by
      refine ⟨10, l53 hp hb hf he hip hbe hrb' hg.2.2.1 Q _ v3 (fun r' m hr' hm => ?_) 9 0 (by omega) r 0 (fr_rf r) (fun k' hk' => by rw [b_0]; simp)⟩
      have hx : lb (r 29 (2 * f + i)) m := fun k hk hbt => (hm k hk).mpr (good_mb hg hf hip hk hbt)
      have hk : ∀ k, k < 32 → bt m k = true → bt (r 29 (2 * f + i)) k = true ∨ (k < 9 ∧ ¬ fK g (r 29) (r 30) f i k = 0) := fun k hk hbt => Or.inr ((hm k hk).mp hbt)
      have hgM := good_M hp hb hg hf hip hx hk
      have hmx : m9 m := by
        have := hgM.1.2.2.2 f hf i hip
        simpa [upd] using this
      have e29 : st_u r' 29 (2 * f + i) m 29 = upd (r 29) (2 * f + i) m := by
        simp only [st_u, if_true]; rw [hr'.1 29 (by decide) (by decide)]
      have e30 : st_u r' 29 (2 * f + i) m 30 = r 30 := by
        rw [su_o _ _ _ _ _ (by decide), hr'.1 30 (by decide) (by decide)]
      have frm : rfr r0 (st_u r' 29 (2 * f + i) m) := rfr_tr hfr (rfr_tr (fr_rfr hr') (rfr_u _ _ _ _ (Or.inl rfl)))
      have step : ∀ x v3' : Int32, (x = 0 ∨ x = 1) → (x = 0 ↔ m = r 29 (2 * f + i)) → (v3' = 0 ∨ v3' = 1) → ((¬ v3' = 0) ↔ (¬ v3 = 0 ∨ ¬ x = 0)) → wp_M_learn_L38 Q (j + 1) (st_u r' 29 (2 * f + i) m) (nI f) v3' (nI (i + 1)) := by
        intro x v3' hx01 hxm hv hvi
        refine ih (i + 1) (by omega) _ v3' frm hv ?_
        rw [e29, e30]
        have := ri_M hp hb hri hx01 hgM.1 hgM.2 (fun z => cnt_M hf hip hx hmx (fun w => by rw [hxm.mpr w] at z; exact absurd z (by decide))) (fun z => by
          have hme := hxm.mp z
          refine ⟨by rw [hme]; exact upd_self _ _, fun k hk hne => ?_⟩
          rw [← hme]; exact (hm k (by omega)).mpr ⟨hk, hne⟩)
        refine ri_iff ?_ this
        rw [hvi]
        constructor
        · rintro (a | a | a)
          · exact Or.inl (Or.inl a)
          · exact Or.inl (Or.inr a)
          · exact Or.inr a
        · rintro ((a | a) | a)
          · exact Or.inl a
          · exact Or.inr (Or.inl a)
          · exact Or.inr (Or.inr a)
      refine ⟨fun z => ?_, fun z => ⟨fun w => ?_, fun w => ?_⟩⟩
      · by_cases w : m = r 29 (2 * f + i)
        · exact step 0 1 (Or.inl rfl) (by simp [w]) (Or.inr rfl) (by simp [z])
        · exact step 1 1 (Or.inr rfl) (by simp [w]) (Or.inr rfl) (by simp)
      · exact step 0 0 (Or.inl rfl) (by simp [w]) (Or.inl rfl) (by simp [z])
      · exact step 1 1 (Or.inr rfl) (by simp [w]) (Or.inr rfl) (by simp)
    rw [wp_M_learn_L38]
    simp only [rx_pms, le3]
    unfold pmn at hip
    by_cases z : f < 3
    · have z3 : ¬ 3 ≤ f := by omega
      have zi : ¬ (1 : Int32) ≤ nI i := nI_ge (b := 1) (by simp [z] at hip; omega) (by omega)
      simp only [z3, zi, false_imp_iff, not_false_eq_true, true_imp_iff, true_and]
      exact body
    · have z3 : 3 ≤ f := by omega
      have zi : ¬ (2 : Int32) ≤ nI i := nI_ge (b := 2) (by simp [z] at hip; omega) (by omega)
      simp only [z3, zi, false_imp_iff, not_false_eq_true, not_true, true_imp_iff, true_and, and_true]
      exact body
theorem rlearn {g r : st_I} {n : Nat} (hp : pr_all g r n) (hb : bod g r n) {f e c0 : Nat} (hf : f < 6) (he : e < n) (hbe : g 9 f = nI e) (hrb : r 28 f = nI e) (Q : Int32 → st_I → Prop) (B : Prop) (hri : ri g c0 f f 0 (r 29) (r 30) B) (h : ∀ r' x, rfr r r' → (x = 0 ∨ x = 1) → ri g c0 (f + 1) (f + 1) 0 (r' 29) (r' 30) (B ∨ ¬ x = 0) → Q x r') : wp_M_learn (nI f) r Q := by
  have cf : (nI f).toNatClampNeg = f := nI_clamp (by omega)
  have vf : vp_in (nI f) 6 := vp_in_nI hf (by omega)
  have hne1 := n1_ne hp.1 he
  have hg := hri.1
  simp only [wp_M_learn, wp_M_learn_L27, cf, vf, true_and]
  refine rlooked hp (ma := r 29) (gi := r 30) (fun f _ => ⟨rfl, fun _ => rfl⟩) (fun f _ => rfl) hg.2.2.1 hf he hrb 511 511 (va f) rfl (by simp [va]) (by simp [va]) (by simp [va]) (fun v _ => va_m9 f v) _ (fun r1 a1 _ _ => ?_)
  have hF : kz g (r 29) (r 30) 7 e (va f) = fG g (r 29) (r 30) f := by
    unfold fG
    rw [hbe, if_neg hne1, nI_clamp (by have := hp.1; omega)]
  have r29 := a1.1 29 (by decide) (by decide)
  have r30 := a1.1 30 (by decide) (by decide)
  rw [hF, r30]
  have hs := good_G hp hb hg hf
  have step : ∀ x : Int32, (x = 0 ∨ x = 1) → (x = 0 ↔ fG g (r 29) (r 30) f = r 30 f) → ∃ n38, wp_M_learn_L38 Q n38 (st_u r1 30 f (fG g (r 29) (r 30) f)) (nI f) x 0 := by
    intro x hx hxm
    refine ⟨pmn f + 1, l38 hp hb hf he hbe hrb Q B h (pmn f) 0 (by omega) _ x (rfr_tr (fr_rfr a1) (rfr_u _ _ _ _ (Or.inr rfl))) hx ?_⟩
    have e29 : st_u r1 30 f (fG g (r 29) (r 30) f) 29 = r 29 := by rw [su_o _ _ _ _ _ (by decide), r29]
    have e30 : st_u r1 30 f (fG g (r 29) (r 30) f) 30 = upd (r 30) f (fG g (r 29) (r 30) f) := by simp only [st_u, if_true]; rw [r30]
    rw [e29, e30]
    refine ri_G hp hb hri hx hs.1 hs.2 (fun z => cnt_G hf (hg.1.1 f hf) (fG_m9 hp hb hg.2.2.1 hf) (fun w => by rw [hxm.mpr w] at z; exact absurd z (by decide))) (fun z => ?_)
    have := hxm.mp z
    exact ⟨by rw [this]; exact upd_self _ _, this⟩
  refine ⟨fun z => step 0 (Or.inl rfl) (by simp [z]), fun z => step 1 (Or.inr rfl) (by simp [z])⟩
theorem l40 {g r0 : st_I} {n : Nat} (hp0 : pr_all g r0 n) (hb0 : bod g r0 n) {c0 : Nat} (Q : st_I → Prop) (H32 : st_I → Int32 → Prop) (h : ∀ r' v1, rfr r0 r' → (v1 = 0 ∨ v1 = 1) → ri g c0 6 6 0 (r' 29) (r' 30) (¬ v1 = 0) → H32 r' v1) : ∀ j f, j + f = 6 → ∀ r v1, rfr r0 r → (v1 = 0 ∨ v1 = 1) → ri g c0 f f 0 (r 29) (r 30) (¬ v1 = 0) → wp_M_know_L40 Q H32 (j + 1) r v1 (nI f) := by
  intro j
  induction j with
  | zero =>
    intro f hf r v1 hfr hv1 hri
    have hf6 : f = 6 := by omega
    subst hf6
    rw [wp_M_know_L40]
    simp only [show (6 : Int32) ≤ nI 6 from by decide, not_true, false_imp_iff, true_imp_iff, and_true]
    exact h r v1 hfr hv1 hri
  | succ j ih =>
    intro f hf r v1 hfr hv1 hri
    have z6 : ¬ (6 : Int32) ≤ nI f := nI_ge (b := 6) (by omega) (by omega)
    have cf : (nI f).toNatClampNeg = f := nI_clamp (by omega)
    have vf : vp_in (nI f) 6 := vp_in_nI (by omega) (by omega)
    have hp := pr_rfr hp0 hfr
    have hb := bod_rfr hb0 hfr
    rw [wp_M_know_L40]
    simp only [z6, not_false_eq_true, false_imp_iff, true_imp_iff, true_and, cf, vf, wp_M_know_L67, wp_M_know_L68, wp_M_know_L77, wp_M_know_L82, nI_1]
    rcases hb f (by omega) with ⟨h9, h28⟩ | ⟨e, he, h9, h28⟩
    · have neg : (-1 : Int32) < 0 := by decide
      simp only [h28, neg, not_true, false_imp_iff, true_imp_iff, and_true]
      have nx := ih (f + 1) (by omega) r v1 hfr hv1 (ri_none hri h9)
      rcases hv1 with rfl | rfl
      · simpa using nx
      · simpa using nx
    · have pos : ¬ nI e < 0 := nI_pos (by have := hp.1; omega)
      simp only [h28, pos, not_false_eq_true, false_imp_iff, true_imp_iff, true_and]
      refine rlearn hp hb (by omega) he h9 h28 _ (¬ v1 = 0) hri (fun r' x hr' hx hri' => ?_)
      have nx : ∀ v1', (v1' = 0 ∨ v1' = 1) → ((¬ v1' = 0) ↔ (¬ v1 = 0 ∨ ¬ x = 0)) → wp_M_know_L40 Q H32 (j + 1) r' v1' (nI (f + 1)) := fun v1' h1 h2 => ih (f + 1) (by omega) r' v1' (rfr_tr hfr hr') h1 (ri_iff h2 hri')
      rcases hv1 with rfl | rfl
      · rcases hx with rfl | rfl
        · simpa using nx 0 (Or.inl rfl) (by simp)
        · simpa using nx 1 (Or.inr rfl) (by simp)
      · have := nx 1 (Or.inr rfl) (by simp)
        simp only [show ¬ (1 : Int32) = 0 from by decide, not_false_eq_true, true_imp_iff, false_imp_iff, and_true]
        exact ⟨fun _ => this, fun _ => this⟩
theorem l32 {g r0 : st_I} {n : Nat} (hp0 : pr_all g r0 n) (hb0 : bod g r0 n) (Q : st_I → Prop) (h : ∀ r', rfr r0 r' → least g (r' 29) (r' 30) → Q r') : ∀ j r v1, rfr r0 r → (v1 = 0 ∨ v1 = 1) → good g (r 29) (r 30) → (v1 = 0 → least g (r 29) (r 30)) → 136 ≤ j + cnt (r 29) (r 30) → wp_M_know_L32 Q (j + 1) r v1 := by
  intro j
  induction j with
  | zero =>
    intro r v1 _ _ _ _ hc
    have := cnt_135 (r 29) (r 30)
    omega
  | succ j ih =>
    intro r v1 hfr hv1 hg h0 hc
    rw [wp_M_know_L32]
    rcases hv1 with rfl | rfl
    · simp only [not_true, false_imp_iff, true_imp_iff, and_true]
      exact h r hfr (h0 rfl)
    · simp only [show ¬ (1 : Int32) = 0 from by decide, not_false_eq_true, false_imp_iff, true_imp_iff, true_and]
      refine ⟨7, l40 hp0 hb0 (c0 := cnt (r 29) (r 30)) Q _ (fun r' v1' hr' hv1' hri => ?_) 6 0 (by omega) r 0 hfr (Or.inl rfl) (ri_st0 hg _ (by simp))⟩
      by_cases z : v1' = 0
      · have hl := ri_end hri (by simp [z])
        cases j with
        | zero => subst z; rw [wp_M_know_L32]; simp only [not_true, false_imp_iff, true_imp_iff, and_true]; exact h r' hr' hl
        | succ j => subst z; rw [wp_M_know_L32]; simp only [not_true, false_imp_iff, true_imp_iff, and_true]; exact h r' hr' hl
      · have := hri.2.2.1 z
        exact ih r' v1' hr' hv1' hri.1 (fun w => absurd w z) (by omega)
theorem l2 (Q : st_I → Prop) (r0 : st_I) (h : ∀ r', rfr r0 r' → (∀ j, j < 12 → r' 29 j = 0) → (∀ f, f < 6 → r' 30 f = 0) → ∃ n, wp_M_know_L32 Q n r' 1) : ∀ j i, j + i = 12 → ∀ r, rfr r0 r → (∀ j, j < i → r 29 j = 0) → (∀ f, 2 * f < i → r 30 f = 0) → wp_M_know_L2 Q (j + 1) r (nI i) := by
  intro j
  induction j with
  | zero =>
    intro i hi r hfr h29 h30
    have : i = 12 := by omega
    subst this
    rw [wp_M_know_L2]
    simp only [show (12 : Int32) ≤ nI 12 from by decide, not_true, false_imp_iff, true_imp_iff, and_true]
    exact h r hfr h29 (fun f hf => h30 f (by omega))
  | succ j ih =>
    intro i hi r hfr h29 h30
    have z : ¬ (12 : Int32) ≤ nI i := nI_ge (b := 12) (by omega) (by omega)
    have ci : (nI i).toNatClampNeg = i := nI_clamp (by omega)
    have vi : vp_in (nI i) 12 := vp_in_nI (by omega) (by omega)
    have di : nI i / (2 : Int32) = nI (i / 2) := pk_div (a := i) (d := 2) (by omega) (by omega) (by omega)
    have c2 : (nI (i / 2)).toNatClampNeg = i / 2 := nI_clamp (by omega)
    have v2 : vp_in (nI (i / 2)) 6 := vp_in_nI (by omega) (by omega)
    rw [wp_M_know_L2]
    simp only [z, not_false_eq_true, false_imp_iff, true_imp_iff, true_and, ci, vi, di, c2, v2, nI_1]
    refine ih (i + 1) (by omega) _ (rfr_tr hfr (rfr_tr (rfr_u _ _ _ _ (Or.inl rfl)) (rfr_u _ _ _ _ (Or.inr rfl)))) (fun j hj => ?_) (fun f hf => ?_)
    · rw [su_o _ _ _ _ _ (by decide), su_k]
      by_cases w : j = i
      · simp [w]
      · simp [w, h29 j (by omega)]
    · rw [su_k]
      by_cases w : f = i / 2
      · simp [w]
      · simp only [w, if_false]
        rw [su_o _ _ _ _ _ (by decide)]
        exact h30 f (by omega)
theorem rl_know {g r : st_I} {n : Nat} (hp : pr_all g r n) (hb : bod g r n) (Q : st_I → Prop) (h : ∀ r', rfr r r' → least g (r' 29) (r' 30) → Q r') : wp_M_know r Q := by
  refine ⟨13, l2 Q r (fun r' hr' h29 h30 => ?_) 12 0 (by omega) r (rfr_rf r) (fun _ h => absurd h (by omega)) (fun _ h => absurd h (by omega))⟩
  refine ⟨137, l32 hp hb Q h 136 r' 1 hr' (Or.inr rfl) (good_0 (r := r) (n := n) h29 h30) (fun z => absurd z (by decide)) (by omega)⟩
