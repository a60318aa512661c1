theorem or01 {x y : Int32} (hx : x = 0 ∨ x = 1) (hy : y = 0 ∨ y = 1) : (x ||| y = 0 ∨ x ||| y = 1) ∧ ((¬ x ||| y = 0) ↔ (¬ x = 0 ∨ ¬ y = 0)) := by
  rcases hx with rfl | rfl <;> rcases hy with rfl | rfl <;> decide
theorem ri_iff {g : st_I} {ma gi : Nat → Int32} {c0 F G I : Nat} {b b' : Prop} (hb : b' ↔ b) (h : ri g c0 F G I ma gi b) : ri g c0 F G I ma gi b' := by
  obtain ⟨h1, h2, h3, h4⟩ := h
  exact ⟨h1, h2, fun z => h3 (hb.mp z), fun z => h4 (fun w => z (hb.mpr w))⟩
theorem ri_G {g r : st_I} {n : Nat} (hp : pr_all g r n) (hb : bod g r n) {ma gi gi' : Nat → Int32} {c0 f : Nat} {b : Prop} {x : Int32} (h : ri g c0 f f 0 ma gi b) (hx : x = 0 ∨ x = 1) (hg : good g ma gi') (hl : leq ma gi ma gi') (h1 : x = 1 → cnt ma gi < cnt ma gi') (h0 : x = 0 → gi' = gi ∧ fG g ma gi f = gi f) : ri g c0 (f + 1) f 0 ma gi' (b ∨ ¬ x = 0) := by
  have x1 : ¬ x = 0 → x = 1 := fun z => hx.resolve_left z
  obtain ⟨a1, a2, a3, a4⟩ := ri_st hp hb h hg hl (¬ x = 0) (fun z => h1 (x1 z)) (fun z => by
    have := (h0 (Classical.not_not.mp z)).1
    rw [this]; exact leq_rf _ _)
  refine ⟨a1, a2, a3, fun z => ?_⟩
  obtain ⟨s1, s2⟩ := a4 z
  refine ⟨fun f' hf' hF => ?_, s2⟩
  rcases Nat.lt_or_ge f' f with w | w
  · exact s1 f' hf' w
  · have : f' = f := by omega
    subst this
    obtain ⟨e1, e2⟩ := h0 (Classical.byContradiction fun w => z (Or.inr w))
    rw [e1, e2]; exact lb_rf _
theorem ri_M {g r : st_I} {n : Nat} (hp : pr_all g r n) (hb : bod g r n) {ma ma' gi : Nat → Int32} {c0 f i : Nat} {b : Prop} {x : Int32} (h : ri g c0 (f + 1) f i ma gi b) (hx : x = 0 ∨ x = 1) (hg : good g ma' gi) (hl : leq ma gi ma' gi) (h1 : x = 1 → cnt ma gi < cnt ma' gi) (h0 : x = 0 → ma' = ma ∧ ∀ k, k < 9 → ¬ fK g ma gi f i k = 0 → bt (ma (2 * f + i)) k = true) : ri g c0 (f + 1) f (i + 1) ma' gi (b ∨ ¬ x = 0) := by
  have x1 : ¬ x = 0 → x = 1 := fun z => hx.resolve_left z
  obtain ⟨a1, a2, a3, a4⟩ := ri_st hp hb h hg hl (¬ x = 0) (fun z => h1 (x1 z)) (fun z => by
    have := (h0 (Classical.not_not.mp z)).1
    rw [this]; exact leq_rf _ _)
  refine ⟨a1, a2, a3, fun z => ?_⟩
  obtain ⟨s1, s2⟩ := a4 z
  refine ⟨s1, fun f' i' hf' hi' hz k hk hne => ?_⟩
  by_cases w : f' < f ∨ f' = f ∧ i' < i
  · exact s2 f' i' hf' hi' w k hk hne
  · have e1 : f' = f := by omega
    have e2 : i' = i := by omega
    subst e1 e2
    obtain ⟨e1, e2⟩ := h0 (Classical.byContradiction fun w => z (Or.inr w))
    subst e1
    exact e2 k hk hne
theorem ri_N {g : st_I} {ma gi : Nat → Int32} {c0 f : Nat} {b : Prop} (h : ri g c0 (f + 1) f (pmn f) ma gi b) : ri g c0 (f + 1) (f + 1) 0 ma gi b := by
  obtain ⟨h1, h2, h3, h4⟩ := h
  refine ⟨h1, h2, h3, fun z => ⟨(h4 z).1, fun f' i' hf' hi' hz k hk hne => (h4 z).2 f' i' hf' hi' ?_ k hk hne⟩⟩
  by_cases w : f' < f
  · exact Or.inl w
  · have : f' = f := by omega
    subst this
    exact Or.inr ⟨rfl, hi'⟩
theorem ri_st0 {g : st_I} {ma gi : Nat → Int32} (h : good g ma gi) (b : Prop) (hb : ¬ b) : ri g (cnt ma gi) 0 0 0 ma gi b :=
  ⟨h, Nat.le_refl _, fun z => absurd z hb, fun _ => ⟨fun _ _ h => absurd h (by omega), fun _ _ _ _ h => absurd h (by omega)⟩⟩
theorem l60 {g r : st_I} {n : Nat} (hp : pr_all g r n) (hb : bod g r n) {c0 f : Nat} (hf : f < 6) (Q : st_S → Prop) (H28 : st_I → st_L → Int32 → Int32 → Prop) (H43 : st_I → st_L → Int32 → Int32 → Int32 → Prop) (q : st_L) (v2 : Int32) (h : ∀ ma gi o v1, (v1 = 0 ∨ v1 = 1) → ri g c0 (f + 1) (f + 1) 0 ma gi (¬ v1 = 0) → H43 (cls g ma gi o) q v1 v2 (nI f + 1)) : ∀ j i, j + i = pmn f → ∀ ma gi o v1, (v1 = 0 ∨ v1 = 1) → ri g c0 (f + 1) f i ma gi (¬ v1 = 0) → wp_K_learn_L60 7 Q H28 H43 (j + 1) (cls g ma gi o) q v1 v2 (nI f) (nI i) := by
  have le3 : ((3 : Int32) ≤ nI f) ↔ 3 ≤ f := nI_leI (a := 3) (by omega) (by omega)
  intro j
  induction j with
  | zero =>
    intro i hi ma gi o v1 hv1 hri
    rw [wp_K_learn_L60]
    simp only [ex_pms, le3]
    have hi' : i = pmn f := by omega
    subst hi'
    have fin := h ma gi o v1 hv1 (ri_N hri)
    unfold pmn
    by_cases z : f < 3
    · have z3 : ¬ 3 ≤ f := by omega
      simp only [z, z3, if_true, false_imp_iff, not_false_eq_true, true_imp_iff, true_and, show (1 : Int32) ≤ nI 1 from by decide, not_true, and_true]
      exact fin
    · have z3 : 3 ≤ f := by omega
      simp only [z, z3, if_false, false_imp_iff, not_true, true_imp_iff, and_true, show (2 : Int32) ≤ nI 2 from by decide]
      exact fin
  | succ j ih =>
    intro i hi ma gi o v1 hv1 hri
    rw [wp_K_learn_L60]
    simp only [ex_pms, le3]
    have hip : i < pmn f := by omega
    have body : wp_K_growMay 7 (nI f) (nI i) (cls g ma gi o) q (fun x74 u74 => wp_K_learn_L60 7 Q H28 H43 (j + 1) u74.1 u74.2 (v1 ||| x74) v2 (nI f) (nI i + 1)) := by
      refine gm hp hb hri.1 hf hip o q _ (fun ma' o' b hb' hg hl h1 h0 => ?_)
      have hor := or01 hv1 hb'
      have hr := ri_M hp hb hri hb' hg hl h1 h0
      have := ih (i + 1) (by omega) ma' gi o' (v1 ||| b) hor.1 (ri_iff hor.2 hr)
      rw [← nI_1] at this
      exact this
    unfold pmn at hip
    by_cases z : f < 3
    · have z3 : ¬ 3 ≤ f := by omega
      have zi : ¬ (1 : Int32) ≤ nI i := nI_ge (b := 1) (by simp [z] at hip; omega) (by omega)
      simp only [z3, zi, false_imp_iff, not_false_eq_true, true_imp_iff, true_and]
      exact body
    · have z3 : 3 ≤ f := by omega
      have zi : ¬ (2 : Int32) ≤ nI i := nI_ge (b := 2) (by simp [z] at hip; omega) (by omega)
      simp only [z3, zi, false_imp_iff, not_false_eq_true, not_true, true_imp_iff, true_and, and_true]
      exact body
theorem l43 {g r : st_I} {n : Nat} (hp : pr_all g r n) (hb : bod g r n) {c0 : Nat} (Q : st_S → Prop) (H28 : st_I → st_L → Int32 → Int32 → Prop) (q : st_L) (v2 : Int32) (h : ∀ ma gi o v1, (v1 = 0 ∨ v1 = 1) → ri g c0 6 6 0 ma gi (¬ v1 = 0) → H28 (cls g ma gi o) q v1 (v2 + 1)) : ∀ j f, j + f = 6 → ∀ ma gi o v1, (v1 = 0 ∨ v1 = 1) → ri g c0 f f 0 ma gi (¬ v1 = 0) → wp_K_learn_L43 7 Q H28 (j + 1) (cls g ma gi o) q v1 v2 (nI f) := by
  intro j
  induction j with
  | zero =>
    intro f hf ma gi o v1 hv1 hri
    have hf6 : f = 6 := by omega
    subst hf6
    rw [wp_K_learn_L43]
    simp only [show (6 : Int32) ≤ nI 6 from by decide, not_true, false_imp_iff, true_imp_iff, and_true]
    exact h ma gi o v1 hv1 hri
  | succ j ih =>
    intro f hf ma gi o v1 hv1 hri
    rw [wp_K_learn_L43]
    have z6 : ¬ (6 : Int32) ≤ nI f := nI_ge (b := 6) (by omega) (by omega)
    simp only [z6, not_false_eq_true, false_imp_iff, true_imp_iff, true_and]
    refine gg hp hb hri.1 (by omega) o q _ (fun gi' o' b hb' hg hl h1 h0 => ?_)
    have hor := or01 hv1 hb'
    have hr := ri_G hp hb hri hb' hg hl h1 h0
    refine ⟨pmn f + 1, ?_⟩
    have := l60 hp hb (c0 := c0) (f := f) (by omega) Q H28 (wp_K_learn_L43 7 Q H28 (j + 1)) q v2 (fun ma gi o v1 hv1 hri => by
      have := ih (f + 1) (by omega) ma gi o v1 hv1 hri
      rw [← nI_1] at this
      exact this) (pmn f) 0 (by omega) ma gi' o' (v1 ||| b) hor.1 (ri_iff hor.2 hr)
    exact this
theorem l28 {g r : st_I} {n : Nat} (hp : pr_all g r n) (hb : bod g r n) (Q : st_S → Prop) (q : st_L) (h : ∀ ma gi o, least g ma gi → Q (st_u (cls g ma gi o) 10 4 1, q)) : ∀ j k, j + k = 163 → ∀ ma gi o v1, (v1 = 0 ∨ v1 = 1) → good g ma gi → (v1 = 0 → least g ma gi) → (v1 = 1 → k ≤ cnt ma gi) → wp_K_learn_L28 7 Q (j + 1) (cls g ma gi o) q v1 (nI k) := by
  intro j
  induction j with
  | zero =>
    intro k hk ma gi o v1 hv1 hg h0 h1
    rw [wp_K_learn_L28]
    rcases hv1 with rfl | rfl
    · simp only [not_true, false_imp_iff, true_imp_iff, and_true, wp_K_learn_L97]
      exact h ma gi o (h0 rfl)
    · have := h1 rfl
      have := cnt_135 ma gi
      omega
  | succ j ih =>
    intro k hk ma gi o v1 hv1 hg h0 h1
    rw [wp_K_learn_L28]
    rcases hv1 with rfl | rfl
    · simp only [not_true, false_imp_iff, true_imp_iff, and_true, wp_K_learn_L97]
      exact h ma gi o (h0 rfl)
    · have z1 : ¬ (1 : Int32) = 0 := by decide
      have zk : ¬ (163 : Int32) ≤ nI k := nI_ge (b := 163) (by omega) (by omega)
      simp only [z1, zk, not_false_eq_true, false_imp_iff, true_imp_iff, true_and]
      refine ⟨7, ?_⟩
      refine l43 hp hb (c0 := cnt ma gi) Q _ q (nI k) (fun ma' gi' o' v1 hv1 hri => ?_) 6 0 (by omega) ma gi o 0 (Or.inl rfl) (ri_st0 hg _ (by simp))
      rw [nI_1]
      refine ih (k + 1) (by omega) ma' gi' o' v1 hv1 hri.1 (fun z => ri_end hri (by simp [z])) (fun z => ?_)
      have a := hri.2.2.1 (by rw [z]; decide)
      have b := h1 rfl
      omega
theorem fG_cg {g r g' : st_I} {n : Nat} (hp : pr_all g r n) (hb : bod g r n) (hc : ∀ k, 2 ≤ k → k ≤ 6 → ∀ e, e < n → g' k e = g k e) (h9 : ∀ f, f < 6 → g' 9 f = g 9 f) (ma gi : Nat → Int32) {f : Nat} (hf : f < 6) : fG g' ma gi f = fG g ma gi f ∧ ∀ i k, fK g' ma gi f i k = fK g ma gi f i k := by
  unfold fG fK
  rw [h9 f hf]
  rcases hb f hf with ⟨h1, -⟩ | ⟨e, he, h1, -⟩
  · simp [h1]
  · rw [h1, nI_clamp (by have := hp.1; omega)]
    refine ⟨?_, fun i k => ?_⟩
    · rw [kz_cg hp hc 7 e _ he]
    · rw [kz_cg hp hc 7 e _ he]
theorem least_cg {g r g' : st_I} {n : Nat} (hp : pr_all g r n) (hb : bod g r n) (hc : ∀ k, 2 ≤ k → k ≤ 6 → ∀ e, e < n → g' k e = g k e) (h9 : ∀ f, f < 6 → g' 9 f = g 9 f) {ma gi : Nat → Int32} (h : least g ma gi) : least g' ma gi := by
  have E := fun ma gi f hf => fG_cg hp hb hc h9 ma gi (f := f) hf
  have pp : ∀ ma gi, pre g' ma gi ↔ pre g ma gi := by
    intro ma gi
    constructor
    · rintro ⟨p1, p2⟩
      exact ⟨fun f hf => (E ma gi f hf).1 ▸ p1 f hf, fun f hf i hi k hk hne => p2 f hf i hi k hk (by rw [(E ma gi f hf).2]; exact hne)⟩
    · rintro ⟨p1, p2⟩
      exact ⟨fun f hf => (E ma gi f hf).1 ▸ p1 f hf, fun f hf i hi k hk hne => p2 f hf i hi k hk (by rw [← (E ma gi f hf).2]; exact hne)⟩
  exact ⟨(pp _ _).mpr h.1, fun ma' gi' hp' => h.2.1 ma' gi' ((pp _ _).mp hp'), h.2.2⟩
theorem cl_learn {g r : st_I} {n : Nat} (hp : pr_all g r n) (hb : bod g r n) (hfr : g 10 4 = 0 ∨ least g (g 11) (g 12)) (q : st_L) (Q : st_S → Prop) (h : ∀ g', (∀ k, k ≠ 10 → k ≠ 11 → k ≠ 12 → k ≠ 13 → g' k = g k) → least g' (g' 11) (g' 12) → Q (g', q)) : wp_K_learn 7 g q Q := by
  unfold wp_K_learn
  by_cases z : g 10 4 = 0
  · simp only [z, not_true, false_imp_iff, true_imp_iff, and_true]
    refine ⟨13, fl11 _ q 0 12 0 (by omega) g (fun m _ hm => ?_)⟩
    refine ⟨7, fl12 _ q 0 6 0 (by omega) _ (fun m2 _ hm2 => ?_)⟩
    have e : (fun k => if k = 12 then m2 else if k = 11 then m else g k) = cls g m m2 (g 13) := by
      funext k; simp only [cls]
      by_cases z1 : k = 11
      · simp [z1]
      · by_cases z2 : k = 12
        · simp [z2]
        · by_cases z3 : k = 13 <;> simp [z1, z2, z3]
    refine ⟨164, ?_⟩
    show wp_K_learn_L28 7 Q 164 (fun k => if k = 12 then m2 else if k = 11 then m else g k) q 1 0
    rw [e]
    refine l28 hp hb Q q (fun ma gi o hl => ?_) 163 0 (by omega) m m2 _ 1 (Or.inr rfl) (good_0 (r := r) (n := n) (fun j hj => hm j (by omega) hj) (fun f hf => hm2 f (by omega) hf)) (fun z => absurd z (by decide)) (fun _ => by omega)
    refine h _ (fun k h1 h2 h3 h4 => ?_) ?_
    · rw [su_o _ _ _ _ _ h1, cls_o g ma gi o k h2 h3 h4]
    · rw [su_o _ _ _ _ _ (by decide), su_o _ _ _ _ _ (by decide), cls_11, cls_12]
      refine least_cg hp hb (fun k h1 h2 e he => ?_) (fun f hf => ?_) hl
      · rw [su_o _ _ _ _ _ (by omega), cls_o g ma gi o k (by omega) (by omega) (by omega)]
      · rw [su_o _ _ _ _ _ (by omega), cls_o g ma gi o 9 (by omega) (by omega) (by omega)]
  · simp only [z, not_false_eq_true, false_imp_iff, true_imp_iff, true_and]
    exact h g (fun _ _ _ _ _ => rfl) (hfr.resolve_left z)
