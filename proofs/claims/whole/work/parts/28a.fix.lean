theorem m9_c : m9 0 ∧ m9 3 ∧ m9 128 ∧ m9 256 ∧ m9 511 ∧ m9 112 := by unfold m9; decide
theorem if_m9 {c : Prop} [Decidable c] {x y : Int32} (h : m9 x) (k : m9 y) : m9 (if c then x else y) := by split <;> assumption
theorem kn_nI (x : Int32) : ∃ k, k < 9 ∧ kn x = nI k := by
  unfold kn
  split
  · exact ⟨5, by omega, rfl⟩
  · split
    · exact ⟨6, by omega, rfl⟩
    · exact ⟨4, by omega, rfl⟩
theorem kz_m9 {g r : st_I} {n : Nat} (hp : pr_all g r n) {ma gi : Nat → Int32} (hg : ∀ f, f < 6 → m9 (gi f)) : ∀ d e V, e < n → (∀ v, v < 4 → m9 (V v)) → m9 (kz g ma gi d e V) := by
  intro d
  induction d with
  | zero => intro e V _ _; exact m9_c.1
  | succ d ih =>
    intro e V he hV
    obtain ⟨hn, -, -, hrow⟩ := hp
    obtain ⟨-, -, -, hr⟩ := hrow e he
    show m9 (kzB g ma gi (kz g ma gi d) e V)
    obtain ⟨z0, z3, z128, z256, z511, z112⟩ := m9_c
    have cl : ∀ a, a < n → (nI a).toNatClampNeg = a := fun a ha => nI_clamp (by omega)
    rcases hr with ⟨h2, v, hv, h3, -⟩ | ⟨h2, -⟩ | h2 | ⟨h2, a, b, ha, hb, h4, -, h5, -⟩ | ⟨h2, a, ha, h4, -⟩ | ⟨h2, m, a, b, c, hm9, h3, -, ha, hb, hc, h4, -, h5, -, h6, -⟩ | ⟨h2, f, a, hf, h3, -, ha, h4, -, hb⟩ | ⟨h2, v, a, b, hv, h3, -, ha, hb, h4, -, h5, -⟩
    · rcases h2 with h2 | h2
      · simp only [kzB, h2, if_true, h3, nI_clamp (show v < 2 ^ 31 by omega)]
        exact hV v hv
      · simp [kzB, h2, h3]
        exact m9_k v (by omega)
    · obtain ⟨k, hk, hk2⟩ := kn_nI (g 3 e)
      simp [kzB, h2, hk2]
      exact m9_k k hk
    · rcases h2 with h2 | h2 <;> simp [kzB, h2, z128, z0]
    · have ea := ih a V ha.1 hV
      have eb := ih b V hb.1 hV
      rcases h2 with h2 | h2 | h2 | h2 | h2
      · simp [kzB, h2, h4, h5, cl a ha.1, cl b hb.1]
        exact if_m9 z0 (if_m9 z0 (nk_m9 _ _ _))
      · simp [kzB, h2, h4, h5, cl a ha.1, cl b hb.1]
        exact if_m9 z0 (if_m9 z0 (nk_m9 _ _ _))
      · simp [kzB, h2, h4, h5, cl a ha.1, cl b hb.1]
        exact if_m9 z0 (if_m9 z0 z256)
      · simp [kzB, h2, h4, h5, cl a ha.1, cl b hb.1]
        exact m9_or ea eb
      · simp [kzB, h2, h4, h5, cl a ha.1, cl b hb.1]
        exact if_m9 z0 (if_m9 z0 z3)
    · rcases h2 with h2 | h2
      · simp [kzB, h2, h4, cl a ha.1]
        exact if_m9 z511 z0
      · simp [kzB, h2, h4, cl a ha.1]
        exact if_m9 z511 z0
    · have ea := ih a V ha.1 hV
      simp [kzB, h2, h4, h5, h6, cl a ha.1, cl b hb.1, cl c hc.1]
      have kN : ∀ x, m9 x → ∀ v, v < 4 → m9 (kzN g a V x v) := by
        intro x hx v hv
        unfold kzN
        by_cases h1 : g 2 a = 0
        · simp only [h1, if_true, upd]
          exact if_m9 hx (hV v hv)
        · simp only [h1, if_false]
          exact hV v hv
      exact m9_or (if_m9 z0 (ih b _ hb.1 (kN _ (m9_an ea)))) (if_m9 z0 (ih c _ hc.1 (kN _ (m9_an ea))))
    · have cf : (nI f).toNatClampNeg = f := nI_clamp (by omega)
      simp [kzB, h2, h3, cf]
      exact if_m9 z0 (if_m9 (if_m9 z0 (hg f hf)) (hg f hf))
    · have ea := ih a V ha.1 hV
      have cf : (nI v).toNatClampNeg = v := nI_clamp (by omega)
      simp [kzB, h2, h3, h4, h5, cl a ha.1, cl b hb.1, cf]
      refine if_m9 z0 (ih b _ hb.1 ?_)
      intro w hw
      simp only [upd]
      exact if_m9 ea (hV w hw)
theorem kz_cg {g r g' : st_I} {n : Nat} (hp : pr_all g r n) (hc : ∀ k, 2 ≤ k → k ≤ 6 → ∀ e, e < n → g' k e = g k e) {ma gi : Nat → Int32} : ∀ d e V, e < n → kz g' ma gi d e V = kz g ma gi d e V := by
  intro d
  induction d with
  | zero => intro e V _; rfl
  | succ d ih =>
    intro e V he
    obtain ⟨hn, -, -, hrow⟩ := hp
    obtain ⟨-, -, -, hr⟩ := hrow e he
    show kzB g' ma gi (kz g' ma gi d) e V = kzB g ma gi (kz g ma gi d) e V
    have cl : ∀ a, a < n → (nI a).toNatClampNeg = a := fun a ha => nI_clamp (by omega)
    have e2 := hc 2 (by omega) (by omega) e he
    have e3 := hc 3 (by omega) (by omega) e he
    have e4 := hc 4 (by omega) (by omega) e he
    have e5 := hc 5 (by omega) (by omega) e he
    have e6 := hc 6 (by omega) (by omega) e he
    have kN : ∀ a V x, a < n → kzN g' a V x = kzN g a V x := by
      intro a V x ha
      unfold kzN
      rw [hc 2 (by omega) (by omega) a ha, hc 3 (by omega) (by omega) a ha]
    rcases hr with ⟨h2, v, hv, h3, -⟩ | ⟨h2, -⟩ | h2 | ⟨h2, a, b, ha, hb, h4, -, h5, -⟩ | ⟨h2, a, ha, h4, -⟩ | ⟨h2, m, a, b, c, hm9, h3, -, ha, hb, hc, h4, -, h5, -, h6, -⟩ | ⟨h2, f, a, hf, h3, -, ha, h4, -, hb⟩ | ⟨h2, v, a, b, hv, h3, -, ha, hb, h4, -, h5, -⟩
    · rcases h2 with h2 | h2 <;> simp [kzB, e2, h2, e3]
    · simp [kzB, e2, h2, e3]
    · rcases h2 with h2 | h2 <;> simp [kzB, e2, h2]
    · rcases h2 with h2 | h2 | h2 | h2 | h2 <;> simp [kzB, e2, e4, e5, h2, h4, h5, cl a ha.1, cl b hb.1, ih a _ ha.1, ih b _ hb.1]
    · rcases h2 with h2 | h2 <;> simp [kzB, e2, e4, h2, h4, cl a ha.1, ih a _ ha.1]
    · simp [kzB, e2, e3, e4, e5, e6, h2, h4, h5, h6, cl a ha.1, cl b hb.1, cl c hc.1, ih a _ ha.1, ih b _ hb.1, ih c _ hc.1, kN a _ _ ha.1]
    · have cf : (nI f).toNatClampNeg = f := nI_clamp (by omega)
      rcases hb with hb | ⟨b, hb, h5, -⟩
      · simp [kzB, e2, e3, e4, e5, h2, h3, h4, cl a ha.1, cf, Nat.not_le.mpr hb, ih a _ ha.1]
      · simp [kzB, e2, e3, e4, e5, h2, h3, h4, h5, cl a ha.1, cl b hb.1, cf, ih a _ ha.1, ih b _ hb.1]
    · simp [kzB, e2, e3, e4, e5, h2, h3, h4, h5, cl a ha.1, cl b hb.1, ih a _ ha.1, ih b _ hb.1]
def va (f : Nat) : Nat → Int32 := fun v => if v = 0 then 511 else if v = 1 ∧ 3 ≤ f then 511 else 0
def pmn (f : Nat) : Nat := if f < 3 then 1 else 2
def fG (g : st_I) (ma gi : Nat → Int32) (f : Nat) : Int32 := if g 9 f = -1 then 0 else kz g ma gi 7 (g 9 f).toNatClampNeg (va f)
def fK (g : st_I) (ma gi : Nat → Int32) (f i k : Nat) : Int32 := if g 9 f = -1 then 0 else kz g ma gi 7 (g 9 f).toNatClampNeg (upd (va f) i ((1 : Int32) <<< (nI k &&& 31)))
def pre (g : st_I) (ma gi : Nat → Int32) : Prop := (∀ f, f < 6 → lb (fG g ma gi f) (gi f)) ∧ ∀ f, f < 6 → ∀ i, i < pmn f → ∀ k, k < 9 → ¬ fK g ma gi f i k = 0 → bt (ma (2 * f + i)) k = true
def msk (ma gi : Nat → Int32) : Prop := (∀ f, f < 6 → m9 (gi f)) ∧ ∀ f, f < 6 → ∀ i, i < pmn f → m9 (ma (2 * f + i))
def leq (ma gi ma' gi' : Nat → Int32) : Prop := (∀ f, f < 6 → lb (gi f) (gi' f)) ∧ ∀ f, f < 6 → ∀ i, i < pmn f → lb (ma (2 * f + i)) (ma' (2 * f + i))
def pst (g : st_I) (ma gi : Nat → Int32) : Prop := (∀ f, f < 6 → lb (gi f) (fG g ma gi f)) ∧ ∀ f, f < 6 → ∀ i, i < pmn f → ∀ k, k < 9 → bt (ma (2 * f + i)) k = true → ¬ fK g ma gi f i k = 0
def low (g : st_I) (ma gi : Nat → Int32) : Prop := ∀ ma' gi', pre g ma' gi' → leq ma gi ma' gi'
def least (g : st_I) (ma gi : Nat → Int32) : Prop := pre g ma gi ∧ low g ma gi ∧ msk ma gi
def good (g : st_I) (ma gi : Nat → Int32) : Prop := pst g ma gi ∧ low g ma gi ∧ msk ma gi
def bod (g r : st_I) (n : Nat) : Prop := ∀ f, f < 6 → (g 9 f = -1 ∧ r 28 f = -1) ∨ ∃ e, e < n ∧ g 9 f = nI e ∧ r 28 f = nI e
theorem leq_rf (ma gi : Nat → Int32) : leq ma gi ma gi := ⟨fun _ _ => lb_rf _, fun _ _ _ _ => lb_rf _⟩
theorem leq_tr {ma gi ma' gi' ma2 gi2 : Nat → Int32} (h : leq ma gi ma' gi') (k : leq ma' gi' ma2 gi2) : leq ma gi ma2 gi2 := ⟨fun f hf => lb_tr (h.1 f hf) (k.1 f hf), fun f hf i hi => lb_tr (h.2 f hf i hi) (k.2 f hf i hi)⟩
theorem least_eq {g : st_I} {ma gi ma' gi' : Nat → Int32} (h : least g ma gi) (k : least g ma' gi') : (∀ f, f < 6 → gi f = gi' f) ∧ ∀ f, f < 6 → ∀ i, i < pmn f → ma (2 * f + i) = ma' (2 * f + i) :=
  ⟨fun f hf => lb_as ((h.2.1 _ _ k.1).1 f hf) ((k.2.1 _ _ h.1).1 f hf), fun f hf i hi => lb_as ((h.2.1 _ _ k.1).2 f hf i hi) ((k.2.1 _ _ h.1).2 f hf i hi)⟩
theorem leq_kz {g r : st_I} {n : Nat} (hp : pr_all g r n) {ma gi ma' gi' : Nat → Int32} (h : leq ma gi ma' gi') (d e : Nat) (V : Nat → Int32) (he : e < n) : lb (kz g ma gi d e V) (kz g ma' gi' d e V) := by
  refine kz_lb hp ?_ h.1 d e V V he (fun _ _ => lb_rf _)
  intro f hf
  refine ⟨h.2 f hf 0 (by unfold pmn; split <;> omega), fun h3 => h.2 f hf 1 (by unfold pmn; split <;> omega)⟩
theorem fG_lb {g r : st_I} {n : Nat} (hp : pr_all g r n) (hb : bod g r n) {ma gi ma' gi' : Nat → Int32} (h : leq ma gi ma' gi') {f : Nat} (hf : f < 6) : lb (fG g ma gi f) (fG g ma' gi' f) := by
  unfold fG
  rcases hb f hf with ⟨h1, -⟩ | ⟨e, he, h1, -⟩
  · simp only [h1, if_true]; exact lb_rf _
  · have h2 : ¬ g 9 f = -1 := by rw [h1]; intro z; have := congrArg (fun x => decide (x < 0)) z; simp [nI_pos (show e < 2 ^ 31 by have := hp.1; omega)] at this
    rw [if_neg h2, if_neg h2, h1, nI_clamp (by have := hp.1; omega)]
    exact leq_kz hp h 7 e _ he
theorem fK_lb {g r : st_I} {n : Nat} (hp : pr_all g r n) (hb : bod g r n) {ma gi ma' gi' : Nat → Int32} (h : leq ma gi ma' gi') {f : Nat} (hf : f < 6) (i k : Nat) : lb (fK g ma gi f i k) (fK g ma' gi' f i k) := by
  unfold fK
  rcases hb f hf with ⟨h1, -⟩ | ⟨e, he, h1, -⟩
  · simp only [h1, if_true]; exact lb_rf _
  · have h2 : ¬ g 9 f = -1 := by rw [h1]; intro z; have := congrArg (fun x => decide (x < 0)) z; simp [nI_pos (show e < 2 ^ 31 by have := hp.1; omega)] at this
    rw [if_neg h2, if_neg h2, h1, nI_clamp (by have := hp.1; omega)]
    exact leq_kz hp h 7 e _ he
theorem va_m9 (f : Nat) : ∀ v, m9 (va f v) := by
  obtain ⟨z0, -, -, -, z511, -⟩ := m9_c
  intro v
  unfold va
  exact if_m9 z511 (if_m9 z511 z0)
theorem fG_m9 {g r : st_I} {n : Nat} (hp : pr_all g r n) (hb : bod g r n) {ma gi : Nat → Int32} (h : ∀ f, f < 6 → m9 (gi f)) {f : Nat} (hf : f < 6) : m9 (fG g ma gi f) := by
  unfold fG
  rcases hb f hf with ⟨h1, -⟩ | ⟨e, he, h1, -⟩
  · simp only [h1, if_true]; exact m9_c.1
  · refine if_m9 m9_c.1 ?_
    rw [h1, nI_clamp (by have := hp.1; omega)]
    exact kz_m9 hp h 7 e _ he (fun v _ => va_m9 f v)
