theorem if_lb {c c' : Prop} [Decidable c] [Decidable c'] {x x' : Int32} (h : c' → c) (k : ¬ c → lb x x') : lb (if c then 0 else x) (if c' then 0 else x') := by
  by_cases h1 : c
  · rw [if_pos h1]; exact lb_z _
  · rw [if_neg h1, if_neg (fun z => h1 (h z))]; exact k h1
theorem kzN_lb {g : st_I} {a : Nat} {V V' : Nat → Int32} {x x' : Int32} (h : ∀ v, v < 4 → lb (V v) (V' v)) (k : lb x x') : ∀ v, v < 4 → lb (kzN g a V x v) (kzN g a V' x' v) := by
  intro v hv
  unfold kzN
  by_cases h1 : g 2 a = 0
  · simp only [h1, if_true, upd]
    by_cases h2 : v = (g 3 a).toNatClampNeg
    · simp [h2, k]
    · simp [h2, h v hv]
  · simp only [h1, if_false]
    exact h v hv
theorem upd_lb {a : Nat} {V V' : Nat → Int32} {x x' : Int32} (h : ∀ v, v < 4 → lb (V v) (V' v)) (k : lb x x') : ∀ v, v < 4 → lb (upd V a x v) (upd V' a x' v) := by
  intro v hv
  simp only [upd]
  by_cases h2 : v = a
  · simp [h2, k]
  · simp [h2, h v hv]
theorem kz_lb {g r : st_I} {n : Nat} (hp : pr_all g r n) {ma gi ma' gi' : Nat → Int32} (hm : ∀ f, f < 6 → lb (ma (2 * f)) (ma' (2 * f)) ∧ (3 ≤ f → lb (ma (2 * f + 1)) (ma' (2 * f + 1)))) (hg : ∀ f, f < 6 → lb (gi f) (gi' f)) : ∀ d e V V', e < n → (∀ v, v < 4 → lb (V v) (V' v)) → lb (kz g ma gi d e V) (kz g ma' gi' d e V') := by
  intro d
  induction d with
  | zero => intro e V V' _ _; exact lb_rf _
  | succ d ih =>
    intro e V V' he hV
    obtain ⟨hn, -, -, hrow⟩ := hp
    obtain ⟨-, -, -, hr⟩ := hrow e he
    show lb (kzB g ma gi (kz g ma gi d) e V) (kzB g ma' gi' (kz g ma' gi' d) e V')
    have cl : ∀ a, a < n → (nI a).toNatClampNeg = a := fun a ha => nI_clamp (by omega)
    rcases hr with ⟨h2, v, hv, h3, -⟩ | ⟨h2, -⟩ | h2 | ⟨h2, a, b, ha, hb, h4, -, h5, -⟩ | ⟨h2, a, ha, h4, -⟩ | ⟨h2, m, a, b, c, hm9, h3, -, ha, hb, hc, h4, -, h5, -, h6, -⟩ | ⟨h2, f, a, hf, h3, -, ha, h4, -, hb⟩ | ⟨h2, v, a, b, hv, h3, -, ha, hb, h4, -, h5, -⟩
    · rcases h2 with h2 | h2
      · simp only [kzB, h2, if_true, h3, nI_clamp (show v < 2 ^ 31 by omega)]
        exact hV v hv
      · simp [kzB, h2, lb_rf]
    · simp [kzB, h2, lb_rf]
    · rcases h2 with h2 | h2 <;> simp [kzB, h2, lb_rf]
    · have ea := ih a V V' ha.1 hV
      have eb := ih b V V' hb.1 hV
      rcases h2 with h2 | h2 | h2 | h2 | h2
      · simp [kzB, h2, h4, h5, cl a ha.1, cl b hb.1]
        exact if_lb (fun z => lb_0 (z ▸ ea)) (fun _ => if_lb (fun z => lb_0 (z ▸ eb)) (fun _ => nk_lb ea eb))
      · simp [kzB, h2, h4, h5, cl a ha.1, cl b hb.1]
        exact if_lb (fun z => lb_0 (z ▸ ea)) (fun _ => if_lb (fun z => lb_0 (z ▸ eb)) (fun _ => nk_lb ea eb))
      · simp [kzB, h2, h4, h5, cl a ha.1, cl b hb.1]
        exact if_lb (fun z => lb_0 (z ▸ ea)) (fun _ => if_lb (fun z => lb_0 (z ▸ eb)) (fun _ => lb_rf _))
      · simp [kzB, h2, h4, h5, cl a ha.1, cl b hb.1]
        exact lb_or ea eb
      · simp [kzB, h2, h4, h5, cl a ha.1, cl b hb.1]
        exact if_lb (fun z => lb_0 (z ▸ ea)) (fun _ => if_lb (fun z => lb_0 (z ▸ eb)) (fun _ => lb_rf _))
    · have ea := ih a V V' ha.1 hV
      have h8 : hs (kz g ma gi d a V) 8 = true → hs (kz g ma' gi' d a V') 8 = true := hs_lb ea 8 (by omega)
      rcases h2 with h2 | h2
      · simp [kzB, h2, h4, cl a ha.1]
        by_cases z : hs (kz g ma gi d a V) 8 = true
        · rw [if_pos z, if_pos (h8 z)]; exact lb_rf _
        · rw [if_neg z]; exact lb_z _
      · simp [kzB, h2, h4, cl a ha.1]
        by_cases z : hs (kz g ma gi d a V) 8 = true
        · rw [if_pos z, if_pos (h8 z)]; exact lb_rf _
        · rw [if_neg z]; exact lb_z _
    · have ea := ih a V V' ha.1 hV
      simp [kzB, h2, h4, h5, h6, cl a ha.1, cl b hb.1, cl c hc.1]
      have e1 := lb_an ea (lb_rf (g 3 e))
      have e2 := lb_an ea (lb_rf (nm (g 3 e)))
      exact lb_or (if_lb (fun z => lb_0 (z ▸ e1)) (fun _ => ih b _ _ hb.1 (kzN_lb hV e1))) (if_lb (fun z => lb_0 (z ▸ e2)) (fun _ => ih c _ _ hc.1 (kzN_lb hV e2)))
    · have ea := ih a V V' ha.1 hV
      have cf : (nI f).toNatClampNeg = f := nI_clamp (by omega)
      have e1 := lb_an ea (hm f hf).1
      rcases hb with hb | ⟨b, hb, h5, -⟩
      · simp [kzB, h2, h3, h4, cl a ha.1, cf, Nat.not_le.mpr hb]
        exact if_lb (fun z => lb_0 (z ▸ e1)) (fun _ => hg f hf)
      · have eb := ih b V V' hb.1 hV
        simp [kzB, h2, h3, h4, h5, cl a ha.1, cl b hb.1, cf]
        by_cases hf3 : 3 ≤ f
        · simp only [hf3, if_true]
          have e2 := lb_an eb ((hm f hf).2 hf3)
          exact if_lb (fun z => lb_0 (z ▸ e1)) (fun _ => if_lb (fun z => lb_0 (z ▸ e2)) (fun _ => hg f hf))
        · simp only [hf3, if_false]
          exact if_lb (fun z => lb_0 (z ▸ e1)) (fun _ => hg f hf)
    · have ea := ih a V V' ha.1 hV
      have cf : (nI v).toNatClampNeg = v := nI_clamp (by omega)
      simp [kzB, h2, h3, h4, h5, cl a ha.1, cl b hb.1, cf]
      exact if_lb (fun z => lb_0 (z ▸ ea)) (fun _ => ih b _ _ hb.1 (upd_lb hV ea))
