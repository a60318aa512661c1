def nt1 (g0 : st_I) (o : Nat → Int32) (p : Nat × Int32) : Nat → Int32 := if g0 2 p.1 = 10 then (if p.2 = 0 then (if o p.1 = 0 then upd o p.1 1 else o) else upd o p.1 2) else o
def nt (g0 : st_I) (o : Nat → Int32) (T : List (Nat × Int32)) : Nat → Int32 := T.foldl (nt1 g0) o
def c13 (g : st_I) (o : Nat → Int32) : st_I := fun k => if k = 13 then o else g k
theorem nt_app (g0 : st_I) (o : Nat → Int32) (A B : List (Nat × Int32)) : nt g0 o (A ++ B) = nt g0 (nt g0 o A) B := List.foldl_append
theorem nt_nil (g0 : st_I) (o : Nat → Int32) : nt g0 o [] = o := rfl
theorem nt_no (g0 : st_I) (o : Nat → Int32) (e : Nat) (x : Int32) (h : ¬ g0 2 e = 10) : nt g0 o [(e, x)] = o := by simp [nt, nt1, h]
theorem c13_c (g : st_I) (o o' : Nat → Int32) : c13 (c13 g o) o' = c13 g o' := by funext k; simp only [c13]; split <;> rfl
theorem c13_s (g : st_I) : c13 g (g 13) = g := by funext k; simp only [c13]; split <;> simp_all
theorem c13_13 (g : st_I) (o : Nat → Int32) : c13 g o 13 = o := rfl
theorem c13_o (g : st_I) (o : Nat → Int32) (k : Nat) (h : k ≠ 13) : c13 g o k = g k := by simp [c13, h]
theorem c13_u (g : st_I) (i : Nat) (x : Int32) : st_u g 13 i x = c13 g (upd (g 13) i x) := by
  funext k; simp only [c13, st_u]; split <;> simp_all
theorem ex_note (g0 g : st_I) (e : Nat) (he : e < 90) (x : Int32) (h2 : g0 2 e = 10) (q : st_L) (Q : st_S → Prop) (h : Q (c13 g (nt g0 (g 13) [(e, x)]), q)) : wp_K_note (nI e) x g q Q := by
  have ce : (nI e).toNatClampNeg = e := nI_clamp (by omega)
  have vi : vp_in (nI e) 90 := vp_in_nI he (by omega)
  simp only [nt, List.foldl, nt1, h2, if_true] at h
  simp only [wp_K_note, wp_K_note_L30, ce, vi, true_and, c13_u]
  by_cases h1 : x = 0
  · by_cases h3 : g 13 e = 0
    · simp [h1, h3] at h ⊢; exact h
    · simp [h1, h3, c13_s] at h ⊢; exact h
  · simp [h1] at h ⊢; exact h
theorem ex_narr (g0 g : st_I) {n : Nat} {r : st_I} (hp : pr_all g0 r n) (a : Nat) (ha : a < n) (s : Int64) (V : Nat → Int32) (x : Int32) (hx : m9 x) (q : st_L) (Q : Int64 → st_S → Prop) (hV : ∀ v, v < 4 → so s (nI v) = V v) (hg : ∀ k, k ≠ 13 → g k = g0 k) (h : ∀ s', (∀ v, v < 4 → so s' (nI v) = kzN g0 a V x v) → Q s' (g, q)) : wp_K_narrowed s (nI a) x g q Q := by
  have hn := hp.1
  have ca : (nI a).toNatClampNeg = a := nI_clamp (by omega)
  have vi : vp_in (nI a) 91 := vp_in_nI (by omega) (by omega)
  simp only [wp_K_narrowed, wp_K_narrowed_L31, ca, vi, true_and, ex_with, hg 2 (by decide), hg 3 (by decide)]
  by_cases h2 : g0 2 a = 0
  · simp only [h2, not_true, false_imp_iff, true_imp_iff, true_and]
    refine h _ (fun v hv => ?_)
    obtain ⟨-, -, -, hr⟩ := hp.2.2.2 a ha
    have h3 : ∃ w, w < 4 ∧ g0 3 a = nI w := by
      rcases hr with ⟨-, w, hw, h3, -⟩ | ⟨z, -⟩ | z | ⟨z, -⟩ | ⟨z, -⟩ | ⟨z, -⟩ | ⟨z, -⟩ | ⟨z, -⟩
      · exact ⟨w, hw, h3⟩
      · rw [h2] at z; exact absurd z (by decide)
      · rw [h2] at z; exact absurd z (by decide)
      · rw [h2] at z; exact absurd z (by decide)
      · rw [h2] at z; exact absurd z (by decide)
      · rw [h2] at z; exact absurd z (by decide)
      · rw [h2] at z; exact absurd z (by decide)
      · rw [h2] at z; exact absurd z (by decide)
    obtain ⟨w, hw, h3⟩ := h3
    rw [h3, so_wt s w v hw hv x hx]
    simp only [kzN, h2, if_true, h3, nI_clamp (show w < 2 ^ 31 by omega), upd]
    by_cases hwv : v = w
    · simp [hwv]
    · simp [hwv, hV v hv]
  · simp only [h2, not_false_eq_true, false_imp_iff, true_imp_iff, and_true]
    refine h _ (fun v hv => ?_)
    rw [hV v hv]
    simp only [kzN, h2, if_false]
theorem ck {g0 r : st_I} {n : Nat} (hp : pr_all g0 r n) {ma gi : Nat → Int32} (hma : ∀ f, f < 6 → g0 11 (2 * f) = ma (2 * f) ∧ (3 ≤ f → g0 11 (2 * f + 1) = ma (2 * f + 1))) (hgi : ∀ f, f < 6 → g0 12 f = gi f) (hm9 : ∀ f, f < 6 → m9 (gi f)) : ∀ d e s V g q Q, e < n → (g0 7 e).toNatClampNeg < d → (∀ v, v < 4 → so s (nI v) = V v) → (∀ k, k ≠ 13 → g k = g0 k) → Q (kz g0 ma gi d e V) (c13 g (nt g0 (g 13) (kt g0 ma gi d e V)), q) → wp_K_kinds d (nI e) s g q Q := by
  intro d
  induction d with
  | zero => intro e s V g q Q _ hd; exact absurd hd (by omega)
  | succ d ih =>
    intro e s V g q Q he hd hV hg hQ
    have hn := hp.1
    obtain ⟨-, -, -, hr⟩ := hp.2.2.2 e he
    have cl : ∀ a, a < n → (nI a).toNatClampNeg = a := fun a ha => nI_clamp (by omega)
    have vi : vp_in (nI e) 91 := vp_in_nI (by omega) (by omega)
    have hV9 : ∀ v, v < 4 → m9 (V v) := fun v hv => hV v hv ▸ so_m9 _ _
    have hk9 : ∀ a V, a < n → (∀ v, v < 4 → m9 (V v)) → m9 (kz g0 ma gi d a V) := fun a V ha hV => kz_m9 hp hm9 d a V ha hV
    have g2 := hg 2 (by decide)
    have g3 := hg 3 (by decide)
    have g4 := hg 4 (by decide)
    have g5 := hg 5 (by decide)
    have g6 := hg 6 (by decide)
    show wp_K_kinds_B (wp_K_kinds d) (nI e) s g q Q
    have hkt : kt g0 ma gi (d + 1) e V = ktB g0 (kz g0 ma gi d) (kt g0 ma gi d) e V ++ [(e, kzB g0 ma gi (kz g0 ma gi d) e V)] := rfl
    have hkz : kz g0 ma gi (d + 1) e V = kzB g0 ma gi (kz g0 ma gi d) e V := rfl
    rw [hkt, hkz, nt_app] at hQ
    rcases hr with ⟨h2, v, hv, h3, -⟩ | ⟨h2, -⟩ | h2 | ⟨h2, a, b, ha, hb, h4, -, h5, -⟩ | ⟨h2, a, ha, h4, -⟩ | ⟨h2, m, a, b, c, hm9, h3, -, ha, hb, hc, h4, -, h5, -, h6, -⟩ | ⟨h2, f, a, hf, h3, -, ha, h4, -, hb⟩ | ⟨h2, v, a, b, hv, h3, -, ha, hb, h4, -, h5, -⟩
    · have cv : (nI v).toNatClampNeg = v := nI_clamp (by omega)
      rcases h2 with h2 | h2
      · simp [kzB, ktB, h2, nt_nil, nt_no, h3, cv, c13_s] at hQ
        simp [wp_K_kinds_B, cl e he, g2, g3, h2, h3, vi, ex_setOf, hV v hv]
        exact hQ
      · simp [kzB, ktB, h2, nt_nil, nt_no, h3, cv, c13_s] at hQ
        simp [wp_K_kinds_B, cl e he, g2, g3, h2, h3, vi]
        exact hQ
    · simp [kzB, ktB, h2, nt_nil, nt_no, c13_s] at hQ
      simp [wp_K_kinds_B, cl e he, g2, g3, h2, vi, ex_kon]
      exact hQ
    · rcases h2 with h2 | h2
      · simp [kzB, ktB, h2, nt_nil, nt_no, c13_s] at hQ
        simp [wp_K_kinds_B, cl e he, g2, h2, vi]
        exact hQ
      · simp [kzB, ktB, h2, nt_nil, nt_no, c13_s] at hQ
        simp [wp_K_kinds_B, cl e he, g2, h2, vi]
        exact hQ
    · have hg' : ∀ o, ∀ k, k ≠ 13 → c13 g o k = g0 k := fun o k hk => by rw [c13_o g o k hk, hg k hk]
      have two : wp_K_kindsOfTwo (wp_K_kinds d) (nI e) s g q Q := by
        simp only [wp_K_kindsOfTwo, cl e he, vi, true_and, g4, h4]
        refine ih a s V g q _ ha.1 (by have := ha.2; omega) hV hg ?_
        simp only [hg' _ 5 (by decide), h5]
        refine ih b s V _ q _ hb.1 (by have := hb.2; omega) hV (hg' _) ?_
        simp only [c13_c, c13_13, hg' _ 2 (by decide)]
        rcases h2 with h2 | h2 | h2 | h2 | h2
        · simp [kzB, ktB, h2, nt_no, h4, h5, cl a ha.1, cl b hb.1, nt_app] at hQ
          simp only [h2]
          by_cases z1 : kz g0 ma gi d a V = 0
          · simp [z1, wp_K_kindsOfTwo_L66] at hQ ⊢; exact hQ
          · by_cases z2 : kz g0 ma gi d b V = 0
            · simp [z1, z2, wp_K_kindsOfTwo_L66] at hQ ⊢; exact hQ
            · simp [z1, z2, wp_K_kindsOfTwo_L99] at hQ ⊢
              exact ex_nk _ _ _ _ _ _ hQ
        · simp [kzB, ktB, h2, nt_no, h4, h5, cl a ha.1, cl b hb.1, nt_app] at hQ
          simp only [h2]
          by_cases z1 : kz g0 ma gi d a V = 0
          · simp [z1, wp_K_kindsOfTwo_L66] at hQ ⊢; exact hQ
          · by_cases z2 : kz g0 ma gi d b V = 0
            · simp [z1, z2, wp_K_kindsOfTwo_L66] at hQ ⊢; exact hQ
            · simp [z1, z2, wp_K_kindsOfTwo_L99] at hQ ⊢
              exact ex_nk _ _ _ _ _ _ hQ
        · simp [kzB, ktB, h2, nt_no, h4, h5, cl a ha.1, cl b hb.1, nt_app] at hQ
          simp only [h2]
          by_cases z1 : kz g0 ma gi d a V = 0
          · simp [z1, wp_K_kindsOfTwo_L66] at hQ ⊢; exact hQ
          · by_cases z2 : kz g0 ma gi d b V = 0
            · simp [z1, z2, wp_K_kindsOfTwo_L66] at hQ ⊢; exact hQ
            · simp [z1, z2] at hQ ⊢; exact hQ
        · simp [kzB, ktB, h2, nt_no, h4, h5, cl a ha.1, cl b hb.1, nt_app] at hQ
          simp [h2]; exact hQ
        · simp [kzB, ktB, h2, nt_no, h4, h5, cl a ha.1, cl b hb.1, nt_app] at hQ
          simp only [h2]
          by_cases z1 : kz g0 ma gi d a V = 0
          · simp [z1, wp_K_kindsOfTwo_L66] at hQ ⊢; exact hQ
          · by_cases z2 : kz g0 ma gi d b V = 0
            · simp [z1, z2, wp_K_kindsOfTwo_L66] at hQ ⊢; exact hQ
            · simp [z1, z2, wp_K_kindsOfTwo_L99] at hQ ⊢; exact hQ
      rcases h2 with h2 | h2 | h2 | h2 | h2 <;> simp [wp_K_kinds_B, wp_K_kinds_L173, cl e he, g2, h2, vi] <;> exact two
    · have hg' : ∀ o, ∀ k, k ≠ 13 → c13 g o k = g0 k := fun o k hk => by rw [c13_o g o k hk, hg k hk]
      have one : wp_K_kinds_L120 (wp_K_kinds d) Q g q (nI e) s := by
        simp only [wp_K_kinds_L120, cl e he, vi, true_and, g4, h4]
        refine ih a s V g q _ ha.1 (by have := ha.2; omega) hV hg ?_
        simp only [ex_has, wp_K_kinds_L149]
        rcases h2 with h2 | h2
        · simp [kzB, ktB, h2, nt_no, h4, cl a ha.1] at hQ
          by_cases z : hs (kz g0 ma gi d a V) 8 = true
          · simp [z] at hQ ⊢; exact hQ
          · simp [z] at hQ ⊢; exact hQ
        · simp [kzB, ktB, h2, nt_no, h4, cl a ha.1] at hQ
          by_cases z : hs (kz g0 ma gi d a V) 8 = true
          · simp [z] at hQ ⊢; exact hQ
          · simp [z] at hQ ⊢; exact hQ
      rcases h2 with h2 | h2 <;> simp [wp_K_kinds_B, cl e he, g2, h2, vi] <;> exact one
    · have hg' : ∀ o, ∀ k, k ≠ 13 → c13 g o k = g0 k := fun o k hk => by rw [c13_o g o k hk, hg k hk]
      simp [kzB, ktB, h2, nt_no, h4, h5, h6, cl a ha.1, cl b hb.1, cl c hc.1, nt_app] at hQ
      simp [wp_K_kinds_B, cl e he, g2, h2, vi]
      have hnm : ∀ x : Int32, x ^^^ (-1) = nm x := fun _ => rfl
      simp only [wp_K_caseKinds, wp_K_caseKinds_L82, wp_K_caseKinds_L114, cl e he, vi, true_and, g4, g3, h4, hnm]
      refine ih a s V g q _ ha.1 (by have := ha.2; omega) hV hg ?_
      have ka := hk9 a V ha.1 hV9
      simp only [hg' _ 5 (by decide), hg' _ 6 (by decide), h5, h6]
      have third : ∀ (g1 : st_I) (x : Int32), (∀ k, k ≠ 13 → g1 k = g0 k) → Q (x ||| (if kz g0 ma gi d a V &&& nm (g0 3 e) = 0 then 0 else kz g0 ma gi d c (kzN g0 a V (kz g0 ma gi d a V &&& nm (g0 3 e))))) (c13 g1 (nt g0 (g1 13) (if kz g0 ma gi d a V &&& nm (g0 3 e) = 0 then [] else kt g0 ma gi d c (kzN g0 a V (kz g0 ma gi d a V &&& nm (g0 3 e))))), q) → (kz g0 ma gi d a V &&& nm (g0 3 e) = 0 → Q x (g1, q)) ∧ (¬ kz g0 ma gi d a V &&& nm (g0 3 e) = 0 → wp_K_narrowed s (nI a) (kz g0 ma gi d a V &&& nm (g0 3 e)) g1 q (fun x105 u105 => wp_K_kinds d (nI c) x105 u105.1 u105.2 (fun x108 u108 => Q (x ||| x108) (u108.1, u108.2)))) := by
        intro g1 x hg1 hx
        constructor
        · intro z
          simp only [z, if_true, nt_nil, c13_s] at hx
          simpa using hx
        · intro z
          simp only [z, if_false] at hx
          refine ex_narr g0 g1 hp a ha.1 s V _ (m9_an ka) q _ hV hg1 (fun s' hs' => ?_)
          exact ih c s' _ g1 q _ hc.1 (by have := hc.2; omega) hs' hg1 hx
      constructor
      · intro z
        simp only [z, if_true, nt_nil] at hQ
        refine third _ 0 (hg' _) ?_
        rw [c13_c, c13_13]
        exact hQ
      · intro z
        simp only [z, if_false] at hQ
        refine ex_narr g0 _ hp a ha.1 s V _ (m9_an ka) q _ hV (hg' _) (fun s' hs' => ?_)
        refine ih b s' _ _ q _ hb.1 (by have := hb.2; omega) hs' (hg' _) ?_
        simp only [c13_c, c13_13]
        have t := third (c13 g (nt g0 (nt g0 (g 13) (kt g0 ma gi d a V)) (kt g0 ma gi d b (kzN g0 a V (kz g0 ma gi d a V &&& g0 3 e))))) (0 ||| kz g0 ma gi d b (kzN g0 a V (kz g0 ma gi d a V &&& g0 3 e))) (hg' _) ?_
        · rw [c13_o _ _ 6 (by decide), g6, h6]; exact t
        · rw [c13_c, c13_13]
          simpa using hQ
    · have hg' : ∀ o, ∀ k, k ≠ 13 → c13 g o k = g0 k := fun o k hk => by rw [c13_o g o k hk, hg k hk]
      have cf : (nI f).toNatClampNeg = f := nI_clamp (by omega)
      have m2 : nI f * (2 : Int32) = nI (2 * f) := by rw [Nat.mul_comm]; exact pk_mul f 2
      have m21 : nI (2 * f) + (1 : Int32) = nI (2 * f + 1) := nI_1 _
      have c2 : (nI (2 * f)).toNatClampNeg = 2 * f := nI_clamp (by omega)
      have c21 : (nI (2 * f + 1)).toNatClampNeg = 2 * f + 1 := nI_clamp (by omega)
      have vf : vp_in (nI f) 6 := vp_in_nI hf (by omega)
      have v2 : vp_in (nI (2 * f)) 12 := vp_in_nI (by omega) (by omega)
      have v21 : vp_in (nI (2 * f + 1)) 12 := vp_in_nI (by omega) (by omega)
      have le3 : ((3 : Int32) ≤ nI f) ↔ 3 ≤ f := nI_leI (a := 3) (by omega) (by omega)
      have hM := hma f hf
      have hG := hgi f hf
      simp [kzB, ktB, h2, h3, h4, cl a ha.1, cf, nt_app] at hQ
      simp [wp_K_kinds_B, cl e he, g2, h2, vi]
      have fin : ∀ (g1 : st_I) (x : Int32), (∀ k, k ≠ 13 → g1 k = g0 k) → Q x (c13 g1 (nt g0 (g1 13) [(e, x)]), q) → wp_K_callKinds_L113 (wp_K_kinds d) Q g1 q (nI e) x := by
        intro g1 x hg1 hx
        exact ex_note g0 g1 e (by omega) x h2 q _ hx
      simp only [wp_K_callKinds, wp_K_callKinds_L43, wp_K_callKinds_L94, wp_K_callKinds_L97, cl e he, vi, true_and, g4, g3, h3, h4, m2, m21, c2, c21, v2, v21, ex_pms, le3, cf, vf]
      refine ih a s V g q _ ha.1 (by have := ha.2; omega) hV hg ?_
      simp only [hg' _ 11 (by decide), hg' _ 12 (by decide), hg' _ 5 (by decide), hM.1, hG]
      rcases hb with hb | ⟨b, hb, h5, -⟩
      · have h3' : ¬ 3 ≤ f := by omega
        simp only [h3', if_false, nt_nil] at hQ
        by_cases z : kz g0 ma gi d a V &&& ma (2 * f) = 0
        · simp [z, h3'] at hQ ⊢
          exact fin _ _ (hg' _) (by rw [c13_c, c13_13]; exact hQ)
        · simp [z, h3'] at hQ ⊢
          exact fin _ _ (hg' _) (by rw [c13_c, c13_13]; exact hQ)
      · by_cases h3' : 3 ≤ f
        · simp only [h3', if_true, h5, cl b hb.1] at hQ
          have hM2 := hM.2 h3'
          have second : ∀ (t0 : Int32), (if t0 = 0 then (Q 0 (c13 g (nt g0 (nt g0 (nt g0 (g 13) (kt g0 ma gi d a V)) (kt g0 ma gi d b V)) [(e, 0)]), q)) else if kz g0 ma gi d b V &&& ma (2 * f + 1) = 0 then (Q 0 (c13 g (nt g0 (nt g0 (nt g0 (g 13) (kt g0 ma gi d a V)) (kt g0 ma gi d b V)) [(e, 0)]), q)) else (Q (gi f) (c13 g (nt g0 (nt g0 (nt g0 (g 13) (kt g0 ma gi d a V)) (kt g0 ma gi d b V)) [(e, gi f)]), q))) → (t0 = 0 ∨ t0 = 1) → wp_K_kinds d (nI b) s (c13 g (nt g0 (g 13) (kt g0 ma gi d a V))) q (fun x65 u65 => (x65 &&& u65.1 11 (2 * f + 1) = 0 → (t0 &&& 0 = 0 → wp_K_callKinds_L113 (wp_K_kinds d) Q u65.1 u65.2 (nI e) 0) ∧ (¬ t0 &&& 0 = 0 → wp_K_callKinds_L113 (wp_K_kinds d) Q u65.1 u65.2 (nI e) (u65.1 12 f))) ∧ (¬ x65 &&& u65.1 11 (2 * f + 1) = 0 → (t0 &&& 1 = 0 → wp_K_callKinds_L113 (wp_K_kinds d) Q u65.1 u65.2 (nI e) 0) ∧ (¬ t0 &&& 1 = 0 → wp_K_callKinds_L113 (wp_K_kinds d) Q u65.1 u65.2 (nI e) (u65.1 12 f)))) := by
            intro t0 ht hz
            refine ih b s V _ q _ hb.1 (by have := hb.2; omega) hV (hg' _) ?_
            simp only [c13_c, c13_13, hg' _ 11 (by decide), hg' _ 12 (by decide), hM2, hG]
            have F : ∀ x, Q x (c13 g (nt g0 (nt g0 (nt g0 (g 13) (kt g0 ma gi d a V)) (kt g0 ma gi d b V)) [(e, x)]), q) → wp_K_callKinds_L113 (wp_K_kinds d) Q (c13 g (nt g0 (nt g0 (g 13) (kt g0 ma gi d a V)) (kt g0 ma gi d b V))) q (nI e) x := fun x hx => fin _ _ (hg' _) (by rw [c13_c, c13_13]; exact hx)
            rcases hz with rfl | rfl
            · simp at ht ⊢
              exact F _ ht
            · by_cases z : kz g0 ma gi d b V &&& ma (2 * f + 1) = 0
              · simp [z] at ht ⊢
                exact F _ ht
              · simp [z] at ht ⊢
                exact F _ ht
          by_cases z : kz g0 ma gi d a V &&& ma (2 * f) = 0
          · simp only [z, if_true] at hQ
            simp only [z, h3', h5, not_true, false_imp_iff, true_imp_iff, and_true]
            simpa [hb.1] using second 0 (by simpa using hQ) (Or.inl rfl)
          · simp only [z, if_false] at hQ
            simp only [z, h3', h5, not_true, false_imp_iff, true_imp_iff, and_true, not_false_eq_true, true_and]
            have := second 1 (by by_cases z2 : kz g0 ma gi d b V &&& ma (2 * f + 1) = 0 <;> simp [z2] at hQ ⊢ <;> exact hQ) (Or.inr rfl)
            simpa using this
        · simp only [h3', if_false, nt_nil] at hQ
          by_cases z : kz g0 ma gi d a V &&& ma (2 * f) = 0
          · simp [z, h3'] at hQ ⊢
            exact fin _ _ (hg' _) (by rw [c13_c, c13_13]; exact hQ)
          · simp [z, h3'] at hQ ⊢
            exact fin _ _ (hg' _) (by rw [c13_c, c13_13]; exact hQ)
    · have hg' : ∀ o, ∀ k, k ≠ 13 → c13 g o k = g0 k := fun o k hk => by rw [c13_o g o k hk, hg k hk]
      have hv4 : v < 4 := by omega
      have cv : (nI v).toNatClampNeg = v := nI_clamp (by omega)
      simp [kzB, ktB, h2, nt_no, h3, h4, h5, cl a ha.1, cl b hb.1, cv, nt_app] at hQ
      simp [wp_K_kinds_B, cl e he, g2, h2, vi]
      simp only [wp_K_letKinds, cl e he, vi, true_and, g4, h4, ex_with]
      refine ih a s V g q _ ha.1 (by have := ha.2; omega) hV hg ?_
      simp only [hg' _ 3 (by decide), hg' _ 5 (by decide), h3, h5]
      have ka := hk9 a V ha.1 hV9
      by_cases z : kz g0 ma gi d a V = 0
      · simp [z, nt_nil] at hQ ⊢
        exact hQ
      · simp only [z, if_false] at hQ
        simp only [z, false_imp_iff, not_false_eq_true, true_imp_iff, and_true]
        refine ih b _ (upd V v (kz g0 ma gi d a V)) _ q _ hb.1 (by have := hb.2; omega) ?_ (hg' _) ?_
        · intro w hw
          rw [so_wt s v w hv4 hw _ ka]
          simp only [upd]
          by_cases hwv : w = v
          · simp [hwv]
          · simp [hwv, hV w hw]
        · rw [c13_c, c13_13]; exact hQ
