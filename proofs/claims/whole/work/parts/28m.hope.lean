def trel (g : st_I) (o c v : Nat → Int32) (e : Nat) : Prop := (g 2 e = 10 → (o e = 0 ∧ c e = 0 ∧ v e = 0) ∨ (o e = 1 ∧ ¬ c e = 0 ∧ v e = 0) ∨ (o e = 2 ∧ ¬ c e = 0 ∧ ¬ v e = 0)) ∧ (¬ g 2 e = 10 → o e = 0)
theorem trel_1 (g : st_I) (o c v : Nat → Int32) (e : Nat) (p : Nat × Int32) (h : trel g o c v e) : trel g (nt1 g o p) (upd c p.1 1) (upd v p.1 (if ¬ v p.1 = 0 then 1 else if p.2 = 0 then 0 else 1)) e := by
  obtain ⟨h1, h2⟩ := h
  by_cases z : e = p.1
  · subst z
    refine ⟨fun w => ?_, fun w => ?_⟩
    · have := h1 w
      simp only [nt1, w, if_true]
      by_cases w2 : p.2 = 0
      · rcases this with ⟨a, b, c⟩ | ⟨a, b, c⟩ | ⟨a, b, c⟩ <;> simp [w2, a, b, c, upd]
      · rcases this with ⟨a, b, c⟩ | ⟨a, b, c⟩ | ⟨a, b, c⟩ <;> simp [w2, a, b, c, upd]
    · simp only [nt1, w, if_false]
      exact h2 w
  · have e1 : nt1 g o p e = o e := by
      simp only [nt1]
      repeat' split
      all_goals simp [upd, z]
    unfold trel
    rw [e1]
    simp only [upd, z, if_false]
    exact ⟨h1, h2⟩
theorem trel_T (g : st_I) (e : Nat) : ∀ (T : List (Nat × Int32)) (o c v : Nat → Int32), trel g o c v e → trel g (nt g o T) (cm c T) (gv v T) e := by
  intro T
  induction T with
  | nil => intro o c v h; exact h
  | cons p T ih => intro o c v h; exact ih _ _ _ (trel_1 g o c v e p h)
theorem nt_out (g : st_I) (e : Nat) : ∀ (T : List (Nat × Int32)) (o : Nat → Int32), (∀ p, p ∈ T → p.1 ≠ e) → nt g o T e = o e := by
  intro T
  induction T with
  | nil => intro o _; rfl
  | cons p T ih =>
    intro o h
    have h1 : ¬ e = p.1 := fun z => h p (List.mem_cons_self) z.symm
    have e1 : nt1 g o p e = o e := by
      simp only [nt1]
      repeat' split
      all_goals simp [upd, h1]
    show nt g (nt1 g o p) T e = o e
    rw [ih _ (fun q hq => h q (List.mem_cons_of_mem _ hq)), e1]
theorem kt_lt {g r : st_I} {n : Nat} (hp : pr_all g r n) (ma gi : Nat → Int32) : ∀ d e V, e < n → ∀ p, p ∈ kt g ma gi d e V → p.1 < n := by
  intro d
  induction d with
  | zero => intro e V _ p hpm; exact absurd hpm (by simp [kt])
  | succ d ih =>
    intro e V he p hpm
    obtain ⟨hn, -, -, hrow⟩ := hp
    obtain ⟨-, -, -, hr⟩ := hrow e he
    have cl : ∀ a, a < n → (nI a).toNatClampNeg = a := fun a ha => nI_clamp (by omega)
    have hkt : kt g ma gi (d + 1) e V = ktB g (kz g ma gi d) (kt g ma gi d) e V ++ [(e, kz g ma gi (d + 1) e V)] := rfl
    rw [hkt, List.mem_append] at hpm
    rcases hpm with hpm | hpm
    · rcases hr with ⟨h2, v, hv, h3, -⟩ | ⟨h2, -⟩ | h2 | ⟨h2, a, b, ha, hb, h4, -, h5, -⟩ | ⟨h2, a, ha, h4, -⟩ | ⟨h2, m, a, b, c, hm9, h3, -, ha, hb, hc, h4, -, h5, -, h6, -⟩ | ⟨h2, f, a, hf, h3, -, ha, h4, -, hb⟩ | ⟨h2, v, a, b, hv, h3, -, ha, hb, h4, -, h5, -⟩
      · rcases h2 with h2 | h2 <;> simp [ktB, h2] at hpm
      · simp [ktB, h2] at hpm
      · rcases h2 with h2 | h2 <;> simp [ktB, h2] at hpm
      · have : p ∈ kt g ma gi d a V ∨ p ∈ kt g ma gi d b V := by
          rcases h2 with h2 | h2 | h2 | h2 | h2 <;> simpa [ktB, h2, h4, h5, cl a ha.1, cl b hb.1] using hpm
        rcases this with w | w
        · exact ih a V ha.1 p w
        · exact ih b V hb.1 p w
      · have : p ∈ kt g ma gi d a V := by
          rcases h2 with h2 | h2 <;> simpa [ktB, h2, h4, cl a ha.1] using hpm
        exact ih a V ha.1 p this
      · simp [ktB, h2, h4, h5, h6, cl a ha.1, cl b hb.1, cl c hc.1] at hpm
        rcases hpm with w | w | w
        · exact ih a V ha.1 p w
        · exact ih b _ hb.1 p w.2
        · exact ih c _ hc.1 p w.2
      · have cf : (nI f).toNatClampNeg = f := nI_clamp (by omega)
        rcases hb with hb | ⟨b, hb, h5, -⟩
        · simp [ktB, h2, h3, h4, cl a ha.1, cf, Nat.not_le.mpr hb] at hpm
          exact ih a V ha.1 p hpm
        · simp [ktB, h2, h3, h4, h5, cl a ha.1, cl b hb.1, cf] at hpm
          rcases hpm with w | w
          · exact ih a V ha.1 p w
          · exact ih b V hb.1 p w.2
      · simp [ktB, h2, h3, h4, h5, cl a ha.1, cl b hb.1] at hpm
        rcases hpm with w | w
        · exact ih a V ha.1 p w
        · exact ih b _ hb.1 p w.2
    · simp at hpm; rw [hpm]; exact he
def wT (g : st_I) (f : Nat) : List (Nat × Int32) := if g 9 f = -1 then [] else kt g (g 11) (g 12) 7 (g 9 f).toNatClampNeg (va f)
theorem cl_walk {g r : st_I} {n : Nat} (hp : pr_all g r n) (hb : bod g r n) (hl : least g (g 11) (g 12)) {f : Nat} (hf : f < 6) (q : st_L) (Q : st_S → Prop) (h : ∀ m, (∀ k, k < 90 → m k = 0) → Q (c13 g (nt g m (wT g f)), q)) : wp_K_walkBody 7 (nI f) g q Q := by
  have hn := hp.1
  have cf : (nI f).toNatClampNeg = f := nI_clamp (by omega)
  have vf : vp_in (nI f) 6 := vp_in_nI hf (by omega)
  unfold wp_K_walkBody
  refine ⟨91, fl13 _ q 0 90 0 (by omega) g (fun m _ hm => ?_)⟩
  have hm' : ∀ k, k < 90 → m k = 0 := fun k hk => hm k (by omega) hk
  show wp_K_anyArguments (nI f) (c13 g m) q _
  rw [ex_any]
  simp only [wp_K_bodyKinds, wp_K_bodyKinds_L28, cf, vf, true_and, c13_o g m 9 (by decide)]
  have hh := h m hm'
  unfold wT at hh
  rcases hb f hf with ⟨h1, -⟩ | ⟨e, he, h1, -⟩
  · simp only [h1, not_true, false_imp_iff, true_imp_iff, true_and]
    simpa only [h1, if_true, nt_nil] using hh
  · have h2 := n1_ne hn he
    simp only [h1, h2, not_false_eq_true, true_imp_iff, false_imp_iff, and_true]
    rw [h1, if_neg h2, nI_clamp (by omega)] at hh
    refine ck hp (ma := g 11) (gi := g 12) (fun f _ => ⟨rfl, fun _ => rfl⟩) (fun f _ => rfl) hl.2.2.1 7 e _ (va f) _ q _ he ?_ (so_aA f hf) (fun k hk => c13_o g m k hk) ?_
    · obtain ⟨-, ⟨d, hd, h7, -⟩, -⟩ := hp.2.2.2 e he
      rw [h7, nI_clamp (by omega)]; omega
    · rw [c13_c, c13_13]; exact hh
theorem rw6 {g r : st_I} {n : Nat} (hp : pr_all g r n) (hb : bod g r n) {f : Nat} (hf : f < 6) (hl9 : ∀ f, f < 6 → m9 (g 12 f)) (hma : ∀ f, f < 6 → r 29 (2 * f) = g 11 (2 * f) ∧ (3 ≤ f → r 29 (2 * f + 1) = g 11 (2 * f + 1))) (hgi : ∀ f, f < 6 → r 30 f = g 12 f) (Q : st_I → Prop) (h : ∀ r' c v, fr r r' → (∀ k, k < 90 → c k = 0 ∧ v k = 0) → r' 31 = cm c (wT g f) → r' 32 = gv v (wT g f) → Q r') : ∀ j i, j + i = 90 → ∀ r1, fr r r1 → (∀ k, k < i → r1 31 k = 0 ∧ r1 32 k = 0) → wp_M_walk_L6 Q (j + 1) r1 (nI f) (nI i) := by
  have cf : (nI f).toNatClampNeg = f := nI_clamp (by omega)
  have vf : vp_in (nI f) 6 := vp_in_nI hf (by omega)
  have hn := hp.1
  intro j
  induction j with
  | zero =>
    intro i hi r1 hr1 h0
    have : i = 90 := by omega
    subst this
    rw [wp_M_walk_L6]
    simp only [show (90 : Int32) ≤ nI 90 from by decide, not_true, false_imp_iff, true_imp_iff, and_true, cf, vf, true_and, wp_M_walk_L53]
    have r28 := hr1.1 28 (by decide) (by decide)
    have r29 := hr1.1 29 (by decide) (by decide)
    have r30 := hr1.1 30 (by decide) (by decide)
    rcases hb f hf with ⟨h9, h28⟩ | ⟨e, he, h9, h28⟩
    · have neg : (-1 : Int32) < 0 := by decide
      simp only [r28, h28, neg, not_true, false_imp_iff, true_imp_iff, and_true]
      exact h r1 _ _ hr1 h0 (by simp [wT, h9, cm]) (by simp [wT, h9, gv])
    · have pos : ¬ nI e < 0 := nI_pos (by omega)
      simp only [r28, h28, pos, not_false_eq_true, false_imp_iff, true_imp_iff, true_and]
      refine rlooked (pr_rfr hp (fr_rfr hr1)) (ma := g 11) (gi := g 12) (by rw [r29]; exact hma) (by rw [r30]; exact hgi) hl9 hf he (by rw [r28]; exact h28) 511 511 (va f) rfl (by simp [va]) (by simp [va]) (by simp [va]) (fun v _ => va_m9 f v) _ (fun r2 a1 a2 a3 => ?_)
      have eT : wT g f = kt g (g 11) (g 12) 7 e (va f) := by
        unfold wT; rw [h9, if_neg (n1_ne hn he), nI_clamp (by omega)]
      exact h r2 _ _ (fr_tr hr1 a1) h0 (by rw [eT]; exact a2) (by rw [eT]; exact a3)
  | succ j ih =>
    intro i hi r1 hr1 h0
    have z : ¬ (90 : Int32) ≤ nI i := nI_ge (b := 90) (by omega) (by omega)
    have ci : (nI i).toNatClampNeg = i := nI_clamp (by omega)
    have vi : vp_in (nI i) 90 := vp_in_nI (by omega) (by omega)
    rw [wp_M_walk_L6]
    simp only [z, not_false_eq_true, false_imp_iff, true_imp_iff, true_and, ci, vi, nI_1, zn_0]
    refine ih (i + 1) (by omega) _ (fr_u (fr_u hr1 _ _ _ (by omega)) _ _ _ (by omega)) (fun k hk => ?_)
    by_cases w : k = i
    · subst w; simp [st_u, upd]
    · have := h0 k (by omega)
      simp [st_u, upd, w, this]
def ct (P : Nat → Prop) [DecidablePred P] : Nat → Nat
  | 0 => 0
  | k + 1 => ct P k + if P k then 1 else 0
theorem ct_le (P : Nat → Prop) [DecidablePred P] : ∀ k, ct P k ≤ k := by
  intro k
  induction k with
  | zero => exact Nat.le_refl _
  | succ k ih => simp only [ct]; split <;> omega
theorem ct_st (P : Nat → Prop) [DecidablePred P] (n : Nat) (h : ∀ k, n ≤ k → k < 90 → ¬ P k) : ∀ j, n + j ≤ 90 → ct P (n + j) = ct P n := by
  intro j
  induction j with
  | zero => intro _; rfl
  | succ j ih =>
    intro hj
    show ct P (n + j) + (if P (n + j) then 1 else 0) = ct P n
    rw [ih (by omega), if_neg (h _ (by omega) (by omega))]
    rfl
theorem cl_cnt {g : st_I} (q : st_L) (Q : Int32 → st_S → Prop) (h : Q (nI (ct (fun e => g 13 e = 1) 90)) (g, q)) : ∀ j k, j + k = 90 → wp_K_countHopeless_L9 7 Q (j + 1) g q (nI (ct (fun e => g 13 e = 1) k)) (nI k) := by
  intro j
  induction j with
  | zero =>
    intro k hk
    have : k = 90 := by omega
    subst this
    rw [wp_K_countHopeless_L9]
    simp only [show (90 : Int32) ≤ nI 90 from by decide, not_true, false_imp_iff, true_imp_iff, and_true]
    exact h
  | succ j ih =>
    intro k hk
    have z : ¬ (90 : Int32) ≤ nI k := nI_ge (b := 90) (by omega) (by omega)
    have ci : (nI k).toNatClampNeg = k := nI_clamp (by omega)
    have vi : vp_in (nI k) 90 := vp_in_nI (by omega) (by omega)
    have nx := ih (k + 1) (by omega)
    rw [wp_K_countHopeless_L9]
    simp only [z, not_false_eq_true, false_imp_iff, true_imp_iff, true_and, ci, vi, nI_1, wp_K_countHopeless_L31]
    refine ⟨fun w => ?_, fun w => ?_⟩
    · simp only [ct, w, if_false, Nat.add_zero] at nx; exact nx
    · simp only [ct, w, if_true] at nx; exact nx
theorem rl_cnt {r : st_I} {n : Nat} (hn : n ≤ 90) (h0 : r 20 0 = nI n) (P : Nat → Prop) [DecidablePred P] (hP : ∀ e, e < n → (P e ↔ r 21 e = 10 ∧ ¬ r 31 e = 0 ∧ r 32 e = 0)) (Q : Int32 → st_I → Prop) (h : Q (nI (ct P n)) r) : ∀ j k, j + k = n → wp_M_hopeless_L35 Q (j + 1) r (nI (ct P k)) (nI k) := by
  intro j
  induction j with
  | zero =>
    intro k hk
    have : k = n := by omega
    subst this
    rw [wp_M_hopeless_L35]
    simp only [h0, show nI k ≤ nI k from nI_le (Nat.le_refl _) (by omega), not_true, false_imp_iff, true_imp_iff, and_true]
    exact h
  | succ j ih =>
    intro k hk
    have z : ¬ nI n ≤ nI k := nI_ge (by omega) (by omega)
    have ci : (nI k).toNatClampNeg = k := nI_clamp (by omega)
    have vi : vp_in (nI k) 90 := vp_in_nI (by omega) (by omega)
    have nx := ih (k + 1) (by omega)
    have hk := hP k (by omega)
    rw [wp_M_hopeless_L35]
    simp only [h0, z, not_false_eq_true, false_imp_iff, true_imp_iff, true_and, ci, vi, nI_1, wp_M_hopeless_L78, wp_M_hopeless_L79]
    by_cases a1 : r 21 k = 10
    · by_cases a2 : r 31 k = 0
      · have : ¬ P k := fun w => (hk.mp w).2.1 a2
        simp only [ct, this, if_false, Nat.add_zero] at nx
        simp [a1, a2]; exact nx
      · by_cases a3 : r 32 k = 0
        · have : P k := hk.mpr ⟨a1, a2, a3⟩
          simp only [ct, this, if_true] at nx
          simp [a1, a2, a3]; exact nx
        · have : ¬ P k := fun w => a3 (hk.mp w).2.2
          simp only [ct, this, if_false, Nat.add_zero] at nx
          simp [a1, a2, a3]; exact nx
    · have : ¬ P k := fun w => a1 (hk.mp w).1
      simp only [ct, this, if_false, Nat.add_zero] at nx
      simp [a1]; exact nx
theorem hrel {g r2 : st_I} {n : Nat} (hp : pr_all g r2 n) (f : Nat) (hb : bod g r2 n) (hf : f < 6) (m c v : Nat → Int32) (hm : ∀ k, k < 90 → m k = 0) (hcv : ∀ k, k < 90 → c k = 0 ∧ v k = 0) (h31 : r2 31 = cm c (wT g f)) (h32 : r2 32 = gv v (wT g f)) : (∀ e, e < n → (nt g m (wT g f) e = 1 ↔ r2 21 e = 10 ∧ ¬ r2 31 e = 0 ∧ r2 32 e = 0)) ∧ ∀ e, n ≤ e → e < 90 → ¬ nt g m (wT g f) e = 1 := by
  have hn := hp.1
  refine ⟨fun e he => ?_, fun e he he9 => ?_⟩
  · have ht : trel g (nt g m (wT g f)) (cm c (wT g f)) (gv v (wT g f)) e := trel_T g e _ _ _ _ ⟨fun _ => Or.inl ⟨hm e (by omega), (hcv e (by omega)).1, (hcv e (by omega)).2⟩, fun _ => hm e (by omega)⟩
    rw [h31, h32, (hp.2.2.2 e he).1]
    constructor
    · intro z
      by_cases w : g 2 e = 10
      · rcases ht.1 w with ⟨a, -⟩ | ⟨-, b, c⟩ | ⟨a, -⟩
        · rw [a] at z; exact absurd z (by decide)
        · exact ⟨w, b, c⟩
        · rw [a] at z; exact absurd z (by decide)
      · rw [ht.2 w] at z; exact absurd z (by decide)
    · rintro ⟨w, b, c⟩
      rcases ht.1 w with ⟨-, a, -⟩ | ⟨a, -, -⟩ | ⟨-, -, a⟩
      · exact absurd a b
      · exact a
      · exact absurd c a
  · rw [nt_out g e _ m (fun p hpm => ?_), hm e he9]
    · decide
    · unfold wT at hpm
      rcases hb f hf with ⟨h9, -⟩ | ⟨e', he', h9, -⟩
      · simp [h9] at hpm
      · rw [h9, if_neg (n1_ne hn he'), nI_clamp (by omega)] at hpm
        have := kt_lt hp _ _ 7 e' _ he' p hpm
        omega
theorem op_hope (a : Int32) {g r : st_I} (q o : st_L) (hiv : iv g r) {C : Int32 → st_I × st_L × st_L → Int32 → st_I → Prop} (hC : ∀ x u y r', op_post x u y r' → C x u y r') : wp_L_hopeless 7 a g q o (fun x u => wp_M_hopeless a r (fun y r' => C x u y r')) := by
  have hiv' := hiv
  obtain ⟨n, hp, hb, hl, -, -⟩ := hiv
  have e5 : (5 : Int32) = nI 5 := rfl
  have bad : ∀ y, C 1 (g, q, o) y (st_u r 20 35 1) := fun y => hC _ _ _ _ ⟨by simp [st_u, upd], fun z => absurd z (by decide), iv_35 hiv' 1⟩
  simp only [wp_L_hopeless, wp_S_hopeless, ex_chF, wp_M_hopeless, wp_M_hopeless_L14, e5, rx_out a 5 (by omega), cl_0, vi_1, true_and]
  by_cases h : isx 6 a
  · have h' : isx (5 + 1) a := h
    obtain ⟨f, hf, rfl⟩ := h
    simp only [h', show isx 6 (nI f) from h', true_imp_iff, not_true, false_imp_iff, and_true]
    refine cl_learn hp hb hl q _ (fun g1 hg1 hl1 => ?_)
    have hp1 : pr_all g1 r n := pr_g hp (fun k h1 h2 => hg1 k (by omega) (by omega) (by omega) (by omega))
    have hb1 : bod g1 r n := bod_g hb (hg1 9 (by decide) (by decide) (by decide) (by decide))
    unfold wp_K_countHopeless
    refine cl_walk hp1 hb1 hl1 hf q _ (fun m hm => ?_)
    refine ⟨91, cl_cnt q _ ?_ 90 0 (by omega)⟩
    unfold wp_M_walk
    refine kn0 hp hb _ (fun r1 hr1 hl2 => ?_)
    obtain ⟨k1, k2, k3, k4, k5, k6⟩ := kb hiv' hp hb hg1 hl1 hr1 hl2
    refine ⟨91, rw6 k5 k6 hf hl1.2.2.1 (fun f hf => ⟨(k4 f hf 0 (by unfold pmn; split <;> omega)).symm, fun h3 => (k4 f hf 1 (by unfold pmn; split <;> omega)).symm⟩) (fun f hf => (k3 f hf).symm) _ (fun r2 c v hr2 hcv h31 h32 => ?_) 90 0 (by omega) r1 (fr_rf r1) (fun k hk => absurd hk (by omega))⟩
    have hp2 : pr_all g1 r2 n := pr_rfr k5 (fr_rfr hr2)
    have hb2 : bod g1 r2 n := bod_rfr k6 (fr_rfr hr2)
    obtain ⟨H1, H2⟩ := hrel hp2 f hb2 hf m c v hm hcv h31 h32
    refine ⟨n + 1, rl_cnt hp2.1 hp2.2.2.1 (fun e => (c13 g1 (nt g1 m (wT g1 f))) 13 e = 1) (fun e he => by rw [c13_13]; exact H1 e he) _ ?_ n 0 (by omega)⟩
    refine hC _ _ _ _ ⟨?_, fun _ => ok_out o ?_ _ q, ?_⟩
    · rw [hr2.2 35 (by decide) (by decide)]; exact k2
    · have := ct_st (fun e => (c13 g1 (nt g1 m (wT g1 f))) 13 e = 1) n (fun k h1 h2 => by rw [c13_13]; exact H2 k h1 h2) (90 - n) (by have := hp.1; omega)
      rw [show n + (90 - n) = 90 by have := hp.1; omega] at this
      rw [this]
    · refine iv_g (iv_rfr k1 (fr_rfr hr2)) (fun k h1 h2 h3 h4 => c13_o _ _ k h4) (Or.inr ?_)
      show least (c13 g1 (nt g1 m (wT g1 f))) (c13 g1 (nt g1 m (wT g1 f)) 11) (c13 g1 (nt g1 m (wT g1 f)) 12)
      rw [c13_o _ _ 11 (by decide), c13_o _ _ 12 (by decide)]
      exact least_cg hp1 hb1 (fun k h1 h2 e he => by rw [c13_o _ _ k (by omega)]) (fun f hf => by rw [c13_o _ _ 9 (by decide)]) hl1
  · have h' : ¬ isx (5 + 1) a := h
    simp only [h, h', true_imp_iff, not_false_eq_true, false_imp_iff, and_true, true_and, show ¬ (1 : Int32) = 0 from by decide]
    exact bad _
theorem op_ishope (a b : Int32) {g r : st_I} (q o : st_L) (hiv : iv g r) {C : Int32 → st_I × st_L × st_L → Int32 → st_I → Prop} (hC : ∀ x u y r', r' 20 35 = x → (x = 0 → (y = 0 ∨ y = 1) ∧ u.2.2 44 0 = y.toInt64) → iv u.1 r' → C x u y r') : wp_L_isHopeless 7 a b g q o (fun x u => wp_M_isHopeless a b r (fun y r' => C x u y r')) := by
  have hiv' := hiv
  obtain ⟨n, hp, hb, hl, -, -⟩ := hiv
  have hn := hp.1
  have e5 : (5 : Int32) = nI 5 := rfl
  have bad : ∀ y, C 1 (g, q, o) y (st_u r 20 35 1) := fun y => hC _ _ _ _ (by simp [st_u, upd]) (fun z => absurd z (by decide)) (iv_35 hiv' 1)
  simp only [wp_L_isHopeless, wp_L_isHopeless_L16, wp_S_isHopeless, ex_chF, ex_chE (n := n) (by omega) b g q hp.2.1, wp_M_isHopeless, wp_M_isHopeless_L17, wp_M_isHopeless_L22, wp_M_isHopeless_L72, wp_M_isHopeless_L73, e5, rx_out a 5 (by omega), rx_isP (n := n) (by omega) b r hp.2.2.1, cl_0, vi_1, true_and, zb_0, zb_1]
  by_cases h : isx 6 a
  · have h' : isx (5 + 1) a := h
    obtain ⟨f, hf, rfl⟩ := h
    by_cases h2 : isx n b
    · have h2' := h2
      obtain ⟨e, he, rfl⟩ := h2
      have ce : (nI e).toNatClampNeg = e := nI_clamp (by omega)
      have ve : vp_in (nI e) 90 := vp_in_nI (by omega) (by omega)
      simp only [h', h2', show isx 6 (nI f) from h', true_imp_iff, not_true, false_imp_iff, and_true, show ¬ (1 : Int32) = 0 from by decide, not_false_eq_true]
      refine cl_learn hp hb hl q _ (fun g1 hg1 hl1 => ?_)
      have hp1 : pr_all g1 r n := pr_g hp (fun k h1 h2 => hg1 k (by omega) (by omega) (by omega) (by omega))
      have hb1 : bod g1 r n := bod_g hb (hg1 9 (by decide) (by decide) (by decide) (by decide))
      unfold wp_K_isHopelessCall wp_K_isHopelessCall_L20
      refine cl_walk hp1 hb1 hl1 hf q _ (fun m hm => ?_)
      simp only [ce, ve, true_and, zb_0, zb_1, c13_13, not_true, false_imp_iff, true_imp_iff, and_true, show ¬ (1 : Int32) = 0 from by decide, not_false_eq_true]
      have ref : ∀ (X : Int64), (∀ r2 y, r2 20 35 = 0 → iv (c13 g1 (nt g1 m (wT g1 f))) r2 → (y = 0 ∨ y = 1) → ((nt g1 m (wT g1 f) e = 1) ↔ y = 1) → C 0 (c13 g1 (nt g1 m (wT g1 f)), q, st_v o 44 0 X) y r2) → wp_M_walk (nI f) (st_u r 20 35 0) (fun u36 => (¬ u36 21 e = 10 → C 0 (c13 g1 (nt g1 m (wT g1 f)), q, st_v o 44 0 X) 0 u36) ∧ (u36 21 e = 10 → (u36 31 e = 0 → C 0 (c13 g1 (nt g1 m (wT g1 f)), q, st_v o 44 0 X) 0 u36) ∧ (¬ u36 31 e = 0 → (¬ u36 32 e = 0 → C 0 (c13 g1 (nt g1 m (wT g1 f)), q, st_v o 44 0 X) 0 u36) ∧ (u36 32 e = 0 → C 0 (c13 g1 (nt g1 m (wT g1 f)), q, st_v o 44 0 X) 1 u36)))) := by
        intro X hX
        unfold wp_M_walk
        refine kn0 hp hb _ (fun r1 hr1 hl2 => ?_)
        obtain ⟨k1, k2, k3, k4, k5, k6⟩ := kb hiv' hp hb hg1 hl1 hr1 hl2
        refine ⟨91, rw6 k5 k6 hf hl1.2.2.1 (fun f hf => ⟨(k4 f hf 0 (by unfold pmn; split <;> omega)).symm, fun h3 => (k4 f hf 1 (by unfold pmn; split <;> omega)).symm⟩) (fun f hf => (k3 f hf).symm) _ (fun r2 c v hr2 hcv h31 h32 => ?_) 90 0 (by omega) r1 (fr_rf r1) (fun k hk => absurd hk (by omega))⟩
        have hp2 : pr_all g1 r2 n := pr_rfr k5 (fr_rfr hr2)
        have hb2 : bod g1 r2 n := bod_rfr k6 (fr_rfr hr2)
        obtain ⟨H1, -⟩ := hrel hp2 f hb2 hf m c v hm hcv h31 h32
        have H := H1 e he
        have t35 : r2 20 35 = 0 := by rw [hr2.2 35 (by decide) (by decide)]; exact k2
        have ivv : iv (c13 g1 (nt g1 m (wT g1 f))) r2 := by
          refine iv_g (iv_rfr k1 (fr_rfr hr2)) (fun k h1 h2 h3 h4 => c13_o _ _ k h4) (Or.inr ?_)
          rw [c13_o _ _ 11 (by decide), c13_o _ _ 12 (by decide)]
          exact least_cg hp1 hb1 (fun k h1 h2 e he => by rw [c13_o _ _ k (by omega)]) (fun f hf => by rw [c13_o _ _ 9 (by decide)]) hl1
        refine ⟨fun w => hX r2 0 t35 ivv (Or.inl rfl) ?_, fun w => ⟨fun w2 => hX r2 0 t35 ivv (Or.inl rfl) ?_, fun w2 => ⟨fun w3 => hX r2 0 t35 ivv (Or.inl rfl) ?_, fun w3 => hX r2 1 t35 ivv (Or.inr rfl) ?_⟩⟩⟩
        · rw [H]; simp [w]
        · rw [H]; simp [w2]
        · rw [H]; simp [w3]
        · rw [H]; simp [w, w2, w3]
      refine ⟨fun w => ?_, fun w => ?_⟩
      · refine ref 0 (fun r2 y t35 ivv hy hi => ?_)
        have y0 : y = 0 := hy.resolve_right (fun z => w (hi.mpr z))
        subst y0
        exact hC _ _ _ _ t35 (fun _ => ⟨Or.inl rfl, sv_44 o _⟩) ivv
      · refine ref 1 (fun r2 y t35 ivv hy hi => ?_)
        have y1 : y = 1 := hi.mp w
        subst y1
        exact hC _ _ _ _ t35 (fun _ => ⟨Or.inr rfl, sv_44 o _⟩) ivv
    · simp only [h', h2, show isx 6 (nI f) from h', true_imp_iff, not_true, false_imp_iff, and_true, true_and, show ¬ (1 : Int32) = 0 from by decide, not_false_eq_true]
      exact bad _
  · have h' : ¬ isx (5 + 1) a := h
    simp only [h, h', true_imp_iff, not_false_eq_true, false_imp_iff, and_true, true_and, show ¬ (1 : Int32) = 0 from by decide]
    exact bad _
