def cls (g : st_I) (ma gi o : Nat → Int32) : st_I := fun k => if k = 11 then ma else if k = 12 then gi else if k = 13 then o else g k
theorem cls_11 (g : st_I) (ma gi o : Nat → Int32) : cls g ma gi o 11 = ma := rfl
theorem cls_12 (g : st_I) (ma gi o : Nat → Int32) : cls g ma gi o 12 = gi := rfl
theorem cls_13 (g : st_I) (ma gi o : Nat → Int32) : cls g ma gi o 13 = o := rfl
theorem cls_o (g : st_I) (ma gi o : Nat → Int32) (k : Nat) (h1 : k ≠ 11) (h2 : k ≠ 12) (h3 : k ≠ 13) : cls g ma gi o k = g k := by simp [cls, h1, h2, h3]
theorem cls_u1 (g : st_I) (ma gi o : Nat → Int32) (i : Nat) (x : Int32) : st_u (cls g ma gi o) 11 i x = cls g (upd ma i x) gi o := by
  funext k; simp only [cls, st_u]; by_cases h : k = 11 <;> simp [h]
theorem cls_u2 (g : st_I) (ma gi o : Nat → Int32) (i : Nat) (x : Int32) : st_u (cls g ma gi o) 12 i x = cls g ma (upd gi i x) o := by
  funext k; simp only [cls, st_u]; by_cases h : k = 12 <;> simp [h]
theorem cls_c13 (g : st_I) (ma gi o o' : Nat → Int32) : c13 (cls g ma gi o) o' = cls g ma gi o' := by
  funext k; simp only [cls, c13]; by_cases h : k = 13 <;> simp [h]
theorem upd_self (f : Nat → Int32) (i : Nat) : upd f i (f i) = f := by funext k; simp only [upd]; by_cases h : k = i <;> simp [h]
theorem upd_upd (f : Nat → Int32) (i : Nat) (x y : Int32) : upd (upd f i x) i y = upd f i y := by funext k; simp only [upd]; by_cases h : k = i <;> simp [h]
theorem pr_cls {g r : st_I} {n : Nat} (hp : pr_all g r n) (ma gi o : Nat → Int32) : pr_all (cls g ma gi o) r n := hp
theorem n1_ne {n e : Nat} (hn : n ≤ 90) (he : e < n) : ¬ nI e = -1 := by
  intro z
  have := congrArg (fun x => decide (x < 0)) z
  simp [nI_pos (show e < 2 ^ 31 by omega)] at this
theorem bk {g r : st_I} {n : Nat} (hp : pr_all g r n) (hb : bod g r n) {ma gi : Nat → Int32} (hm9 : ∀ f, f < 6 → m9 (gi f)) {f : Nat} (hf : f < 6) (s : Int64) (V : Nat → Int32) (hV : ∀ v, v < 4 → so s (nI v) = V v) (o : Nat → Int32) (q : st_L) (Q : Int32 → st_S → Prop) (h : ∀ o', Q (if g 9 f = -1 then 0 else kz g ma gi 7 (g 9 f).toNatClampNeg V) (cls g ma gi o', q)) : wp_K_bodyKinds 7 (nI f) s (cls g ma gi o) q Q := by
  have hn := hp.1
  have cf : (nI f).toNatClampNeg = f := nI_clamp (by omega)
  have vf : vp_in (nI f) 6 := vp_in_nI hf (by omega)
  simp only [wp_K_bodyKinds, wp_K_bodyKinds_L28, cf, vf, true_and, cls_o g ma gi o 9 (by decide) (by decide) (by decide)]
  rcases hb f hf with ⟨h1, -⟩ | ⟨e, he, h1, -⟩
  · simp only [h1, not_true, false_imp_iff, true_imp_iff, true_and]
    have := h o
    simpa only [h1, if_true] using this
  · have h2 := n1_ne hn he
    simp only [h1, h2, not_false_eq_true, true_imp_iff, false_imp_iff, and_true]
    refine ck (pr_cls hp ma gi o) (ma := ma) (gi := gi) (fun f _ => ⟨rfl, fun _ => rfl⟩) (fun f _ => rfl) hm9 7 e s V _ q _ he ?_ hV (fun _ _ => rfl) ?_
    · obtain ⟨-, ⟨d, hd, h7, -⟩, -⟩ := hp.2.2.2 e he
      show (g 7 e).toNatClampNeg < 7
      rw [h7, nI_clamp (by omega)]; omega
    · rw [cls_c13, kz_cg hp (fun k h2 h6 e he => by rw [cls_o g ma gi o k (by omega) (by omega) (by omega)]) 7 e V he]
      have := h (nt (cls g ma gi o) (cls g ma gi o 13) (kt (cls g ma gi o) ma gi 7 e V))
      rw [h1, if_neg h2, nI_clamp (by omega)] at this
      exact this
theorem gg {g r : st_I} {n : Nat} (hp : pr_all g r n) (hb : bod g r n) {ma gi : Nat → Int32} (hg : good g ma gi) {f : Nat} (hf : f < 6) (o : Nat → Int32) (q : st_L) (Q : Int32 → st_S → Prop) (h : ∀ gi' o' b, (b = 0 ∨ b = 1) → good g ma gi' → leq ma gi ma gi' → (b = 1 → cnt ma gi < cnt ma gi') → (b = 0 → gi' = gi ∧ fG g ma gi f = gi f) → Q b (cls g ma gi' o', q)) : wp_K_growGives 7 (nI f) (cls g ma gi o) q Q := by
  have cf : (nI f).toNatClampNeg = f := nI_clamp (by omega)
  have vf : vp_in (nI f) 6 := vp_in_nI hf (by omega)
  simp only [wp_K_growGives, wp_K_growGives_L37, ex_any, cf, vf, true_and, zb_0, zb_1]
  refine bk hp hb hg.2.2.1 hf _ _ (so_aA f hf) o q _ (fun o' => ?_)
  have hs := good_G hp hb hg hf
  simp only [cls_u2, cls_12]
  have hG : (if g 9 f = -1 then 0 else kz g ma gi 7 (g 9 f).toNatClampNeg (va f)) = fG g ma gi f := rfl
  rw [hG, show upd gi f (fG g ma gi f) f = fG g ma gi f from by simp [upd]]
  by_cases z : fG g ma gi f = gi f
  · simp only [z, not_true, false_imp_iff, true_imp_iff, and_true]
    rw [z] at hs
    exact h _ o' 0 (Or.inl rfl) hs.1 hs.2 (fun z => absurd z (by decide)) (fun _ => ⟨upd_self _ _, z⟩)
  · simp only [z, not_false_eq_true, false_imp_iff, true_imp_iff, true_and]
    refine h _ o' 1 (Or.inr rfl) hs.1 hs.2 (fun _ => ?_) (fun z => absurd z (by decide))
    exact cnt_G hf (hg.1.1 f hf) (fG_m9 hp hb hg.2.2.1 hf) z
theorem gm_l {g r : st_I} {n : Nat} (hp : pr_all g r n) (hb : bod g r n) {ma gi : Nat → Int32} {f i : Nat} (hf : f < 6) (hi : i < pmn f) (q : st_L) (Q : Int32 → st_S → Prop) (h : ∀ ma' o' b, (b = 0 ∨ b = 1) → good g ma' gi → leq ma gi ma' gi → (b = 1 → cnt ma gi < cnt ma' gi) → (b = 0 → ma' = ma ∧ ∀ k, k < 9 → ¬ fK g ma gi f i k = 0 → bt (ma (2 * f + i)) k = true) → Q b (cls g ma' gi o', q)) : ∀ j k, j + k = 9 → ∀ x o, good g (upd ma (2 * f + i) x) gi → lb (ma (2 * f + i)) x → (x = ma (2 * f + i) → ∀ k', k' < k → ¬ fK g ma gi f i k' = 0 → bt (ma (2 * f + i)) k' = true) → wp_K_growMay_L17 7 Q (j + 1) (cls g (upd ma (2 * f + i) x) gi o) q (nI f) (nI i) (nI (2 * f + i)) (ma (2 * f + i)) (nI k) := by
  have hi2 : i < 2 := by unfold pmn at hi; split at hi <;> omega
  have cp : (nI (2 * f + i)).toNatClampNeg = 2 * f + i := nI_clamp (by omega)
  have vp : vp_in (nI (2 * f + i)) 12 := vp_in_nI (by omega) (by omega)
  have us : ∀ x, upd ma (2 * f + i) x (2 * f + i) = x := fun x => by simp [upd]
  intro j
  induction j with
  | zero =>
    intro k hk x o hg hl hst
    have h9 : (9 : Int32) ≤ nI k := by rw [zl_9]; exact nI_le (by omega) (by omega)
    simp only [wp_K_growMay_L17, h9, not_true, false_imp_iff, true_imp_iff, and_true, cp, vp, true_and, cls_11, us, wp_K_growMay_L93, zb_0, zb_1]
    have hl' : leq ma gi (upd ma (2 * f + i) x) gi := by
      refine ⟨fun _ _ => lb_rf _, fun f' hf' i' hi' => ?_⟩
      simp only [upd]
      by_cases z : 2 * f' + i' = 2 * f + i
      · simp only [z, if_true]; exact hl
      · simp only [z, if_false]; exact lb_rf _
    constructor
    · intro z
      refine h _ o 0 (Or.inl rfl) hg hl' (fun z => absurd z (by decide)) (fun _ => ⟨by rw [z]; exact upd_self _ _, fun k' hk' hne => hst z k' (by omega) hne⟩)
    · intro z
      have hmx := hg.2.2.2 f hf i hi
      rw [us] at hmx
      exact h _ o 1 (Or.inr rfl) hg hl' (fun _ => cnt_M hf hi hl hmx z) (fun z => absurd z (by decide))
  | succ j ih =>
    intro k hk x o hg hl hst
    have h9 : ¬ (9 : Int32) ≤ nI k := by rw [zl_9]; exact nI_ge (by omega) (by omega)
    have k1 : nI k + 1 = nI (k + 1) := nI_1 k
    rw [wp_K_growMay_L17]
    simp only [h9, not_false_eq_true, false_imp_iff, true_imp_iff, true_and, wp_K_growMay_L71, ex_any, ex_with, ex_has, k1, cp, vp, hs_bt _ k (show k < 32 by omega)]
    refine ⟨fun hbk => ?_, fun hbk => ?_⟩
    · have z0 : (0 : Int32) = 0 := rfl
      simp only [not_true, false_imp_iff, true_imp_iff, true_and]
      have hV : ∀ v, v < 4 → so (wt (aA (nI f)) (nI i) ((1 : Int32) <<< (nI k &&& 31))) (nI v) = upd (va f) i ((1 : Int32) <<< (nI k &&& 31)) v := by
        intro v hv
        rw [so_wt _ i v (by omega) hv _ (m9_k k (by omega))]
        simp only [upd]
        by_cases z : v = i
        · simp [z]
        · simp [z, so_aA f hf v hv]
      refine bk hp hb hg.2.2.1 hf _ _ hV o q _ (fun o' => ?_)
      have hF : (if g 9 f = -1 then 0 else kz g (upd ma (2 * f + i) x) gi 7 (g 9 f).toNatClampNeg (upd (va f) i ((1 : Int32) <<< (nI k &&& 31)))) = fK g (upd ma (2 * f + i) x) gi f i k := rfl
      rw [hF]
      by_cases z : fK g (upd ma (2 * f + i) x) gi f i k = 0
      · simp only [z, not_true, false_imp_iff, true_imp_iff, and_true]
        refine ih (k + 1) (by omega) x o' hg hl (fun hx k' hk' hne => ?_)
        rcases Nat.lt_or_ge k' k with h1 | h1
        · exact hst hx k' h1 hne
        · have : k' = k := by omega
          subst this
          rw [hx, upd_self] at z
          exact absurd z hne
      · simp only [z, not_false_eq_true, false_imp_iff, true_imp_iff, true_and, cls_u1, cls_11, us, upd_upd]
        have hsM := good_M hp hb hg hf hi (x := x ||| ((1 : Int32) <<< (nI k &&& 31))) (by rw [us]; exact lb_ol _ _) (fun k' hk' hbt => by
          rw [us]
          rw [b_or, b_k k (by omega) hk'] at hbt
          by_cases zk : k' = k
          · subst zk; exact Or.inr ⟨by omega, z⟩
          · left; simpa [zk] using hbt)
        rw [upd_upd] at hsM
        refine ih (k + 1) (by omega) _ o' hsM.1 (lb_tr hl (lb_ol _ _)) (fun hx => ?_)
        exfalso
        have := congrArg (fun y => bt y k) hx
        simp only [b_or, b_k k (show k < 32 by omega) (show k < 32 by omega), hbk] at this
        simp at this
    · have z1 : ¬ (1 : Int32) = 0 := by decide
      simp only [z1, not_false_eq_true, false_imp_iff, true_imp_iff, and_true]
      refine ih (k + 1) (by omega) x o hg hl (fun hx k' hk' hne => ?_)
      rcases Nat.lt_or_ge k' k with h1 | h1
      · exact hst hx k' h1 hne
      · have : k' = k := by omega
        subst this
        exact hbk
theorem gm {g r : st_I} {n : Nat} (hp : pr_all g r n) (hb : bod g r n) {ma gi : Nat → Int32} (hg : good g ma gi) {f i : Nat} (hf : f < 6) (hi : i < pmn f) (o : Nat → Int32) (q : st_L) (Q : Int32 → st_S → Prop) (h : ∀ ma' o' b, (b = 0 ∨ b = 1) → good g ma' gi → leq ma gi ma' gi → (b = 1 → cnt ma gi < cnt ma' gi) → (b = 0 → ma' = ma ∧ ∀ k, k < 9 → ¬ fK g ma gi f i k = 0 → bt (ma (2 * f + i)) k = true) → Q b (cls g ma' gi o', q)) : wp_K_growMay 7 (nI f) (nI i) (cls g ma gi o) q Q := by
  have hi2 : i < 2 := by unfold pmn at hi; split at hi <;> omega
  have m2 : nI f * (2 : Int32) + nI i = nI (2 * f + i) := by rw [show nI f * (2 : Int32) = nI (2 * f) from by rw [Nat.mul_comm]; exact pk_mul f 2, nI_add]
  have cp : (nI (2 * f + i)).toNatClampNeg = 2 * f + i := nI_clamp (by omega)
  have vp : vp_in (nI (2 * f + i)) 12 := vp_in_nI (by omega) (by omega)
  simp only [wp_K_growMay, m2, cp, vp, true_and, cls_11]
  refine ⟨10, ?_⟩
  have := gm_l hp hb hf hi q Q h 9 0 (by omega) (ma (2 * f + i)) o (by rw [upd_self]; exact hg) (lb_rf _) (fun _ k' hk' => absurd hk' (by omega))
  rw [upd_self] at this
  exact this
theorem fl11 (Q : st_S → Prop) (q : st_L) (v : Int32) : ∀ j i, j + i = 12 → ∀ g : st_I, (∀ m : Nat → Int32, (∀ k, k < i → m k = g 11 k) → (∀ k, i ≤ k → k < 12 → m k = v) → Q ((fun k => if k = 11 then m else g k), q)) → wp_J_fill_11_L5 Q (j + 1) g q v (nI i) 12 := by
  intro j
  induction j with
  | zero =>
    intro i hi g h
    have h1 : (12 : Int32) ≤ nI i := nI_le (a := 12) (by omega) (by omega)
    simp only [wp_J_fill_11_L5, h1, not_true, false_imp_iff, true_imp_iff, and_true]
    have := h (g 11) (fun _ _ => rfl) (fun k h1 h2 => by omega)
    have e : (fun k => if k = 11 then g 11 else g k) = g := by funext k; by_cases z : k = 11 <;> simp [z]
    rw [e] at this
    exact this
  | succ j ih =>
    intro i hi g h
    have h1 : ¬ (12 : Int32) ≤ nI i := nI_ge (b := 12) (by omega) (by omega)
    have ci : (nI i).toNatClampNeg = i := nI_clamp (by omega)
    have vi : vp_in (nI i) 12 := vp_in_nI (by omega) (by omega)
    have i1 : nI i + 1 = nI (i + 1) := nI_1 i
    rw [wp_J_fill_11_L5]
    simp only [h1, not_false_eq_true, false_imp_iff, true_imp_iff, true_and, ci, vi, i1]
    refine ih (i + 1) (by omega) _ (fun m hm hm2 => ?_)
    have := h m (fun k hk => by rw [hm k (by omega), su_k]; simp [show k ≠ i by omega]) (fun k hk hk2 => by
      by_cases z : k = i
      · subst z; rw [hm k (by omega), su_k]; simp
      · exact hm2 k (by omega) hk2)
    have e : (fun k => if k = 11 then m else st_u g 11 i v k) = (fun k => if k = 11 then m else g k) := by funext k; by_cases z : k = 11 <;> simp [z, st_u]
    rw [e]
    exact this
theorem fl12 (Q : st_S → Prop) (q : st_L) (v : Int32) : ∀ j i, j + i = 6 → ∀ g : st_I, (∀ m : Nat → Int32, (∀ k, k < i → m k = g 12 k) → (∀ k, i ≤ k → k < 6 → m k = v) → Q ((fun k => if k = 12 then m else g k), q)) → wp_J_fill_12_L5 Q (j + 1) g q v (nI i) 6 := by
  intro j
  induction j with
  | zero =>
    intro i hi g h
    have h1 : (6 : Int32) ≤ nI i := nI_le (a := 6) (by omega) (by omega)
    simp only [wp_J_fill_12_L5, h1, not_true, false_imp_iff, true_imp_iff, and_true]
    have := h (g 12) (fun _ _ => rfl) (fun k h1 h2 => by omega)
    have e : (fun k => if k = 12 then g 12 else g k) = g := by funext k; by_cases z : k = 12 <;> simp [z]
    rw [e] at this
    exact this
  | succ j ih =>
    intro i hi g h
    have h1 : ¬ (6 : Int32) ≤ nI i := nI_ge (b := 6) (by omega) (by omega)
    have ci : (nI i).toNatClampNeg = i := nI_clamp (by omega)
    have vi : vp_in (nI i) 6 := vp_in_nI (by omega) (by omega)
    have i1 : nI i + 1 = nI (i + 1) := nI_1 i
    rw [wp_J_fill_12_L5]
    simp only [h1, not_false_eq_true, false_imp_iff, true_imp_iff, true_and, ci, vi, i1]
    refine ih (i + 1) (by omega) _ (fun m hm hm2 => ?_)
    have := h m (fun k hk => by rw [hm k (by omega), su_k]; simp [show k ≠ i by omega]) (fun k hk hk2 => by
      by_cases z : k = i
      · subst z; rw [hm k (by omega), su_k]; simp
      · exact hm2 k (by omega) hk2)
    have e : (fun k => if k = 12 then m else st_u g 12 i v k) = (fun k => if k = 12 then m else g k) := by funext k; by_cases z : k = 12 <;> simp [z, st_u]
    rw [e]
    exact this
theorem fl13 (Q : st_S → Prop) (q : st_L) (v : Int32) : ∀ j i, j + i = 90 → ∀ g : st_I, (∀ m : Nat → Int32, (∀ k, k < i → m k = g 13 k) → (∀ k, i ≤ k → k < 90 → m k = v) → Q ((fun k => if k = 13 then m else g k), q)) → wp_J_fill_13_L5 Q (j + 1) g q v (nI i) 90 := by
  intro j
  induction j with
  | zero =>
    intro i hi g h
    have h1 : (90 : Int32) ≤ nI i := nI_le (a := 90) (by omega) (by omega)
    simp only [wp_J_fill_13_L5, h1, not_true, false_imp_iff, true_imp_iff, and_true]
    have := h (g 13) (fun _ _ => rfl) (fun k h1 h2 => by omega)
    have e : (fun k => if k = 13 then g 13 else g k) = g := by funext k; by_cases z : k = 13 <;> simp [z]
    rw [e] at this
    exact this
  | succ j ih =>
    intro i hi g h
    have h1 : ¬ (90 : Int32) ≤ nI i := nI_ge (b := 90) (by omega) (by omega)
    have ci : (nI i).toNatClampNeg = i := nI_clamp (by omega)
    have vi : vp_in (nI i) 90 := vp_in_nI (by omega) (by omega)
    have i1 : nI i + 1 = nI (i + 1) := nI_1 i
    rw [wp_J_fill_13_L5]
    simp only [h1, not_false_eq_true, false_imp_iff, true_imp_iff, true_and, ci, vi, i1]
    refine ih (i + 1) (by omega) _ (fun m hm hm2 => ?_)
    have := h m (fun k hk => by rw [hm k (by omega), su_k]; simp [show k ≠ i by omega]) (fun k hk hk2 => by
      by_cases z : k = i
      · subst z; rw [hm k (by omega), su_k]; simp
      · exact hm2 k (by omega) hk2)
    have e : (fun k => if k = 13 then m else st_u g 13 i v k) = (fun k => if k = 13 then m else g k) := by funext k; by_cases z : k = 13 <;> simp [z, st_u]
    rw [e]
    exact this
