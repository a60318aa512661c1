theorem pk0 (a b c d : Int32) (r : st_I) (Q : Int32 → st_I → Prop) : wp_M_pick (nI 0) a b c d r Q ↔ Q a r := by
  have k : nI 0 = 0 := rfl
  simp [wp_M_pick, wp_M_pick_L28, k]
theorem pk1 (a b c d : Int32) (r : st_I) (Q : Int32 → st_I → Prop) : wp_M_pick (nI 1) a b c d r Q ↔ Q b r := by
  have k : nI 1 = 1 := rfl
  simp [wp_M_pick, wp_M_pick_L28, k]
theorem pk2 (a b c d : Int32) (r : st_I) (Q : Int32 → st_I → Prop) : wp_M_pick (nI 2) a b c d r Q ↔ Q c r := by
  have k : nI 2 = 2 := rfl
  simp [wp_M_pick, wp_M_pick_L28, k]
theorem pk3 (a b c d : Int32) (r : st_I) (Q : Int32 → st_I → Prop) : wp_M_pick (nI 3) a b c d r Q ↔ Q d r := by
  have k : nI 3 = 3 := rfl
  simp [wp_M_pick, wp_M_pick_L28, k]
def mkH (g R0 : st_I) (n : Nat) : Prop := n ≤ 90 ∧ R0 20 0 = nI n ∧ R0 20 35 = 0 ∧ rws g n ∧ (∀ e, e < n → R0 26 e = g 7 e) ∧ ∀ e, e < n → R0 27 e = g 8 e
theorem rf_0 {g R0 : st_I} {n : Nat} (H : mkH g R0 n) (s a b c d : Int32) (hM : ∀ Q : Int32 → st_I → Prop, wp_M_partsOf s a R0 Q ↔ Q 0 R0) (Q : Int32 → st_I → Prop) (h : wp_M_make_L131 Q R0 s a b c d (nI (dM g none none none)) (nI (zM g none none none))) : wp_M_make_L27 Q 5 R0 s a b c d 0 1 0 := by
  obtain ⟨hn, h0, h35, hg, h26, h27⟩ := H
  exact mk_s h35 _ _ _ _ _ _ _ 0 hM 0 4 (by omega) (by decide) Q (mk_s h35 _ _ _ _ _ _ _ 0 hM 1 3 (by omega) (by decide) Q (mk_s h35 _ _ _ _ _ _ _ 0 hM 2 2 (by omega) (by decide) Q (mk_s h35 _ _ _ _ _ _ _ 0 hM 3 1 (by omega) (by decide) Q (mk_e _ _ _ _ _ _ _ 0 Q h))))
theorem rf_1 {g R0 : st_I} {n : Nat} (H : mkH g R0 n) (s a b c d : Int32) (hM : ∀ Q : Int32 → st_I → Prop, wp_M_partsOf s a R0 Q ↔ Q 1 R0) (Q : Int32 → st_I → Prop) (h : ∀ e1, e1 < n → a = nI e1 → wp_M_make_L131 Q R0 s a b c d (nI (dM g (some e1) none none)) (nI (zM g (some e1) none none))) (h' : ¬ isx n a → Q 0 (st_u R0 20 35 1)) : wp_M_make_L27 Q 5 R0 s a b c d 0 1 0 := by
  obtain ⟨hn, h0, h35, hg, h26, h27⟩ := H
  refine mk_p hn h0 h35 hg h26 h27 _ _ _ _ _ 1 hM 0 4 (by omega) (by decide) 0 1 (by omega) (by omega) a (pk0 _ _ _ _ _) Q (fun e1 x1 l1 => ?_) h'
  refine mk_s h35 _ _ _ _ _ _ _ 1 hM 1 3 (by omega) (by decide) Q (mk_s h35 _ _ _ _ _ _ _ 1 hM 2 2 (by omega) (by decide) Q (mk_s h35 _ _ _ _ _ _ _ 1 hM 3 1 (by omega) (by decide) Q (mk_e _ _ _ _ _ _ _ 0 Q ?_)))
  have := h e1 l1 x1
  simpa [dM, zM, dO, zO] using this
theorem rf_3 {g R0 : st_I} {n : Nat} (H : mkH g R0 n) (s a b c d : Int32) (hM : ∀ Q : Int32 → st_I → Prop, wp_M_partsOf s a R0 Q ↔ Q 3 R0) (Q : Int32 → st_I → Prop) (h : ∀ e1 e2, e1 < n → e2 < n → a = nI e1 → b = nI e2 → wp_M_make_L131 Q R0 s a b c d (nI (dM g (some e1) (some e2) none)) (nI (zM g (some e1) (some e2) none))) (h' : ¬ (isx n a ∧ isx n b) → Q 0 (st_u R0 20 35 1)) : wp_M_make_L27 Q 5 R0 s a b c d 0 1 0 := by
  obtain ⟨hn, h0, h35, hg, h26, h27⟩ := H
  refine mk_p hn h0 h35 hg h26 h27 _ _ _ _ _ 3 hM 0 4 (by omega) (by decide) 0 1 (by omega) (by omega) a (pk0 _ _ _ _ _) Q (fun e1 x1 l1 => ?_) (fun w => h' (fun z => w z.1))
  have b1 := dO_le hg (oOk_s l1); have b2 := zO_le hg (oOk_s l1)
  refine mk_p hn h0 h35 hg h26 h27 _ _ _ _ _ 3 hM 1 3 (by omega) (by decide) _ _ (by omega) (by omega) b (pk1 _ _ _ _ _) Q (fun e2 x2 l2 => ?_) (fun w => h' (fun z => w z.2))
  refine mk_s h35 _ _ _ _ _ _ _ 3 hM 2 2 (by omega) (by decide) Q (mk_s h35 _ _ _ _ _ _ _ 3 hM 3 1 (by omega) (by decide) Q (mk_e _ _ _ _ _ _ _ 0 Q ?_))
  have := h e1 e2 l1 l2 x1 x2
  have e : max (max 0 (dO g (some e1))) (dO g (some e2)) = dM g (some e1) (some e2) none := by unfold dM; simp only [dO]; omega
  have e' : 1 + zO g (some e1) + zO g (some e2) = zM g (some e1) (some e2) none := by unfold zM; simp only [zO]; omega
  rw [e, e']; exact this
theorem rf_13 {g R0 : st_I} {n : Nat} (H : mkH g R0 n) (s a b c d : Int32) (hM : ∀ Q : Int32 → st_I → Prop, wp_M_partsOf s a R0 Q ↔ Q 13 R0) (Q : Int32 → st_I → Prop) (h : ∀ e1 e2 e3, e1 < n → e2 < n → e3 < n → a = nI e1 → c = nI e2 → d = nI e3 → wp_M_make_L131 Q R0 s a b c d (nI (dM g (some e1) (some e2) (some e3))) (nI (zM g (some e1) (some e2) (some e3)))) (h' : ¬ (isx n a ∧ isx n c ∧ isx n d) → Q 0 (st_u R0 20 35 1)) : wp_M_make_L27 Q 5 R0 s a b c d 0 1 0 := by
  obtain ⟨hn, h0, h35, hg, h26, h27⟩ := H
  refine mk_p hn h0 h35 hg h26 h27 _ _ _ _ _ 13 hM 0 4 (by omega) (by decide) 0 1 (by omega) (by omega) a (pk0 _ _ _ _ _) Q (fun e1 x1 l1 => ?_) (fun w => h' (fun z => w z.1))
  have b1 := dO_le hg (oOk_s l1); have b2 := zO_le hg (oOk_s l1)
  refine mk_s h35 _ _ _ _ _ _ _ 13 hM 1 3 (by omega) (by decide) Q ?_
  refine mk_p hn h0 h35 hg h26 h27 _ _ _ _ _ 13 hM 2 2 (by omega) (by decide) _ _ (by omega) (by omega) c (pk2 _ _ _ _ _) Q (fun e2 x2 l2 => ?_) (fun w => h' (fun z => w z.2.1))
  have b3 := dO_le hg (oOk_s l2); have b4 := zO_le hg (oOk_s l2)
  refine mk_p hn h0 h35 hg h26 h27 _ _ _ _ _ 13 hM 3 1 (by omega) (by decide) _ _ (by omega) (by omega) d (pk3 _ _ _ _ _) Q (fun e3 x3 l3 => ?_) (fun w => h' (fun z => w z.2.2))
  refine mk_e _ _ _ _ _ _ _ 0 Q ?_
  have := h e1 e2 e3 l1 l2 l3 x1 x2 x3
  have e : max (max (max 0 (dO g (some e1))) (dO g (some e2))) (dO g (some e3)) = dM g (some e1) (some e2) (some e3) := by unfold dM; omega
  have e' : 1 + zO g (some e1) + zO g (some e2) + zO g (some e3) = zM g (some e1) (some e2) (some e3) := by unfold zM; omega
  rw [e, e']; exact this
theorem rf_2 {g R0 : st_I} {n : Nat} (H : mkH g R0 n) (s a b c d : Int32) (hM : ∀ Q : Int32 → st_I → Prop, wp_M_partsOf s a R0 Q ↔ Q 2 R0) (Q : Int32 → st_I → Prop) (h : ∀ e1, e1 < n → b = nI e1 → wp_M_make_L131 Q R0 s a b c d (nI (dM g (some e1) none none)) (nI (zM g (some e1) none none))) (h' : ¬ isx n b → Q 0 (st_u R0 20 35 1)) : wp_M_make_L27 Q 5 R0 s a b c d 0 1 0 := by
  obtain ⟨hn, h0, h35, hg, h26, h27⟩ := H
  refine mk_s h35 _ _ _ _ _ _ _ 2 hM 0 4 (by omega) (by decide) Q ?_
  refine mk_p hn h0 h35 hg h26 h27 _ _ _ _ _ 2 hM 1 3 (by omega) (by decide) 0 1 (by omega) (by omega) b (pk1 _ _ _ _ _) Q (fun e1 x1 l1 => ?_) h'
  refine mk_s h35 _ _ _ _ _ _ _ 2 hM 2 2 (by omega) (by decide) Q (mk_s h35 _ _ _ _ _ _ _ 2 hM 3 1 (by omega) (by decide) Q (mk_e _ _ _ _ _ _ _ 0 Q ?_))
  have := h e1 l1 x1
  simpa [dM, zM, dO, zO] using this
theorem rf_6 {g R0 : st_I} {n : Nat} (H : mkH g R0 n) (s a b c d : Int32) (hM : ∀ Q : Int32 → st_I → Prop, wp_M_partsOf s a R0 Q ↔ Q 6 R0) (Q : Int32 → st_I → Prop) (h : ∀ e1 e2, e1 < n → e2 < n → b = nI e1 → c = nI e2 → wp_M_make_L131 Q R0 s a b c d (nI (dM g (some e1) (some e2) none)) (nI (zM g (some e1) (some e2) none))) (h' : ¬ (isx n b ∧ isx n c) → Q 0 (st_u R0 20 35 1)) : wp_M_make_L27 Q 5 R0 s a b c d 0 1 0 := by
  obtain ⟨hn, h0, h35, hg, h26, h27⟩ := H
  refine mk_s h35 _ _ _ _ _ _ _ 6 hM 0 4 (by omega) (by decide) Q ?_
  refine mk_p hn h0 h35 hg h26 h27 _ _ _ _ _ 6 hM 1 3 (by omega) (by decide) 0 1 (by omega) (by omega) b (pk1 _ _ _ _ _) Q (fun e1 x1 l1 => ?_) (fun w => h' (fun z => w z.1))
  have b1 := dO_le hg (oOk_s l1); have b2 := zO_le hg (oOk_s l1)
  refine mk_p hn h0 h35 hg h26 h27 _ _ _ _ _ 6 hM 2 2 (by omega) (by decide) _ _ (by omega) (by omega) c (pk2 _ _ _ _ _) Q (fun e2 x2 l2 => ?_) (fun w => h' (fun z => w z.2))
  refine mk_s h35 _ _ _ _ _ _ _ 6 hM 3 1 (by omega) (by decide) Q (mk_e _ _ _ _ _ _ _ 0 Q ?_)
  have := h e1 e2 l1 l2 x1 x2
  have e : max (max 0 (dO g (some e1))) (dO g (some e2)) = dM g (some e1) (some e2) none := by unfold dM; simp only [dO]; omega
  have e' : 1 + zO g (some e1) + zO g (some e2) = zM g (some e1) (some e2) none := by unfold zM; simp only [zO]; omega
  rw [e, e']; exact this
theorem rowW_o (g : st_I) (n : Nat) (s D f1 f2 f3 dp sz : Int32) (k : Nat) (h : k < 2 ∨ 8 < k) : rowW g n s D f1 f2 f3 dp sz k = g k := by
  unfold rowW
  rw [su_o _ _ _ _ _ (by omega), su_o _ _ _ _ _ (by omega), su_o _ _ _ _ _ (by omega), su_o _ _ _ _ _ (by omega), su_o _ _ _ _ _ (by omega), su_o _ _ _ _ _ (by omega), su_o _ _ _ _ _ (by omega)]
theorem su_l (g : st_I) (k i : Nat) (x : Int32) (k' e : Nat) (h : e ≠ i) : st_u g k i x k' e = g k' e := by
  by_cases z : k' = k
  · subst z; rw [su_k, if_neg h]
  · rw [su_o _ _ _ _ _ z]
theorem rowW_l (g : st_I) (n : Nat) (s D f1 f2 f3 dp sz : Int32) (k e : Nat) (h : e < n) : rowW g n s D f1 f2 f3 dp sz k e = g k e := by
  have hn : e ≠ n := by omega
  unfold rowW
  rw [su_l _ _ _ _ _ _ hn, su_l _ _ _ _ _ _ hn, su_l _ _ _ _ _ _ hn, su_l _ _ _ _ _ _ hn, su_l _ _ _ _ _ _ hn, su_l _ _ _ _ _ _ hn, su_l _ _ _ _ _ _ hn]
theorem rowM_o (r : st_I) (n : Nat) (s a b c d dp sz : Int32) (k : Nat) (h : 28 ≤ k) : rowM r n s a b c d dp sz k = r k := by
  unfold rowM
  rw [su_o _ _ _ _ _ (by omega), su_o _ _ _ _ _ (by omega), su_o _ _ _ _ _ (by omega), su_o _ _ _ _ _ (by omega), su_o _ _ _ _ _ (by omega), su_o _ _ _ _ _ (by omega), su_o _ _ _ _ _ (by omega), su_o _ _ _ _ _ (by omega), su_o _ _ _ _ _ (by omega)]
theorem rowM_l (r : st_I) (n : Nat) (s a b c d dp sz : Int32) (k e : Nat) (hk : k ≠ 20) (h : e < n) : rowM r n s a b c d dp sz k e = r k e := by
  have hn : e ≠ n := by omega
  unfold rowM
  rw [su_o _ _ _ _ _ hk, su_l _ _ _ _ _ _ hn, su_l _ _ _ _ _ _ hn, su_l _ _ _ _ _ _ hn, su_l _ _ _ _ _ _ hn, su_l _ _ _ _ _ _ hn, su_l _ _ _ _ _ _ hn, su_l _ _ _ _ _ _ hn, su_o _ _ _ _ _ hk]
theorem mk_fin {g r : st_I} {n : Nat} (hiv : iv g r) (hp : pr_all g r n) (q o : st_L) (s a b c d D : Int32) {o1 o2 o3 : Option Nat} (h1 : oOk n o1) (h2 : oOk n o2) (h3 : oOk n o3) {C : Int32 → st_I × st_L × st_L → Int32 → st_I → Prop} (hC : ∀ x u y r', op_post x u y r' → C x u y r') (hcl : ∀ Qd : Int32 → st_S → Prop, drF g n s D q Qd o1 o2 o3 → wp_P_draft s a b c d g q Qd) (hrf : ∀ Q : Int32 → st_I → Prop, wp_M_make_L131 Q (st_u r 20 35 0) s a b c d (nI (dM g o1 o2 o3)) (nI (zM g o1 o2 o3)) → wp_M_make s a b c d r Q) (hnew : pr_row (st_u (rowW g n s D (oI o1) (oI o2) (oI o3) (nI (dM g o1 o2 o3)) (nI (zM g o1 o2 o3))) 1 8 (nI (n + 1))) (rowM (st_u r 20 35 0) n s a b c d (nI (dM g o1 o2 o3)) (nI (zM g o1 o2 o3))) (n + 1) n) : wp_L_make s a b c d g q o (fun x u => wp_M_make s a b c d r (fun y r' => C x u y r')) := by
  have hn := hp.1
  have hr := rws_of hp
  have hd : dM g o1 o2 o3 < 7 := by
    have a := dO_le hr h1; have b := dO_le hr h2; have c := dO_le hr h3
    unfold dM; omega
  have hz : zM g o1 o2 o3 ≤ 181 := by
    have a := zO_le hr h1; have b := zO_le hr h2; have c := zO_le hr h3
    unfold zM; omega
  have hz1 : 1 ≤ zM g o1 o2 o3 := by unfold zM; omega
  have hr0 : (st_u r 20 35 0) 20 0 = nI n := by simp [st_u, upd, hp.2.2.1]
  have hr35 : (st_u r 20 35 0) 20 35 = 0 := by simp [st_u, upd]
  have w8 : rowW g n s D (oI o1) (oI o2) (oI o3) (nI (dM g o1 o2 o3)) (nI (zM g o1 o2 o3)) 1 8 = nI n := by rw [rowW_o _ _ _ _ _ _ _ _ _ 1 (Or.inl (by decide))]; exact hp.2.1
  have ivW : ∀ r', (∀ k, k ≠ 20 → r' k = r k) → (∀ j, j ≠ 35 → r' 20 j = r 20 j) → iv (rowW g n s D (oI o1) (oI o2) (oI o3) (nI (dM g o1 o2 o3)) (nI (zM g o1 o2 o3))) r' := fun r' a1 a2 => iv_row hiv hp.2.1 hn (fun k hk => rowW_o _ _ _ _ _ _ _ _ _ k hk) (fun k _ _ e he => rowW_l _ _ _ _ _ _ _ _ _ k e he) a1 a2
  have e35 : ∀ x, (∀ k, k ≠ 20 → st_u (st_u r 20 35 0) 20 35 x k = r k) ∧ (∀ j, j ≠ 35 → st_u (st_u r 20 35 0) 20 35 x 20 j = r 20 j) := fun x => ⟨fun k hk => by rw [su_o _ _ _ _ _ hk, su_o _ _ _ _ _ hk], fun j hj => by rw [su_l _ _ _ _ _ _ hj, su_l _ _ _ _ _ _ hj]⟩
  unfold wp_L_make wp_S_make
  refine hcl _ ⟨fun ok => ?_, fun nok => ?_⟩
  · simp only [show ¬ (1 : Int32) = 0 from by decide, not_false_eq_true, true_imp_iff, false_imp_iff, and_true, wp_P_isFull, wp_P_isFull_L14, wp_P_keepDraft, w8, zb_0, zb_1, true_and, nI_1]
    have l9 : (nI n < (90 : Int32)) ↔ n < 90 := nI_ltI (b := 90) (by omega) (by omega)
    simp only [l9]
    refine ⟨fun lt => ⟨⟨vi_1, ?_⟩, fun z => absurd trivial z⟩, fun nlt => ?_⟩
    · refine hrf _ (rm_end hn hr0 hr35 s a b c d hd hz _ (fun z => absurd ok z) (fun _ z => absurd lt (by omega)) (fun _ _ => ?_))
      refine hC _ _ _ _ ⟨?_, fun _ => ok_out o rfl _ q, ?_⟩
      · simp [rowM, st_u, upd]
      · refine iv_new hiv hp.2.1 lt (fun k hk => ?_) (by simp [st_u, upd]) (fun k h1 h2 e he => ?_) (fun k hk => ?_) (by simp [rowM, st_u, upd]) (fun j h1 h2 => ?_) (fun k h1 h2 e he => ?_) ⟨?_, ⟨_, ok.1, ?_, ?_⟩, ⟨_, hz1, ok.2, ?_, ?_⟩, hnew⟩
        · show st_u (rowW g n s D (oI o1) (oI o2) (oI o3) (nI (dM g o1 o2 o3)) (nI (zM g o1 o2 o3))) 1 8 (nI (n + 1)) k = g k
          rw [su_o _ _ _ _ _ (by omega), rowW_o _ _ _ _ _ _ _ _ _ k (Or.inr hk)]
        · show st_u (rowW g n s D (oI o1) (oI o2) (oI o3) (nI (dM g o1 o2 o3)) (nI (zM g o1 o2 o3))) 1 8 (nI (n + 1)) k e = g k e
          rw [su_o _ _ _ _ _ (by omega), rowW_l _ _ _ _ _ _ _ _ _ k e he]
        · rw [rowM_o _ _ _ _ _ _ _ _ _ k hk, su_o _ _ _ _ _ (by omega)]
        · simp [rowM, st_u, upd, h1, h2]
        · rw [rowM_l _ _ _ _ _ _ _ _ _ k e (by omega) he, su_o _ _ _ _ _ (by omega)]
        · simp [rowM, rowW, st_u, upd]
        · simp [rowW, st_u, upd]
        · simp [rowM, st_u, upd]
        · simp [rowW, st_u, upd]
        · simp [rowM, st_u, upd]
    · refine ⟨Or.inr trivial, fun z => absurd z (by decide), ?_⟩
      refine hrf _ (rm_end hn hr0 hr35 s a b c d hd hz _ (fun z => absurd ok z) (fun _ _ => ?_) (fun _ z => absurd z nlt))
      exact hC _ _ _ _ ⟨by simp [st_u, upd], fun z => absurd z (by decide), ivW _ (e35 2).1 (e35 2).2⟩
  · simp only [not_true, false_imp_iff, true_imp_iff, true_and]
    refine ⟨Or.inl trivial, ?_, fun z => absurd z (by decide)⟩
    refine hrf _ (rm_end hn hr0 hr35 s a b c d hd hz _ (fun _ => ?_) (fun z => absurd z nok) (fun z => absurd z nok))
    exact hC _ _ _ _ ⟨by simp [st_u, upd], fun z => absurd z (by decide), ivW _ (e35 1).1 (e35 1).2⟩
theorem mk_no {g r : st_I} {n : Nat} (hiv : iv g r) (hp : pr_all g r n) (q o : st_L) (s a b c d : Int32) {C : Int32 → st_I × st_L × st_L → Int32 → st_I → Prop} (hC : ∀ x u y r', op_post x u y r' → C x u y r') (hcl : ∀ Qd : Int32 → st_S → Prop, Qd 0 (g, q) → wp_P_draft s a b c d g q Qd) (hrf : ∀ Q : Int32 → st_I → Prop, (∀ x, Q 0 (st_u (st_u r 20 35 x) 20 35 1)) → wp_M_make s a b c d r Q) : wp_L_make s a b c d g q o (fun x u => wp_M_make s a b c d r (fun y r' => C x u y r')) := by
  unfold wp_L_make wp_S_make
  refine hcl _ ⟨fun z => absurd rfl z, fun _ => ⟨Or.inl rfl, fun _ => ?_, fun z => absurd z (by decide)⟩⟩
  refine hrf _ (fun x => hC _ _ _ _ ⟨by simp [st_u, upd], fun z => absurd z (by decide), ?_⟩)
  exact iv_35 (iv_35 hiv x) 1
theorem rdG (g : st_I) (n : Nat) (s D f1 f2 f3 dp sz x : Int32) : st_u (rowW g n s D f1 f2 f3 dp sz) 1 8 x 2 n = s ∧ st_u (rowW g n s D f1 f2 f3 dp sz) 1 8 x 3 n = D ∧ st_u (rowW g n s D f1 f2 f3 dp sz) 1 8 x 4 n = f1 ∧ st_u (rowW g n s D f1 f2 f3 dp sz) 1 8 x 5 n = f2 ∧ st_u (rowW g n s D f1 f2 f3 dp sz) 1 8 x 6 n = f3 := by
  refine ⟨?_, ?_, ?_, ?_, ?_⟩ <;> simp [rowW, st_u, upd]
theorem rdM (r : st_I) (n : Nat) (s a b c d dp sz : Int32) : rowM r n s a b c d dp sz 22 n = a ∧ rowM r n s a b c d dp sz 23 n = b ∧ rowM r n s a b c d dp sz 24 n = c ∧ rowM r n s a b c d dp sz 25 n = d := by
  refine ⟨?_, ?_, ?_, ?_⟩ <;> simp [rowM, st_u, upd]
theorem op_make (s a b c d : Int32) {g r : st_I} (q o : st_L) (hiv : iv g r) {C : Int32 → st_I × st_L × st_L → Int32 → st_I → Prop} (hC : ∀ x u y r', op_post x u y r' → C x u y r') : wp_L_make s a b c d g q o (fun x u => wp_M_make s a b c d r (fun y r' => C x u y r')) := by
  have hiv' := hiv
  obtain ⟨n, hp, -⟩ := hiv
  have hn := hp.1
  have h8 := hp.2.1
  have hg := rws_of hp
  have H : mkH g (st_u r 20 35 0) n := by
    refine ⟨hn, by simp [st_u, upd, hp.2.2.1], by simp [st_u, upd], hg, fun e he => ?_, fun e he => ?_⟩
    · obtain ⟨-, ⟨d, -, x1, x2⟩, -⟩ := hp.2.2.2 e he
      rw [su_o _ _ _ _ _ (by decide), x1, x2]
    · obtain ⟨-, -, ⟨z, -, -, x1, x2⟩, -⟩ := hp.2.2.2 e he
      rw [su_o _ _ _ _ _ (by decide), x1, x2]
  by_cases hs : isx 15 s
  · obtain ⟨t, ht, rfl⟩ := hs
    by_cases hf : fit t a b
    · have rmk : ∀ Q : Int32 → st_I → Prop, wp_M_make_L27 Q 5 (st_u r 20 35 0) (nI t) a b c d 0 1 0 → wp_M_make (nI t) a b c d r Q := by
        intro Q h
        unfold wp_M_make
        rw [rs t ht]
        refine ⟨fun _ => ⟨fun z => absurd z (by decide), fun _ => ⟨5, h⟩⟩, fun z => absurd hf z⟩
      have cmk : ∀ (P : Nat) (D f1 f2 : Int32), nI P = nI (pp t a) → D = (if t = 9 then b else a) → f1 = (if t = 10 ∨ t = 11 then b else a) → f2 = (if t = 10 ∨ t = 11 ∨ t = 9 then c else b) → ∀ Qd : Int32 → st_S → Prop, wp_P_draft_L105 Qd g q (nI t) d D (nI P) f1 f2 → wp_P_draft (nI t) a b c d g q Qd := by
        intro P D f1 f2 e1 e2 e3 e4 Qd h
        rw [cd t ht]
        refine ⟨fun _ => ?_, fun z => absurd hf z⟩
        rw [← e1, ← e2, ← e3, ← e4]; exact h
      have dpc : ∀ (D : Int32) (o1 o2 o3 : Option Nat) (e : Nat), oOk n o1 → oOk n o2 → oOk n o3 → (o1 = some e ∨ o2 = some e ∨ o3 = some e) → pr_c (st_u (rowW g n (nI t) D (oI o1) (oI o2) (oI o3) (nI (dM g o1 o2 o3)) (nI (zM g o1 o2 o3))) 1 8 (nI (n + 1))) (n + 1) n e := by
        intro D o1 o2 o3 e k1 k2 k3 ho
        have he : e < n := by
          rcases ho with rfl | rfl | rfl
          · exact k1 e rfl
          · exact k2 e rfl
          · exact k3 e rfl
        refine ⟨by omega, ?_⟩
        rw [su_o _ _ _ _ _ (by decide), rowW_l _ _ _ _ _ _ _ _ _ 7 e he]
        have e7 : rowW g n (nI t) D (oI o1) (oI o2) (oI o3) (nI (dM g o1 o2 o3)) (nI (zM g o1 o2 o3)) 7 n = nI (dM g o1 o2 o3) := by simp [rowW, st_u, upd]
        have hle : dO g (some e) ≤ dM g o1 o2 o3 := by
          unfold dM
          rcases ho with rfl | rfl | rfl <;> omega
        have hd : dM g o1 o2 o3 < 7 := by
          have a := dO_le hg k1; have b := dO_le hg k2; have c := dO_le hg k3
          unfold dM; omega
        rw [e7, nI_clamp (by omega)]
        simp only [dO] at hle
        omega
      -- no parts
      have leaf : pp t a = 0 → t ≠ 9 → t ≠ 10 → t ≠ 11 → (∀ (R0 : st_I) (Q : Int32 → st_I → Prop), wp_M_partsOf (nI t) a R0 Q ↔ Q 0 R0) → (((nI t = 0 ∨ nI t = 1) ∧ isx 4 a) ∨ nI t = 2 ∨ (nI t = 3 ∨ nI t = 14)) → wp_L_make (nI t) a b c d g q o (fun x u => wp_M_make (nI t) a b c d r (fun y r' => C x u y r')) := by
        intro hpp n9 n10 n11 hM hrow
        refine mk_fin hiv' hp q o (nI t) a b c d a (oOk_n n) (oOk_n n) (oOk_n n) hC (fun Qd h => ?_) (fun Q h => rmk Q (rf_0 H _ _ _ _ _ (hM _) Q h)) ?_
        · exact cmk 0 a a b (by rw [hpp]) (by simp [n9]) (by simp [n10, n11]) (by simp [n9, n10, n11]) Qd (dr_w hn h8 hg 0 (by omega) (oOk_n n) (oOk_n n) (oOk_n n) _ _ _ _ _ q Qd rfl rfl rfl (dr_yes hn h8 0 (by omega) _ _ _ q ⟨fun z => absurd z (by omega), fun z => absurd z (by omega), fun z => absurd z (by omega)⟩) h)
        · obtain ⟨G2, G3, -, -, -⟩ := rdG g n (nI t) a (oI none) (oI none) (oI none) (nI (dM g none none none)) (nI (zM g none none none)) (nI (n + 1))
          obtain ⟨M2, -, -, -⟩ := rdM (st_u r 20 35 0) n (nI t) a b c d (nI (dM g none none none)) (nI (zM g none none none))
          unfold pr_row
          rw [G2, G3, M2]
          rcases hrow with ⟨w, v, hv, hav⟩ | w | w
          · exact Or.inl ⟨w, v, hv, hav, hav⟩
          · exact Or.inr (Or.inl ⟨w, rfl⟩)
          · exact Or.inr (Or.inr (Or.inl w))
      -- two parts a, b
      have two : pp t a = 2 → t ≠ 9 → t ≠ 10 → t ≠ 11 → (nI t = 4 ∨ nI t = 5 ∨ nI t = 6 ∨ nI t = 12 ∨ nI t = 13) → wp_L_make (nI t) a b c d g q o (fun x u => wp_M_make (nI t) a b c d r (fun y r' => C x u y r')) := by
        intro hpp n9 n10 n11 hrow
        have hM := fun R0 => rx_parts_3 (nI t) a hrow R0
        by_cases hx : isx n a ∧ isx n b
        · obtain ⟨⟨e1, l1, x1⟩, ⟨e2, l2, x2⟩⟩ := hx
          refine mk_fin hiv' hp q o (nI t) a b c d a (oOk_s l1) (oOk_s l2) (oOk_n n) hC (fun Qd h => ?_) (fun Q h => rmk Q (rf_3 H _ _ _ _ _ (hM _) Q (fun f1 f2 k1 k2 y1 y2 => ?_) (fun z => absurd ⟨⟨e1, l1, x1⟩, ⟨e2, l2, x2⟩⟩ z))) ?_
          · exact cmk 2 a a b (by rw [hpp]) (by simp [n9]) (by simp [n10, n11]) (by simp [n9, n10, n11]) Qd (dr_w hn h8 hg 2 (by omega) (oOk_s l1) (oOk_s l2) (oOk_n n) _ _ _ _ _ q Qd (by simp [oI, x1]) (by simp [oI, x2]) rfl (dr_yes hn h8 2 (by omega) _ _ _ q ⟨fun _ => ⟨e1, l1, x1⟩, fun _ => ⟨e2, l2, x2⟩, fun z => absurd z (by omega)⟩) h)
          · rw [x1] at y1; rw [x2] at y2
            rw [← (nI_eq (by omega) (by omega)).mp y1, ← (nI_eq (by omega) (by omega)).mp y2]; exact h
          · obtain ⟨G2, -, G4, G5, -⟩ := rdG g n (nI t) a (oI (some e1)) (oI (some e2)) (oI none) (nI (dM g (some e1) (some e2) none)) (nI (zM g (some e1) (some e2) none)) (nI (n + 1))
            obtain ⟨M2, M3, -, -⟩ := rdM (st_u r 20 35 0) n (nI t) a b c d (nI (dM g (some e1) (some e2) none)) (nI (zM g (some e1) (some e2) none))
            have p1 := dpc a (some e1) (some e2) none e1 (oOk_s l1) (oOk_s l2) (oOk_n n) (Or.inl rfl)
            have p2 := dpc a (some e1) (some e2) none e2 (oOk_s l1) (oOk_s l2) (oOk_n n) (Or.inr (Or.inl rfl))
            unfold pr_row
            rw [G2, G4, G5, M2, M3]
            exact Or.inr (Or.inr (Or.inr (Or.inl ⟨hrow, e1, e2, p1, p2, rfl, x1, rfl, x2⟩)))
        · refine mk_no hiv' hp q o _ _ _ _ _ hC (fun Qd h => ?_) (fun Q h => rmk Q (rf_3 H _ _ _ _ _ (hM _) Q (fun f1 f2 k1 k2 y1 y2 => absurd ⟨⟨f1, k1, y1⟩, ⟨f2, k2, y2⟩⟩ hx) (fun _ => h 0)))
          exact cmk 2 a a b (by rw [hpp]) (by simp [n9]) (by simp [n10, n11]) (by simp [n9, n10, n11]) Qd (dr_no hn h8 2 (by omega) _ _ _ _ _ q Qd (fun z => hx ⟨z.1 (by omega), z.2.1 (by omega)⟩) h)
      -- one part a
      have one : pp t a = 1 → t ≠ 9 → t ≠ 10 → t ≠ 11 → (nI t = 7 ∨ nI t = 8) → wp_L_make (nI t) a b c d g q o (fun x u => wp_M_make (nI t) a b c d r (fun y r' => C x u y r')) := by
        intro hpp n9 n10 n11 hrow
        have hM := fun R0 => rx_parts_1 (nI t) a hrow R0
        by_cases hx : isx n a
        · obtain ⟨e1, l1, x1⟩ := hx
          refine mk_fin hiv' hp q o (nI t) a b c d a (oOk_s l1) (oOk_n n) (oOk_n n) hC (fun Qd h => ?_) (fun Q h => rmk Q (rf_1 H _ _ _ _ _ (hM _) Q (fun f1 k1 y1 => ?_) (fun z => absurd ⟨e1, l1, x1⟩ z))) ?_
          · exact cmk 1 a a b (by rw [hpp]) (by simp [n9]) (by simp [n10, n11]) (by simp [n9, n10, n11]) Qd (dr_w hn h8 hg 1 (by omega) (oOk_s l1) (oOk_n n) (oOk_n n) _ _ _ _ _ q Qd (by simp [oI, x1]) rfl rfl (dr_yes hn h8 1 (by omega) _ _ _ q ⟨fun _ => ⟨e1, l1, x1⟩, fun z => absurd z (by omega), fun z => absurd z (by omega)⟩) h)
          · rw [x1] at y1
            rw [← (nI_eq (by omega) (by omega)).mp y1]; exact h
          · obtain ⟨G2, -, G4, -, -⟩ := rdG g n (nI t) a (oI (some e1)) (oI none) (oI none) (nI (dM g (some e1) none none)) (nI (zM g (some e1) none none)) (nI (n + 1))
            obtain ⟨M2, -, -, -⟩ := rdM (st_u r 20 35 0) n (nI t) a b c d (nI (dM g (some e1) none none)) (nI (zM g (some e1) none none))
            have p1 := dpc a (some e1) none none e1 (oOk_s l1) (oOk_n n) (oOk_n n) (Or.inl rfl)
            unfold pr_row
            rw [G2, G4, M2]
            exact Or.inr (Or.inr (Or.inr (Or.inr (Or.inl ⟨hrow, e1, p1, rfl, x1⟩))))
        · refine mk_no hiv' hp q o _ _ _ _ _ hC (fun Qd h => ?_) (fun Q h => rmk Q (rf_1 H _ _ _ _ _ (hM _) Q (fun f1 k1 y1 => absurd ⟨f1, k1, y1⟩ hx) (fun _ => h 0)))
          exact cmk 1 a a b (by rw [hpp]) (by simp [n9]) (by simp [n10, n11]) (by simp [n9, n10, n11]) Qd (dr_no hn h8 1 (by omega) _ _ _ _ _ q Qd (fun z => hx (z.1 (by omega))) h)
      have : t = 0 ∨ t = 1 ∨ t = 2 ∨ t = 3 ∨ t = 4 ∨ t = 5 ∨ t = 6 ∨ t = 7 ∨ t = 8 ∨ t = 9 ∨ t = 10 ∨ t = 11 ∨ t = 12 ∨ t = 13 ∨ t = 14 := by omega
      rcases this with rfl | rfl | rfl | rfl | rfl | rfl | rfl | rfl | rfl | rfl | rfl | rfl | rfl | rfl | rfl
      · exact leaf rfl (by omega) (by omega) (by omega) (fun R0 Q => rx_parts_0 0 a (by simp) R0 Q) (Or.inl ⟨Or.inl rfl, hf.1 (by simp)⟩)
      · exact leaf rfl (by omega) (by omega) (by omega) (fun R0 Q => rx_parts_0 1 a (by simp) R0 Q) (Or.inl ⟨Or.inr rfl, hf.1 (by simp)⟩)
      · exact leaf rfl (by omega) (by omega) (by omega) (fun R0 Q => rx_parts_0 2 a (by simp) R0 Q) (Or.inr (Or.inl rfl))
      · exact leaf rfl (by omega) (by omega) (by omega) (fun R0 Q => rx_parts_0 3 a (by simp) R0 Q) (Or.inr (Or.inr (Or.inl rfl)))
      · exact two rfl (by omega) (by omega) (by omega) (Or.inl rfl)
      · exact two rfl (by omega) (by omega) (by omega) (Or.inr (Or.inl rfl))
      · exact two rfl (by omega) (by omega) (by omega) (Or.inr (Or.inr (Or.inl rfl)))
      · exact one rfl (by omega) (by omega) (by omega) (Or.inl rfl)
      · exact one rfl (by omega) (by omega) (by omega) (Or.inr rfl)
      · -- case
        obtain ⟨m, hm, hbm⟩ := hf.2.1 rfl
        have hM : ∀ (R0 : st_I) (Q : Int32 → st_I → Prop), wp_M_partsOf (nI 9) a R0 Q ↔ Q 13 R0 := fun R0 Q => rx_parts_9 a R0 Q
        by_cases hx : isx n a ∧ isx n c ∧ isx n d
        · obtain ⟨⟨e1, l1, x1⟩, ⟨e2, l2, x2⟩, ⟨e3, l3, x3⟩⟩ := hx
          refine mk_fin hiv' hp q o (nI 9) a b c d b (oOk_s l1) (oOk_s l2) (oOk_s l3) hC (fun Qd h => ?_) (fun Q h => rmk Q (rf_13 H _ _ _ _ _ (hM _) Q (fun f1 f2 f3 k1 k2 k3 y1 y2 y3 => ?_) (fun z => absurd ⟨⟨e1, l1, x1⟩, ⟨e2, l2, x2⟩, ⟨e3, l3, x3⟩⟩ z))) ?_
          · exact cmk 3 b a c rfl (by simp) (by simp) (by simp) Qd (dr_w hn h8 hg 3 (by omega) (oOk_s l1) (oOk_s l2) (oOk_s l3) _ _ _ _ _ q Qd (by simp [oI, x1]) (by simp [oI, x2]) (by simp [oI, x3]) (dr_yes hn h8 3 (by omega) _ _ _ q ⟨fun _ => ⟨e1, l1, x1⟩, fun _ => ⟨e2, l2, x2⟩, fun _ => ⟨e3, l3, x3⟩⟩) h)
          · rw [x1] at y1; rw [x2] at y2; rw [x3] at y3
            rw [← (nI_eq (by omega) (by omega)).mp y1, ← (nI_eq (by omega) (by omega)).mp y2, ← (nI_eq (by omega) (by omega)).mp y3]; exact h
          · obtain ⟨G2, G3, G4, G5, G6⟩ := rdG g n (nI 9) b (oI (some e1)) (oI (some e2)) (oI (some e3)) (nI (dM g (some e1) (some e2) (some e3))) (nI (zM g (some e1) (some e2) (some e3))) (nI (n + 1))
            obtain ⟨M2, M3, M4, M5⟩ := rdM (st_u r 20 35 0) n (nI 9) a b c d (nI (dM g (some e1) (some e2) (some e3))) (nI (zM g (some e1) (some e2) (some e3)))
            have p1 := dpc b (some e1) (some e2) (some e3) e1 (oOk_s l1) (oOk_s l2) (oOk_s l3) (Or.inl rfl)
            have p2 := dpc b (some e1) (some e2) (some e3) e2 (oOk_s l1) (oOk_s l2) (oOk_s l3) (Or.inr (Or.inl rfl))
            have p3 := dpc b (some e1) (some e2) (some e3) e3 (oOk_s l1) (oOk_s l2) (oOk_s l3) (Or.inr (Or.inr rfl))
            unfold pr_row
            rw [G2, G3, G4, G5, G6, M2, M3, M4, M5]
            exact Or.inr (Or.inr (Or.inr (Or.inr (Or.inr (Or.inl ⟨rfl, m, e1, e2, e3, hm, hbm, hbm, p1, p2, p3, rfl, x1, rfl, x2, rfl, x3⟩)))))
        · refine mk_no hiv' hp q o _ _ _ _ _ hC (fun Qd h => ?_) (fun Q h => rmk Q (rf_13 H _ _ _ _ _ (hM _) Q (fun f1 f2 f3 k1 k2 k3 y1 y2 y3 => absurd ⟨⟨f1, k1, y1⟩, ⟨f2, k2, y2⟩, ⟨f3, k3, y3⟩⟩ hx) (fun _ => h 0)))
          exact cmk 3 b a c rfl (by simp) (by simp) (by simp) Qd (dr_no hn h8 3 (by omega) _ _ _ _ _ q Qd (fun z => hx ⟨z.1 (by omega), z.2.1 (by omega), z.2.2 (by omega)⟩) h)
      · -- call
        obtain ⟨f, hf6, haf⟩ := hf.2.2.1 rfl
        have le3 : ((3 : Int32) ≤ a) ↔ 3 ≤ f := by rw [haf]; exact nI_leI (a := 3) (by omega) (by omega)
        by_cases z3 : 3 ≤ f
        · have hM : ∀ (R0 : st_I) (Q : Int32 → st_I → Prop), wp_M_partsOf (nI 10) a R0 Q ↔ Q 6 R0 := fun R0 Q => by
            have := rx_parts_10 a R0 Q
            rw [if_pos (le3.mpr z3)] at this; exact this
          have hpp : pp 10 a = 2 := by simp [pp, le3.mpr z3]
          by_cases hx : isx n b ∧ isx n c
          · obtain ⟨⟨e1, l1, x1⟩, ⟨e2, l2, x2⟩⟩ := hx
            refine mk_fin hiv' hp q o (nI 10) a b c d a (oOk_s l1) (oOk_s l2) (oOk_n n) hC (fun Qd h => ?_) (fun Q h => rmk Q (rf_6 H _ _ _ _ _ (hM _) Q (fun f1 f2 k1 k2 y1 y2 => ?_) (fun z => absurd ⟨⟨e1, l1, x1⟩, ⟨e2, l2, x2⟩⟩ z))) ?_
            · exact cmk 2 a b c (by rw [hpp]) (by simp) (by simp) (by simp) Qd (dr_w hn h8 hg 2 (by omega) (oOk_s l1) (oOk_s l2) (oOk_n n) _ _ _ _ _ q Qd (by simp [oI, x1]) (by simp [oI, x2]) rfl (dr_yes hn h8 2 (by omega) _ _ _ q ⟨fun _ => ⟨e1, l1, x1⟩, fun _ => ⟨e2, l2, x2⟩, fun z => absurd z (by omega)⟩) h)
            · rw [x1] at y1; rw [x2] at y2
              rw [← (nI_eq (by omega) (by omega)).mp y1, ← (nI_eq (by omega) (by omega)).mp y2]; exact h
            · obtain ⟨G2, G3, G4, G5, -⟩ := rdG g n (nI 10) a (oI (some e1)) (oI (some e2)) (oI none) (nI (dM g (some e1) (some e2) none)) (nI (zM g (some e1) (some e2) none)) (nI (n + 1))
              obtain ⟨M2, M3, M4, -⟩ := rdM (st_u r 20 35 0) n (nI 10) a b c d (nI (dM g (some e1) (some e2) none)) (nI (zM g (some e1) (some e2) none))
              have p1 := dpc a (some e1) (some e2) none e1 (oOk_s l1) (oOk_s l2) (oOk_n n) (Or.inl rfl)
              have p2 := dpc a (some e1) (some e2) none e2 (oOk_s l1) (oOk_s l2) (oOk_n n) (Or.inr (Or.inl rfl))
              unfold pr_row
              rw [G2, G3, G4, G5, M2, M3, M4]
              exact Or.inr (Or.inr (Or.inr (Or.inr (Or.inr (Or.inr (Or.inl ⟨rfl, f, e1, hf6, haf, haf, p1, rfl, x1, Or.inr ⟨e2, p2, rfl, x2⟩⟩))))))
          · refine mk_no hiv' hp q o _ _ _ _ _ hC (fun Qd h => ?_) (fun Q h => rmk Q (rf_6 H _ _ _ _ _ (hM _) Q (fun f1 f2 k1 k2 y1 y2 => absurd ⟨⟨f1, k1, y1⟩, ⟨f2, k2, y2⟩⟩ hx) (fun _ => h 0)))
            exact cmk 2 a b c (by rw [hpp]) (by simp) (by simp) (by simp) Qd (dr_no hn h8 2 (by omega) _ _ _ _ _ q Qd (fun z => hx ⟨z.1 (by omega), z.2.1 (by omega)⟩) h)
        · have n3 : ¬ (3 : Int32) ≤ a := fun z => z3 (le3.mp z)
          have hM : ∀ (R0 : st_I) (Q : Int32 → st_I → Prop), wp_M_partsOf (nI 10) a R0 Q ↔ Q 2 R0 := fun R0 Q => by
            have := rx_parts_10 a R0 Q
            rw [if_neg n3] at this; exact this
          have hpp : pp 10 a = 1 := by simp [pp, n3]
          by_cases hx : isx n b
          · obtain ⟨e1, l1, x1⟩ := hx
            refine mk_fin hiv' hp q o (nI 10) a b c d a (oOk_s l1) (oOk_n n) (oOk_n n) hC (fun Qd h => ?_) (fun Q h => rmk Q (rf_2 H _ _ _ _ _ (hM _) Q (fun f1 k1 y1 => ?_) (fun z => absurd ⟨e1, l1, x1⟩ z))) ?_
            · exact cmk 1 a b c (by rw [hpp]) (by simp) (by simp) (by simp) Qd (dr_w hn h8 hg 1 (by omega) (oOk_s l1) (oOk_n n) (oOk_n n) _ _ _ _ _ q Qd (by simp [oI, x1]) rfl rfl (dr_yes hn h8 1 (by omega) _ _ _ q ⟨fun _ => ⟨e1, l1, x1⟩, fun z => absurd z (by omega), fun z => absurd z (by omega)⟩) h)
            · rw [x1] at y1
              rw [← (nI_eq (by omega) (by omega)).mp y1]; exact h
            · obtain ⟨G2, G3, G4, -, -⟩ := rdG g n (nI 10) a (oI (some e1)) (oI none) (oI none) (nI (dM g (some e1) none none)) (nI (zM g (some e1) none none)) (nI (n + 1))
              obtain ⟨M2, M3, -, -⟩ := rdM (st_u r 20 35 0) n (nI 10) a b c d (nI (dM g (some e1) none none)) (nI (zM g (some e1) none none))
              have p1 := dpc a (some e1) none none e1 (oOk_s l1) (oOk_n n) (oOk_n n) (Or.inl rfl)
              unfold pr_row
              rw [G2, G3, G4, M2, M3]
              exact Or.inr (Or.inr (Or.inr (Or.inr (Or.inr (Or.inr (Or.inl ⟨rfl, f, e1, hf6, haf, haf, p1, rfl, x1, Or.inl (by omega)⟩))))))
          · refine mk_no hiv' hp q o _ _ _ _ _ hC (fun Qd h => ?_) (fun Q h => rmk Q (rf_2 H _ _ _ _ _ (hM _) Q (fun f1 k1 y1 => absurd ⟨f1, k1, y1⟩ hx) (fun _ => h 0)))
            exact cmk 1 a b c (by rw [hpp]) (by simp) (by simp) (by simp) Qd (dr_no hn h8 1 (by omega) _ _ _ _ _ q Qd (fun z => hx (z.1 (by omega))) h)
      · -- let
        have hv : ∃ v, (v = 2 ∨ v = 3) ∧ a = nI v := by
          rcases hf.2.2.2 rfl with h | h
          · exact ⟨2, Or.inl rfl, h⟩
          · exact ⟨3, Or.inr rfl, h⟩
        obtain ⟨v, hv, hav⟩ := hv
        have hM : ∀ (R0 : st_I) (Q : Int32 → st_I → Prop), wp_M_partsOf (nI 11) a R0 Q ↔ Q 6 R0 := fun R0 Q => rx_parts_11 a R0 Q
        by_cases hx : isx n b ∧ isx n c
        · obtain ⟨⟨e1, l1, x1⟩, ⟨e2, l2, x2⟩⟩ := hx
          refine mk_fin hiv' hp q o (nI 11) a b c d a (oOk_s l1) (oOk_s l2) (oOk_n n) hC (fun Qd h => ?_) (fun Q h => rmk Q (rf_6 H _ _ _ _ _ (hM _) Q (fun f1 f2 k1 k2 y1 y2 => ?_) (fun z => absurd ⟨⟨e1, l1, x1⟩, ⟨e2, l2, x2⟩⟩ z))) ?_
          · exact cmk 2 a b c rfl (by simp) (by simp) (by simp) Qd (dr_w hn h8 hg 2 (by omega) (oOk_s l1) (oOk_s l2) (oOk_n n) _ _ _ _ _ q Qd (by simp [oI, x1]) (by simp [oI, x2]) rfl (dr_yes hn h8 2 (by omega) _ _ _ q ⟨fun _ => ⟨e1, l1, x1⟩, fun _ => ⟨e2, l2, x2⟩, fun z => absurd z (by omega)⟩) h)
          · rw [x1] at y1; rw [x2] at y2
            rw [← (nI_eq (by omega) (by omega)).mp y1, ← (nI_eq (by omega) (by omega)).mp y2]; exact h
          · obtain ⟨G2, G3, G4, G5, -⟩ := rdG g n (nI 11) a (oI (some e1)) (oI (some e2)) (oI none) (nI (dM g (some e1) (some e2) none)) (nI (zM g (some e1) (some e2) none)) (nI (n + 1))
            obtain ⟨M2, M3, M4, -⟩ := rdM (st_u r 20 35 0) n (nI 11) a b c d (nI (dM g (some e1) (some e2) none)) (nI (zM g (some e1) (some e2) none))
            have p1 := dpc a (some e1) (some e2) none e1 (oOk_s l1) (oOk_s l2) (oOk_n n) (Or.inl rfl)
            have p2 := dpc a (some e1) (some e2) none e2 (oOk_s l1) (oOk_s l2) (oOk_n n) (Or.inr (Or.inl rfl))
            unfold pr_row
            rw [G2, G3, G4, G5, M2, M3, M4]
            exact Or.inr (Or.inr (Or.inr (Or.inr (Or.inr (Or.inr (Or.inr ⟨rfl, v, e1, e2, hv, hav, hav, p1, p2, rfl, x1, rfl, x2⟩))))))
        · refine mk_no hiv' hp q o _ _ _ _ _ hC (fun Qd h => ?_) (fun Q h => rmk Q (rf_6 H _ _ _ _ _ (hM _) Q (fun f1 f2 k1 k2 y1 y2 => absurd ⟨⟨f1, k1, y1⟩, ⟨f2, k2, y2⟩⟩ hx) (fun _ => h 0)))
          exact cmk 2 a b c rfl (by simp) (by simp) (by simp) Qd (dr_no hn h8 2 (by omega) _ _ _ _ _ q Qd (fun z => hx ⟨z.1 (by omega), z.2.1 (by omega)⟩) h)
      · exact two rfl (by omega) (by omega) (by omega) (Or.inr (Or.inr (Or.inr (Or.inl rfl))))
      · exact two rfl (by omega) (by omega) (by omega) (Or.inr (Or.inr (Or.inr (Or.inr rfl))))
      · exact leaf rfl (by omega) (by omega) (by omega) (fun R0 Q => rx_parts_0 14 a (by simp) R0 Q) (Or.inr (Or.inr (Or.inr rfl)))
    · refine mk_no hiv' hp q o _ _ _ _ _ hC (fun Qd h => ?_) (fun Q h => ?_)
      · rw [cd t ht]; exact ⟨fun z => absurd z hf, fun _ => h⟩
      · unfold wp_M_make
        rw [rs t ht]
        exact ⟨fun z => absurd z hf, fun _ => ⟨fun _ => mk_bad _ _ _ _ _ _ (h 1), fun z => absurd rfl z⟩⟩
  · refine mk_no hiv' hp q o _ _ _ _ _ hC (fun Qd h => ?_) (fun Q h => ?_)
    · have e15 : (15 : Int32) = nI 15 := rfl
      unfold wp_P_draft wp_P_draft_L10
      refine ⟨fun _ => h, fun z => ⟨fun w => ?_, fun _ => h⟩⟩
      exact absurd ((isx_iff (n := 15) (by omega) s).mpr ⟨z, fun y => Int32.not_lt.mpr y w⟩) hs
    · unfold wp_M_make
      rw [rs_no s a b hs]
      exact ⟨fun _ => mk_bad _ _ _ _ _ _ (h 1), fun z => absurd rfl z⟩
