def oI : Option Nat → Int32
  | none => -1
  | some a => nI a
def dO (g : st_I) : Option Nat → Nat
  | none => 0
  | some a => (g 7 a).toNatClampNeg + 1
def zO (g : st_I) : Option Nat → Nat
  | none => 0
  | some a => (g 8 a).toNatClampNeg
def dM (g : st_I) (o1 o2 o3 : Option Nat) : Nat := max (dO g o1) (max (dO g o2) (dO g o3))
def zM (g : st_I) (o1 o2 o3 : Option Nat) : Nat := 1 + zO g o1 + zO g o2 + zO g o3
def oOk (n : Nat) (o : Option Nat) : Prop := ∀ a, o = some a → a < n
def rowW (g : st_I) (n : Nat) (s D f1 f2 f3 dp sz : Int32) : st_I := st_u (st_u (st_u (st_u (st_u (st_u (st_u g 2 n s) 3 n D) 4 n f1) 5 n f2) 6 n f3) 7 n dp) 8 n sz
def rws (g : st_I) (n : Nat) : Prop := ∀ e, e < n → (∃ d, d ≤ 5 ∧ g 7 e = nI d) ∧ ∃ z, z ≤ 60 ∧ g 8 e = nI z
theorem rws_of {g r : st_I} {n : Nat} (hp : pr_all g r n) : rws g n := by
  intro e he
  obtain ⟨-, ⟨d, h1, h2, -⟩, ⟨z, -, h3, h4, -⟩, -⟩ := hp.2.2.2 e he
  exact ⟨⟨d, h1, h2⟩, ⟨z, h3, h4⟩⟩
theorem dO_le {g : st_I} {n : Nat} (hr : rws g n) {o : Option Nat} (ho : oOk n o) : dO g o < 7 := by
  cases o with
  | none => simp [dO]
  | some a =>
    obtain ⟨⟨d, h1, h2⟩, -⟩ := hr a (ho a rfl)
    simp only [dO, h2, nI_clamp (show d < 2 ^ 31 by omega)]; omega
theorem zO_le {g : st_I} {n : Nat} (hr : rws g n) {o : Option Nat} (ho : oOk n o) : zO g o ≤ 60 := by
  cases o with
  | none => simp [zO]
  | some a =>
    obtain ⟨-, ⟨z, h1, h2⟩⟩ := hr a (ho a rfl)
    simp only [zO, h2, nI_clamp (show z < 2 ^ 31 by omega)]; omega
theorem ex_dO {g : st_I} {n : Nat} (hn : n ≤ 90) (hr : rws g n) {o : Option Nat} (ho : oOk n o) (q : st_L) (Q : Int32 → st_S → Prop) (h : Q (nI (dO g o) - 1) (g, q)) : wp_P_depthOf (oI o) g q Q := by
  cases o with
  | none =>
    simp only [wp_P_depthOf, wp_P_depthOf_L15, oI, not_true, false_imp_iff, true_imp_iff, true_and]
    exact h
  | some a =>
    have ha := ho a rfl
    obtain ⟨⟨d, h1, h2⟩, -⟩ := hr a ha
    have ne := n1_ne hn ha
    have ca : (nI a).toNatClampNeg = a := nI_clamp (by omega)
    have va : vp_in (nI a) 91 := vp_in_nI (by omega) (by omega)
    simp only [wp_P_depthOf, wp_P_depthOf_L15, oI, ne, not_false_eq_true, false_imp_iff, true_imp_iff, and_true, ca, va, true_and]
    simp only [dO, h2, nI_clamp (show d < 2 ^ 31 by omega), nI_pred] at h
    rw [h2]; exact h
theorem ex_zO {g : st_I} {n : Nat} (hn : n ≤ 90) (hr : rws g n) {o : Option Nat} (ho : oOk n o) (q : st_L) (Q : Int32 → st_S → Prop) (h : Q (nI (zO g o)) (g, q)) : wp_P_sizeOf (oI o) g q Q := by
  cases o with
  | none =>
    simp only [wp_P_sizeOf, wp_P_sizeOf_L15, oI, not_true, false_imp_iff, true_imp_iff, true_and]
    exact h
  | some a =>
    have ha := ho a rfl
    obtain ⟨-, ⟨z, h1, h2⟩⟩ := hr a ha
    have ne := n1_ne hn ha
    have ca : (nI a).toNatClampNeg = a := nI_clamp (by omega)
    have va : vp_in (nI a) 91 := vp_in_nI (by omega) (by omega)
    simp only [wp_P_sizeOf, wp_P_sizeOf_L15, oI, ne, not_false_eq_true, false_imp_iff, true_imp_iff, and_true, ca, va, true_and]
    simp only [zO, h2, nI_clamp (show z < 2 ^ 31 by omega)] at h
    rw [h2]; exact h
theorem mx : ∀ u, u < 7 → ∀ v, v < 7 → ∀ w, w < 7 → (if nI u - 1 < (if nI v - 1 < nI w - 1 then nI w - 1 else nI v - 1) then (if nI v - 1 < nI w - 1 then nI w - 1 else nI v - 1) else nI u - 1) + 1 = nI (max u (max v w)) := by decide +kernel
theorem zO_cg {g g' : st_I} {n : Nat} (h : ∀ e, e < n → g' 8 e = g 8 e) {o : Option Nat} (ho : oOk n o) : zO g' o = zO g o := by
  cases o with
  | none => rfl
  | some a => simp only [zO]; rw [h a (ho a rfl)]
theorem dO_cg {g g' : st_I} {n : Nat} (h : ∀ e, e < n → g' 7 e = g 7 e) {o : Option Nat} (ho : oOk n o) : dO g' o = dO g o := by
  cases o with
  | none => rfl
  | some a => simp only [dO]; rw [h a (ho a rfl)]
theorem ex_meas {g : st_I} {n : Nat} (hn : n ≤ 90) (hr : rws g n) {o1 o2 o3 : Option Nat} (h1 : oOk n o1) (h2 : oOk n o2) (h3 : oOk n o3) (e4 : g 4 n = oI o1) (e5 : g 5 n = oI o2) (e6 : g 6 n = oI o3) (q : st_L) (Q : st_S → Prop) (h : Q (st_u (st_u g 7 n (nI (dM g o1 o2 o3))) 8 n (nI (zM g o1 o2 o3)), q)) : wp_P_measure (nI n) g q Q := by
  have cn : (nI n).toNatClampNeg = n := nI_clamp (by omega)
  have vn : vp_in (nI n) 91 := vp_in_nI (by omega) (by omega)
  simp only [wp_P_measure, cn, vn, true_and, e4]
  refine ex_dO hn hr h1 q _ ?_
  simp only [e5]
  refine ex_dO hn hr h2 q _ ?_
  simp only [e6]
  refine ex_dO hn hr h3 q _ ?_
  simp only [e4, mx _ (dO_le hr h1) _ (dO_le hr h2) _ (dO_le hr h3)]
  have hg8 : ∀ x, rws (st_u g 7 n x) n := by
    intro x e he
    obtain ⟨a, b⟩ := hr e he
    rw [su_k, su_o _ _ _ _ _ (by decide), if_neg (by omega)]
    exact ⟨a, b⟩
  have z8 : ∀ x o, oOk n o → zO (st_u g 7 n x) o = zO g o := fun x o ho => zO_cg (fun e he => by rw [su_o _ _ _ _ _ (by decide)]) ho
  refine ex_zO hn (hg8 _) h1 q _ ?_
  simp only [su_o _ 7 _ _ 5 (by decide), e5]
  refine ex_zO hn (hg8 _) h2 q _ ?_
  simp only [su_o _ 7 _ _ 6 (by decide), e6]
  refine ex_zO hn (hg8 _) h3 q _ ?_
  rw [z8 _ _ h1, z8 _ _ h2, z8 _ _ h3, show (1 : Int32) = nI 1 from rfl, nI_add, nI_add, nI_add]
  exact h
theorem dr_207 {g : st_I} {n : Nat} (hn : n ≤ 90) (h8 : g 1 8 = nI n) (hr : rws g n) {o1 o2 o3 : Option Nat} (h1 : oOk n o1) (h2 : oOk n o2) (h3 : oOk n o3) (s D : Int32) (q : st_L) (Q : Int32 → st_S → Prop) (h : (dM g o1 o2 o3 ≤ 5 ∧ zM g o1 o2 o3 ≤ 60 → Q 1 (rowW g n s D (oI o1) (oI o2) (oI o3) (nI (dM g o1 o2 o3)) (nI (zM g o1 o2 o3)), q)) ∧ (¬ (dM g o1 o2 o3 ≤ 5 ∧ zM g o1 o2 o3 ≤ 60) → Q 0 (rowW g n s D (oI o1) (oI o2) (oI o3) (nI (dM g o1 o2 o3)) (nI (zM g o1 o2 o3)), q))) : wp_P_draft_L207 Q (st_u (st_u (st_u (st_u g 2 n s) 3 n D) 4 n (oI o1)) 5 n (oI o2)) q (oI o3) (nI n) := by
  have cn : (nI n).toNatClampNeg = n := nI_clamp (by omega)
  have vn : vp_in (nI n) 91 := vp_in_nI (by omega) (by omega)
  have hd : dM g o1 o2 o3 < 7 := by
    have a := dO_le hr h1; have b := dO_le hr h2; have c := dO_le hr h3
    unfold dM; omega
  have hz : zM g o1 o2 o3 ≤ 181 := by
    have a := zO_le hr h1; have b := zO_le hr h2; have c := zO_le hr h3
    unfold zM; omega
  have e18 : (st_u (st_u (st_u (st_u g 2 n s) 3 n D) 4 n (oI o1)) 5 n (oI o2)) 1 8 = nI n := by simp [st_u, h8]
  simp only [wp_P_draft_L207, wp_P_draft_L247, wp_P_draft_L248, cn, vn, true_and, e18, zb_0, zb_1]
  have hr' : rws (st_u (st_u (st_u (st_u (st_u g 2 n s) 3 n D) 4 n (oI o1)) 5 n (oI o2)) 6 n (oI o3)) n := by
    intro e he
    have := hr e he
    simpa [st_u] using this
  have dm : dM (st_u (st_u (st_u (st_u (st_u g 2 n s) 3 n D) 4 n (oI o1)) 5 n (oI o2)) 6 n (oI o3)) o1 o2 o3 = dM g o1 o2 o3 := by
    have := fun o (ho : oOk n o) => dO_cg (g := g) (g' := st_u (st_u (st_u (st_u (st_u g 2 n s) 3 n D) 4 n (oI o1)) 5 n (oI o2)) 6 n (oI o3)) (fun e he => by simp [st_u]) ho
    unfold dM; rw [this o1 h1, this o2 h2, this o3 h3]
  have zm : zM (st_u (st_u (st_u (st_u (st_u g 2 n s) 3 n D) 4 n (oI o1)) 5 n (oI o2)) 6 n (oI o3)) o1 o2 o3 = zM g o1 o2 o3 := by
    have := fun o (ho : oOk n o) => zO_cg (g := g) (g' := st_u (st_u (st_u (st_u (st_u g 2 n s) 3 n D) 4 n (oI o1)) 5 n (oI o2)) 6 n (oI o3)) (fun e he => by simp [st_u]) ho
    unfold zM; rw [this o1 h1, this o2 h2, this o3 h3]
  refine ex_meas hn hr' h1 h2 h3 (by simp [st_u, upd]) (by simp [st_u, upd]) (by simp [st_u, upd]) q _ ?_
  rw [dm, zm]
  have eR : st_u (st_u (st_u (st_u (st_u (st_u (st_u g 2 n s) 3 n D) 4 n (oI o1)) 5 n (oI o2)) 6 n (oI o3)) 7 n (nI (dM g o1 o2 o3))) 8 n (nI (zM g o1 o2 o3)) = rowW g n s D (oI o1) (oI o2) (oI o3) (nI (dM g o1 o2 o3)) (nI (zM g o1 o2 o3)) := rfl
  simp only [eR]
  have r18 : rowW g n s D (oI o1) (oI o2) (oI o3) (nI (dM g o1 o2 o3)) (nI (zM g o1 o2 o3)) 1 8 = nI n := by simp [rowW, st_u, h8]
  have r7 : rowW g n s D (oI o1) (oI o2) (oI o3) (nI (dM g o1 o2 o3)) (nI (zM g o1 o2 o3)) 7 n = nI (dM g o1 o2 o3) := by simp [rowW, st_u, upd]
  have r8 : rowW g n s D (oI o1) (oI o2) (oI o3) (nI (dM g o1 o2 o3)) (nI (zM g o1 o2 o3)) 8 n = nI (zM g o1 o2 o3) := by simp [rowW, st_u, upd]
  have l5 : ((5 : Int32) < nI (dM g o1 o2 o3)) ↔ 5 < dM g o1 o2 o3 := nI_ltI (a := 5) (by omega) (by omega)
  have l6 : ((60 : Int32) < nI (zM g o1 o2 o3)) ↔ 60 < zM g o1 o2 o3 := nI_ltI (a := 60) (by omega) (by omega)
  simp only [r18, cn, vn, r7, r8, l5, l6, true_and]
  refine ⟨fun z => h.2 (by omega), fun z => ⟨fun w => h.2 (by omega), fun w => h.1 (by omega)⟩⟩
def drF (g : st_I) (n : Nat) (s D : Int32) (q : st_L) (Q : Int32 → st_S → Prop) (o1 o2 o3 : Option Nat) : Prop := (dM g o1 o2 o3 ≤ 5 ∧ zM g o1 o2 o3 ≤ 60 → Q 1 (rowW g n s D (oI o1) (oI o2) (oI o3) (nI (dM g o1 o2 o3)) (nI (zM g o1 o2 o3)), q)) ∧ (¬ (dM g o1 o2 o3 ≤ 5 ∧ zM g o1 o2 o3 ≤ 60) → Q 0 (rowW g n s D (oI o1) (oI o2) (oI o3) (nI (dM g o1 o2 o3)) (nI (zM g o1 o2 o3)), q))
theorem oOk_n (n : Nat) : oOk n none := fun _ h => by cases h
theorem oOk_s {n a : Nat} (h : a < n) : oOk n (some a) := fun b hb => by cases hb; exact h
theorem dr_w {g : st_I} {n : Nat} (hn : n ≤ 90) (h8 : g 1 8 = nI n) (hr : rws g n) (P : Nat) (hP : P ≤ 3) {o1 o2 o3 : Option Nat} (h1 : oOk n o1) (h2 : oOk n o2) (h3 : oOk n o3) (s D v5 v9 t0 : Int32) (q : st_L) (Q : Int32 → st_S → Prop) (k1 : oI o1 = if P < 1 then -1 else v9) (k2 : oI o2 = if P < 2 then -1 else t0) (k3 : oI o3 = if P < 3 then -1 else v5) (hx : ∀ Q' : Int32 → st_S → Prop, Q' 1 (g, q) → wp_P_partsExist (nI P) v9 t0 v5 g q Q') (h : drF g n s D q Q o1 o2 o3) : wp_P_draft_L105 Q g q s v5 D (nI P) v9 t0 := by
  have cn : (nI n).toNatClampNeg = n := nI_clamp (by omega)
  have vn : vp_in (nI n) 91 := vp_in_nI (by omega) (by omega)
  have l1 : (nI P < (1 : Int32)) ↔ P < 1 := nI_ltI (b := 1) (by omega) (by omega)
  have l2 : (nI P < (2 : Int32)) ↔ P < 2 := nI_ltI (b := 2) (by omega) (by omega)
  have l3 : (nI P < (3 : Int32)) ↔ P < 3 := nI_ltI (b := 3) (by omega) (by omega)
  have fin := dr_207 hn h8 hr h1 h2 h3 s D q Q h
  have e1 : ∀ x, st_u (st_u g 2 n s) 3 n x 1 8 = nI n := by intro x; simp [st_u, h8]
  have e2 : ∀ x y, st_u (st_u (st_u g 2 n s) 3 n x) 4 n y 1 8 = nI n := by intro x y; simp [st_u, h8]
  unfold wp_P_draft_L105
  refine hx _ ?_
  simp only [h8, cn, vn, true_and, show ¬ (1 : Int32) = 0 from by decide, not_false_eq_true, true_imp_iff, false_imp_iff, and_true, wp_P_draft_L165, wp_P_draft_L186, l1, l2, l3, e1, e2]
  by_cases w1 : P < 1
  · have w2 : P < 2 := by omega
    have w3 : P < 3 := by omega
    simp only [w1, w2, w3, if_true] at k1 k2 k3
    simp only [w1, w2, w3, true_imp_iff, not_true, false_imp_iff, and_true]
    rw [k1, k2, k3] at fin; exact fin
  · by_cases w2 : P < 2
    · have w3 : P < 3 := by omega
      simp only [w1, w2, w3, if_true, if_false] at k1 k2 k3
      simp only [w1, w2, w3, true_imp_iff, not_true, not_false_eq_true, false_imp_iff, and_true, true_and]
      rw [k1, k2, k3] at fin; exact fin
    · by_cases w3 : P < 3
      · simp only [w1, w2, w3, if_true, if_false] at k1 k2 k3
        simp only [w1, w2, w3, true_imp_iff, not_true, not_false_eq_true, false_imp_iff, and_true, true_and]
        rw [k1, k2, k3] at fin; exact fin
      · simp only [w1, w2, w3, if_false] at k1 k2 k3
        simp only [w1, w2, w3, true_imp_iff, not_false_eq_true, false_imp_iff, true_and]
        rw [k1, k2, k3] at fin; exact fin
theorem px {g : st_I} {n : Nat} (hn : n ≤ 90) (h8 : g 1 8 = nI n) (P : Nat) (hP : P ≤ 3) (x y z : Int32) (q : st_L) (Q : Int32 → st_S → Prop) : wp_P_partsExist (nI P) x y z g q Q ↔ (((1 ≤ P → isx n x) ∧ (2 ≤ P → isx n y) ∧ (3 ≤ P → isx n z)) → Q 1 (g, q)) ∧ (¬ ((1 ≤ P → isx n x) ∧ (2 ≤ P → isx n y) ∧ (3 ≤ P → isx n z)) → Q 0 (g, q)) := by
  have l1 : (nI P < (1 : Int32)) ↔ P < 1 := nI_ltI (b := 1) (by omega) (by omega)
  have l2 : (nI P < (2 : Int32)) ↔ P < 2 := nI_ltI (b := 2) (by omega) (by omega)
  have l3 : (nI P < (3 : Int32)) ↔ P < 3 := nI_ltI (b := 3) (by omega) (by omega)
  simp only [wp_P_partsExist, wp_P_partsExist_L13, wp_P_partsExist_L26, wp_P_partsExist_L40, wp_P_partsExist_L44, wp_P_partsExist_L45, ex_isE (n := n) (by omega) _ g q h8, l1, l2, l3, zb_0, zb_1, true_and]
  have : P = 0 ∨ P = 1 ∨ P = 2 ∨ P = 3 := by omega
  rcases this with rfl | rfl | rfl | rfl
  · simp
  · by_cases a : isx n x <;> simp [a]
  · by_cases a : isx n x <;> by_cases b : isx n y <;> simp [a, b]
  · by_cases a : isx n x <;> by_cases b : isx n y <;> by_cases c : isx n z <;> simp [a, b, c]
theorem dr_no {g : st_I} {n : Nat} (hn : n ≤ 90) (h8 : g 1 8 = nI n) (P : Nat) (hP : P ≤ 3) (s D v5 v9 t0 : Int32) (q : st_L) (Q : Int32 → st_S → Prop) (hno : ¬ ((1 ≤ P → isx n v9) ∧ (2 ≤ P → isx n t0) ∧ (3 ≤ P → isx n v5))) (h : Q 0 (g, q)) : wp_P_draft_L105 Q g q s v5 D (nI P) v9 t0 := by
  unfold wp_P_draft_L105
  rw [px hn h8 P hP]
  refine ⟨fun w => absurd w hno, fun _ => ?_⟩
  exact ⟨fun w => absurd rfl w, fun _ => h⟩
theorem dr_yes {g : st_I} {n : Nat} (hn : n ≤ 90) (h8 : g 1 8 = nI n) (P : Nat) (hP : P ≤ 3) (x y z : Int32) (q : st_L) (hy : (1 ≤ P → isx n x) ∧ (2 ≤ P → isx n y) ∧ (3 ≤ P → isx n z)) : ∀ Q' : Int32 → st_S → Prop, Q' 1 (g, q) → wp_P_partsExist (nI P) x y z g q Q' := by
  intro Q' h
  rw [px hn h8 P hP]
  exact ⟨fun _ => h, fun w => absurd hy w⟩
