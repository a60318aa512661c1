def sST (g0 r0 g r : st_I) : Prop := (∀ k, k ≠ 14 → g k = g0 k) ∧ g 14 1 = g0 14 1 ∧ (∀ k, k ≠ 20 → (k < 33 ∨ 42 < k) → r k = r0 k) ∧ (∀ j, j < 13 ∨ 30 < j → r 20 j = r0 20 j) ∧ g 14 2 = r 20 30
def sCT (g r : st_I) (S F PM : Nat) : Prop := g 14 10 = nI S ∧ r 20 26 = nI S ∧ g 14 11 = nI F ∧ r 20 28 = nI F ∧ g 14 9 = nI PM ∧ r 20 27 = nI PM ∧ S ≤ 200 ∧ F ≤ 6 ∧ PM ≤ 40
def sAL (g0 r0 g : st_I) (q : st_L) (r : st_I) (φ : Nat → Int64) (nv P S F PM : Nat) : Prop := sST g0 r0 g r ∧ sCT g r S F PM ∧ sMV g q r φ nv P PM
def vR (φ : Nat → Int64) (nv : Nat) (x : Int64) (y : Int32) : Prop := (x = -3 ∧ y = -1) ∨ ∃ v, v < nv ∧ y = nI v ∧ x = φ v
def ext (φ : Nat → Int64) (nv : Nat) (φ' : Nat → Int64) (nv' : Nat) : Prop := nv ≤ nv' ∧ ∀ v, v < nv → φ' v = φ v
theorem ext_rf (φ : Nat → Int64) (nv : Nat) : ext φ nv φ nv := ⟨Nat.le_refl _, fun _ _ => rfl⟩
theorem ext_tr {φ φ1 φ2 : Nat → Int64} {nv n1 n2 : Nat} (h : ext φ nv φ1 n1) (k : ext φ1 n1 φ2 n2) : ext φ nv φ2 n2 := ⟨Nat.le_trans h.1 k.1, fun v hv => (k.2 v (Nat.lt_of_lt_of_le hv h.1)).trans (h.2 v hv)⟩
theorem vR_ext {φ φ' : Nat → Int64} {nv nv' : Nat} (h : ext φ nv φ' nv') {x : Int64} {y : Int32} (k : vR φ nv x y) : vR φ' nv' x y := by
  rcases k with k | ⟨v, hv, k1, k2⟩
  · exact Or.inl k
  · exact Or.inr ⟨v, Nat.lt_of_lt_of_le hv h.1, k1, by rw [h.2 v hv]; exact k2⟩
def ctl (r r' : st_I) : Prop := (∀ k, k ≠ 20 → (k < 33 ∨ 36 < k) → k ≠ 41 → k ≠ 42 → r' k = r k) ∧ ∀ j, j ≠ 13 → j ≠ 18 → j ≠ 24 → j ≠ 25 → j ≠ 29 → r' 20 j = r 20 j
theorem ctl_rf (r : st_I) : ctl r r := ⟨fun _ _ _ _ _ => rfl, fun _ _ _ _ _ _ => rfl⟩
theorem ctl_tr {r r1 r2 : st_I} (h : ctl r r1) (k : ctl r1 r2) : ctl r r2 := ⟨fun a h1 h2 h3 h4 => (k.1 a h1 h2 h3 h4).trans (h.1 a h1 h2 h3 h4), fun j h1 h2 h3 h4 h5 => (k.2 j h1 h2 h3 h4 h5).trans (h.2 j h1 h2 h3 h4 h5)⟩
theorem ctl_u (r : st_I) (k i : Nat) (x : Int32) (hk : (33 ≤ k ∧ k ≤ 36) ∨ k = 41 ∨ k = 42 ∨ (k = 20 ∧ (i = 13 ∨ i = 18 ∨ i = 24 ∨ i = 25 ∨ i = 29))) : ctl r (st_u r k i x) := by
  refine ⟨fun k' h1 h2 h3 h4 => su_o _ _ _ _ _ (by omega), fun j h1 h2 h3 h4 h5 => ?_⟩
  by_cases z : 20 = k
  · subst z; rw [su_k, if_neg (by omega)]
  · rw [su_o _ _ _ _ _ z]
theorem ctl_psh (l : Nat) (c : Int32) (r : st_I) : ctl r (psh l c r) := by
  unfold psh
  refine ctl_tr (ctl_u _ _ _ _ ?_) (ctl_tr (ctl_u _ _ _ _ ?_) (ctl_tr (ctl_u _ _ _ _ ?_) (ctl_tr (ctl_u _ _ _ _ ?_) (ctl_tr (ctl_u _ _ _ _ ?_) (ctl_tr (ctl_u _ _ _ _ ?_) (ctl_u _ _ _ _ ?_)))))) <;> omega
theorem ctl_edd (r : st_I) (l : Nat) (v : Int32) : ctl r (edd r l v) := by
  unfold edd
  refine ctl_tr (ctl_u _ _ _ _ ?_) (ctl_u _ _ _ _ ?_) <;> omega
theorem sST_ctl {g0 r0 g r r' : st_I} (h : sST g0 r0 g r) (c : ctl r r') : sST g0 r0 g r' := by
  obtain ⟨a1, a2, a3, a4, a5⟩ := h
  refine ⟨a1, a2, fun k h1 h2 => ?_, fun j h1 => ?_, ?_⟩
  · rw [c.1 k h1 (by omega) (by omega) (by omega)]; exact a3 k h1 h2
  · rw [c.2 j (by omega) (by omega) (by omega) (by omega) (by omega)]; exact a4 j h1
  · rw [c.2 30 (by omega) (by omega) (by omega) (by omega) (by omega)]; exact a5
theorem vrow_r {q : st_L} {r r' : st_I} {φ : Nat → Int64} {P v : Nat} (h : vrow q r φ P v) (h37 : r' 37 v = r 37 v) (h38 : r' 38 v = r 38 v) (h39 : r' 39 v = r 39 v) (h40 : r' 40 v = r 40 v) : vrow q r' φ P v := by
  unfold vrow at *
  rw [h37, h38, h39, h40]; exact h
theorem sAL_ctl {g0 r0 g : st_I} {q : st_L} {r r' : st_I} {φ : Nat → Int64} {nv P S F PM : Nat} (h : sAL g0 r0 g q r φ nv P S F PM) (c : ctl r r') : sAL g0 r0 g q r' φ nv P S F PM := by
  obtain ⟨h1, ⟨a1, a2, a3, a4, a5, a6, a7⟩, ⟨b1, b2, b3, b4, b5⟩⟩ := h
  have e := fun j (h1 : j ≠ 13) (h2 : j ≠ 18) (h3 : j ≠ 24) (h4 : j ≠ 25) (h5 : j ≠ 29) => c.2 j h1 h2 h3 h4 h5
  refine ⟨sST_ctl h1 c, ⟨a1, by rw [e 26 (by omega) (by omega) (by omega) (by omega) (by omega)]; exact a2, a3, by rw [e 28 (by omega) (by omega) (by omega) (by omega) (by omega)]; exact a4, a5, by rw [e 27 (by omega) (by omega) (by omega) (by omega) (by omega)]; exact a6, a7⟩, b1, by rw [e 19 (by omega) (by omega) (by omega) (by omega) (by omega)]; exact b2, b3, fun v hv => ?_, b5⟩
  exact vrow_r (b4 v hv) (by rw [c.1 37 (by omega) (by omega) (by omega) (by omega)]) (by rw [c.1 38 (by omega) (by omega) (by omega) (by omega)]) (by rw [c.1 39 (by omega) (by omega) (by omega) (by omega)]) (by rw [c.1 40 (by omega) (by omega) (by omega) (by omega)])
theorem sAL_q {g0 r0 g : st_I} {q q' : st_L} {r : st_I} {φ : Nat → Int64} {nv P S F PM : Nat} (h : sAL g0 r0 g q r φ nv P S F PM) (h17 : q' 17 = q 17) (h18 : q' 18 = q 18) : sAL g0 r0 g q' r φ nv P S F PM := by
  obtain ⟨h1, h2, h3⟩ := h
  refine ⟨h1, h2, ?_⟩
  unfold sMV vrow at *
  rw [h17, h18]; exact h3
theorem sAL_step {g0 r0 g : st_I} {q : st_L} {r : st_I} {φ : Nat → Int64} {nv P S F PM : Nat} (h : sAL g0 r0 g q r φ nv P S F PM) (hS : S < 200) : sAL g0 r0 (st_u g 14 10 (nI (S + 1))) q (st_u r 20 26 (nI (S + 1))) φ nv P (S + 1) F PM := by
  obtain ⟨⟨c1, c2, c3, c4, c5⟩, ⟨a1, a2, a3, a4, a5, a6, a7, a8, a9⟩, ⟨b1, b2, b3, b4, b5⟩⟩ := h
  refine ⟨⟨fun k hk => by rw [su_o _ _ _ _ _ hk]; exact c1 k hk, by simpa [st_u, upd] using c2, fun k h1 h2 => by rw [su_o _ _ _ _ _ h1]; exact c3 k h1 h2, fun j hj => by rw [su_k, if_neg (by omega)]; exact c4 j hj, by simpa [st_u, upd] using c5⟩, ⟨by simp [st_u, upd], by simp [st_u, upd], by simpa [st_u, upd] using a3, by simpa [st_u, upd] using a4, by simpa [st_u, upd] using a5, by simpa [st_u, upd] using a6, by omega, a8, a9⟩, by simpa [st_u, upd] using b1, by simpa [st_u, upd] using b2, b3, fun v hv => ?_, b5⟩
  exact vrow_r (b4 v hv) (by simp [st_u]) (by simp [st_u]) (by simp [st_u]) (by simp [st_u])
theorem sAL_fl {g0 r0 g : st_I} {q : st_L} {r : st_I} {φ : Nat → Int64} {nv P S F PM : Nat} (h : sAL g0 r0 g q r φ nv P S F PM) (hF : F < 6) : sAL g0 r0 (st_u g 14 11 (nI (F + 1))) q (st_u r 20 28 (nI (F + 1))) φ nv P S (F + 1) PM := by
  obtain ⟨⟨c1, c2, c3, c4, c5⟩, ⟨a1, a2, a3, a4, a5, a6, a7, a8, a9⟩, ⟨b1, b2, b3, b4, b5⟩⟩ := h
  refine ⟨⟨fun k hk => by rw [su_o _ _ _ _ _ hk]; exact c1 k hk, by simpa [st_u, upd] using c2, fun k h1 h2 => by rw [su_o _ _ _ _ _ h1]; exact c3 k h1 h2, fun j hj => by rw [su_k, if_neg (by omega)]; exact c4 j hj, by simpa [st_u, upd] using c5⟩, ⟨by simpa [st_u, upd] using a1, by simpa [st_u, upd] using a2, by simp [st_u, upd], by simp [st_u, upd], by simpa [st_u, upd] using a5, by simpa [st_u, upd] using a6, a7, by omega, a9⟩, by simpa [st_u, upd] using b1, by simpa [st_u, upd] using b2, b3, fun v hv => ?_, b5⟩
  exact vrow_r (b4 v hv) (by simp [st_u]) (by simp [st_u]) (by simp [st_u]) (by simp [st_u])
theorem sAL_call {g0 r0 g : st_I} {q : st_L} {r : st_I} {φ : Nat → Int64} {nv P S F PM : Nat} (h : sAL g0 r0 g q r φ nv P S F PM) : sAL g0 r0 (st_u g 14 2 (g 14 2 + 1)) q (st_u r 20 30 (r 20 30 + 1)) φ nv P S F PM := by
  obtain ⟨⟨c1, c2, c3, c4, c5⟩, ⟨a1, a2, a3, a4, a5, a6, a7, a8, a9⟩, ⟨b1, b2, b3, b4, b5⟩⟩ := h
  refine ⟨⟨fun k hk => by rw [su_o _ _ _ _ _ hk]; exact c1 k hk, by simpa [st_u, upd] using c2, fun k h1 h2 => by rw [su_o _ _ _ _ _ h1]; exact c3 k h1 h2, fun j hj => by rw [su_k, if_neg (by omega)]; exact c4 j hj, by simp [st_u, upd, c5]⟩, ⟨by simpa [st_u, upd] using a1, by simpa [st_u, upd] using a2, by simpa [st_u, upd] using a3, by simpa [st_u, upd] using a4, by simpa [st_u, upd] using a5, by simpa [st_u, upd] using a6, a7, a8, a9⟩, by simpa [st_u, upd] using b1, by simpa [st_u, upd] using b2, b3, fun v hv => ?_, b5⟩
  exact vrow_r (b4 v hv) (by simp [st_u]) (by simp [st_u]) (by simp [st_u]) (by simp [st_u])
theorem vrow_ext {q q' : st_L} {r r' : st_I} {φ φ' : Nat → Int64} {P P' v : Nat} (h : vrow q r φ P v) (hP : P ≤ P') (hφ : ∀ w, w ≤ v → φ' w = φ w) (h37 : r' 37 v = r 37 v) (h38 : r' 38 v = r 38 v) (h39 : r' 39 v = r 39 v) (h40 : r' 40 v = r 40 v) (h17 : ∀ p, p < P → q' 17 p = q 17 p) (h18 : ∀ p, p < P → q' 18 p = q 18 p) : vrow q' r' φ' P' v := by
  unfold vrow
  rw [h37, h38, h39, h40, hφ v (Nat.le_refl _)]
  rcases h with h | ⟨h1, h2, p, a, b, hp, ha, hb, h3, h4, h5, h6, h7⟩
  · exact Or.inl h
  · exact Or.inr ⟨h1, h2, p, a, b, by omega, ha, hb, h3, h4, h5, by rw [h17 p hp, hφ a (by omega)]; exact h6, by rw [h18 p hp, hφ b (by omega)]; exact h7⟩
theorem sAL_val {g0 r0 g : st_I} {q : st_L} {r : st_I} {φ : Nat → Int64} {nv P S F PM : Nat} (h : sAL g0 r0 g q r φ nv P S F PM) {k : Nat} (hk : k < 8) (x : Int32) : sAL g0 r0 g q (nwv r nv (nI k) x) (fun w => if w = nv then vl (nI k) x else φ w) (nv + 1) P S F PM := by
  obtain ⟨⟨c1, c2, c3, c4, c5⟩, ⟨a1, a2, a3, a4, a5, a6, a7, a8, a9⟩, ⟨b1, b2, b3, b4, b5⟩⟩ := h
  refine ⟨⟨c1, c2, fun k h1 h2 => ?_, fun j hj => ?_, by simpa [nwv, st_u, upd] using c5⟩, ⟨a1, by simpa [nwv, st_u, upd] using a2, a3, by simpa [nwv, st_u, upd] using a4, a5, by simpa [nwv, st_u, upd] using a6, a7, a8, a9⟩, b1, by simp [nwv, st_u, upd], b3, fun v hv => ?_, b5⟩
  · unfold nwv
    rw [su_o _ _ _ _ _ h1, su_o _ _ _ _ _ (by omega), su_o _ _ _ _ _ (by omega)]; exact c3 k h1 h2
  · unfold nwv
    rw [su_k, if_neg (by omega), su_o _ _ _ _ _ (by omega), su_o _ _ _ _ _ (by omega)]; exact c4 j hj
  · by_cases z : v < nv
    · have n1 : v ≠ nv := by omega
      refine vrow_ext (b4 v z) (Nat.le_refl _) (fun w hw => ?_) ?_ ?_ ?_ ?_ (fun _ _ => rfl) (fun _ _ => rfl)
      · have : ¬ w = nv := by omega
        simp [this]
      · simp [nwv, st_u, upd, n1]
      · simp [nwv, st_u, upd, n1]
      · simp [nwv, st_u]
      · simp [nwv, st_u]
    · have : v = nv := by omega
      subst this
      exact Or.inl ⟨k, hk, by simp [nwv, st_u, upd], by simp [nwv, st_u, upd]⟩
theorem ext_val (φ : Nat → Int64) (nv : Nat) (x : Int64) : ext φ nv (fun w => if w = nv then x else φ w) (nv + 1) := by
  refine ⟨by omega, fun v hv => ?_⟩
  have : ¬ v = nv := by omega
  simp [this]
def npr (r : st_I) (nv PM : Nat) (a b : Int32) : st_I := st_u (st_u (nwv (st_u r 20 27 (nI (PM + 1))) nv 8 0) 39 nv a) 40 nv b
theorem sAL_po {g0 r0 g : st_I} {q : st_L} {r : st_I} {φ : Nat → Int64} {nv P S F PM : Nat} (h : sAL g0 r0 g q r φ nv P S F PM) (hPM : PM < 40) {a b p : Nat} (ha : a < nv) (hb : b < nv) (hp : p < P) (h17 : q 17 p = φ a) (h18 : q 18 p = φ b) : sAL g0 r0 (st_u g 14 9 (nI (PM + 1))) q (npr r nv PM (nI a) (nI b)) (fun w => if w = nv then vl 8 (nI p) else φ w) (nv + 1) P S F (PM + 1) := by
  obtain ⟨⟨c1, c2, c3, c4, c5⟩, ⟨a1, a2, a3, a4, a5, a6, a7, a8, a9⟩, ⟨b1, b2, b3, b4, b5⟩⟩ := h
  refine ⟨⟨fun k hk => by rw [su_o _ _ _ _ _ hk]; exact c1 k hk, by simpa [st_u, upd] using c2, fun k h1 h2 => ?_, fun j hj => ?_, by simpa [npr, nwv, st_u, upd] using c5⟩, ⟨by simpa [st_u, upd] using a1, by simpa [npr, nwv, st_u, upd] using a2, by simpa [st_u, upd] using a3, by simpa [npr, nwv, st_u, upd] using a4, by simp [st_u, upd], by simp [npr, nwv, st_u, upd], a7, a8, by omega⟩, by simpa [st_u, upd] using b1, by simp [npr, nwv, st_u, upd], by omega, fun v hv => ?_, b5⟩
  · unfold npr nwv
    rw [su_o _ _ _ _ _ (by omega), su_o _ _ _ _ _ (by omega), su_o _ _ _ _ _ h1, su_o _ _ _ _ _ (by omega), su_o _ _ _ _ _ (by omega), su_o _ _ _ _ _ h1]; exact c3 k h1 h2
  · unfold npr nwv
    rw [su_o _ _ _ _ _ (by omega), su_o _ _ _ _ _ (by omega), su_k, if_neg (by omega), su_o _ _ _ _ _ (by omega), su_o _ _ _ _ _ (by omega), su_k, if_neg (by omega)]; exact c4 j hj
  · by_cases z : v < nv
    · have n1 : v ≠ nv := by omega
      refine vrow_ext (b4 v z) (Nat.le_refl _) (fun w hw => ?_) ?_ ?_ ?_ ?_ (fun _ _ => rfl) (fun _ _ => rfl)
      · have : ¬ w = nv := by omega
        simp [this]
      · simp [npr, nwv, st_u, upd, n1]
      · simp [npr, nwv, st_u, upd, n1]
      · simp [npr, nwv, st_u, upd, n1]
      · simp [npr, nwv, st_u, upd, n1]
    · have : v = nv := by omega
      subst this
      have na : ¬ a = v := by omega
      have nb : ¬ b = v := by omega
      exact Or.inr ⟨by simp [npr, nwv, st_u, upd], by simp [npr, nwv, st_u, upd], p, a, b, hp, ha, hb, by simp, by simp [npr, nwv, st_u, upd], by simp [npr, nwv, st_u, upd], by simp [na, h17], by simp [nb, h18]⟩
theorem rk_val {q : st_L} {r : st_I} {φ : Nat → Int64} {P v : Nat} (hP : P ≤ 40) (h : vrow q r φ P v) : rk (φ v) ≤ P := by
  rcases h with ⟨k, hk, h1, h2⟩ | ⟨h1, h2, p, a, b, hp, ha, hb, h3, -⟩
  · rw [h2, rk_n k hk]; omega
  · rw [h3, rk_p p (by omega)]; omega
theorem sAL_pn {g0 r0 g : st_I} {q : st_L} {r : st_I} {φ : Nat → Int64} {nv P S F PM : Nat} (h : sAL g0 r0 g q r φ nv P S F PM) (hPM : PM < 40) {a b : Nat} (ha : a < nv) (hb : b < nv) (hno : ∀ p, p < P → q 17 p = φ a → ¬ q 18 p = φ b) : sAL g0 r0 (st_u (st_u g 14 9 (nI (PM + 1))) 14 8 (nI (P + 1))) (st_v (st_v q 17 P (φ a)) 18 P (φ b)) (npr r nv PM (nI a) (nI b)) (fun w => if w = nv then vl 8 (nI P) else φ w) (nv + 1) (P + 1) S F (PM + 1) := by
  obtain ⟨⟨c1, c2, c3, c4, c5⟩, ⟨a1, a2, a3, a4, a5, a6, a7, a8, a9⟩, ⟨b1, b2, b3, b4, b5, b6⟩⟩ := h
  have q17 : ∀ p, st_v (st_v q 17 P (φ a)) 18 P (φ b) 17 p = if p = P then φ a else q 17 p := fun p => by rw [sv_o _ _ _ _ _ (by decide), sv_k]
  have q18 : ∀ p, st_v (st_v q 17 P (φ a)) 18 P (φ b) 18 p = if p = P then φ b else q 18 p := fun p => by rw [sv_k, sv_o _ _ _ _ _ (by decide)]
  refine ⟨⟨fun k hk => by rw [su_o _ _ _ _ _ hk, su_o _ _ _ _ _ hk]; exact c1 k hk, by simpa [st_u, upd] using c2, fun k h1 h2 => ?_, fun j hj => ?_, by simpa [npr, nwv, st_u, upd] using c5⟩, ⟨by simpa [st_u, upd] using a1, by simpa [npr, nwv, st_u, upd] using a2, by simpa [st_u, upd] using a3, by simpa [npr, nwv, st_u, upd] using a4, by simp [st_u, upd], by simp [npr, nwv, st_u, upd], a7, a8, by omega⟩, by simp [st_u, upd], by simp [npr, nwv, st_u, upd], by omega, fun v hv => ?_, fun p p' hp hp' e1 e2 => ?_, fun p hp => ?_⟩
  · unfold npr nwv
    rw [su_o _ _ _ _ _ (by omega), su_o _ _ _ _ _ (by omega), su_o _ _ _ _ _ h1, su_o _ _ _ _ _ (by omega), su_o _ _ _ _ _ (by omega), su_o _ _ _ _ _ h1]; exact c3 k h1 h2
  · unfold npr nwv
    rw [su_o _ _ _ _ _ (by omega), su_o _ _ _ _ _ (by omega), su_k, if_neg (by omega), su_o _ _ _ _ _ (by omega), su_o _ _ _ _ _ (by omega), su_k, if_neg (by omega)]; exact c4 j hj
  · by_cases z : v < nv
    · have n1 : v ≠ nv := by omega
      refine vrow_ext (b4 v z) (Nat.le_succ _) (fun w hw => ?_) ?_ ?_ ?_ ?_ (fun p hp => ?_) (fun p hp => ?_)
      · have : ¬ w = nv := by omega
        simp [this]
      · simp [npr, nwv, st_u, upd, n1]
      · simp [npr, nwv, st_u, upd, n1]
      · simp [npr, nwv, st_u, upd, n1]
      · simp [npr, nwv, st_u, upd, n1]
      · rw [q17, if_neg (by omega)]
      · rw [q18, if_neg (by omega)]
    · have : v = nv := by omega
      subst this
      have na : ¬ a = v := by omega
      have nb : ¬ b = v := by omega
      exact Or.inr ⟨by simp [npr, nwv, st_u, upd], by simp [npr, nwv, st_u, upd], P, a, b, by omega, ha, hb, by simp, by simp [npr, nwv, st_u, upd], by simp [npr, nwv, st_u, upd], by rw [q17]; simp [na], by rw [q18]; simp [nb]⟩
  · rw [q17, q17] at e1
    rw [q18, q18] at e2
    by_cases z : p = P
    · by_cases z' : p' = P
      · omega
      · simp only [z, z', if_true, if_false] at e1 e2
        exact absurd e2.symm (hno p' (by omega) e1.symm)
    · by_cases z' : p' = P
      · simp only [z, z', if_true, if_false] at e1 e2
        exact absurd e2 (hno p (by omega) e1)
      · simp only [z, z', if_false] at e1 e2
        exact b5 p p' (by omega) (by omega) e1 e2
  · rw [q17, q18]
    by_cases z : p = P
    · subst z
      simp only [if_true]
      exact ⟨rk_val (by omega) (b4 a ha), rk_val (by omega) (b4 b hb)⟩
    · simp only [z, if_false]
      exact b6 p (by omega)
theorem cp_l {P : Nat} (hP : P ≤ 40) {g : st_I} (hg : g 14 8 = nI P) (q : st_L) (x y : Int64) (Q : Int64 → st_S → Prop) (hP2 : P < 40) (h1 : ∀ p, p < P → q 17 p = x → q 18 p = y → Q (vl 8 (nI p)) (g, q)) (h2 : (∀ p, p < P → q 17 p = x → ¬ q 18 p = y) → Q (vl 8 (nI P)) (st_u g 14 8 (nI (P + 1)), st_v (st_v q 17 P x) 18 P y)) : ∀ j i, j + i = P → (∀ p, p < i → q 17 p = x → ¬ q 18 p = y) → wp_H_pair_L26 Q (j + 1) g q x y (nI i) := by
  intro j
  induction j with
  | zero =>
    intro i hi hno
    have : i = P := by omega
    subst this
    have ci : (nI i).toNatClampNeg = i := nI_clamp (by omega)
    have vi : vp_in (nI i) 40 := vp_in_nI (by omega) (by omega)
    rw [wp_H_pair_L26]
    simp only [hg, show nI i ≤ nI i from nI_le (Nat.le_refl _) (by omega), not_true, false_imp_iff, true_imp_iff, and_true, ci, vi, true_and, ex_value, nI_1]
    exact h2 hno
  | succ j ih =>
    intro i hi hno
    have z : ¬ nI P ≤ nI i := nI_ge (by omega) (by omega)
    have ci : (nI i).toNatClampNeg = i := nI_clamp (by omega)
    have vi : vp_in (nI i) 40 := vp_in_nI (by omega) (by omega)
    rw [wp_H_pair_L26]
    simp only [hg, z, not_false_eq_true, false_imp_iff, true_imp_iff, true_and, ci, vi, lg_e, ex_value, nI_1, wp_H_pair_L67]
    refine ⟨fun w => ih (i + 1) (by omega) (fun p hp e1 => ?_), fun w => ⟨fun w2 => ih (i + 1) (by omega) (fun p hp e1 => ?_), fun w2 => h1 i (by omega) w w2⟩⟩
    · by_cases hp' : p < i
      · exact hno p hp' e1
      · have : p = i := by omega
        subst this; exact absurd e1 w
    · by_cases hp' : p < i
      · exact hno p hp' e1
      · have : p = i := by omega
        subst this; exact w2
