def vrow (q : st_L) (r : st_I) (φ : Nat → Int64) (P v : Nat) : Prop := (∃ k, k < 8 ∧ r 37 v = nI k ∧ φ v = vl (nI k) (r 38 v)) ∨ (r 37 v = 8 ∧ r 38 v = 0 ∧ ∃ p a b, p < P ∧ a < v ∧ b < v ∧ φ v = vl 8 (nI p) ∧ r 39 v = nI a ∧ r 40 v = nI b ∧ q 17 p = φ a ∧ q 18 p = φ b)
def sMV (g : st_I) (q : st_L) (r : st_I) (φ : Nat → Int64) (nv P PM : Nat) : Prop := g 14 8 = nI P ∧ r 20 19 = nI nv ∧ P ≤ PM ∧ (∀ v, v < nv → vrow q r φ P v) ∧ (∀ p p', p < P → p' < P → q 17 p = q 17 p' → q 18 p = q 18 p' → p = p') ∧ ∀ p, p < P → rk (q 17 p) ≤ p ∧ rk (q 18 p) ≤ p
theorem vr_ko {q : st_L} {r : st_I} {φ : Nat → Int64} {P v : Nat} (h : vrow q r φ P v) : ko (φ v) = r 37 v ∧ (φ v).toInt32.toNatClampNeg < 2 ^ 31 ∧ ∃ k, k < 9 ∧ r 37 v = nI k ∧ ∃ x, φ v = vl (nI k) x := by
  rcases h with ⟨k, hk, h1, h2⟩ | ⟨h1, h2, p, a, b, hp, ha, hb, h3, -⟩
  · refine ⟨by rw [h2, ko_vl, h1], ?_, k, by omega, h1, _, h2⟩
    have := (φ v).toInt32.toNatClampNeg_lt
    omega
  · refine ⟨by rw [h3, ko_vl, h1], ?_, 8, by omega, h1, _, h3⟩
    have := (φ v).toInt32.toNatClampNeg_lt
    omega
theorem same_l {g : st_I} {q : st_L} {r : st_I} {φ : Nat → Int64} {nv P PM : Nat} (hM : sMV g q r φ nv P PM) (hPM : PM ≤ 40) (hnv : nv ≤ 460) : ∀ N a b j R, rk (φ a) ≤ N → j + N ≤ 100 → a < nv → b < nv → (∀ k, 37 ≤ k → k ≤ 40 → R k = r k) → R 41 j = nI a → R 42 j = nI b → ∃ R', (∀ k, k ≠ 41 → k ≠ 42 → R' k = R k) ∧ (φ a = φ b → (∀ i, i < j → R' 41 i = R 41 i ∧ R' 42 i = R 42 i) ∧ ∀ Q : Int32 → st_I → Prop, (∃ m, wp_M_same_L16 Q m R' (nI j)) → ∃ m, wp_M_same_L16 Q m R (nI (j + 1))) ∧ (¬ φ a = φ b → ∀ Q : Int32 → st_I → Prop, Q 0 R' → ∃ m, wp_M_same_L16 Q m R (nI (j + 1))) := by
  obtain ⟨-, -, hPPM, hrow, hdis, hrk⟩ := hM
  intro N
  induction N with
  | zero =>
    intro a b j R hN hj ha hb hR h41 h42
    have va := hrow a ha
    have vb := hrow b hb
    have cj : (nI j).toNatClampNeg = j := nI_clamp (by omega)
    have vj : vp_in (nI j) 400 := vp_in_nI (by omega) (by omega)
    have m1 : nI (j + 1) + (-1) = nI j := pk_m1 j
    have no : ¬ nI (j + 1) ≤ 0 := nI_nle (by omega) (by omega)
    have ca : (nI a).toNatClampNeg = a := nI_clamp (by omega)
    have cb : (nI b).toNatClampNeg = b := nI_clamp (by omega)
    have va' : vp_in (nI a) 460 := vp_in_nI (by omega) (by omega)
    have vb' : vp_in (nI b) 460 := vp_in_nI (by omega) (by omega)
    have r37 := hR 37 (by omega) (by omega)
    have r38 := hR 38 (by omega) (by omega)
    have eqab : (nI a = nI b) ↔ a = b := nI_eq (by omega) (by omega)
    refine ⟨R, fun _ _ _ => rfl, ?_⟩
    rcases va with ⟨k, hk, a1, a2⟩ | ⟨a1, a2, p, x, y, hp, -, -, a3, -⟩
    · by_cases zab : a = b
      · subst zab
        refine ⟨fun _ => ⟨fun _ _ => ⟨rfl, rfl⟩, fun Q hm => ?_⟩, fun z => absurd rfl z⟩
        obtain ⟨m, hm⟩ := hm
        refine ⟨m + 1, ?_⟩
        rw [wp_M_same_L16]
        simp only [no, m1, cj, vj, h41, h42, not_false_eq_true, not_true, false_imp_iff, true_imp_iff, true_and, and_true, wp_M_same_L153]
        exact hm
      · by_cases zk : r 37 a = r 37 b
        · by_cases zn : r 38 a = r 38 b
          · have e : φ a = φ b := by
              rcases vb with ⟨k', hk', b1, b2⟩ | ⟨b1, b2, _⟩
              · rw [a2, b2, zn, ← a1, ← b1, zk]
              · rw [a1, b1] at zk
                have := (nI_eq (a := k) (b := 8) (by omega) (by omega)).mp zk
                omega
            refine ⟨fun _ => ⟨fun _ _ => ⟨rfl, rfl⟩, fun Q hm => ?_⟩, fun z => absurd e z⟩
            obtain ⟨m, hm⟩ := hm
            refine ⟨m + 1, ?_⟩
            have n8 : ¬ r 37 a = 8 := by
              rw [a1]; intro z
              have := (nI_eq (a := k) (b := 8) (by omega) (by omega)).mp z
              omega
            rw [wp_M_same_L16]
            simp only [no, m1, cj, vj, h41, h42, eqab, zab, ca, cb, va', vb', r37, r38, zk ▸ n8, zk, zn, not_false_eq_true, not_true, false_imp_iff, true_imp_iff, true_and, and_true, wp_M_same_L153]
            exact hm
          · have e : ¬ φ a = φ b := by
              intro z
              rcases vb with ⟨k', hk', b1, b2⟩ | ⟨b1, b2, p', _, _, _, _, _, b3, _⟩
              · rw [a2, b2] at z
                exact zn (vl_inj z).2
              · rw [a1, b1] at zk
                have := (nI_eq (a := k) (b := 8) (by omega) (by omega)).mp zk
                omega
            refine ⟨fun z => absurd z e, fun _ Q hQ => ⟨1, ?_⟩⟩
            rw [wp_M_same_L16]
            simp only [no, m1, cj, vj, h41, h42, eqab, zab, ca, cb, va', vb', r37, r38, zk, zn, not_false_eq_true, not_true, false_imp_iff, true_imp_iff, true_and, and_true, wp_M_same_L80]
            exact hQ
        · have e : ¬ φ a = φ b := by
            intro z
            apply zk
            rw [← (vr_ko (hrow a ha)).1, ← (vr_ko (hrow b hb)).1, z]
          refine ⟨fun z => absurd z e, fun _ Q hQ => ⟨1, ?_⟩⟩
          rw [wp_M_same_L16]
          simp only [no, m1, cj, vj, h41, h42, eqab, zab, ca, cb, va', vb', r37, r38, zk, not_false_eq_true, not_true, false_imp_iff, true_imp_iff, true_and, and_true, wp_M_same_L80]
          exact hQ
    · rw [a3, rk_p p (by omega)] at hN; omega
  | succ N ih =>
    intro a b j R hN hj ha hb hR h41 h42
    by_cases hlt : rk (φ a) ≤ N
    · exact ih a b j R hlt (by omega) ha hb hR h41 h42
    have va := hrow a ha
    have vb := hrow b hb
    have cj : (nI j).toNatClampNeg = j := nI_clamp (by omega)
    have cj1 : (nI (j + 1)).toNatClampNeg = j + 1 := nI_clamp (by omega)
    have vj : vp_in (nI j) 400 := vp_in_nI (by omega) (by omega)
    have vj1 : vp_in (nI (j + 1)) 400 := vp_in_nI (by omega) (by omega)
    have m1 : nI (j + 1) + (-1) = nI j := pk_m1 j
    have no : ¬ nI (j + 1) ≤ 0 := nI_nle (by omega) (by omega)
    have ca : (nI a).toNatClampNeg = a := nI_clamp (by omega)
    have cb : (nI b).toNatClampNeg = b := nI_clamp (by omega)
    have va' : vp_in (nI a) 460 := vp_in_nI (by omega) (by omega)
    have vb' : vp_in (nI b) 460 := vp_in_nI (by omega) (by omega)
    have r37 := hR 37 (by omega) (by omega)
    have r38 := hR 38 (by omega) (by omega)
    have r39 := hR 39 (by omega) (by omega)
    have r40 := hR 40 (by omega) (by omega)
    have eqab : (nI a = nI b) ↔ a = b := nI_eq (by omega) (by omega)
    rcases va with ⟨k, hk, a1, a2⟩ | ⟨a1, a2, p, la, ra, hp, hla, hra, a3, a4, a5, a6, a7⟩
    · rw [a2, rk_n k hk] at hlt; omega
    · have hrka : rk (φ a) = p + 1 := by rw [a3, rk_p p (by omega)]
      by_cases zab : a = b
      · subst zab
        refine ⟨R, fun _ _ _ => rfl, fun _ => ⟨fun _ _ => ⟨rfl, rfl⟩, fun Q hm => ?_⟩, fun z => absurd rfl z⟩
        obtain ⟨m, hm⟩ := hm
        refine ⟨m + 1, ?_⟩
        rw [wp_M_same_L16]
        simp only [no, m1, cj, vj, h41, h42, not_false_eq_true, not_true, false_imp_iff, true_imp_iff, true_and, and_true, wp_M_same_L153]
        exact hm
      · rcases vb with ⟨k', hk', b1, b2⟩ | ⟨b1, b2, p', lb', rb, hp', hlb, hrb, b3, b4, b5, b6, b7⟩
        · have zk : ¬ (8 : Int32) = r 37 b := by
            rw [b1]; intro z
            have := (nI_eq (a := 8) (b := k') (by omega) (by omega)).mp z
            omega
          have e : ¬ φ a = φ b := by
            intro z
            apply zk
            rw [← a1, ← (vr_ko (hrow a ha)).1, ← (vr_ko (hrow b hb)).1, z]
          refine ⟨R, fun _ _ _ => rfl, fun z => absurd z e, fun _ Q hQ => ⟨1, ?_⟩⟩
          rw [wp_M_same_L16]
          simp only [no, m1, cj, vj, h41, h42, eqab, zab, ca, cb, va', vb', r37, r38, a1, zk, not_false_eq_true, not_true, false_imp_iff, true_imp_iff, true_and, and_true, wp_M_same_L80]
          exact hQ
        · have j2 : nI j + 1 = nI (j + 1) := nI_1 j
          have j3 : nI j + 2 = nI (j + 1 + 1) := nI_add j 2
          have e41 : ∀ (x1 x2 x3 x4 : Int32), st_u (st_u (st_u (st_u R 41 j x1) 42 j x2) 41 (j + 1) x3) 42 (j + 1) x4 41 (j + 1) = x3 ∧ st_u (st_u (st_u (st_u R 41 j x1) 42 j x2) 41 (j + 1) x3) 42 (j + 1) x4 42 (j + 1) = x4 ∧ st_u (st_u (st_u (st_u R 41 j x1) 42 j x2) 41 (j + 1) x3) 42 (j + 1) x4 41 j = x1 ∧ st_u (st_u (st_u (st_u R 41 j x1) 42 j x2) 41 (j + 1) x3) 42 (j + 1) x4 42 j = x2 := by
            intro x1 x2 x3 x4
            refine ⟨?_, ?_, ?_, ?_⟩ <;> simp [st_u, upd]
          have eo : ∀ (x1 x2 x3 x4 : Int32) (k : Nat), k ≠ 41 → k ≠ 42 → st_u (st_u (st_u (st_u R 41 j x1) 42 j x2) 41 (j + 1) x3) 42 (j + 1) x4 k = R k := by
            intro x1 x2 x3 x4 k h1 h2
            rw [su_o _ _ _ _ _ h2, su_o _ _ _ _ _ h1, su_o _ _ _ _ _ h2, su_o _ _ _ _ _ h1]
          have el : ∀ (x1 x2 x3 x4 : Int32) (i : Nat), i < j → st_u (st_u (st_u (st_u R 41 j x1) 42 j x2) 41 (j + 1) x3) 42 (j + 1) x4 41 i = R 41 i ∧ st_u (st_u (st_u (st_u R 41 j x1) 42 j x2) 41 (j + 1) x3) 42 (j + 1) x4 42 i = R 42 i := by
            intro x1 x2 x3 x4 i hi
            have h1 : ¬ i = j := by omega
            have h2 : ¬ i = j + 1 := by omega
            refine ⟨?_, ?_⟩ <;> simp [st_u, upd, h1, h2]
          obtain ⟨f1, f2, f3, f4⟩ := e41 (nI ra) (nI rb) (nI la) (nI lb')
          have iff : φ a = φ b ↔ (φ la = φ lb' ∧ φ ra = φ rb) := by
            constructor
            · intro z
              rw [a3, b3] at z
              have := (nI_eq (by omega) (by omega)).mp (vl_inj z).2
              subst this
              exact ⟨by rw [← a6, ← b6], by rw [← a7, ← b7]⟩
            · rintro ⟨z1, z2⟩
              have : p = p' := hdis p p' hp hp' (by rw [a6, b6, z1]) (by rw [a7, b7, z2])
              subst this
              rw [a3, b3]
          have rkl : rk (φ la) ≤ N := by have := (hrk p hp).1; rw [a6] at this; omega
          have rkr : rk (φ ra) ≤ N := by have := (hrk p hp).2; rw [a7] at this; omega
          have stp : ∀ Q : Int32 → st_I → Prop, (∃ m, wp_M_same_L16 Q m (st_u (st_u (st_u (st_u R 41 j (nI ra)) 42 j (nI rb)) 41 (j + 1) (nI la)) 42 (j + 1) (nI lb')) (nI (j + 1 + 1))) → ∃ m, wp_M_same_L16 Q m R (nI (j + 1)) := by
            rintro Q ⟨m, hm⟩
            refine ⟨m + 1, ?_⟩
            rw [wp_M_same_L16]
            simp only [no, m1, cj, cj1, vj, vj1, h41, h42, eqab, zab, ca, cb, va', vb', r37, r38, r39, r40, a1, b1, a2, b2, a4, a5, b4, b5, j2, j3, not_false_eq_true, not_true, false_imp_iff, true_imp_iff, true_and, and_true, wp_M_same_L153]
            exact hm
          obtain ⟨R1, g1, g2, g3⟩ := ih la lb' (j + 1) (st_u (st_u (st_u (st_u R 41 j (nI ra)) 42 j (nI rb)) 41 (j + 1) (nI la)) 42 (j + 1) (nI lb')) rkl (by omega) (by omega) (by omega) (fun k h1 h2 => by rw [eo _ _ _ _ k (by omega) (by omega)]; exact hR k h1 h2) f1 f2
          by_cases z1 : φ la = φ lb'
          · obtain ⟨g4, g5⟩ := g2 z1
            obtain ⟨R2, k1, k2, k3⟩ := ih ra rb j R1 rkr (by omega) (by omega) (by omega) (fun k h1 h2 => by rw [g1 k (by omega) (by omega), eo _ _ _ _ k (by omega) (by omega)]; exact hR k h1 h2) (by rw [(g4 j (by omega)).1]; exact f3) (by rw [(g4 j (by omega)).2]; exact f4)
            refine ⟨R2, fun k h1 h2 => by rw [k1 k h1 h2, g1 k h1 h2, eo _ _ _ _ k h1 h2], fun z => ?_, fun z Q hQ => stp Q (g5 Q (k3 (fun w => z (iff.mpr ⟨z1, w⟩)) Q hQ))⟩
            obtain ⟨k4, k5⟩ := k2 (iff.mp z).2
            refine ⟨fun i hi => ?_, fun Q hm => stp Q (g5 Q (k5 Q hm))⟩
            have := el (nI ra) (nI rb) (nI la) (nI lb') i hi
            rw [(k4 i hi).1, (k4 i hi).2, (g4 i (by omega)).1, (g4 i (by omega)).2]
            exact this
          · exact ⟨R1, fun k h1 h2 => by rw [g1 k h1 h2, eo _ _ _ _ k h1 h2], fun z => absurd (iff.mp z).1 z1, fun _ Q hQ => stp Q (g3 z1 Q hQ)⟩
theorem rx_same {g : st_I} {q : st_L} {r : st_I} {φ : Nat → Int64} {nv P PM : Nat} (hM : sMV g q r φ nv P PM) (hPM : PM ≤ 40) (hnv : nv ≤ 460) {a b : Nat} (ha : a < nv) (hb : b < nv) : ∃ R', (∀ k, k ≠ 41 → k ≠ 42 → R' k = r k) ∧ (φ a = φ b → ∀ Q : Int32 → st_I → Prop, Q 1 R' → wp_M_same (nI a) (nI b) r Q) ∧ (¬ φ a = φ b → ∀ Q : Int32 → st_I → Prop, Q 0 R' → wp_M_same (nI a) (nI b) r Q) := by
  have v4 : vp_in (0 : Int32) 400 := vp_in_nI (n := 0) (by omega) (by omega)
  have hrk : rk (φ a) ≤ 41 := by
    rcases hM.2.2.2.1 a ha with ⟨k, hk, a1, a2⟩ | ⟨a1, a2, p, la, ra, hp, hla, hra, a3, _⟩
    · rw [a2, rk_n k hk]; omega
    · have := hM.2.2.1
      rw [a3, rk_p p (by omega)]; omega
  have o : ∀ k, k ≠ 41 → k ≠ 42 → st_u (st_u r 41 0 (nI a)) 42 0 (nI b) k = r k := fun k h1 h2 => by rw [su_o _ _ _ _ _ h2, su_o _ _ _ _ _ h1]
  obtain ⟨R', g1, g2, g3⟩ := same_l hM hPM hnv 41 a b 0 (st_u (st_u r 41 0 (nI a)) 42 0 (nI b)) hrk (by omega) ha hb (fun k h1 h2 => o k (by omega) (by omega)) (by simp [st_u, upd]) (by simp [st_u, upd])
  refine ⟨R', fun k h1 h2 => by rw [g1 k h1 h2, o k h1 h2], fun z Q hQ => ⟨v4, v4, (g2 z).2 Q ⟨1, ?_⟩⟩, fun z Q hQ => ⟨v4, v4, g3 z Q hQ⟩⟩
  rw [wp_M_same_L16]
  simp only [show nI 0 ≤ 0 from by decide, not_true, false_imp_iff, true_imp_iff, and_true]
  exact hQ
