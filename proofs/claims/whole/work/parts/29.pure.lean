theorem nxt {W : st_I → st_L → st_I → st_L → Int32 → Prop} {v : Int32} (ih : ∀ g q r o, iv g r → W g q r o (v + 6)) {x : Int32} {u : st_I × st_L × st_L} {y : Int32} {r' : st_I} (h : op_post x u y r') : wp_M_thrown r' (fun z s => (z = x → (¬ x = 0 → W u.1 u.2.1 s u.2.2 (v + 6)) ∧ (x = 0 → vp_in (0 : Int32) 1 ∧ ((lg_cmp (u.2.2 44 ((0 : Int32)).toNatClampNeg) (y).toInt64) = 0 → W u.1 u.2.1 s u.2.2 (v + 6)) ∧ (¬ (lg_cmp (u.2.2 44 ((0 : Int32)).toNatClampNeg) (y).toInt64) = 0 → False))) ∧ (¬ z = x → False)) := by
  obtain ⟨h1, h2, h3⟩ := h
  unfold wp_M_thrown
  refine ⟨fun _ => ⟨fun _ => ih _ _ _ _ h3, fun z => ⟨vi_1, fun _ => ih _ _ _ _ h3, fun w => w ?_⟩⟩, fun z => z h1⟩
  rw [lg_e, cl_0]; exact h2 z
theorem iv_0 : iv st_g0 st_r0 := by
  refine ⟨0, ⟨by omega, rfl, rfl, fun e he => absurd he (by omega)⟩, fun f hf => Or.inl ⟨?_, ?_⟩, Or.inl rfl, ⟨0, by omega, rfl, rfl, fun j hj => absurd hj (by omega)⟩, rfl⟩
  · simp [st_g0, fl_I, hf]
  · simp [st_r0, fl_I, hf]
theorem pu_loop (xs : Nat → Int32) (L : Nat) (hL : L ≤ 3072) : ∀ n k, n + k = 600 → k ≤ 512 → ∀ g q r o, iv g r → wp_law xs L n g q r o (nI (6 * k)) := by
  intro n
  induction n with
  | zero => intro k hk hk2; omega
  | succ n ih =>
    intro k hk hk2 g q r o hiv
    have six : nI (6 * k) + 6 = nI (6 * (k + 1)) := nI_add (6 * k) 6
    rw [wp_law]
    refine ⟨fun _ => trivial, fun hlt => ?_⟩
    have hkL : 6 * k + 6 ≤ L := by
      by_cases h6 : 6 ≤ L
      · have e : nI L - 6 = nI (L - 6) := by
          have : nI L = nI (L - 6) + 6 := by rw [show (6 : Int32) = nI 6 from rfl, nI_add, Nat.sub_add_cancel h6]
          rw [this, Int32.add_sub_cancel]
        rw [e, nI_ltI (by omega) (by omega)] at hlt
        omega
      · exfalso
        apply hlt
        refine Int32.lt_of_lt_of_le (b := 0) ?_ (nI_nn (by omega))
        have : L = 0 ∨ L = 1 ∨ L = 2 ∨ L = 3 ∨ L = 4 ∨ L = 5 := by omega
        rcases this with rfl | rfl | rfl | rfl | rfl | rfl <;> decide
    have nx : ∀ g q r o, iv g r → wp_law xs L n g q r o (nI (6 * k) + 6) := by
      intro g q r o h
      rw [six]; exact ih (k + 1) (by omega) (by omega) g q r o h
    have i0 : vp_in (nI (6 * k)) L := vp_in_nI (by omega) (by omega)
    have i1 : vp_in (nI (6 * k) + 1) L := by rw [show nI (6 * k) + 1 = nI (6 * k + 1) from nI_add _ 1]; exact vp_in_nI (by omega) (by omega)
    have i2 : vp_in (nI (6 * k) + 2) L := by rw [show nI (6 * k) + 2 = nI (6 * k + 2) from nI_add _ 2]; exact vp_in_nI (by omega) (by omega)
    have i3 : vp_in (nI (6 * k) + 3) L := by rw [show nI (6 * k) + 3 = nI (6 * k + 3) from nI_add _ 3]; exact vp_in_nI (by omega) (by omega)
    have i4 : vp_in (nI (6 * k) + 4) L := by rw [show nI (6 * k) + 4 = nI (6 * k + 4) from nI_add _ 4]; exact vp_in_nI (by omega) (by omega)
    have i5 : vp_in (nI (6 * k) + 5) L := by rw [show nI (6 * k) + 5 = nI (6 * k + 5) from nI_add _ 5]; exact vp_in_nI (by omega) (by omega)
    refine ⟨i0, fun _ => ?_, fun _ => ?_, fun _ => ?_, fun _ => ?_, fun _ => ?_, fun _ => ?_, fun _ => ?_, fun _ => ?_, fun _ => ?_, fun _ _ _ _ _ _ _ _ _ => nx g q r o hiv⟩
    · simp only [i1, i2, i3, i4, i5, true_and]
      exact op_make _ _ _ _ _ q o hiv (fun x u y r' h => nxt nx h)
    · simp only [i1, i2, true_and]
      exact op_define _ _ q o hiv (fun x u y r' h => nxt nx h)
    · simp only [i1, i2, true_and]
      exact op_may _ _ q o hiv (fun x u y r' h => nxt nx h)
    · simp only [i1, true_and]
      exact op_gives _ q o hiv (fun x u y r' h => nxt nx h)
    · simp only [i1, true_and]
      exact op_hope _ q o hiv (fun x u y r' h => nxt nx h)
    · simp only [i1, i2, true_and]
      refine op_ishope _ _ q o hiv (fun x u y r' h1 h2 h3 => ?_)
      unfold wp_M_thrown
      refine ⟨fun _ => ⟨fun _ => nx _ _ _ _ h3, fun z => ⟨vi_1, fun w => ?_, fun w => ?_⟩⟩, fun z => z h1⟩
      · obtain ⟨h4, h5⟩ := h2 z
        unfold wp_law_L510
        rw [lg_e, cl_0, h5, w]
        exact ⟨fun _ => nx _ _ _ _ h3, fun v => v rfl⟩
      · obtain ⟨h4, h5⟩ := h2 z
        unfold wp_law_L510
        rw [lg_e, cl_0, h5, h4.resolve_left w]
        exact ⟨fun _ => nx _ _ _ _ h3, fun v => v rfl⟩
    · simp only [i1, i2, i3, true_and]
      exact op_run _ _ _ q o hiv (fun x u y r' h => nxt nx h)
    · simp only [i1, true_and]
      exact op_part _ q o hiv (fun x u y r' h => nxt nx h)
    · unfold wp_S_calls wp_M_calls
      have h5 : g 14 2 = r 20 30 := by obtain ⟨_, _, _, _, _, h⟩ := hiv; exact h
      exact ⟨fun _ => nx _ _ _ _ (iv_35 hiv 0), fun z => z h5⟩
theorem pu_law (xs : Nat → Int32) (L : Nat) (hL : L ≤ 3072) : wp_law xs L 600 st_g0 st_q0 st_r0 st_o0 0 := pu_loop xs L hL 600 0 (by omega) (by omega) _ _ _ _ iv_0
