def bt (x : Int32) (i : Nat) : Bool := x.toBitVec.getLsbD i
theorem b_ext {x y : Int32} (h : ∀ i, i < 32 → bt x i = bt y i) : x = y := Int32.toBitVec_inj.mp (BitVec.eq_of_getLsbD_eq (fun i hi => h i hi))
theorem b_or (x y : Int32) (i : Nat) : bt (x ||| y) i = (bt x i || bt y i) := by unfold bt; rw [Int32.toBitVec_or, BitVec.getLsbD_or]
theorem b_and (x y : Int32) (i : Nat) : bt (x &&& y) i = (bt x i && bt y i) := by unfold bt; rw [Int32.toBitVec_and, BitVec.getLsbD_and]
theorem b_xor (x y : Int32) (i : Nat) : bt (x ^^^ y) i = (bt x i ^^ bt y i) := by unfold bt; rw [Int32.toBitVec_xor, BitVec.getLsbD_xor]
theorem b_big {x : Int32} {i : Nat} (h : 32 ≤ i) : bt x i = false := BitVec.getLsbD_of_ge _ _ h
theorem b_m1 : ∀ i, i < 32 → bt (-1) i = true := by decide +kernel
theorem b_0 (i : Nat) : bt 0 i = false := BitVec.getLsbD_zero
theorem s_l : ∀ n, n < 32 → ((nI n &&& 31).toBitVec.smod 32).toNat = n := by decide +kernel
theorem b_shl (n : Nat) (hn : n < 32) (x : Int32) {i : Nat} (hi : i < 32) : bt (x <<< (nI n &&& 31)) i = (decide (n ≤ i) && bt x (i - n)) := by
  unfold bt
  rw [Int32.toBitVec_shiftLeft]
  show (x.toBitVec <<< ((nI n &&& 31).toBitVec.smod 32).toNat).getLsbD i = _
  rw [s_l n hn, BitVec.getLsbD_shiftLeft]
  rcases Nat.lt_or_ge i n with h | h
  · simp [h, Nat.not_le.mpr h]
  · simp [hi, h, Nat.not_lt.mpr h]
theorem b_sshr (n : Nat) (hn : n < 32) (x : Int32) {i : Nat} (hi : i < 32) : bt (x >>> (nI n &&& 31)) i = if n + i < 32 then bt x (n + i) else bt x 31 := by
  unfold bt
  rw [Int32.toBitVec_shiftRight]
  show (x.toBitVec.sshiftRight ((nI n &&& 31).toBitVec.smod 32).toNat).getLsbD i = _
  rw [s_l n hn, BitVec.getLsbD_sshiftRight, BitVec.msb_eq_getLsbD_last]
  simp [hi]
def lb (x y : Int32) : Prop := ∀ i, i < 32 → bt x i = true → bt y i = true
theorem lb_rf (x : Int32) : lb x x := fun _ _ h => h
theorem lb_tr {x y z : Int32} (h : lb x y) (k : lb y z) : lb x z := fun i hi b => k i hi (h i hi b)
theorem lb_as {x y : Int32} (h : lb x y) (k : lb y x) : x = y := b_ext fun i hi => by
  have h1 := h i hi
  have h2 := k i hi
  cases hx : bt x i <;> cases hy : bt y i <;> simp_all
theorem lb_z (y : Int32) : lb 0 y := fun i _ h => by simp [b_0] at h
theorem lb_0 {x : Int32} (h : lb x 0) : x = 0 := lb_as h (lb_z x)
theorem lb_or {x y x' y' : Int32} (h : lb x x') (k : lb y y') : lb (x ||| y) (x' ||| y') := fun i hi b => by
  rw [b_or] at b ⊢
  have h1 := h i hi
  have h2 := k i hi
  cases hx : bt x i <;> cases hy : bt y i <;> simp_all
theorem lb_an {x y x' y' : Int32} (h : lb x x') (k : lb y y') : lb (x &&& y) (x' &&& y') := fun i hi b => by
  rw [b_and] at b ⊢
  have h1 := h i hi
  have h2 := k i hi
  cases hx : bt x i <;> cases hy : bt y i <;> simp_all
theorem lb_ol (x y : Int32) : lb x (x ||| y) := fun i _ b => by rw [b_or, b]; rfl
theorem lb_or2 (x y : Int32) : lb y (x ||| y) := fun i _ b => by rw [b_or, b]; simp
theorem lb_ne {x y : Int32} (h : lb x y) (k : ¬ x = 0) : ¬ y = 0 := fun z => k (lb_0 (z ▸ h))
theorem lb_ex {x : Int32} (h : ¬ x = 0) : ∃ i, i < 32 ∧ bt x i = true := by
  refine Classical.byContradiction fun z => h (b_ext fun i hi => ?_)
  rw [b_0]
  cases hb : bt x i with
  | false => rfl
  | true => exact absurd ⟨i, hi, hb⟩ z
theorem b_1 : ∀ i, i < 32 → bt 1 i = decide (i = 0) := by decide +kernel
theorem b_511 : ∀ i, i < 32 → bt 511 i = decide (i < 9) := by decide +kernel
theorem b_256 : ∀ i, i < 32 → bt 256 i = decide (i = 8) := by decide +kernel
theorem b_k (k : Nat) (hk : k < 32) {i : Nat} (hi : i < 32) : bt ((1 : Int32) <<< (nI k &&& 31)) i = decide (i = k) := by
  rw [b_shl k hk 1 hi]
  by_cases h : k ≤ i
  · rw [b_1 _ (by omega)]
    by_cases h2 : i = k <;> simp [h2, h] <;> omega
  · simp [h]; omega
theorem b_hs (x : Int32) (k : Nat) (hk : k < 32) : ((x >>> (nI k &&& 31)) &&& 1) = 0 ↔ bt x k = false := by
  constructor
  · intro h
    have h1 := congrArg (fun z => bt z 0) h
    simp only [b_and, b_0, b_1 0 (by omega), b_sshr k hk x (show 0 < 32 by omega)] at h1
    simpa [hk] using h1
  · intro h
    apply b_ext
    intro i hi
    rw [b_and, b_1 i hi, b_0]
    by_cases h0 : i = 0
    · subst h0
      rw [b_sshr k hk x hi]
      simp [hk, h]
    · simp [h0]
theorem b_hs1 (x : Int32) (k : Nat) (hk : k < 32) : ((x >>> (nI k &&& 31)) &&& 1) = 1 ↔ bt x k = true := by
  constructor
  · intro h
    cases hb : bt x k with
    | true => rfl
    | false =>
      rw [(b_hs x k hk).mpr hb] at h
      exact absurd h (by decide)
  · intro h
    apply b_ext
    intro i hi
    rw [b_and, b_1 i hi]
    by_cases h0 : i = 0
    · subst h0
      rw [b_sshr k hk x hi]
      simp [hk, h]
    · simp [h0]
theorem b_an8 (x : Int32) : x &&& 256 = 0 ↔ bt x 8 = false := by
  constructor
  · intro h
    have h1 := congrArg (fun z => bt z 8) h
    simpa only [b_and, b_0, b_256 8 (by omega), decide_true, Bool.and_true] using h1
  · intro h
    apply b_ext
    intro i hi
    rw [b_and, b_256 i hi, b_0]
    by_cases h0 : i = 8
    · subst h0; simp [h]
    · simp [h0]
def m9 (x : Int32) : Prop := x &&& 511 = x
theorem m9_iff (x : Int32) : m9 x ↔ ∀ i, i < 32 → 9 ≤ i → bt x i = false := by
  unfold m9
  constructor
  · intro h i hi h9
    have h1 := congrArg (fun z => bt z i) h
    simp only [b_and, b_511 i hi] at h1
    rw [← h1]
    simp; omega
  · intro h
    apply b_ext
    intro i hi
    rw [b_and, b_511 i hi]
    by_cases h9 : i < 9
    · simp [h9]
    · simp [h9, h i hi (by omega)]
theorem m9_or {x y : Int32} (h : m9 x) (k : m9 y) : m9 (x ||| y) := by
  rw [m9_iff] at *
  intro i hi h9
  rw [b_or, h i hi h9, k i hi h9]; rfl
theorem m9_an {x y : Int32} (h : m9 x) : m9 (x &&& y) := by
  rw [m9_iff] at *
  intro i hi h9
  rw [b_and, h i hi h9]; rfl
theorem m9_lb {x y : Int32} (h : lb x y) (k : m9 y) : m9 x := by
  rw [m9_iff] at *
  intro i hi h9
  cases hb : bt x i with
  | false => rfl
  | true => have := h i hi hb; rw [k i hi h9] at this; exact absurd this (by simp)
theorem m9_k (k : Nat) (hk : k < 9) : m9 ((1 : Int32) <<< (nI k &&& 31)) := by
  rw [m9_iff]
  intro i hi h9
  rw [b_k k (by omega) hi]; simp; omega
