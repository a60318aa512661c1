def pr_c (g : st_I) (n e c : Nat) : Prop := c < n ∧ (g 7 c).toNatClampNeg < (g 7 e).toNatClampNeg
def pr_row (g r : st_I) (n e : Nat) : Prop :=
  ((g 2 e = 0 ∨ g 2 e = 1) ∧ ∃ v, v < 4 ∧ g 3 e = nI v ∧ r 22 e = nI v) ∨
  (g 2 e = 2 ∧ g 3 e = r 22 e) ∨
  (g 2 e = 3 ∨ g 2 e = 14) ∨
  ((g 2 e = 4 ∨ g 2 e = 5 ∨ g 2 e = 6 ∨ g 2 e = 12 ∨ g 2 e = 13) ∧ ∃ a b, pr_c g n e a ∧ pr_c g n e b ∧ g 4 e = nI a ∧ r 22 e = nI a ∧ g 5 e = nI b ∧ r 23 e = nI b) ∨
  ((g 2 e = 7 ∨ g 2 e = 8) ∧ ∃ a, pr_c g n e a ∧ g 4 e = nI a ∧ r 22 e = nI a) ∨
  (g 2 e = 9 ∧ ∃ m a b c, m < 512 ∧ g 3 e = nI m ∧ r 23 e = nI m ∧ pr_c g n e a ∧ pr_c g n e b ∧ pr_c g n e c ∧ g 4 e = nI a ∧ r 22 e = nI a ∧ g 5 e = nI b ∧ r 24 e = nI b ∧ g 6 e = nI c ∧ r 25 e = nI c) ∨
  (g 2 e = 10 ∧ ∃ f a, f < 6 ∧ g 3 e = nI f ∧ r 22 e = nI f ∧ pr_c g n e a ∧ g 4 e = nI a ∧ r 23 e = nI a ∧ (f < 3 ∨ ∃ b, pr_c g n e b ∧ g 5 e = nI b ∧ r 24 e = nI b)) ∨
  (g 2 e = 11 ∧ ∃ v a b, (v = 2 ∨ v = 3) ∧ g 3 e = nI v ∧ r 22 e = nI v ∧ pr_c g n e a ∧ pr_c g n e b ∧ g 4 e = nI a ∧ r 23 e = nI a ∧ g 5 e = nI b ∧ r 24 e = nI b)
def pr_all (g r : st_I) (n : Nat) : Prop := n ≤ 90 ∧ g 1 8 = nI n ∧ r 20 0 = nI n ∧ ∀ e, e < n → r 21 e = g 2 e ∧ (∃ d, d ≤ 5 ∧ g 7 e = nI d ∧ r 26 e = nI d) ∧ (∃ z, 1 ≤ z ∧ z ≤ 60 ∧ g 8 e = nI z ∧ r 27 e = nI z) ∧ pr_row g r n e
def nm (m : Int32) : Int32 := m ^^^ (-1)
def kn (x : Int32) : Int32 := if x = 0 then 5 else if 0 ≤ x then 6 else 4
def hs (x k : Int32) : Bool := !decide (((x >>> (k &&& 31)) &&& 1) = 0)
def tm (s x y i j : Int32) : Int32 := if hs x i = true then (if hs y j = true then (if j = 5 then 1 <<< (i &&& 31) else if s = 4 then (if i = 5 then 1 <<< (j &&& 31) else 112) else 112) else 0) else 0
def nk (s x y : Int32) : Int32 := ((((((((0 ||| tm s x y 4 4) ||| tm s x y 4 5) ||| tm s x y 4 6) ||| tm s x y 5 4) ||| tm s x y 5 5) ||| tm s x y 5 6) ||| tm s x y 6 4) ||| tm s x y 6 5) ||| tm s x y 6 6
def kzN (g : st_I) (a : Nat) (V : Nat → Int32) (x : Int32) : Nat → Int32 := if g 2 a = 0 then upd V (g 3 a).toNatClampNeg x else V
def kzB (g : st_I) (ma gi : Nat → Int32) (K : Nat → (Nat → Int32) → Int32) (e : Nat) (V : Nat → Int32) : Int32 :=
  if g 2 e = 0 then V (g 3 e).toNatClampNeg
  else if g 2 e = 1 then 1 <<< (g 3 e &&& 31)
  else if g 2 e = 2 then 1 <<< (kn (g 3 e) &&& 31)
  else if g 2 e = 3 then 128
  else if g 2 e = 14 then 0
  else if g 2 e = 7 then (if hs (K (g 4 e).toNatClampNeg V) 8 = true then 511 else 0)
  else if g 2 e = 8 then (if hs (K (g 4 e).toNatClampNeg V) 8 = true then 511 else 0)
  else if g 2 e = 9 then
    (if (K (g 4 e).toNatClampNeg V) &&& (g 3 e) = 0 then 0 else K (g 5 e).toNatClampNeg (kzN g (g 4 e).toNatClampNeg V ((K (g 4 e).toNatClampNeg V) &&& (g 3 e)))) |||
    (if (K (g 4 e).toNatClampNeg V) &&& nm (g 3 e) = 0 then 0 else K (g 6 e).toNatClampNeg (kzN g (g 4 e).toNatClampNeg V ((K (g 4 e).toNatClampNeg V) &&& nm (g 3 e))))
  else if g 2 e = 10 then
    (if (K (g 4 e).toNatClampNeg V) &&& ma (2 * (g 3 e).toNatClampNeg) = 0 then 0
     else if 3 ≤ (g 3 e).toNatClampNeg then (if (K (g 5 e).toNatClampNeg V) &&& ma (2 * (g 3 e).toNatClampNeg + 1) = 0 then 0 else gi (g 3 e).toNatClampNeg)
     else gi (g 3 e).toNatClampNeg)
  else if g 2 e = 11 then (if K (g 4 e).toNatClampNeg V = 0 then 0 else K (g 5 e).toNatClampNeg (upd V (g 3 e).toNatClampNeg (K (g 4 e).toNatClampNeg V)))
  else if g 2 e = 12 then K (g 4 e).toNatClampNeg V ||| K (g 5 e).toNatClampNeg V
  else if K (g 4 e).toNatClampNeg V = 0 then 0
  else if K (g 5 e).toNatClampNeg V = 0 then 0
  else if g 2 e = 6 then 256
  else if g 2 e = 13 then 3
  else nk (g 2 e) (K (g 4 e).toNatClampNeg V) (K (g 5 e).toNatClampNeg V)
def kz (g : st_I) (ma gi : Nat → Int32) : Nat → Nat → (Nat → Int32) → Int32
  | 0 => fun _ _ => 0
  | d + 1 => kzB g ma gi (kz g ma gi d)
def ktB (g : st_I) (K : Nat → (Nat → Int32) → Int32) (T : Nat → (Nat → Int32) → List (Nat × Int32)) (e : Nat) (V : Nat → Int32) : List (Nat × Int32) :=
  if g 2 e = 0 ∨ g 2 e = 1 ∨ g 2 e = 2 ∨ g 2 e = 3 ∨ g 2 e = 14 then []
  else if g 2 e = 7 ∨ g 2 e = 8 then T (g 4 e).toNatClampNeg V
  else if g 2 e = 9 then
    T (g 4 e).toNatClampNeg V ++ ((if (K (g 4 e).toNatClampNeg V) &&& (g 3 e) = 0 then [] else T (g 5 e).toNatClampNeg (kzN g (g 4 e).toNatClampNeg V ((K (g 4 e).toNatClampNeg V) &&& (g 3 e)))) ++
    (if (K (g 4 e).toNatClampNeg V) &&& nm (g 3 e) = 0 then [] else T (g 6 e).toNatClampNeg (kzN g (g 4 e).toNatClampNeg V ((K (g 4 e).toNatClampNeg V) &&& nm (g 3 e)))))
  else if g 2 e = 10 then
    T (g 4 e).toNatClampNeg V ++ (if 3 ≤ (g 3 e).toNatClampNeg then T (g 5 e).toNatClampNeg V else [])
  else if g 2 e = 11 then T (g 4 e).toNatClampNeg V ++ (if K (g 4 e).toNatClampNeg V = 0 then [] else T (g 5 e).toNatClampNeg (upd V (g 3 e).toNatClampNeg (K (g 4 e).toNatClampNeg V)))
  else T (g 4 e).toNatClampNeg V ++ T (g 5 e).toNatClampNeg V
def kt (g : st_I) (ma gi : Nat → Int32) : Nat → Nat → (Nat → Int32) → List (Nat × Int32)
  | 0 => fun _ _ => []
  | d + 1 => fun e V => ktB g (kz g ma gi d) (kt g ma gi d) e V ++ [(e, kz g ma gi (d + 1) e V)]
theorem hs_bt (x : Int32) (k : Nat) (hk : k < 32) : hs x (nI k) = bt x k := by
  unfold hs
  by_cases h : bt x k = false
  · simp [(b_hs x k hk).mpr h, h]
  · have h2 : ¬ ((x >>> (nI k &&& 31)) &&& 1) = 0 := fun z => h ((b_hs x k hk).mp z)
    simp [h2]
    simpa using h
theorem hs_lb {x y : Int32} (h : lb x y) (k : Nat) (hk : k < 32) (b : hs x (nI k) = true) : hs y (nI k) = true := by
  rw [hs_bt _ _ hk] at *
  exact h k hk b
theorem tm_lb {s x y x' y' : Int32} (h : lb x x') (k : lb y y') (i j : Nat) (hi : i < 32) (hj : j < 32) : lb (tm s x y (nI i) (nI j)) (tm s x' y' (nI i) (nI j)) := by
  unfold tm
  by_cases h1 : hs x (nI i) = true
  · rw [if_pos h1, if_pos (hs_lb h i hi h1)]
    by_cases h2 : hs y (nI j) = true
    · rw [if_pos h2, if_pos (hs_lb k j hj h2)]
      exact lb_rf _
    · rw [if_neg h2]
      exact lb_z _
  · rw [if_neg h1]
    exact lb_z _
theorem nk_lb {s x y x' y' : Int32} (h : lb x x') (k : lb y y') : lb (nk s x y) (nk s x' y') := by
  have T := fun i j hi hj => tm_lb (s := s) h k i j hi hj
  unfold nk
  exact lb_or (lb_or (lb_or (lb_or (lb_or (lb_or (lb_or (lb_or (lb_or (lb_rf 0) (T 4 4 (by omega) (by omega))) (T 4 5 (by omega) (by omega))) (T 4 6 (by omega) (by omega))) (T 5 4 (by omega) (by omega))) (T 5 5 (by omega) (by omega))) (T 5 6 (by omega) (by omega))) (T 6 4 (by omega) (by omega))) (T 6 5 (by omega) (by omega))) (T 6 6 (by omega) (by omega))
theorem tm_m9 (s x y : Int32) (i j : Nat) (hi : i < 9) (hj : j < 9) : m9 (tm s x y (nI i) (nI j)) := by
  have z : m9 0 := by unfold m9; decide
  have z2 : m9 112 := by unfold m9; decide
  unfold tm
  repeat' split
  all_goals first | exact z | exact z2 | exact m9_k _ hi | exact m9_k _ hj
theorem nk_m9 (s x y : Int32) : m9 (nk s x y) := by
  have z : m9 0 := by unfold m9; decide
  have T := fun i j hi hj => tm_m9 s x y i j hi hj
  unfold nk
  exact m9_or (m9_or (m9_or (m9_or (m9_or (m9_or (m9_or (m9_or (m9_or z (T 4 4 (by omega) (by omega))) (T 4 5 (by omega) (by omega))) (T 4 6 (by omega) (by omega))) (T 5 4 (by omega) (by omega))) (T 5 5 (by omega) (by omega))) (T 5 6 (by omega) (by omega))) (T 6 4 (by omega) (by omega))) (T 6 5 (by omega) (by omega))) (T 6 6 (by omega) (by omega))
theorem tm_0l (s y i j : Int32) : tm s 0 y i j = 0 := by
  have h : hs 0 i = false := by
    unfold hs
    have : (0 : Int32) >>> (i &&& 31) = 0 := by
      apply Int32.toBitVec_inj.mp
      rw [Int32.toBitVec_shiftRight]
      simp [BitVec.sshiftRight_eq']
    rw [this]; decide
  unfold tm; rw [h]; rfl
theorem tm_0r (s x i j : Int32) : tm s x 0 i j = 0 := by
  have h : hs 0 j = false := by
    unfold hs
    have : (0 : Int32) >>> (j &&& 31) = 0 := by
      apply Int32.toBitVec_inj.mp
      rw [Int32.toBitVec_shiftRight]
      simp [BitVec.sshiftRight_eq']
    rw [this]; decide
  unfold tm; rw [h]; split <;> rfl
theorem nk_0l (s y : Int32) : nk s 0 y = 0 := by unfold nk; simp only [tm_0l]; decide
theorem nk_0r (s x : Int32) : nk s x 0 = 0 := by unfold nk; simp only [tm_0r]; decide
