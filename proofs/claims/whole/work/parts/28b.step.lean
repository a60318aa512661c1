theorem good_st {g r : st_I} {n : Nat} (hp : pr_all g r n) (hb : bod g r n) {ma gi ma' gi' : Nat → Int32} (h : good g ma gi) (hl : leq ma gi ma' gi') (h1 : ∀ f, f < 6 → lb (gi' f) (fG g ma gi f)) (h2 : ∀ f, f < 6 → ∀ i, i < pmn f → ∀ k, k < 32 → bt (ma' (2 * f + i)) k = true → k < 9 ∧ ¬ fK g ma gi f i k = 0) : good g ma' gi' := by
  obtain ⟨hpst, hlow, hmsk⟩ := h
  refine ⟨⟨fun f hf => lb_tr (h1 f hf) (fG_lb hp hb hl hf), ?_⟩, ?_, ?_, ?_⟩
  · intro f hf i hi k hk hbt
    exact lb_ne (fK_lb hp hb hl hf i k) (h2 f hf i hi k (by omega) hbt).2
  · intro ma2 gi2 hpre
    have hle := hlow ma2 gi2 hpre
    refine ⟨fun f hf => lb_tr (h1 f hf) (lb_tr (fG_lb hp hb hle hf) (hpre.1 f hf)), ?_⟩
    intro f hf i hi k hk hbt
    have := h2 f hf i hi k hk hbt
    exact hpre.2 f hf i hi k this.1 (lb_ne (fK_lb hp hb hle hf i k) this.2)
  · intro f hf
    exact m9_lb (h1 f hf) (fG_m9 hp hb hmsk.1 hf)
  · intro f hf i hi
    rw [m9_iff]
    intro k hk h9
    cases hbt : bt (ma' (2 * f + i)) k with
    | false => rfl
    | true => have := (h2 f hf i hi k hk hbt).1; omega
theorem good_mb {g : st_I} {ma gi : Nat → Int32} (h : good g ma gi) {f i k : Nat} (hf : f < 6) (hi : i < pmn f) (hk : k < 32) (hbt : bt (ma (2 * f + i)) k = true) : k < 9 ∧ ¬ fK g ma gi f i k = 0 := by
  have h9 : k < 9 := by
    have := (m9_iff _).mp (h.2.2.2 f hf i hi) k hk
    cases Nat.lt_or_ge k 9 with
    | inl h => exact h
    | inr h => rw [this h] at hbt; exact absurd hbt (by simp)
  exact ⟨h9, h.1.2 f hf i hi k h9 hbt⟩
theorem good_G {g r : st_I} {n : Nat} (hp : pr_all g r n) (hb : bod g r n) {ma gi : Nat → Int32} (h : good g ma gi) {f : Nat} (hf : f < 6) : good g ma (upd gi f (fG g ma gi f)) ∧ leq ma gi ma (upd gi f (fG g ma gi f)) := by
  have hl : leq ma gi ma (upd gi f (fG g ma gi f)) := by
    refine ⟨fun f' hf' => ?_, fun _ _ _ _ => lb_rf _⟩
    simp only [upd]
    by_cases z : f' = f
    · subst z; simp only [if_true]; exact h.1.1 f' hf'
    · simp only [z, if_false]; exact lb_rf _
  refine ⟨good_st hp hb h hl ?_ ?_, hl⟩
  · intro f' hf'
    simp only [upd]
    by_cases z : f' = f
    · subst z; simp only [if_true]; exact lb_rf _
    · simp only [z, if_false]; exact h.1.1 f' hf'
  · intro f' hf' i hi k hk hbt
    exact good_mb h hf' hi hk hbt
theorem pmn_inj {f f' i i' : Nat} (hi : i < pmn f) (hi' : i' < pmn f') (h : 2 * f + i = 2 * f' + i') : f = f' ∧ i = i' := by
  unfold pmn at hi hi'
  split at hi <;> split at hi' <;> omega
theorem good_M {g r : st_I} {n : Nat} (hp : pr_all g r n) (hb : bod g r n) {ma gi : Nat → Int32} (h : good g ma gi) {f i : Nat} (hf : f < 6) (hi : i < pmn f) {x : Int32} (hx : lb (ma (2 * f + i)) x) (hk : ∀ k, k < 32 → bt x k = true → bt (ma (2 * f + i)) k = true ∨ (k < 9 ∧ ¬ fK g ma gi f i k = 0)) : good g (upd ma (2 * f + i) x) gi ∧ leq ma gi (upd ma (2 * f + i) x) gi := by
  have hl : leq ma gi (upd ma (2 * f + i) x) gi := by
    refine ⟨fun _ _ => lb_rf _, fun f' hf' i' hi' => ?_⟩
    simp only [upd]
    by_cases z : 2 * f' + i' = 2 * f + i
    · simp only [z, if_true]; exact hx
    · simp only [z, if_false]; exact lb_rf _
  refine ⟨good_st hp hb h hl h.1.1 ?_, hl⟩
  intro f' hf' i' hi' k hk' hbt
  simp only [upd] at hbt
  by_cases z : 2 * f' + i' = 2 * f + i
  · obtain ⟨rfl, rfl⟩ := pmn_inj hi' hi z
    simp only [if_true] at hbt
    rcases hk k hk' hbt with hz | hz
    · exact good_mb h hf hi hk' hz
    · exact hz
  · simp only [z, if_false] at hbt
    exact good_mb h hf' hi' hk' hbt
def b1 (b : Bool) : Nat := if b = true then 1 else 0
def pc (x : Int32) : Nat := b1 (bt x 0) + b1 (bt x 1) + b1 (bt x 2) + b1 (bt x 3) + b1 (bt x 4) + b1 (bt x 5) + b1 (bt x 6) + b1 (bt x 7) + b1 (bt x 8)
theorem b1_le (b : Bool) : b1 b ≤ 1 := by unfold b1; split <;> omega
theorem pc_9 (x : Int32) : pc x ≤ 9 := by
  have := fun i => b1_le (bt x i)
  have h0 := this 0; have h1 := this 1; have h2 := this 2; have h3 := this 3; have h4 := this 4; have h5 := this 5; have h6 := this 6; have h7 := this 7; have h8 := this 8
  unfold pc; omega
theorem b1_lb {x y : Int32} (h : lb x y) (i : Nat) (hi : i < 32) : b1 (bt x i) ≤ b1 (bt y i) := by
  have := h i hi
  unfold b1
  cases hx : bt x i <;> cases hy : bt y i <;> simp_all
theorem pc_lb {x y : Int32} (h : lb x y) : pc x ≤ pc y := by
  have := b1_lb h
  have h0 := this 0 (by omega); have h1 := this 1 (by omega); have h2 := this 2 (by omega); have h3 := this 3 (by omega); have h4 := this 4 (by omega); have h5 := this 5 (by omega); have h6 := this 6 (by omega); have h7 := this 7 (by omega); have h8 := this 8 (by omega)
  unfold pc; omega
theorem pc_lt {x y : Int32} (h : lb x y) (hy : m9 y) (hne : ¬ y = x) : pc x < pc y := by
  have hex : ∃ i, i < 9 ∧ bt x i = false ∧ bt y i = true := by
    refine Classical.byContradiction fun z => hne (lb_as (fun i hi hb => ?_) h)
    cases hx : bt x i with
    | true => rfl
    | false =>
      have h9 : i < 9 := by
        cases Nat.lt_or_ge i 9 with
        | inl h => exact h
        | inr h => rw [(m9_iff y).mp hy i hi h] at hb; exact absurd hb (by simp)
      exact absurd ⟨i, h9, hx, hb⟩ z
  obtain ⟨i, hi, h1, h2⟩ := hex
  have hs : b1 (bt x i) + 1 ≤ b1 (bt y i) := by rw [h1, h2]; decide
  have := b1_lb h
  have g0 := this 0 (by omega); have g1 := this 1 (by omega); have g2 := this 2 (by omega); have g3 := this 3 (by omega); have g4 := this 4 (by omega); have g5 := this 5 (by omega); have g6 := this 6 (by omega); have g7 := this 7 (by omega); have g8 := this 8 (by omega)
  unfold pc
  have : i = 0 ∨ i = 1 ∨ i = 2 ∨ i = 3 ∨ i = 4 ∨ i = 5 ∨ i = 6 ∨ i = 7 ∨ i = 8 := by omega
  rcases this with rfl | rfl | rfl | rfl | rfl | rfl | rfl | rfl | rfl <;> omega
def cnt (ma gi : Nat → Int32) : Nat := pc (gi 0) + pc (gi 1) + pc (gi 2) + pc (gi 3) + pc (gi 4) + pc (gi 5) + pc (ma 0) + pc (ma 2) + pc (ma 4) + pc (ma 6) + pc (ma 7) + pc (ma 8) + pc (ma 9) + pc (ma 10) + pc (ma 11)
theorem cnt_135 (ma gi : Nat → Int32) : cnt ma gi ≤ 135 := by
  have := pc_9
  have a0 := this (gi 0); have a1 := this (gi 1); have a2 := this (gi 2); have a3 := this (gi 3); have a4 := this (gi 4); have a5 := this (gi 5)
  have c0 := this (ma 0); have c2 := this (ma 2); have c4 := this (ma 4); have c6 := this (ma 6); have c7 := this (ma 7); have c8 := this (ma 8); have c9 := this (ma 9); have c10 := this (ma 10); have c11 := this (ma 11)
  unfold cnt; omega
theorem cnt_all {ma gi ma' gi' : Nat → Int32} (h : leq ma gi ma' gi') : (∀ f, f < 6 → pc (gi f) ≤ pc (gi' f)) ∧ (∀ f, f < 6 → ∀ i, i < pmn f → pc (ma (2 * f + i)) ≤ pc (ma' (2 * f + i))) := ⟨fun f hf => pc_lb (h.1 f hf), fun f hf i hi => pc_lb (h.2 f hf i hi)⟩
theorem cnt_lb {ma gi ma' gi' : Nat → Int32} (h : leq ma gi ma' gi') : cnt ma gi ≤ cnt ma' gi' := by
  obtain ⟨hG, hM⟩ := cnt_all h
  have a0 := hG 0 (by omega); have a1 := hG 1 (by omega); have a2 := hG 2 (by omega); have a3 := hG 3 (by omega); have a4 := hG 4 (by omega); have a5 := hG 5 (by omega)
  have c0 := hM 0 (by omega) 0 (by decide); have c2 := hM 1 (by omega) 0 (by decide); have c4 := hM 2 (by omega) 0 (by decide); have c6 := hM 3 (by omega) 0 (by decide); have c7 := hM 3 (by omega) 1 (by decide); have c8 := hM 4 (by omega) 0 (by decide); have c9 := hM 4 (by omega) 1 (by decide); have c10 := hM 5 (by omega) 0 (by decide); have c11 := hM 5 (by omega) 1 (by decide)
  simp only [Nat.reduceMul, Nat.reduceAdd, Nat.add_zero] at c0 c2 c4 c6 c7 c8 c9 c10 c11
  unfold cnt; omega
theorem cnt_G {ma gi : Nat → Int32} {f : Nat} (hf : f < 6) {x : Int32} (h : lb (gi f) x) (hx : m9 x) (hne : ¬ x = gi f) : cnt ma gi < cnt ma (upd gi f x) := by
  have hp := pc_lt h hx hne
  have : f = 0 ∨ f = 1 ∨ f = 2 ∨ f = 3 ∨ f = 4 ∨ f = 5 := by omega
  rcases this with rfl | rfl | rfl | rfl | rfl | rfl <;> simp [cnt, upd] <;> omega
theorem cnt_M {ma gi : Nat → Int32} {f i : Nat} (hf : f < 6) (hi : i < pmn f) {x : Int32} (h : lb (ma (2 * f + i)) x) (hx : m9 x) (hne : ¬ x = ma (2 * f + i)) : cnt ma gi < cnt (upd ma (2 * f + i) x) gi := by
  have hp := pc_lt h hx hne
  have hi2 : i < 2 := by unfold pmn at hi; split at hi <;> omega
  have : (f = 0 ∧ i = 0) ∨ (f = 1 ∧ i = 0) ∨ (f = 2 ∧ i = 0) ∨ (f = 3 ∧ i = 0) ∨ (f = 3 ∧ i = 1) ∨ (f = 4 ∧ i = 0) ∨ (f = 4 ∧ i = 1) ∨ (f = 5 ∧ i = 0) ∨ (f = 5 ∧ i = 1) := by
    unfold pmn at hi; split at hi <;> omega
  rcases this with ⟨rfl, rfl⟩ | ⟨rfl, rfl⟩ | ⟨rfl, rfl⟩ | ⟨rfl, rfl⟩ | ⟨rfl, rfl⟩ | ⟨rfl, rfl⟩ | ⟨rfl, rfl⟩ | ⟨rfl, rfl⟩ | ⟨rfl, rfl⟩ <;> simp [cnt, upd] at * <;> omega
def sG (g : st_I) (ma gi : Nat → Int32) (F : Nat) : Prop := ∀ f, f < 6 → f < F → lb (fG g ma gi f) (gi f)
def sM (g : st_I) (ma gi : Nat → Int32) (F I : Nat) : Prop := ∀ f i, f < 6 → i < pmn f → (f < F ∨ f = F ∧ i < I) → ∀ k, k < 9 → ¬ fK g ma gi f i k = 0 → bt (ma (2 * f + i)) k = true
def ri (g : st_I) (c0 F G I : Nat) (ma gi : Nat → Int32) (b : Prop) : Prop := good g ma gi ∧ c0 ≤ cnt ma gi ∧ (b → c0 < cnt ma gi) ∧ (¬ b → sG g ma gi F ∧ sM g ma gi G I)
theorem ri_st {g r : st_I} {n : Nat} (hp : pr_all g r n) (hb : bod g r n) {ma gi ma' gi' : Nat → Int32} {c0 F G I : Nat} {b : Prop} (h : ri g c0 F G I ma gi b) (hg : good g ma' gi') (hl : leq ma gi ma' gi') (b' : Prop) (h1 : b' → cnt ma gi < cnt ma' gi') (h2 : ¬ b' → leq ma' gi' ma gi) : ri g c0 F G I ma' gi' (b ∨ b') := by
  obtain ⟨-, hc, hbc, hs⟩ := h
  refine ⟨hg, Nat.le_trans hc (cnt_lb hl), ?_, ?_⟩
  · rintro (z | z)
    · exact Nat.lt_of_lt_of_le (hbc z) (cnt_lb hl)
    · exact Nat.lt_of_le_of_lt hc (h1 z)
  · intro z
    have zb : ¬ b := fun w => z (Or.inl w)
    have hl' := h2 (fun w => z (Or.inr w))
    obtain ⟨sg, sm⟩ := hs zb
    refine ⟨fun f hf hF => lb_tr (fG_lb hp hb hl' hf) (lb_tr (sg f hf hF) (hl.1 f hf)), ?_⟩
    intro f i hf hi hz k hk hne
    exact hl.2 f hf i hi k (by omega) (sm f i hf hi hz k hk (lb_ne (fK_lb hp hb hl' hf i k) hne))
theorem ri_end {g : st_I} {ma gi : Nat → Int32} {c0 : Nat} {b : Prop} (h : ri g c0 6 6 0 ma gi b) (hb : ¬ b) : least g ma gi := by
  obtain ⟨hg, -, -, hs⟩ := h
  obtain ⟨sg, sm⟩ := hs hb
  exact ⟨⟨fun f hf => sg f hf hf, fun f hf i hi k hk hne => sm f i hf hi (Or.inl hf) k hk hne⟩, hg.2⟩
theorem good_0 {g r : st_I} {n : Nat} {ma gi : Nat → Int32} (hm : ∀ j, j < 12 → ma j = 0) (hg : ∀ f, f < 6 → gi f = 0) : good g ma gi := by
  have hm' : ∀ f, f < 6 → ∀ i, i < pmn f → ma (2 * f + i) = 0 := by
    intro f hf i hi
    refine hm _ ?_
    unfold pmn at hi; split at hi <;> omega
  refine ⟨⟨fun f hf => ?_, fun f hf i hi k hk hb => ?_⟩, fun ma' gi' _ => ⟨fun f hf => ?_, fun f hf i hi => ?_⟩, fun f hf => ?_, fun f hf i hi => ?_⟩
  · rw [hg f hf]; exact lb_z _
  · rw [hm' f hf i hi, b_0] at hb; exact absurd hb (by simp)
  · rw [hg f hf]; exact lb_z _
  · rw [hm' f hf i hi]; exact lb_z _
  · rw [hg f hf]; exact m9_c.1
  · rw [hm' f hf i hi]; exact m9_c.1
