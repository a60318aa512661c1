def wp_law_L668 (xs : Nat → Int32) (L : Nat) (H : st_I → st_L → st_I → st_L → Int32 → Prop) (g : st_I) (q : st_L) (r : st_I) (o : st_L) (v4 : Int32) : Prop := H g q r o (v4 + 6)
def wp_law_L193 (xs : Nat → Int32) (L : Nat) (H : st_I → st_L → st_I → st_L → Int32 → Prop) (g : st_I) (q : st_L) (r : st_I) (o : st_L) (v4 : Int32) : Prop := wp_law_L668 xs L H g q r o v4
def wp_law_L261 (xs : Nat → Int32) (L : Nat) (H : st_I → st_L → st_I → st_L → Int32 → Prop) (g : st_I) (q : st_L) (r : st_I) (o : st_L) (v4 : Int32) : Prop := wp_law_L668 xs L H g q r o v4
def wp_law_L329 (xs : Nat → Int32) (L : Nat) (H : st_I → st_L → st_I → st_L → Int32 → Prop) (g : st_I) (q : st_L) (r : st_I) (o : st_L) (v4 : Int32) : Prop := wp_law_L668 xs L H g q r o v4
def wp_law_L385 (xs : Nat → Int32) (L : Nat) (H : st_I → st_L → st_I → st_L → Int32 → Prop) (g : st_I) (q : st_L) (r : st_I) (o : st_L) (v4 : Int32) : Prop := wp_law_L668 xs L H g q r o v4
def wp_law_L441 (xs : Nat → Int32) (L : Nat) (H : st_I → st_L → st_I → st_L → Int32 → Prop) (g : st_I) (q : st_L) (r : st_I) (o : st_L) (v4 : Int32) : Prop := wp_law_L668 xs L H g q r o v4
def wp_law_L516 (xs : Nat → Int32) (L : Nat) (H : st_I → st_L → st_I → st_L → Int32 → Prop) (g : st_I) (q : st_L) (r : st_I) (o : st_L) (v4 : Int32) : Prop := wp_law_L668 xs L H g q r o v4
def wp_law_L510 (xs : Nat → Int32) (L : Nat) (H : st_I → st_L → st_I → st_L → Int32 → Prop) (g : st_I) (q : st_L) (r : st_I) (o : st_L) (v4 : Int32) (t0 : Int64) (t1 : Int64) : Prop := ((lg_cmp t1 t0) = 0 → wp_law_L516 xs L H g q r o v4) ∧ (¬ (lg_cmp t1 t0) = 0 → False)
def wp_law_L596 (xs : Nat → Int32) (L : Nat) (H : st_I → st_L → st_I → st_L → Int32 → Prop) (g : st_I) (q : st_L) (r : st_I) (o : st_L) (v4 : Int32) : Prop := wp_law_L668 xs L H g q r o v4
def wp_law_L652 (xs : Nat → Int32) (L : Nat) (H : st_I → st_L → st_I → st_L → Int32 → Prop) (g : st_I) (q : st_L) (r : st_I) (o : st_L) (v4 : Int32) : Prop := wp_law_L668 xs L H g q r o v4
def wp_law (xs : Nat → Int32) (L : Nat) : Nat → st_I → st_L → st_I → st_L → Int32 → Prop
  | 0 => fun _ _ _ _ _ => False
  | n + 1 => fun g q r o v4 => (((nI L) - (6 : Int32)) < v4 → True) ∧ (¬ ((nI L) - (6 : Int32)) < v4 → vp_in v4 L ∧ (((xs (v4).toNatClampNeg) &&& (15 : Int32)) = (0 : Int32) → vp_in (v4 + (1 : Int32)) L ∧ vp_in (v4 + (2 : Int32)) L ∧ vp_in (v4 + (3 : Int32)) L ∧ vp_in (v4 + (4 : Int32)) L ∧ vp_in (v4 + (5 : Int32)) L ∧ wp_L_make (xs ((v4 + (1 : Int32))).toNatClampNeg) (xs ((v4 + (2 : Int32))).toNatClampNeg) (xs ((v4 + (3 : Int32))).toNatClampNeg) (xs ((v4 + (4 : Int32))).toNatClampNeg) (xs ((v4 + (5 : Int32))).toNatClampNeg) g q o (fun x124 u124 => vp_in (v4 + (1 : Int32)) L ∧ vp_in (v4 + (2 : Int32)) L ∧ vp_in (v4 + (3 : Int32)) L ∧ vp_in (v4 + (4 : Int32)) L ∧ vp_in (v4 + (5 : Int32)) L ∧ wp_M_make (xs ((v4 + (1 : Int32))).toNatClampNeg) (xs ((v4 + (2 : Int32))).toNatClampNeg) (xs ((v4 + (3 : Int32))).toNatClampNeg) (xs ((v4 + (4 : Int32))).toNatClampNeg) (xs ((v4 + (5 : Int32))).toNatClampNeg) r (fun x160 u160 => wp_M_thrown  u160 (fun x166 u166 => (x166 = x124 → (¬ x124 = 0 → wp_law_L193 xs L (wp_law xs L n) u124.1 u124.2.1 u166 u124.2.2 v4) ∧ (x124 = 0 → vp_in (0 : Int32) 1 ∧ ((lg_cmp (u124.2.2 44 ((0 : Int32)).toNatClampNeg) (x160).toInt64) = 0 → wp_law_L193 xs L (wp_law xs L n) u124.1 u124.2.1 u166 u124.2.2 v4) ∧ (¬ (lg_cmp (u124.2.2 44 ((0 : Int32)).toNatClampNeg) (x160).toInt64) = 0 → False))) ∧ (¬ x166 = x124 → False))))) ∧ (((xs (v4).toNatClampNeg) &&& (15 : Int32)) = (1 : Int32) → vp_in (v4 + (1 : Int32)) L ∧ vp_in (v4 + (2 : Int32)) L ∧ wp_L_define (xs ((v4 + (1 : Int32))).toNatClampNeg) (xs ((v4 + (2 : Int32))).toNatClampNeg) g q o (fun x210 u210 => vp_in (v4 + (1 : Int32)) L ∧ vp_in (v4 + (2 : Int32)) L ∧ wp_M_define (xs ((v4 + (1 : Int32))).toNatClampNeg) (xs ((v4 + (2 : Int32))).toNatClampNeg) r (fun x228 u228 => wp_M_thrown  u228 (fun x234 u234 => (x234 = x210 → (¬ x210 = 0 → wp_law_L261 xs L (wp_law xs L n) u210.1 u210.2.1 u234 u210.2.2 v4) ∧ (x210 = 0 → vp_in (0 : Int32) 1 ∧ ((lg_cmp (u210.2.2 44 ((0 : Int32)).toNatClampNeg) (x228).toInt64) = 0 → wp_law_L261 xs L (wp_law xs L n) u210.1 u210.2.1 u234 u210.2.2 v4) ∧ (¬ (lg_cmp (u210.2.2 44 ((0 : Int32)).toNatClampNeg) (x228).toInt64) = 0 → False))) ∧ (¬ x234 = x210 → False))))) ∧ (((xs (v4).toNatClampNeg) &&& (15 : Int32)) = (2 : Int32) → vp_in (v4 + (1 : Int32)) L ∧ vp_in (v4 + (2 : Int32)) L ∧ wp_L_may 7 (xs ((v4 + (1 : Int32))).toNatClampNeg) (xs ((v4 + (2 : Int32))).toNatClampNeg) g q o (fun x278 u278 => vp_in (v4 + (1 : Int32)) L ∧ vp_in (v4 + (2 : Int32)) L ∧ wp_M_may (xs ((v4 + (1 : Int32))).toNatClampNeg) (xs ((v4 + (2 : Int32))).toNatClampNeg) r (fun x296 u296 => wp_M_thrown  u296 (fun x302 u302 => (x302 = x278 → (¬ x278 = 0 → wp_law_L329 xs L (wp_law xs L n) u278.1 u278.2.1 u302 u278.2.2 v4) ∧ (x278 = 0 → vp_in (0 : Int32) 1 ∧ ((lg_cmp (u278.2.2 44 ((0 : Int32)).toNatClampNeg) (x296).toInt64) = 0 → wp_law_L329 xs L (wp_law xs L n) u278.1 u278.2.1 u302 u278.2.2 v4) ∧ (¬ (lg_cmp (u278.2.2 44 ((0 : Int32)).toNatClampNeg) (x296).toInt64) = 0 → False))) ∧ (¬ x302 = x278 → False))))) ∧ (((xs (v4).toNatClampNeg) &&& (15 : Int32)) = (3 : Int32) → vp_in (v4 + (1 : Int32)) L ∧ wp_L_gives 7 (xs ((v4 + (1 : Int32))).toNatClampNeg) g q o (fun x340 u340 => vp_in (v4 + (1 : Int32)) L ∧ wp_M_gives (xs ((v4 + (1 : Int32))).toNatClampNeg) r (fun x352 u352 => wp_M_thrown  u352 (fun x358 u358 => (x358 = x340 → (¬ x340 = 0 → wp_law_L385 xs L (wp_law xs L n) u340.1 u340.2.1 u358 u340.2.2 v4) ∧ (x340 = 0 → vp_in (0 : Int32) 1 ∧ ((lg_cmp (u340.2.2 44 ((0 : Int32)).toNatClampNeg) (x352).toInt64) = 0 → wp_law_L385 xs L (wp_law xs L n) u340.1 u340.2.1 u358 u340.2.2 v4) ∧ (¬ (lg_cmp (u340.2.2 44 ((0 : Int32)).toNatClampNeg) (x352).toInt64) = 0 → False))) ∧ (¬ x358 = x340 → False))))) ∧ (((xs (v4).toNatClampNeg) &&& (15 : Int32)) = (4 : Int32) → vp_in (v4 + (1 : Int32)) L ∧ wp_L_hopeless 7 (xs ((v4 + (1 : Int32))).toNatClampNeg) g q o (fun x396 u396 => vp_in (v4 + (1 : Int32)) L ∧ wp_M_hopeless (xs ((v4 + (1 : Int32))).toNatClampNeg) r (fun x408 u408 => wp_M_thrown  u408 (fun x414 u414 => (x414 = x396 → (¬ x396 = 0 → wp_law_L441 xs L (wp_law xs L n) u396.1 u396.2.1 u414 u396.2.2 v4) ∧ (x396 = 0 → vp_in (0 : Int32) 1 ∧ ((lg_cmp (u396.2.2 44 ((0 : Int32)).toNatClampNeg) (x408).toInt64) = 0 → wp_law_L441 xs L (wp_law xs L n) u396.1 u396.2.1 u414 u396.2.2 v4) ∧ (¬ (lg_cmp (u396.2.2 44 ((0 : Int32)).toNatClampNeg) (x408).toInt64) = 0 → False))) ∧ (¬ x414 = x396 → False))))) ∧ (((xs (v4).toNatClampNeg) &&& (15 : Int32)) = (5 : Int32) → vp_in (v4 + (1 : Int32)) L ∧ vp_in (v4 + (2 : Int32)) L ∧ wp_L_isHopeless 7 (xs ((v4 + (1 : Int32))).toNatClampNeg) (xs ((v4 + (2 : Int32))).toNatClampNeg) g q o (fun x458 u458 => vp_in (v4 + (1 : Int32)) L ∧ vp_in (v4 + (2 : Int32)) L ∧ wp_M_isHopeless (xs ((v4 + (1 : Int32))).toNatClampNeg) (xs ((v4 + (2 : Int32))).toNatClampNeg) r (fun x476 u476 => wp_M_thrown  u476 (fun x482 u482 => (x482 = x458 → (¬ x458 = 0 → wp_law_L516 xs L (wp_law xs L n) u458.1 u458.2.1 u482 u458.2.2 v4) ∧ (x458 = 0 → vp_in (0 : Int32) 1 ∧ (x476 = 0 → wp_law_L510 xs L (wp_law xs L n) u458.1 u458.2.1 u482 u458.2.2 v4 (0 : Int64) (u458.2.2 44 ((0 : Int32)).toNatClampNeg)) ∧ (¬ x476 = 0 → wp_law_L510 xs L (wp_law xs L n) u458.1 u458.2.1 u482 u458.2.2 v4 (1 : Int64) (u458.2.2 44 ((0 : Int32)).toNatClampNeg)))) ∧ (¬ x482 = x458 → False))))) ∧ (((xs (v4).toNatClampNeg) &&& (15 : Int32)) = (6 : Int32) → vp_in (v4 + (1 : Int32)) L ∧ vp_in (v4 + (2 : Int32)) L ∧ vp_in (v4 + (3 : Int32)) L ∧ wp_L_run 40 (xs ((v4 + (1 : Int32))).toNatClampNeg) (xs ((v4 + (2 : Int32))).toNatClampNeg) (xs ((v4 + (3 : Int32))).toNatClampNeg) g q o (fun x539 u539 => vp_in (v4 + (1 : Int32)) L ∧ vp_in (v4 + (2 : Int32)) L ∧ vp_in (v4 + (3 : Int32)) L ∧ wp_M_run (xs ((v4 + (1 : Int32))).toNatClampNeg) (xs ((v4 + (2 : Int32))).toNatClampNeg) (xs ((v4 + (3 : Int32))).toNatClampNeg) r (fun x563 u563 => wp_M_thrown  u563 (fun x569 u569 => (x569 = x539 → (¬ x539 = 0 → wp_law_L596 xs L (wp_law xs L n) u539.1 u539.2.1 u569 u539.2.2 v4) ∧ (x539 = 0 → vp_in (0 : Int32) 1 ∧ ((lg_cmp (u539.2.2 44 ((0 : Int32)).toNatClampNeg) (x563).toInt64) = 0 → wp_law_L596 xs L (wp_law xs L n) u539.1 u539.2.1 u569 u539.2.2 v4) ∧ (¬ (lg_cmp (u539.2.2 44 ((0 : Int32)).toNatClampNeg) (x563).toInt64) = 0 → False))) ∧ (¬ x569 = x539 → False))))) ∧ (((xs (v4).toNatClampNeg) &&& (15 : Int32)) = (7 : Int32) → vp_in (v4 + (1 : Int32)) L ∧ wp_L_part (xs ((v4 + (1 : Int32))).toNatClampNeg) g q o (fun x607 u607 => vp_in (v4 + (1 : Int32)) L ∧ wp_M_part (xs ((v4 + (1 : Int32))).toNatClampNeg) r (fun x619 u619 => wp_M_thrown  u619 (fun x625 u625 => (x625 = x607 → (¬ x607 = 0 → wp_law_L652 xs L (wp_law xs L n) u607.1 u607.2.1 u625 u607.2.2 v4) ∧ (x607 = 0 → vp_in (0 : Int32) 1 ∧ ((lg_cmp (u607.2.2 44 ((0 : Int32)).toNatClampNeg) (x619).toInt64) = 0 → wp_law_L652 xs L (wp_law xs L n) u607.1 u607.2.1 u625 u607.2.2 v4) ∧ (¬ (lg_cmp (u607.2.2 44 ((0 : Int32)).toNatClampNeg) (x619).toInt64) = 0 → False))) ∧ (¬ x625 = x607 → False))))) ∧ (((xs (v4).toNatClampNeg) &&& (15 : Int32)) = (8 : Int32) → wp_S_calls  g q (fun x656 u656 => wp_M_calls  r (fun x660 u660 => (x656 = x660 → wp_law_L668 xs L (wp_law xs L n) u656.1 u656.2 u660 o v4) ∧ (¬ x656 = x660 → False)))) ∧ (¬ ((xs (v4).toNatClampNeg) &&& (15 : Int32)) = (0 : Int32) → ¬ ((xs (v4).toNatClampNeg) &&& (15 : Int32)) = (1 : Int32) → ¬ ((xs (v4).toNatClampNeg) &&& (15 : Int32)) = (2 : Int32) → ¬ ((xs (v4).toNatClampNeg) &&& (15 : Int32)) = (3 : Int32) → ¬ ((xs (v4).toNatClampNeg) &&& (15 : Int32)) = (4 : Int32) → ¬ ((xs (v4).toNatClampNeg) &&& (15 : Int32)) = (5 : Int32) → ¬ ((xs (v4).toNatClampNeg) &&& (15 : Int32)) = (6 : Int32) → ¬ ((xs (v4).toNatClampNeg) &&& (15 : Int32)) = (7 : Int32) → ¬ ((xs (v4).toNatClampNeg) &&& (15 : Int32)) = (8 : Int32) → wp_law_L668 xs L (wp_law xs L n) g q r o v4))
set_option maxHeartbeats 8000000 in
set_option maxRecDepth 100000 in
theorem ct_law {p : Program} {e : Env} {s : State} {m : MethodId} {below : List Frame} {meth : Method} {c : Code} (l : Launch) (hlT : l.stackTraces = false) {b L : Nat} {xs : Nat → Int32} {D : va_G} {cI cL cZ : ClassId} (ad : Nat → Nat) (X : sw_X p m c code 7 s #[Value.ref b] wl_A rn_L D cl_A (wd_T cI cL cZ)) (hA : ∀ q, s.heap.size ≤ q → s.heap.size ≤ q) (hNs : ∀ z ∈ nw_A, va_Nw z s) (hE : en_P (fun q => s.heap.size ≤ q) s s.heap) (hX : en_X (fun q => s.heap.size ≤ q) s s.heap) (hC : en_C s) (hSx : va_X b L xs s s.heap) (hbl : b < s.heap.size) (hbA : ¬ s.heap.size ≤ b) (hr : meth.sig.returnType = ret) (hlk : meth.locks = false) : ∀ (n cc ss : Nat), cc + 4 * n ≤ 601024 → ss + 24 * n ≤ 7293034 → ∀ (g : st_I) (q : st_L) (r : st_I) (o : st_L) (v4 : Int32), wp_law xs L n g q r o v4 → sw_J p l e room_1 s m #[Value.ref b] below meth c cc ss (lw_Z below #[Value.ref b] s) D cl_A (fun q => s.heap.size ≤ q) 7 (wd_W cI cL cZ ad g q r o) 23 [(0, .ref b), (1, .ref (ad 0)), (2, .ref (ad 20)), (3, .ref (ad 44)), (4, .int v4)] [] := by
  have b668 : ∀ (c1 s1 : Nat) (H : st_I → st_L → st_I → st_L → Int32 → Prop) (hH : ∀ (g : st_I) (q : st_L) (r : st_I) (o : st_L) (v4 : Int32), H g q r o v4 → sw_J p l e room_1 s m #[Value.ref b] below meth c c1 s1 (lw_Z below #[Value.ref b] s) D cl_A (fun q => s.heap.size ≤ q) 7 (wd_W cI cL cZ ad g q r o) 23 [(0, .ref b), (1, .ref (ad 0)), (2, .ref (ad 20)), (3, .ref (ad 44)), (4, .int v4)] []) (g : st_I) (q : st_L) (r : st_I) (o : st_L) (v4 : Int32), wp_law_L668 xs L H g q r o v4 → sw_J p l e room_1 s m #[Value.ref b] below meth c c1 s1 (lw_Z below #[Value.ref b] s) D cl_A (fun q => s.heap.size ≤ q) 7 (wd_W cI cL cZ ad g q r o) 668 [(0, .ref b), (1, .ref (ad 0)), (2, .ref (ad 20)), (3, .ref (ad 44)), (4, .int v4)] [] := by
    intro c1 s1 H hH g q r o v4 h
    refine sw_iinc (n := 6) (v := (v4 + 6)) X 4 rfl rfl [(4, .int (v4 + 6)), (0, .ref b), (1, .ref (ad 0)), (2, .ref (ad 20)), (3, .ref (ad 44))] rfl (by decide) dc_L_law_668 ?_
    refine sw_goto (tgt := 23) X dc_L_law_671 (by decide) ?_
    refine sw_sub [1, 2, 3, 4, 0] rfl ?_
    exact hH g q r o (v4 + 6) h
  have b193 : ∀ (c1 s1 : Nat) (H : st_I → st_L → st_I → st_L → Int32 → Prop) (hH : ∀ (g : st_I) (q : st_L) (r : st_I) (o : st_L) (v4 : Int32), H g q r o v4 → sw_J p l e room_1 s m #[Value.ref b] below meth c c1 s1 (lw_Z below #[Value.ref b] s) D cl_A (fun q => s.heap.size ≤ q) 7 (wd_W cI cL cZ ad g q r o) 23 [(0, .ref b), (1, .ref (ad 0)), (2, .ref (ad 20)), (3, .ref (ad 44)), (4, .int v4)] []) (g : st_I) (q : st_L) (r : st_I) (o : st_L) (v4 : Int32), wp_law_L193 xs L H g q r o v4 → sw_J p l e room_1 s m #[Value.ref b] below meth c c1 s1 (lw_Z below #[Value.ref b] s) D cl_A (fun q => s.heap.size ≤ q) 7 (wd_W cI cL cZ ad g q r o) 193 [(0, .ref b), (1, .ref (ad 0)), (2, .ref (ad 20)), (3, .ref (ad 44)), (4, .int v4)] [] := by
    intro c1 s1 H hH g q r o v4 h
    refine sw_goto (tgt := 668) X dc_L_law_193 (by decide) ?_
    exact b668 c1 s1 H hH g q r o v4 h
  have b261 : ∀ (c1 s1 : Nat) (H : st_I → st_L → st_I → st_L → Int32 → Prop) (hH : ∀ (g : st_I) (q : st_L) (r : st_I) (o : st_L) (v4 : Int32), H g q r o v4 → sw_J p l e room_1 s m #[Value.ref b] below meth c c1 s1 (lw_Z below #[Value.ref b] s) D cl_A (fun q => s.heap.size ≤ q) 7 (wd_W cI cL cZ ad g q r o) 23 [(0, .ref b), (1, .ref (ad 0)), (2, .ref (ad 20)), (3, .ref (ad 44)), (4, .int v4)] []) (g : st_I) (q : st_L) (r : st_I) (o : st_L) (v4 : Int32), wp_law_L261 xs L H g q r o v4 → sw_J p l e room_1 s m #[Value.ref b] below meth c c1 s1 (lw_Z below #[Value.ref b] s) D cl_A (fun q => s.heap.size ≤ q) 7 (wd_W cI cL cZ ad g q r o) 261 [(0, .ref b), (1, .ref (ad 0)), (2, .ref (ad 20)), (3, .ref (ad 44)), (4, .int v4)] [] := by
    intro c1 s1 H hH g q r o v4 h
    refine sw_goto (tgt := 668) X dc_L_law_261 (by decide) ?_
    exact b668 c1 s1 H hH g q r o v4 h
  have b329 : ∀ (c1 s1 : Nat) (H : st_I → st_L → st_I → st_L → Int32 → Prop) (hH : ∀ (g : st_I) (q : st_L) (r : st_I) (o : st_L) (v4 : Int32), H g q r o v4 → sw_J p l e room_1 s m #[Value.ref b] below meth c c1 s1 (lw_Z below #[Value.ref b] s) D cl_A (fun q => s.heap.size ≤ q) 7 (wd_W cI cL cZ ad g q r o) 23 [(0, .ref b), (1, .ref (ad 0)), (2, .ref (ad 20)), (3, .ref (ad 44)), (4, .int v4)] []) (g : st_I) (q : st_L) (r : st_I) (o : st_L) (v4 : Int32), wp_law_L329 xs L H g q r o v4 → sw_J p l e room_1 s m #[Value.ref b] below meth c c1 s1 (lw_Z below #[Value.ref b] s) D cl_A (fun q => s.heap.size ≤ q) 7 (wd_W cI cL cZ ad g q r o) 329 [(0, .ref b), (1, .ref (ad 0)), (2, .ref (ad 20)), (3, .ref (ad 44)), (4, .int v4)] [] := by
    intro c1 s1 H hH g q r o v4 h
    refine sw_goto (tgt := 668) X dc_L_law_329 (by decide) ?_
    exact b668 c1 s1 H hH g q r o v4 h
  have b385 : ∀ (c1 s1 : Nat) (H : st_I → st_L → st_I → st_L → Int32 → Prop) (hH : ∀ (g : st_I) (q : st_L) (r : st_I) (o : st_L) (v4 : Int32), H g q r o v4 → sw_J p l e room_1 s m #[Value.ref b] below meth c c1 s1 (lw_Z below #[Value.ref b] s) D cl_A (fun q => s.heap.size ≤ q) 7 (wd_W cI cL cZ ad g q r o) 23 [(0, .ref b), (1, .ref (ad 0)), (2, .ref (ad 20)), (3, .ref (ad 44)), (4, .int v4)] []) (g : st_I) (q : st_L) (r : st_I) (o : st_L) (v4 : Int32), wp_law_L385 xs L H g q r o v4 → sw_J p l e room_1 s m #[Value.ref b] below meth c c1 s1 (lw_Z below #[Value.ref b] s) D cl_A (fun q => s.heap.size ≤ q) 7 (wd_W cI cL cZ ad g q r o) 385 [(0, .ref b), (1, .ref (ad 0)), (2, .ref (ad 20)), (3, .ref (ad 44)), (4, .int v4)] [] := by
    intro c1 s1 H hH g q r o v4 h
    refine sw_goto (tgt := 668) X dc_L_law_385 (by decide) ?_
    exact b668 c1 s1 H hH g q r o v4 h
  have b441 : ∀ (c1 s1 : Nat) (H : st_I → st_L → st_I → st_L → Int32 → Prop) (hH : ∀ (g : st_I) (q : st_L) (r : st_I) (o : st_L) (v4 : Int32), H g q r o v4 → sw_J p l e room_1 s m #[Value.ref b] below meth c c1 s1 (lw_Z below #[Value.ref b] s) D cl_A (fun q => s.heap.size ≤ q) 7 (wd_W cI cL cZ ad g q r o) 23 [(0, .ref b), (1, .ref (ad 0)), (2, .ref (ad 20)), (3, .ref (ad 44)), (4, .int v4)] []) (g : st_I) (q : st_L) (r : st_I) (o : st_L) (v4 : Int32), wp_law_L441 xs L H g q r o v4 → sw_J p l e room_1 s m #[Value.ref b] below meth c c1 s1 (lw_Z below #[Value.ref b] s) D cl_A (fun q => s.heap.size ≤ q) 7 (wd_W cI cL cZ ad g q r o) 441 [(0, .ref b), (1, .ref (ad 0)), (2, .ref (ad 20)), (3, .ref (ad 44)), (4, .int v4)] [] := by
    intro c1 s1 H hH g q r o v4 h
    refine sw_goto (tgt := 668) X dc_L_law_441 (by decide) ?_
    exact b668 c1 s1 H hH g q r o v4 h
  have b516 : ∀ (c1 s1 : Nat) (H : st_I → st_L → st_I → st_L → Int32 → Prop) (hH : ∀ (g : st_I) (q : st_L) (r : st_I) (o : st_L) (v4 : Int32), H g q r o v4 → sw_J p l e room_1 s m #[Value.ref b] below meth c c1 s1 (lw_Z below #[Value.ref b] s) D cl_A (fun q => s.heap.size ≤ q) 7 (wd_W cI cL cZ ad g q r o) 23 [(0, .ref b), (1, .ref (ad 0)), (2, .ref (ad 20)), (3, .ref (ad 44)), (4, .int v4)] []) (g : st_I) (q : st_L) (r : st_I) (o : st_L) (v4 : Int32), wp_law_L516 xs L H g q r o v4 → sw_J p l e room_1 s m #[Value.ref b] below meth c c1 s1 (lw_Z below #[Value.ref b] s) D cl_A (fun q => s.heap.size ≤ q) 7 (wd_W cI cL cZ ad g q r o) 516 [(0, .ref b), (1, .ref (ad 0)), (2, .ref (ad 20)), (3, .ref (ad 44)), (4, .int v4)] [] := by
    intro c1 s1 H hH g q r o v4 h
    refine sw_goto (tgt := 668) X dc_L_law_516 (by decide) ?_
    exact b668 c1 s1 H hH g q r o v4 h
  have b510 : ∀ (c1 s1 : Nat) (H : st_I → st_L → st_I → st_L → Int32 → Prop) (hH : ∀ (g : st_I) (q : st_L) (r : st_I) (o : st_L) (v4 : Int32), H g q r o v4 → sw_J p l e room_1 s m #[Value.ref b] below meth c c1 s1 (lw_Z below #[Value.ref b] s) D cl_A (fun q => s.heap.size ≤ q) 7 (wd_W cI cL cZ ad g q r o) 23 [(0, .ref b), (1, .ref (ad 0)), (2, .ref (ad 20)), (3, .ref (ad 44)), (4, .int v4)] []) (g : st_I) (q : st_L) (r : st_I) (o : st_L) (v4 : Int32) (t0 : Int64) (t1 : Int64), wp_law_L510 xs L H g q r o v4 t0 t1 → sw_J p l e room_1 s m #[Value.ref b] below meth c c1 s1 (lw_Z below #[Value.ref b] s) D cl_A (fun q => s.heap.size ≤ q) 7 (wd_W cI cL cZ ad g q r o) 510 [(0, .ref b), (1, .ref (ad 0)), (2, .ref (ad 20)), (3, .ref (ad 44)), (4, .int v4)] [.long t0, .long t1] := by
    intro c1 s1 H hH g q r o v4 t0 t1 h
    refine sw_lcmp X dc_L_law_510 ?_
    refine sw_if_eq (tgt := 516) X dc_L_law_511 (by decide) (fun z => ?_) (fun z => ?_)
    · have h := h.1 z
      exact b516 c1 s1 H hH g q r o v4 h
    · have h := h.2 z
      refine sw_iconst (v := 0) X dc_L_law_514 (by decide) ?_
      exact h.elim
  have b596 : ∀ (c1 s1 : Nat) (H : st_I → st_L → st_I → st_L → Int32 → Prop) (hH : ∀ (g : st_I) (q : st_L) (r : st_I) (o : st_L) (v4 : Int32), H g q r o v4 → sw_J p l e room_1 s m #[Value.ref b] below meth c c1 s1 (lw_Z below #[Value.ref b] s) D cl_A (fun q => s.heap.size ≤ q) 7 (wd_W cI cL cZ ad g q r o) 23 [(0, .ref b), (1, .ref (ad 0)), (2, .ref (ad 20)), (3, .ref (ad 44)), (4, .int v4)] []) (g : st_I) (q : st_L) (r : st_I) (o : st_L) (v4 : Int32), wp_law_L596 xs L H g q r o v4 → sw_J p l e room_1 s m #[Value.ref b] below meth c c1 s1 (lw_Z below #[Value.ref b] s) D cl_A (fun q => s.heap.size ≤ q) 7 (wd_W cI cL cZ ad g q r o) 596 [(0, .ref b), (1, .ref (ad 0)), (2, .ref (ad 20)), (3, .ref (ad 44)), (4, .int v4)] [] := by
    intro c1 s1 H hH g q r o v4 h
    refine sw_goto (tgt := 668) X dc_L_law_596 (by decide) ?_
    exact b668 c1 s1 H hH g q r o v4 h
  have b652 : ∀ (c1 s1 : Nat) (H : st_I → st_L → st_I → st_L → Int32 → Prop) (hH : ∀ (g : st_I) (q : st_L) (r : st_I) (o : st_L) (v4 : Int32), H g q r o v4 → sw_J p l e room_1 s m #[Value.ref b] below meth c c1 s1 (lw_Z below #[Value.ref b] s) D cl_A (fun q => s.heap.size ≤ q) 7 (wd_W cI cL cZ ad g q r o) 23 [(0, .ref b), (1, .ref (ad 0)), (2, .ref (ad 20)), (3, .ref (ad 44)), (4, .int v4)] []) (g : st_I) (q : st_L) (r : st_I) (o : st_L) (v4 : Int32), wp_law_L652 xs L H g q r o v4 → sw_J p l e room_1 s m #[Value.ref b] below meth c c1 s1 (lw_Z below #[Value.ref b] s) D cl_A (fun q => s.heap.size ≤ q) 7 (wd_W cI cL cZ ad g q r o) 652 [(0, .ref b), (1, .ref (ad 0)), (2, .ref (ad 20)), (3, .ref (ad 44)), (4, .int v4)] [] := by
    intro c1 s1 H hH g q r o v4 h
    refine sw_goto (tgt := 668) X dc_L_law_652 (by decide) ?_
    exact b668 c1 s1 H hH g q r o v4 h
  intro n
  induction n with
  | zero => intro cc ss _ _ g q r o v4 h; exact h.elim
  | succ n ih =>
      intro cc ss hcc hss g q r o v4 h
      refine sw_iload X 4 rfl dc_L_law_23 ?_
      refine sw_aload_n X 0 rfl rfl dc_L_law_25 ?_
      refine sw_slen X hSx hbl hbA dc_L_law_26 ?_
      refine sw_bipush (v := 6) X dc_L_law_27 (by decide) ?_
      refine sw_isub X dc_L_law_29 ?_
      refine sw_icmp_gt (tgt := 674) X dc_L_law_30 (by decide) (fun z => ?_) (fun z => ?_)
      · have h := h.1 z
        refine sw_iconst (v := 1) X dc_L_law_674 (by decide) ?_
        exact sw_end X.1.1 X.1.2.1 hr hlk (by omega) (by omega) dc_L_law_675
      · have h := h.2 z
        refine sw_aload_n X 0 rfl rfl dc_L_law_33 ?_
        refine sw_iload X 4 rfl dc_L_law_34 ?_
        refine sw_sld X hSx hbl hbA h.1 dc_L_law_36 ?_
        have h := h.2
        refine sw_bipush (v := 15) X dc_L_law_37 (by decide) ?_
        refine sw_iand X dc_L_law_39 ?_
        by_cases z0 : ((xs (v4).toNatClampNeg) &&& (15 : Int32)) = (0 : Int32)
        · have h := h.1 z0
          refine sw_tableIn (tgt := 92) (off := 52) X dc_L_law_40 (by rw [z0]; decide) (by rw [z0]; decide) (by rw [z0]; rfl) (by decide) ?_
          refine sw_aload_n X 1 rfl rfl dc_L_law_92 ?_
          refine sw_aload_n X 0 rfl rfl dc_L_law_93 ?_
          refine sw_iload X 4 rfl dc_L_law_94 ?_
          refine sw_iconst (v := 1) X dc_L_law_96 (by decide) ?_
          refine sw_iadd X dc_L_law_97 ?_
          refine sw_sld X hSx hbl hbA h.1 dc_L_law_98 ?_
          have h := h.2
          refine sw_aload_n X 0 rfl rfl dc_L_law_99 ?_
          refine sw_iload X 4 rfl dc_L_law_100 ?_
          refine sw_iconst (v := 2) X dc_L_law_102 (by decide) ?_
          refine sw_iadd X dc_L_law_103 ?_
          refine sw_sld X hSx hbl hbA h.1 dc_L_law_104 ?_
          have h := h.2
          refine sw_aload_n X 0 rfl rfl dc_L_law_105 ?_
          refine sw_iload X 4 rfl dc_L_law_106 ?_
          refine sw_iconst (v := 3) X dc_L_law_108 (by decide) ?_
          refine sw_iadd X dc_L_law_109 ?_
          refine sw_sld X hSx hbl hbA h.1 dc_L_law_110 ?_
          have h := h.2
          refine sw_aload_n X 0 rfl rfl dc_L_law_111 ?_
          refine sw_iload X 4 rfl dc_L_law_112 ?_
          refine sw_iconst (v := 4) X dc_L_law_114 (by decide) ?_
          refine sw_iadd X dc_L_law_115 ?_
          refine sw_sld X hSx hbl hbA h.1 dc_L_law_116 ?_
          have h := h.2
          refine sw_aload_n X 0 rfl rfl dc_L_law_117 ?_
          refine sw_iload X 4 rfl dc_L_law_118 ?_
          refine sw_iconst (v := 5) X dc_L_law_120 (by decide) ?_
          refine sw_iadd X dc_L_law_121 ?_
          refine sw_sld X hSx hbl hbA h.1 dc_L_law_122 ?_
          have h := h.2
          refine sw_aload_n X 3 rfl rfl dc_L_law_123 ?_
          refine sw_cSW_i (n := 7) X hA nw_okA hNs hE hX hC (fun u : st_I × st_L × st_L => wd_W cI cL cZ ad u.1 u.2.1 r u.2.2) [.ref (ad 0), .int (xs ((v4 + (1 : Int32))).toNatClampNeg), .int (xs ((v4 + (2 : Int32))).toNatClampNeg), .int (xs ((v4 + (3 : Int32))).toNatClampNeg), .int (xs ((v4 + (4 : Int32))).toNatClampNeg), .int (xs ((v4 + (5 : Int32))).toNatClampNeg), .ref (ad 44)] (ct_L_make l hlT D cI cL cZ ad r (xs ((v4 + (1 : Int32))).toNatClampNeg) (xs ((v4 + (2 : Int32))).toNatClampNeg) (xs ((v4 + (3 : Int32))).toNatClampNeg) (xs ((v4 + (4 : Int32))).toNatClampNeg) (xs ((v4 + (5 : Int32))).toNatClampNeg) g q o _ h) (List.mem_append_right _ wm_ml_L_50) (List.mem_append_right _ wm_st_L_make) rfl (wl_gW wm_cw_L_make) rfl rfl (List.mem_append_right _ wm_in_L) ⟨by decide, by decide, by decide +kernel⟩ ⟨by decide +kernel, by decide +kernel⟩ ⟨by show cc + 4 ≤ 601024; omega, by show ss + 24 ≤ 7293034; omega⟩ rfl (Nat.le_of_ble_eq_true rfl) dc_L_law_124 rfl (fun x124 u124 h => ?_)
          refine sw_istore X [(5, .int x124), (0, .ref b), (1, .ref (ad 0)), (2, .ref (ad 20)), (3, .ref (ad 44)), (4, .int v4)] rfl (by decide) dc_L_law_127 ?_
          refine sw_aload_n X 3 rfl rfl dc_L_law_129 ?_
          refine sw_aload_n X 1 rfl rfl dc_L_law_130 ?_
          refine sw_iload X 5 rfl dc_L_law_131 ?_
          refine sw_iconst (v := 1) X dc_L_law_133 (by decide) ?_
          refine sw_iadd X dc_L_law_134 ?_
          refine sw_sld X hSx hbl hbA h.1 dc_L_law_135 ?_
          have h := h.2
          refine sw_aload_n X 1 rfl rfl dc_L_law_136 ?_
          refine sw_iload X 5 rfl dc_L_law_137 ?_
          refine sw_iconst (v := 2) X dc_L_law_139 (by decide) ?_
          refine sw_iadd X dc_L_law_140 ?_
          refine sw_sld X hSx hbl hbA h.1 dc_L_law_141 ?_
          have h := h.2
          refine sw_aload_n X 1 rfl rfl dc_L_law_142 ?_
          refine sw_iload X 5 rfl dc_L_law_143 ?_
          refine sw_iconst (v := 3) X dc_L_law_145 (by decide) ?_
          refine sw_iadd X dc_L_law_146 ?_
          refine sw_sld X hSx hbl hbA h.1 dc_L_law_147 ?_
          have h := h.2
          refine sw_aload_n X 1 rfl rfl dc_L_law_148 ?_
          refine sw_iload X 5 rfl dc_L_law_149 ?_
          refine sw_iconst (v := 4) X dc_L_law_151 (by decide) ?_
          refine sw_iadd X dc_L_law_152 ?_
          refine sw_sld X hSx hbl hbA h.1 dc_L_law_153 ?_
          have h := h.2
          refine sw_aload_n X 1 rfl rfl dc_L_law_154 ?_
          refine sw_iload X 5 rfl dc_L_law_155 ?_
          refine sw_iconst (v := 5) X dc_L_law_157 (by decide) ?_
          refine sw_iadd X dc_L_law_158 ?_
          refine sw_sld X hSx hbl hbA h.1 dc_L_law_159 ?_
          have h := h.2
          refine sw_cV_i (n := 5) X hA nw_okA hNs hE (fun u : st_I => wd_W cI cL cZ ad u124.1 u124.2.1 u u124.2.2) [.int (xs ((v4 + (1 : Int32))).toNatClampNeg), .int (xs ((v4 + (2 : Int32))).toNatClampNeg), .int (xs ((v4 + (3 : Int32))).toNatClampNeg), .int (xs ((v4 + (4 : Int32))).toNatClampNeg), .int (xs ((v4 + (5 : Int32))).toNatClampNeg)] 20 (wd_20 cI cL cZ ad u124.1 u124.2.1 r u124.2.2) rfl rfl (ct_M_make l D cI cL cZ ad u124.1 u124.2.1 u124.2.2 (xs ((v4 + (1 : Int32))).toNatClampNeg) (xs ((v4 + (2 : Int32))).toNatClampNeg) (xs ((v4 + (3 : Int32))).toNatClampNeg) (xs ((v4 + (4 : Int32))).toNatClampNeg) (xs ((v4 + (5 : Int32))).toNatClampNeg) r _ h) (List.mem_append_right _ wm_ml_L_55) (List.mem_append_right _ wm_im_M_make) (List.mem_append_right _ wm_se_M_make) rfl (wl_g wm_code_M_make) rfl rfl (List.mem_append_right _ wm_in_M) ⟨by decide, by decide, by decide +kernel⟩ ⟨by decide +kernel, by decide +kernel⟩ ⟨by show cc + 4 + 0 ≤ 601024; omega, by show ss + 24 + 0 ≤ 7293034; omega⟩ rfl (Nat.le_of_ble_eq_true rfl) dc_L_law_160 rfl (fun x160 u160 h => ?_)
          refine sw_istore X [(6, .int x160), (5, .int x124), (0, .ref b), (1, .ref (ad 0)), (2, .ref (ad 20)), (3, .ref (ad 44)), (4, .int v4)] rfl (by decide) dc_L_law_163 ?_
          refine sw_aload_n X 4 rfl rfl dc_L_law_165 ?_
          refine sw_cV_i (n := 0) X hA nw_okA hNs hE (fun u : st_I => wd_W cI cL cZ ad u124.1 u124.2.1 u u124.2.2) [] 20 (wd_20 cI cL cZ ad u124.1 u124.2.1 u160 u124.2.2) rfl rfl (ct_M_thrown l D cI cL cZ ad u124.1 u124.2.1 u124.2.2 u160 _ h) (List.mem_append_right _ wm_ml_L_56) (List.mem_append_right _ wm_im_M_thrown) (List.mem_append_right _ wm_se_M_thrown) rfl (wl_g wm_code_M_thrown) rfl rfl (List.mem_append_right _ wm_in_M) ⟨by decide, by decide, by decide +kernel⟩ ⟨by decide +kernel, by decide +kernel⟩ ⟨by show cc + 4 + 0 ≤ 601024; omega, by show ss + 24 + 0 ≤ 7293034; omega⟩ rfl (Nat.le_of_ble_eq_true rfl) dc_L_law_166 rfl (fun x166 u166 h => ?_)
          refine sw_iload X 1 rfl dc_L_law_169 ?_
          refine sw_icmp_eq (tgt := 176) X dc_L_law_171 (by decide) (fun z => ?_) (fun z => ?_)
          · have h := h.1 z
            refine sw_iload X 1 rfl dc_L_law_176 ?_
            refine sw_if_ne (tgt := 193) X dc_L_law_178 (by decide) (fun z => ?_) (fun z => ?_)
            · have h := h.1 z
              refine sw_sub [2, 3, 4, 5, 6] rfl ?_
              exact b193 (cc + 4) (ss + 24) (wp_law xs L n) (fun g q r o v4 h => ih (cc + 4) (ss + 24) (by omega) (by omega) g q r o v4 h) u124.1 u124.2.1 u166 u124.2.2 v4 h
            · have h := h.2 z
              refine sw_aload_n X 5 rfl rfl dc_L_law_181 ?_
              refine sw_iconst (v := 0) X dc_L_law_182 (by decide) ?_
              refine sw_lald X 44 1 (wd_44 cI cL cZ ad u124.1 u124.2.1 u166 u124.2.2) rfl h.1 dc_L_law_183 ?_
              have h := h.2
              refine sw_iload X 0 rfl dc_L_law_184 ?_
              refine sw_i2l X dc_L_law_186 rfl ?_
              refine sw_lcmp X dc_L_law_187 ?_
              refine sw_if_eq (tgt := 193) X dc_L_law_188 (by decide) (fun z => ?_) (fun z => ?_)
              · have h := h.1 z
                refine sw_sub [2, 3, 4, 5, 6] rfl ?_
                exact b193 (cc + 4) (ss + 24) (wp_law xs L n) (fun g q r o v4 h => ih (cc + 4) (ss + 24) (by omega) (by omega) g q r o v4 h) u124.1 u124.2.1 u166 u124.2.2 v4 h
              · have h := h.2 z
                refine sw_iconst (v := 0) X dc_L_law_191 (by decide) ?_
                exact h.elim
          · have h := h.2 z
            refine sw_iconst (v := 0) X dc_L_law_174 (by decide) ?_
            exact h.elim
        by_cases z1 : ((xs (v4).toNatClampNeg) &&& (15 : Int32)) = (1 : Int32)
        · have h := h.2.1 z1
          refine sw_tableIn (tgt := 196) (off := 156) X dc_L_law_40 (by rw [z1]; decide) (by rw [z1]; decide) (by rw [z1]; rfl) (by decide) ?_
          refine sw_aload_n X 1 rfl rfl dc_L_law_196 ?_
          refine sw_aload_n X 0 rfl rfl dc_L_law_197 ?_
          refine sw_iload X 4 rfl dc_L_law_198 ?_
          refine sw_iconst (v := 1) X dc_L_law_200 (by decide) ?_
          refine sw_iadd X dc_L_law_201 ?_
          refine sw_sld X hSx hbl hbA h.1 dc_L_law_202 ?_
          have h := h.2
          refine sw_aload_n X 0 rfl rfl dc_L_law_203 ?_
          refine sw_iload X 4 rfl dc_L_law_204 ?_
          refine sw_iconst (v := 2) X dc_L_law_206 (by decide) ?_
          refine sw_iadd X dc_L_law_207 ?_
          refine sw_sld X hSx hbl hbA h.1 dc_L_law_208 ?_
          have h := h.2
          refine sw_aload_n X 3 rfl rfl dc_L_law_209 ?_
          refine sw_cSW_i (n := 4) X hA nw_okA hNs hE hX hC (fun u : st_I × st_L × st_L => wd_W cI cL cZ ad u.1 u.2.1 r u.2.2) [.ref (ad 0), .int (xs ((v4 + (1 : Int32))).toNatClampNeg), .int (xs ((v4 + (2 : Int32))).toNatClampNeg), .ref (ad 44)] (ct_L_define l hlT D cI cL cZ ad r (xs ((v4 + (1 : Int32))).toNatClampNeg) (xs ((v4 + (2 : Int32))).toNatClampNeg) g q o _ h) (List.mem_append_right _ wm_ml_L_60) (List.mem_append_right _ wm_st_L_define) rfl (wl_gW wm_cw_L_define) rfl rfl (List.mem_append_right _ wm_in_L) ⟨by decide, by decide, by decide +kernel⟩ ⟨by decide +kernel, by decide +kernel⟩ ⟨by show cc + 4 ≤ 601024; omega, by show ss + 24 ≤ 7293034; omega⟩ rfl (Nat.le_of_ble_eq_true rfl) dc_L_law_210 rfl (fun x210 u210 h => ?_)
          refine sw_istore X [(5, .int x210), (0, .ref b), (1, .ref (ad 0)), (2, .ref (ad 20)), (3, .ref (ad 44)), (4, .int v4)] rfl (by decide) dc_L_law_213 ?_
          refine sw_aload_n X 3 rfl rfl dc_L_law_215 ?_
          refine sw_aload_n X 1 rfl rfl dc_L_law_216 ?_
          refine sw_iload X 5 rfl dc_L_law_217 ?_
          refine sw_iconst (v := 1) X dc_L_law_219 (by decide) ?_
          refine sw_iadd X dc_L_law_220 ?_
          refine sw_sld X hSx hbl hbA h.1 dc_L_law_221 ?_
          have h := h.2
          refine sw_aload_n X 1 rfl rfl dc_L_law_222 ?_
          refine sw_iload X 5 rfl dc_L_law_223 ?_
          refine sw_iconst (v := 2) X dc_L_law_225 (by decide) ?_
          refine sw_iadd X dc_L_law_226 ?_
          refine sw_sld X hSx hbl hbA h.1 dc_L_law_227 ?_
          have h := h.2
          refine sw_cV_i (n := 2) X hA nw_okA hNs hE (fun u : st_I => wd_W cI cL cZ ad u210.1 u210.2.1 u u210.2.2) [.int (xs ((v4 + (1 : Int32))).toNatClampNeg), .int (xs ((v4 + (2 : Int32))).toNatClampNeg)] 20 (wd_20 cI cL cZ ad u210.1 u210.2.1 r u210.2.2) rfl rfl (ct_M_define l D cI cL cZ ad u210.1 u210.2.1 u210.2.2 (xs ((v4 + (1 : Int32))).toNatClampNeg) (xs ((v4 + (2 : Int32))).toNatClampNeg) r _ h) (List.mem_append_right _ wm_ml_L_63) (List.mem_append_right _ wm_im_M_define) (List.mem_append_right _ wm_se_M_define) rfl (wl_g wm_code_M_define) rfl rfl (List.mem_append_right _ wm_in_M) ⟨by decide, by decide, by decide +kernel⟩ ⟨by decide +kernel, by decide +kernel⟩ ⟨by show cc + 4 + 0 ≤ 601024; omega, by show ss + 24 + 0 ≤ 7293034; omega⟩ rfl (Nat.le_of_ble_eq_true rfl) dc_L_law_228 rfl (fun x228 u228 h => ?_)
          refine sw_istore X [(6, .int x228), (5, .int x210), (0, .ref b), (1, .ref (ad 0)), (2, .ref (ad 20)), (3, .ref (ad 44)), (4, .int v4)] rfl (by decide) dc_L_law_231 ?_
          refine sw_aload_n X 4 rfl rfl dc_L_law_233 ?_
          refine sw_cV_i (n := 0) X hA nw_okA hNs hE (fun u : st_I => wd_W cI cL cZ ad u210.1 u210.2.1 u u210.2.2) [] 20 (wd_20 cI cL cZ ad u210.1 u210.2.1 u228 u210.2.2) rfl rfl (ct_M_thrown l D cI cL cZ ad u210.1 u210.2.1 u210.2.2 u228 _ h) (List.mem_append_right _ wm_ml_L_56) (List.mem_append_right _ wm_im_M_thrown) (List.mem_append_right _ wm_se_M_thrown) rfl (wl_g wm_code_M_thrown) rfl rfl (List.mem_append_right _ wm_in_M) ⟨by decide, by decide, by decide +kernel⟩ ⟨by decide +kernel, by decide +kernel⟩ ⟨by show cc + 4 + 0 ≤ 601024; omega, by show ss + 24 + 0 ≤ 7293034; omega⟩ rfl (Nat.le_of_ble_eq_true rfl) dc_L_law_234 rfl (fun x234 u234 h => ?_)
          refine sw_iload X 1 rfl dc_L_law_237 ?_
          refine sw_icmp_eq (tgt := 244) X dc_L_law_239 (by decide) (fun z => ?_) (fun z => ?_)
          · have h := h.1 z
            refine sw_iload X 1 rfl dc_L_law_244 ?_
            refine sw_if_ne (tgt := 261) X dc_L_law_246 (by decide) (fun z => ?_) (fun z => ?_)
            · have h := h.1 z
              refine sw_sub [2, 3, 4, 5, 6] rfl ?_
              exact b261 (cc + 4) (ss + 24) (wp_law xs L n) (fun g q r o v4 h => ih (cc + 4) (ss + 24) (by omega) (by omega) g q r o v4 h) u210.1 u210.2.1 u234 u210.2.2 v4 h
            · have h := h.2 z
              refine sw_aload_n X 5 rfl rfl dc_L_law_249 ?_
              refine sw_iconst (v := 0) X dc_L_law_250 (by decide) ?_
              refine sw_lald X 44 1 (wd_44 cI cL cZ ad u210.1 u210.2.1 u234 u210.2.2) rfl h.1 dc_L_law_251 ?_
              have h := h.2
              refine sw_iload X 0 rfl dc_L_law_252 ?_
              refine sw_i2l X dc_L_law_254 rfl ?_
              refine sw_lcmp X dc_L_law_255 ?_
              refine sw_if_eq (tgt := 261) X dc_L_law_256 (by decide) (fun z => ?_) (fun z => ?_)
              · have h := h.1 z
                refine sw_sub [2, 3, 4, 5, 6] rfl ?_
                exact b261 (cc + 4) (ss + 24) (wp_law xs L n) (fun g q r o v4 h => ih (cc + 4) (ss + 24) (by omega) (by omega) g q r o v4 h) u210.1 u210.2.1 u234 u210.2.2 v4 h
              · have h := h.2 z
                refine sw_iconst (v := 0) X dc_L_law_259 (by decide) ?_
                exact h.elim
          · have h := h.2 z
            refine sw_iconst (v := 0) X dc_L_law_242 (by decide) ?_
            exact h.elim
        by_cases z2 : ((xs (v4).toNatClampNeg) &&& (15 : Int32)) = (2 : Int32)
        · have h := h.2.2.1 z2
          refine sw_tableIn (tgt := 264) (off := 224) X dc_L_law_40 (by rw [z2]; decide) (by rw [z2]; decide) (by rw [z2]; rfl) (by decide) ?_
          refine sw_aload_n X 1 rfl rfl dc_L_law_264 ?_
          refine sw_aload_n X 0 rfl rfl dc_L_law_265 ?_
          refine sw_iload X 4 rfl dc_L_law_266 ?_
          refine sw_iconst (v := 1) X dc_L_law_268 (by decide) ?_
          refine sw_iadd X dc_L_law_269 ?_
          refine sw_sld X hSx hbl hbA h.1 dc_L_law_270 ?_
          have h := h.2
          refine sw_aload_n X 0 rfl rfl dc_L_law_271 ?_
          refine sw_iload X 4 rfl dc_L_law_272 ?_
          refine sw_iconst (v := 2) X dc_L_law_274 (by decide) ?_
          refine sw_iadd X dc_L_law_275 ?_
          refine sw_sld X hSx hbl hbA h.1 dc_L_law_276 ?_
          have h := h.2
          refine sw_aload_n X 3 rfl rfl dc_L_law_277 ?_
          refine sw_cSW_i (n := 4) X hA nw_okA hNs hE hX hC (fun u : st_I × st_L × st_L => wd_W cI cL cZ ad u.1 u.2.1 r u.2.2) [.ref (ad 0), .int (xs ((v4 + (1 : Int32))).toNatClampNeg), .int (xs ((v4 + (2 : Int32))).toNatClampNeg), .ref (ad 44)] (ct_L_may l hlT D cI cL cZ ad r 7 (xs ((v4 + (1 : Int32))).toNatClampNeg) (xs ((v4 + (2 : Int32))).toNatClampNeg) g q o _ h) (List.mem_append_right _ wm_ml_L_64) (List.mem_append_right _ wm_st_L_may) rfl (wl_gW wm_cw_L_may) rfl rfl (List.mem_append_right _ wm_in_L) ⟨by decide, by decide, by decide +kernel⟩ ⟨by decide +kernel, by decide +kernel⟩ ⟨by show cc + 4 ≤ 601024; omega, by show ss + 24 ≤ 7293034; omega⟩ rfl (Nat.le_of_ble_eq_true rfl) dc_L_law_278 rfl (fun x278 u278 h => ?_)
          refine sw_istore X [(5, .int x278), (0, .ref b), (1, .ref (ad 0)), (2, .ref (ad 20)), (3, .ref (ad 44)), (4, .int v4)] rfl (by decide) dc_L_law_281 ?_
          refine sw_aload_n X 3 rfl rfl dc_L_law_283 ?_
          refine sw_aload_n X 1 rfl rfl dc_L_law_284 ?_
          refine sw_iload X 5 rfl dc_L_law_285 ?_
          refine sw_iconst (v := 1) X dc_L_law_287 (by decide) ?_
          refine sw_iadd X dc_L_law_288 ?_
          refine sw_sld X hSx hbl hbA h.1 dc_L_law_289 ?_
          have h := h.2
          refine sw_aload_n X 1 rfl rfl dc_L_law_290 ?_
          refine sw_iload X 5 rfl dc_L_law_291 ?_
          refine sw_iconst (v := 2) X dc_L_law_293 (by decide) ?_
          refine sw_iadd X dc_L_law_294 ?_
          refine sw_sld X hSx hbl hbA h.1 dc_L_law_295 ?_
          have h := h.2
          refine sw_cV_i (n := 2) X hA nw_okA hNs hE (fun u : st_I => wd_W cI cL cZ ad u278.1 u278.2.1 u u278.2.2) [.int (xs ((v4 + (1 : Int32))).toNatClampNeg), .int (xs ((v4 + (2 : Int32))).toNatClampNeg)] 20 (wd_20 cI cL cZ ad u278.1 u278.2.1 r u278.2.2) rfl rfl (ct_M_may l D cI cL cZ ad u278.1 u278.2.1 u278.2.2 (xs ((v4 + (1 : Int32))).toNatClampNeg) (xs ((v4 + (2 : Int32))).toNatClampNeg) r _ h) (List.mem_append_right _ wm_ml_L_66) (List.mem_append_right _ wm_im_M_may) (List.mem_append_right _ wm_se_M_may) rfl (wl_g wm_code_M_may) rfl rfl (List.mem_append_right _ wm_in_M) ⟨by decide, by decide, by decide +kernel⟩ ⟨by decide +kernel, by decide +kernel⟩ ⟨by show cc + 4 + 0 ≤ 601024; omega, by show ss + 24 + 0 ≤ 7293034; omega⟩ rfl (Nat.le_of_ble_eq_true rfl) dc_L_law_296 rfl (fun x296 u296 h => ?_)
          refine sw_istore X [(6, .int x296), (5, .int x278), (0, .ref b), (1, .ref (ad 0)), (2, .ref (ad 20)), (3, .ref (ad 44)), (4, .int v4)] rfl (by decide) dc_L_law_299 ?_
          refine sw_aload_n X 4 rfl rfl dc_L_law_301 ?_
          refine sw_cV_i (n := 0) X hA nw_okA hNs hE (fun u : st_I => wd_W cI cL cZ ad u278.1 u278.2.1 u u278.2.2) [] 20 (wd_20 cI cL cZ ad u278.1 u278.2.1 u296 u278.2.2) rfl rfl (ct_M_thrown l D cI cL cZ ad u278.1 u278.2.1 u278.2.2 u296 _ h) (List.mem_append_right _ wm_ml_L_56) (List.mem_append_right _ wm_im_M_thrown) (List.mem_append_right _ wm_se_M_thrown) rfl (wl_g wm_code_M_thrown) rfl rfl (List.mem_append_right _ wm_in_M) ⟨by decide, by decide, by decide +kernel⟩ ⟨by decide +kernel, by decide +kernel⟩ ⟨by show cc + 4 + 0 ≤ 601024; omega, by show ss + 24 + 0 ≤ 7293034; omega⟩ rfl (Nat.le_of_ble_eq_true rfl) dc_L_law_302 rfl (fun x302 u302 h => ?_)
          refine sw_iload X 1 rfl dc_L_law_305 ?_
          refine sw_icmp_eq (tgt := 312) X dc_L_law_307 (by decide) (fun z => ?_) (fun z => ?_)
          · have h := h.1 z
            refine sw_iload X 1 rfl dc_L_law_312 ?_
            refine sw_if_ne (tgt := 329) X dc_L_law_314 (by decide) (fun z => ?_) (fun z => ?_)
            · have h := h.1 z
              refine sw_sub [2, 3, 4, 5, 6] rfl ?_
              exact b329 (cc + 4) (ss + 24) (wp_law xs L n) (fun g q r o v4 h => ih (cc + 4) (ss + 24) (by omega) (by omega) g q r o v4 h) u278.1 u278.2.1 u302 u278.2.2 v4 h
            · have h := h.2 z
              refine sw_aload_n X 5 rfl rfl dc_L_law_317 ?_
              refine sw_iconst (v := 0) X dc_L_law_318 (by decide) ?_
              refine sw_lald X 44 1 (wd_44 cI cL cZ ad u278.1 u278.2.1 u302 u278.2.2) rfl h.1 dc_L_law_319 ?_
              have h := h.2
              refine sw_iload X 0 rfl dc_L_law_320 ?_
              refine sw_i2l X dc_L_law_322 rfl ?_
              refine sw_lcmp X dc_L_law_323 ?_
              refine sw_if_eq (tgt := 329) X dc_L_law_324 (by decide) (fun z => ?_) (fun z => ?_)
              · have h := h.1 z
                refine sw_sub [2, 3, 4, 5, 6] rfl ?_
                exact b329 (cc + 4) (ss + 24) (wp_law xs L n) (fun g q r o v4 h => ih (cc + 4) (ss + 24) (by omega) (by omega) g q r o v4 h) u278.1 u278.2.1 u302 u278.2.2 v4 h
              · have h := h.2 z
                refine sw_iconst (v := 0) X dc_L_law_327 (by decide) ?_
                exact h.elim
          · have h := h.2 z
            refine sw_iconst (v := 0) X dc_L_law_310 (by decide) ?_
            exact h.elim
        by_cases z3 : ((xs (v4).toNatClampNeg) &&& (15 : Int32)) = (3 : Int32)
        · have h := h.2.2.2.1 z3
          refine sw_tableIn (tgt := 332) (off := 292) X dc_L_law_40 (by rw [z3]; decide) (by rw [z3]; decide) (by rw [z3]; rfl) (by decide) ?_
          refine sw_aload_n X 1 rfl rfl dc_L_law_332 ?_
          refine sw_aload_n X 0 rfl rfl dc_L_law_333 ?_
          refine sw_iload X 4 rfl dc_L_law_334 ?_
          refine sw_iconst (v := 1) X dc_L_law_336 (by decide) ?_
          refine sw_iadd X dc_L_law_337 ?_
          refine sw_sld X hSx hbl hbA h.1 dc_L_law_338 ?_
          have h := h.2
          refine sw_aload_n X 3 rfl rfl dc_L_law_339 ?_
          refine sw_cSW_i (n := 3) X hA nw_okA hNs hE hX hC (fun u : st_I × st_L × st_L => wd_W cI cL cZ ad u.1 u.2.1 r u.2.2) [.ref (ad 0), .int (xs ((v4 + (1 : Int32))).toNatClampNeg), .ref (ad 44)] (ct_L_gives l hlT D cI cL cZ ad r 7 (xs ((v4 + (1 : Int32))).toNatClampNeg) g q o _ h) (List.mem_append_right _ wm_ml_L_67) (List.mem_append_right _ wm_st_L_gives) rfl (wl_gW wm_cw_L_gives) rfl rfl (List.mem_append_right _ wm_in_L) ⟨by decide, by decide, by decide +kernel⟩ ⟨by decide +kernel, by decide +kernel⟩ ⟨by show cc + 4 ≤ 601024; omega, by show ss + 24 ≤ 7293034; omega⟩ rfl (Nat.le_of_ble_eq_true rfl) dc_L_law_340 rfl (fun x340 u340 h => ?_)
          refine sw_istore X [(5, .int x340), (0, .ref b), (1, .ref (ad 0)), (2, .ref (ad 20)), (3, .ref (ad 44)), (4, .int v4)] rfl (by decide) dc_L_law_343 ?_
          refine sw_aload_n X 3 rfl rfl dc_L_law_345 ?_
          refine sw_aload_n X 1 rfl rfl dc_L_law_346 ?_
          refine sw_iload X 5 rfl dc_L_law_347 ?_
          refine sw_iconst (v := 1) X dc_L_law_349 (by decide) ?_
          refine sw_iadd X dc_L_law_350 ?_
          refine sw_sld X hSx hbl hbA h.1 dc_L_law_351 ?_
          have h := h.2
          refine sw_cV_i (n := 1) X hA nw_okA hNs hE (fun u : st_I => wd_W cI cL cZ ad u340.1 u340.2.1 u u340.2.2) [.int (xs ((v4 + (1 : Int32))).toNatClampNeg)] 20 (wd_20 cI cL cZ ad u340.1 u340.2.1 r u340.2.2) rfl rfl (ct_M_gives l D cI cL cZ ad u340.1 u340.2.1 u340.2.2 (xs ((v4 + (1 : Int32))).toNatClampNeg) r _ h) (List.mem_append_right _ wm_ml_L_70) (List.mem_append_right _ wm_im_M_gives) (List.mem_append_right _ wm_se_M_gives) rfl (wl_g wm_code_M_gives) rfl rfl (List.mem_append_right _ wm_in_M) ⟨by decide, by decide, by decide +kernel⟩ ⟨by decide +kernel, by decide +kernel⟩ ⟨by show cc + 4 + 0 ≤ 601024; omega, by show ss + 24 + 0 ≤ 7293034; omega⟩ rfl (Nat.le_of_ble_eq_true rfl) dc_L_law_352 rfl (fun x352 u352 h => ?_)
          refine sw_istore X [(6, .int x352), (5, .int x340), (0, .ref b), (1, .ref (ad 0)), (2, .ref (ad 20)), (3, .ref (ad 44)), (4, .int v4)] rfl (by decide) dc_L_law_355 ?_
          refine sw_aload_n X 4 rfl rfl dc_L_law_357 ?_
          refine sw_cV_i (n := 0) X hA nw_okA hNs hE (fun u : st_I => wd_W cI cL cZ ad u340.1 u340.2.1 u u340.2.2) [] 20 (wd_20 cI cL cZ ad u340.1 u340.2.1 u352 u340.2.2) rfl rfl (ct_M_thrown l D cI cL cZ ad u340.1 u340.2.1 u340.2.2 u352 _ h) (List.mem_append_right _ wm_ml_L_56) (List.mem_append_right _ wm_im_M_thrown) (List.mem_append_right _ wm_se_M_thrown) rfl (wl_g wm_code_M_thrown) rfl rfl (List.mem_append_right _ wm_in_M) ⟨by decide, by decide, by decide +kernel⟩ ⟨by decide +kernel, by decide +kernel⟩ ⟨by show cc + 4 + 0 ≤ 601024; omega, by show ss + 24 + 0 ≤ 7293034; omega⟩ rfl (Nat.le_of_ble_eq_true rfl) dc_L_law_358 rfl (fun x358 u358 h => ?_)
          refine sw_iload X 1 rfl dc_L_law_361 ?_
          refine sw_icmp_eq (tgt := 368) X dc_L_law_363 (by decide) (fun z => ?_) (fun z => ?_)
          · have h := h.1 z
            refine sw_iload X 1 rfl dc_L_law_368 ?_
            refine sw_if_ne (tgt := 385) X dc_L_law_370 (by decide) (fun z => ?_) (fun z => ?_)
            · have h := h.1 z
              refine sw_sub [2, 3, 4, 5, 6] rfl ?_
              exact b385 (cc + 4) (ss + 24) (wp_law xs L n) (fun g q r o v4 h => ih (cc + 4) (ss + 24) (by omega) (by omega) g q r o v4 h) u340.1 u340.2.1 u358 u340.2.2 v4 h
            · have h := h.2 z
              refine sw_aload_n X 5 rfl rfl dc_L_law_373 ?_
              refine sw_iconst (v := 0) X dc_L_law_374 (by decide) ?_
              refine sw_lald X 44 1 (wd_44 cI cL cZ ad u340.1 u340.2.1 u358 u340.2.2) rfl h.1 dc_L_law_375 ?_
              have h := h.2
              refine sw_iload X 0 rfl dc_L_law_376 ?_
              refine sw_i2l X dc_L_law_378 rfl ?_
              refine sw_lcmp X dc_L_law_379 ?_
              refine sw_if_eq (tgt := 385) X dc_L_law_380 (by decide) (fun z => ?_) (fun z => ?_)
              · have h := h.1 z
                refine sw_sub [2, 3, 4, 5, 6] rfl ?_
                exact b385 (cc + 4) (ss + 24) (wp_law xs L n) (fun g q r o v4 h => ih (cc + 4) (ss + 24) (by omega) (by omega) g q r o v4 h) u340.1 u340.2.1 u358 u340.2.2 v4 h
              · have h := h.2 z
                refine sw_iconst (v := 0) X dc_L_law_383 (by decide) ?_
                exact h.elim
          · have h := h.2 z
            refine sw_iconst (v := 0) X dc_L_law_366 (by decide) ?_
            exact h.elim
        by_cases z4 : ((xs (v4).toNatClampNeg) &&& (15 : Int32)) = (4 : Int32)
        · have h := h.2.2.2.2.1 z4
          refine sw_tableIn (tgt := 388) (off := 348) X dc_L_law_40 (by rw [z4]; decide) (by rw [z4]; decide) (by rw [z4]; rfl) (by decide) ?_
          refine sw_aload_n X 1 rfl rfl dc_L_law_388 ?_
          refine sw_aload_n X 0 rfl rfl dc_L_law_389 ?_
          refine sw_iload X 4 rfl dc_L_law_390 ?_
          refine sw_iconst (v := 1) X dc_L_law_392 (by decide) ?_
          refine sw_iadd X dc_L_law_393 ?_
          refine sw_sld X hSx hbl hbA h.1 dc_L_law_394 ?_
          have h := h.2
          refine sw_aload_n X 3 rfl rfl dc_L_law_395 ?_
          refine sw_cSW_i (n := 3) X hA nw_okA hNs hE hX hC (fun u : st_I × st_L × st_L => wd_W cI cL cZ ad u.1 u.2.1 r u.2.2) [.ref (ad 0), .int (xs ((v4 + (1 : Int32))).toNatClampNeg), .ref (ad 44)] (ct_L_hopeless l hlT D cI cL cZ ad r 7 (xs ((v4 + (1 : Int32))).toNatClampNeg) g q o _ h) (List.mem_append_right _ wm_ml_L_71) (List.mem_append_right _ wm_st_L_hopeless) rfl (wl_gW wm_cw_L_hopeless) rfl rfl (List.mem_append_right _ wm_in_L) ⟨by decide, by decide, by decide +kernel⟩ ⟨by decide +kernel, by decide +kernel⟩ ⟨by show cc + 4 ≤ 601024; omega, by show ss + 24 ≤ 7293034; omega⟩ rfl (Nat.le_of_ble_eq_true rfl) dc_L_law_396 rfl (fun x396 u396 h => ?_)
          refine sw_istore X [(5, .int x396), (0, .ref b), (1, .ref (ad 0)), (2, .ref (ad 20)), (3, .ref (ad 44)), (4, .int v4)] rfl (by decide) dc_L_law_399 ?_
          refine sw_aload_n X 3 rfl rfl dc_L_law_401 ?_
          refine sw_aload_n X 1 rfl rfl dc_L_law_402 ?_
          refine sw_iload X 5 rfl dc_L_law_403 ?_
          refine sw_iconst (v := 1) X dc_L_law_405 (by decide) ?_
          refine sw_iadd X dc_L_law_406 ?_
          refine sw_sld X hSx hbl hbA h.1 dc_L_law_407 ?_
          have h := h.2
          refine sw_cV_i (n := 1) X hA nw_okA hNs hE (fun u : st_I => wd_W cI cL cZ ad u396.1 u396.2.1 u u396.2.2) [.int (xs ((v4 + (1 : Int32))).toNatClampNeg)] 20 (wd_20 cI cL cZ ad u396.1 u396.2.1 r u396.2.2) rfl rfl (ct_M_hopeless l D cI cL cZ ad u396.1 u396.2.1 u396.2.2 (xs ((v4 + (1 : Int32))).toNatClampNeg) r _ h) (List.mem_append_right _ wm_ml_L_73) (List.mem_append_right _ wm_im_M_hopeless) (List.mem_append_right _ wm_se_M_hopeless) rfl (wl_g wm_code_M_hopeless) rfl rfl (List.mem_append_right _ wm_in_M) ⟨by decide, by decide, by decide +kernel⟩ ⟨by decide +kernel, by decide +kernel⟩ ⟨by show cc + 4 + 0 ≤ 601024; omega, by show ss + 24 + 0 ≤ 7293034; omega⟩ rfl (Nat.le_of_ble_eq_true rfl) dc_L_law_408 rfl (fun x408 u408 h => ?_)
          refine sw_istore X [(6, .int x408), (5, .int x396), (0, .ref b), (1, .ref (ad 0)), (2, .ref (ad 20)), (3, .ref (ad 44)), (4, .int v4)] rfl (by decide) dc_L_law_411 ?_
          refine sw_aload_n X 4 rfl rfl dc_L_law_413 ?_
          refine sw_cV_i (n := 0) X hA nw_okA hNs hE (fun u : st_I => wd_W cI cL cZ ad u396.1 u396.2.1 u u396.2.2) [] 20 (wd_20 cI cL cZ ad u396.1 u396.2.1 u408 u396.2.2) rfl rfl (ct_M_thrown l D cI cL cZ ad u396.1 u396.2.1 u396.2.2 u408 _ h) (List.mem_append_right _ wm_ml_L_56) (List.mem_append_right _ wm_im_M_thrown) (List.mem_append_right _ wm_se_M_thrown) rfl (wl_g wm_code_M_thrown) rfl rfl (List.mem_append_right _ wm_in_M) ⟨by decide, by decide, by decide +kernel⟩ ⟨by decide +kernel, by decide +kernel⟩ ⟨by show cc + 4 + 0 ≤ 601024; omega, by show ss + 24 + 0 ≤ 7293034; omega⟩ rfl (Nat.le_of_ble_eq_true rfl) dc_L_law_414 rfl (fun x414 u414 h => ?_)
          refine sw_iload X 1 rfl dc_L_law_417 ?_
          refine sw_icmp_eq (tgt := 424) X dc_L_law_419 (by decide) (fun z => ?_) (fun z => ?_)
          · have h := h.1 z
            refine sw_iload X 1 rfl dc_L_law_424 ?_
            refine sw_if_ne (tgt := 441) X dc_L_law_426 (by decide) (fun z => ?_) (fun z => ?_)
            · have h := h.1 z
              refine sw_sub [2, 3, 4, 5, 6] rfl ?_
              exact b441 (cc + 4) (ss + 24) (wp_law xs L n) (fun g q r o v4 h => ih (cc + 4) (ss + 24) (by omega) (by omega) g q r o v4 h) u396.1 u396.2.1 u414 u396.2.2 v4 h
            · have h := h.2 z
              refine sw_aload_n X 5 rfl rfl dc_L_law_429 ?_
              refine sw_iconst (v := 0) X dc_L_law_430 (by decide) ?_
              refine sw_lald X 44 1 (wd_44 cI cL cZ ad u396.1 u396.2.1 u414 u396.2.2) rfl h.1 dc_L_law_431 ?_
              have h := h.2
              refine sw_iload X 0 rfl dc_L_law_432 ?_
              refine sw_i2l X dc_L_law_434 rfl ?_
              refine sw_lcmp X dc_L_law_435 ?_
              refine sw_if_eq (tgt := 441) X dc_L_law_436 (by decide) (fun z => ?_) (fun z => ?_)
              · have h := h.1 z
                refine sw_sub [2, 3, 4, 5, 6] rfl ?_
                exact b441 (cc + 4) (ss + 24) (wp_law xs L n) (fun g q r o v4 h => ih (cc + 4) (ss + 24) (by omega) (by omega) g q r o v4 h) u396.1 u396.2.1 u414 u396.2.2 v4 h
              · have h := h.2 z
                refine sw_iconst (v := 0) X dc_L_law_439 (by decide) ?_
                exact h.elim
          · have h := h.2 z
            refine sw_iconst (v := 0) X dc_L_law_422 (by decide) ?_
            exact h.elim
        by_cases z5 : ((xs (v4).toNatClampNeg) &&& (15 : Int32)) = (5 : Int32)
        · have h := h.2.2.2.2.2.1 z5
          refine sw_tableIn (tgt := 444) (off := 404) X dc_L_law_40 (by rw [z5]; decide) (by rw [z5]; decide) (by rw [z5]; rfl) (by decide) ?_
          refine sw_aload_n X 1 rfl rfl dc_L_law_444 ?_
          refine sw_aload_n X 0 rfl rfl dc_L_law_445 ?_
          refine sw_iload X 4 rfl dc_L_law_446 ?_
          refine sw_iconst (v := 1) X dc_L_law_448 (by decide) ?_
          refine sw_iadd X dc_L_law_449 ?_
          refine sw_sld X hSx hbl hbA h.1 dc_L_law_450 ?_
          have h := h.2
          refine sw_aload_n X 0 rfl rfl dc_L_law_451 ?_
          refine sw_iload X 4 rfl dc_L_law_452 ?_
          refine sw_iconst (v := 2) X dc_L_law_454 (by decide) ?_
          refine sw_iadd X dc_L_law_455 ?_
          refine sw_sld X hSx hbl hbA h.1 dc_L_law_456 ?_
          have h := h.2
          refine sw_aload_n X 3 rfl rfl dc_L_law_457 ?_
          refine sw_cSW_i (n := 4) X hA nw_okA hNs hE hX hC (fun u : st_I × st_L × st_L => wd_W cI cL cZ ad u.1 u.2.1 r u.2.2) [.ref (ad 0), .int (xs ((v4 + (1 : Int32))).toNatClampNeg), .int (xs ((v4 + (2 : Int32))).toNatClampNeg), .ref (ad 44)] (ct_L_isHopeless l hlT D cI cL cZ ad r 7 (xs ((v4 + (1 : Int32))).toNatClampNeg) (xs ((v4 + (2 : Int32))).toNatClampNeg) g q o _ h) (List.mem_append_right _ wm_ml_L_74) (List.mem_append_right _ wm_st_L_isHopeless) rfl (wl_gW wm_cw_L_isHopeless) rfl rfl (List.mem_append_right _ wm_in_L) ⟨by decide, by decide, by decide +kernel⟩ ⟨by decide +kernel, by decide +kernel⟩ ⟨by show cc + 4 ≤ 601024; omega, by show ss + 24 ≤ 7293034; omega⟩ rfl (Nat.le_of_ble_eq_true rfl) dc_L_law_458 rfl (fun x458 u458 h => ?_)
          refine sw_istore X [(5, .int x458), (0, .ref b), (1, .ref (ad 0)), (2, .ref (ad 20)), (3, .ref (ad 44)), (4, .int v4)] rfl (by decide) dc_L_law_461 ?_
          refine sw_aload_n X 3 rfl rfl dc_L_law_463 ?_
          refine sw_aload_n X 1 rfl rfl dc_L_law_464 ?_
          refine sw_iload X 5 rfl dc_L_law_465 ?_
          refine sw_iconst (v := 1) X dc_L_law_467 (by decide) ?_
          refine sw_iadd X dc_L_law_468 ?_
          refine sw_sld X hSx hbl hbA h.1 dc_L_law_469 ?_
          have h := h.2
          refine sw_aload_n X 1 rfl rfl dc_L_law_470 ?_
          refine sw_iload X 5 rfl dc_L_law_471 ?_
          refine sw_iconst (v := 2) X dc_L_law_473 (by decide) ?_
          refine sw_iadd X dc_L_law_474 ?_
          refine sw_sld X hSx hbl hbA h.1 dc_L_law_475 ?_
          have h := h.2
          refine sw_cV_i (n := 2) X hA nw_okA hNs hE (fun u : st_I => wd_W cI cL cZ ad u458.1 u458.2.1 u u458.2.2) [.int (xs ((v4 + (1 : Int32))).toNatClampNeg), .int (xs ((v4 + (2 : Int32))).toNatClampNeg)] 20 (wd_20 cI cL cZ ad u458.1 u458.2.1 r u458.2.2) rfl rfl (ct_M_isHopeless l D cI cL cZ ad u458.1 u458.2.1 u458.2.2 (xs ((v4 + (1 : Int32))).toNatClampNeg) (xs ((v4 + (2 : Int32))).toNatClampNeg) r _ h) (List.mem_append_right _ wm_ml_L_76) (List.mem_append_right _ wm_im_M_isHopeless) (List.mem_append_right _ wm_se_M_isHopeless) rfl (wl_g wm_code_M_isHopeless) rfl rfl (List.mem_append_right _ wm_in_M) ⟨by decide, by decide, by decide +kernel⟩ ⟨by decide +kernel, by decide +kernel⟩ ⟨by show cc + 4 + 0 ≤ 601024; omega, by show ss + 24 + 0 ≤ 7293034; omega⟩ rfl (Nat.le_of_ble_eq_true rfl) dc_L_law_476 rfl (fun x476 u476 h => ?_)
          refine sw_istore X [(6, .int x476), (5, .int x458), (0, .ref b), (1, .ref (ad 0)), (2, .ref (ad 20)), (3, .ref (ad 44)), (4, .int v4)] rfl (by decide) dc_L_law_479 ?_
          refine sw_aload_n X 4 rfl rfl dc_L_law_481 ?_
          refine sw_cV_i (n := 0) X hA nw_okA hNs hE (fun u : st_I => wd_W cI cL cZ ad u458.1 u458.2.1 u u458.2.2) [] 20 (wd_20 cI cL cZ ad u458.1 u458.2.1 u476 u458.2.2) rfl rfl (ct_M_thrown l D cI cL cZ ad u458.1 u458.2.1 u458.2.2 u476 _ h) (List.mem_append_right _ wm_ml_L_56) (List.mem_append_right _ wm_im_M_thrown) (List.mem_append_right _ wm_se_M_thrown) rfl (wl_g wm_code_M_thrown) rfl rfl (List.mem_append_right _ wm_in_M) ⟨by decide, by decide, by decide +kernel⟩ ⟨by decide +kernel, by decide +kernel⟩ ⟨by show cc + 4 + 0 ≤ 601024; omega, by show ss + 24 + 0 ≤ 7293034; omega⟩ rfl (Nat.le_of_ble_eq_true rfl) dc_L_law_482 rfl (fun x482 u482 h => ?_)
          refine sw_iload X 1 rfl dc_L_law_485 ?_
          refine sw_icmp_eq (tgt := 492) X dc_L_law_487 (by decide) (fun z => ?_) (fun z => ?_)
          · have h := h.1 z
            refine sw_iload X 1 rfl dc_L_law_492 ?_
            refine sw_if_ne (tgt := 516) X dc_L_law_494 (by decide) (fun z => ?_) (fun z => ?_)
            · have h := h.1 z
              refine sw_sub [2, 3, 4, 5, 6] rfl ?_
              exact b516 (cc + 4) (ss + 24) (wp_law xs L n) (fun g q r o v4 h => ih (cc + 4) (ss + 24) (by omega) (by omega) g q r o v4 h) u458.1 u458.2.1 u482 u458.2.2 v4 h
            · have h := h.2 z
              refine sw_aload_n X 5 rfl rfl dc_L_law_497 ?_
              refine sw_iconst (v := 0) X dc_L_law_498 (by decide) ?_
              refine sw_lald X 44 1 (wd_44 cI cL cZ ad u458.1 u458.2.1 u482 u458.2.2) rfl h.1 dc_L_law_499 ?_
              have h := h.2
              refine sw_iload X 0 rfl dc_L_law_500 ?_
              refine sw_if_eq (tgt := 509) X dc_L_law_502 (by decide) (fun z => ?_) (fun z => ?_)
              · have h := h.1 z
                refine sw_lconst (v := 0) X dc_L_law_509 (by decide) ?_
                refine sw_sub [2, 3, 4, 5, 6] rfl ?_
                exact b510 (cc + 4) (ss + 24) (wp_law xs L n) (fun g q r o v4 h => ih (cc + 4) (ss + 24) (by omega) (by omega) g q r o v4 h) u458.1 u458.2.1 u482 u458.2.2 v4 (0 : Int64) (u458.2.2 44 ((0 : Int32)).toNatClampNeg) h
              · have h := h.2 z
                refine sw_lconst (v := 1) X dc_L_law_505 (by decide) ?_
                refine sw_goto (tgt := 510) X dc_L_law_506 (by decide) ?_
                refine sw_sub [2, 3, 4, 5, 6] rfl ?_
                exact b510 (cc + 4) (ss + 24) (wp_law xs L n) (fun g q r o v4 h => ih (cc + 4) (ss + 24) (by omega) (by omega) g q r o v4 h) u458.1 u458.2.1 u482 u458.2.2 v4 (1 : Int64) (u458.2.2 44 ((0 : Int32)).toNatClampNeg) h
          · have h := h.2 z
            refine sw_iconst (v := 0) X dc_L_law_490 (by decide) ?_
            exact h.elim
        by_cases z6 : ((xs (v4).toNatClampNeg) &&& (15 : Int32)) = (6 : Int32)
        · have h := h.2.2.2.2.2.2.1 z6
          refine sw_tableIn (tgt := 519) (off := 479) X dc_L_law_40 (by rw [z6]; decide) (by rw [z6]; decide) (by rw [z6]; rfl) (by decide) ?_
          refine sw_aload_n X 1 rfl rfl dc_L_law_519 ?_
          refine sw_aload_n X 0 rfl rfl dc_L_law_520 ?_
          refine sw_iload X 4 rfl dc_L_law_521 ?_
          refine sw_iconst (v := 1) X dc_L_law_523 (by decide) ?_
          refine sw_iadd X dc_L_law_524 ?_
          refine sw_sld X hSx hbl hbA h.1 dc_L_law_525 ?_
          have h := h.2
          refine sw_aload_n X 0 rfl rfl dc_L_law_526 ?_
          refine sw_iload X 4 rfl dc_L_law_527 ?_
          refine sw_iconst (v := 2) X dc_L_law_529 (by decide) ?_
          refine sw_iadd X dc_L_law_530 ?_
          refine sw_sld X hSx hbl hbA h.1 dc_L_law_531 ?_
          have h := h.2
          refine sw_aload_n X 0 rfl rfl dc_L_law_532 ?_
          refine sw_iload X 4 rfl dc_L_law_533 ?_
          refine sw_iconst (v := 3) X dc_L_law_535 (by decide) ?_
          refine sw_iadd X dc_L_law_536 ?_
          refine sw_sld X hSx hbl hbA h.1 dc_L_law_537 ?_
          have h := h.2
          refine sw_aload_n X 3 rfl rfl dc_L_law_538 ?_
          refine sw_cSW_i (n := 5) X hA nw_okA hNs hE hX hC (fun u : st_I × st_L × st_L => wd_W cI cL cZ ad u.1 u.2.1 r u.2.2) [.ref (ad 0), .int (xs ((v4 + (1 : Int32))).toNatClampNeg), .int (xs ((v4 + (2 : Int32))).toNatClampNeg), .int (xs ((v4 + (3 : Int32))).toNatClampNeg), .ref (ad 44)] (ct_L_run l hlT D cI cL cZ ad r 40 (xs ((v4 + (1 : Int32))).toNatClampNeg) (xs ((v4 + (2 : Int32))).toNatClampNeg) (xs ((v4 + (3 : Int32))).toNatClampNeg) g q o _ h) (List.mem_append_right _ wm_ml_L_77) (List.mem_append_right _ wm_st_L_run) rfl (wl_gW wm_cw_L_run) rfl rfl (List.mem_append_right _ wm_in_L) ⟨by decide, by decide, by decide +kernel⟩ ⟨by decide +kernel, by decide +kernel⟩ ⟨by show cc + 4 ≤ 601024; omega, by show ss + 24 ≤ 7293034; omega⟩ rfl (Nat.le_of_ble_eq_true rfl) dc_L_law_539 rfl (fun x539 u539 h => ?_)
          refine sw_istore X [(5, .int x539), (0, .ref b), (1, .ref (ad 0)), (2, .ref (ad 20)), (3, .ref (ad 44)), (4, .int v4)] rfl (by decide) dc_L_law_542 ?_
          refine sw_aload_n X 3 rfl rfl dc_L_law_544 ?_
          refine sw_aload_n X 1 rfl rfl dc_L_law_545 ?_
          refine sw_iload X 5 rfl dc_L_law_546 ?_
          refine sw_iconst (v := 1) X dc_L_law_548 (by decide) ?_
          refine sw_iadd X dc_L_law_549 ?_
          refine sw_sld X hSx hbl hbA h.1 dc_L_law_550 ?_
          have h := h.2
          refine sw_aload_n X 1 rfl rfl dc_L_law_551 ?_
          refine sw_iload X 5 rfl dc_L_law_552 ?_
          refine sw_iconst (v := 2) X dc_L_law_554 (by decide) ?_
          refine sw_iadd X dc_L_law_555 ?_
          refine sw_sld X hSx hbl hbA h.1 dc_L_law_556 ?_
          have h := h.2
          refine sw_aload_n X 1 rfl rfl dc_L_law_557 ?_
          refine sw_iload X 5 rfl dc_L_law_558 ?_
          refine sw_iconst (v := 3) X dc_L_law_560 (by decide) ?_
          refine sw_iadd X dc_L_law_561 ?_
          refine sw_sld X hSx hbl hbA h.1 dc_L_law_562 ?_
          have h := h.2
          refine sw_cV_i (n := 3) X hA nw_okA hNs hE (fun u : st_I => wd_W cI cL cZ ad u539.1 u539.2.1 u u539.2.2) [.int (xs ((v4 + (1 : Int32))).toNatClampNeg), .int (xs ((v4 + (2 : Int32))).toNatClampNeg), .int (xs ((v4 + (3 : Int32))).toNatClampNeg)] 20 (wd_20 cI cL cZ ad u539.1 u539.2.1 r u539.2.2) rfl rfl (ct_M_run l D cI cL cZ ad u539.1 u539.2.1 u539.2.2 (xs ((v4 + (1 : Int32))).toNatClampNeg) (xs ((v4 + (2 : Int32))).toNatClampNeg) (xs ((v4 + (3 : Int32))).toNatClampNeg) r _ h) (List.mem_append_right _ wm_ml_L_80) (List.mem_append_right _ wm_im_M_run) (List.mem_append_right _ wm_se_M_run) rfl (wl_g wm_code_M_run) rfl rfl (List.mem_append_right _ wm_in_M) ⟨by decide, by decide, by decide +kernel⟩ ⟨by decide +kernel, by decide +kernel⟩ ⟨by show cc + 4 + 0 ≤ 601024; omega, by show ss + 24 + 0 ≤ 7293034; omega⟩ rfl (Nat.le_of_ble_eq_true rfl) dc_L_law_563 rfl (fun x563 u563 h => ?_)
          refine sw_istore X [(6, .int x563), (5, .int x539), (0, .ref b), (1, .ref (ad 0)), (2, .ref (ad 20)), (3, .ref (ad 44)), (4, .int v4)] rfl (by decide) dc_L_law_566 ?_
          refine sw_aload_n X 4 rfl rfl dc_L_law_568 ?_
          refine sw_cV_i (n := 0) X hA nw_okA hNs hE (fun u : st_I => wd_W cI cL cZ ad u539.1 u539.2.1 u u539.2.2) [] 20 (wd_20 cI cL cZ ad u539.1 u539.2.1 u563 u539.2.2) rfl rfl (ct_M_thrown l D cI cL cZ ad u539.1 u539.2.1 u539.2.2 u563 _ h) (List.mem_append_right _ wm_ml_L_56) (List.mem_append_right _ wm_im_M_thrown) (List.mem_append_right _ wm_se_M_thrown) rfl (wl_g wm_code_M_thrown) rfl rfl (List.mem_append_right _ wm_in_M) ⟨by decide, by decide, by decide +kernel⟩ ⟨by decide +kernel, by decide +kernel⟩ ⟨by show cc + 4 + 0 ≤ 601024; omega, by show ss + 24 + 0 ≤ 7293034; omega⟩ rfl (Nat.le_of_ble_eq_true rfl) dc_L_law_569 rfl (fun x569 u569 h => ?_)
          refine sw_iload X 1 rfl dc_L_law_572 ?_
          refine sw_icmp_eq (tgt := 579) X dc_L_law_574 (by decide) (fun z => ?_) (fun z => ?_)
          · have h := h.1 z
            refine sw_iload X 1 rfl dc_L_law_579 ?_
            refine sw_if_ne (tgt := 596) X dc_L_law_581 (by decide) (fun z => ?_) (fun z => ?_)
            · have h := h.1 z
              refine sw_sub [2, 3, 4, 5, 6] rfl ?_
              exact b596 (cc + 4) (ss + 24) (wp_law xs L n) (fun g q r o v4 h => ih (cc + 4) (ss + 24) (by omega) (by omega) g q r o v4 h) u539.1 u539.2.1 u569 u539.2.2 v4 h
            · have h := h.2 z
              refine sw_aload_n X 5 rfl rfl dc_L_law_584 ?_
              refine sw_iconst (v := 0) X dc_L_law_585 (by decide) ?_
              refine sw_lald X 44 1 (wd_44 cI cL cZ ad u539.1 u539.2.1 u569 u539.2.2) rfl h.1 dc_L_law_586 ?_
              have h := h.2
              refine sw_iload X 0 rfl dc_L_law_587 ?_
              refine sw_i2l X dc_L_law_589 rfl ?_
              refine sw_lcmp X dc_L_law_590 ?_
              refine sw_if_eq (tgt := 596) X dc_L_law_591 (by decide) (fun z => ?_) (fun z => ?_)
              · have h := h.1 z
                refine sw_sub [2, 3, 4, 5, 6] rfl ?_
                exact b596 (cc + 4) (ss + 24) (wp_law xs L n) (fun g q r o v4 h => ih (cc + 4) (ss + 24) (by omega) (by omega) g q r o v4 h) u539.1 u539.2.1 u569 u539.2.2 v4 h
              · have h := h.2 z
                refine sw_iconst (v := 0) X dc_L_law_594 (by decide) ?_
                exact h.elim
          · have h := h.2 z
            refine sw_iconst (v := 0) X dc_L_law_577 (by decide) ?_
            exact h.elim
        by_cases z7 : ((xs (v4).toNatClampNeg) &&& (15 : Int32)) = (7 : Int32)
        · have h := h.2.2.2.2.2.2.2.1 z7
          refine sw_tableIn (tgt := 599) (off := 559) X dc_L_law_40 (by rw [z7]; decide) (by rw [z7]; decide) (by rw [z7]; rfl) (by decide) ?_
          refine sw_aload_n X 1 rfl rfl dc_L_law_599 ?_
          refine sw_aload_n X 0 rfl rfl dc_L_law_600 ?_
          refine sw_iload X 4 rfl dc_L_law_601 ?_
          refine sw_iconst (v := 1) X dc_L_law_603 (by decide) ?_
          refine sw_iadd X dc_L_law_604 ?_
          refine sw_sld X hSx hbl hbA h.1 dc_L_law_605 ?_
          have h := h.2
          refine sw_aload_n X 3 rfl rfl dc_L_law_606 ?_
          refine sw_cSW_i (n := 3) X hA nw_okA hNs hE hX hC (fun u : st_I × st_L × st_L => wd_W cI cL cZ ad u.1 u.2.1 r u.2.2) [.ref (ad 0), .int (xs ((v4 + (1 : Int32))).toNatClampNeg), .ref (ad 44)] (ct_L_part l hlT D cI cL cZ ad r (xs ((v4 + (1 : Int32))).toNatClampNeg) g q o _ h) (List.mem_append_right _ wm_ml_L_81) (List.mem_append_right _ wm_st_L_part) rfl (wl_gW wm_cw_L_part) rfl rfl (List.mem_append_right _ wm_in_L) ⟨by decide, by decide, by decide +kernel⟩ ⟨by decide +kernel, by decide +kernel⟩ ⟨by show cc + 4 ≤ 601024; omega, by show ss + 24 ≤ 7293034; omega⟩ rfl (Nat.le_of_ble_eq_true rfl) dc_L_law_607 rfl (fun x607 u607 h => ?_)
          refine sw_istore X [(5, .int x607), (0, .ref b), (1, .ref (ad 0)), (2, .ref (ad 20)), (3, .ref (ad 44)), (4, .int v4)] rfl (by decide) dc_L_law_610 ?_
          refine sw_aload_n X 3 rfl rfl dc_L_law_612 ?_
          refine sw_aload_n X 1 rfl rfl dc_L_law_613 ?_
          refine sw_iload X 5 rfl dc_L_law_614 ?_
          refine sw_iconst (v := 1) X dc_L_law_616 (by decide) ?_
          refine sw_iadd X dc_L_law_617 ?_
          refine sw_sld X hSx hbl hbA h.1 dc_L_law_618 ?_
          have h := h.2
          refine sw_cV_i (n := 1) X hA nw_okA hNs hE (fun u : st_I => wd_W cI cL cZ ad u607.1 u607.2.1 u u607.2.2) [.int (xs ((v4 + (1 : Int32))).toNatClampNeg)] 20 (wd_20 cI cL cZ ad u607.1 u607.2.1 r u607.2.2) rfl rfl (ct_M_part l D cI cL cZ ad u607.1 u607.2.1 u607.2.2 (xs ((v4 + (1 : Int32))).toNatClampNeg) r _ h) (List.mem_append_right _ wm_ml_L_83) (List.mem_append_right _ wm_im_M_part) (List.mem_append_right _ wm_se_M_part) rfl (wl_g wm_code_M_part) rfl rfl (List.mem_append_right _ wm_in_M) ⟨by decide, by decide, by decide +kernel⟩ ⟨by decide +kernel, by decide +kernel⟩ ⟨by show cc + 4 + 0 ≤ 601024; omega, by show ss + 24 + 0 ≤ 7293034; omega⟩ rfl (Nat.le_of_ble_eq_true rfl) dc_L_law_619 rfl (fun x619 u619 h => ?_)
          refine sw_istore X [(6, .int x619), (5, .int x607), (0, .ref b), (1, .ref (ad 0)), (2, .ref (ad 20)), (3, .ref (ad 44)), (4, .int v4)] rfl (by decide) dc_L_law_622 ?_
          refine sw_aload_n X 4 rfl rfl dc_L_law_624 ?_
          refine sw_cV_i (n := 0) X hA nw_okA hNs hE (fun u : st_I => wd_W cI cL cZ ad u607.1 u607.2.1 u u607.2.2) [] 20 (wd_20 cI cL cZ ad u607.1 u607.2.1 u619 u607.2.2) rfl rfl (ct_M_thrown l D cI cL cZ ad u607.1 u607.2.1 u607.2.2 u619 _ h) (List.mem_append_right _ wm_ml_L_56) (List.mem_append_right _ wm_im_M_thrown) (List.mem_append_right _ wm_se_M_thrown) rfl (wl_g wm_code_M_thrown) rfl rfl (List.mem_append_right _ wm_in_M) ⟨by decide, by decide, by decide +kernel⟩ ⟨by decide +kernel, by decide +kernel⟩ ⟨by show cc + 4 + 0 ≤ 601024; omega, by show ss + 24 + 0 ≤ 7293034; omega⟩ rfl (Nat.le_of_ble_eq_true rfl) dc_L_law_625 rfl (fun x625 u625 h => ?_)
          refine sw_iload X 1 rfl dc_L_law_628 ?_
          refine sw_icmp_eq (tgt := 635) X dc_L_law_630 (by decide) (fun z => ?_) (fun z => ?_)
          · have h := h.1 z
            refine sw_iload X 1 rfl dc_L_law_635 ?_
            refine sw_if_ne (tgt := 652) X dc_L_law_637 (by decide) (fun z => ?_) (fun z => ?_)
            · have h := h.1 z
              refine sw_sub [2, 3, 4, 5, 6] rfl ?_
              exact b652 (cc + 4) (ss + 24) (wp_law xs L n) (fun g q r o v4 h => ih (cc + 4) (ss + 24) (by omega) (by omega) g q r o v4 h) u607.1 u607.2.1 u625 u607.2.2 v4 h
            · have h := h.2 z
              refine sw_aload_n X 5 rfl rfl dc_L_law_640 ?_
              refine sw_iconst (v := 0) X dc_L_law_641 (by decide) ?_
              refine sw_lald X 44 1 (wd_44 cI cL cZ ad u607.1 u607.2.1 u625 u607.2.2) rfl h.1 dc_L_law_642 ?_
              have h := h.2
              refine sw_iload X 0 rfl dc_L_law_643 ?_
              refine sw_i2l X dc_L_law_645 rfl ?_
              refine sw_lcmp X dc_L_law_646 ?_
              refine sw_if_eq (tgt := 652) X dc_L_law_647 (by decide) (fun z => ?_) (fun z => ?_)
              · have h := h.1 z
                refine sw_sub [2, 3, 4, 5, 6] rfl ?_
                exact b652 (cc + 4) (ss + 24) (wp_law xs L n) (fun g q r o v4 h => ih (cc + 4) (ss + 24) (by omega) (by omega) g q r o v4 h) u607.1 u607.2.1 u625 u607.2.2 v4 h
              · have h := h.2 z
                refine sw_iconst (v := 0) X dc_L_law_650 (by decide) ?_
                exact h.elim
          · have h := h.2 z
            refine sw_iconst (v := 0) X dc_L_law_633 (by decide) ?_
            exact h.elim
        by_cases z8 : ((xs (v4).toNatClampNeg) &&& (15 : Int32)) = (8 : Int32)
        · have h := h.2.2.2.2.2.2.2.2.1 z8
          refine sw_tableIn (tgt := 655) (off := 615) X dc_L_law_40 (by rw [z8]; decide) (by rw [z8]; decide) (by rw [z8]; rfl) (by decide) ?_
          refine sw_aload_n X 1 rfl rfl dc_L_law_655 ?_
          refine sw_cV_i (n := 0) X hA nw_okA hNs hE (fun u : st_S => wd_W cI cL cZ ad u.1 u.2 r o) [] 0 (wd_0 cI cL cZ ad g q r o) rfl rfl (ct_S_calls l D cI cL cZ ad r o g q _ h) (List.mem_append_right _ wm_ml_L_84) (List.mem_append_right _ wm_im_S_calls) (List.mem_append_right _ wm_se_S_calls) rfl (wl_g wm_code_S_calls) rfl rfl (List.mem_append_right _ wm_in_S) ⟨by decide, by decide, by decide +kernel⟩ ⟨by decide +kernel, by decide +kernel⟩ ⟨by show cc + 0 ≤ 601024; omega, by show ss + 0 ≤ 7293034; omega⟩ rfl (Nat.le_of_ble_eq_true rfl) dc_L_law_656 rfl (fun x656 u656 h => ?_)
          refine sw_aload_n X 2 rfl rfl dc_L_law_659 ?_
          refine sw_cV_i (n := 0) X hA nw_okA hNs hE (fun u : st_I => wd_W cI cL cZ ad u656.1 u656.2 u o) [] 20 (wd_20 cI cL cZ ad u656.1 u656.2 r o) rfl rfl (ct_M_calls l D cI cL cZ ad u656.1 u656.2 o r _ h) (List.mem_append_right _ wm_ml_L_87) (List.mem_append_right _ wm_im_M_calls) (List.mem_append_right _ wm_se_M_calls) rfl (wl_g wm_code_M_calls) rfl rfl (List.mem_append_right _ wm_in_M) ⟨by decide, by decide, by decide +kernel⟩ ⟨by decide +kernel, by decide +kernel⟩ ⟨by show cc + 0 ≤ 601024; omega, by show ss + 0 ≤ 7293034; omega⟩ rfl (Nat.le_of_ble_eq_true rfl) dc_L_law_660 rfl (fun x660 u660 h => ?_)
          refine sw_icmp_eq (tgt := 668) X dc_L_law_663 (by decide) (fun z => ?_) (fun z => ?_)
          · have h := h.1 z
            refine sw_widen (cc + 4) (ss + 24) (Nat.le_add_right _ _) (Nat.le_add_right _ _) ?_
            exact b668 (cc + 4) (ss + 24) (wp_law xs L n) (fun g q r o v4 h => ih (cc + 4) (ss + 24) (by omega) (by omega) g q r o v4 h) u656.1 u656.2 u660 o v4 h
          · have h := h.2 z
            refine sw_iconst (v := 0) X dc_L_law_666 (by decide) ?_
            exact h.elim
        have h := h.2.2.2.2.2.2.2.2.2 z0 z1 z2 z3 z4 z5 z6 z7 z8
        have z0 : (((xs (v4).toNatClampNeg) &&& (15 : Int32))).toInt ≠ 0 := fun e => z0 (Int32.toInt_inj.mp (e.trans (by decide)))
        have z1 : (((xs (v4).toNatClampNeg) &&& (15 : Int32))).toInt ≠ 1 := fun e => z1 (Int32.toInt_inj.mp (e.trans (by decide)))
        have z2 : (((xs (v4).toNatClampNeg) &&& (15 : Int32))).toInt ≠ 2 := fun e => z2 (Int32.toInt_inj.mp (e.trans (by decide)))
        have z3 : (((xs (v4).toNatClampNeg) &&& (15 : Int32))).toInt ≠ 3 := fun e => z3 (Int32.toInt_inj.mp (e.trans (by decide)))
        have z4 : (((xs (v4).toNatClampNeg) &&& (15 : Int32))).toInt ≠ 4 := fun e => z4 (Int32.toInt_inj.mp (e.trans (by decide)))
        have z5 : (((xs (v4).toNatClampNeg) &&& (15 : Int32))).toInt ≠ 5 := fun e => z5 (Int32.toInt_inj.mp (e.trans (by decide)))
        have z6 : (((xs (v4).toNatClampNeg) &&& (15 : Int32))).toInt ≠ 6 := fun e => z6 (Int32.toInt_inj.mp (e.trans (by decide)))
        have z7 : (((xs (v4).toNatClampNeg) &&& (15 : Int32))).toInt ≠ 7 := fun e => z7 (Int32.toInt_inj.mp (e.trans (by decide)))
        have z8 : (((xs (v4).toNatClampNeg) &&& (15 : Int32))).toInt ≠ 8 := fun e => z8 (Int32.toInt_inj.mp (e.trans (by decide)))
        refine sw_tableOut (tgt := 668) X dc_L_law_40 (by omega) (by decide) ?_
        refine sw_widen (cc + 4) (ss + 24) (Nat.le_add_right _ _) (Nat.le_add_right _ _) ?_
        exact b668 (cc + 4) (ss + 24) (wp_law xs L n) (fun g q r o v4 h => ih (cc + 4) (ss + 24) (by omega) (by omega) g q r o v4 h) g q r o v4 h
