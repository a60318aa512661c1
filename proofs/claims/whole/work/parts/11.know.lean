def wp_H_kindOfNumber_L16 (Q : (Int32 → st_S → Prop)) (g : st_I) (q : st_L) (t0 : Int32) : Prop := Q t0 (g, q)
def wp_H_kindOfNumber (a1 : Int32) (g : st_I) (q : st_L) (Q : (Int32 → st_S → Prop)) : Prop := (¬ a1 = 0 → (0 ≤ a1 → wp_H_kindOfNumber_L16 Q g q (6 : Int32)) ∧ (¬ 0 ≤ a1 → wp_H_kindOfNumber_L16 Q g q (4 : Int32))) ∧ (a1 = 0 → Q (5 : Int32) (g, q))
set_option maxHeartbeats 4000000 in
set_option maxRecDepth 100000 in
theorem ct_H_kindOfNumber (l : Launch) (D : va_G) (cI cL cZ : ClassId) (ad : Nat → Nat) (r : st_I) (o : st_L) (a1 : Int32) (g : st_I) (q : st_L) (Q : (Int32 → st_S → Prop)) (h : wp_H_kindOfNumber a1 g q Q) : ∀ sz, Met l yn_H_kindOfNumber (Cond.code yn_H_kindOfNumber cd_H_kindOfNumber 1 (some .int) :: wa_A) { frames := 0, cells := 0, slots := 0, locals := 0 } (va_Pc [.int a1] (wq_S D cl_A (wd_T cI cL cZ) nw_A (wd_W cI cL cZ ad g q r o) sz)) (va_Qi Q (fun u t => wq_E D cl_A (wd_T cI cL cZ) (va_A (wd_W cI cL cZ ad g q r o) sz) (wd_W cI cL cZ ad u.1 u.2 r o) t) (va_A (wd_W cI cL cZ ad g q r o) sz)) 0 0 (va_A (wd_W cI cL cZ ad g q r o) sz) := by
  refine sw_met (Qc := fun A => va_Qi Q (fun u t => wq_E D cl_A (wd_T cI cL cZ) A (wd_W cI cL cZ ad u.1 u.2 r o) t) A) (by decide) rfl (Nat.le_of_ble_eq_true rfl) rfl ?_
  intro p e s m args below meth c A X hA hNs hE hr hlk hnm
  have b16 : ∀ (g : st_I) (q : st_L) (t0 : Int32), wp_H_kindOfNumber_L16 Q g q t0 → sw_J p l e { frames := 0, cells := 0, slots := 0, locals := 0 } s m args below meth c 0 0 (MQ below (va_Qi Q (fun u t => wq_E D cl_A (wd_T cI cL cZ) A (wd_W cI cL cZ ad u.1 u.2 r o) t) A) args s 0 0 A) D cl_A A 1 (wd_W cI cL cZ ad g q r o) 16 [] [.int t0] := by
    intro g q t0 h
    exact sw_iret X hr hlk (u := (g, q)) rfl h dc_H_kindOfNumber_16
  refine sw_iload_n X 0 rfl rfl dc_H_kindOfNumber_0 ?_
  refine sw_if_ne (tgt := 6) X dc_H_kindOfNumber_1 (by decide) (fun z => ?_) (fun z => ?_)
  · have h := h.1 z
    refine sw_iload_n X 0 rfl rfl dc_H_kindOfNumber_6 ?_
    refine sw_if_ge (tgt := 14) X dc_H_kindOfNumber_7 (by decide) (fun z => ?_) (fun z => ?_)
    · have h := h.1 z
      refine sw_bipush (v := 6) X dc_H_kindOfNumber_14 (by decide) ?_
      refine sw_sub [] rfl ?_
      exact b16 g q (6 : Int32) h
    · have h := h.2 z
      refine sw_iconst (v := 4) X dc_H_kindOfNumber_10 (by decide) ?_
      refine sw_goto (tgt := 16) X dc_H_kindOfNumber_11 (by decide) ?_
      refine sw_sub [] rfl ?_
      exact b16 g q (4 : Int32) h
  · have h := h.2 z
    refine sw_iconst (v := 5) X dc_H_kindOfNumber_4 (by decide) ?_
    exact sw_iret X hr hlk (u := (g, q)) rfl h dc_H_kindOfNumber_5
def wp_J_fill_11_L5 (Q : (st_S → Prop)) : Nat → st_I → st_L → Int32 → Int32 → Int32 → Prop
  | 0 => fun _ _ _ _ _ => False
  | n5 + 1 => fun g q v1 v2 v3 => (v3 ≤ v2 → Q (g, q)) ∧ (¬ v3 ≤ v2 → vp_in v2 12 ∧ (wp_J_fill_11_L5 Q n5) (st_u g 11 (v2).toNatClampNeg v1) q v1 (v2 + 1) v3)
def wp_J_fill_11 (a1 : Int32) (g : st_I) (q : st_L) (Q : (st_S → Prop)) : Prop := ∃ n5, wp_J_fill_11_L5 Q n5 g q a1 (0 : Int32) (12 : Int32)
set_option maxHeartbeats 4000000 in
set_option maxRecDepth 100000 in
theorem ct_J_fill_11 (l : Launch) (D : va_G) (cI cL cZ : ClassId) (ad : Nat → Nat) (r : st_I) (o : st_L) (a1 : Int32) (g : st_I) (q : st_L) (Q : (st_S → Prop)) (h : wp_J_fill_11 a1 g q Q) : ∀ sz, Met l yn_J_fill (Cond.code yn_J_fill cd_J_fill 4 none :: wa_A) { frames := 0, cells := 0, slots := 0, locals := 0 } (va_Pc [.ref (ad 11), .int a1] (wq_S D cl_A (wd_T cI cL cZ) nw_A (wd_W cI cL cZ ad g q r o) sz)) (va_Qv Q (fun u t => wq_E D cl_A (wd_T cI cL cZ) (va_A (wd_W cI cL cZ ad g q r o) sz) (wd_W cI cL cZ ad u.1 u.2 r o) t) (va_A (wd_W cI cL cZ ad g q r o) sz)) 0 0 (va_A (wd_W cI cL cZ ad g q r o) sz) := by
  refine sw_met (Qc := fun A => va_Qv Q (fun u t => wq_E D cl_A (wd_T cI cL cZ) A (wd_W cI cL cZ ad u.1 u.2 r o) t) A) (by decide) rfl (Nat.le_of_ble_eq_true rfl) rfl ?_
  intro p e s m args below meth c A X hA hNs hE hr hlk hnm
  have b5 : ∀ (n : Nat) (g : st_I) (q : st_L) (v1 : Int32) (v2 : Int32) (v3 : Int32), wp_J_fill_11_L5 Q n g q v1 v2 v3 → sw_J p l e { frames := 0, cells := 0, slots := 0, locals := 0 } s m args below meth c 0 0 (MQ below (va_Qv Q (fun u t => wq_E D cl_A (wd_T cI cL cZ) A (wd_W cI cL cZ ad u.1 u.2 r o) t) A) args s 0 0 A) D cl_A A 4 (wd_W cI cL cZ ad g q r o) 5 [(0, .ref (ad 11)), (1, .int v1), (2, .int v2), (3, .int v3)] [] := by
    intro n5
    induction n5 with
    | zero => intro g q v1 v2 v3 h; exact h.elim
    | succ n5 hH5 =>
    intro g q v1 v2 v3 h
    refine sw_iload_n X 2 rfl rfl dc_J_fill_5 ?_
    refine sw_iload_n X 3 rfl rfl dc_J_fill_6 ?_
    refine sw_icmp_ge (tgt := 20) X dc_J_fill_7 (by decide) (fun z => ?_) (fun z => ?_)
    · have h := h.1 z
      exact sw_vret X hr hlk (u := (g, q)) rfl h dc_J_fill_20
    · have h := h.2 z
      refine sw_aload_n X 0 rfl rfl dc_J_fill_10 ?_
      refine sw_iload_n X 2 rfl rfl dc_J_fill_11 ?_
      refine sw_iload_n X 1 rfl rfl dc_J_fill_12 ?_
      refine sw_iast X 11 0 (wd_11 cI cL cZ ad g q r o) rfl h.1 (wd_W cI cL cZ ad (st_u g 11 (v2).toNatClampNeg v1) q r o) (ws_11 cI cL cZ ad g q r o (v2).toNatClampNeg v1) dc_J_fill_13 ?_
      have h := h.2
      refine sw_iinc (n := 1) (v := (v2 + 1)) X 2 rfl rfl [(2, .int (v2 + 1)), (0, .ref (ad 11)), (1, .int v1), (3, .int v3)] rfl (by decide) dc_J_fill_14 ?_
      refine sw_goto (tgt := 5) X dc_J_fill_17 (by decide) ?_
      refine sw_sub [1, 2, 0, 3] rfl ?_
      exact hH5 (st_u g 11 (v2).toNatClampNeg v1) q v1 (v2 + 1) v3 h
  refine sw_iconst (v := 0) X dc_J_fill_0 (by decide) ?_
  refine sw_istore_n X [(2, .int (0 : Int32)), (0, .ref (ad 11)), (1, .int a1)] rfl (by decide) rfl dc_J_fill_1 ?_
  refine sw_aload_n X 1 rfl rfl dc_J_fill_2 ?_
  refine sw_alen (v := 12) X 11 0 (wd_11 cI cL cZ ad g q r o) rfl rfl dc_J_fill_3 ?_
  refine sw_istore_n X [(3, .int (12 : Int32)), (2, .int (0 : Int32)), (0, .ref (ad 11)), (1, .int a1)] rfl (by decide) rfl dc_J_fill_4 ?_
  refine sw_sub [2, 3, 1, 0] rfl ?_
  obtain ⟨n5, h⟩ := h
  exact b5 n5 g q a1 (0 : Int32) (12 : Int32) h
def wp_J_fill_12_L5 (Q : (st_S → Prop)) : Nat → st_I → st_L → Int32 → Int32 → Int32 → Prop
  | 0 => fun _ _ _ _ _ => False
  | n5 + 1 => fun g q v1 v2 v3 => (v3 ≤ v2 → Q (g, q)) ∧ (¬ v3 ≤ v2 → vp_in v2 6 ∧ (wp_J_fill_12_L5 Q n5) (st_u g 12 (v2).toNatClampNeg v1) q v1 (v2 + 1) v3)
def wp_J_fill_12 (a1 : Int32) (g : st_I) (q : st_L) (Q : (st_S → Prop)) : Prop := ∃ n5, wp_J_fill_12_L5 Q n5 g q a1 (0 : Int32) (6 : Int32)
set_option maxHeartbeats 4000000 in
set_option maxRecDepth 100000 in
theorem ct_J_fill_12 (l : Launch) (D : va_G) (cI cL cZ : ClassId) (ad : Nat → Nat) (r : st_I) (o : st_L) (a1 : Int32) (g : st_I) (q : st_L) (Q : (st_S → Prop)) (h : wp_J_fill_12 a1 g q Q) : ∀ sz, Met l yn_J_fill (Cond.code yn_J_fill cd_J_fill 4 none :: wa_A) { frames := 0, cells := 0, slots := 0, locals := 0 } (va_Pc [.ref (ad 12), .int a1] (wq_S D cl_A (wd_T cI cL cZ) nw_A (wd_W cI cL cZ ad g q r o) sz)) (va_Qv Q (fun u t => wq_E D cl_A (wd_T cI cL cZ) (va_A (wd_W cI cL cZ ad g q r o) sz) (wd_W cI cL cZ ad u.1 u.2 r o) t) (va_A (wd_W cI cL cZ ad g q r o) sz)) 0 0 (va_A (wd_W cI cL cZ ad g q r o) sz) := by
  refine sw_met (Qc := fun A => va_Qv Q (fun u t => wq_E D cl_A (wd_T cI cL cZ) A (wd_W cI cL cZ ad u.1 u.2 r o) t) A) (by decide) rfl (Nat.le_of_ble_eq_true rfl) rfl ?_
  intro p e s m args below meth c A X hA hNs hE hr hlk hnm
  have b5 : ∀ (n : Nat) (g : st_I) (q : st_L) (v1 : Int32) (v2 : Int32) (v3 : Int32), wp_J_fill_12_L5 Q n g q v1 v2 v3 → sw_J p l e { frames := 0, cells := 0, slots := 0, locals := 0 } s m args below meth c 0 0 (MQ below (va_Qv Q (fun u t => wq_E D cl_A (wd_T cI cL cZ) A (wd_W cI cL cZ ad u.1 u.2 r o) t) A) args s 0 0 A) D cl_A A 4 (wd_W cI cL cZ ad g q r o) 5 [(0, .ref (ad 12)), (1, .int v1), (2, .int v2), (3, .int v3)] [] := by
    intro n5
    induction n5 with
    | zero => intro g q v1 v2 v3 h; exact h.elim
    | succ n5 hH5 =>
    intro g q v1 v2 v3 h
    refine sw_iload_n X 2 rfl rfl dc_J_fill_5 ?_
    refine sw_iload_n X 3 rfl rfl dc_J_fill_6 ?_
    refine sw_icmp_ge (tgt := 20) X dc_J_fill_7 (by decide) (fun z => ?_) (fun z => ?_)
    · have h := h.1 z
      exact sw_vret X hr hlk (u := (g, q)) rfl h dc_J_fill_20
    · have h := h.2 z
      refine sw_aload_n X 0 rfl rfl dc_J_fill_10 ?_
      refine sw_iload_n X 2 rfl rfl dc_J_fill_11 ?_
      refine sw_iload_n X 1 rfl rfl dc_J_fill_12 ?_
      refine sw_iast X 12 0 (wd_12 cI cL cZ ad g q r o) rfl h.1 (wd_W cI cL cZ ad (st_u g 12 (v2).toNatClampNeg v1) q r o) (ws_12 cI cL cZ ad g q r o (v2).toNatClampNeg v1) dc_J_fill_13 ?_
      have h := h.2
      refine sw_iinc (n := 1) (v := (v2 + 1)) X 2 rfl rfl [(2, .int (v2 + 1)), (0, .ref (ad 12)), (1, .int v1), (3, .int v3)] rfl (by decide) dc_J_fill_14 ?_
      refine sw_goto (tgt := 5) X dc_J_fill_17 (by decide) ?_
      refine sw_sub [1, 2, 0, 3] rfl ?_
      exact hH5 (st_u g 12 (v2).toNatClampNeg v1) q v1 (v2 + 1) v3 h
  refine sw_iconst (v := 0) X dc_J_fill_0 (by decide) ?_
  refine sw_istore_n X [(2, .int (0 : Int32)), (0, .ref (ad 12)), (1, .int a1)] rfl (by decide) rfl dc_J_fill_1 ?_
  refine sw_aload_n X 1 rfl rfl dc_J_fill_2 ?_
  refine sw_alen (v := 6) X 12 0 (wd_12 cI cL cZ ad g q r o) rfl rfl dc_J_fill_3 ?_
  refine sw_istore_n X [(3, .int (6 : Int32)), (2, .int (0 : Int32)), (0, .ref (ad 12)), (1, .int a1)] rfl (by decide) rfl dc_J_fill_4 ?_
  refine sw_sub [2, 3, 1, 0] rfl ?_
  obtain ⟨n5, h⟩ := h
  exact b5 n5 g q a1 (0 : Int32) (6 : Int32) h
def wp_J_fill_13_L5 (Q : (st_S → Prop)) : Nat → st_I → st_L → Int32 → Int32 → Int32 → Prop
  | 0 => fun _ _ _ _ _ => False
  | n5 + 1 => fun g q v1 v2 v3 => (v3 ≤ v2 → Q (g, q)) ∧ (¬ v3 ≤ v2 → vp_in v2 90 ∧ (wp_J_fill_13_L5 Q n5) (st_u g 13 (v2).toNatClampNeg v1) q v1 (v2 + 1) v3)
def wp_J_fill_13 (a1 : Int32) (g : st_I) (q : st_L) (Q : (st_S → Prop)) : Prop := ∃ n5, wp_J_fill_13_L5 Q n5 g q a1 (0 : Int32) (90 : Int32)
set_option maxHeartbeats 4000000 in
set_option maxRecDepth 100000 in
theorem ct_J_fill_13 (l : Launch) (D : va_G) (cI cL cZ : ClassId) (ad : Nat → Nat) (r : st_I) (o : st_L) (a1 : Int32) (g : st_I) (q : st_L) (Q : (st_S → Prop)) (h : wp_J_fill_13 a1 g q Q) : ∀ sz, Met l yn_J_fill (Cond.code yn_J_fill cd_J_fill 4 none :: wa_A) { frames := 0, cells := 0, slots := 0, locals := 0 } (va_Pc [.ref (ad 13), .int a1] (wq_S D cl_A (wd_T cI cL cZ) nw_A (wd_W cI cL cZ ad g q r o) sz)) (va_Qv Q (fun u t => wq_E D cl_A (wd_T cI cL cZ) (va_A (wd_W cI cL cZ ad g q r o) sz) (wd_W cI cL cZ ad u.1 u.2 r o) t) (va_A (wd_W cI cL cZ ad g q r o) sz)) 0 0 (va_A (wd_W cI cL cZ ad g q r o) sz) := by
  refine sw_met (Qc := fun A => va_Qv Q (fun u t => wq_E D cl_A (wd_T cI cL cZ) A (wd_W cI cL cZ ad u.1 u.2 r o) t) A) (by decide) rfl (Nat.le_of_ble_eq_true rfl) rfl ?_
  intro p e s m args below meth c A X hA hNs hE hr hlk hnm
  have b5 : ∀ (n : Nat) (g : st_I) (q : st_L) (v1 : Int32) (v2 : Int32) (v3 : Int32), wp_J_fill_13_L5 Q n g q v1 v2 v3 → sw_J p l e { frames := 0, cells := 0, slots := 0, locals := 0 } s m args below meth c 0 0 (MQ below (va_Qv Q (fun u t => wq_E D cl_A (wd_T cI cL cZ) A (wd_W cI cL cZ ad u.1 u.2 r o) t) A) args s 0 0 A) D cl_A A 4 (wd_W cI cL cZ ad g q r o) 5 [(0, .ref (ad 13)), (1, .int v1), (2, .int v2), (3, .int v3)] [] := by
    intro n5
    induction n5 with
    | zero => intro g q v1 v2 v3 h; exact h.elim
    | succ n5 hH5 =>
    intro g q v1 v2 v3 h
    refine sw_iload_n X 2 rfl rfl dc_J_fill_5 ?_
    refine sw_iload_n X 3 rfl rfl dc_J_fill_6 ?_
    refine sw_icmp_ge (tgt := 20) X dc_J_fill_7 (by decide) (fun z => ?_) (fun z => ?_)
    · have h := h.1 z
      exact sw_vret X hr hlk (u := (g, q)) rfl h dc_J_fill_20
    · have h := h.2 z
      refine sw_aload_n X 0 rfl rfl dc_J_fill_10 ?_
      refine sw_iload_n X 2 rfl rfl dc_J_fill_11 ?_
      refine sw_iload_n X 1 rfl rfl dc_J_fill_12 ?_
      refine sw_iast X 13 0 (wd_13 cI cL cZ ad g q r o) rfl h.1 (wd_W cI cL cZ ad (st_u g 13 (v2).toNatClampNeg v1) q r o) (ws_13 cI cL cZ ad g q r o (v2).toNatClampNeg v1) dc_J_fill_13 ?_
      have h := h.2
      refine sw_iinc (n := 1) (v := (v2 + 1)) X 2 rfl rfl [(2, .int (v2 + 1)), (0, .ref (ad 13)), (1, .int v1), (3, .int v3)] rfl (by decide) dc_J_fill_14 ?_
      refine sw_goto (tgt := 5) X dc_J_fill_17 (by decide) ?_
      refine sw_sub [1, 2, 0, 3] rfl ?_
      exact hH5 (st_u g 13 (v2).toNatClampNeg v1) q v1 (v2 + 1) v3 h
  refine sw_iconst (v := 0) X dc_J_fill_0 (by decide) ?_
  refine sw_istore_n X [(2, .int (0 : Int32)), (0, .ref (ad 13)), (1, .int a1)] rfl (by decide) rfl dc_J_fill_1 ?_
  refine sw_aload_n X 1 rfl rfl dc_J_fill_2 ?_
  refine sw_alen (v := 90) X 13 0 (wd_13 cI cL cZ ad g q r o) rfl rfl dc_J_fill_3 ?_
  refine sw_istore_n X [(3, .int (90 : Int32)), (2, .int (0 : Int32)), (0, .ref (ad 13)), (1, .int a1)] rfl (by decide) rfl dc_J_fill_4 ?_
  refine sw_sub [2, 3, 1, 0] rfl ?_
  obtain ⟨n5, h⟩ := h
  exact b5 n5 g q a1 (0 : Int32) (90 : Int32) h
def wp_K_forget  (g : st_I) (q : st_L) (Q : (st_S → Prop)) : Prop := Q ((st_u g 10 4 (0 : Int32)), q)
set_option maxHeartbeats 4000000 in
set_option maxRecDepth 100000 in
theorem ct_K_forget (l : Launch) (D : va_G) (cI cL cZ : ClassId) (ad : Nat → Nat) (r : st_I) (o : st_L)  (g : st_I) (q : st_L) (Q : (st_S → Prop)) (h : wp_K_forget  g q Q) : ∀ sz, Met l yn_K_forget (Cond.code yn_K_forget cd_K_forget 1 none :: wa_A) { frames := 0, cells := 0, slots := 0, locals := 0 } (va_Pc [.ref (ad 10)] (wq_S D cl_A (wd_T cI cL cZ) nw_A (wd_W cI cL cZ ad g q r o) sz)) (va_Qv Q (fun u t => wq_E D cl_A (wd_T cI cL cZ) (va_A (wd_W cI cL cZ ad g q r o) sz) (wd_W cI cL cZ ad u.1 u.2 r o) t) (va_A (wd_W cI cL cZ ad g q r o) sz)) 0 0 (va_A (wd_W cI cL cZ ad g q r o) sz) := by
  refine sw_met (Qc := fun A => va_Qv Q (fun u t => wq_E D cl_A (wd_T cI cL cZ) A (wd_W cI cL cZ ad u.1 u.2 r o) t) A) (by decide) rfl (Nat.le_of_ble_eq_true rfl) rfl ?_
  intro p e s m args below meth c A X hA hNs hE hr hlk hnm
  refine sw_aload_n X 0 rfl rfl dc_K_forget_0 ?_
  refine sw_iconst (v := 0) X dc_K_forget_1 (by decide) ?_
  refine sw_put (ty := .boolean) X (fun z hz => List.mem_cons_of_mem _ (wf_K z hz)) fy_K fo_K fn_K 10 (wd_10 cI cL cZ ad g q r o) rfl 4 (by decide) (List.mem_cons_of_mem _ wm_fl_K_27) rfl (by decide +kernel) (by decide) (by decide) (Nat.le_of_ble_eq_true rfl) (wd_W cI cL cZ ad (st_u g 10 4 (0 : Int32)) q r o) (ws_10_4 cI cL cZ ad g q r o (0 : Int32)) dc_K_forget_2 ?_
  exact sw_vret X hr hlk (u := ((st_u g 10 4 (0 : Int32)), q)) rfl h dc_K_forget_5
def wp_K_mayOf (a1 : Int32) (a2 : Int32) (g : st_I) (q : st_L) (Q : (Int32 → st_S → Prop)) : Prop := vp_in ((a1 * (2 : Int32)) + a2) 12 ∧ Q (g 11 (((a1 * (2 : Int32)) + a2)).toNatClampNeg) (g, q)
set_option maxHeartbeats 4000000 in
set_option maxRecDepth 100000 in
theorem ct_K_mayOf (l : Launch) (D : va_G) (cI cL cZ : ClassId) (ad : Nat → Nat) (r : st_I) (o : st_L) (a1 : Int32) (a2 : Int32) (g : st_I) (q : st_L) (Q : (Int32 → st_S → Prop)) (h : wp_K_mayOf a1 a2 g q Q) : ∀ sz, Met l yn_K_mayOf (Cond.code yn_K_mayOf cd_K_mayOf 3 (some .int) :: wa_A) { frames := 0, cells := 0, slots := 0, locals := 0 } (va_Pc [.ref (ad 10), .int a1, .int a2] (wq_S D cl_A (wd_T cI cL cZ) nw_A (wd_W cI cL cZ ad g q r o) sz)) (va_Qi Q (fun u t => wq_E D cl_A (wd_T cI cL cZ) (va_A (wd_W cI cL cZ ad g q r o) sz) (wd_W cI cL cZ ad u.1 u.2 r o) t) (va_A (wd_W cI cL cZ ad g q r o) sz)) 0 0 (va_A (wd_W cI cL cZ ad g q r o) sz) := by
  refine sw_met (Qc := fun A => va_Qi Q (fun u t => wq_E D cl_A (wd_T cI cL cZ) A (wd_W cI cL cZ ad u.1 u.2 r o) t) A) (by decide) rfl (Nat.le_of_ble_eq_true rfl) rfl ?_
  intro p e s m args below meth c A X hA hNs hE hr hlk hnm
  refine sw_aload_n X 0 rfl rfl dc_K_mayOf_0 ?_
  refine sw_get X (fun z hz => List.mem_cons_of_mem _ (wf_K z hz)) 10 (wd_10 cI cL cZ ad g q r o) rfl 1 (by decide) (List.mem_cons_of_mem _ wm_fl_K_9) rfl dc_K_mayOf_1 ?_
  refine sw_iload_n X 1 rfl rfl dc_K_mayOf_4 ?_
  refine sw_iconst (v := 2) X dc_K_mayOf_5 (by decide) ?_
  refine sw_imul X dc_K_mayOf_6 ?_
  refine sw_iload_n X 2 rfl rfl dc_K_mayOf_7 ?_
  refine sw_iadd X dc_K_mayOf_8 ?_
  refine sw_iald X 11 0 (wd_11 cI cL cZ ad g q r o) rfl h.1 dc_K_mayOf_9 ?_
  have h := h.2
  exact sw_iret X hr hlk (u := (g, q)) rfl h dc_K_mayOf_10
def wp_K_givesOf (a1 : Int32) (g : st_I) (q : st_L) (Q : (Int32 → st_S → Prop)) : Prop := vp_in a1 6 ∧ Q (g 12 (a1).toNatClampNeg) (g, q)
set_option maxHeartbeats 4000000 in
set_option maxRecDepth 100000 in
theorem ct_K_givesOf (l : Launch) (D : va_G) (cI cL cZ : ClassId) (ad : Nat → Nat) (r : st_I) (o : st_L) (a1 : Int32) (g : st_I) (q : st_L) (Q : (Int32 → st_S → Prop)) (h : wp_K_givesOf a1 g q Q) : ∀ sz, Met l yn_K_givesOf (Cond.code yn_K_givesOf cd_K_givesOf 2 (some .int) :: wa_A) { frames := 0, cells := 0, slots := 0, locals := 0 } (va_Pc [.ref (ad 10), .int a1] (wq_S D cl_A (wd_T cI cL cZ) nw_A (wd_W cI cL cZ ad g q r o) sz)) (va_Qi Q (fun u t => wq_E D cl_A (wd_T cI cL cZ) (va_A (wd_W cI cL cZ ad g q r o) sz) (wd_W cI cL cZ ad u.1 u.2 r o) t) (va_A (wd_W cI cL cZ ad g q r o) sz)) 0 0 (va_A (wd_W cI cL cZ ad g q r o) sz) := by
  refine sw_met (Qc := fun A => va_Qi Q (fun u t => wq_E D cl_A (wd_T cI cL cZ) A (wd_W cI cL cZ ad u.1 u.2 r o) t) A) (by decide) rfl (Nat.le_of_ble_eq_true rfl) rfl ?_
  intro p e s m args below meth c A X hA hNs hE hr hlk hnm
  refine sw_aload_n X 0 rfl rfl dc_K_givesOf_0 ?_
  refine sw_get X (fun z hz => List.mem_cons_of_mem _ (wf_K z hz)) 10 (wd_10 cI cL cZ ad g q r o) rfl 2 (by decide) (List.mem_cons_of_mem _ wm_fl_K_15) rfl dc_K_givesOf_1 ?_
  refine sw_iload_n X 1 rfl rfl dc_K_givesOf_4 ?_
  refine sw_iald X 12 0 (wd_12 cI cL cZ ad g q r o) rfl h.1 dc_K_givesOf_5 ?_
  have h := h.2
  exact sw_iret X hr hlk (u := (g, q)) rfl h dc_K_givesOf_6
def wp_K_with (a1 : Int64) (a2 : Int32) (a3 : Int32) (g : st_I) (q : st_L) (Q : (Int64 → st_S → Prop)) : Prop := Q ((a1 &&& (((511 : Int64) <<< (((a2 * (9 : Int32))).toInt64 &&& 63)) ^^^ (-1 : Int64))) ||| ((a3).toInt64 <<< (((a2 * (9 : Int32))).toInt64 &&& 63))) (g, q)
set_option maxHeartbeats 4000000 in
set_option maxRecDepth 100000 in
theorem ct_K_with (l : Launch) (D : va_G) (cI cL cZ : ClassId) (ad : Nat → Nat) (r : st_I) (o : st_L) (a1 : Int64) (a2 : Int32) (a3 : Int32) (g : st_I) (q : st_L) (Q : (Int64 → st_S → Prop)) (h : wp_K_with a1 a2 a3 g q Q) : ∀ sz, Met l yn_K_with (Cond.code yn_K_with cd_K_with 5 (some .long) :: wa_A) { frames := 0, cells := 0, slots := 0, locals := 0 } (va_Pc [.long a1, .int a2, .int a3] (wq_S D cl_A (wd_T cI cL cZ) nw_A (wd_W cI cL cZ ad g q r o) sz)) (va_Ql Q (fun u t => wq_E D cl_A (wd_T cI cL cZ) (va_A (wd_W cI cL cZ ad g q r o) sz) (wd_W cI cL cZ ad u.1 u.2 r o) t) (va_A (wd_W cI cL cZ ad g q r o) sz)) 0 0 (va_A (wd_W cI cL cZ ad g q r o) sz) := by
  refine sw_met (Qc := fun A => va_Ql Q (fun u t => wq_E D cl_A (wd_T cI cL cZ) A (wd_W cI cL cZ ad u.1 u.2 r o) t) A) (by decide) rfl (Nat.le_of_ble_eq_true rfl) rfl ?_
  intro p e s m args below meth c A X hA hNs hE hr hlk hnm
  refine sw_iload_n X 1 rfl rfl dc_K_with_0 ?_
  refine sw_bipush (v := 9) X dc_K_with_1 (by decide) ?_
  refine sw_imul X dc_K_with_3 ?_
  refine sw_istore X [(4, .int (a2 * (9 : Int32))), (0, .long a1), (2, .int a2), (3, .int a3)] rfl (by decide) dc_K_with_4 ?_
  refine sw_lload_n X 1 rfl rfl dc_K_with_6 ?_
  refine sw_ldc2 X (List.mem_cons_of_mem _ wm_kl_K_74) dc_K_with_7 ?_
  refine sw_iload X 0 rfl dc_K_with_10 ?_
  refine sw_lshl X dc_K_with_12 rfl ?_
  refine sw_ldc2 X (List.mem_cons_of_mem _ wm_kl_K_76) dc_K_with_13 ?_
  refine sw_lxor X dc_K_with_16 ?_
  refine sw_land X dc_K_with_17 ?_
  refine sw_iload_n X 3 rfl rfl dc_K_with_18 ?_
  refine sw_i2l X dc_K_with_19 rfl ?_
  refine sw_iload X 0 rfl dc_K_with_20 ?_
  refine sw_lshl X dc_K_with_22 rfl ?_
  refine sw_lor X dc_K_with_23 ?_
  exact sw_lret X hr hlk (u := (g, q)) rfl h dc_K_with_24
def wp_K_setOf (a1 : Int64) (a2 : Int32) (g : st_I) (q : st_L) (Q : (Int32 → st_S → Prop)) : Prop := Q ((((a1).toUInt64 >>> (((a2 * (9 : Int32))).toInt64.toUInt64 &&& Int64.toUInt64 63)).toInt64).toInt32 &&& (511 : Int32)) (g, q)
set_option maxHeartbeats 4000000 in
set_option maxRecDepth 100000 in
theorem ct_K_setOf (l : Launch) (D : va_G) (cI cL cZ : ClassId) (ad : Nat → Nat) (r : st_I) (o : st_L) (a1 : Int64) (a2 : Int32) (g : st_I) (q : st_L) (Q : (Int32 → st_S → Prop)) (h : wp_K_setOf a1 a2 g q Q) : ∀ sz, Met l yn_K_setOf (Cond.code yn_K_setOf cd_K_setOf 3 (some .int) :: wa_A) { frames := 0, cells := 0, slots := 0, locals := 0 } (va_Pc [.long a1, .int a2] (wq_S D cl_A (wd_T cI cL cZ) nw_A (wd_W cI cL cZ ad g q r o) sz)) (va_Qi Q (fun u t => wq_E D cl_A (wd_T cI cL cZ) (va_A (wd_W cI cL cZ ad g q r o) sz) (wd_W cI cL cZ ad u.1 u.2 r o) t) (va_A (wd_W cI cL cZ ad g q r o) sz)) 0 0 (va_A (wd_W cI cL cZ ad g q r o) sz) := by
  refine sw_met (Qc := fun A => va_Qi Q (fun u t => wq_E D cl_A (wd_T cI cL cZ) A (wd_W cI cL cZ ad u.1 u.2 r o) t) A) (by decide) rfl (Nat.le_of_ble_eq_true rfl) rfl ?_
  intro p e s m args below meth c A X hA hNs hE hr hlk hnm
  refine sw_lload_n X 0 rfl rfl dc_K_setOf_0 ?_
  refine sw_iload_n X 1 rfl rfl dc_K_setOf_1 ?_
  refine sw_bipush (v := 9) X dc_K_setOf_2 (by decide) ?_
  refine sw_imul X dc_K_setOf_4 ?_
  refine sw_lushr X dc_K_setOf_5 rfl ?_
  refine sw_l2i X dc_K_setOf_6 rfl ?_
  refine sw_sipush (v := 511) X dc_K_setOf_7 (by decide) ?_
  refine sw_iand X dc_K_setOf_10 ?_
  exact sw_iret X hr hlk (u := (g, q)) rfl h dc_K_setOf_11
def wp_K_has_L13 (Q : (Int32 → st_S → Prop)) (g : st_I) (q : st_L) (t0 : Int32) : Prop := narrow .boolean (.int t0) = .int t0 ∧ Q t0 (g, q)
def wp_K_has (a1 : Int32) (a2 : Int32) (g : st_I) (q : st_L) (Q : (Int32 → st_S → Prop)) : Prop := (((a1 >>> (a2 &&& 31)) &&& (1 : Int32)) = 0 → wp_K_has_L13 Q g q (0 : Int32)) ∧ (¬ ((a1 >>> (a2 &&& 31)) &&& (1 : Int32)) = 0 → wp_K_has_L13 Q g q (1 : Int32))
set_option maxHeartbeats 4000000 in
set_option maxRecDepth 100000 in
theorem ct_K_has (l : Launch) (D : va_G) (cI cL cZ : ClassId) (ad : Nat → Nat) (r : st_I) (o : st_L) (a1 : Int32) (a2 : Int32) (g : st_I) (q : st_L) (Q : (Int32 → st_S → Prop)) (h : wp_K_has a1 a2 g q Q) : ∀ sz, Met l yn_K_has (Cond.code yn_K_has cd_K_has 2 (some .boolean) :: wa_A) { frames := 0, cells := 0, slots := 0, locals := 0 } (va_Pc [.int a1, .int a2] (wq_S D cl_A (wd_T cI cL cZ) nw_A (wd_W cI cL cZ ad g q r o) sz)) (va_Qi Q (fun u t => wq_E D cl_A (wd_T cI cL cZ) (va_A (wd_W cI cL cZ ad g q r o) sz) (wd_W cI cL cZ ad u.1 u.2 r o) t) (va_A (wd_W cI cL cZ ad g q r o) sz)) 0 0 (va_A (wd_W cI cL cZ ad g q r o) sz) := by
  refine sw_met (Qc := fun A => va_Qi Q (fun u t => wq_E D cl_A (wd_T cI cL cZ) A (wd_W cI cL cZ ad u.1 u.2 r o) t) A) (by decide) rfl (Nat.le_of_ble_eq_true rfl) rfl ?_
  intro p e s m args below meth c A X hA hNs hE hr hlk hnm
  have b13 : ∀ (g : st_I) (q : st_L) (t0 : Int32), wp_K_has_L13 Q g q t0 → sw_J p l e { frames := 0, cells := 0, slots := 0, locals := 0 } s m args below meth c 0 0 (MQ below (va_Qi Q (fun u t => wq_E D cl_A (wd_T cI cL cZ) A (wd_W cI cL cZ ad u.1 u.2 r o) t) A) args s 0 0 A) D cl_A A 2 (wd_W cI cL cZ ad g q r o) 13 [] [.int t0] := by
    intro g q t0 h
    exact sw_zret X hr hlk h.1 (u := (g, q)) rfl h.2 dc_K_has_13
  refine sw_iload_n X 0 rfl rfl dc_K_has_0 ?_
  refine sw_iload_n X 1 rfl rfl dc_K_has_1 ?_
  refine sw_ishr X dc_K_has_2 ?_
  refine sw_iconst (v := 1) X dc_K_has_3 (by decide) ?_
  refine sw_iand X dc_K_has_4 ?_
  refine sw_if_eq (tgt := 12) X dc_K_has_5 (by decide) (fun z => ?_) (fun z => ?_)
  · have h := h.1 z
    refine sw_iconst (v := 0) X dc_K_has_12 (by decide) ?_
    refine sw_sub [] rfl ?_
    exact b13 g q (0 : Int32) h
  · have h := h.2 z
    refine sw_iconst (v := 1) X dc_K_has_8 (by decide) ?_
    refine sw_goto (tgt := 13) X dc_K_has_9 (by decide) ?_
    refine sw_sub [] rfl ?_
    exact b13 g q (1 : Int32) h
def wp_K_anyArguments_L29 (Q : (Int64 → st_S → Prop)) (g : st_I) (q : st_L) (t0 : Int64) : Prop := Q t0 (g, q)
def wp_K_anyArguments (a1 : Int32) (g : st_I) (q : st_L) (Q : (Int64 → st_S → Prop)) : Prop := wp_K_with (0 : Int64) (0 : Int32) (511 : Int32) g q (fun x5 u5 => wp_S_parametersOf a1 u5.1 u5.2 (fun x10 u10 => (¬ x10 = (2 : Int32) → wp_K_anyArguments_L29 Q u10.1 u10.2 x5) ∧ (x10 = (2 : Int32) → wp_K_with x5 (1 : Int32) (511 : Int32) u10.1 u10.2 (fun x22 u22 => wp_K_anyArguments_L29 Q u22.1 u22.2 x22))))
set_option maxHeartbeats 4000000 in
set_option maxRecDepth 100000 in
theorem ct_K_anyArguments (l : Launch) (D : va_G) (cI cL cZ : ClassId) (ad : Nat → Nat) (r : st_I) (o : st_L) (a1 : Int32) (g : st_I) (q : st_L) (Q : (Int64 → st_S → Prop)) (h : wp_K_anyArguments a1 g q Q) : ∀ sz, Met l yn_K_anyArguments (Cond.code yn_K_anyArguments cd_K_anyArguments 3 (some .long) :: wa_A) { frames := 1, cells := 0, slots := 0, locals := 24 } (va_Pc [.int a1] (wq_S D cl_A (wd_T cI cL cZ) nw_A (wd_W cI cL cZ ad g q r o) sz)) (va_Ql Q (fun u t => wq_E D cl_A (wd_T cI cL cZ) (va_A (wd_W cI cL cZ ad g q r o) sz) (wd_W cI cL cZ ad u.1 u.2 r o) t) (va_A (wd_W cI cL cZ ad g q r o) sz)) 0 0 (va_A (wd_W cI cL cZ ad g q r o) sz) := by
  refine sw_met (Qc := fun A => va_Ql Q (fun u t => wq_E D cl_A (wd_T cI cL cZ) A (wd_W cI cL cZ ad u.1 u.2 r o) t) A) (by decide) rfl (Nat.le_of_ble_eq_true rfl) rfl ?_
  intro p e s m args below meth c A X hA hNs hE hr hlk hnm
  have b29 : ∀ (g : st_I) (q : st_L) (t0 : Int64), wp_K_anyArguments_L29 Q g q t0 → sw_J p l e { frames := 1, cells := 0, slots := 0, locals := 24 } s m args below meth c 0 0 (MQ below (va_Ql Q (fun u t => wq_E D cl_A (wd_T cI cL cZ) A (wd_W cI cL cZ ad u.1 u.2 r o) t) A) args s 0 0 A) D cl_A A 3 (wd_W cI cL cZ ad g q r o) 29 [] [.long t0] := by
    intro g q t0 h
    exact sw_lret X hr hlk (u := (g, q)) rfl h dc_K_anyArguments_29
  refine sw_lconst (v := 0) X dc_K_anyArguments_0 (by decide) ?_
  refine sw_iconst (v := 0) X dc_K_anyArguments_1 (by decide) ?_
  refine sw_sipush (v := 511) X dc_K_anyArguments_2 (by decide) ?_
  refine sw_cS_l (n := 3) X hA nw_okA hNs hE (fun u : st_S => wd_W cI cL cZ ad u.1 u.2 r o) [.long (0 : Int64), .int (0 : Int32), .int (511 : Int32)] (ct_K_with l D cI cL cZ ad r o (0 : Int64) (0 : Int32) (511 : Int32) g q _ h) (List.mem_cons_of_mem _ wm_ml_K_61) (List.mem_cons_of_mem _ wm_st_K_with) rfl (wg_in wm_code_K_with) rfl rfl (List.mem_cons_of_mem _ wm_in_K) ⟨by decide, by decide, by decide +kernel⟩ ⟨Nat.le_of_ble_eq_true rfl, Nat.le_of_ble_eq_true rfl⟩ ⟨Nat.zero_le _, Nat.zero_le _⟩ rfl (Nat.le_of_ble_eq_true rfl) dc_K_anyArguments_5 rfl (fun x5 u5 h => ?_)
  refine sw_lstore_n X [(1, .long x5), (0, .int a1)] rfl (by decide) rfl dc_K_anyArguments_8 ?_
  refine sw_iload_n X 1 rfl rfl dc_K_anyArguments_9 ?_
  refine sw_cSN_i (n := 1) X hA nw_okA hNs hE (fun u : st_S => wd_W cI cL cZ ad u.1 u.2 r o) [.int a1] (ct_S_parametersOf l D cI cL cZ ad r o a1 u5.1 u5.2 _ h) nw_K_41 (List.mem_cons_of_mem _ wm_st_S_parametersOf) rfl (wg_in wm_code_S_parametersOf) rfl rfl (List.mem_cons_of_mem _ wm_in_S) ⟨by decide, by decide, by decide +kernel⟩ ⟨Nat.le_of_ble_eq_true rfl, Nat.le_of_ble_eq_true rfl⟩ ⟨Nat.zero_le _, Nat.zero_le _⟩ rfl (Nat.le_of_ble_eq_true rfl) dc_K_anyArguments_10 rfl (fun x10 u10 h => ?_)
  refine sw_iconst (v := 2) X dc_K_anyArguments_13 (by decide) ?_
  refine sw_icmp_ne (tgt := 28) X dc_K_anyArguments_14 (by decide) (fun z => ?_) (fun z => ?_)
  · have h := h.1 z
    refine sw_lload_n X 0 rfl rfl dc_K_anyArguments_28 ?_
    refine sw_sub [] rfl ?_
    exact b29 u10.1 u10.2 x5 h
  · have h := h.2 z
    refine sw_lload_n X 0 rfl rfl dc_K_anyArguments_17 ?_
    refine sw_iconst (v := 1) X dc_K_anyArguments_18 (by decide) ?_
    refine sw_sipush (v := 511) X dc_K_anyArguments_19 (by decide) ?_
    refine sw_cS_l (n := 3) X hA nw_okA hNs hE (fun u : st_S => wd_W cI cL cZ ad u.1 u.2 r o) [.long x5, .int (1 : Int32), .int (511 : Int32)] (ct_K_with l D cI cL cZ ad r o x5 (1 : Int32) (511 : Int32) u10.1 u10.2 _ h) (List.mem_cons_of_mem _ wm_ml_K_61) (List.mem_cons_of_mem _ wm_st_K_with) rfl (wg_in wm_code_K_with) rfl rfl (List.mem_cons_of_mem _ wm_in_K) ⟨by decide, by decide, by decide +kernel⟩ ⟨Nat.le_of_ble_eq_true rfl, Nat.le_of_ble_eq_true rfl⟩ ⟨Nat.zero_le _, Nat.zero_le _⟩ rfl (Nat.le_of_ble_eq_true rfl) dc_K_anyArguments_22 rfl (fun x22 u22 h => ?_)
    refine sw_goto (tgt := 29) X dc_K_anyArguments_25 (by decide) ?_
    refine sw_sub [] rfl ?_
    exact b29 u22.1 u22.2 x22 h
def wp_K_numberKindsOf_L27 (Q : (Int32 → st_S → Prop)) (g : st_I) (q : st_L) (t0 : Int32) : Prop := Q t0 (g, q)
def wp_K_numberKindsOf_L25 (Q : (Int32 → st_S → Prop)) (g : st_I) (q : st_L)  : Prop := wp_K_numberKindsOf_L27 Q g q (112 : Int32)
def wp_K_numberKindsOf (a1 : Int32) (a2 : Int32) (a3 : Int32) (g : st_I) (q : st_L) (Q : (Int32 → st_S → Prop)) : Prop := (¬ a3 = (5 : Int32) → (¬ a1 = (4 : Int32) → wp_K_numberKindsOf_L25 Q g q) ∧ (a1 = (4 : Int32) → (¬ a2 = (5 : Int32) → wp_K_numberKindsOf_L25 Q g q) ∧ (a2 = (5 : Int32) → wp_K_numberKindsOf_L27 Q g q ((1 : Int32) <<< (a3 &&& 31))))) ∧ (a3 = (5 : Int32) → Q ((1 : Int32) <<< (a2 &&& 31)) (g, q))
set_option maxHeartbeats 4000000 in
set_option maxRecDepth 100000 in
theorem ct_K_numberKindsOf (l : Launch) (D : va_G) (cI cL cZ : ClassId) (ad : Nat → Nat) (r : st_I) (o : st_L) (a1 : Int32) (a2 : Int32) (a3 : Int32) (g : st_I) (q : st_L) (Q : (Int32 → st_S → Prop)) (h : wp_K_numberKindsOf a1 a2 a3 g q Q) : ∀ sz, Met l yn_K_numberKindsOf (Cond.code yn_K_numberKindsOf cd_K_numberKindsOf 3 (some .int) :: wa_A) { frames := 0, cells := 0, slots := 0, locals := 0 } (va_Pc [.int a1, .int a2, .int a3] (wq_S D cl_A (wd_T cI cL cZ) nw_A (wd_W cI cL cZ ad g q r o) sz)) (va_Qi Q (fun u t => wq_E D cl_A (wd_T cI cL cZ) (va_A (wd_W cI cL cZ ad g q r o) sz) (wd_W cI cL cZ ad u.1 u.2 r o) t) (va_A (wd_W cI cL cZ ad g q r o) sz)) 0 0 (va_A (wd_W cI cL cZ ad g q r o) sz) := by
  refine sw_met (Qc := fun A => va_Qi Q (fun u t => wq_E D cl_A (wd_T cI cL cZ) A (wd_W cI cL cZ ad u.1 u.2 r o) t) A) (by decide) rfl (Nat.le_of_ble_eq_true rfl) rfl ?_
  intro p e s m args below meth c A X hA hNs hE hr hlk hnm
  have b27 : ∀ (g : st_I) (q : st_L) (t0 : Int32), wp_K_numberKindsOf_L27 Q g q t0 → sw_J p l e { frames := 0, cells := 0, slots := 0, locals := 0 } s m args below meth c 0 0 (MQ below (va_Qi Q (fun u t => wq_E D cl_A (wd_T cI cL cZ) A (wd_W cI cL cZ ad u.1 u.2 r o) t) A) args s 0 0 A) D cl_A A 3 (wd_W cI cL cZ ad g q r o) 27 [] [.int t0] := by
    intro g q t0 h
    exact sw_iret X hr hlk (u := (g, q)) rfl h dc_K_numberKindsOf_27
  have b25 : ∀ (g : st_I) (q : st_L), wp_K_numberKindsOf_L25 Q g q → sw_J p l e { frames := 0, cells := 0, slots := 0, locals := 0 } s m args below meth c 0 0 (MQ below (va_Qi Q (fun u t => wq_E D cl_A (wd_T cI cL cZ) A (wd_W cI cL cZ ad u.1 u.2 r o) t) A) args s 0 0 A) D cl_A A 3 (wd_W cI cL cZ ad g q r o) 25 [] [] := by
    intro g q h
    refine sw_bipush (v := 112) X dc_K_numberKindsOf_25 (by decide) ?_
    exact b27 g q (112 : Int32) h
  refine sw_iload_n X 2 rfl rfl dc_K_numberKindsOf_0 ?_
  refine sw_iconst (v := 5) X dc_K_numberKindsOf_1 (by decide) ?_
  refine sw_icmp_ne (tgt := 9) X dc_K_numberKindsOf_2 (by decide) (fun z => ?_) (fun z => ?_)
  · have h := h.1 z
    refine sw_iload_n X 0 rfl rfl dc_K_numberKindsOf_9 ?_
    refine sw_iconst (v := 4) X dc_K_numberKindsOf_10 (by decide) ?_
    refine sw_icmp_ne (tgt := 25) X dc_K_numberKindsOf_11 (by decide) (fun z => ?_) (fun z => ?_)
    · have h := h.1 z
      refine sw_sub [] rfl ?_
      exact b25 g q h
    · have h := h.2 z
      refine sw_iload_n X 1 rfl rfl dc_K_numberKindsOf_14 ?_
      refine sw_iconst (v := 5) X dc_K_numberKindsOf_15 (by decide) ?_
      refine sw_icmp_ne (tgt := 25) X dc_K_numberKindsOf_16 (by decide) (fun z => ?_) (fun z => ?_)
      · have h := h.1 z
        refine sw_sub [] rfl ?_
        exact b25 g q h
      · have h := h.2 z
        refine sw_iconst (v := 1) X dc_K_numberKindsOf_19 (by decide) ?_
        refine sw_iload_n X 2 rfl rfl dc_K_numberKindsOf_20 ?_
        refine sw_ishl X dc_K_numberKindsOf_21 ?_
        refine sw_goto (tgt := 27) X dc_K_numberKindsOf_22 (by decide) ?_
        refine sw_sub [] rfl ?_
        exact b27 g q ((1 : Int32) <<< (a3 &&& 31)) h
  · have h := h.2 z
    refine sw_iconst (v := 1) X dc_K_numberKindsOf_5 (by decide) ?_
    refine sw_iload_n X 1 rfl rfl dc_K_numberKindsOf_6 ?_
    refine sw_ishl X dc_K_numberKindsOf_7 ?_
    exact sw_iret X hr hlk (u := (g, q)) rfl h dc_K_numberKindsOf_8
def wp_K_numberKinds_L51 (Q : (Int32 → st_S → Prop)) (H5 : st_I → st_L → Int32 → Int32 → Int32 → Int32 → Int32 → Prop) (H15 : st_I → st_L → Int32 → Int32 → Int32 → Int32 → Int32 → Int32 → Prop) (g : st_I) (q : st_L) (v0 : Int32) (v1 : Int32) (v2 : Int32) (v3 : Int32) (v4 : Int32) (v5 : Int32) : Prop := H15 g q v0 v1 v2 v3 v4 (v5 + 1)
def wp_K_numberKinds_L15 (Q : (Int32 → st_S → Prop)) (H5 : st_I → st_L → Int32 → Int32 → Int32 → Int32 → Int32 → Prop) : Nat → st_I → st_L → Int32 → Int32 → Int32 → Int32 → Int32 → Int32 → Prop
  | 0 => fun _ _ _ _ _ _ _ _ => False
  | n15 + 1 => fun g q v0 v1 v2 v3 v4 v5 => ((6 : Int32) < v5 → H5 g q v0 v1 v2 v3 (v4 + 1)) ∧ (¬ (6 : Int32) < v5 → wp_K_has v1 v4 g q (fun x25 u25 => (x25 = 0 → wp_K_numberKinds_L51 Q H5 (wp_K_numberKinds_L15 Q H5 n15) u25.1 u25.2 v0 v1 v2 v3 v4 v5) ∧ (¬ x25 = 0 → wp_K_has v2 v5 u25.1 u25.2 (fun x34 u34 => (x34 = 0 → wp_K_numberKinds_L51 Q H5 (wp_K_numberKinds_L15 Q H5 n15) u34.1 u34.2 v0 v1 v2 v3 v4 v5) ∧ (¬ x34 = 0 → wp_K_numberKindsOf v0 v4 v5 u34.1 u34.2 (fun x46 u46 => wp_K_numberKinds_L51 Q H5 (wp_K_numberKinds_L15 Q H5 n15) u46.1 u46.2 v0 v1 v2 (v3 ||| x46) v4 v5))))))
def wp_K_numberKinds_L5 (Q : (Int32 → st_S → Prop)) : Nat → st_I → st_L → Int32 → Int32 → Int32 → Int32 → Int32 → Prop
  | 0 => fun _ _ _ _ _ _ _ => False
  | n5 + 1 => fun g q v0 v1 v2 v3 v4 => ((6 : Int32) < v4 → Q v3 (g, q)) ∧ (¬ (6 : Int32) < v4 → ∃ n15, wp_K_numberKinds_L15 Q (wp_K_numberKinds_L5 Q n5) n15 g q v0 v1 v2 v3 v4 (4 : Int32))
def wp_K_numberKinds (a1 : Int32) (a2 : Int32) (a3 : Int32) (g : st_I) (q : st_L) (Q : (Int32 → st_S → Prop)) : Prop := ∃ n5, wp_K_numberKinds_L5 Q n5 g q a1 a2 a3 (0 : Int32) (4 : Int32)
set_option maxHeartbeats 4000000 in
set_option maxRecDepth 100000 in
theorem ct_K_numberKinds (l : Launch) (D : va_G) (cI cL cZ : ClassId) (ad : Nat → Nat) (r : st_I) (o : st_L) (a1 : Int32) (a2 : Int32) (a3 : Int32) (g : st_I) (q : st_L) (Q : (Int32 → st_S → Prop)) (h : wp_K_numberKinds a1 a2 a3 g q Q) : ∀ sz, Met l yn_K_numberKinds (Cond.code yn_K_numberKinds cd_K_numberKinds 6 (some .int) :: wa_A) { frames := 1, cells := 0, slots := 0, locals := 22 } (va_Pc [.int a1, .int a2, .int a3] (wq_S D cl_A (wd_T cI cL cZ) nw_A (wd_W cI cL cZ ad g q r o) sz)) (va_Qi Q (fun u t => wq_E D cl_A (wd_T cI cL cZ) (va_A (wd_W cI cL cZ ad g q r o) sz) (wd_W cI cL cZ ad u.1 u.2 r o) t) (va_A (wd_W cI cL cZ ad g q r o) sz)) 0 0 (va_A (wd_W cI cL cZ ad g q r o) sz) := by
  refine sw_met (Qc := fun A => va_Qi Q (fun u t => wq_E D cl_A (wd_T cI cL cZ) A (wd_W cI cL cZ ad u.1 u.2 r o) t) A) (by decide) rfl (Nat.le_of_ble_eq_true rfl) rfl ?_
  intro p e s m args below meth c A X hA hNs hE hr hlk hnm
  have b51 : ∀ (H5 : st_I → st_L → Int32 → Int32 → Int32 → Int32 → Int32 → Prop) (hH5 : ∀ (g : st_I) (q : st_L) (v0 : Int32) (v1 : Int32) (v2 : Int32) (v3 : Int32) (v4 : Int32), H5 g q v0 v1 v2 v3 v4 → sw_J p l e { frames := 1, cells := 0, slots := 0, locals := 22 } s m args below meth c 0 0 (MQ below (va_Qi Q (fun u t => wq_E D cl_A (wd_T cI cL cZ) A (wd_W cI cL cZ ad u.1 u.2 r o) t) A) args s 0 0 A) D cl_A A 6 (wd_W cI cL cZ ad g q r o) 5 [(0, .int v0), (1, .int v1), (2, .int v2), (3, .int v3), (4, .int v4)] []) (H15 : st_I → st_L → Int32 → Int32 → Int32 → Int32 → Int32 → Int32 → Prop) (hH15 : ∀ (g : st_I) (q : st_L) (v0 : Int32) (v1 : Int32) (v2 : Int32) (v3 : Int32) (v4 : Int32) (v5 : Int32), H15 g q v0 v1 v2 v3 v4 v5 → sw_J p l e { frames := 1, cells := 0, slots := 0, locals := 22 } s m args below meth c 0 0 (MQ below (va_Qi Q (fun u t => wq_E D cl_A (wd_T cI cL cZ) A (wd_W cI cL cZ ad u.1 u.2 r o) t) A) args s 0 0 A) D cl_A A 6 (wd_W cI cL cZ ad g q r o) 15 [(0, .int v0), (1, .int v1), (2, .int v2), (3, .int v3), (4, .int v4), (5, .int v5)] []) (g : st_I) (q : st_L) (v0 : Int32) (v1 : Int32) (v2 : Int32) (v3 : Int32) (v4 : Int32) (v5 : Int32), wp_K_numberKinds_L51 Q H5 H15 g q v0 v1 v2 v3 v4 v5 → sw_J p l e { frames := 1, cells := 0, slots := 0, locals := 22 } s m args below meth c 0 0 (MQ below (va_Qi Q (fun u t => wq_E D cl_A (wd_T cI cL cZ) A (wd_W cI cL cZ ad u.1 u.2 r o) t) A) args s 0 0 A) D cl_A A 6 (wd_W cI cL cZ ad g q r o) 51 [(0, .int v0), (1, .int v1), (2, .int v2), (3, .int v3), (4, .int v4), (5, .int v5)] [] := by
    intro H5 hH5 H15 hH15 g q v0 v1 v2 v3 v4 v5 h
    refine sw_iinc (n := 1) (v := (v5 + 1)) X 5 rfl rfl [(5, .int (v5 + 1)), (0, .int v0), (1, .int v1), (2, .int v2), (3, .int v3), (4, .int v4)] rfl (by decide) dc_K_numberKinds_51 ?_
    refine sw_goto (tgt := 15) X dc_K_numberKinds_54 (by decide) ?_
    refine sw_sub [1, 2, 3, 4, 5, 0] rfl ?_
    exact hH15 g q v0 v1 v2 v3 v4 (v5 + 1) h
  have b15 : ∀ (H5 : st_I → st_L → Int32 → Int32 → Int32 → Int32 → Int32 → Prop) (hH5 : ∀ (g : st_I) (q : st_L) (v0 : Int32) (v1 : Int32) (v2 : Int32) (v3 : Int32) (v4 : Int32), H5 g q v0 v1 v2 v3 v4 → sw_J p l e { frames := 1, cells := 0, slots := 0, locals := 22 } s m args below meth c 0 0 (MQ below (va_Qi Q (fun u t => wq_E D cl_A (wd_T cI cL cZ) A (wd_W cI cL cZ ad u.1 u.2 r o) t) A) args s 0 0 A) D cl_A A 6 (wd_W cI cL cZ ad g q r o) 5 [(0, .int v0), (1, .int v1), (2, .int v2), (3, .int v3), (4, .int v4)] []) (n : Nat) (g : st_I) (q : st_L) (v0 : Int32) (v1 : Int32) (v2 : Int32) (v3 : Int32) (v4 : Int32) (v5 : Int32), wp_K_numberKinds_L15 Q H5 n g q v0 v1 v2 v3 v4 v5 → sw_J p l e { frames := 1, cells := 0, slots := 0, locals := 22 } s m args below meth c 0 0 (MQ below (va_Qi Q (fun u t => wq_E D cl_A (wd_T cI cL cZ) A (wd_W cI cL cZ ad u.1 u.2 r o) t) A) args s 0 0 A) D cl_A A 6 (wd_W cI cL cZ ad g q r o) 15 [(0, .int v0), (1, .int v1), (2, .int v2), (3, .int v3), (4, .int v4), (5, .int v5)] [] := by
    intro H5 hH5 n15
    induction n15 with
    | zero => intro g q v0 v1 v2 v3 v4 v5 h; exact h.elim
    | succ n15 hH15 =>
    intro g q v0 v1 v2 v3 v4 v5 h
    refine sw_iload X 5 rfl dc_K_numberKinds_15 ?_
    refine sw_bipush (v := 6) X dc_K_numberKinds_17 (by decide) ?_
    refine sw_icmp_gt (tgt := 57) X dc_K_numberKinds_19 (by decide) (fun z => ?_) (fun z => ?_)
    · have h := h.1 z
      refine sw_iinc (n := 1) (v := (v4 + 1)) X 4 rfl rfl [(4, .int (v4 + 1)), (0, .int v0), (1, .int v1), (2, .int v2), (3, .int v3), (5, .int v5)] rfl (by decide) dc_K_numberKinds_57 ?_
      refine sw_goto (tgt := 5) X dc_K_numberKinds_60 (by decide) ?_
      refine sw_sub [1, 2, 3, 4, 0] rfl ?_
      exact hH5 g q v0 v1 v2 v3 (v4 + 1) h
    · have h := h.2 z
      refine sw_iload_n X 1 rfl rfl dc_K_numberKinds_22 ?_
      refine sw_iload X 4 rfl dc_K_numberKinds_23 ?_
      refine sw_cS_i (n := 2) X hA nw_okA hNs hE (fun u : st_S => wd_W cI cL cZ ad u.1 u.2 r o) [.int v1, .int v4] (ct_K_has l D cI cL cZ ad r o v1 v4 g q _ h) (List.mem_cons_of_mem _ wm_ml_K_65) (List.mem_cons_of_mem _ wm_st_K_has) rfl (wg_in wm_code_K_has) rfl rfl (List.mem_cons_of_mem _ wm_in_K) ⟨by decide, by decide, by decide +kernel⟩ ⟨Nat.le_of_ble_eq_true rfl, Nat.le_of_ble_eq_true rfl⟩ ⟨Nat.zero_le _, Nat.zero_le _⟩ rfl (Nat.le_of_ble_eq_true rfl) dc_K_numberKinds_25 rfl (fun x25 u25 h => ?_)
      refine sw_if_eq (tgt := 51) X dc_K_numberKinds_28 (by decide) (fun z => ?_) (fun z => ?_)
      · have h := h.1 z
        exact b51 H5 hH5 (wp_K_numberKinds_L15 Q H5 n15) hH15 u25.1 u25.2 v0 v1 v2 v3 v4 v5 h
      · have h := h.2 z
        refine sw_iload_n X 2 rfl rfl dc_K_numberKinds_31 ?_
        refine sw_iload X 5 rfl dc_K_numberKinds_32 ?_
        refine sw_cS_i (n := 2) X hA nw_okA hNs hE (fun u : st_S => wd_W cI cL cZ ad u.1 u.2 r o) [.int v2, .int v5] (ct_K_has l D cI cL cZ ad r o v2 v5 u25.1 u25.2 _ h) (List.mem_cons_of_mem _ wm_ml_K_65) (List.mem_cons_of_mem _ wm_st_K_has) rfl (wg_in wm_code_K_has) rfl rfl (List.mem_cons_of_mem _ wm_in_K) ⟨by decide, by decide, by decide +kernel⟩ ⟨Nat.le_of_ble_eq_true rfl, Nat.le_of_ble_eq_true rfl⟩ ⟨Nat.zero_le _, Nat.zero_le _⟩ rfl (Nat.le_of_ble_eq_true rfl) dc_K_numberKinds_34 rfl (fun x34 u34 h => ?_)
        refine sw_if_eq (tgt := 51) X dc_K_numberKinds_37 (by decide) (fun z => ?_) (fun z => ?_)
        · have h := h.1 z
          exact b51 H5 hH5 (wp_K_numberKinds_L15 Q H5 n15) hH15 u34.1 u34.2 v0 v1 v2 v3 v4 v5 h
        · have h := h.2 z
          refine sw_iload_n X 3 rfl rfl dc_K_numberKinds_40 ?_
          refine sw_iload_n X 0 rfl rfl dc_K_numberKinds_41 ?_
          refine sw_iload X 4 rfl dc_K_numberKinds_42 ?_
          refine sw_iload X 5 rfl dc_K_numberKinds_44 ?_
          refine sw_cS_i (n := 3) X hA nw_okA hNs hE (fun u : st_S => wd_W cI cL cZ ad u.1 u.2 r o) [.int v0, .int v4, .int v5] (ct_K_numberKindsOf l D cI cL cZ ad r o v0 v4 v5 u34.1 u34.2 _ h) (List.mem_cons_of_mem _ wm_ml_K_115) (List.mem_cons_of_mem _ wm_st_K_numberKindsOf) rfl (wg_in wm_code_K_numberKindsOf) rfl rfl (List.mem_cons_of_mem _ wm_in_K) ⟨by decide, by decide, by decide +kernel⟩ ⟨Nat.le_of_ble_eq_true rfl, Nat.le_of_ble_eq_true rfl⟩ ⟨Nat.zero_le _, Nat.zero_le _⟩ rfl (Nat.le_of_ble_eq_true rfl) dc_K_numberKinds_46 rfl (fun x46 u46 h => ?_)
          refine sw_ior X dc_K_numberKinds_49 ?_
          refine sw_istore_n X [(3, .int (v3 ||| x46)), (0, .int v0), (1, .int v1), (2, .int v2), (4, .int v4), (5, .int v5)] rfl (by decide) rfl dc_K_numberKinds_50 ?_
          refine sw_sub [1, 2, 3, 0, 4, 5] rfl ?_
          exact b51 H5 hH5 (wp_K_numberKinds_L15 Q H5 n15) hH15 u46.1 u46.2 v0 v1 v2 (v3 ||| x46) v4 v5 h
  have b5 : ∀ (n : Nat) (g : st_I) (q : st_L) (v0 : Int32) (v1 : Int32) (v2 : Int32) (v3 : Int32) (v4 : Int32), wp_K_numberKinds_L5 Q n g q v0 v1 v2 v3 v4 → sw_J p l e { frames := 1, cells := 0, slots := 0, locals := 22 } s m args below meth c 0 0 (MQ below (va_Qi Q (fun u t => wq_E D cl_A (wd_T cI cL cZ) A (wd_W cI cL cZ ad u.1 u.2 r o) t) A) args s 0 0 A) D cl_A A 6 (wd_W cI cL cZ ad g q r o) 5 [(0, .int v0), (1, .int v1), (2, .int v2), (3, .int v3), (4, .int v4)] [] := by
    intro n5
    induction n5 with
    | zero => intro g q v0 v1 v2 v3 v4 h; exact h.elim
    | succ n5 hH5 =>
    intro g q v0 v1 v2 v3 v4 h
    refine sw_iload X 4 rfl dc_K_numberKinds_5 ?_
    refine sw_bipush (v := 6) X dc_K_numberKinds_7 (by decide) ?_
    refine sw_icmp_gt (tgt := 63) X dc_K_numberKinds_9 (by decide) (fun z => ?_) (fun z => ?_)
    · have h := h.1 z
      refine sw_iload_n X 3 rfl rfl dc_K_numberKinds_63 ?_
      exact sw_iret X hr hlk (u := (g, q)) rfl h dc_K_numberKinds_64
    · have h := h.2 z
      refine sw_iconst (v := 4) X dc_K_numberKinds_12 (by decide) ?_
      refine sw_istore X [(5, .int (4 : Int32)), (0, .int v0), (1, .int v1), (2, .int v2), (3, .int v3), (4, .int v4)] rfl (by decide) dc_K_numberKinds_13 ?_
      refine sw_sub [1, 2, 3, 4, 5, 0] rfl ?_
      obtain ⟨n15, h⟩ := h
      exact b15 (wp_K_numberKinds_L5 Q n5) hH5 n15 g q v0 v1 v2 v3 v4 (4 : Int32) h
  refine sw_iconst (v := 0) X dc_K_numberKinds_0 (by decide) ?_
  refine sw_istore_n X [(3, .int (0 : Int32)), (0, .int a1), (1, .int a2), (2, .int a3)] rfl (by decide) rfl dc_K_numberKinds_1 ?_
  refine sw_iconst (v := 4) X dc_K_numberKinds_2 (by decide) ?_
  refine sw_istore X [(4, .int (4 : Int32)), (3, .int (0 : Int32)), (0, .int a1), (1, .int a2), (2, .int a3)] rfl (by decide) dc_K_numberKinds_3 ?_
  refine sw_sub [2, 3, 4, 1, 0] rfl ?_
  obtain ⟨n5, h⟩ := h
  exact b5 n5 g q a1 a2 a3 (0 : Int32) (4 : Int32) h
def wp_K_note_L30 (Q : (st_S → Prop)) (g : st_I) (q : st_L)  : Prop := Q (g, q)
def wp_K_note (a1 : Int32) (a2 : Int32) (g : st_I) (q : st_L) (Q : (st_S → Prop)) : Prop := (a2 = 0 → vp_in a1 90 ∧ (¬ (g 13 (a1).toNatClampNeg) = 0 → wp_K_note_L30 Q g q) ∧ ((g 13 (a1).toNatClampNeg) = 0 → vp_in a1 90 ∧ wp_K_note_L30 Q (st_u g 13 (a1).toNatClampNeg (1 : Int32)) q)) ∧ (¬ a2 = 0 → vp_in a1 90 ∧ wp_K_note_L30 Q (st_u g 13 (a1).toNatClampNeg (2 : Int32)) q)
set_option maxHeartbeats 4000000 in
set_option maxRecDepth 100000 in
theorem ct_K_note (l : Launch) (D : va_G) (cI cL cZ : ClassId) (ad : Nat → Nat) (r : st_I) (o : st_L) (a1 : Int32) (a2 : Int32) (g : st_I) (q : st_L) (Q : (st_S → Prop)) (h : wp_K_note a1 a2 g q Q) : ∀ sz, Met l yn_K_note (Cond.code yn_K_note cd_K_note 3 none :: wa_A) { frames := 0, cells := 0, slots := 0, locals := 0 } (va_Pc [.ref (ad 10), .int a1, .int a2] (wq_S D cl_A (wd_T cI cL cZ) nw_A (wd_W cI cL cZ ad g q r o) sz)) (va_Qv Q (fun u t => wq_E D cl_A (wd_T cI cL cZ) (va_A (wd_W cI cL cZ ad g q r o) sz) (wd_W cI cL cZ ad u.1 u.2 r o) t) (va_A (wd_W cI cL cZ ad g q r o) sz)) 0 0 (va_A (wd_W cI cL cZ ad g q r o) sz) := by
  refine sw_met (Qc := fun A => va_Qv Q (fun u t => wq_E D cl_A (wd_T cI cL cZ) A (wd_W cI cL cZ ad u.1 u.2 r o) t) A) (by decide) rfl (Nat.le_of_ble_eq_true rfl) rfl ?_
  intro p e s m args below meth c A X hA hNs hE hr hlk hnm
  have b30 : ∀ (g : st_I) (q : st_L), wp_K_note_L30 Q g q → sw_J p l e { frames := 0, cells := 0, slots := 0, locals := 0 } s m args below meth c 0 0 (MQ below (va_Qv Q (fun u t => wq_E D cl_A (wd_T cI cL cZ) A (wd_W cI cL cZ ad u.1 u.2 r o) t) A) args s 0 0 A) D cl_A A 3 (wd_W cI cL cZ ad g q r o) 30 [] [] := by
    intro g q h
    exact sw_vret X hr hlk (u := (g, q)) rfl h dc_K_note_30
  refine sw_iload_n X 2 rfl rfl dc_K_note_0 ?_
  refine sw_if_eq (tgt := 14) X dc_K_note_1 (by decide) (fun z => ?_) (fun z => ?_)
  · have h := h.1 z
    refine sw_aload_n X 0 rfl rfl dc_K_note_14 ?_
    refine sw_get X (fun z hz => List.mem_cons_of_mem _ (wf_K z hz)) 10 (wd_10 cI cL cZ ad g q r o) rfl 3 (by decide) (List.mem_cons_of_mem _ wm_fl_K_20) rfl dc_K_note_15 ?_
    refine sw_iload_n X 1 rfl rfl dc_K_note_18 ?_
    refine sw_iald X 13 0 (wd_13 cI cL cZ ad g q r o) rfl h.1 dc_K_note_19 ?_
    have h := h.2
    refine sw_if_ne (tgt := 30) X dc_K_note_20 (by decide) (fun z => ?_) (fun z => ?_)
    · have h := h.1 z
      refine sw_sub [] rfl ?_
      exact b30 g q h
    · have h := h.2 z
      refine sw_aload_n X 0 rfl rfl dc_K_note_23 ?_
      refine sw_get X (fun z hz => List.mem_cons_of_mem _ (wf_K z hz)) 10 (wd_10 cI cL cZ ad g q r o) rfl 3 (by decide) (List.mem_cons_of_mem _ wm_fl_K_20) rfl dc_K_note_24 ?_
      refine sw_iload_n X 1 rfl rfl dc_K_note_27 ?_
      refine sw_iconst (v := 1) X dc_K_note_28 (by decide) ?_
      refine sw_iast X 13 0 (wd_13 cI cL cZ ad g q r o) rfl h.1 (wd_W cI cL cZ ad (st_u g 13 (a1).toNatClampNeg (1 : Int32)) q r o) (ws_13 cI cL cZ ad g q r o (a1).toNatClampNeg (1 : Int32)) dc_K_note_29 ?_
      have h := h.2
      refine sw_sub [] rfl ?_
      exact b30 (st_u g 13 (a1).toNatClampNeg (1 : Int32)) q h
  · have h := h.2 z
    refine sw_aload_n X 0 rfl rfl dc_K_note_4 ?_
    refine sw_get X (fun z hz => List.mem_cons_of_mem _ (wf_K z hz)) 10 (wd_10 cI cL cZ ad g q r o) rfl 3 (by decide) (List.mem_cons_of_mem _ wm_fl_K_20) rfl dc_K_note_5 ?_
    refine sw_iload_n X 1 rfl rfl dc_K_note_8 ?_
    refine sw_iconst (v := 2) X dc_K_note_9 (by decide) ?_
    refine sw_iast X 13 0 (wd_13 cI cL cZ ad g q r o) rfl h.1 (wd_W cI cL cZ ad (st_u g 13 (a1).toNatClampNeg (2 : Int32)) q r o) (ws_13 cI cL cZ ad g q r o (a1).toNatClampNeg (2 : Int32)) dc_K_note_10 ?_
    have h := h.2
    refine sw_goto (tgt := 30) X dc_K_note_11 (by decide) ?_
    refine sw_sub [] rfl ?_
    exact b30 (st_u g 13 (a1).toNatClampNeg (2 : Int32)) q h
def wp_K_narrowed_L31 (Q : (Int64 → st_S → Prop)) (g : st_I) (q : st_L) (t0 : Int64) : Prop := Q t0 (g, q)
def wp_K_narrowed (a1 : Int64) (a2 : Int32) (a3 : Int32) (g : st_I) (q : st_L) (Q : (Int64 → st_S → Prop)) : Prop := vp_in a2 91 ∧ (¬ (g 2 (a2).toNatClampNeg) = 0 → wp_K_narrowed_L31 Q g q a1) ∧ ((g 2 (a2).toNatClampNeg) = 0 → vp_in a2 91 ∧ wp_K_with a1 (g 3 (a2).toNatClampNeg) a3 g q (fun x24 u24 => wp_K_narrowed_L31 Q u24.1 u24.2 x24))
set_option maxHeartbeats 4000000 in
set_option maxRecDepth 100000 in
theorem ct_K_narrowed (l : Launch) (D : va_G) (cI cL cZ : ClassId) (ad : Nat → Nat) (r : st_I) (o : st_L) (a1 : Int64) (a2 : Int32) (a3 : Int32) (g : st_I) (q : st_L) (Q : (Int64 → st_S → Prop)) (h : wp_K_narrowed a1 a2 a3 g q Q) : ∀ sz, Met l yn_K_narrowed (Cond.code yn_K_narrowed cd_K_narrowed 5 (some .long) :: wa_A) { frames := 1, cells := 0, slots := 0, locals := 24 } (va_Pc [.ref (ad 10), .long a1, .int a2, .int a3] (wq_S D cl_A (wd_T cI cL cZ) nw_A (wd_W cI cL cZ ad g q r o) sz)) (va_Ql Q (fun u t => wq_E D cl_A (wd_T cI cL cZ) (va_A (wd_W cI cL cZ ad g q r o) sz) (wd_W cI cL cZ ad u.1 u.2 r o) t) (va_A (wd_W cI cL cZ ad g q r o) sz)) 0 0 (va_A (wd_W cI cL cZ ad g q r o) sz) := by
  refine sw_met (Qc := fun A => va_Ql Q (fun u t => wq_E D cl_A (wd_T cI cL cZ) A (wd_W cI cL cZ ad u.1 u.2 r o) t) A) (by decide) rfl (Nat.le_of_ble_eq_true rfl) rfl ?_
  intro p e s m args below meth c A X hA hNs hE hr hlk hnm
  have b31 : ∀ (g : st_I) (q : st_L) (t0 : Int64), wp_K_narrowed_L31 Q g q t0 → sw_J p l e { frames := 1, cells := 0, slots := 0, locals := 24 } s m args below meth c 0 0 (MQ below (va_Ql Q (fun u t => wq_E D cl_A (wd_T cI cL cZ) A (wd_W cI cL cZ ad u.1 u.2 r o) t) A) args s 0 0 A) D cl_A A 5 (wd_W cI cL cZ ad g q r o) 31 [] [.long t0] := by
    intro g q t0 h
    exact sw_lret X hr hlk (u := (g, q)) rfl h dc_K_narrowed_31
  refine sw_aload_n X 0 rfl rfl dc_K_narrowed_0 ?_
  refine sw_get X (fun z hz => List.mem_cons_of_mem _ (wf_K z hz)) 10 (wd_10 cI cL cZ ad g q r o) rfl 0 (by decide) (List.mem_cons_of_mem _ wm_fl_K_23) rfl dc_K_narrowed_1 ?_
  refine sw_get X (fun z hz => List.mem_cons_of_mem _ (wf_P z hz)) 1 (wd_1 cI cL cZ ad g q r o) rfl 0 (by decide) (List.mem_cons_of_mem _ wm_fl_K_81) rfl dc_K_narrowed_4 ?_
  refine sw_iload_n X 2 rfl rfl dc_K_narrowed_7 ?_
  refine sw_iald X 2 0 (wd_2 cI cL cZ ad g q r o) rfl h.1 dc_K_narrowed_8 ?_
  have h := h.2
  refine sw_if_ne (tgt := 30) X dc_K_narrowed_9 (by decide) (fun z => ?_) (fun z => ?_)
  · have h := h.1 z
    refine sw_lload_n X 1 rfl rfl dc_K_narrowed_30 ?_
    refine sw_sub [] rfl ?_
    exact b31 g q a1 h
  · have h := h.2 z
    refine sw_lload_n X 1 rfl rfl dc_K_narrowed_12 ?_
    refine sw_aload_n X 0 rfl rfl dc_K_narrowed_13 ?_
    refine sw_get X (fun z hz => List.mem_cons_of_mem _ (wf_K z hz)) 10 (wd_10 cI cL cZ ad g q r o) rfl 0 (by decide) (List.mem_cons_of_mem _ wm_fl_K_23) rfl dc_K_narrowed_14 ?_
    refine sw_get X (fun z hz => List.mem_cons_of_mem _ (wf_P z hz)) 1 (wd_1 cI cL cZ ad g q r o) rfl 1 (by decide) (List.mem_cons_of_mem _ wm_fl_K_78) rfl dc_K_narrowed_17 ?_
    refine sw_iload_n X 2 rfl rfl dc_K_narrowed_20 ?_
    refine sw_iald X 3 0 (wd_3 cI cL cZ ad g q r o) rfl h.1 dc_K_narrowed_21 ?_
    have h := h.2
    refine sw_iload X 3 rfl dc_K_narrowed_22 ?_
    refine sw_cS_l (n := 3) X hA nw_okA hNs hE (fun u : st_S => wd_W cI cL cZ ad u.1 u.2 r o) [.long a1, .int (g 3 (a2).toNatClampNeg), .int a3] (ct_K_with l D cI cL cZ ad r o a1 (g 3 (a2).toNatClampNeg) a3 g q _ h) (List.mem_cons_of_mem _ wm_ml_K_61) (List.mem_cons_of_mem _ wm_st_K_with) rfl (wg_in wm_code_K_with) rfl rfl (List.mem_cons_of_mem _ wm_in_K) ⟨by decide, by decide, by decide +kernel⟩ ⟨Nat.le_of_ble_eq_true rfl, Nat.le_of_ble_eq_true rfl⟩ ⟨Nat.zero_le _, Nat.zero_le _⟩ rfl (Nat.le_of_ble_eq_true rfl) dc_K_narrowed_24 rfl (fun x24 u24 h => ?_)
    refine sw_goto (tgt := 31) X dc_K_narrowed_27 (by decide) ?_
    refine sw_sub [] rfl ?_
    exact b31 u24.1 u24.2 x24 h
def wp_K_kindsOfTwo_L66 (K : Int32 → Int64 → st_I → st_L → (Int32 → st_S → Prop) → Prop) (Q : (Int32 → st_S → Prop)) (g : st_I) (q : st_L)  : Prop := Q (0 : Int32) (g, q)
def wp_K_kindsOfTwo_L99 (K : Int32 → Int64 → st_I → st_L → (Int32 → st_S → Prop) → Prop) (Q : (Int32 → st_S → Prop)) (g : st_I) (q : st_L) (t0 : Int32) : Prop := Q t0 (g, q)
def wp_K_kindsOfTwo (K : Int32 → Int64 → st_I → st_L → (Int32 → st_S → Prop) → Prop) (a1 : Int32) (a2 : Int64) (g : st_I) (q : st_L) (Q : (Int32 → st_S → Prop)) : Prop := vp_in a1 91 ∧ K (g 4 (a1).toNatClampNeg) a2 g q (fun x11 u11 => vp_in a1 91 ∧ K (u11.1 5 (a1).toNatClampNeg) a2 u11.1 u11.2 (fun x27 u27 => vp_in a1 91 ∧ (¬ (u27.1 2 (a1).toNatClampNeg) = (12 : Int32) → (x11 = 0 → wp_K_kindsOfTwo_L66 K Q u27.1 u27.2) ∧ (¬ x11 = 0 → (¬ x27 = 0 → (¬ (u27.1 2 (a1).toNatClampNeg) = (6 : Int32) → (¬ (u27.1 2 (a1).toNatClampNeg) = (13 : Int32) → wp_K_numberKinds (u27.1 2 (a1).toNatClampNeg) x11 x27 u27.1 u27.2 (fun x96 u96 => wp_K_kindsOfTwo_L99 K Q u96.1 u96.2 x96)) ∧ ((u27.1 2 (a1).toNatClampNeg) = (13 : Int32) → wp_K_kindsOfTwo_L99 K Q u27.1 u27.2 (3 : Int32))) ∧ ((u27.1 2 (a1).toNatClampNeg) = (6 : Int32) → Q (256 : Int32) (u27.1, u27.2))) ∧ (x27 = 0 → wp_K_kindsOfTwo_L66 K Q u27.1 u27.2))) ∧ ((u27.1 2 (a1).toNatClampNeg) = (12 : Int32) → Q (x11 ||| x27) (u27.1, u27.2))))
set_option maxHeartbeats 4000000 in
set_option maxRecDepth 100000 in
theorem ct_K_kindsOfTwo (l : Launch) (D : va_G) (cI cL cZ : ClassId) (ad : Nat → Nat) (r : st_I) (o : st_L) (f lo : Nat) (K : Int32 → Int64 → st_I → st_L → (Int32 → st_S → Prop) → Prop) (hK : ∀ (b0 : Int32) (b1 : Int64) (g : st_I) (q : st_L) (Q : (Int32 → st_S → Prop)), K b0 b1 g q Q → ∀ sz, Met l yn_K_kinds (Cond.code yn_K_kinds cd_K_kinds 5 (some .int) :: wa_A) { frames := f, cells := 0, slots := 0, locals := lo } (va_Pc [.ref (ad 10), .int b0, .long b1] (wq_S D cl_A (wd_T cI cL cZ) nw_A (wd_W cI cL cZ ad g q r o) sz)) (va_Qi Q (fun u t => wq_E D cl_A (wd_T cI cL cZ) (va_A (wd_W cI cL cZ ad g q r o) sz) (wd_W cI cL cZ ad u.1 u.2 r o) t) (va_A (wd_W cI cL cZ ad g q r o) sz)) 0 0 (va_A (wd_W cI cL cZ ad g q r o) sz)) (a1 : Int32) (a2 : Int64) (g : st_I) (q : st_L) (Q : (Int32 → st_S → Prop)) (h : wp_K_kindsOfTwo K a1 a2 g q Q) : ∀ sz, Met l yn_K_kindsOfTwo (Cond.code yn_K_kindsOfTwo cd_K_kindsOfTwo 7 (some .int) :: wa_A) { frames := f + 2, cells := 0, slots := 0, locals := lo + 47 } (va_Pc [.ref (ad 10), .int a1, .long a2] (wq_S D cl_A (wd_T cI cL cZ) nw_A (wd_W cI cL cZ ad g q r o) sz)) (va_Qi Q (fun u t => wq_E D cl_A (wd_T cI cL cZ) (va_A (wd_W cI cL cZ ad g q r o) sz) (wd_W cI cL cZ ad u.1 u.2 r o) t) (va_A (wd_W cI cL cZ ad g q r o) sz)) 0 0 (va_A (wd_W cI cL cZ ad g q r o) sz) := by
  refine sw_met (Qc := fun A => va_Qi Q (fun u t => wq_E D cl_A (wd_T cI cL cZ) A (wd_W cI cL cZ ad u.1 u.2 r o) t) A) (by decide) rfl (Nat.le_of_ble_eq_true rfl) rfl ?_
  intro p e s m args below meth c A X hA hNs hE hr hlk hnm
  have b66 : ∀ (g : st_I) (q : st_L), wp_K_kindsOfTwo_L66 K Q g q → sw_J p l e { frames := f + 2, cells := 0, slots := 0, locals := lo + 47 } s m args below meth c 0 0 (MQ below (va_Qi Q (fun u t => wq_E D cl_A (wd_T cI cL cZ) A (wd_W cI cL cZ ad u.1 u.2 r o) t) A) args s 0 0 A) D cl_A A 7 (wd_W cI cL cZ ad g q r o) 66 [] [] := by
    intro g q h
    refine sw_iconst (v := 0) X dc_K_kindsOfTwo_66 (by decide) ?_
    exact sw_iret X hr hlk (u := (g, q)) rfl h dc_K_kindsOfTwo_67
  have b99 : ∀ (g : st_I) (q : st_L) (t0 : Int32), wp_K_kindsOfTwo_L99 K Q g q t0 → sw_J p l e { frames := f + 2, cells := 0, slots := 0, locals := lo + 47 } s m args below meth c 0 0 (MQ below (va_Qi Q (fun u t => wq_E D cl_A (wd_T cI cL cZ) A (wd_W cI cL cZ ad u.1 u.2 r o) t) A) args s 0 0 A) D cl_A A 7 (wd_W cI cL cZ ad g q r o) 99 [] [.int t0] := by
    intro g q t0 h
    exact sw_iret X hr hlk (u := (g, q)) rfl h dc_K_kindsOfTwo_99
  refine sw_aload_n X 0 rfl rfl dc_K_kindsOfTwo_0 ?_
  refine sw_aload_n X 0 rfl rfl dc_K_kindsOfTwo_1 ?_
  refine sw_get X (fun z hz => List.mem_cons_of_mem _ (wf_K z hz)) 10 (wd_10 cI cL cZ ad g q r o) rfl 0 (by decide) (List.mem_cons_of_mem _ wm_fl_K_23) rfl dc_K_kindsOfTwo_2 ?_
  refine sw_get X (fun z hz => List.mem_cons_of_mem _ (wf_P z hz)) 1 (wd_1 cI cL cZ ad g q r o) rfl 2 (by decide) (List.mem_cons_of_mem _ wm_fl_K_93) rfl dc_K_kindsOfTwo_5 ?_
  refine sw_iload_n X 1 rfl rfl dc_K_kindsOfTwo_8 ?_
  refine sw_iald X 4 0 (wd_4 cI cL cZ ad g q r o) rfl h.1 dc_K_kindsOfTwo_9 ?_
  have h := h.2
  refine sw_lload_n X 2 rfl rfl dc_K_kindsOfTwo_10 ?_
  refine sw_cV_i (n := 2) X hA nw_okA hNs hE (fun u : st_S => wd_W cI cL cZ ad u.1 u.2 r o) [.int (g 4 (a1).toNatClampNeg), .long a2] 10 (wd_10 cI cL cZ ad g q r o) rfl rfl (hK (g 4 (a1).toNatClampNeg) a2 g q _ h) (List.mem_cons_of_mem _ wm_ml_K_71) (List.mem_cons_of_mem _ wm_im_K_kinds) (List.mem_cons_of_mem _ wm_se_K_kinds) rfl (wg_in wm_code_K_kinds) rfl rfl (List.mem_cons_of_mem _ wm_in_K) ⟨by decide, by decide, by decide +kernel⟩ ⟨by dsimp only; omega, by dsimp only; omega⟩ ⟨Nat.zero_le _, Nat.zero_le _⟩ rfl (Nat.le_of_ble_eq_true rfl) dc_K_kindsOfTwo_11 rfl (fun x11 u11 h => ?_)
  refine sw_istore X [(4, .int x11), (0, .ref (ad 10)), (1, .int a1), (2, .long a2)] rfl (by decide) dc_K_kindsOfTwo_14 ?_
  refine sw_aload_n X 1 rfl rfl dc_K_kindsOfTwo_16 ?_
  refine sw_aload_n X 1 rfl rfl dc_K_kindsOfTwo_17 ?_
  refine sw_get X (fun z hz => List.mem_cons_of_mem _ (wf_K z hz)) 10 (wd_10 cI cL cZ ad u11.1 u11.2 r o) rfl 0 (by decide) (List.mem_cons_of_mem _ wm_fl_K_23) rfl dc_K_kindsOfTwo_18 ?_
  refine sw_get X (fun z hz => List.mem_cons_of_mem _ (wf_P z hz)) 1 (wd_1 cI cL cZ ad u11.1 u11.2 r o) rfl 3 (by decide) (List.mem_cons_of_mem _ wm_fl_K_108) rfl dc_K_kindsOfTwo_21 ?_
  refine sw_iload_n X 2 rfl rfl dc_K_kindsOfTwo_24 ?_
  refine sw_iald X 5 0 (wd_5 cI cL cZ ad u11.1 u11.2 r o) rfl h.1 dc_K_kindsOfTwo_25 ?_
  have h := h.2
  refine sw_lload_n X 3 rfl rfl dc_K_kindsOfTwo_26 ?_
  refine sw_cV_i (n := 2) X hA nw_okA hNs hE (fun u : st_S => wd_W cI cL cZ ad u.1 u.2 r o) [.int (u11.1 5 (a1).toNatClampNeg), .long a2] 10 (wd_10 cI cL cZ ad u11.1 u11.2 r o) rfl rfl (hK (u11.1 5 (a1).toNatClampNeg) a2 u11.1 u11.2 _ h) (List.mem_cons_of_mem _ wm_ml_K_71) (List.mem_cons_of_mem _ wm_im_K_kinds) (List.mem_cons_of_mem _ wm_se_K_kinds) rfl (wg_in wm_code_K_kinds) rfl rfl (List.mem_cons_of_mem _ wm_in_K) ⟨by decide, by decide, by decide +kernel⟩ ⟨by dsimp only; omega, by dsimp only; omega⟩ ⟨Nat.zero_le _, Nat.zero_le _⟩ rfl (Nat.le_of_ble_eq_true rfl) dc_K_kindsOfTwo_27 rfl (fun x27 u27 h => ?_)
  refine sw_istore X [(5, .int x27), (4, .int x11), (0, .ref (ad 10)), (1, .int a1), (2, .long a2)] rfl (by decide) dc_K_kindsOfTwo_30 ?_
  refine sw_aload_n X 2 rfl rfl dc_K_kindsOfTwo_32 ?_
  refine sw_get X (fun z hz => List.mem_cons_of_mem _ (wf_K z hz)) 10 (wd_10 cI cL cZ ad u27.1 u27.2 r o) rfl 0 (by decide) (List.mem_cons_of_mem _ wm_fl_K_23) rfl dc_K_kindsOfTwo_33 ?_
  refine sw_get X (fun z hz => List.mem_cons_of_mem _ (wf_P z hz)) 1 (wd_1 cI cL cZ ad u27.1 u27.2 r o) rfl 0 (by decide) (List.mem_cons_of_mem _ wm_fl_K_81) rfl dc_K_kindsOfTwo_36 ?_
  refine sw_iload_n X 3 rfl rfl dc_K_kindsOfTwo_39 ?_
  refine sw_iald X 2 0 (wd_2 cI cL cZ ad u27.1 u27.2 r o) rfl h.1 dc_K_kindsOfTwo_40 ?_
  have h := h.2
  refine sw_istore X [(6, .int (u27.1 2 (a1).toNatClampNeg)), (5, .int x27), (4, .int x11), (0, .ref (ad 10)), (1, .int a1), (2, .long a2)] rfl (by decide) dc_K_kindsOfTwo_41 ?_
  refine sw_iload X 0 rfl dc_K_kindsOfTwo_43 ?_
  refine sw_bipush (v := 12) X dc_K_kindsOfTwo_45 (by decide) ?_
  refine sw_icmp_ne (tgt := 56) X dc_K_kindsOfTwo_47 (by decide) (fun z => ?_) (fun z => ?_)
  · have h := h.1 z
    refine sw_iload X 2 rfl dc_K_kindsOfTwo_56 ?_
    refine sw_if_eq (tgt := 66) X dc_K_kindsOfTwo_58 (by decide) (fun z => ?_) (fun z => ?_)
    · have h := h.1 z
      refine sw_sub [] rfl ?_
      exact b66 u27.1 u27.2 h
    · have h := h.2 z
      refine sw_iload X 1 rfl dc_K_kindsOfTwo_61 ?_
      refine sw_if_ne (tgt := 68) X dc_K_kindsOfTwo_63 (by decide) (fun z => ?_) (fun z => ?_)
      · have h := h.1 z
        refine sw_iload X 0 rfl dc_K_kindsOfTwo_68 ?_
        refine sw_bipush (v := 6) X dc_K_kindsOfTwo_70 (by decide) ?_
        refine sw_icmp_ne (tgt := 79) X dc_K_kindsOfTwo_72 (by decide) (fun z => ?_) (fun z => ?_)
        · have h := h.1 z
          refine sw_iload X 0 rfl dc_K_kindsOfTwo_79 ?_
          refine sw_bipush (v := 13) X dc_K_kindsOfTwo_81 (by decide) ?_
          refine sw_icmp_ne (tgt := 90) X dc_K_kindsOfTwo_83 (by decide) (fun z => ?_) (fun z => ?_)
          · have h := h.1 z
            refine sw_iload X 0 rfl dc_K_kindsOfTwo_90 ?_
            refine sw_iload X 2 rfl dc_K_kindsOfTwo_92 ?_
            refine sw_iload X 1 rfl dc_K_kindsOfTwo_94 ?_
            refine sw_cS_i (n := 3) X hA nw_okA hNs hE (fun u : st_S => wd_W cI cL cZ ad u.1 u.2 r o) [.int (u27.1 2 (a1).toNatClampNeg), .int x11, .int x27] (ct_K_numberKinds l D cI cL cZ ad r o (u27.1 2 (a1).toNatClampNeg) x11 x27 u27.1 u27.2 _ h) (List.mem_cons_of_mem _ wm_ml_K_111) (List.mem_cons_of_mem _ wm_st_K_numberKinds) rfl (wg_in wm_code_K_numberKinds) rfl rfl (List.mem_cons_of_mem _ wm_in_K) ⟨by decide, by decide, by decide +kernel⟩ ⟨by dsimp only; omega, by dsimp only; omega⟩ ⟨Nat.zero_le _, Nat.zero_le _⟩ rfl (Nat.le_of_ble_eq_true rfl) dc_K_kindsOfTwo_96 rfl (fun x96 u96 h => ?_)
            refine sw_sub [] rfl ?_
            exact b99 u96.1 u96.2 x96 h
          · have h := h.2 z
            refine sw_iconst (v := 3) X dc_K_kindsOfTwo_86 (by decide) ?_
            refine sw_goto (tgt := 99) X dc_K_kindsOfTwo_87 (by decide) ?_
            refine sw_sub [] rfl ?_
            exact b99 u27.1 u27.2 (3 : Int32) h
        · have h := h.2 z
          refine sw_sipush (v := 256) X dc_K_kindsOfTwo_75 (by decide) ?_
          exact sw_iret X hr hlk (u := (u27.1, u27.2)) rfl h dc_K_kindsOfTwo_78
      · have h := h.2 z
        refine sw_sub [] rfl ?_
        exact b66 u27.1 u27.2 h
  · have h := h.2 z
    refine sw_iload X 2 rfl dc_K_kindsOfTwo_50 ?_
    refine sw_iload X 1 rfl dc_K_kindsOfTwo_52 ?_
    refine sw_ior X dc_K_kindsOfTwo_54 ?_
    exact sw_iret X hr hlk (u := (u27.1, u27.2)) rfl h dc_K_kindsOfTwo_55
def wp_K_caseKinds_L114 (K : Int32 → Int64 → st_I → st_L → (Int32 → st_S → Prop) → Prop) (Q : (Int32 → st_S → Prop)) (g : st_I) (q : st_L) (v9 : Int32) : Prop := Q v9 (g, q)
def wp_K_caseKinds_L82 (K : Int32 → Int64 → st_I → st_L → (Int32 → st_S → Prop) → Prop) (Q : (Int32 → st_S → Prop)) (g : st_I) (q : st_L) (v1 : Int32) (v2 : Int64) (v4 : Int32) (v8 : Int32) (v9 : Int32) : Prop := (v8 = 0 → wp_K_caseKinds_L114 K Q g q v9) ∧ (¬ v8 = 0 → vp_in v1 91 ∧ wp_K_narrowed v2 v4 v8 g q (fun x105 u105 => K (g 6 (v1).toNatClampNeg) x105 u105.1 u105.2 (fun x108 u108 => wp_K_caseKinds_L114 K Q u108.1 u108.2 (v9 ||| x108))))
def wp_K_caseKinds (K : Int32 → Int64 → st_I → st_L → (Int32 → st_S → Prop) → Prop) (a1 : Int32) (a2 : Int64) (g : st_I) (q : st_L) (Q : (Int32 → st_S → Prop)) : Prop := vp_in a1 91 ∧ vp_in a1 91 ∧ K (g 4 (a1).toNatClampNeg) a2 g q (fun x26 u26 => ((x26 &&& (g 3 (a1).toNatClampNeg)) = 0 → wp_K_caseKinds_L82 K Q u26.1 u26.2 a1 a2 (g 4 (a1).toNatClampNeg) (x26 &&& ((g 3 (a1).toNatClampNeg) ^^^ ((-1) : Int32))) (0 : Int32)) ∧ (¬ (x26 &&& (g 3 (a1).toNatClampNeg)) = 0 → vp_in a1 91 ∧ wp_K_narrowed a2 (g 4 (a1).toNatClampNeg) (x26 &&& (g 3 (a1).toNatClampNeg)) u26.1 u26.2 (fun x73 u73 => K (u26.1 5 (a1).toNatClampNeg) x73 u73.1 u73.2 (fun x76 u76 => wp_K_caseKinds_L82 K Q u76.1 u76.2 a1 a2 (g 4 (a1).toNatClampNeg) (x26 &&& ((g 3 (a1).toNatClampNeg) ^^^ ((-1) : Int32))) ((0 : Int32) ||| x76)))))
set_option maxHeartbeats 4000000 in
set_option maxRecDepth 100000 in
theorem ct_K_caseKinds (l : Launch) (D : va_G) (cI cL cZ : ClassId) (ad : Nat → Nat) (r : st_I) (o : st_L) (f lo : Nat) (K : Int32 → Int64 → st_I → st_L → (Int32 → st_S → Prop) → Prop) (hK : ∀ (b0 : Int32) (b1 : Int64) (g : st_I) (q : st_L) (Q : (Int32 → st_S → Prop)), K b0 b1 g q Q → ∀ sz, Met l yn_K_kinds (Cond.code yn_K_kinds cd_K_kinds 5 (some .int) :: wa_A) { frames := f, cells := 0, slots := 0, locals := lo } (va_Pc [.ref (ad 10), .int b0, .long b1] (wq_S D cl_A (wd_T cI cL cZ) nw_A (wd_W cI cL cZ ad g q r o) sz)) (va_Qi Q (fun u t => wq_E D cl_A (wd_T cI cL cZ) (va_A (wd_W cI cL cZ ad g q r o) sz) (wd_W cI cL cZ ad u.1 u.2 r o) t) (va_A (wd_W cI cL cZ ad g q r o) sz)) 0 0 (va_A (wd_W cI cL cZ ad g q r o) sz)) (a1 : Int32) (a2 : Int64) (g : st_I) (q : st_L) (Q : (Int32 → st_S → Prop)) (h : wp_K_caseKinds K a1 a2 g q Q) : ∀ sz, Met l yn_K_caseKinds (Cond.code yn_K_caseKinds cd_K_caseKinds 10 (some .int) :: wa_A) { frames := f + 2, cells := 0, slots := 0, locals := lo + 48 } (va_Pc [.ref (ad 10), .int a1, .long a2] (wq_S D cl_A (wd_T cI cL cZ) nw_A (wd_W cI cL cZ ad g q r o) sz)) (va_Qi Q (fun u t => wq_E D cl_A (wd_T cI cL cZ) (va_A (wd_W cI cL cZ ad g q r o) sz) (wd_W cI cL cZ ad u.1 u.2 r o) t) (va_A (wd_W cI cL cZ ad g q r o) sz)) 0 0 (va_A (wd_W cI cL cZ ad g q r o) sz) := by
  refine sw_met (Qc := fun A => va_Qi Q (fun u t => wq_E D cl_A (wd_T cI cL cZ) A (wd_W cI cL cZ ad u.1 u.2 r o) t) A) (by decide) rfl (Nat.le_of_ble_eq_true rfl) rfl ?_
  intro p e s m args below meth c A X hA hNs hE hr hlk hnm
  have b114 : ∀ (g : st_I) (q : st_L) (v9 : Int32), wp_K_caseKinds_L114 K Q g q v9 → sw_J p l e { frames := f + 2, cells := 0, slots := 0, locals := lo + 48 } s m args below meth c 0 0 (MQ below (va_Qi Q (fun u t => wq_E D cl_A (wd_T cI cL cZ) A (wd_W cI cL cZ ad u.1 u.2 r o) t) A) args s 0 0 A) D cl_A A 10 (wd_W cI cL cZ ad g q r o) 114 [(9, .int v9)] [] := by
    intro g q v9 h
    refine sw_iload X 0 rfl dc_K_caseKinds_114 ?_
    exact sw_iret X hr hlk (u := (g, q)) rfl h dc_K_caseKinds_116
  have b82 : ∀ (g : st_I) (q : st_L) (v1 : Int32) (v2 : Int64) (v4 : Int32) (v8 : Int32) (v9 : Int32), wp_K_caseKinds_L82 K Q g q v1 v2 v4 v8 v9 → sw_J p l e { frames := f + 2, cells := 0, slots := 0, locals := lo + 48 } s m args below meth c 0 0 (MQ below (va_Qi Q (fun u t => wq_E D cl_A (wd_T cI cL cZ) A (wd_W cI cL cZ ad u.1 u.2 r o) t) A) args s 0 0 A) D cl_A A 10 (wd_W cI cL cZ ad g q r o) 82 [(0, .ref (ad 10)), (1, .int v1), (2, .long v2), (4, .int v4), (8, .int v8), (9, .int v9)] [] := by
    intro g q v1 v2 v4 v8 v9 h
    refine sw_iload X 4 rfl dc_K_caseKinds_82 ?_
    refine sw_if_eq (tgt := 114) X dc_K_caseKinds_84 (by decide) (fun z => ?_) (fun z => ?_)
    · have h := h.1 z
      refine sw_sub [5] rfl ?_
      exact b114 g q v9 h
    · have h := h.2 z
      refine sw_iload X 5 rfl dc_K_caseKinds_87 ?_
      refine sw_aload_n X 0 rfl rfl dc_K_caseKinds_89 ?_
      refine sw_aload_n X 0 rfl rfl dc_K_caseKinds_90 ?_
      refine sw_get X (fun z hz => List.mem_cons_of_mem _ (wf_K z hz)) 10 (wd_10 cI cL cZ ad g q r o) rfl 0 (by decide) (List.mem_cons_of_mem _ wm_fl_K_23) rfl dc_K_caseKinds_91 ?_
      refine sw_get X (fun z hz => List.mem_cons_of_mem _ (wf_P z hz)) 1 (wd_1 cI cL cZ ad g q r o) rfl 4 (by decide) (List.mem_cons_of_mem _ wm_fl_K_121) rfl dc_K_caseKinds_94 ?_
      refine sw_iload_n X 1 rfl rfl dc_K_caseKinds_97 ?_
      refine sw_iald X 6 0 (wd_6 cI cL cZ ad g q r o) rfl h.1 dc_K_caseKinds_98 ?_
      have h := h.2
      refine sw_aload_n X 0 rfl rfl dc_K_caseKinds_99 ?_
      refine sw_lload_n X 2 rfl rfl dc_K_caseKinds_100 ?_
      refine sw_iload X 3 rfl dc_K_caseKinds_101 ?_
      refine sw_iload X 4 rfl dc_K_caseKinds_103 ?_
      refine sw_cV_l (n := 3) X hA nw_okA hNs hE (fun u : st_S => wd_W cI cL cZ ad u.1 u.2 r o) [.long v2, .int v4, .int v8] 10 (wd_10 cI cL cZ ad g q r o) rfl rfl (ct_K_narrowed l D cI cL cZ ad r o v2 v4 v8 g q _ h) (List.mem_cons_of_mem _ wm_ml_K_118) (List.mem_cons_of_mem _ wm_im_K_narrowed) (List.mem_cons_of_mem _ wm_se_K_narrowed) rfl (wg_in wm_code_K_narrowed) rfl rfl (List.mem_cons_of_mem _ wm_in_K) ⟨by decide, by decide, by decide +kernel⟩ ⟨by dsimp only; omega, by dsimp only; omega⟩ ⟨Nat.zero_le _, Nat.zero_le _⟩ rfl (Nat.le_of_ble_eq_true rfl) dc_K_caseKinds_105 rfl (fun x105 u105 h => ?_)
      refine sw_cV_i (n := 2) X hA nw_okA hNs hE (fun u : st_S => wd_W cI cL cZ ad u.1 u.2 r o) [.int (g 6 (v1).toNatClampNeg), .long x105] 10 (wd_10 cI cL cZ ad u105.1 u105.2 r o) rfl rfl (hK (g 6 (v1).toNatClampNeg) x105 u105.1 u105.2 _ h) (List.mem_cons_of_mem _ wm_ml_K_71) (List.mem_cons_of_mem _ wm_im_K_kinds) (List.mem_cons_of_mem _ wm_se_K_kinds) rfl (wg_in wm_code_K_kinds) rfl rfl (List.mem_cons_of_mem _ wm_in_K) ⟨by decide, by decide, by decide +kernel⟩ ⟨by dsimp only; omega, by dsimp only; omega⟩ ⟨Nat.zero_le _, Nat.zero_le _⟩ rfl (Nat.le_of_ble_eq_true rfl) dc_K_caseKinds_108 rfl (fun x108 u108 h => ?_)
      refine sw_ior X dc_K_caseKinds_111 ?_
      refine sw_istore X [(9, .int (v9 ||| x108)), (0, .ref (ad 10)), (1, .int v1), (2, .long v2), (4, .int v4), (8, .int v8)] rfl (by decide) dc_K_caseKinds_112 ?_
      refine sw_sub [0] rfl ?_
      exact b114 u108.1 u108.2 (v9 ||| x108) h
  refine sw_aload_n X 0 rfl rfl dc_K_caseKinds_0 ?_
  refine sw_get X (fun z hz => List.mem_cons_of_mem _ (wf_K z hz)) 10 (wd_10 cI cL cZ ad g q r o) rfl 0 (by decide) (List.mem_cons_of_mem _ wm_fl_K_23) rfl dc_K_caseKinds_1 ?_
  refine sw_get X (fun z hz => List.mem_cons_of_mem _ (wf_P z hz)) 1 (wd_1 cI cL cZ ad g q r o) rfl 2 (by decide) (List.mem_cons_of_mem _ wm_fl_K_93) rfl dc_K_caseKinds_4 ?_
  refine sw_iload_n X 1 rfl rfl dc_K_caseKinds_7 ?_
  refine sw_iald X 4 0 (wd_4 cI cL cZ ad g q r o) rfl h.1 dc_K_caseKinds_8 ?_
  have h := h.2
  refine sw_istore X [(4, .int (g 4 (a1).toNatClampNeg)), (0, .ref (ad 10)), (1, .int a1), (2, .long a2)] rfl (by decide) dc_K_caseKinds_9 ?_
  refine sw_aload_n X 1 rfl rfl dc_K_caseKinds_11 ?_
  refine sw_get X (fun z hz => List.mem_cons_of_mem _ (wf_K z hz)) 10 (wd_10 cI cL cZ ad g q r o) rfl 0 (by decide) (List.mem_cons_of_mem _ wm_fl_K_23) rfl dc_K_caseKinds_12 ?_
  refine sw_get X (fun z hz => List.mem_cons_of_mem _ (wf_P z hz)) 1 (wd_1 cI cL cZ ad g q r o) rfl 1 (by decide) (List.mem_cons_of_mem _ wm_fl_K_78) rfl dc_K_caseKinds_15 ?_
  refine sw_iload_n X 2 rfl rfl dc_K_caseKinds_18 ?_
  refine sw_iald X 3 0 (wd_3 cI cL cZ ad g q r o) rfl h.1 dc_K_caseKinds_19 ?_
  have h := h.2
  refine sw_istore X [(5, .int (g 3 (a1).toNatClampNeg)), (4, .int (g 4 (a1).toNatClampNeg)), (0, .ref (ad 10)), (1, .int a1), (2, .long a2)] rfl (by decide) dc_K_caseKinds_20 ?_
  refine sw_aload_n X 2 rfl rfl dc_K_caseKinds_22 ?_
  refine sw_iload X 1 rfl dc_K_caseKinds_23 ?_
  refine sw_lload_n X 4 rfl rfl dc_K_caseKinds_25 ?_
  refine sw_cV_i (n := 2) X hA nw_okA hNs hE (fun u : st_S => wd_W cI cL cZ ad u.1 u.2 r o) [.int (g 4 (a1).toNatClampNeg), .long a2] 10 (wd_10 cI cL cZ ad g q r o) rfl rfl (hK (g 4 (a1).toNatClampNeg) a2 g q _ h) (List.mem_cons_of_mem _ wm_ml_K_71) (List.mem_cons_of_mem _ wm_im_K_kinds) (List.mem_cons_of_mem _ wm_se_K_kinds) rfl (wg_in wm_code_K_kinds) rfl rfl (List.mem_cons_of_mem _ wm_in_K) ⟨by decide, by decide, by decide +kernel⟩ ⟨by dsimp only; omega, by dsimp only; omega⟩ ⟨Nat.zero_le _, Nat.zero_le _⟩ rfl (Nat.le_of_ble_eq_true rfl) dc_K_caseKinds_26 rfl (fun x26 u26 h => ?_)
  refine sw_istore X [(6, .int x26), (5, .int (g 3 (a1).toNatClampNeg)), (4, .int (g 4 (a1).toNatClampNeg)), (0, .ref (ad 10)), (1, .int a1), (2, .long a2)] rfl (by decide) dc_K_caseKinds_29 ?_
  refine sw_iload X 0 rfl dc_K_caseKinds_31 ?_
  refine sw_iload X 1 rfl dc_K_caseKinds_33 ?_
  refine sw_iand X dc_K_caseKinds_35 ?_
  refine sw_istore X [(7, .int (x26 &&& (g 3 (a1).toNatClampNeg))), (6, .int x26), (5, .int (g 3 (a1).toNatClampNeg)), (4, .int (g 4 (a1).toNatClampNeg)), (0, .ref (ad 10)), (1, .int a1), (2, .long a2)] rfl (by decide) dc_K_caseKinds_36 ?_
  refine sw_iload X 1 rfl dc_K_caseKinds_38 ?_
  refine sw_iload X 2 rfl dc_K_caseKinds_40 ?_
  refine sw_iconst (v := -1) X dc_K_caseKinds_42 (by decide) ?_
  refine sw_ixor X dc_K_caseKinds_43 ?_
  refine sw_iand X dc_K_caseKinds_44 ?_
  refine sw_istore X [(8, .int (x26 &&& ((g 3 (a1).toNatClampNeg) ^^^ ((-1) : Int32)))), (7, .int (x26 &&& (g 3 (a1).toNatClampNeg))), (6, .int x26), (5, .int (g 3 (a1).toNatClampNeg)), (4, .int (g 4 (a1).toNatClampNeg)), (0, .ref (ad 10)), (1, .int a1), (2, .long a2)] rfl (by decide) dc_K_caseKinds_45 ?_
  refine sw_iconst (v := 0) X dc_K_caseKinds_47 (by decide) ?_
  refine sw_istore X [(9, .int (0 : Int32)), (8, .int (x26 &&& ((g 3 (a1).toNatClampNeg) ^^^ ((-1) : Int32)))), (7, .int (x26 &&& (g 3 (a1).toNatClampNeg))), (6, .int x26), (5, .int (g 3 (a1).toNatClampNeg)), (4, .int (g 4 (a1).toNatClampNeg)), (0, .ref (ad 10)), (1, .int a1), (2, .long a2)] rfl (by decide) dc_K_caseKinds_48 ?_
  refine sw_iload X 2 rfl dc_K_caseKinds_50 ?_
  refine sw_if_eq (tgt := 82) X dc_K_caseKinds_52 (by decide) (fun z => ?_) (fun z => ?_)
  · have h := h.1 z
    refine sw_sub [6, 7, 8, 5, 1, 0] rfl ?_
    exact b82 u26.1 u26.2 a1 a2 (g 4 (a1).toNatClampNeg) (x26 &&& ((g 3 (a1).toNatClampNeg) ^^^ ((-1) : Int32))) (0 : Int32) h
  · have h := h.2 z
    refine sw_iload X 0 rfl dc_K_caseKinds_55 ?_
    refine sw_aload_n X 6 rfl rfl dc_K_caseKinds_57 ?_
    refine sw_aload_n X 6 rfl rfl dc_K_caseKinds_58 ?_
    refine sw_get X (fun z hz => List.mem_cons_of_mem _ (wf_K z hz)) 10 (wd_10 cI cL cZ ad u26.1 u26.2 r o) rfl 0 (by decide) (List.mem_cons_of_mem _ wm_fl_K_23) rfl dc_K_caseKinds_59 ?_
    refine sw_get X (fun z hz => List.mem_cons_of_mem _ (wf_P z hz)) 1 (wd_1 cI cL cZ ad u26.1 u26.2 r o) rfl 3 (by decide) (List.mem_cons_of_mem _ wm_fl_K_108) rfl dc_K_caseKinds_62 ?_
    refine sw_iload_n X 7 rfl rfl dc_K_caseKinds_65 ?_
    refine sw_iald X 5 0 (wd_5 cI cL cZ ad u26.1 u26.2 r o) rfl h.1 dc_K_caseKinds_66 ?_
    have h := h.2
    refine sw_aload_n X 6 rfl rfl dc_K_caseKinds_67 ?_
    refine sw_lload_n X 8 rfl rfl dc_K_caseKinds_68 ?_
    refine sw_iload X 5 rfl dc_K_caseKinds_69 ?_
    refine sw_iload X 2 rfl dc_K_caseKinds_71 ?_
    refine sw_cV_l (n := 3) X hA nw_okA hNs hE (fun u : st_S => wd_W cI cL cZ ad u.1 u.2 r o) [.long a2, .int (g 4 (a1).toNatClampNeg), .int (x26 &&& (g 3 (a1).toNatClampNeg))] 10 (wd_10 cI cL cZ ad u26.1 u26.2 r o) rfl rfl (ct_K_narrowed l D cI cL cZ ad r o a2 (g 4 (a1).toNatClampNeg) (x26 &&& (g 3 (a1).toNatClampNeg)) u26.1 u26.2 _ h) (List.mem_cons_of_mem _ wm_ml_K_118) (List.mem_cons_of_mem _ wm_im_K_narrowed) (List.mem_cons_of_mem _ wm_se_K_narrowed) rfl (wg_in wm_code_K_narrowed) rfl rfl (List.mem_cons_of_mem _ wm_in_K) ⟨by decide, by decide, by decide +kernel⟩ ⟨by dsimp only; omega, by dsimp only; omega⟩ ⟨Nat.zero_le _, Nat.zero_le _⟩ rfl (Nat.le_of_ble_eq_true rfl) dc_K_caseKinds_73 rfl (fun x73 u73 h => ?_)
    refine sw_cV_i (n := 2) X hA nw_okA hNs hE (fun u : st_S => wd_W cI cL cZ ad u.1 u.2 r o) [.int (u26.1 5 (a1).toNatClampNeg), .long x73] 10 (wd_10 cI cL cZ ad u73.1 u73.2 r o) rfl rfl (hK (u26.1 5 (a1).toNatClampNeg) x73 u73.1 u73.2 _ h) (List.mem_cons_of_mem _ wm_ml_K_71) (List.mem_cons_of_mem _ wm_im_K_kinds) (List.mem_cons_of_mem _ wm_se_K_kinds) rfl (wg_in wm_code_K_kinds) rfl rfl (List.mem_cons_of_mem _ wm_in_K) ⟨by decide, by decide, by decide +kernel⟩ ⟨by dsimp only; omega, by dsimp only; omega⟩ ⟨Nat.zero_le _, Nat.zero_le _⟩ rfl (Nat.le_of_ble_eq_true rfl) dc_K_caseKinds_76 rfl (fun x76 u76 h => ?_)
    refine sw_ior X dc_K_caseKinds_79 ?_
    refine sw_istore X [(9, .int ((0 : Int32) ||| x76)), (8, .int (x26 &&& ((g 3 (a1).toNatClampNeg) ^^^ ((-1) : Int32)))), (7, .int (x26 &&& (g 3 (a1).toNatClampNeg))), (6, .int x26), (5, .int (g 3 (a1).toNatClampNeg)), (4, .int (g 4 (a1).toNatClampNeg)), (0, .ref (ad 10)), (1, .int a1), (2, .long a2)] rfl (by decide) dc_K_caseKinds_80 ?_
    refine sw_sub [6, 7, 8, 5, 1, 0] rfl ?_
    exact b82 u76.1 u76.2 a1 a2 (g 4 (a1).toNatClampNeg) (x26 &&& ((g 3 (a1).toNatClampNeg) ^^^ ((-1) : Int32))) ((0 : Int32) ||| x76) h
def wp_K_callKinds_L113 (K : Int32 → Int64 → st_I → st_L → (Int32 → st_S → Prop) → Prop) (Q : (Int32 → st_S → Prop)) (g : st_I) (q : st_L) (v1 : Int32) (t0 : Int32) : Prop := wp_K_note v1 t0 g q (fun u119 => Q t0 (u119.1, u119.2))
def wp_K_callKinds_L97 (K : Int32 → Int64 → st_I → st_L → (Int32 → st_S → Prop) → Prop) (Q : (Int32 → st_S → Prop)) (g : st_I) (q : st_L) (v1 : Int32) (v4 : Int32) (v5 : Int32) : Prop := (v5 = 0 → wp_K_callKinds_L113 K Q g q v1 (0 : Int32)) ∧ (¬ v5 = 0 → vp_in v4 6 ∧ wp_K_callKinds_L113 K Q g q v1 (g 12 (v4).toNatClampNeg))
def wp_K_callKinds_L94 (K : Int32 → Int64 → st_I → st_L → (Int32 → st_S → Prop) → Prop) (Q : (Int32 → st_S → Prop)) (g : st_I) (q : st_L) (v1 : Int32) (v4 : Int32) (t0 : Int32) (t1 : Int32) : Prop := wp_K_callKinds_L97 K Q g q v1 v4 (t1 &&& t0)
def wp_K_callKinds_L43 (K : Int32 → Int64 → st_I → st_L → (Int32 → st_S → Prop) → Prop) (Q : (Int32 → st_S → Prop)) (g : st_I) (q : st_L) (v1 : Int32) (v2 : Int64) (v4 : Int32) (t0 : Int32) : Prop := wp_S_parametersOf v4 g q (fun x47 u47 => (¬ x47 = (2 : Int32) → wp_K_callKinds_L97 K Q u47.1 u47.2 v1 v4 t0) ∧ (x47 = (2 : Int32) → vp_in v1 91 ∧ K (u47.1 5 (v1).toNatClampNeg) v2 u47.1 u47.2 (fun x65 u65 => vp_in ((v4 * (2 : Int32)) + (1 : Int32)) 12 ∧ ((x65 &&& (u65.1 11 (((v4 * (2 : Int32)) + (1 : Int32))).toNatClampNeg)) = 0 → wp_K_callKinds_L94 K Q u65.1 u65.2 v1 v4 (0 : Int32) t0) ∧ (¬ (x65 &&& (u65.1 11 (((v4 * (2 : Int32)) + (1 : Int32))).toNatClampNeg)) = 0 → wp_K_callKinds_L94 K Q u65.1 u65.2 v1 v4 (1 : Int32) t0))))
def wp_K_callKinds (K : Int32 → Int64 → st_I → st_L → (Int32 → st_S → Prop) → Prop) (a1 : Int32) (a2 : Int64) (g : st_I) (q : st_L) (Q : (Int32 → st_S → Prop)) : Prop := vp_in a1 91 ∧ vp_in a1 91 ∧ K (g 4 (a1).toNatClampNeg) a2 g q (fun x22 u22 => vp_in ((g 3 (a1).toNatClampNeg) * (2 : Int32)) 12 ∧ ((x22 &&& (u22.1 11 (((g 3 (a1).toNatClampNeg) * (2 : Int32))).toNatClampNeg)) = 0 → wp_K_callKinds_L43 K Q u22.1 u22.2 a1 a2 (g 3 (a1).toNatClampNeg) (0 : Int32)) ∧ (¬ (x22 &&& (u22.1 11 (((g 3 (a1).toNatClampNeg) * (2 : Int32))).toNatClampNeg)) = 0 → wp_K_callKinds_L43 K Q u22.1 u22.2 a1 a2 (g 3 (a1).toNatClampNeg) (1 : Int32)))
set_option maxHeartbeats 4000000 in
set_option maxRecDepth 100000 in
theorem ct_K_callKinds (l : Launch) (D : va_G) (cI cL cZ : ClassId) (ad : Nat → Nat) (r : st_I) (o : st_L) (f lo : Nat) (K : Int32 → Int64 → st_I → st_L → (Int32 → st_S → Prop) → Prop) (hK : ∀ (b0 : Int32) (b1 : Int64) (g : st_I) (q : st_L) (Q : (Int32 → st_S → Prop)), K b0 b1 g q Q → ∀ sz, Met l yn_K_kinds (Cond.code yn_K_kinds cd_K_kinds 5 (some .int) :: wa_A) { frames := f, cells := 0, slots := 0, locals := lo } (va_Pc [.ref (ad 10), .int b0, .long b1] (wq_S D cl_A (wd_T cI cL cZ) nw_A (wd_W cI cL cZ ad g q r o) sz)) (va_Qi Q (fun u t => wq_E D cl_A (wd_T cI cL cZ) (va_A (wd_W cI cL cZ ad g q r o) sz) (wd_W cI cL cZ ad u.1 u.2 r o) t) (va_A (wd_W cI cL cZ ad g q r o) sz)) 0 0 (va_A (wd_W cI cL cZ ad g q r o) sz)) (a1 : Int32) (a2 : Int64) (g : st_I) (q : st_L) (Q : (Int32 → st_S → Prop)) (h : wp_K_callKinds K a1 a2 g q Q) : ∀ sz, Met l yn_K_callKinds (Cond.code yn_K_callKinds cd_K_callKinds 7 (some .int) :: wa_A) { frames := f + 1, cells := 0, slots := 0, locals := lo + 24 } (va_Pc [.ref (ad 10), .int a1, .long a2] (wq_S D cl_A (wd_T cI cL cZ) nw_A (wd_W cI cL cZ ad g q r o) sz)) (va_Qi Q (fun u t => wq_E D cl_A (wd_T cI cL cZ) (va_A (wd_W cI cL cZ ad g q r o) sz) (wd_W cI cL cZ ad u.1 u.2 r o) t) (va_A (wd_W cI cL cZ ad g q r o) sz)) 0 0 (va_A (wd_W cI cL cZ ad g q r o) sz) := by
  refine sw_met (Qc := fun A => va_Qi Q (fun u t => wq_E D cl_A (wd_T cI cL cZ) A (wd_W cI cL cZ ad u.1 u.2 r o) t) A) (by decide) rfl (Nat.le_of_ble_eq_true rfl) rfl ?_
  intro p e s m args below meth c A X hA hNs hE hr hlk hnm
  have b113 : ∀ (g : st_I) (q : st_L) (v1 : Int32) (t0 : Int32), wp_K_callKinds_L113 K Q g q v1 t0 → sw_J p l e { frames := f + 1, cells := 0, slots := 0, locals := lo + 24 } s m args below meth c 0 0 (MQ below (va_Qi Q (fun u t => wq_E D cl_A (wd_T cI cL cZ) A (wd_W cI cL cZ ad u.1 u.2 r o) t) A) args s 0 0 A) D cl_A A 7 (wd_W cI cL cZ ad g q r o) 113 [(0, .ref (ad 10)), (1, .int v1)] [.int t0] := by
    intro g q v1 t0 h
    refine sw_istore X [(6, .int t0), (0, .ref (ad 10)), (1, .int v1)] rfl (by decide) dc_K_callKinds_113 ?_
    refine sw_aload_n X 1 rfl rfl dc_K_callKinds_115 ?_
    refine sw_iload_n X 2 rfl rfl dc_K_callKinds_116 ?_
    refine sw_iload X 0 rfl dc_K_callKinds_117 ?_
    refine sw_cV_v (n := 2) X hA nw_okA hNs hE (fun u : st_S => wd_W cI cL cZ ad u.1 u.2 r o) [.int v1, .int t0] 10 (wd_10 cI cL cZ ad g q r o) rfl rfl (ct_K_note l D cI cL cZ ad r o v1 t0 g q _ h) (List.mem_cons_of_mem _ wm_ml_K_124) (List.mem_cons_of_mem _ wm_im_K_note) (List.mem_cons_of_mem _ wm_se_K_note) rfl (wg_in wm_code_K_note) rfl rfl (List.mem_cons_of_mem _ wm_in_K) ⟨by decide, by decide, by decide +kernel⟩ ⟨by dsimp only; omega, by dsimp only; omega⟩ ⟨Nat.zero_le _, Nat.zero_le _⟩ rfl (Nat.le_of_ble_eq_true rfl) dc_K_callKinds_119 rfl (fun u119 h => ?_)
    refine sw_iload X 0 rfl dc_K_callKinds_122 ?_
    exact sw_iret X hr hlk (u := (u119.1, u119.2)) rfl h dc_K_callKinds_124
  have b97 : ∀ (g : st_I) (q : st_L) (v1 : Int32) (v4 : Int32) (v5 : Int32), wp_K_callKinds_L97 K Q g q v1 v4 v5 → sw_J p l e { frames := f + 1, cells := 0, slots := 0, locals := lo + 24 } s m args below meth c 0 0 (MQ below (va_Qi Q (fun u t => wq_E D cl_A (wd_T cI cL cZ) A (wd_W cI cL cZ ad u.1 u.2 r o) t) A) args s 0 0 A) D cl_A A 7 (wd_W cI cL cZ ad g q r o) 97 [(0, .ref (ad 10)), (1, .int v1), (4, .int v4), (5, .int v5)] [] := by
    intro g q v1 v4 v5 h
    refine sw_iload X 3 rfl dc_K_callKinds_97 ?_
    refine sw_if_eq (tgt := 112) X dc_K_callKinds_99 (by decide) (fun z => ?_) (fun z => ?_)
    · have h := h.1 z
      refine sw_iconst (v := 0) X dc_K_callKinds_112 (by decide) ?_
      refine sw_sub [0, 1] rfl ?_
      exact b113 g q v1 (0 : Int32) h
    · have h := h.2 z
      refine sw_aload_n X 0 rfl rfl dc_K_callKinds_102 ?_
      refine sw_get X (fun z hz => List.mem_cons_of_mem _ (wf_K z hz)) 10 (wd_10 cI cL cZ ad g q r o) rfl 2 (by decide) (List.mem_cons_of_mem _ wm_fl_K_15) rfl dc_K_callKinds_103 ?_
      refine sw_iload X 2 rfl dc_K_callKinds_106 ?_
      refine sw_iald X 12 0 (wd_12 cI cL cZ ad g q r o) rfl h.1 dc_K_callKinds_108 ?_
      have h := h.2
      refine sw_goto (tgt := 113) X dc_K_callKinds_109 (by decide) ?_
      refine sw_sub [0, 1] rfl ?_
      exact b113 g q v1 (g 12 (v4).toNatClampNeg) h
  have b94 : ∀ (g : st_I) (q : st_L) (v1 : Int32) (v4 : Int32) (t0 : Int32) (t1 : Int32), wp_K_callKinds_L94 K Q g q v1 v4 t0 t1 → sw_J p l e { frames := f + 1, cells := 0, slots := 0, locals := lo + 24 } s m args below meth c 0 0 (MQ below (va_Qi Q (fun u t => wq_E D cl_A (wd_T cI cL cZ) A (wd_W cI cL cZ ad u.1 u.2 r o) t) A) args s 0 0 A) D cl_A A 7 (wd_W cI cL cZ ad g q r o) 94 [(0, .ref (ad 10)), (1, .int v1), (4, .int v4)] [.int t0, .int t1] := by
    intro g q v1 v4 t0 t1 h
    refine sw_iand X dc_K_callKinds_94 ?_
    refine sw_istore X [(5, .int (t1 &&& t0)), (0, .ref (ad 10)), (1, .int v1), (4, .int v4)] rfl (by decide) dc_K_callKinds_95 ?_
    refine sw_sub [1, 2, 3, 0] rfl ?_
    exact b97 g q v1 v4 (t1 &&& t0) h
  have b43 : ∀ (g : st_I) (q : st_L) (v1 : Int32) (v2 : Int64) (v4 : Int32) (t0 : Int32), wp_K_callKinds_L43 K Q g q v1 v2 v4 t0 → sw_J p l e { frames := f + 1, cells := 0, slots := 0, locals := lo + 24 } s m args below meth c 0 0 (MQ below (va_Qi Q (fun u t => wq_E D cl_A (wd_T cI cL cZ) A (wd_W cI cL cZ ad u.1 u.2 r o) t) A) args s 0 0 A) D cl_A A 7 (wd_W cI cL cZ ad g q r o) 43 [(0, .ref (ad 10)), (1, .int v1), (2, .long v2), (4, .int v4)] [.int t0] := by
    intro g q v1 v2 v4 t0 h
    refine sw_istore X [(5, .int t0), (0, .ref (ad 10)), (1, .int v1), (2, .long v2), (4, .int v4)] rfl (by decide) dc_K_callKinds_43 ?_
    refine sw_iload X 4 rfl dc_K_callKinds_45 ?_
    refine sw_cSN_i (n := 1) X hA nw_okA hNs hE (fun u : st_S => wd_W cI cL cZ ad u.1 u.2 r o) [.int v4] (ct_S_parametersOf l D cI cL cZ ad r o v4 g q _ h) nw_K_41 (List.mem_cons_of_mem _ wm_st_S_parametersOf) rfl (wg_in wm_code_S_parametersOf) rfl rfl (List.mem_cons_of_mem _ wm_in_S) ⟨by decide, by decide, by decide +kernel⟩ ⟨by dsimp only; omega, by dsimp only; omega⟩ ⟨Nat.zero_le _, Nat.zero_le _⟩ rfl (Nat.le_of_ble_eq_true rfl) dc_K_callKinds_47 rfl (fun x47 u47 h => ?_)
    refine sw_iconst (v := 2) X dc_K_callKinds_50 (by decide) ?_
    refine sw_icmp_ne (tgt := 97) X dc_K_callKinds_51 (by decide) (fun z => ?_) (fun z => ?_)
    · have h := h.1 z
      refine sw_sub [1, 2, 4, 0] rfl ?_
      exact b97 u47.1 u47.2 v1 v4 t0 h
    · have h := h.2 z
      refine sw_aload_n X 1 rfl rfl dc_K_callKinds_54 ?_
      refine sw_aload_n X 1 rfl rfl dc_K_callKinds_55 ?_
      refine sw_get X (fun z hz => List.mem_cons_of_mem _ (wf_K z hz)) 10 (wd_10 cI cL cZ ad u47.1 u47.2 r o) rfl 0 (by decide) (List.mem_cons_of_mem _ wm_fl_K_23) rfl dc_K_callKinds_56 ?_
      refine sw_get X (fun z hz => List.mem_cons_of_mem _ (wf_P z hz)) 1 (wd_1 cI cL cZ ad u47.1 u47.2 r o) rfl 3 (by decide) (List.mem_cons_of_mem _ wm_fl_K_108) rfl dc_K_callKinds_59 ?_
      refine sw_iload_n X 2 rfl rfl dc_K_callKinds_62 ?_
      refine sw_iald X 5 0 (wd_5 cI cL cZ ad u47.1 u47.2 r o) rfl h.1 dc_K_callKinds_63 ?_
      have h := h.2
      refine sw_lload_n X 3 rfl rfl dc_K_callKinds_64 ?_
      refine sw_cV_i (n := 2) X hA nw_okA hNs hE (fun u : st_S => wd_W cI cL cZ ad u.1 u.2 r o) [.int (u47.1 5 (v1).toNatClampNeg), .long v2] 10 (wd_10 cI cL cZ ad u47.1 u47.2 r o) rfl rfl (hK (u47.1 5 (v1).toNatClampNeg) v2 u47.1 u47.2 _ h) (List.mem_cons_of_mem _ wm_ml_K_71) (List.mem_cons_of_mem _ wm_im_K_kinds) (List.mem_cons_of_mem _ wm_se_K_kinds) rfl (wg_in wm_code_K_kinds) rfl rfl (List.mem_cons_of_mem _ wm_in_K) ⟨by decide, by decide, by decide +kernel⟩ ⟨by dsimp only; omega, by dsimp only; omega⟩ ⟨Nat.zero_le _, Nat.zero_le _⟩ rfl (Nat.le_of_ble_eq_true rfl) dc_K_callKinds_65 rfl (fun x65 u65 h => ?_)
      refine sw_istore X [(6, .int x65), (5, .int t0), (0, .ref (ad 10)), (1, .int v1), (2, .long v2), (4, .int v4)] rfl (by decide) dc_K_callKinds_68 ?_
      refine sw_iload X 1 rfl dc_K_callKinds_70 ?_
      refine sw_iload X 0 rfl dc_K_callKinds_72 ?_
      refine sw_aload_n X 2 rfl rfl dc_K_callKinds_74 ?_
      refine sw_get X (fun z hz => List.mem_cons_of_mem _ (wf_K z hz)) 10 (wd_10 cI cL cZ ad u65.1 u65.2 r o) rfl 1 (by decide) (List.mem_cons_of_mem _ wm_fl_K_9) rfl dc_K_callKinds_75 ?_
      refine sw_iload X 5 rfl dc_K_callKinds_78 ?_
      refine sw_iconst (v := 2) X dc_K_callKinds_80 (by decide) ?_
      refine sw_imul X dc_K_callKinds_81 ?_
      refine sw_iconst (v := 1) X dc_K_callKinds_82 (by decide) ?_
      refine sw_iadd X dc_K_callKinds_83 ?_
      refine sw_iald X 11 0 (wd_11 cI cL cZ ad u65.1 u65.2 r o) rfl h.1 dc_K_callKinds_84 ?_
      have h := h.2
      refine sw_iand X dc_K_callKinds_85 ?_
      refine sw_if_eq (tgt := 93) X dc_K_callKinds_86 (by decide) (fun z => ?_) (fun z => ?_)
      · have h := h.1 z
        refine sw_iconst (v := 0) X dc_K_callKinds_93 (by decide) ?_
        refine sw_sub [2, 3, 5] rfl ?_
        exact b94 u65.1 u65.2 v1 v4 (0 : Int32) t0 h
      · have h := h.2 z
        refine sw_iconst (v := 1) X dc_K_callKinds_89 (by decide) ?_
        refine sw_goto (tgt := 94) X dc_K_callKinds_90 (by decide) ?_
        refine sw_sub [2, 3, 5] rfl ?_
        exact b94 u65.1 u65.2 v1 v4 (1 : Int32) t0 h
  refine sw_aload_n X 0 rfl rfl dc_K_callKinds_0 ?_
  refine sw_get X (fun z hz => List.mem_cons_of_mem _ (wf_K z hz)) 10 (wd_10 cI cL cZ ad g q r o) rfl 0 (by decide) (List.mem_cons_of_mem _ wm_fl_K_23) rfl dc_K_callKinds_1 ?_
  refine sw_get X (fun z hz => List.mem_cons_of_mem _ (wf_P z hz)) 1 (wd_1 cI cL cZ ad g q r o) rfl 1 (by decide) (List.mem_cons_of_mem _ wm_fl_K_78) rfl dc_K_callKinds_4 ?_
  refine sw_iload_n X 1 rfl rfl dc_K_callKinds_7 ?_
  refine sw_iald X 3 0 (wd_3 cI cL cZ ad g q r o) rfl h.1 dc_K_callKinds_8 ?_
  have h := h.2
  refine sw_istore X [(4, .int (g 3 (a1).toNatClampNeg)), (0, .ref (ad 10)), (1, .int a1), (2, .long a2)] rfl (by decide) dc_K_callKinds_9 ?_
  refine sw_aload_n X 1 rfl rfl dc_K_callKinds_11 ?_
  refine sw_aload_n X 1 rfl rfl dc_K_callKinds_12 ?_
  refine sw_get X (fun z hz => List.mem_cons_of_mem _ (wf_K z hz)) 10 (wd_10 cI cL cZ ad g q r o) rfl 0 (by decide) (List.mem_cons_of_mem _ wm_fl_K_23) rfl dc_K_callKinds_13 ?_
  refine sw_get X (fun z hz => List.mem_cons_of_mem _ (wf_P z hz)) 1 (wd_1 cI cL cZ ad g q r o) rfl 2 (by decide) (List.mem_cons_of_mem _ wm_fl_K_93) rfl dc_K_callKinds_16 ?_
  refine sw_iload_n X 2 rfl rfl dc_K_callKinds_19 ?_
  refine sw_iald X 4 0 (wd_4 cI cL cZ ad g q r o) rfl h.1 dc_K_callKinds_20 ?_
  have h := h.2
  refine sw_lload_n X 3 rfl rfl dc_K_callKinds_21 ?_
  refine sw_cV_i (n := 2) X hA nw_okA hNs hE (fun u : st_S => wd_W cI cL cZ ad u.1 u.2 r o) [.int (g 4 (a1).toNatClampNeg), .long a2] 10 (wd_10 cI cL cZ ad g q r o) rfl rfl (hK (g 4 (a1).toNatClampNeg) a2 g q _ h) (List.mem_cons_of_mem _ wm_ml_K_71) (List.mem_cons_of_mem _ wm_im_K_kinds) (List.mem_cons_of_mem _ wm_se_K_kinds) rfl (wg_in wm_code_K_kinds) rfl rfl (List.mem_cons_of_mem _ wm_in_K) ⟨by decide, by decide, by decide +kernel⟩ ⟨by dsimp only; omega, by dsimp only; omega⟩ ⟨Nat.zero_le _, Nat.zero_le _⟩ rfl (Nat.le_of_ble_eq_true rfl) dc_K_callKinds_22 rfl (fun x22 u22 h => ?_)
  refine sw_aload_n X 1 rfl rfl dc_K_callKinds_25 ?_
  refine sw_get X (fun z hz => List.mem_cons_of_mem _ (wf_K z hz)) 10 (wd_10 cI cL cZ ad u22.1 u22.2 r o) rfl 1 (by decide) (List.mem_cons_of_mem _ wm_fl_K_9) rfl dc_K_callKinds_26 ?_
  refine sw_iload X 0 rfl dc_K_callKinds_29 ?_
  refine sw_iconst (v := 2) X dc_K_callKinds_31 (by decide) ?_
  refine sw_imul X dc_K_callKinds_32 ?_
  refine sw_iald X 11 0 (wd_11 cI cL cZ ad u22.1 u22.2 r o) rfl h.1 dc_K_callKinds_33 ?_
  have h := h.2
  refine sw_iand X dc_K_callKinds_34 ?_
  refine sw_if_eq (tgt := 42) X dc_K_callKinds_35 (by decide) (fun z => ?_) (fun z => ?_)
  · have h := h.1 z
    refine sw_iconst (v := 0) X dc_K_callKinds_42 (by decide) ?_
    refine sw_sub [1, 2, 3, 0] rfl ?_
    exact b43 u22.1 u22.2 a1 a2 (g 3 (a1).toNatClampNeg) (0 : Int32) h
  · have h := h.2 z
    refine sw_iconst (v := 1) X dc_K_callKinds_38 (by decide) ?_
    refine sw_goto (tgt := 43) X dc_K_callKinds_39 (by decide) ?_
    refine sw_sub [1, 2, 3, 0] rfl ?_
    exact b43 u22.1 u22.2 a1 a2 (g 3 (a1).toNatClampNeg) (1 : Int32) h
def wp_K_letKinds (K : Int32 → Int64 → st_I → st_L → (Int32 → st_S → Prop) → Prop) (a1 : Int32) (a2 : Int64) (g : st_I) (q : st_L) (Q : (Int32 → st_S → Prop)) : Prop := vp_in a1 91 ∧ K (g 4 (a1).toNatClampNeg) a2 g q (fun x11 u11 => (¬ x11 = 0 → vp_in a1 91 ∧ vp_in a1 91 ∧ wp_K_with a2 (u11.1 3 (a1).toNatClampNeg) x11 u11.1 u11.2 (fun x45 u45 => K (u11.1 5 (a1).toNatClampNeg) x45 u45.1 u45.2 (fun x48 u48 => Q x48 (u48.1, u48.2)))) ∧ (x11 = 0 → Q (0 : Int32) (u11.1, u11.2)))
set_option maxHeartbeats 4000000 in
set_option maxRecDepth 100000 in
theorem ct_K_letKinds (l : Launch) (D : va_G) (cI cL cZ : ClassId) (ad : Nat → Nat) (r : st_I) (o : st_L) (f lo : Nat) (K : Int32 → Int64 → st_I → st_L → (Int32 → st_S → Prop) → Prop) (hK : ∀ (b0 : Int32) (b1 : Int64) (g : st_I) (q : st_L) (Q : (Int32 → st_S → Prop)), K b0 b1 g q Q → ∀ sz, Met l yn_K_kinds (Cond.code yn_K_kinds cd_K_kinds 5 (some .int) :: wa_A) { frames := f, cells := 0, slots := 0, locals := lo } (va_Pc [.ref (ad 10), .int b0, .long b1] (wq_S D cl_A (wd_T cI cL cZ) nw_A (wd_W cI cL cZ ad g q r o) sz)) (va_Qi Q (fun u t => wq_E D cl_A (wd_T cI cL cZ) (va_A (wd_W cI cL cZ ad g q r o) sz) (wd_W cI cL cZ ad u.1 u.2 r o) t) (va_A (wd_W cI cL cZ ad g q r o) sz)) 0 0 (va_A (wd_W cI cL cZ ad g q r o) sz)) (a1 : Int32) (a2 : Int64) (g : st_I) (q : st_L) (Q : (Int32 → st_S → Prop)) (h : wp_K_letKinds K a1 a2 g q Q) : ∀ sz, Met l yn_K_letKinds (Cond.code yn_K_letKinds cd_K_letKinds 5 (some .int) :: wa_A) { frames := f + 1, cells := 0, slots := 0, locals := lo + 24 } (va_Pc [.ref (ad 10), .int a1, .long a2] (wq_S D cl_A (wd_T cI cL cZ) nw_A (wd_W cI cL cZ ad g q r o) sz)) (va_Qi Q (fun u t => wq_E D cl_A (wd_T cI cL cZ) (va_A (wd_W cI cL cZ ad g q r o) sz) (wd_W cI cL cZ ad u.1 u.2 r o) t) (va_A (wd_W cI cL cZ ad g q r o) sz)) 0 0 (va_A (wd_W cI cL cZ ad g q r o) sz) := by
  refine sw_met (Qc := fun A => va_Qi Q (fun u t => wq_E D cl_A (wd_T cI cL cZ) A (wd_W cI cL cZ ad u.1 u.2 r o) t) A) (by decide) rfl (Nat.le_of_ble_eq_true rfl) rfl ?_
  intro p e s m args below meth c A X hA hNs hE hr hlk hnm
  refine sw_aload_n X 0 rfl rfl dc_K_letKinds_0 ?_
  refine sw_aload_n X 0 rfl rfl dc_K_letKinds_1 ?_
  refine sw_get X (fun z hz => List.mem_cons_of_mem _ (wf_K z hz)) 10 (wd_10 cI cL cZ ad g q r o) rfl 0 (by decide) (List.mem_cons_of_mem _ wm_fl_K_23) rfl dc_K_letKinds_2 ?_
  refine sw_get X (fun z hz => List.mem_cons_of_mem _ (wf_P z hz)) 1 (wd_1 cI cL cZ ad g q r o) rfl 2 (by decide) (List.mem_cons_of_mem _ wm_fl_K_93) rfl dc_K_letKinds_5 ?_
  refine sw_iload_n X 1 rfl rfl dc_K_letKinds_8 ?_
  refine sw_iald X 4 0 (wd_4 cI cL cZ ad g q r o) rfl h.1 dc_K_letKinds_9 ?_
  have h := h.2
  refine sw_lload_n X 2 rfl rfl dc_K_letKinds_10 ?_
  refine sw_cV_i (n := 2) X hA nw_okA hNs hE (fun u : st_S => wd_W cI cL cZ ad u.1 u.2 r o) [.int (g 4 (a1).toNatClampNeg), .long a2] 10 (wd_10 cI cL cZ ad g q r o) rfl rfl (hK (g 4 (a1).toNatClampNeg) a2 g q _ h) (List.mem_cons_of_mem _ wm_ml_K_71) (List.mem_cons_of_mem _ wm_im_K_kinds) (List.mem_cons_of_mem _ wm_se_K_kinds) rfl (wg_in wm_code_K_kinds) rfl rfl (List.mem_cons_of_mem _ wm_in_K) ⟨by decide, by decide, by decide +kernel⟩ ⟨by dsimp only; omega, by dsimp only; omega⟩ ⟨Nat.zero_le _, Nat.zero_le _⟩ rfl (Nat.le_of_ble_eq_true rfl) dc_K_letKinds_11 rfl (fun x11 u11 h => ?_)
  refine sw_istore X [(4, .int x11), (0, .ref (ad 10)), (1, .int a1), (2, .long a2)] rfl (by decide) dc_K_letKinds_14 ?_
  refine sw_iload X 0 rfl dc_K_letKinds_16 ?_
  refine sw_if_ne (tgt := 23) X dc_K_letKinds_18 (by decide) (fun z => ?_) (fun z => ?_)
  · have h := h.1 z
    refine sw_aload_n X 1 rfl rfl dc_K_letKinds_23 ?_
    refine sw_aload_n X 1 rfl rfl dc_K_letKinds_24 ?_
    refine sw_get X (fun z hz => List.mem_cons_of_mem _ (wf_K z hz)) 10 (wd_10 cI cL cZ ad u11.1 u11.2 r o) rfl 0 (by decide) (List.mem_cons_of_mem _ wm_fl_K_23) rfl dc_K_letKinds_25 ?_
    refine sw_get X (fun z hz => List.mem_cons_of_mem _ (wf_P z hz)) 1 (wd_1 cI cL cZ ad u11.1 u11.2 r o) rfl 3 (by decide) (List.mem_cons_of_mem _ wm_fl_K_108) rfl dc_K_letKinds_28 ?_
    refine sw_iload_n X 2 rfl rfl dc_K_letKinds_31 ?_
    refine sw_iald X 5 0 (wd_5 cI cL cZ ad u11.1 u11.2 r o) rfl h.1 dc_K_letKinds_32 ?_
    have h := h.2
    refine sw_lload_n X 3 rfl rfl dc_K_letKinds_33 ?_
    refine sw_aload_n X 1 rfl rfl dc_K_letKinds_34 ?_
    refine sw_get X (fun z hz => List.mem_cons_of_mem _ (wf_K z hz)) 10 (wd_10 cI cL cZ ad u11.1 u11.2 r o) rfl 0 (by decide) (List.mem_cons_of_mem _ wm_fl_K_23) rfl dc_K_letKinds_35 ?_
    refine sw_get X (fun z hz => List.mem_cons_of_mem _ (wf_P z hz)) 1 (wd_1 cI cL cZ ad u11.1 u11.2 r o) rfl 1 (by decide) (List.mem_cons_of_mem _ wm_fl_K_78) rfl dc_K_letKinds_38 ?_
    refine sw_iload_n X 2 rfl rfl dc_K_letKinds_41 ?_
    refine sw_iald X 3 0 (wd_3 cI cL cZ ad u11.1 u11.2 r o) rfl h.1 dc_K_letKinds_42 ?_
    have h := h.2
    refine sw_iload X 0 rfl dc_K_letKinds_43 ?_
    refine sw_cS_l (n := 3) X hA nw_okA hNs hE (fun u : st_S => wd_W cI cL cZ ad u.1 u.2 r o) [.long a2, .int (u11.1 3 (a1).toNatClampNeg), .int x11] (ct_K_with l D cI cL cZ ad r o a2 (u11.1 3 (a1).toNatClampNeg) x11 u11.1 u11.2 _ h) (List.mem_cons_of_mem _ wm_ml_K_61) (List.mem_cons_of_mem _ wm_st_K_with) rfl (wg_in wm_code_K_with) rfl rfl (List.mem_cons_of_mem _ wm_in_K) ⟨by decide, by decide, by decide +kernel⟩ ⟨by dsimp only; omega, by dsimp only; omega⟩ ⟨Nat.zero_le _, Nat.zero_le _⟩ rfl (Nat.le_of_ble_eq_true rfl) dc_K_letKinds_45 rfl (fun x45 u45 h => ?_)
    refine sw_cV_i (n := 2) X hA nw_okA hNs hE (fun u : st_S => wd_W cI cL cZ ad u.1 u.2 r o) [.int (u11.1 5 (a1).toNatClampNeg), .long x45] 10 (wd_10 cI cL cZ ad u45.1 u45.2 r o) rfl rfl (hK (u11.1 5 (a1).toNatClampNeg) x45 u45.1 u45.2 _ h) (List.mem_cons_of_mem _ wm_ml_K_71) (List.mem_cons_of_mem _ wm_im_K_kinds) (List.mem_cons_of_mem _ wm_se_K_kinds) rfl (wg_in wm_code_K_kinds) rfl rfl (List.mem_cons_of_mem _ wm_in_K) ⟨by decide, by decide, by decide +kernel⟩ ⟨by dsimp only; omega, by dsimp only; omega⟩ ⟨Nat.zero_le _, Nat.zero_le _⟩ rfl (Nat.le_of_ble_eq_true rfl) dc_K_letKinds_48 rfl (fun x48 u48 h => ?_)
    exact sw_iret X hr hlk (u := (u48.1, u48.2)) rfl h dc_K_letKinds_51
  · have h := h.2 z
    refine sw_iconst (v := 0) X dc_K_letKinds_21 (by decide) ?_
    exact sw_iret X hr hlk (u := (u11.1, u11.2)) rfl h dc_K_letKinds_22
def wp_K_kinds_L173 (K : Int32 → Int64 → st_I → st_L → (Int32 → st_S → Prop) → Prop) (Q : (Int32 → st_S → Prop)) (g : st_I) (q : st_L) (v1 : Int32) (v2 : Int64) : Prop := wp_K_kindsOfTwo K v1 v2 g q (fun x176 u176 => Q x176 (u176.1, u176.2))
def wp_K_kinds_L149 (K : Int32 → Int64 → st_I → st_L → (Int32 → st_S → Prop) → Prop) (Q : (Int32 → st_S → Prop)) (g : st_I) (q : st_L) (t0 : Int32) : Prop := Q t0 (g, q)
def wp_K_kinds_L120 (K : Int32 → Int64 → st_I → st_L → (Int32 → st_S → Prop) → Prop) (Q : (Int32 → st_S → Prop)) (g : st_I) (q : st_L) (v1 : Int32) (v2 : Int64) : Prop := vp_in v1 91 ∧ K (g 4 (v1).toNatClampNeg) v2 g q (fun x131 u131 => wp_K_has x131 (8 : Int32) u131.1 u131.2 (fun x136 u136 => (x136 = 0 → wp_K_kinds_L149 K Q u136.1 u136.2 (0 : Int32)) ∧ (¬ x136 = 0 → wp_K_kinds_L149 K Q u136.1 u136.2 (511 : Int32))))
def wp_K_kinds_B (K : Int32 → Int64 → st_I → st_L → (Int32 → st_S → Prop) → Prop) (a1 : Int32) (a2 : Int64) (g : st_I) (q : st_L) (Q : (Int32 → st_S → Prop)) : Prop := vp_in a1 91 ∧ vp_in a1 91 ∧ ((g 2 (a1).toNatClampNeg) = (0 : Int32) → wp_K_setOf a2 (g 3 (a1).toNatClampNeg) g q (fun x99 u99 => Q x99 (u99.1, u99.2))) ∧ ((g 2 (a1).toNatClampNeg) = (1 : Int32) → Q ((1 : Int32) <<< ((g 3 (a1).toNatClampNeg) &&& 31)) (g, q)) ∧ ((g 2 (a1).toNatClampNeg) = (2 : Int32) → wp_H_kindOfNumber (g 3 (a1).toNatClampNeg) g q (fun x111 u111 => Q ((1 : Int32) <<< (x111 &&& 31)) (u111.1, u111.2))) ∧ ((g 2 (a1).toNatClampNeg) = (3 : Int32) → Q (128 : Int32) (g, q)) ∧ ((g 2 (a1).toNatClampNeg) = (4 : Int32) → wp_K_kinds_L173 K Q g q a1 a2) ∧ ((g 2 (a1).toNatClampNeg) = (5 : Int32) → wp_K_kinds_L173 K Q g q a1 a2) ∧ ((g 2 (a1).toNatClampNeg) = (6 : Int32) → wp_K_kinds_L173 K Q g q a1 a2) ∧ ((g 2 (a1).toNatClampNeg) = (7 : Int32) → wp_K_kinds_L120 K Q g q a1 a2) ∧ ((g 2 (a1).toNatClampNeg) = (8 : Int32) → wp_K_kinds_L120 K Q g q a1 a2) ∧ ((g 2 (a1).toNatClampNeg) = (9 : Int32) → wp_K_caseKinds K a1 a2 g q (fun x153 u153 => Q x153 (u153.1, u153.2))) ∧ ((g 2 (a1).toNatClampNeg) = (10 : Int32) → wp_K_callKinds K a1 a2 g q (fun x160 u160 => Q x160 (u160.1, u160.2))) ∧ ((g 2 (a1).toNatClampNeg) = (11 : Int32) → wp_K_letKinds K a1 a2 g q (fun x167 u167 => Q x167 (u167.1, u167.2))) ∧ ((g 2 (a1).toNatClampNeg) = (12 : Int32) → wp_K_kinds_L173 K Q g q a1 a2) ∧ ((g 2 (a1).toNatClampNeg) = (13 : Int32) → wp_K_kinds_L173 K Q g q a1 a2) ∧ ((g 2 (a1).toNatClampNeg) = (14 : Int32) → Q (0 : Int32) (g, q)) ∧ (¬ (g 2 (a1).toNatClampNeg) = (0 : Int32) → ¬ (g 2 (a1).toNatClampNeg) = (1 : Int32) → ¬ (g 2 (a1).toNatClampNeg) = (2 : Int32) → ¬ (g 2 (a1).toNatClampNeg) = (3 : Int32) → ¬ (g 2 (a1).toNatClampNeg) = (4 : Int32) → ¬ (g 2 (a1).toNatClampNeg) = (5 : Int32) → ¬ (g 2 (a1).toNatClampNeg) = (6 : Int32) → ¬ (g 2 (a1).toNatClampNeg) = (7 : Int32) → ¬ (g 2 (a1).toNatClampNeg) = (8 : Int32) → ¬ (g 2 (a1).toNatClampNeg) = (9 : Int32) → ¬ (g 2 (a1).toNatClampNeg) = (10 : Int32) → ¬ (g 2 (a1).toNatClampNeg) = (11 : Int32) → ¬ (g 2 (a1).toNatClampNeg) = (12 : Int32) → ¬ (g 2 (a1).toNatClampNeg) = (13 : Int32) → ¬ (g 2 (a1).toNatClampNeg) = (14 : Int32) → wp_K_kinds_L173 K Q g q a1 a2)
def wp_K_kinds : Nat → Int32 → Int64 → st_I → st_L → (Int32 → st_S → Prop) → Prop
  | 0 => fun _ _ _ _ _ => False
  | d + 1 => wp_K_kinds_B (wp_K_kinds d)
set_option maxHeartbeats 4000000 in
set_option maxRecDepth 100000 in
theorem ct_K_kinds_B (l : Launch) (D : va_G) (cI cL cZ : ClassId) (ad : Nat → Nat) (r : st_I) (o : st_L) (f lo : Nat) (K : Int32 → Int64 → st_I → st_L → (Int32 → st_S → Prop) → Prop) (hK : ∀ (b0 : Int32) (b1 : Int64) (g : st_I) (q : st_L) (Q : (Int32 → st_S → Prop)), K b0 b1 g q Q → ∀ sz, Met l yn_K_kinds (Cond.code yn_K_kinds cd_K_kinds 5 (some .int) :: wa_A) { frames := f, cells := 0, slots := 0, locals := lo } (va_Pc [.ref (ad 10), .int b0, .long b1] (wq_S D cl_A (wd_T cI cL cZ) nw_A (wd_W cI cL cZ ad g q r o) sz)) (va_Qi Q (fun u t => wq_E D cl_A (wd_T cI cL cZ) (va_A (wd_W cI cL cZ ad g q r o) sz) (wd_W cI cL cZ ad u.1 u.2 r o) t) (va_A (wd_W cI cL cZ ad g q r o) sz)) 0 0 (va_A (wd_W cI cL cZ ad g q r o) sz)) (a1 : Int32) (a2 : Int64) (g : st_I) (q : st_L) (Q : (Int32 → st_S → Prop)) (h : wp_K_kinds_B K a1 a2 g q Q) : ∀ sz, Met l yn_K_kinds (Cond.code yn_K_kinds cd_K_kinds 5 (some .int) :: wa_A) { frames := f + 3, cells := 0, slots := 0, locals := lo + 77 } (va_Pc [.ref (ad 10), .int a1, .long a2] (wq_S D cl_A (wd_T cI cL cZ) nw_A (wd_W cI cL cZ ad g q r o) sz)) (va_Qi Q (fun u t => wq_E D cl_A (wd_T cI cL cZ) (va_A (wd_W cI cL cZ ad g q r o) sz) (wd_W cI cL cZ ad u.1 u.2 r o) t) (va_A (wd_W cI cL cZ ad g q r o) sz)) 0 0 (va_A (wd_W cI cL cZ ad g q r o) sz) := by
  refine sw_met (Qc := fun A => va_Qi Q (fun u t => wq_E D cl_A (wd_T cI cL cZ) A (wd_W cI cL cZ ad u.1 u.2 r o) t) A) (by decide) rfl (Nat.le_of_ble_eq_true rfl) rfl ?_
  intro p e s m args below meth c A X hA hNs hE hr hlk hnm
  have b173 : ∀ (g : st_I) (q : st_L) (v1 : Int32) (v2 : Int64), wp_K_kinds_L173 K Q g q v1 v2 → sw_J p l e { frames := f + 3, cells := 0, slots := 0, locals := lo + 77 } s m args below meth c 0 0 (MQ below (va_Qi Q (fun u t => wq_E D cl_A (wd_T cI cL cZ) A (wd_W cI cL cZ ad u.1 u.2 r o) t) A) args s 0 0 A) D cl_A A 5 (wd_W cI cL cZ ad g q r o) 173 [(0, .ref (ad 10)), (1, .int v1), (2, .long v2)] [] := by
    intro g q v1 v2 h
    refine sw_aload_n X 0 rfl rfl dc_K_kinds_173 ?_
    refine sw_iload_n X 1 rfl rfl dc_K_kinds_174 ?_
    refine sw_lload_n X 2 rfl rfl dc_K_kinds_175 ?_
    refine sw_cV_i (n := 2) X hA nw_okA hNs hE (fun u : st_S => wd_W cI cL cZ ad u.1 u.2 r o) [.int v1, .long v2] 10 (wd_10 cI cL cZ ad g q r o) rfl rfl (ct_K_kindsOfTwo l D cI cL cZ ad r o f lo K hK v1 v2 g q _ h) (List.mem_cons_of_mem _ wm_ml_K_105) (List.mem_cons_of_mem _ wm_im_K_kindsOfTwo) (List.mem_cons_of_mem _ wm_se_K_kindsOfTwo) rfl (wg_in wm_code_K_kindsOfTwo) rfl rfl (List.mem_cons_of_mem _ wm_in_K) ⟨by decide, by decide, by decide +kernel⟩ ⟨by dsimp only; omega, by dsimp only; omega⟩ ⟨Nat.zero_le _, Nat.zero_le _⟩ rfl (Nat.le_of_ble_eq_true rfl) dc_K_kinds_176 rfl (fun x176 u176 h => ?_)
    exact sw_iret X hr hlk (u := (u176.1, u176.2)) rfl h dc_K_kinds_179
  have b149 : ∀ (g : st_I) (q : st_L) (t0 : Int32), wp_K_kinds_L149 K Q g q t0 → sw_J p l e { frames := f + 3, cells := 0, slots := 0, locals := lo + 77 } s m args below meth c 0 0 (MQ below (va_Qi Q (fun u t => wq_E D cl_A (wd_T cI cL cZ) A (wd_W cI cL cZ ad u.1 u.2 r o) t) A) args s 0 0 A) D cl_A A 5 (wd_W cI cL cZ ad g q r o) 149 [] [.int t0] := by
    intro g q t0 h
    exact sw_iret X hr hlk (u := (g, q)) rfl h dc_K_kinds_149
  have b120 : ∀ (g : st_I) (q : st_L) (v1 : Int32) (v2 : Int64), wp_K_kinds_L120 K Q g q v1 v2 → sw_J p l e { frames := f + 3, cells := 0, slots := 0, locals := lo + 77 } s m args below meth c 0 0 (MQ below (va_Qi Q (fun u t => wq_E D cl_A (wd_T cI cL cZ) A (wd_W cI cL cZ ad u.1 u.2 r o) t) A) args s 0 0 A) D cl_A A 5 (wd_W cI cL cZ ad g q r o) 120 [(0, .ref (ad 10)), (1, .int v1), (2, .long v2)] [] := by
    intro g q v1 v2 h
    refine sw_aload_n X 0 rfl rfl dc_K_kinds_120 ?_
    refine sw_aload_n X 0 rfl rfl dc_K_kinds_121 ?_
    refine sw_get X (fun z hz => List.mem_cons_of_mem _ (wf_K z hz)) 10 (wd_10 cI cL cZ ad g q r o) rfl 0 (by decide) (List.mem_cons_of_mem _ wm_fl_K_23) rfl dc_K_kinds_122 ?_
    refine sw_get X (fun z hz => List.mem_cons_of_mem _ (wf_P z hz)) 1 (wd_1 cI cL cZ ad g q r o) rfl 2 (by decide) (List.mem_cons_of_mem _ wm_fl_K_93) rfl dc_K_kinds_125 ?_
    refine sw_iload_n X 1 rfl rfl dc_K_kinds_128 ?_
    refine sw_iald X 4 0 (wd_4 cI cL cZ ad g q r o) rfl h.1 dc_K_kinds_129 ?_
    have h := h.2
    refine sw_lload_n X 2 rfl rfl dc_K_kinds_130 ?_
    refine sw_cV_i (n := 2) X hA nw_okA hNs hE (fun u : st_S => wd_W cI cL cZ ad u.1 u.2 r o) [.int (g 4 (v1).toNatClampNeg), .long v2] 10 (wd_10 cI cL cZ ad g q r o) rfl rfl (hK (g 4 (v1).toNatClampNeg) v2 g q _ h) (List.mem_cons_of_mem _ wm_ml_K_71) (List.mem_cons_of_mem _ wm_im_K_kinds) (List.mem_cons_of_mem _ wm_se_K_kinds) rfl (wg_in wm_code_K_kinds) rfl rfl (List.mem_cons_of_mem _ wm_in_K) ⟨by decide, by decide, by decide +kernel⟩ ⟨by dsimp only; omega, by dsimp only; omega⟩ ⟨Nat.zero_le _, Nat.zero_le _⟩ rfl (Nat.le_of_ble_eq_true rfl) dc_K_kinds_131 rfl (fun x131 u131 h => ?_)
    refine sw_bipush (v := 8) X dc_K_kinds_134 (by decide) ?_
    refine sw_cS_i (n := 2) X hA nw_okA hNs hE (fun u : st_S => wd_W cI cL cZ ad u.1 u.2 r o) [.int x131, .int (8 : Int32)] (ct_K_has l D cI cL cZ ad r o x131 (8 : Int32) u131.1 u131.2 _ h) (List.mem_cons_of_mem _ wm_ml_K_65) (List.mem_cons_of_mem _ wm_st_K_has) rfl (wg_in wm_code_K_has) rfl rfl (List.mem_cons_of_mem _ wm_in_K) ⟨by decide, by decide, by decide +kernel⟩ ⟨by dsimp only; omega, by dsimp only; omega⟩ ⟨Nat.zero_le _, Nat.zero_le _⟩ rfl (Nat.le_of_ble_eq_true rfl) dc_K_kinds_136 rfl (fun x136 u136 h => ?_)
    refine sw_if_eq (tgt := 148) X dc_K_kinds_139 (by decide) (fun z => ?_) (fun z => ?_)
    · have h := h.1 z
      refine sw_iconst (v := 0) X dc_K_kinds_148 (by decide) ?_
      refine sw_sub [] rfl ?_
      exact b149 u136.1 u136.2 (0 : Int32) h
    · have h := h.2 z
      refine sw_sipush (v := 511) X dc_K_kinds_142 (by decide) ?_
      refine sw_goto (tgt := 149) X dc_K_kinds_145 (by decide) ?_
      refine sw_sub [] rfl ?_
      exact b149 u136.1 u136.2 (511 : Int32) h
  refine sw_aload_n X 0 rfl rfl dc_K_kinds_0 ?_
  refine sw_get X (fun z hz => List.mem_cons_of_mem _ (wf_K z hz)) 10 (wd_10 cI cL cZ ad g q r o) rfl 0 (by decide) (List.mem_cons_of_mem _ wm_fl_K_23) rfl dc_K_kinds_1 ?_
  refine sw_get X (fun z hz => List.mem_cons_of_mem _ (wf_P z hz)) 1 (wd_1 cI cL cZ ad g q r o) rfl 1 (by decide) (List.mem_cons_of_mem _ wm_fl_K_78) rfl dc_K_kinds_4 ?_
  refine sw_iload_n X 1 rfl rfl dc_K_kinds_7 ?_
  refine sw_iald X 3 0 (wd_3 cI cL cZ ad g q r o) rfl h.1 dc_K_kinds_8 ?_
  have h := h.2
  refine sw_istore X [(4, .int (g 3 (a1).toNatClampNeg)), (0, .ref (ad 10)), (1, .int a1), (2, .long a2)] rfl (by decide) dc_K_kinds_9 ?_
  refine sw_aload_n X 1 rfl rfl dc_K_kinds_11 ?_
  refine sw_get X (fun z hz => List.mem_cons_of_mem _ (wf_K z hz)) 10 (wd_10 cI cL cZ ad g q r o) rfl 0 (by decide) (List.mem_cons_of_mem _ wm_fl_K_23) rfl dc_K_kinds_12 ?_
  refine sw_get X (fun z hz => List.mem_cons_of_mem _ (wf_P z hz)) 1 (wd_1 cI cL cZ ad g q r o) rfl 0 (by decide) (List.mem_cons_of_mem _ wm_fl_K_81) rfl dc_K_kinds_15 ?_
  refine sw_iload_n X 2 rfl rfl dc_K_kinds_18 ?_
  refine sw_iald X 2 0 (wd_2 cI cL cZ ad g q r o) rfl h.1 dc_K_kinds_19 ?_
  have h := h.2
  by_cases z0 : (g 2 (a1).toNatClampNeg) = (0 : Int32)
  · have h := h.1 z0
    refine sw_tableIn (tgt := 96) (off := 76) X dc_K_kinds_20 (by rw [z0]; decide) (by rw [z0]; decide) (by rw [z0]; rfl) (by decide) ?_
    refine sw_lload_n X 3 rfl rfl dc_K_kinds_96 ?_
    refine sw_iload X 0 rfl dc_K_kinds_97 ?_
    refine sw_cS_i (n := 2) X hA nw_okA hNs hE (fun u : st_S => wd_W cI cL cZ ad u.1 u.2 r o) [.long a2, .int (g 3 (a1).toNatClampNeg)] (ct_K_setOf l D cI cL cZ ad r o a2 (g 3 (a1).toNatClampNeg) g q _ h) (List.mem_cons_of_mem _ wm_ml_K_84) (List.mem_cons_of_mem _ wm_st_K_setOf) rfl (wg_in wm_code_K_setOf) rfl rfl (List.mem_cons_of_mem _ wm_in_K) ⟨by decide, by decide, by decide +kernel⟩ ⟨by dsimp only; omega, by dsimp only; omega⟩ ⟨Nat.zero_le _, Nat.zero_le _⟩ rfl (Nat.le_of_ble_eq_true rfl) dc_K_kinds_99 rfl (fun x99 u99 h => ?_)
    exact sw_iret X hr hlk (u := (u99.1, u99.2)) rfl h dc_K_kinds_102
  by_cases z1 : (g 2 (a1).toNatClampNeg) = (1 : Int32)
  · have h := h.2.1 z1
    refine sw_tableIn (tgt := 103) (off := 83) X dc_K_kinds_20 (by rw [z1]; decide) (by rw [z1]; decide) (by rw [z1]; rfl) (by decide) ?_
    refine sw_iconst (v := 1) X dc_K_kinds_103 (by decide) ?_
    refine sw_iload X 0 rfl dc_K_kinds_104 ?_
    refine sw_ishl X dc_K_kinds_106 ?_
    exact sw_iret X hr hlk (u := (g, q)) rfl h dc_K_kinds_107
  by_cases z2 : (g 2 (a1).toNatClampNeg) = (2 : Int32)
  · have h := h.2.2.1 z2
    refine sw_tableIn (tgt := 108) (off := 88) X dc_K_kinds_20 (by rw [z2]; decide) (by rw [z2]; decide) (by rw [z2]; rfl) (by decide) ?_
    refine sw_iconst (v := 1) X dc_K_kinds_108 (by decide) ?_
    refine sw_iload X 0 rfl dc_K_kinds_109 ?_
    refine sw_cS_i (n := 1) X hA nw_okA hNs hE (fun u : st_S => wd_W cI cL cZ ad u.1 u.2 r o) [.int (g 3 (a1).toNatClampNeg)] (ct_H_kindOfNumber l D cI cL cZ ad r o (g 3 (a1).toNatClampNeg) g q _ h) (List.mem_cons_of_mem _ wm_ml_K_88) (List.mem_cons_of_mem _ wm_st_H_kindOfNumber) rfl (wg_in wm_code_H_kindOfNumber) rfl rfl (List.mem_cons_of_mem _ wm_in_H) ⟨by decide, by decide, by decide +kernel⟩ ⟨by dsimp only; omega, by dsimp only; omega⟩ ⟨Nat.zero_le _, Nat.zero_le _⟩ rfl (Nat.le_of_ble_eq_true rfl) dc_K_kinds_111 rfl (fun x111 u111 h => ?_)
    refine sw_ishl X dc_K_kinds_114 ?_
    exact sw_iret X hr hlk (u := (u111.1, u111.2)) rfl h dc_K_kinds_115
  by_cases z3 : (g 2 (a1).toNatClampNeg) = (3 : Int32)
  · have h := h.2.2.2.1 z3
    refine sw_tableIn (tgt := 116) (off := 96) X dc_K_kinds_20 (by rw [z3]; decide) (by rw [z3]; decide) (by rw [z3]; rfl) (by decide) ?_
    refine sw_sipush (v := 128) X dc_K_kinds_116 (by decide) ?_
    exact sw_iret X hr hlk (u := (g, q)) rfl h dc_K_kinds_119
  by_cases z4 : (g 2 (a1).toNatClampNeg) = (4 : Int32)
  · have h := h.2.2.2.2.1 z4
    refine sw_tableIn (tgt := 173) (off := 153) X dc_K_kinds_20 (by rw [z4]; decide) (by rw [z4]; decide) (by rw [z4]; rfl) (by decide) ?_
    refine sw_sub [1, 2, 3] rfl ?_
    exact b173 g q a1 a2 h
  by_cases z5 : (g 2 (a1).toNatClampNeg) = (5 : Int32)
  · have h := h.2.2.2.2.2.1 z5
    refine sw_tableIn (tgt := 173) (off := 153) X dc_K_kinds_20 (by rw [z5]; decide) (by rw [z5]; decide) (by rw [z5]; rfl) (by decide) ?_
    refine sw_sub [1, 2, 3] rfl ?_
    exact b173 g q a1 a2 h
  by_cases z6 : (g 2 (a1).toNatClampNeg) = (6 : Int32)
  · have h := h.2.2.2.2.2.2.1 z6
    refine sw_tableIn (tgt := 173) (off := 153) X dc_K_kinds_20 (by rw [z6]; decide) (by rw [z6]; decide) (by rw [z6]; rfl) (by decide) ?_
    refine sw_sub [1, 2, 3] rfl ?_
    exact b173 g q a1 a2 h
  by_cases z7 : (g 2 (a1).toNatClampNeg) = (7 : Int32)
  · have h := h.2.2.2.2.2.2.2.1 z7
    refine sw_tableIn (tgt := 120) (off := 100) X dc_K_kinds_20 (by rw [z7]; decide) (by rw [z7]; decide) (by rw [z7]; rfl) (by decide) ?_
    refine sw_sub [1, 2, 3] rfl ?_
    exact b120 g q a1 a2 h
  by_cases z8 : (g 2 (a1).toNatClampNeg) = (8 : Int32)
  · have h := h.2.2.2.2.2.2.2.2.1 z8
    refine sw_tableIn (tgt := 120) (off := 100) X dc_K_kinds_20 (by rw [z8]; decide) (by rw [z8]; decide) (by rw [z8]; rfl) (by decide) ?_
    refine sw_sub [1, 2, 3] rfl ?_
    exact b120 g q a1 a2 h
  by_cases z9 : (g 2 (a1).toNatClampNeg) = (9 : Int32)
  · have h := h.2.2.2.2.2.2.2.2.2.1 z9
    refine sw_tableIn (tgt := 150) (off := 130) X dc_K_kinds_20 (by rw [z9]; decide) (by rw [z9]; decide) (by rw [z9]; rfl) (by decide) ?_
    refine sw_aload_n X 1 rfl rfl dc_K_kinds_150 ?_
    refine sw_iload_n X 2 rfl rfl dc_K_kinds_151 ?_
    refine sw_lload_n X 3 rfl rfl dc_K_kinds_152 ?_
    refine sw_cV_i (n := 2) X hA nw_okA hNs hE (fun u : st_S => wd_W cI cL cZ ad u.1 u.2 r o) [.int a1, .long a2] 10 (wd_10 cI cL cZ ad g q r o) rfl rfl (ct_K_caseKinds l D cI cL cZ ad r o f lo K hK a1 a2 g q _ h) (List.mem_cons_of_mem _ wm_ml_K_96) (List.mem_cons_of_mem _ wm_im_K_caseKinds) (List.mem_cons_of_mem _ wm_se_K_caseKinds) rfl (wg_in wm_code_K_caseKinds) rfl rfl (List.mem_cons_of_mem _ wm_in_K) ⟨by decide, by decide, by decide +kernel⟩ ⟨by dsimp only; omega, by dsimp only; omega⟩ ⟨Nat.zero_le _, Nat.zero_le _⟩ rfl (Nat.le_of_ble_eq_true rfl) dc_K_kinds_153 rfl (fun x153 u153 h => ?_)
    exact sw_iret X hr hlk (u := (u153.1, u153.2)) rfl h dc_K_kinds_156
  by_cases z10 : (g 2 (a1).toNatClampNeg) = (10 : Int32)
  · have h := h.2.2.2.2.2.2.2.2.2.2.1 z10
    refine sw_tableIn (tgt := 157) (off := 137) X dc_K_kinds_20 (by rw [z10]; decide) (by rw [z10]; decide) (by rw [z10]; rfl) (by decide) ?_
    refine sw_aload_n X 1 rfl rfl dc_K_kinds_157 ?_
    refine sw_iload_n X 2 rfl rfl dc_K_kinds_158 ?_
    refine sw_lload_n X 3 rfl rfl dc_K_kinds_159 ?_
    refine sw_cV_i (n := 2) X hA nw_okA hNs hE (fun u : st_S => wd_W cI cL cZ ad u.1 u.2 r o) [.int a1, .long a2] 10 (wd_10 cI cL cZ ad g q r o) rfl rfl (ct_K_callKinds l D cI cL cZ ad r o f lo K hK a1 a2 g q _ h) (List.mem_cons_of_mem _ wm_ml_K_99) (List.mem_cons_of_mem _ wm_im_K_callKinds) (List.mem_cons_of_mem _ wm_se_K_callKinds) rfl (wg_in wm_code_K_callKinds) rfl rfl (List.mem_cons_of_mem _ wm_in_K) ⟨by decide, by decide, by decide +kernel⟩ ⟨by dsimp only; omega, by dsimp only; omega⟩ ⟨Nat.zero_le _, Nat.zero_le _⟩ rfl (Nat.le_of_ble_eq_true rfl) dc_K_kinds_160 rfl (fun x160 u160 h => ?_)
    exact sw_iret X hr hlk (u := (u160.1, u160.2)) rfl h dc_K_kinds_163
  by_cases z11 : (g 2 (a1).toNatClampNeg) = (11 : Int32)
  · have h := h.2.2.2.2.2.2.2.2.2.2.2.1 z11
    refine sw_tableIn (tgt := 164) (off := 144) X dc_K_kinds_20 (by rw [z11]; decide) (by rw [z11]; decide) (by rw [z11]; rfl) (by decide) ?_
    refine sw_aload_n X 1 rfl rfl dc_K_kinds_164 ?_
    refine sw_iload_n X 2 rfl rfl dc_K_kinds_165 ?_
    refine sw_lload_n X 3 rfl rfl dc_K_kinds_166 ?_
    refine sw_cV_i (n := 2) X hA nw_okA hNs hE (fun u : st_S => wd_W cI cL cZ ad u.1 u.2 r o) [.int a1, .long a2] 10 (wd_10 cI cL cZ ad g q r o) rfl rfl (ct_K_letKinds l D cI cL cZ ad r o f lo K hK a1 a2 g q _ h) (List.mem_cons_of_mem _ wm_ml_K_102) (List.mem_cons_of_mem _ wm_im_K_letKinds) (List.mem_cons_of_mem _ wm_se_K_letKinds) rfl (wg_in wm_code_K_letKinds) rfl rfl (List.mem_cons_of_mem _ wm_in_K) ⟨by decide, by decide, by decide +kernel⟩ ⟨by dsimp only; omega, by dsimp only; omega⟩ ⟨Nat.zero_le _, Nat.zero_le _⟩ rfl (Nat.le_of_ble_eq_true rfl) dc_K_kinds_167 rfl (fun x167 u167 h => ?_)
    exact sw_iret X hr hlk (u := (u167.1, u167.2)) rfl h dc_K_kinds_170
  by_cases z12 : (g 2 (a1).toNatClampNeg) = (12 : Int32)
  · have h := h.2.2.2.2.2.2.2.2.2.2.2.2.1 z12
    refine sw_tableIn (tgt := 173) (off := 153) X dc_K_kinds_20 (by rw [z12]; decide) (by rw [z12]; decide) (by rw [z12]; rfl) (by decide) ?_
    refine sw_sub [1, 2, 3] rfl ?_
    exact b173 g q a1 a2 h
  by_cases z13 : (g 2 (a1).toNatClampNeg) = (13 : Int32)
  · have h := h.2.2.2.2.2.2.2.2.2.2.2.2.2.1 z13
    refine sw_tableIn (tgt := 173) (off := 153) X dc_K_kinds_20 (by rw [z13]; decide) (by rw [z13]; decide) (by rw [z13]; rfl) (by decide) ?_
    refine sw_sub [1, 2, 3] rfl ?_
    exact b173 g q a1 a2 h
  by_cases z14 : (g 2 (a1).toNatClampNeg) = (14 : Int32)
  · have h := h.2.2.2.2.2.2.2.2.2.2.2.2.2.2.1 z14
    refine sw_tableIn (tgt := 171) (off := 151) X dc_K_kinds_20 (by rw [z14]; decide) (by rw [z14]; decide) (by rw [z14]; rfl) (by decide) ?_
    refine sw_iconst (v := 0) X dc_K_kinds_171 (by decide) ?_
    exact sw_iret X hr hlk (u := (g, q)) rfl h dc_K_kinds_172
  have h := h.2.2.2.2.2.2.2.2.2.2.2.2.2.2.2 z0 z1 z2 z3 z4 z5 z6 z7 z8 z9 z10 z11 z12 z13 z14
  have z0 : ((g 2 (a1).toNatClampNeg)).toInt ≠ 0 := fun e => z0 (Int32.toInt_inj.mp (e.trans (by decide)))
  have z1 : ((g 2 (a1).toNatClampNeg)).toInt ≠ 1 := fun e => z1 (Int32.toInt_inj.mp (e.trans (by decide)))
  have z2 : ((g 2 (a1).toNatClampNeg)).toInt ≠ 2 := fun e => z2 (Int32.toInt_inj.mp (e.trans (by decide)))
  have z3 : ((g 2 (a1).toNatClampNeg)).toInt ≠ 3 := fun e => z3 (Int32.toInt_inj.mp (e.trans (by decide)))
  have z4 : ((g 2 (a1).toNatClampNeg)).toInt ≠ 4 := fun e => z4 (Int32.toInt_inj.mp (e.trans (by decide)))
  have z5 : ((g 2 (a1).toNatClampNeg)).toInt ≠ 5 := fun e => z5 (Int32.toInt_inj.mp (e.trans (by decide)))
  have z6 : ((g 2 (a1).toNatClampNeg)).toInt ≠ 6 := fun e => z6 (Int32.toInt_inj.mp (e.trans (by decide)))
  have z7 : ((g 2 (a1).toNatClampNeg)).toInt ≠ 7 := fun e => z7 (Int32.toInt_inj.mp (e.trans (by decide)))
  have z8 : ((g 2 (a1).toNatClampNeg)).toInt ≠ 8 := fun e => z8 (Int32.toInt_inj.mp (e.trans (by decide)))
  have z9 : ((g 2 (a1).toNatClampNeg)).toInt ≠ 9 := fun e => z9 (Int32.toInt_inj.mp (e.trans (by decide)))
  have z10 : ((g 2 (a1).toNatClampNeg)).toInt ≠ 10 := fun e => z10 (Int32.toInt_inj.mp (e.trans (by decide)))
  have z11 : ((g 2 (a1).toNatClampNeg)).toInt ≠ 11 := fun e => z11 (Int32.toInt_inj.mp (e.trans (by decide)))
  have z12 : ((g 2 (a1).toNatClampNeg)).toInt ≠ 12 := fun e => z12 (Int32.toInt_inj.mp (e.trans (by decide)))
  have z13 : ((g 2 (a1).toNatClampNeg)).toInt ≠ 13 := fun e => z13 (Int32.toInt_inj.mp (e.trans (by decide)))
  have z14 : ((g 2 (a1).toNatClampNeg)).toInt ≠ 14 := fun e => z14 (Int32.toInt_inj.mp (e.trans (by decide)))
  refine sw_tableOut (tgt := 173) X dc_K_kinds_20 (by omega) (by decide) ?_
  refine sw_sub [1, 2, 3] rfl ?_
  exact b173 g q a1 a2 h
def rm_K_kinds : Nat → Nat × Nat
  | 0 => (0, 0)
  | d + 1 => ((rm_K_kinds d).1 + 3, (rm_K_kinds d).2 + 77)
theorem ct_K_kinds (l : Launch) (D : va_G) (cI cL cZ : ClassId) (ad : Nat → Nat) (r : st_I) (o : st_L) : ∀ (d : Nat) (a1 : Int32) (a2 : Int64) (g : st_I) (q : st_L) (Q : (Int32 → st_S → Prop)), wp_K_kinds d a1 a2 g q Q → ∀ sz, Met l yn_K_kinds (Cond.code yn_K_kinds cd_K_kinds 5 (some .int) :: wa_A) { frames := (rm_K_kinds d).1, cells := 0, slots := 0, locals := (rm_K_kinds d).2 } (va_Pc [.ref (ad 10), .int a1, .long a2] (wq_S D cl_A (wd_T cI cL cZ) nw_A (wd_W cI cL cZ ad g q r o) sz)) (va_Qi Q (fun u t => wq_E D cl_A (wd_T cI cL cZ) (va_A (wd_W cI cL cZ ad g q r o) sz) (wd_W cI cL cZ ad u.1 u.2 r o) t) (va_A (wd_W cI cL cZ ad g q r o) sz)) 0 0 (va_A (wd_W cI cL cZ ad g q r o) sz)
  | 0 => fun _ _ _ _ _ h => h.elim
  | d + 1 => fun a1 a2 g q Q h => ct_K_kinds_B l D cI cL cZ ad r o (rm_K_kinds d).1 (rm_K_kinds d).2 (wp_K_kinds d) (ct_K_kinds l D cI cL cZ ad r o d) a1 a2 g q Q h
def wp_K_bodyKinds_L28 (d : Nat) (Q : (Int32 → st_S → Prop)) (g : st_I) (q : st_L) (t0 : Int32) : Prop := Q t0 (g, q)
def wp_K_bodyKinds (d : Nat) (a1 : Int32) (a2 : Int64) (g : st_I) (q : st_L) (Q : (Int32 → st_S → Prop)) : Prop := vp_in a1 6 ∧ (¬ (g 9 (a1).toNatClampNeg) = ((-1) : Int32) → wp_K_kinds d (g 9 (a1).toNatClampNeg) a2 g q (fun x25 u25 => wp_K_bodyKinds_L28 d Q u25.1 u25.2 x25)) ∧ ((g 9 (a1).toNatClampNeg) = ((-1) : Int32) → wp_K_bodyKinds_L28 d Q g q (0 : Int32))
set_option maxHeartbeats 4000000 in
set_option maxRecDepth 100000 in
theorem ct_K_bodyKinds (l : Launch) (D : va_G) (cI cL cZ : ClassId) (ad : Nat → Nat) (r : st_I) (o : st_L) (d : Nat) (a1 : Int32) (a2 : Int64) (g : st_I) (q : st_L) (Q : (Int32 → st_S → Prop)) (h : wp_K_bodyKinds d a1 a2 g q Q) : ∀ sz, Met l yn_K_bodyKinds (Cond.code yn_K_bodyKinds cd_K_bodyKinds 5 (some .int) :: wa_A) { frames := (rm_K_kinds d).1 + 1, cells := 0, slots := 0, locals := (rm_K_kinds d).2 + 24 } (va_Pc [.ref (ad 10), .int a1, .long a2] (wq_S D cl_A (wd_T cI cL cZ) nw_A (wd_W cI cL cZ ad g q r o) sz)) (va_Qi Q (fun u t => wq_E D cl_A (wd_T cI cL cZ) (va_A (wd_W cI cL cZ ad g q r o) sz) (wd_W cI cL cZ ad u.1 u.2 r o) t) (va_A (wd_W cI cL cZ ad g q r o) sz)) 0 0 (va_A (wd_W cI cL cZ ad g q r o) sz) := by
  refine sw_met (Qc := fun A => va_Qi Q (fun u t => wq_E D cl_A (wd_T cI cL cZ) A (wd_W cI cL cZ ad u.1 u.2 r o) t) A) (by decide) rfl (Nat.le_of_ble_eq_true rfl) rfl ?_
  intro p e s m args below meth c A X hA hNs hE hr hlk hnm
  have b28 : ∀ (g : st_I) (q : st_L) (t0 : Int32), wp_K_bodyKinds_L28 d Q g q t0 → sw_J p l e { frames := (rm_K_kinds d).1 + 1, cells := 0, slots := 0, locals := (rm_K_kinds d).2 + 24 } s m args below meth c 0 0 (MQ below (va_Qi Q (fun u t => wq_E D cl_A (wd_T cI cL cZ) A (wd_W cI cL cZ ad u.1 u.2 r o) t) A) args s 0 0 A) D cl_A A 5 (wd_W cI cL cZ ad g q r o) 28 [] [.int t0] := by
    intro g q t0 h
    exact sw_iret X hr hlk (u := (g, q)) rfl h dc_K_bodyKinds_28
  refine sw_aload_n X 0 rfl rfl dc_K_bodyKinds_0 ?_
  refine sw_get X (fun z hz => List.mem_cons_of_mem _ (wf_K z hz)) 10 (wd_10 cI cL cZ ad g q r o) rfl 0 (by decide) (List.mem_cons_of_mem _ wm_fl_K_23) rfl dc_K_bodyKinds_1 ?_
  refine sw_get X (fun z hz => List.mem_cons_of_mem _ (wf_P z hz)) 1 (wd_1 cI cL cZ ad g q r o) rfl 7 (by decide) (List.mem_cons_of_mem _ wm_fl_K_68) rfl dc_K_bodyKinds_4 ?_
  refine sw_iload_n X 1 rfl rfl dc_K_bodyKinds_7 ?_
  refine sw_iald X 9 0 (wd_9 cI cL cZ ad g q r o) rfl h.1 dc_K_bodyKinds_8 ?_
  have h := h.2
  refine sw_istore X [(4, .int (g 9 (a1).toNatClampNeg)), (0, .ref (ad 10)), (1, .int a1), (2, .long a2)] rfl (by decide) dc_K_bodyKinds_9 ?_
  refine sw_iload X 0 rfl dc_K_bodyKinds_11 ?_
  refine sw_iconst (v := -1) X dc_K_bodyKinds_13 (by decide) ?_
  refine sw_icmp_ne (tgt := 21) X dc_K_bodyKinds_14 (by decide) (fun z => ?_) (fun z => ?_)
  · have h := h.1 z
    refine sw_aload_n X 1 rfl rfl dc_K_bodyKinds_21 ?_
    refine sw_iload X 0 rfl dc_K_bodyKinds_22 ?_
    refine sw_lload_n X 3 rfl rfl dc_K_bodyKinds_24 ?_
    refine sw_cV_i (n := 2) X hA nw_okA hNs hE (fun u : st_S => wd_W cI cL cZ ad u.1 u.2 r o) [.int (g 9 (a1).toNatClampNeg), .long a2] 10 (wd_10 cI cL cZ ad g q r o) rfl rfl (ct_K_kinds l D cI cL cZ ad r o d (g 9 (a1).toNatClampNeg) a2 g q _ h) (List.mem_cons_of_mem _ wm_ml_K_71) (List.mem_cons_of_mem _ wm_im_K_kinds) (List.mem_cons_of_mem _ wm_se_K_kinds) rfl (wg_in wm_code_K_kinds) rfl rfl (List.mem_cons_of_mem _ wm_in_K) ⟨by decide, by decide, by decide +kernel⟩ ⟨by dsimp only; omega, by dsimp only; omega⟩ ⟨Nat.zero_le _, Nat.zero_le _⟩ rfl (Nat.le_of_ble_eq_true rfl) dc_K_bodyKinds_25 rfl (fun x25 u25 h => ?_)
    refine sw_sub [] rfl ?_
    exact b28 u25.1 u25.2 x25 h
  · have h := h.2 z
    refine sw_iconst (v := 0) X dc_K_bodyKinds_17 (by decide) ?_
    refine sw_goto (tgt := 28) X dc_K_bodyKinds_18 (by decide) ?_
    refine sw_sub [] rfl ?_
    exact b28 g q (0 : Int32) h
def wp_K_walkBody (d : Nat) (a1 : Int32) (g : st_I) (q : st_L) (Q : (st_S → Prop)) : Prop := wp_J_fill_13 (0 : Int32) g q (fun u5 => wp_K_anyArguments a1 u5.1 u5.2 (fun x11 u11 => wp_K_bodyKinds d a1 x11 u11.1 u11.2 (fun x14 u14 => Q (u14.1, u14.2))))
set_option maxHeartbeats 4000000 in
set_option maxRecDepth 100000 in
theorem ct_K_walkBody (l : Launch) (D : va_G) (cI cL cZ : ClassId) (ad : Nat → Nat) (r : st_I) (o : st_L) (d : Nat) (a1 : Int32) (g : st_I) (q : st_L) (Q : (st_S → Prop)) (h : wp_K_walkBody d a1 g q Q) : ∀ sz, Met l yn_K_walkBody (Cond.code yn_K_walkBody cd_K_walkBody 2 none :: wa_A) { frames := (rm_K_kinds d).1 + 2, cells := 0, slots := 0, locals := (rm_K_kinds d).2 + 48 } (va_Pc [.ref (ad 10), .int a1] (wq_S D cl_A (wd_T cI cL cZ) nw_A (wd_W cI cL cZ ad g q r o) sz)) (va_Qv Q (fun u t => wq_E D cl_A (wd_T cI cL cZ) (va_A (wd_W cI cL cZ ad g q r o) sz) (wd_W cI cL cZ ad u.1 u.2 r o) t) (va_A (wd_W cI cL cZ ad g q r o) sz)) 0 0 (va_A (wd_W cI cL cZ ad g q r o) sz) := by
  refine sw_met (Qc := fun A => va_Qv Q (fun u t => wq_E D cl_A (wd_T cI cL cZ) A (wd_W cI cL cZ ad u.1 u.2 r o) t) A) (by decide) rfl (Nat.le_of_ble_eq_true rfl) rfl ?_
  intro p e s m args below meth c A X hA hNs hE hr hlk hnm
  refine sw_aload_n X 0 rfl rfl dc_K_walkBody_0 ?_
  refine sw_get X (fun z hz => List.mem_cons_of_mem _ (wf_K z hz)) 10 (wd_10 cI cL cZ ad g q r o) rfl 3 (by decide) (List.mem_cons_of_mem _ wm_fl_K_20) rfl dc_K_walkBody_1 ?_
  refine sw_iconst (v := 0) X dc_K_walkBody_4 (by decide) ?_
  refine sw_cS_v (n := 2) X hA nw_okA hNs hE (fun u : st_S => wd_W cI cL cZ ad u.1 u.2 r o) [.ref (ad 13), .int (0 : Int32)] (ct_J_fill_13 l D cI cL cZ ad r o (0 : Int32) g q _ h) (List.mem_cons_of_mem _ wm_ml_K_31) (List.mem_cons_of_mem _ wm_st_J_fill) rfl (wg_in wm_code_J_fill) rfl rfl (List.mem_cons_of_mem _ wm_in_J) ⟨by decide, by decide, by decide +kernel⟩ ⟨by dsimp only; omega, by dsimp only; omega⟩ ⟨Nat.zero_le _, Nat.zero_le _⟩ rfl (Nat.le_of_ble_eq_true rfl) dc_K_walkBody_5 rfl (fun u5 h => ?_)
  refine sw_aload_n X 0 rfl rfl dc_K_walkBody_8 ?_
  refine sw_iload_n X 1 rfl rfl dc_K_walkBody_9 ?_
  refine sw_iload_n X 1 rfl rfl dc_K_walkBody_10 ?_
  refine sw_cS_l (n := 1) X hA nw_okA hNs hE (fun u : st_S => wd_W cI cL cZ ad u.1 u.2 r o) [.int a1] (ct_K_anyArguments l D cI cL cZ ad r o a1 u5.1 u5.2 _ h) (List.mem_cons_of_mem _ wm_ml_K_53) (List.mem_cons_of_mem _ wm_st_K_anyArguments) rfl (wg_in wm_code_K_anyArguments) rfl rfl (List.mem_cons_of_mem _ wm_in_K) ⟨by decide, by decide, by decide +kernel⟩ ⟨by dsimp only; omega, by dsimp only; omega⟩ ⟨Nat.zero_le _, Nat.zero_le _⟩ rfl (Nat.le_of_ble_eq_true rfl) dc_K_walkBody_11 rfl (fun x11 u11 h => ?_)
  refine sw_cV_i (n := 2) X hA nw_okA hNs hE (fun u : st_S => wd_W cI cL cZ ad u.1 u.2 r o) [.int a1, .long x11] 10 (wd_10 cI cL cZ ad u11.1 u11.2 r o) rfl rfl (ct_K_bodyKinds l D cI cL cZ ad r o d a1 x11 u11.1 u11.2 _ h) (List.mem_cons_of_mem _ wm_ml_K_57) (List.mem_cons_of_mem _ wm_im_K_bodyKinds) (List.mem_cons_of_mem _ wm_se_K_bodyKinds) rfl (wg_in wm_code_K_bodyKinds) rfl rfl (List.mem_cons_of_mem _ wm_in_K) ⟨by decide, by decide, by decide +kernel⟩ ⟨by dsimp only; omega, by dsimp only; omega⟩ ⟨Nat.zero_le _, Nat.zero_le _⟩ rfl (Nat.le_of_ble_eq_true rfl) dc_K_walkBody_14 rfl (fun x14 u14 h => ?_)
  refine sw_pop X dc_K_walkBody_17 rfl ?_
  exact sw_vret X hr hlk (u := (u14.1, u14.2)) rfl h dc_K_walkBody_18
def wp_K_growGives_L37 (d : Nat) (Q : (Int32 → st_S → Prop)) (g : st_I) (q : st_L) (t0 : Int32) : Prop := narrow .boolean (.int t0) = .int t0 ∧ Q t0 (g, q)
def wp_K_growGives (d : Nat) (a1 : Int32) (g : st_I) (q : st_L) (Q : (Int32 → st_S → Prop)) : Prop := vp_in a1 6 ∧ wp_K_anyArguments a1 g q (fun x15 u15 => wp_K_bodyKinds d a1 x15 u15.1 u15.2 (fun x18 u18 => vp_in a1 6 ∧ vp_in a1 6 ∧ (((st_u u18.1 12 (a1).toNatClampNeg x18) 12 (a1).toNatClampNeg) = (g 12 (a1).toNatClampNeg) → wp_K_growGives_L37 d Q (st_u u18.1 12 (a1).toNatClampNeg x18) u18.2 (0 : Int32)) ∧ (¬ ((st_u u18.1 12 (a1).toNatClampNeg x18) 12 (a1).toNatClampNeg) = (g 12 (a1).toNatClampNeg) → wp_K_growGives_L37 d Q (st_u u18.1 12 (a1).toNatClampNeg x18) u18.2 (1 : Int32))))
set_option maxHeartbeats 4000000 in
set_option maxRecDepth 100000 in
theorem ct_K_growGives (l : Launch) (D : va_G) (cI cL cZ : ClassId) (ad : Nat → Nat) (r : st_I) (o : st_L) (d : Nat) (a1 : Int32) (g : st_I) (q : st_L) (Q : (Int32 → st_S → Prop)) (h : wp_K_growGives d a1 g q Q) : ∀ sz, Met l yn_K_growGives (Cond.code yn_K_growGives cd_K_growGives 3 (some .boolean) :: wa_A) { frames := (rm_K_kinds d).1 + 2, cells := 0, slots := 0, locals := (rm_K_kinds d).2 + 48 } (va_Pc [.ref (ad 10), .int a1] (wq_S D cl_A (wd_T cI cL cZ) nw_A (wd_W cI cL cZ ad g q r o) sz)) (va_Qi Q (fun u t => wq_E D cl_A (wd_T cI cL cZ) (va_A (wd_W cI cL cZ ad g q r o) sz) (wd_W cI cL cZ ad u.1 u.2 r o) t) (va_A (wd_W cI cL cZ ad g q r o) sz)) 0 0 (va_A (wd_W cI cL cZ ad g q r o) sz) := by
  refine sw_met (Qc := fun A => va_Qi Q (fun u t => wq_E D cl_A (wd_T cI cL cZ) A (wd_W cI cL cZ ad u.1 u.2 r o) t) A) (by decide) rfl (Nat.le_of_ble_eq_true rfl) rfl ?_
  intro p e s m args below meth c A X hA hNs hE hr hlk hnm
  have b37 : ∀ (g : st_I) (q : st_L) (t0 : Int32), wp_K_growGives_L37 d Q g q t0 → sw_J p l e { frames := (rm_K_kinds d).1 + 2, cells := 0, slots := 0, locals := (rm_K_kinds d).2 + 48 } s m args below meth c 0 0 (MQ below (va_Qi Q (fun u t => wq_E D cl_A (wd_T cI cL cZ) A (wd_W cI cL cZ ad u.1 u.2 r o) t) A) args s 0 0 A) D cl_A A 3 (wd_W cI cL cZ ad g q r o) 37 [] [.int t0] := by
    intro g q t0 h
    exact sw_zret X hr hlk h.1 (u := (g, q)) rfl h.2 dc_K_growGives_37
  refine sw_aload_n X 0 rfl rfl dc_K_growGives_0 ?_
  refine sw_get X (fun z hz => List.mem_cons_of_mem _ (wf_K z hz)) 10 (wd_10 cI cL cZ ad g q r o) rfl 2 (by decide) (List.mem_cons_of_mem _ wm_fl_K_15) rfl dc_K_growGives_1 ?_
  refine sw_iload_n X 1 rfl rfl dc_K_growGives_4 ?_
  refine sw_iald X 12 0 (wd_12 cI cL cZ ad g q r o) rfl h.1 dc_K_growGives_5 ?_
  have h := h.2
  refine sw_istore_n X [(2, .int (g 12 (a1).toNatClampNeg)), (0, .ref (ad 10)), (1, .int a1)] rfl (by decide) rfl dc_K_growGives_6 ?_
  refine sw_aload_n X 1 rfl rfl dc_K_growGives_7 ?_
  refine sw_get X (fun z hz => List.mem_cons_of_mem _ (wf_K z hz)) 10 (wd_10 cI cL cZ ad g q r o) rfl 2 (by decide) (List.mem_cons_of_mem _ wm_fl_K_15) rfl dc_K_growGives_8 ?_
  refine sw_iload_n X 2 rfl rfl dc_K_growGives_11 ?_
  refine sw_aload_n X 1 rfl rfl dc_K_growGives_12 ?_
  refine sw_iload_n X 2 rfl rfl dc_K_growGives_13 ?_
  refine sw_iload_n X 2 rfl rfl dc_K_growGives_14 ?_
  refine sw_cS_l (n := 1) X hA nw_okA hNs hE (fun u : st_S => wd_W cI cL cZ ad u.1 u.2 r o) [.int a1] (ct_K_anyArguments l D cI cL cZ ad r o a1 g q _ h) (List.mem_cons_of_mem _ wm_ml_K_53) (List.mem_cons_of_mem _ wm_st_K_anyArguments) rfl (wg_in wm_code_K_anyArguments) rfl rfl (List.mem_cons_of_mem _ wm_in_K) ⟨by decide, by decide, by decide +kernel⟩ ⟨by dsimp only; omega, by dsimp only; omega⟩ ⟨Nat.zero_le _, Nat.zero_le _⟩ rfl (Nat.le_of_ble_eq_true rfl) dc_K_growGives_15 rfl (fun x15 u15 h => ?_)
  refine sw_cV_i (n := 2) X hA nw_okA hNs hE (fun u : st_S => wd_W cI cL cZ ad u.1 u.2 r o) [.int a1, .long x15] 10 (wd_10 cI cL cZ ad u15.1 u15.2 r o) rfl rfl (ct_K_bodyKinds l D cI cL cZ ad r o d a1 x15 u15.1 u15.2 _ h) (List.mem_cons_of_mem _ wm_ml_K_57) (List.mem_cons_of_mem _ wm_im_K_bodyKinds) (List.mem_cons_of_mem _ wm_se_K_bodyKinds) rfl (wg_in wm_code_K_bodyKinds) rfl rfl (List.mem_cons_of_mem _ wm_in_K) ⟨by decide, by decide, by decide +kernel⟩ ⟨by dsimp only; omega, by dsimp only; omega⟩ ⟨Nat.zero_le _, Nat.zero_le _⟩ rfl (Nat.le_of_ble_eq_true rfl) dc_K_growGives_18 rfl (fun x18 u18 h => ?_)
  refine sw_iast X 12 0 (wd_12 cI cL cZ ad u18.1 u18.2 r o) rfl h.1 (wd_W cI cL cZ ad (st_u u18.1 12 (a1).toNatClampNeg x18) u18.2 r o) (ws_12 cI cL cZ ad u18.1 u18.2 r o (a1).toNatClampNeg x18) dc_K_growGives_21 ?_
  have h := h.2
  refine sw_aload_n X 1 rfl rfl dc_K_growGives_22 ?_
  refine sw_get X (fun z hz => List.mem_cons_of_mem _ (wf_K z hz)) 10 (wd_10 cI cL cZ ad (st_u u18.1 12 (a1).toNatClampNeg x18) u18.2 r o) rfl 2 (by decide) (List.mem_cons_of_mem _ wm_fl_K_15) rfl dc_K_growGives_23 ?_
  refine sw_iload_n X 2 rfl rfl dc_K_growGives_26 ?_
  refine sw_iald X 12 0 (wd_12 cI cL cZ ad (st_u u18.1 12 (a1).toNatClampNeg x18) u18.2 r o) rfl h.1 dc_K_growGives_27 ?_
  have h := h.2
  refine sw_iload_n X 0 rfl rfl dc_K_growGives_28 ?_
  refine sw_icmp_eq (tgt := 36) X dc_K_growGives_29 (by decide) (fun z => ?_) (fun z => ?_)
  · have h := h.1 z
    refine sw_iconst (v := 0) X dc_K_growGives_36 (by decide) ?_
    refine sw_sub [] rfl ?_
    exact b37 (st_u u18.1 12 (a1).toNatClampNeg x18) u18.2 (0 : Int32) h
  · have h := h.2 z
    refine sw_iconst (v := 1) X dc_K_growGives_32 (by decide) ?_
    refine sw_goto (tgt := 37) X dc_K_growGives_33 (by decide) ?_
    refine sw_sub [] rfl ?_
    exact b37 (st_u u18.1 12 (a1).toNatClampNeg x18) u18.2 (1 : Int32) h
def wp_K_growMay_L93 (d : Nat) (Q : (Int32 → st_S → Prop)) (g : st_I) (q : st_L) (t0 : Int32) : Prop := narrow .boolean (.int t0) = .int t0 ∧ Q t0 (g, q)
def wp_K_growMay_L71 (d : Nat) (Q : (Int32 → st_S → Prop)) (H17 : st_I → st_L → Int32 → Int32 → Int32 → Int32 → Int32 → Prop) (g : st_I) (q : st_L) (v1 : Int32) (v2 : Int32) (v3 : Int32) (v4 : Int32) (v5 : Int32) : Prop := H17 g q v1 v2 v3 v4 (v5 + 1)
def wp_K_growMay_L17 (d : Nat) (Q : (Int32 → st_S → Prop)) : Nat → st_I → st_L → Int32 → Int32 → Int32 → Int32 → Int32 → Prop
  | 0 => fun _ _ _ _ _ _ _ => False
  | n17 + 1 => fun g q v1 v2 v3 v4 v5 => ((9 : Int32) ≤ v5 → vp_in v3 12 ∧ ((g 11 (v3).toNatClampNeg) = v4 → wp_K_growMay_L93 d Q g q (0 : Int32)) ∧ (¬ (g 11 (v3).toNatClampNeg) = v4 → wp_K_growMay_L93 d Q g q (1 : Int32))) ∧ (¬ (9 : Int32) ≤ v5 → wp_K_anyArguments v1 g q (fun x25 u25 => wp_K_with x25 v2 ((1 : Int32) <<< (v5 &&& 31)) u25.1 u25.2 (fun x33 u33 => wp_K_has v4 v5 u33.1 u33.2 (fun x42 u42 => (¬ x42 = 0 → wp_K_growMay_L71 d Q (wp_K_growMay_L17 d Q n17) u42.1 u42.2 v1 v2 v3 v4 v5) ∧ (x42 = 0 → wp_K_bodyKinds d v1 x33 u42.1 u42.2 (fun x52 u52 => (x52 = 0 → wp_K_growMay_L71 d Q (wp_K_growMay_L17 d Q n17) u52.1 u52.2 v1 v2 v3 v4 v5) ∧ (¬ x52 = 0 → vp_in v3 12 ∧ vp_in v3 12 ∧ wp_K_growMay_L71 d Q (wp_K_growMay_L17 d Q n17) (st_u u52.1 11 (v3).toNatClampNeg ((u52.1 11 (v3).toNatClampNeg) ||| ((1 : Int32) <<< (v5 &&& 31)))) u52.2 v1 v2 v3 v4 v5)))))))
def wp_K_growMay (d : Nat) (a1 : Int32) (a2 : Int32) (g : st_I) (q : st_L) (Q : (Int32 → st_S → Prop)) : Prop := vp_in ((a1 * (2 : Int32)) + a2) 12 ∧ ∃ n17, wp_K_growMay_L17 d Q n17 g q a1 a2 ((a1 * (2 : Int32)) + a2) (g 11 (((a1 * (2 : Int32)) + a2)).toNatClampNeg) (0 : Int32)
set_option maxHeartbeats 4000000 in
set_option maxRecDepth 100000 in
theorem ct_K_growMay (l : Launch) (D : va_G) (cI cL cZ : ClassId) (ad : Nat → Nat) (r : st_I) (o : st_L) (d : Nat) (a1 : Int32) (a2 : Int32) (g : st_I) (q : st_L) (Q : (Int32 → st_S → Prop)) (h : wp_K_growMay d a1 a2 g q Q) : ∀ sz, Met l yn_K_growMay (Cond.code yn_K_growMay cd_K_growMay 8 (some .boolean) :: wa_A) { frames := (rm_K_kinds d).1 + 2, cells := 0, slots := 0, locals := (rm_K_kinds d).2 + 48 } (va_Pc [.ref (ad 10), .int a1, .int a2] (wq_S D cl_A (wd_T cI cL cZ) nw_A (wd_W cI cL cZ ad g q r o) sz)) (va_Qi Q (fun u t => wq_E D cl_A (wd_T cI cL cZ) (va_A (wd_W cI cL cZ ad g q r o) sz) (wd_W cI cL cZ ad u.1 u.2 r o) t) (va_A (wd_W cI cL cZ ad g q r o) sz)) 0 0 (va_A (wd_W cI cL cZ ad g q r o) sz) := by
  refine sw_met (Qc := fun A => va_Qi Q (fun u t => wq_E D cl_A (wd_T cI cL cZ) A (wd_W cI cL cZ ad u.1 u.2 r o) t) A) (by decide) rfl (Nat.le_of_ble_eq_true rfl) rfl ?_
  intro p e s m args below meth c A X hA hNs hE hr hlk hnm
  have b93 : ∀ (g : st_I) (q : st_L) (t0 : Int32), wp_K_growMay_L93 d Q g q t0 → sw_J p l e { frames := (rm_K_kinds d).1 + 2, cells := 0, slots := 0, locals := (rm_K_kinds d).2 + 48 } s m args below meth c 0 0 (MQ below (va_Qi Q (fun u t => wq_E D cl_A (wd_T cI cL cZ) A (wd_W cI cL cZ ad u.1 u.2 r o) t) A) args s 0 0 A) D cl_A A 8 (wd_W cI cL cZ ad g q r o) 93 [] [.int t0] := by
    intro g q t0 h
    exact sw_zret X hr hlk h.1 (u := (g, q)) rfl h.2 dc_K_growMay_93
  have b71 : ∀ (H17 : st_I → st_L → Int32 → Int32 → Int32 → Int32 → Int32 → Prop) (hH17 : ∀ (g : st_I) (q : st_L) (v1 : Int32) (v2 : Int32) (v3 : Int32) (v4 : Int32) (v5 : Int32), H17 g q v1 v2 v3 v4 v5 → sw_J p l e { frames := (rm_K_kinds d).1 + 2, cells := 0, slots := 0, locals := (rm_K_kinds d).2 + 48 } s m args below meth c 0 0 (MQ below (va_Qi Q (fun u t => wq_E D cl_A (wd_T cI cL cZ) A (wd_W cI cL cZ ad u.1 u.2 r o) t) A) args s 0 0 A) D cl_A A 8 (wd_W cI cL cZ ad g q r o) 17 [(0, .ref (ad 10)), (1, .int v1), (2, .int v2), (3, .int v3), (4, .int v4), (5, .int v5)] []) (g : st_I) (q : st_L) (v1 : Int32) (v2 : Int32) (v3 : Int32) (v4 : Int32) (v5 : Int32), wp_K_growMay_L71 d Q H17 g q v1 v2 v3 v4 v5 → sw_J p l e { frames := (rm_K_kinds d).1 + 2, cells := 0, slots := 0, locals := (rm_K_kinds d).2 + 48 } s m args below meth c 0 0 (MQ below (va_Qi Q (fun u t => wq_E D cl_A (wd_T cI cL cZ) A (wd_W cI cL cZ ad u.1 u.2 r o) t) A) args s 0 0 A) D cl_A A 8 (wd_W cI cL cZ ad g q r o) 71 [(0, .ref (ad 10)), (1, .int v1), (2, .int v2), (3, .int v3), (4, .int v4), (5, .int v5)] [] := by
    intro H17 hH17 g q v1 v2 v3 v4 v5 h
    refine sw_iinc (n := 1) (v := (v5 + 1)) X 5 rfl rfl [(5, .int (v5 + 1)), (0, .ref (ad 10)), (1, .int v1), (2, .int v2), (3, .int v3), (4, .int v4)] rfl (by decide) dc_K_growMay_71 ?_
    refine sw_goto (tgt := 17) X dc_K_growMay_74 (by decide) ?_
    refine sw_sub [1, 2, 3, 4, 5, 0] rfl ?_
    exact hH17 g q v1 v2 v3 v4 (v5 + 1) h
  have b17 : ∀ (n : Nat) (g : st_I) (q : st_L) (v1 : Int32) (v2 : Int32) (v3 : Int32) (v4 : Int32) (v5 : Int32), wp_K_growMay_L17 d Q n g q v1 v2 v3 v4 v5 → sw_J p l e { frames := (rm_K_kinds d).1 + 2, cells := 0, slots := 0, locals := (rm_K_kinds d).2 + 48 } s m args below meth c 0 0 (MQ below (va_Qi Q (fun u t => wq_E D cl_A (wd_T cI cL cZ) A (wd_W cI cL cZ ad u.1 u.2 r o) t) A) args s 0 0 A) D cl_A A 8 (wd_W cI cL cZ ad g q r o) 17 [(0, .ref (ad 10)), (1, .int v1), (2, .int v2), (3, .int v3), (4, .int v4), (5, .int v5)] [] := by
    intro n17
    induction n17 with
    | zero => intro g q v1 v2 v3 v4 v5 h; exact h.elim
    | succ n17 hH17 =>
    intro g q v1 v2 v3 v4 v5 h
    refine sw_iload X 5 rfl dc_K_growMay_17 ?_
    refine sw_bipush (v := 9) X dc_K_growMay_19 (by decide) ?_
    refine sw_icmp_ge (tgt := 77) X dc_K_growMay_21 (by decide) (fun z => ?_) (fun z => ?_)
    · have h := h.1 z
      refine sw_aload_n X 0 rfl rfl dc_K_growMay_77 ?_
      refine sw_get X (fun z hz => List.mem_cons_of_mem _ (wf_K z hz)) 10 (wd_10 cI cL cZ ad g q r o) rfl 1 (by decide) (List.mem_cons_of_mem _ wm_fl_K_9) rfl dc_K_growMay_78 ?_
      refine sw_iload_n X 3 rfl rfl dc_K_growMay_81 ?_
      refine sw_iald X 11 0 (wd_11 cI cL cZ ad g q r o) rfl h.1 dc_K_growMay_82 ?_
      have h := h.2
      refine sw_iload X 4 rfl dc_K_growMay_83 ?_
      refine sw_icmp_eq (tgt := 92) X dc_K_growMay_85 (by decide) (fun z => ?_) (fun z => ?_)
      · have h := h.1 z
        refine sw_iconst (v := 0) X dc_K_growMay_92 (by decide) ?_
        refine sw_sub [] rfl ?_
        exact b93 g q (0 : Int32) h
      · have h := h.2 z
        refine sw_iconst (v := 1) X dc_K_growMay_88 (by decide) ?_
        refine sw_goto (tgt := 93) X dc_K_growMay_89 (by decide) ?_
        refine sw_sub [] rfl ?_
        exact b93 g q (1 : Int32) h
    · have h := h.2 z
      refine sw_iload_n X 1 rfl rfl dc_K_growMay_24 ?_
      refine sw_cS_l (n := 1) X hA nw_okA hNs hE (fun u : st_S => wd_W cI cL cZ ad u.1 u.2 r o) [.int v1] (ct_K_anyArguments l D cI cL cZ ad r o v1 g q _ h) (List.mem_cons_of_mem _ wm_ml_K_53) (List.mem_cons_of_mem _ wm_st_K_anyArguments) rfl (wg_in wm_code_K_anyArguments) rfl rfl (List.mem_cons_of_mem _ wm_in_K) ⟨by decide, by decide, by decide +kernel⟩ ⟨by dsimp only; omega, by dsimp only; omega⟩ ⟨Nat.zero_le _, Nat.zero_le _⟩ rfl (Nat.le_of_ble_eq_true rfl) dc_K_growMay_25 rfl (fun x25 u25 h => ?_)
      refine sw_iload_n X 2 rfl rfl dc_K_growMay_28 ?_
      refine sw_iconst (v := 1) X dc_K_growMay_29 (by decide) ?_
      refine sw_iload X 5 rfl dc_K_growMay_30 ?_
      refine sw_ishl X dc_K_growMay_32 ?_
      refine sw_cS_l (n := 3) X hA nw_okA hNs hE (fun u : st_S => wd_W cI cL cZ ad u.1 u.2 r o) [.long x25, .int v2, .int ((1 : Int32) <<< (v5 &&& 31))] (ct_K_with l D cI cL cZ ad r o x25 v2 ((1 : Int32) <<< (v5 &&& 31)) u25.1 u25.2 _ h) (List.mem_cons_of_mem _ wm_ml_K_61) (List.mem_cons_of_mem _ wm_st_K_with) rfl (wg_in wm_code_K_with) rfl rfl (List.mem_cons_of_mem _ wm_in_K) ⟨by decide, by decide, by decide +kernel⟩ ⟨by dsimp only; omega, by dsimp only; omega⟩ ⟨Nat.zero_le _, Nat.zero_le _⟩ rfl (Nat.le_of_ble_eq_true rfl) dc_K_growMay_33 rfl (fun x33 u33 h => ?_)
      refine sw_lstore X [(6, .long x33), (0, .ref (ad 10)), (1, .int v1), (2, .int v2), (3, .int v3), (4, .int v4), (5, .int v5)] rfl (by decide) dc_K_growMay_36 ?_
      refine sw_iload X 5 rfl dc_K_growMay_38 ?_
      refine sw_iload X 6 rfl dc_K_growMay_40 ?_
      refine sw_cS_i (n := 2) X hA nw_okA hNs hE (fun u : st_S => wd_W cI cL cZ ad u.1 u.2 r o) [.int v4, .int v5] (ct_K_has l D cI cL cZ ad r o v4 v5 u33.1 u33.2 _ h) (List.mem_cons_of_mem _ wm_ml_K_65) (List.mem_cons_of_mem _ wm_st_K_has) rfl (wg_in wm_code_K_has) rfl rfl (List.mem_cons_of_mem _ wm_in_K) ⟨by decide, by decide, by decide +kernel⟩ ⟨by dsimp only; omega, by dsimp only; omega⟩ ⟨Nat.zero_le _, Nat.zero_le _⟩ rfl (Nat.le_of_ble_eq_true rfl) dc_K_growMay_42 rfl (fun x42 u42 h => ?_)
      refine sw_if_ne (tgt := 71) X dc_K_growMay_45 (by decide) (fun z => ?_) (fun z => ?_)
      · have h := h.1 z
        refine sw_sub [1, 2, 3, 4, 5, 6] rfl ?_
        exact b71 (wp_K_growMay_L17 d Q n17) hH17 u42.1 u42.2 v1 v2 v3 v4 v5 h
      · have h := h.2 z
        refine sw_aload_n X 1 rfl rfl dc_K_growMay_48 ?_
        refine sw_iload_n X 2 rfl rfl dc_K_growMay_49 ?_
        refine sw_lload X 0 rfl dc_K_growMay_50 ?_
        refine sw_cV_i (n := 2) X hA nw_okA hNs hE (fun u : st_S => wd_W cI cL cZ ad u.1 u.2 r o) [.int v1, .long x33] 10 (wd_10 cI cL cZ ad u42.1 u42.2 r o) rfl rfl (ct_K_bodyKinds l D cI cL cZ ad r o d v1 x33 u42.1 u42.2 _ h) (List.mem_cons_of_mem _ wm_ml_K_57) (List.mem_cons_of_mem _ wm_im_K_bodyKinds) (List.mem_cons_of_mem _ wm_se_K_bodyKinds) rfl (wg_in wm_code_K_bodyKinds) rfl rfl (List.mem_cons_of_mem _ wm_in_K) ⟨by decide, by decide, by decide +kernel⟩ ⟨by dsimp only; omega, by dsimp only; omega⟩ ⟨Nat.zero_le _, Nat.zero_le _⟩ rfl (Nat.le_of_ble_eq_true rfl) dc_K_growMay_52 rfl (fun x52 u52 h => ?_)
        refine sw_if_eq (tgt := 71) X dc_K_growMay_55 (by decide) (fun z => ?_) (fun z => ?_)
        · have h := h.1 z
          refine sw_sub [1, 2, 3, 4, 5, 6] rfl ?_
          exact b71 (wp_K_growMay_L17 d Q n17) hH17 u52.1 u52.2 v1 v2 v3 v4 v5 h
        · have h := h.2 z
          refine sw_aload_n X 1 rfl rfl dc_K_growMay_58 ?_
          refine sw_get X (fun z hz => List.mem_cons_of_mem _ (wf_K z hz)) 10 (wd_10 cI cL cZ ad u52.1 u52.2 r o) rfl 1 (by decide) (List.mem_cons_of_mem _ wm_fl_K_9) rfl dc_K_growMay_59 ?_
          refine sw_iload_n X 4 rfl rfl dc_K_growMay_62 ?_
          refine sw_dup2 X dc_K_growMay_63 rfl rfl ?_
          refine sw_iald X 11 0 (wd_11 cI cL cZ ad u52.1 u52.2 r o) rfl h.1 dc_K_growMay_64 ?_
          have h := h.2
          refine sw_iconst (v := 1) X dc_K_growMay_65 (by decide) ?_
          refine sw_iload X 6 rfl dc_K_growMay_66 ?_
          refine sw_ishl X dc_K_growMay_68 ?_
          refine sw_ior X dc_K_growMay_69 ?_
          refine sw_iast X 11 0 (wd_11 cI cL cZ ad u52.1 u52.2 r o) rfl h.1 (wd_W cI cL cZ ad (st_u u52.1 11 (v3).toNatClampNeg ((u52.1 11 (v3).toNatClampNeg) ||| ((1 : Int32) <<< (v5 &&& 31)))) u52.2 r o) (ws_11 cI cL cZ ad u52.1 u52.2 r o (v3).toNatClampNeg ((u52.1 11 (v3).toNatClampNeg) ||| ((1 : Int32) <<< (v5 &&& 31)))) dc_K_growMay_70 ?_
          have h := h.2
          refine sw_sub [1, 2, 3, 4, 5, 6] rfl ?_
          exact b71 (wp_K_growMay_L17 d Q n17) hH17 (st_u u52.1 11 (v3).toNatClampNeg ((u52.1 11 (v3).toNatClampNeg) ||| ((1 : Int32) <<< (v5 &&& 31)))) u52.2 v1 v2 v3 v4 v5 h
  refine sw_iload_n X 1 rfl rfl dc_K_growMay_0 ?_
  refine sw_iconst (v := 2) X dc_K_growMay_1 (by decide) ?_
  refine sw_imul X dc_K_growMay_2 ?_
  refine sw_iload_n X 2 rfl rfl dc_K_growMay_3 ?_
  refine sw_iadd X dc_K_growMay_4 ?_
  refine sw_istore_n X [(3, .int ((a1 * (2 : Int32)) + a2)), (0, .ref (ad 10)), (1, .int a1), (2, .int a2)] rfl (by decide) rfl dc_K_growMay_5 ?_
  refine sw_aload_n X 1 rfl rfl dc_K_growMay_6 ?_
  refine sw_get X (fun z hz => List.mem_cons_of_mem _ (wf_K z hz)) 10 (wd_10 cI cL cZ ad g q r o) rfl 1 (by decide) (List.mem_cons_of_mem _ wm_fl_K_9) rfl dc_K_growMay_7 ?_
  refine sw_iload_n X 0 rfl rfl dc_K_growMay_10 ?_
  refine sw_iald X 11 0 (wd_11 cI cL cZ ad g q r o) rfl h.1 dc_K_growMay_11 ?_
  have h := h.2
  refine sw_istore X [(4, .int (g 11 (((a1 * (2 : Int32)) + a2)).toNatClampNeg)), (3, .int ((a1 * (2 : Int32)) + a2)), (0, .ref (ad 10)), (1, .int a1), (2, .int a2)] rfl (by decide) dc_K_growMay_12 ?_
  refine sw_iconst (v := 0) X dc_K_growMay_14 (by decide) ?_
  refine sw_istore X [(5, .int (0 : Int32)), (4, .int (g 11 (((a1 * (2 : Int32)) + a2)).toNatClampNeg)), (3, .int ((a1 * (2 : Int32)) + a2)), (0, .ref (ad 10)), (1, .int a1), (2, .int a2)] rfl (by decide) dc_K_growMay_15 ?_
  refine sw_sub [3, 4, 5, 2, 1, 0] rfl ?_
  obtain ⟨n17, h⟩ := h
  exact b17 n17 g q a1 a2 ((a1 * (2 : Int32)) + a2) (g 11 (((a1 * (2 : Int32)) + a2)).toNatClampNeg) (0 : Int32) h
def wp_K_learn_L97 (d : Nat) (Q : (st_S → Prop)) (g : st_I) (q : st_L)  : Prop := Q ((st_u g 10 4 (1 : Int32)), q)
def wp_K_learn_L60 (d : Nat) (Q : (st_S → Prop)) (H28 : st_I → st_L → Int32 → Int32 → Prop) (H43 : st_I → st_L → Int32 → Int32 → Int32 → Prop) : Nat → st_I → st_L → Int32 → Int32 → Int32 → Int32 → Prop
  | 0 => fun _ _ _ _ _ _ => False
  | n60 + 1 => fun g q v1 v2 v3 v4 => wp_S_parametersOf v3 g q (fun x63 u63 => (x63 ≤ v4 → H43 u63.1 u63.2 v1 v2 (v3 + 1)) ∧ (¬ x63 ≤ v4 → wp_K_growMay d v3 v4 u63.1 u63.2 (fun x74 u74 => (wp_K_learn_L60 d Q H28 H43 n60) u74.1 u74.2 (v1 ||| x74) v2 v3 (v4 + 1))))
def wp_K_learn_L43 (d : Nat) (Q : (st_S → Prop)) (H28 : st_I → st_L → Int32 → Int32 → Prop) : Nat → st_I → st_L → Int32 → Int32 → Int32 → Prop
  | 0 => fun _ _ _ _ _ => False
  | n43 + 1 => fun g q v1 v2 v3 => ((6 : Int32) ≤ v3 → H28 g q v1 (v2 + 1)) ∧ (¬ (6 : Int32) ≤ v3 → wp_K_growGives d v3 g q (fun x52 u52 => ∃ n60, wp_K_learn_L60 d Q H28 (wp_K_learn_L43 d Q H28 n43) n60 u52.1 u52.2 (v1 ||| x52) v2 v3 (0 : Int32)))
def wp_K_learn_L28 (d : Nat) (Q : (st_S → Prop)) : Nat → st_I → st_L → Int32 → Int32 → Prop
  | 0 => fun _ _ _ _ => False
  | n28 + 1 => fun g q v1 v2 => (v1 = 0 → wp_K_learn_L97 d Q g q) ∧ (¬ v1 = 0 → ((163 : Int32) ≤ v2 → wp_K_learn_L97 d Q g q) ∧ (¬ (163 : Int32) ≤ v2 → ∃ n43, wp_K_learn_L43 d Q (wp_K_learn_L28 d Q n28) n43 g q (0 : Int32) v2 (0 : Int32)))
def wp_K_learn (d : Nat)  (g : st_I) (q : st_L) (Q : (st_S → Prop)) : Prop := ((g 10 4) = 0 → wp_J_fill_11 (0 : Int32) g q (fun u13 => wp_J_fill_12 (0 : Int32) u13.1 u13.2 (fun u21 => ∃ n28, wp_K_learn_L28 d Q n28 u21.1 u21.2 (1 : Int32) (0 : Int32)))) ∧ (¬ (g 10 4) = 0 → Q (g, q))
set_option maxHeartbeats 4000000 in
set_option maxRecDepth 100000 in
theorem ct_K_learn (l : Launch) (D : va_G) (cI cL cZ : ClassId) (ad : Nat → Nat) (r : st_I) (o : st_L) (d : Nat)  (g : st_I) (q : st_L) (Q : (st_S → Prop)) (h : wp_K_learn d  g q Q) : ∀ sz, Met l yn_K_learn (Cond.code yn_K_learn cd_K_learn 5 none :: wa_A) { frames := (rm_K_kinds d).1 + 3, cells := 0, slots := 0, locals := (rm_K_kinds d).2 + 75 } (va_Pc [.ref (ad 10)] (wq_S D cl_A (wd_T cI cL cZ) nw_A (wd_W cI cL cZ ad g q r o) sz)) (va_Qv Q (fun u t => wq_E D cl_A (wd_T cI cL cZ) (va_A (wd_W cI cL cZ ad g q r o) sz) (wd_W cI cL cZ ad u.1 u.2 r o) t) (va_A (wd_W cI cL cZ ad g q r o) sz)) 0 0 (va_A (wd_W cI cL cZ ad g q r o) sz) := by
  refine sw_met (Qc := fun A => va_Qv Q (fun u t => wq_E D cl_A (wd_T cI cL cZ) A (wd_W cI cL cZ ad u.1 u.2 r o) t) A) (by decide) rfl (Nat.le_of_ble_eq_true rfl) rfl ?_
  intro p e s m args below meth c A X hA hNs hE hr hlk hnm
  have b97 : ∀ (g : st_I) (q : st_L), wp_K_learn_L97 d Q g q → sw_J p l e { frames := (rm_K_kinds d).1 + 3, cells := 0, slots := 0, locals := (rm_K_kinds d).2 + 75 } s m args below meth c 0 0 (MQ below (va_Qv Q (fun u t => wq_E D cl_A (wd_T cI cL cZ) A (wd_W cI cL cZ ad u.1 u.2 r o) t) A) args s 0 0 A) D cl_A A 5 (wd_W cI cL cZ ad g q r o) 97 [(0, .ref (ad 10))] [] := by
    intro g q h
    refine sw_aload_n X 0 rfl rfl dc_K_learn_97 ?_
    refine sw_iconst (v := 1) X dc_K_learn_98 (by decide) ?_
    refine sw_put (ty := .boolean) X (fun z hz => List.mem_cons_of_mem _ (wf_K z hz)) fy_K fo_K fn_K 10 (wd_10 cI cL cZ ad g q r o) rfl 4 (by decide) (List.mem_cons_of_mem _ wm_fl_K_27) rfl (by decide +kernel) (by decide) (by decide) (Nat.le_of_ble_eq_true rfl) (wd_W cI cL cZ ad (st_u g 10 4 (1 : Int32)) q r o) (ws_10_4 cI cL cZ ad g q r o (1 : Int32)) dc_K_learn_99 ?_
    exact sw_vret X hr hlk (u := ((st_u g 10 4 (1 : Int32)), q)) rfl h dc_K_learn_102
  have b60 : ∀ (H28 : st_I → st_L → Int32 → Int32 → Prop) (hH28 : ∀ (g : st_I) (q : st_L) (v1 : Int32) (v2 : Int32), H28 g q v1 v2 → sw_J p l e { frames := (rm_K_kinds d).1 + 3, cells := 0, slots := 0, locals := (rm_K_kinds d).2 + 75 } s m args below meth c 0 0 (MQ below (va_Qv Q (fun u t => wq_E D cl_A (wd_T cI cL cZ) A (wd_W cI cL cZ ad u.1 u.2 r o) t) A) args s 0 0 A) D cl_A A 5 (wd_W cI cL cZ ad g q r o) 28 [(0, .ref (ad 10)), (1, .int v1), (2, .int v2)] []) (H43 : st_I → st_L → Int32 → Int32 → Int32 → Prop) (hH43 : ∀ (g : st_I) (q : st_L) (v1 : Int32) (v2 : Int32) (v3 : Int32), H43 g q v1 v2 v3 → sw_J p l e { frames := (rm_K_kinds d).1 + 3, cells := 0, slots := 0, locals := (rm_K_kinds d).2 + 75 } s m args below meth c 0 0 (MQ below (va_Qv Q (fun u t => wq_E D cl_A (wd_T cI cL cZ) A (wd_W cI cL cZ ad u.1 u.2 r o) t) A) args s 0 0 A) D cl_A A 5 (wd_W cI cL cZ ad g q r o) 43 [(0, .ref (ad 10)), (1, .int v1), (2, .int v2), (3, .int v3)] []) (n : Nat) (g : st_I) (q : st_L) (v1 : Int32) (v2 : Int32) (v3 : Int32) (v4 : Int32), wp_K_learn_L60 d Q H28 H43 n g q v1 v2 v3 v4 → sw_J p l e { frames := (rm_K_kinds d).1 + 3, cells := 0, slots := 0, locals := (rm_K_kinds d).2 + 75 } s m args below meth c 0 0 (MQ below (va_Qv Q (fun u t => wq_E D cl_A (wd_T cI cL cZ) A (wd_W cI cL cZ ad u.1 u.2 r o) t) A) args s 0 0 A) D cl_A A 5 (wd_W cI cL cZ ad g q r o) 60 [(0, .ref (ad 10)), (1, .int v1), (2, .int v2), (3, .int v3), (4, .int v4)] [] := by
    intro H28 hH28 H43 hH43 n60
    induction n60 with
    | zero => intro g q v1 v2 v3 v4 h; exact h.elim
    | succ n60 hH60 =>
    intro g q v1 v2 v3 v4 h
    refine sw_iload X 4 rfl dc_K_learn_60 ?_
    refine sw_iload_n X 3 rfl rfl dc_K_learn_62 ?_
    refine sw_cSN_i (n := 1) X hA nw_okA hNs hE (fun u : st_S => wd_W cI cL cZ ad u.1 u.2 r o) [.int v3] (ct_S_parametersOf l D cI cL cZ ad r o v3 g q _ h) nw_K_41 (List.mem_cons_of_mem _ wm_st_S_parametersOf) rfl (wg_in wm_code_S_parametersOf) rfl rfl (List.mem_cons_of_mem _ wm_in_S) ⟨by decide, by decide, by decide +kernel⟩ ⟨by dsimp only; omega, by dsimp only; omega⟩ ⟨Nat.zero_le _, Nat.zero_le _⟩ rfl (Nat.le_of_ble_eq_true rfl) dc_K_learn_63 rfl (fun x63 u63 h => ?_)
    refine sw_icmp_ge (tgt := 85) X dc_K_learn_66 (by decide) (fun z => ?_) (fun z => ?_)
    · have h := h.1 z
      refine sw_iinc (n := 1) (v := (v3 + 1)) X 3 rfl rfl [(3, .int (v3 + 1)), (0, .ref (ad 10)), (1, .int v1), (2, .int v2), (4, .int v4)] rfl (by decide) dc_K_learn_85 ?_
      refine sw_goto (tgt := 43) X dc_K_learn_88 (by decide) ?_
      refine sw_sub [1, 2, 3, 0] rfl ?_
      exact hH43 u63.1 u63.2 v1 v2 (v3 + 1) h
    · have h := h.2 z
      refine sw_iload_n X 1 rfl rfl dc_K_learn_69 ?_
      refine sw_aload_n X 0 rfl rfl dc_K_learn_70 ?_
      refine sw_iload_n X 3 rfl rfl dc_K_learn_71 ?_
      refine sw_iload X 4 rfl dc_K_learn_72 ?_
      refine sw_cV_i (n := 2) X hA nw_okA hNs hE (fun u : st_S => wd_W cI cL cZ ad u.1 u.2 r o) [.int v3, .int v4] 10 (wd_10 cI cL cZ ad u63.1 u63.2 r o) rfl rfl (ct_K_growMay l D cI cL cZ ad r o d v3 v4 u63.1 u63.2 _ h) (List.mem_cons_of_mem _ wm_ml_K_45) (List.mem_cons_of_mem _ wm_im_K_growMay) (List.mem_cons_of_mem _ wm_se_K_growMay) rfl (wg_in wm_code_K_growMay) rfl rfl (List.mem_cons_of_mem _ wm_in_K) ⟨by decide, by decide, by decide +kernel⟩ ⟨by dsimp only; omega, by dsimp only; omega⟩ ⟨Nat.zero_le _, Nat.zero_le _⟩ rfl (Nat.le_of_ble_eq_true rfl) dc_K_learn_74 rfl (fun x74 u74 h => ?_)
      refine sw_ior X dc_K_learn_77 ?_
      refine sw_istore_n X [(1, .int (v1 ||| x74)), (0, .ref (ad 10)), (2, .int v2), (3, .int v3), (4, .int v4)] rfl (by decide) rfl dc_K_learn_78 ?_
      refine sw_iinc (n := 1) (v := (v4 + 1)) X 4 rfl rfl [(4, .int (v4 + 1)), (1, .int (v1 ||| x74)), (0, .ref (ad 10)), (2, .int v2), (3, .int v3)] rfl (by decide) dc_K_learn_79 ?_
      refine sw_goto (tgt := 60) X dc_K_learn_82 (by decide) ?_
      refine sw_sub [2, 1, 3, 4, 0] rfl ?_
      exact hH60 u74.1 u74.2 (v1 ||| x74) v2 v3 (v4 + 1) h
  have b43 : ∀ (H28 : st_I → st_L → Int32 → Int32 → Prop) (hH28 : ∀ (g : st_I) (q : st_L) (v1 : Int32) (v2 : Int32), H28 g q v1 v2 → sw_J p l e { frames := (rm_K_kinds d).1 + 3, cells := 0, slots := 0, locals := (rm_K_kinds d).2 + 75 } s m args below meth c 0 0 (MQ below (va_Qv Q (fun u t => wq_E D cl_A (wd_T cI cL cZ) A (wd_W cI cL cZ ad u.1 u.2 r o) t) A) args s 0 0 A) D cl_A A 5 (wd_W cI cL cZ ad g q r o) 28 [(0, .ref (ad 10)), (1, .int v1), (2, .int v2)] []) (n : Nat) (g : st_I) (q : st_L) (v1 : Int32) (v2 : Int32) (v3 : Int32), wp_K_learn_L43 d Q H28 n g q v1 v2 v3 → sw_J p l e { frames := (rm_K_kinds d).1 + 3, cells := 0, slots := 0, locals := (rm_K_kinds d).2 + 75 } s m args below meth c 0 0 (MQ below (va_Qv Q (fun u t => wq_E D cl_A (wd_T cI cL cZ) A (wd_W cI cL cZ ad u.1 u.2 r o) t) A) args s 0 0 A) D cl_A A 5 (wd_W cI cL cZ ad g q r o) 43 [(0, .ref (ad 10)), (1, .int v1), (2, .int v2), (3, .int v3)] [] := by
    intro H28 hH28 n43
    induction n43 with
    | zero => intro g q v1 v2 v3 h; exact h.elim
    | succ n43 hH43 =>
    intro g q v1 v2 v3 h
    refine sw_iload_n X 3 rfl rfl dc_K_learn_43 ?_
    refine sw_bipush (v := 6) X dc_K_learn_44 (by decide) ?_
    refine sw_icmp_ge (tgt := 91) X dc_K_learn_46 (by decide) (fun z => ?_) (fun z => ?_)
    · have h := h.1 z
      refine sw_iinc (n := 1) (v := (v2 + 1)) X 2 rfl rfl [(2, .int (v2 + 1)), (0, .ref (ad 10)), (1, .int v1), (3, .int v3)] rfl (by decide) dc_K_learn_91 ?_
      refine sw_goto (tgt := 28) X dc_K_learn_94 (by decide) ?_
      refine sw_sub [1, 2, 0] rfl ?_
      exact hH28 g q v1 (v2 + 1) h
    · have h := h.2 z
      refine sw_iload_n X 1 rfl rfl dc_K_learn_49 ?_
      refine sw_aload_n X 0 rfl rfl dc_K_learn_50 ?_
      refine sw_iload_n X 3 rfl rfl dc_K_learn_51 ?_
      refine sw_cV_i (n := 1) X hA nw_okA hNs hE (fun u : st_S => wd_W cI cL cZ ad u.1 u.2 r o) [.int v3] 10 (wd_10 cI cL cZ ad g q r o) rfl rfl (ct_K_growGives l D cI cL cZ ad r o d v3 g q _ h) (List.mem_cons_of_mem _ wm_ml_K_37) (List.mem_cons_of_mem _ wm_im_K_growGives) (List.mem_cons_of_mem _ wm_se_K_growGives) rfl (wg_in wm_code_K_growGives) rfl rfl (List.mem_cons_of_mem _ wm_in_K) ⟨by decide, by decide, by decide +kernel⟩ ⟨by dsimp only; omega, by dsimp only; omega⟩ ⟨Nat.zero_le _, Nat.zero_le _⟩ rfl (Nat.le_of_ble_eq_true rfl) dc_K_learn_52 rfl (fun x52 u52 h => ?_)
      refine sw_ior X dc_K_learn_55 ?_
      refine sw_istore_n X [(1, .int (v1 ||| x52)), (0, .ref (ad 10)), (2, .int v2), (3, .int v3)] rfl (by decide) rfl dc_K_learn_56 ?_
      refine sw_iconst (v := 0) X dc_K_learn_57 (by decide) ?_
      refine sw_istore X [(4, .int (0 : Int32)), (1, .int (v1 ||| x52)), (0, .ref (ad 10)), (2, .int v2), (3, .int v3)] rfl (by decide) dc_K_learn_58 ?_
      refine sw_sub [2, 1, 3, 4, 0] rfl ?_
      obtain ⟨n60, h⟩ := h
      exact b60 H28 hH28 (wp_K_learn_L43 d Q H28 n43) hH43 n60 u52.1 u52.2 (v1 ||| x52) v2 v3 (0 : Int32) h
  have b28 : ∀ (n : Nat) (g : st_I) (q : st_L) (v1 : Int32) (v2 : Int32), wp_K_learn_L28 d Q n g q v1 v2 → sw_J p l e { frames := (rm_K_kinds d).1 + 3, cells := 0, slots := 0, locals := (rm_K_kinds d).2 + 75 } s m args below meth c 0 0 (MQ below (va_Qv Q (fun u t => wq_E D cl_A (wd_T cI cL cZ) A (wd_W cI cL cZ ad u.1 u.2 r o) t) A) args s 0 0 A) D cl_A A 5 (wd_W cI cL cZ ad g q r o) 28 [(0, .ref (ad 10)), (1, .int v1), (2, .int v2)] [] := by
    intro n28
    induction n28 with
    | zero => intro g q v1 v2 h; exact h.elim
    | succ n28 hH28 =>
    intro g q v1 v2 h
    refine sw_iload_n X 1 rfl rfl dc_K_learn_28 ?_
    refine sw_if_eq (tgt := 97) X dc_K_learn_29 (by decide) (fun z => ?_) (fun z => ?_)
    · have h := h.1 z
      refine sw_sub [0] rfl ?_
      exact b97 g q h
    · have h := h.2 z
      refine sw_iload_n X 2 rfl rfl dc_K_learn_32 ?_
      refine sw_sipush (v := 163) X dc_K_learn_33 (by decide) ?_
      refine sw_icmp_ge (tgt := 97) X dc_K_learn_36 (by decide) (fun z => ?_) (fun z => ?_)
      · have h := h.1 z
        refine sw_sub [0] rfl ?_
        exact b97 g q h
      · have h := h.2 z
        refine sw_iconst (v := 0) X dc_K_learn_39 (by decide) ?_
        refine sw_istore_n X [(1, .int (0 : Int32)), (0, .ref (ad 10)), (2, .int v2)] rfl (by decide) rfl dc_K_learn_40 ?_
        refine sw_iconst (v := 0) X dc_K_learn_41 (by decide) ?_
        refine sw_istore_n X [(3, .int (0 : Int32)), (1, .int (0 : Int32)), (0, .ref (ad 10)), (2, .int v2)] rfl (by decide) rfl dc_K_learn_42 ?_
        refine sw_sub [2, 1, 3, 0] rfl ?_
        obtain ⟨n43, h⟩ := h
        exact b43 (wp_K_learn_L28 d Q n28) hH28 n43 g q (0 : Int32) v2 (0 : Int32) h
  refine sw_aload_n X 0 rfl rfl dc_K_learn_0 ?_
  refine sw_get (v := .int (g 10 4)) X (fun z hz => List.mem_cons_of_mem _ (wf_K z hz)) 10 (wd_10 cI cL cZ ad g q r o) rfl 4 (by decide) (List.mem_cons_of_mem _ wm_fl_K_27) rfl dc_K_learn_1 ?_
  refine sw_if_eq (tgt := 8) X dc_K_learn_4 (by decide) (fun z => ?_) (fun z => ?_)
  · have h := h.1 z
    refine sw_aload_n X 0 rfl rfl dc_K_learn_8 ?_
    refine sw_get X (fun z hz => List.mem_cons_of_mem _ (wf_K z hz)) 10 (wd_10 cI cL cZ ad g q r o) rfl 1 (by decide) (List.mem_cons_of_mem _ wm_fl_K_9) rfl dc_K_learn_9 ?_
    refine sw_iconst (v := 0) X dc_K_learn_12 (by decide) ?_
    refine sw_cS_v (n := 2) X hA nw_okA hNs hE (fun u : st_S => wd_W cI cL cZ ad u.1 u.2 r o) [.ref (ad 11), .int (0 : Int32)] (ct_J_fill_11 l D cI cL cZ ad r o (0 : Int32) g q _ h) (List.mem_cons_of_mem _ wm_ml_K_31) (List.mem_cons_of_mem _ wm_st_J_fill) rfl (wg_in wm_code_J_fill) rfl rfl (List.mem_cons_of_mem _ wm_in_J) ⟨by decide, by decide, by decide +kernel⟩ ⟨by dsimp only; omega, by dsimp only; omega⟩ ⟨Nat.zero_le _, Nat.zero_le _⟩ rfl (Nat.le_of_ble_eq_true rfl) dc_K_learn_13 rfl (fun u13 h => ?_)
    refine sw_aload_n X 0 rfl rfl dc_K_learn_16 ?_
    refine sw_get X (fun z hz => List.mem_cons_of_mem _ (wf_K z hz)) 10 (wd_10 cI cL cZ ad u13.1 u13.2 r o) rfl 2 (by decide) (List.mem_cons_of_mem _ wm_fl_K_15) rfl dc_K_learn_17 ?_
    refine sw_iconst (v := 0) X dc_K_learn_20 (by decide) ?_
    refine sw_cS_v (n := 2) X hA nw_okA hNs hE (fun u : st_S => wd_W cI cL cZ ad u.1 u.2 r o) [.ref (ad 12), .int (0 : Int32)] (ct_J_fill_12 l D cI cL cZ ad r o (0 : Int32) u13.1 u13.2 _ h) (List.mem_cons_of_mem _ wm_ml_K_31) (List.mem_cons_of_mem _ wm_st_J_fill) rfl (wg_in wm_code_J_fill) rfl rfl (List.mem_cons_of_mem _ wm_in_J) ⟨by decide, by decide, by decide +kernel⟩ ⟨by dsimp only; omega, by dsimp only; omega⟩ ⟨Nat.zero_le _, Nat.zero_le _⟩ rfl (Nat.le_of_ble_eq_true rfl) dc_K_learn_21 rfl (fun u21 h => ?_)
    refine sw_iconst (v := 1) X dc_K_learn_24 (by decide) ?_
    refine sw_istore_n X [(1, .int (1 : Int32)), (0, .ref (ad 10))] rfl (by decide) rfl dc_K_learn_25 ?_
    refine sw_iconst (v := 0) X dc_K_learn_26 (by decide) ?_
    refine sw_istore_n X [(2, .int (0 : Int32)), (1, .int (1 : Int32)), (0, .ref (ad 10))] rfl (by decide) rfl dc_K_learn_27 ?_
    refine sw_sub [2, 1, 0] rfl ?_
    obtain ⟨n28, h⟩ := h
    exact b28 n28 u21.1 u21.2 (1 : Int32) (0 : Int32) h
  · have h := h.2 z
    exact sw_vret X hr hlk (u := (g, q)) rfl h dc_K_learn_7
def wp_K_countHopeless_L31 (d : Nat) (Q : (Int32 → st_S → Prop)) (H9 : st_I → st_L → Int32 → Int32 → Prop) (g : st_I) (q : st_L) (v2 : Int32) (v3 : Int32) : Prop := H9 g q v2 (v3 + 1)
def wp_K_countHopeless_L9 (d : Nat) (Q : (Int32 → st_S → Prop)) : Nat → st_I → st_L → Int32 → Int32 → Prop
  | 0 => fun _ _ _ _ => False
  | n9 + 1 => fun g q v2 v3 => ((90 : Int32) ≤ v3 → Q v2 (g, q)) ∧ (¬ (90 : Int32) ≤ v3 → vp_in v3 90 ∧ (¬ (g 13 (v3).toNatClampNeg) = (1 : Int32) → wp_K_countHopeless_L31 d Q (wp_K_countHopeless_L9 d Q n9) g q v2 v3) ∧ ((g 13 (v3).toNatClampNeg) = (1 : Int32) → wp_K_countHopeless_L31 d Q (wp_K_countHopeless_L9 d Q n9) g q (v2 + 1) v3))
def wp_K_countHopeless (d : Nat) (a1 : Int32) (g : st_I) (q : st_L) (Q : (Int32 → st_S → Prop)) : Prop := wp_K_walkBody d a1 g q (fun u2 => ∃ n9, wp_K_countHopeless_L9 d Q n9 u2.1 u2.2 (0 : Int32) (0 : Int32))
set_option maxHeartbeats 4000000 in
set_option maxRecDepth 100000 in
theorem ct_K_countHopeless (l : Launch) (D : va_G) (cI cL cZ : ClassId) (ad : Nat → Nat) (r : st_I) (o : st_L) (d : Nat) (a1 : Int32) (g : st_I) (q : st_L) (Q : (Int32 → st_S → Prop)) (h : wp_K_countHopeless d a1 g q Q) : ∀ sz, Met l yn_K_countHopeless (Cond.code yn_K_countHopeless cd_K_countHopeless 4 (some .int) :: wa_A) { frames := (rm_K_kinds d).1 + 3, cells := 0, slots := 0, locals := (rm_K_kinds d).2 + 69 } (va_Pc [.ref (ad 10), .int a1] (wq_S D cl_A (wd_T cI cL cZ) nw_A (wd_W cI cL cZ ad g q r o) sz)) (va_Qi Q (fun u t => wq_E D cl_A (wd_T cI cL cZ) (va_A (wd_W cI cL cZ ad g q r o) sz) (wd_W cI cL cZ ad u.1 u.2 r o) t) (va_A (wd_W cI cL cZ ad g q r o) sz)) 0 0 (va_A (wd_W cI cL cZ ad g q r o) sz) := by
  refine sw_met (Qc := fun A => va_Qi Q (fun u t => wq_E D cl_A (wd_T cI cL cZ) A (wd_W cI cL cZ ad u.1 u.2 r o) t) A) (by decide) rfl (Nat.le_of_ble_eq_true rfl) rfl ?_
  intro p e s m args below meth c A X hA hNs hE hr hlk hnm
  have b31 : ∀ (H9 : st_I → st_L → Int32 → Int32 → Prop) (hH9 : ∀ (g : st_I) (q : st_L) (v2 : Int32) (v3 : Int32), H9 g q v2 v3 → sw_J p l e { frames := (rm_K_kinds d).1 + 3, cells := 0, slots := 0, locals := (rm_K_kinds d).2 + 69 } s m args below meth c 0 0 (MQ below (va_Qi Q (fun u t => wq_E D cl_A (wd_T cI cL cZ) A (wd_W cI cL cZ ad u.1 u.2 r o) t) A) args s 0 0 A) D cl_A A 4 (wd_W cI cL cZ ad g q r o) 9 [(0, .ref (ad 10)), (2, .int v2), (3, .int v3)] []) (g : st_I) (q : st_L) (v2 : Int32) (v3 : Int32), wp_K_countHopeless_L31 d Q H9 g q v2 v3 → sw_J p l e { frames := (rm_K_kinds d).1 + 3, cells := 0, slots := 0, locals := (rm_K_kinds d).2 + 69 } s m args below meth c 0 0 (MQ below (va_Qi Q (fun u t => wq_E D cl_A (wd_T cI cL cZ) A (wd_W cI cL cZ ad u.1 u.2 r o) t) A) args s 0 0 A) D cl_A A 4 (wd_W cI cL cZ ad g q r o) 31 [(0, .ref (ad 10)), (2, .int v2), (3, .int v3)] [] := by
    intro H9 hH9 g q v2 v3 h
    refine sw_iinc (n := 1) (v := (v3 + 1)) X 2 rfl rfl [(3, .int (v3 + 1)), (0, .ref (ad 10)), (2, .int v2)] rfl (by decide) dc_K_countHopeless_31 ?_
    refine sw_goto (tgt := 9) X dc_K_countHopeless_34 (by decide) ?_
    refine sw_sub [1, 2, 0] rfl ?_
    exact hH9 g q v2 (v3 + 1) h
  have b9 : ∀ (n : Nat) (g : st_I) (q : st_L) (v2 : Int32) (v3 : Int32), wp_K_countHopeless_L9 d Q n g q v2 v3 → sw_J p l e { frames := (rm_K_kinds d).1 + 3, cells := 0, slots := 0, locals := (rm_K_kinds d).2 + 69 } s m args below meth c 0 0 (MQ below (va_Qi Q (fun u t => wq_E D cl_A (wd_T cI cL cZ) A (wd_W cI cL cZ ad u.1 u.2 r o) t) A) args s 0 0 A) D cl_A A 4 (wd_W cI cL cZ ad g q r o) 9 [(0, .ref (ad 10)), (2, .int v2), (3, .int v3)] [] := by
    intro n9
    induction n9 with
    | zero => intro g q v2 v3 h; exact h.elim
    | succ n9 hH9 =>
    intro g q v2 v3 h
    refine sw_iload_n X 2 rfl rfl dc_K_countHopeless_9 ?_
    refine sw_aload_n X 0 rfl rfl dc_K_countHopeless_10 ?_
    refine sw_get X (fun z hz => List.mem_cons_of_mem _ (wf_K z hz)) 10 (wd_10 cI cL cZ ad g q r o) rfl 3 (by decide) (List.mem_cons_of_mem _ wm_fl_K_20) rfl dc_K_countHopeless_11 ?_
    refine sw_alen (v := 90) X 13 0 (wd_13 cI cL cZ ad g q r o) rfl rfl dc_K_countHopeless_14 ?_
    refine sw_icmp_ge (tgt := 37) X dc_K_countHopeless_15 (by decide) (fun z => ?_) (fun z => ?_)
    · have h := h.1 z
      refine sw_iload_n X 1 rfl rfl dc_K_countHopeless_37 ?_
      exact sw_iret X hr hlk (u := (g, q)) rfl h dc_K_countHopeless_38
    · have h := h.2 z
      refine sw_aload_n X 0 rfl rfl dc_K_countHopeless_18 ?_
      refine sw_get X (fun z hz => List.mem_cons_of_mem _ (wf_K z hz)) 10 (wd_10 cI cL cZ ad g q r o) rfl 3 (by decide) (List.mem_cons_of_mem _ wm_fl_K_20) rfl dc_K_countHopeless_19 ?_
      refine sw_iload_n X 2 rfl rfl dc_K_countHopeless_22 ?_
      refine sw_iald X 13 0 (wd_13 cI cL cZ ad g q r o) rfl h.1 dc_K_countHopeless_23 ?_
      have h := h.2
      refine sw_iconst (v := 1) X dc_K_countHopeless_24 (by decide) ?_
      refine sw_icmp_ne (tgt := 31) X dc_K_countHopeless_25 (by decide) (fun z => ?_) (fun z => ?_)
      · have h := h.1 z
        exact b31 (wp_K_countHopeless_L9 d Q n9) hH9 g q v2 v3 h
      · have h := h.2 z
        refine sw_iinc (n := 1) (v := (v2 + 1)) X 1 rfl rfl [(2, .int (v2 + 1)), (0, .ref (ad 10)), (3, .int v3)] rfl (by decide) dc_K_countHopeless_28 ?_
        refine sw_sub [1, 0, 2] rfl ?_
        exact b31 (wp_K_countHopeless_L9 d Q n9) hH9 g q (v2 + 1) v3 h
  refine sw_aload_n X 0 rfl rfl dc_K_countHopeless_0 ?_
  refine sw_iload_n X 1 rfl rfl dc_K_countHopeless_1 ?_
  refine sw_cV_v (n := 1) X hA nw_okA hNs hE (fun u : st_S => wd_W cI cL cZ ad u.1 u.2 r o) [.int a1] 10 (wd_10 cI cL cZ ad g q r o) rfl rfl (ct_K_walkBody l D cI cL cZ ad r o d a1 g q _ h) (List.mem_cons_of_mem _ wm_ml_K_49) (List.mem_cons_of_mem _ wm_im_K_walkBody) (List.mem_cons_of_mem _ wm_se_K_walkBody) rfl (wg_in wm_code_K_walkBody) rfl rfl (List.mem_cons_of_mem _ wm_in_K) ⟨by decide, by decide, by decide +kernel⟩ ⟨by dsimp only; omega, by dsimp only; omega⟩ ⟨Nat.zero_le _, Nat.zero_le _⟩ rfl (Nat.le_of_ble_eq_true rfl) dc_K_countHopeless_2 rfl (fun u2 h => ?_)
  refine sw_iconst (v := 0) X dc_K_countHopeless_5 (by decide) ?_
  refine sw_istore_n X [(2, .int (0 : Int32)), (0, .ref (ad 10)), (1, .int a1)] rfl (by decide) rfl dc_K_countHopeless_6 ?_
  refine sw_iconst (v := 0) X dc_K_countHopeless_7 (by decide) ?_
  refine sw_istore_n X [(3, .int (0 : Int32)), (2, .int (0 : Int32)), (0, .ref (ad 10)), (1, .int a1)] rfl (by decide) rfl dc_K_countHopeless_8 ?_
  refine sw_sub [2, 1, 0] rfl ?_
  obtain ⟨n9, h⟩ := h
  exact b9 n9 u2.1 u2.2 (0 : Int32) (0 : Int32) h
def wp_K_isHopelessCall_L20 (d : Nat) (Q : (Int32 → st_S → Prop)) (g : st_I) (q : st_L) (t0 : Int32) : Prop := narrow .boolean (.int t0) = .int t0 ∧ Q t0 (g, q)
def wp_K_isHopelessCall (d : Nat) (a1 : Int32) (a2 : Int32) (g : st_I) (q : st_L) (Q : (Int32 → st_S → Prop)) : Prop := wp_K_walkBody d a1 g q (fun u2 => vp_in a2 90 ∧ (¬ (u2.1 13 (a2).toNatClampNeg) = (1 : Int32) → wp_K_isHopelessCall_L20 d Q u2.1 u2.2 (0 : Int32)) ∧ ((u2.1 13 (a2).toNatClampNeg) = (1 : Int32) → wp_K_isHopelessCall_L20 d Q u2.1 u2.2 (1 : Int32)))
set_option maxHeartbeats 4000000 in
set_option maxRecDepth 100000 in
theorem ct_K_isHopelessCall (l : Launch) (D : va_G) (cI cL cZ : ClassId) (ad : Nat → Nat) (r : st_I) (o : st_L) (d : Nat) (a1 : Int32) (a2 : Int32) (g : st_I) (q : st_L) (Q : (Int32 → st_S → Prop)) (h : wp_K_isHopelessCall d a1 a2 g q Q) : ∀ sz, Met l yn_K_isHopelessCall (Cond.code yn_K_isHopelessCall cd_K_isHopelessCall 3 (some .boolean) :: wa_A) { frames := (rm_K_kinds d).1 + 3, cells := 0, slots := 0, locals := (rm_K_kinds d).2 + 69 } (va_Pc [.ref (ad 10), .int a1, .int a2] (wq_S D cl_A (wd_T cI cL cZ) nw_A (wd_W cI cL cZ ad g q r o) sz)) (va_Qi Q (fun u t => wq_E D cl_A (wd_T cI cL cZ) (va_A (wd_W cI cL cZ ad g q r o) sz) (wd_W cI cL cZ ad u.1 u.2 r o) t) (va_A (wd_W cI cL cZ ad g q r o) sz)) 0 0 (va_A (wd_W cI cL cZ ad g q r o) sz) := by
  refine sw_met (Qc := fun A => va_Qi Q (fun u t => wq_E D cl_A (wd_T cI cL cZ) A (wd_W cI cL cZ ad u.1 u.2 r o) t) A) (by decide) rfl (Nat.le_of_ble_eq_true rfl) rfl ?_
  intro p e s m args below meth c A X hA hNs hE hr hlk hnm
  have b20 : ∀ (g : st_I) (q : st_L) (t0 : Int32), wp_K_isHopelessCall_L20 d Q g q t0 → sw_J p l e { frames := (rm_K_kinds d).1 + 3, cells := 0, slots := 0, locals := (rm_K_kinds d).2 + 69 } s m args below meth c 0 0 (MQ below (va_Qi Q (fun u t => wq_E D cl_A (wd_T cI cL cZ) A (wd_W cI cL cZ ad u.1 u.2 r o) t) A) args s 0 0 A) D cl_A A 3 (wd_W cI cL cZ ad g q r o) 20 [] [.int t0] := by
    intro g q t0 h
    exact sw_zret X hr hlk h.1 (u := (g, q)) rfl h.2 dc_K_isHopelessCall_20
  refine sw_aload_n X 0 rfl rfl dc_K_isHopelessCall_0 ?_
  refine sw_iload_n X 1 rfl rfl dc_K_isHopelessCall_1 ?_
  refine sw_cV_v (n := 1) X hA nw_okA hNs hE (fun u : st_S => wd_W cI cL cZ ad u.1 u.2 r o) [.int a1] 10 (wd_10 cI cL cZ ad g q r o) rfl rfl (ct_K_walkBody l D cI cL cZ ad r o d a1 g q _ h) (List.mem_cons_of_mem _ wm_ml_K_49) (List.mem_cons_of_mem _ wm_im_K_walkBody) (List.mem_cons_of_mem _ wm_se_K_walkBody) rfl (wg_in wm_code_K_walkBody) rfl rfl (List.mem_cons_of_mem _ wm_in_K) ⟨by decide, by decide, by decide +kernel⟩ ⟨by dsimp only; omega, by dsimp only; omega⟩ ⟨Nat.zero_le _, Nat.zero_le _⟩ rfl (Nat.le_of_ble_eq_true rfl) dc_K_isHopelessCall_2 rfl (fun u2 h => ?_)
  refine sw_aload_n X 0 rfl rfl dc_K_isHopelessCall_5 ?_
  refine sw_get X (fun z hz => List.mem_cons_of_mem _ (wf_K z hz)) 10 (wd_10 cI cL cZ ad u2.1 u2.2 r o) rfl 3 (by decide) (List.mem_cons_of_mem _ wm_fl_K_20) rfl dc_K_isHopelessCall_6 ?_
  refine sw_iload_n X 2 rfl rfl dc_K_isHopelessCall_9 ?_
  refine sw_iald X 13 0 (wd_13 cI cL cZ ad u2.1 u2.2 r o) rfl h.1 dc_K_isHopelessCall_10 ?_
  have h := h.2
  refine sw_iconst (v := 1) X dc_K_isHopelessCall_11 (by decide) ?_
  refine sw_icmp_ne (tgt := 19) X dc_K_isHopelessCall_12 (by decide) (fun z => ?_) (fun z => ?_)
  · have h := h.1 z
    refine sw_iconst (v := 0) X dc_K_isHopelessCall_19 (by decide) ?_
    refine sw_sub [] rfl ?_
    exact b20 u2.1 u2.2 (0 : Int32) h
  · have h := h.2 z
    refine sw_iconst (v := 1) X dc_K_isHopelessCall_15 (by decide) ?_
    refine sw_goto (tgt := 20) X dc_K_isHopelessCall_16 (by decide) ?_
    refine sw_sub [] rfl ?_
    exact b20 u2.1 u2.2 (1 : Int32) h
