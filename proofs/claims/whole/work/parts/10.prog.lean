def wp_S_isFunction_L15 (Q : (Int32 → st_S → Prop)) (g : st_I) (q : st_L) (t0 : Int32) : Prop := narrow .boolean (.int t0) = .int t0 ∧ Q t0 (g, q)
def wp_S_isFunction_L14 (Q : (Int32 → st_S → Prop)) (g : st_I) (q : st_L)  : Prop := wp_S_isFunction_L15 Q g q (0 : Int32)
def wp_S_isFunction (a1 : Int32) (g : st_I) (q : st_L) (Q : (Int32 → st_S → Prop)) : Prop := (a1 < 0 → wp_S_isFunction_L14 Q g q) ∧ (¬ a1 < 0 → ((6 : Int32) ≤ a1 → wp_S_isFunction_L14 Q g q) ∧ (¬ (6 : Int32) ≤ a1 → wp_S_isFunction_L15 Q g q (1 : Int32)))
set_option maxHeartbeats 4000000 in
set_option maxRecDepth 100000 in
theorem ct_S_isFunction (l : Launch) (D : va_G) (cI cL cZ : ClassId) (ad : Nat → Nat) (r : st_I) (o : st_L) (a1 : Int32) (g : st_I) (q : st_L) (Q : (Int32 → st_S → Prop)) (h : wp_S_isFunction a1 g q Q) : ∀ sz, Met l yn_S_isFunction (Cond.code yn_S_isFunction cd_S_isFunction 1 (some .boolean) :: wa_A) { frames := 0, cells := 0, slots := 0, locals := 0 } (va_Pc [.int a1] (wq_S D cl_A (wd_T cI cL cZ) nw_A (wd_W cI cL cZ ad g q r o) sz)) (va_Qi Q (fun u t => wq_E D cl_A (wd_T cI cL cZ) (va_A (wd_W cI cL cZ ad g q r o) sz) (wd_W cI cL cZ ad u.1 u.2 r o) t) (va_A (wd_W cI cL cZ ad g q r o) sz)) 0 0 (va_A (wd_W cI cL cZ ad g q r o) sz) := by
  refine sw_met (Qc := fun A => va_Qi Q (fun u t => wq_E D cl_A (wd_T cI cL cZ) A (wd_W cI cL cZ ad u.1 u.2 r o) t) A) (by decide) rfl (Nat.le_of_ble_eq_true rfl) rfl ?_
  intro p e s m args below meth c A X hA hNs hE hr hlk hnm
  have b15 : ∀ (g : st_I) (q : st_L) (t0 : Int32), wp_S_isFunction_L15 Q g q t0 → sw_J p l e { frames := 0, cells := 0, slots := 0, locals := 0 } s m args below meth c 0 0 (MQ below (va_Qi Q (fun u t => wq_E D cl_A (wd_T cI cL cZ) A (wd_W cI cL cZ ad u.1 u.2 r o) t) A) args s 0 0 A) D cl_A A 1 (wd_W cI cL cZ ad g q r o) 15 [] [.int t0] := by
    intro g q t0 h
    exact sw_zret X hr hlk h.1 (u := (g, q)) rfl h.2 dc_S_isFunction_15
  have b14 : ∀ (g : st_I) (q : st_L), wp_S_isFunction_L14 Q g q → sw_J p l e { frames := 0, cells := 0, slots := 0, locals := 0 } s m args below meth c 0 0 (MQ below (va_Qi Q (fun u t => wq_E D cl_A (wd_T cI cL cZ) A (wd_W cI cL cZ ad u.1 u.2 r o) t) A) args s 0 0 A) D cl_A A 1 (wd_W cI cL cZ ad g q r o) 14 [] [] := by
    intro g q h
    refine sw_iconst (v := 0) X dc_S_isFunction_14 (by decide) ?_
    exact b15 g q (0 : Int32) h
  refine sw_iload_n X 0 rfl rfl dc_S_isFunction_0 ?_
  refine sw_if_lt (tgt := 14) X dc_S_isFunction_1 (by decide) (fun z => ?_) (fun z => ?_)
  · have h := h.1 z
    refine sw_sub [] rfl ?_
    exact b14 g q h
  · have h := h.2 z
    refine sw_iload_n X 0 rfl rfl dc_S_isFunction_4 ?_
    refine sw_bipush (v := 6) X dc_S_isFunction_5 (by decide) ?_
    refine sw_icmp_ge (tgt := 14) X dc_S_isFunction_7 (by decide) (fun z => ?_) (fun z => ?_)
    · have h := h.1 z
      refine sw_sub [] rfl ?_
      exact b14 g q h
    · have h := h.2 z
      refine sw_iconst (v := 1) X dc_S_isFunction_10 (by decide) ?_
      refine sw_goto (tgt := 15) X dc_S_isFunction_11 (by decide) ?_
      refine sw_sub [] rfl ?_
      exact b15 g q (1 : Int32) h
def wp_S_parametersOf_L10 (Q : (Int32 → st_S → Prop)) (g : st_I) (q : st_L) (t0 : Int32) : Prop := Q t0 (g, q)
def wp_S_parametersOf (a1 : Int32) (g : st_I) (q : st_L) (Q : (Int32 → st_S → Prop)) : Prop := ((3 : Int32) ≤ a1 → wp_S_parametersOf_L10 Q g q (2 : Int32)) ∧ (¬ (3 : Int32) ≤ a1 → wp_S_parametersOf_L10 Q g q (1 : Int32))
set_option maxHeartbeats 4000000 in
set_option maxRecDepth 100000 in
theorem ct_S_parametersOf (l : Launch) (D : va_G) (cI cL cZ : ClassId) (ad : Nat → Nat) (r : st_I) (o : st_L) (a1 : Int32) (g : st_I) (q : st_L) (Q : (Int32 → st_S → Prop)) (h : wp_S_parametersOf a1 g q Q) : ∀ sz, Met l yn_S_parametersOf (Cond.code yn_S_parametersOf cd_S_parametersOf 1 (some .int) :: wa_A) { frames := 0, cells := 0, slots := 0, locals := 0 } (va_Pc [.int a1] (wq_S D cl_A (wd_T cI cL cZ) nw_A (wd_W cI cL cZ ad g q r o) sz)) (va_Qi Q (fun u t => wq_E D cl_A (wd_T cI cL cZ) (va_A (wd_W cI cL cZ ad g q r o) sz) (wd_W cI cL cZ ad u.1 u.2 r o) t) (va_A (wd_W cI cL cZ ad g q r o) sz)) 0 0 (va_A (wd_W cI cL cZ ad g q r o) sz) := by
  refine sw_met (Qc := fun A => va_Qi Q (fun u t => wq_E D cl_A (wd_T cI cL cZ) A (wd_W cI cL cZ ad u.1 u.2 r o) t) A) (by decide) rfl (Nat.le_of_ble_eq_true rfl) rfl ?_
  intro p e s m args below meth c A X hA hNs hE hr hlk hnm
  have b10 : ∀ (g : st_I) (q : st_L) (t0 : Int32), wp_S_parametersOf_L10 Q g q t0 → sw_J p l e { frames := 0, cells := 0, slots := 0, locals := 0 } s m args below meth c 0 0 (MQ below (va_Qi Q (fun u t => wq_E D cl_A (wd_T cI cL cZ) A (wd_W cI cL cZ ad u.1 u.2 r o) t) A) args s 0 0 A) D cl_A A 1 (wd_W cI cL cZ ad g q r o) 10 [] [.int t0] := by
    intro g q t0 h
    exact sw_iret X hr hlk (u := (g, q)) rfl h dc_S_parametersOf_10
  refine sw_iload_n X 0 rfl rfl dc_S_parametersOf_0 ?_
  refine sw_iconst (v := 3) X dc_S_parametersOf_1 (by decide) ?_
  refine sw_icmp_ge (tgt := 9) X dc_S_parametersOf_2 (by decide) (fun z => ?_) (fun z => ?_)
  · have h := h.1 z
    refine sw_iconst (v := 2) X dc_S_parametersOf_9 (by decide) ?_
    refine sw_sub [] rfl ?_
    exact b10 g q (2 : Int32) h
  · have h := h.2 z
    refine sw_iconst (v := 1) X dc_S_parametersOf_5 (by decide) ?_
    refine sw_goto (tgt := 10) X dc_S_parametersOf_6 (by decide) ?_
    refine sw_sub [] rfl ?_
    exact b10 g q (1 : Int32) h
def wp_P_isExpression_L17 (Q : (Int32 → st_S → Prop)) (g : st_I) (q : st_L) (t0 : Int32) : Prop := narrow .boolean (.int t0) = .int t0 ∧ Q t0 (g, q)
def wp_P_isExpression_L16 (Q : (Int32 → st_S → Prop)) (g : st_I) (q : st_L)  : Prop := wp_P_isExpression_L17 Q g q (0 : Int32)
def wp_P_isExpression (a1 : Int32) (g : st_I) (q : st_L) (Q : (Int32 → st_S → Prop)) : Prop := (a1 < 0 → wp_P_isExpression_L16 Q g q) ∧ (¬ a1 < 0 → ((g 1 8) ≤ a1 → wp_P_isExpression_L16 Q g q) ∧ (¬ (g 1 8) ≤ a1 → wp_P_isExpression_L17 Q g q (1 : Int32)))
set_option maxHeartbeats 4000000 in
set_option maxRecDepth 100000 in
theorem ct_P_isExpression (l : Launch) (D : va_G) (cI cL cZ : ClassId) (ad : Nat → Nat) (r : st_I) (o : st_L) (a1 : Int32) (g : st_I) (q : st_L) (Q : (Int32 → st_S → Prop)) (h : wp_P_isExpression a1 g q Q) : ∀ sz, Met l yn_P_isExpression (Cond.code yn_P_isExpression cd_P_isExpression 2 (some .boolean) :: wa_A) { frames := 0, cells := 0, slots := 0, locals := 0 } (va_Pc [.ref (ad 1), .int a1] (wq_S D cl_A (wd_T cI cL cZ) nw_A (wd_W cI cL cZ ad g q r o) sz)) (va_Qi Q (fun u t => wq_E D cl_A (wd_T cI cL cZ) (va_A (wd_W cI cL cZ ad g q r o) sz) (wd_W cI cL cZ ad u.1 u.2 r o) t) (va_A (wd_W cI cL cZ ad g q r o) sz)) 0 0 (va_A (wd_W cI cL cZ ad g q r o) sz) := by
  refine sw_met (Qc := fun A => va_Qi Q (fun u t => wq_E D cl_A (wd_T cI cL cZ) A (wd_W cI cL cZ ad u.1 u.2 r o) t) A) (by decide) rfl (Nat.le_of_ble_eq_true rfl) rfl ?_
  intro p e s m args below meth c A X hA hNs hE hr hlk hnm
  have b17 : ∀ (g : st_I) (q : st_L) (t0 : Int32), wp_P_isExpression_L17 Q g q t0 → sw_J p l e { frames := 0, cells := 0, slots := 0, locals := 0 } s m args below meth c 0 0 (MQ below (va_Qi Q (fun u t => wq_E D cl_A (wd_T cI cL cZ) A (wd_W cI cL cZ ad u.1 u.2 r o) t) A) args s 0 0 A) D cl_A A 2 (wd_W cI cL cZ ad g q r o) 17 [] [.int t0] := by
    intro g q t0 h
    exact sw_zret X hr hlk h.1 (u := (g, q)) rfl h.2 dc_P_isExpression_17
  have b16 : ∀ (g : st_I) (q : st_L), wp_P_isExpression_L16 Q g q → sw_J p l e { frames := 0, cells := 0, slots := 0, locals := 0 } s m args below meth c 0 0 (MQ below (va_Qi Q (fun u t => wq_E D cl_A (wd_T cI cL cZ) A (wd_W cI cL cZ ad u.1 u.2 r o) t) A) args s 0 0 A) D cl_A A 2 (wd_W cI cL cZ ad g q r o) 16 [] [] := by
    intro g q h
    refine sw_iconst (v := 0) X dc_P_isExpression_16 (by decide) ?_
    exact b17 g q (0 : Int32) h
  refine sw_iload_n X 1 rfl rfl dc_P_isExpression_0 ?_
  refine sw_if_lt (tgt := 16) X dc_P_isExpression_1 (by decide) (fun z => ?_) (fun z => ?_)
  · have h := h.1 z
    refine sw_sub [] rfl ?_
    exact b16 g q h
  · have h := h.2 z
    refine sw_iload_n X 1 rfl rfl dc_P_isExpression_4 ?_
    refine sw_aload_n X 0 rfl rfl dc_P_isExpression_5 ?_
    refine sw_get (v := .int (g 1 8)) X (fun z hz => List.mem_cons_of_mem _ (wf_P z hz)) 1 (wd_1 cI cL cZ ad g q r o) rfl 8 (by decide) (List.mem_cons_of_mem _ wm_fl_P_42) rfl dc_P_isExpression_6 ?_
    refine sw_icmp_ge (tgt := 16) X dc_P_isExpression_9 (by decide) (fun z => ?_) (fun z => ?_)
    · have h := h.1 z
      refine sw_sub [] rfl ?_
      exact b16 g q h
    · have h := h.2 z
      refine sw_iconst (v := 1) X dc_P_isExpression_12 (by decide) ?_
      refine sw_goto (tgt := 17) X dc_P_isExpression_13 (by decide) ?_
      refine sw_sub [] rfl ?_
      exact b17 g q (1 : Int32) h
def wp_P_isFull_L14 (Q : (Int32 → st_S → Prop)) (g : st_I) (q : st_L) (t0 : Int32) : Prop := narrow .boolean (.int t0) = .int t0 ∧ Q t0 (g, q)
def wp_P_isFull  (g : st_I) (q : st_L) (Q : (Int32 → st_S → Prop)) : Prop := ((g 1 8) < (90 : Int32) → wp_P_isFull_L14 Q g q (0 : Int32)) ∧ (¬ (g 1 8) < (90 : Int32) → wp_P_isFull_L14 Q g q (1 : Int32))
set_option maxHeartbeats 4000000 in
set_option maxRecDepth 100000 in
theorem ct_P_isFull (l : Launch) (D : va_G) (cI cL cZ : ClassId) (ad : Nat → Nat) (r : st_I) (o : st_L)  (g : st_I) (q : st_L) (Q : (Int32 → st_S → Prop)) (h : wp_P_isFull  g q Q) : ∀ sz, Met l yn_P_isFull (Cond.code yn_P_isFull cd_P_isFull 1 (some .boolean) :: wa_A) { frames := 0, cells := 0, slots := 0, locals := 0 } (va_Pc [.ref (ad 1)] (wq_S D cl_A (wd_T cI cL cZ) nw_A (wd_W cI cL cZ ad g q r o) sz)) (va_Qi Q (fun u t => wq_E D cl_A (wd_T cI cL cZ) (va_A (wd_W cI cL cZ ad g q r o) sz) (wd_W cI cL cZ ad u.1 u.2 r o) t) (va_A (wd_W cI cL cZ ad g q r o) sz)) 0 0 (va_A (wd_W cI cL cZ ad g q r o) sz) := by
  refine sw_met (Qc := fun A => va_Qi Q (fun u t => wq_E D cl_A (wd_T cI cL cZ) A (wd_W cI cL cZ ad u.1 u.2 r o) t) A) (by decide) rfl (Nat.le_of_ble_eq_true rfl) rfl ?_
  intro p e s m args below meth c A X hA hNs hE hr hlk hnm
  have b14 : ∀ (g : st_I) (q : st_L) (t0 : Int32), wp_P_isFull_L14 Q g q t0 → sw_J p l e { frames := 0, cells := 0, slots := 0, locals := 0 } s m args below meth c 0 0 (MQ below (va_Qi Q (fun u t => wq_E D cl_A (wd_T cI cL cZ) A (wd_W cI cL cZ ad u.1 u.2 r o) t) A) args s 0 0 A) D cl_A A 1 (wd_W cI cL cZ ad g q r o) 14 [] [.int t0] := by
    intro g q t0 h
    exact sw_zret X hr hlk h.1 (u := (g, q)) rfl h.2 dc_P_isFull_14
  refine sw_aload_n X 0 rfl rfl dc_P_isFull_0 ?_
  refine sw_get (v := .int (g 1 8)) X (fun z hz => List.mem_cons_of_mem _ (wf_P z hz)) 1 (wd_1 cI cL cZ ad g q r o) rfl 8 (by decide) (List.mem_cons_of_mem _ wm_fl_P_42) rfl dc_P_isFull_1 ?_
  refine sw_bipush (v := 90) X dc_P_isFull_4 (by decide) ?_
  refine sw_icmp_lt (tgt := 13) X dc_P_isFull_6 (by decide) (fun z => ?_) (fun z => ?_)
  · have h := h.1 z
    refine sw_iconst (v := 0) X dc_P_isFull_13 (by decide) ?_
    refine sw_sub [] rfl ?_
    exact b14 g q (0 : Int32) h
  · have h := h.2 z
    refine sw_iconst (v := 1) X dc_P_isFull_9 (by decide) ?_
    refine sw_goto (tgt := 14) X dc_P_isFull_10 (by decide) ?_
    refine sw_sub [] rfl ?_
    exact b14 g q (1 : Int32) h
def wp_P_setBody (a1 : Int32) (a2 : Int32) (g : st_I) (q : st_L) (Q : (st_S → Prop)) : Prop := vp_in a1 6 ∧ Q ((st_u g 9 (a1).toNatClampNeg a2), q)
set_option maxHeartbeats 4000000 in
set_option maxRecDepth 100000 in
theorem ct_P_setBody (l : Launch) (D : va_G) (cI cL cZ : ClassId) (ad : Nat → Nat) (r : st_I) (o : st_L) (a1 : Int32) (a2 : Int32) (g : st_I) (q : st_L) (Q : (st_S → Prop)) (h : wp_P_setBody a1 a2 g q Q) : ∀ sz, Met l yn_P_setBody (Cond.code yn_P_setBody cd_P_setBody 3 none :: wa_A) { frames := 0, cells := 0, slots := 0, locals := 0 } (va_Pc [.ref (ad 1), .int a1, .int a2] (wq_S D cl_A (wd_T cI cL cZ) nw_A (wd_W cI cL cZ ad g q r o) sz)) (va_Qv Q (fun u t => wq_E D cl_A (wd_T cI cL cZ) (va_A (wd_W cI cL cZ ad g q r o) sz) (wd_W cI cL cZ ad u.1 u.2 r o) t) (va_A (wd_W cI cL cZ ad g q r o) sz)) 0 0 (va_A (wd_W cI cL cZ ad g q r o) sz) := by
  refine sw_met (Qc := fun A => va_Qv Q (fun u t => wq_E D cl_A (wd_T cI cL cZ) A (wd_W cI cL cZ ad u.1 u.2 r o) t) A) (by decide) rfl (Nat.le_of_ble_eq_true rfl) rfl ?_
  intro p e s m args below meth c A X hA hNs hE hr hlk hnm
  refine sw_aload_n X 0 rfl rfl dc_P_setBody_0 ?_
  refine sw_get X (fun z hz => List.mem_cons_of_mem _ (wf_P z hz)) 1 (wd_1 cI cL cZ ad g q r o) rfl 7 (by decide) (List.mem_cons_of_mem _ wm_fl_P_33) rfl dc_P_setBody_1 ?_
  refine sw_iload_n X 1 rfl rfl dc_P_setBody_4 ?_
  refine sw_iload_n X 2 rfl rfl dc_P_setBody_5 ?_
  refine sw_iast X 9 0 (wd_9 cI cL cZ ad g q r o) rfl h.1 (wd_W cI cL cZ ad (st_u g 9 (a1).toNatClampNeg a2) q r o) (ws_9 cI cL cZ ad g q r o (a1).toNatClampNeg a2) dc_P_setBody_6 ?_
  have h := h.2
  exact sw_vret X hr hlk (u := ((st_u g 9 (a1).toNatClampNeg a2), q)) rfl h dc_P_setBody_7
def wp_P_countBodies_L23 (Q : (Int32 → st_S → Prop)) (H4 : st_I → st_L → Int32 → Int32 → Prop) (g : st_I) (q : st_L) (v1 : Int32) (v2 : Int32) : Prop := H4 g q v1 (v2 + 1)
def wp_P_countBodies_L4 (Q : (Int32 → st_S → Prop)) : Nat → st_I → st_L → Int32 → Int32 → Prop
  | 0 => fun _ _ _ _ => False
  | n4 + 1 => fun g q v1 v2 => ((6 : Int32) ≤ v2 → Q v1 (g, q)) ∧ (¬ (6 : Int32) ≤ v2 → vp_in v2 6 ∧ ((g 9 (v2).toNatClampNeg) = ((-1) : Int32) → wp_P_countBodies_L23 Q (wp_P_countBodies_L4 Q n4) g q v1 v2) ∧ (¬ (g 9 (v2).toNatClampNeg) = ((-1) : Int32) → wp_P_countBodies_L23 Q (wp_P_countBodies_L4 Q n4) g q (v1 + 1) v2))
def wp_P_countBodies  (g : st_I) (q : st_L) (Q : (Int32 → st_S → Prop)) : Prop := ∃ n4, wp_P_countBodies_L4 Q n4 g q (0 : Int32) (0 : Int32)
set_option maxHeartbeats 4000000 in
set_option maxRecDepth 100000 in
theorem ct_P_countBodies (l : Launch) (D : va_G) (cI cL cZ : ClassId) (ad : Nat → Nat) (r : st_I) (o : st_L)  (g : st_I) (q : st_L) (Q : (Int32 → st_S → Prop)) (h : wp_P_countBodies  g q Q) : ∀ sz, Met l yn_P_countBodies (Cond.code yn_P_countBodies cd_P_countBodies 3 (some .int) :: wa_A) { frames := 0, cells := 0, slots := 0, locals := 0 } (va_Pc [.ref (ad 1)] (wq_S D cl_A (wd_T cI cL cZ) nw_A (wd_W cI cL cZ ad g q r o) sz)) (va_Qi Q (fun u t => wq_E D cl_A (wd_T cI cL cZ) (va_A (wd_W cI cL cZ ad g q r o) sz) (wd_W cI cL cZ ad u.1 u.2 r o) t) (va_A (wd_W cI cL cZ ad g q r o) sz)) 0 0 (va_A (wd_W cI cL cZ ad g q r o) sz) := by
  refine sw_met (Qc := fun A => va_Qi Q (fun u t => wq_E D cl_A (wd_T cI cL cZ) A (wd_W cI cL cZ ad u.1 u.2 r o) t) A) (by decide) rfl (Nat.le_of_ble_eq_true rfl) rfl ?_
  intro p e s m args below meth c A X hA hNs hE hr hlk hnm
  have b23 : ∀ (H4 : st_I → st_L → Int32 → Int32 → Prop) (hH4 : ∀ (g : st_I) (q : st_L) (v1 : Int32) (v2 : Int32), H4 g q v1 v2 → sw_J p l e { frames := 0, cells := 0, slots := 0, locals := 0 } s m args below meth c 0 0 (MQ below (va_Qi Q (fun u t => wq_E D cl_A (wd_T cI cL cZ) A (wd_W cI cL cZ ad u.1 u.2 r o) t) A) args s 0 0 A) D cl_A A 3 (wd_W cI cL cZ ad g q r o) 4 [(0, .ref (ad 1)), (1, .int v1), (2, .int v2)] []) (g : st_I) (q : st_L) (v1 : Int32) (v2 : Int32), wp_P_countBodies_L23 Q H4 g q v1 v2 → sw_J p l e { frames := 0, cells := 0, slots := 0, locals := 0 } s m args below meth c 0 0 (MQ below (va_Qi Q (fun u t => wq_E D cl_A (wd_T cI cL cZ) A (wd_W cI cL cZ ad u.1 u.2 r o) t) A) args s 0 0 A) D cl_A A 3 (wd_W cI cL cZ ad g q r o) 23 [(0, .ref (ad 1)), (1, .int v1), (2, .int v2)] [] := by
    intro H4 hH4 g q v1 v2 h
    refine sw_iinc (n := 1) (v := (v2 + 1)) X 2 rfl rfl [(2, .int (v2 + 1)), (0, .ref (ad 1)), (1, .int v1)] rfl (by decide) dc_P_countBodies_23 ?_
    refine sw_goto (tgt := 4) X dc_P_countBodies_26 (by decide) ?_
    refine sw_sub [1, 2, 0] rfl ?_
    exact hH4 g q v1 (v2 + 1) h
  have b4 : ∀ (n : Nat) (g : st_I) (q : st_L) (v1 : Int32) (v2 : Int32), wp_P_countBodies_L4 Q n g q v1 v2 → sw_J p l e { frames := 0, cells := 0, slots := 0, locals := 0 } s m args below meth c 0 0 (MQ below (va_Qi Q (fun u t => wq_E D cl_A (wd_T cI cL cZ) A (wd_W cI cL cZ ad u.1 u.2 r o) t) A) args s 0 0 A) D cl_A A 3 (wd_W cI cL cZ ad g q r o) 4 [(0, .ref (ad 1)), (1, .int v1), (2, .int v2)] [] := by
    intro n4
    induction n4 with
    | zero => intro g q v1 v2 h; exact h.elim
    | succ n4 hH4 =>
    intro g q v1 v2 h
    refine sw_iload_n X 2 rfl rfl dc_P_countBodies_4 ?_
    refine sw_bipush (v := 6) X dc_P_countBodies_5 (by decide) ?_
    refine sw_icmp_ge (tgt := 29) X dc_P_countBodies_7 (by decide) (fun z => ?_) (fun z => ?_)
    · have h := h.1 z
      refine sw_iload_n X 1 rfl rfl dc_P_countBodies_29 ?_
      exact sw_iret X hr hlk (u := (g, q)) rfl h dc_P_countBodies_30
    · have h := h.2 z
      refine sw_aload_n X 0 rfl rfl dc_P_countBodies_10 ?_
      refine sw_get X (fun z hz => List.mem_cons_of_mem _ (wf_P z hz)) 1 (wd_1 cI cL cZ ad g q r o) rfl 7 (by decide) (List.mem_cons_of_mem _ wm_fl_P_33) rfl dc_P_countBodies_11 ?_
      refine sw_iload_n X 2 rfl rfl dc_P_countBodies_14 ?_
      refine sw_iald X 9 0 (wd_9 cI cL cZ ad g q r o) rfl h.1 dc_P_countBodies_15 ?_
      have h := h.2
      refine sw_iconst (v := -1) X dc_P_countBodies_16 (by decide) ?_
      refine sw_icmp_eq (tgt := 23) X dc_P_countBodies_17 (by decide) (fun z => ?_) (fun z => ?_)
      · have h := h.1 z
        exact b23 (wp_P_countBodies_L4 Q n4) hH4 g q v1 v2 h
      · have h := h.2 z
        refine sw_iinc (n := 1) (v := (v1 + 1)) X 1 rfl rfl [(1, .int (v1 + 1)), (0, .ref (ad 1)), (2, .int v2)] rfl (by decide) dc_P_countBodies_20 ?_
        refine sw_sub [1, 0, 2] rfl ?_
        exact b23 (wp_P_countBodies_L4 Q n4) hH4 g q (v1 + 1) v2 h
  refine sw_iconst (v := 0) X dc_P_countBodies_0 (by decide) ?_
  refine sw_istore_n X [(1, .int (0 : Int32)), (0, .ref (ad 1))] rfl (by decide) rfl dc_P_countBodies_1 ?_
  refine sw_iconst (v := 0) X dc_P_countBodies_2 (by decide) ?_
  refine sw_istore_n X [(2, .int (0 : Int32)), (1, .int (0 : Int32)), (0, .ref (ad 1))] rfl (by decide) rfl dc_P_countBodies_3 ?_
  refine sw_sub [2, 1, 0] rfl ?_
  obtain ⟨n4, h⟩ := h
  exact b4 n4 g q (0 : Int32) (0 : Int32) h
def wp_P_keepDraft  (g : st_I) (q : st_L) (Q : (Int32 → st_S → Prop)) : Prop := Q (g 1 8) ((st_u g 1 8 ((g 1 8) + (1 : Int32))), q)
set_option maxHeartbeats 4000000 in
set_option maxRecDepth 100000 in
theorem ct_P_keepDraft (l : Launch) (D : va_G) (cI cL cZ : ClassId) (ad : Nat → Nat) (r : st_I) (o : st_L)  (g : st_I) (q : st_L) (Q : (Int32 → st_S → Prop)) (h : wp_P_keepDraft  g q Q) : ∀ sz, Met l yn_P_keepDraft (Cond.code yn_P_keepDraft cd_P_keepDraft 2 (some .int) :: wa_A) { frames := 0, cells := 0, slots := 0, locals := 0 } (va_Pc [.ref (ad 1)] (wq_S D cl_A (wd_T cI cL cZ) nw_A (wd_W cI cL cZ ad g q r o) sz)) (va_Qi Q (fun u t => wq_E D cl_A (wd_T cI cL cZ) (va_A (wd_W cI cL cZ ad g q r o) sz) (wd_W cI cL cZ ad u.1 u.2 r o) t) (va_A (wd_W cI cL cZ ad g q r o) sz)) 0 0 (va_A (wd_W cI cL cZ ad g q r o) sz) := by
  refine sw_met (Qc := fun A => va_Qi Q (fun u t => wq_E D cl_A (wd_T cI cL cZ) A (wd_W cI cL cZ ad u.1 u.2 r o) t) A) (by decide) rfl (Nat.le_of_ble_eq_true rfl) rfl ?_
  intro p e s m args below meth c A X hA hNs hE hr hlk hnm
  refine sw_aload_n X 0 rfl rfl dc_P_keepDraft_0 ?_
  refine sw_get (v := .int (g 1 8)) X (fun z hz => List.mem_cons_of_mem _ (wf_P z hz)) 1 (wd_1 cI cL cZ ad g q r o) rfl 8 (by decide) (List.mem_cons_of_mem _ wm_fl_P_42) rfl dc_P_keepDraft_1 ?_
  refine sw_istore_n X [(1, .int (g 1 8)), (0, .ref (ad 1))] rfl (by decide) rfl dc_P_keepDraft_4 ?_
  refine sw_aload_n X 1 rfl rfl dc_P_keepDraft_5 ?_
  refine sw_dup X dc_P_keepDraft_6 rfl ?_
  refine sw_get (v := .int (g 1 8)) X (fun z hz => List.mem_cons_of_mem _ (wf_P z hz)) 1 (wd_1 cI cL cZ ad g q r o) rfl 8 (by decide) (List.mem_cons_of_mem _ wm_fl_P_42) rfl dc_P_keepDraft_7 ?_
  refine sw_iconst (v := 1) X dc_P_keepDraft_10 (by decide) ?_
  refine sw_iadd X dc_P_keepDraft_11 ?_
  refine sw_put (ty := .int) X (fun z hz => List.mem_cons_of_mem _ (wf_P z hz)) fy_P fo_P fn_P 1 (wd_1 cI cL cZ ad g q r o) rfl 8 (by decide) (List.mem_cons_of_mem _ wm_fl_P_42) rfl (by decide +kernel) rfl rfl (Nat.le_of_ble_eq_true rfl) (wd_W cI cL cZ ad (st_u g 1 8 ((g 1 8) + (1 : Int32))) q r o) (ws_1_8 cI cL cZ ad g q r o ((g 1 8) + (1 : Int32))) dc_P_keepDraft_12 ?_
  refine sw_iload_n X 0 rfl rfl dc_P_keepDraft_15 ?_
  exact sw_iret X hr hlk (u := ((st_u g 1 8 ((g 1 8) + (1 : Int32))), q)) rfl h dc_P_keepDraft_16
def wp_P_detailFits_L132 (Q : (Int32 → st_S → Prop)) (g : st_I) (q : st_L)  : Prop := Q (1 : Int32) (g, q)
def wp_P_detailFits_L78 (Q : (Int32 → st_S → Prop)) (g : st_I) (q : st_L) (t0 : Int32) : Prop := narrow .boolean (.int t0) = .int t0 ∧ Q t0 (g, q)
def wp_P_detailFits_L77 (Q : (Int32 → st_S → Prop)) (g : st_I) (q : st_L)  : Prop := wp_P_detailFits_L78 Q g q (0 : Int32)
def wp_P_detailFits_L93 (Q : (Int32 → st_S → Prop)) (g : st_I) (q : st_L) (t0 : Int32) : Prop := narrow .boolean (.int t0) = .int t0 ∧ Q t0 (g, q)
def wp_P_detailFits_L92 (Q : (Int32 → st_S → Prop)) (g : st_I) (q : st_L)  : Prop := wp_P_detailFits_L93 Q g q (0 : Int32)
def wp_P_detailFits_L110 (Q : (Int32 → st_S → Prop)) (g : st_I) (q : st_L) (t0 : Int32) : Prop := narrow .boolean (.int t0) = .int t0 ∧ Q t0 (g, q)
def wp_P_detailFits_L109 (Q : (Int32 → st_S → Prop)) (g : st_I) (q : st_L)  : Prop := wp_P_detailFits_L110 Q g q (0 : Int32)
def wp_P_detailFits_L131 (Q : (Int32 → st_S → Prop)) (g : st_I) (q : st_L) (t0 : Int32) : Prop := narrow .boolean (.int t0) = .int t0 ∧ Q t0 (g, q)
def wp_P_detailFits_L130 (Q : (Int32 → st_S → Prop)) (g : st_I) (q : st_L)  : Prop := wp_P_detailFits_L131 Q g q (0 : Int32)
def wp_P_detailFits (a1 : Int32) (a2 : Int32) (g : st_I) (q : st_L) (Q : (Int32 → st_S → Prop)) : Prop := (a1 = (0 : Int32) → (a2 < 0 → wp_P_detailFits_L77 Q g q) ∧ (¬ a2 < 0 → ((4 : Int32) ≤ a2 → wp_P_detailFits_L77 Q g q) ∧ (¬ (4 : Int32) ≤ a2 → wp_P_detailFits_L78 Q g q (1 : Int32)))) ∧ (a1 = (1 : Int32) → (a2 < 0 → wp_P_detailFits_L92 Q g q) ∧ (¬ a2 < 0 → ((4 : Int32) ≤ a2 → wp_P_detailFits_L92 Q g q) ∧ (¬ (4 : Int32) ≤ a2 → wp_P_detailFits_L93 Q g q (1 : Int32)))) ∧ (a1 = (2 : Int32) → wp_P_detailFits_L132 Q g q) ∧ (a1 = (3 : Int32) → wp_P_detailFits_L132 Q g q) ∧ (a1 = (4 : Int32) → wp_P_detailFits_L132 Q g q) ∧ (a1 = (5 : Int32) → wp_P_detailFits_L132 Q g q) ∧ (a1 = (6 : Int32) → wp_P_detailFits_L132 Q g q) ∧ (a1 = (7 : Int32) → wp_P_detailFits_L132 Q g q) ∧ (a1 = (8 : Int32) → wp_P_detailFits_L132 Q g q) ∧ (a1 = (9 : Int32) → (a2 < 0 → wp_P_detailFits_L109 Q g q) ∧ (¬ a2 < 0 → ((511 : Int32) < a2 → wp_P_detailFits_L109 Q g q) ∧ (¬ (511 : Int32) < a2 → wp_P_detailFits_L110 Q g q (1 : Int32)))) ∧ (a1 = (10 : Int32) → wp_S_isFunction a2 g q (fun x112 u112 => narrow .boolean (.int x112) = .int x112 ∧ Q x112 (u112.1, u112.2))) ∧ (a1 = (11 : Int32) → (a2 < (2 : Int32) → wp_P_detailFits_L130 Q g q) ∧ (¬ a2 < (2 : Int32) → ((4 : Int32) ≤ a2 → wp_P_detailFits_L130 Q g q) ∧ (¬ (4 : Int32) ≤ a2 → wp_P_detailFits_L131 Q g q (1 : Int32)))) ∧ (¬ a1 = (0 : Int32) → ¬ a1 = (1 : Int32) → ¬ a1 = (2 : Int32) → ¬ a1 = (3 : Int32) → ¬ a1 = (4 : Int32) → ¬ a1 = (5 : Int32) → ¬ a1 = (6 : Int32) → ¬ a1 = (7 : Int32) → ¬ a1 = (8 : Int32) → ¬ a1 = (9 : Int32) → ¬ a1 = (10 : Int32) → ¬ a1 = (11 : Int32) → wp_P_detailFits_L132 Q g q)
set_option maxHeartbeats 4000000 in
set_option maxRecDepth 100000 in
theorem ct_P_detailFits (l : Launch) (D : va_G) (cI cL cZ : ClassId) (ad : Nat → Nat) (r : st_I) (o : st_L) (a1 : Int32) (a2 : Int32) (g : st_I) (q : st_L) (Q : (Int32 → st_S → Prop)) (h : wp_P_detailFits a1 a2 g q Q) : ∀ sz, Met l yn_P_detailFits (Cond.code yn_P_detailFits cd_P_detailFits 2 (some .boolean) :: wa_A) { frames := 1, cells := 0, slots := 0, locals := 20 } (va_Pc [.int a1, .int a2] (wq_S D cl_A (wd_T cI cL cZ) nw_A (wd_W cI cL cZ ad g q r o) sz)) (va_Qi Q (fun u t => wq_E D cl_A (wd_T cI cL cZ) (va_A (wd_W cI cL cZ ad g q r o) sz) (wd_W cI cL cZ ad u.1 u.2 r o) t) (va_A (wd_W cI cL cZ ad g q r o) sz)) 0 0 (va_A (wd_W cI cL cZ ad g q r o) sz) := by
  refine sw_met (Qc := fun A => va_Qi Q (fun u t => wq_E D cl_A (wd_T cI cL cZ) A (wd_W cI cL cZ ad u.1 u.2 r o) t) A) (by decide) rfl (Nat.le_of_ble_eq_true rfl) rfl ?_
  intro p e s m args below meth c A X hA hNs hE hr hlk hnm
  have b132 : ∀ (g : st_I) (q : st_L), wp_P_detailFits_L132 Q g q → sw_J p l e { frames := 1, cells := 0, slots := 0, locals := 20 } s m args below meth c 0 0 (MQ below (va_Qi Q (fun u t => wq_E D cl_A (wd_T cI cL cZ) A (wd_W cI cL cZ ad u.1 u.2 r o) t) A) args s 0 0 A) D cl_A A 2 (wd_W cI cL cZ ad g q r o) 132 [] [] := by
    intro g q h
    refine sw_iconst (v := 1) X dc_P_detailFits_132 (by decide) ?_
    exact sw_zret X hr hlk (by decide) (u := (g, q)) rfl h dc_P_detailFits_133
  have b78 : ∀ (g : st_I) (q : st_L) (t0 : Int32), wp_P_detailFits_L78 Q g q t0 → sw_J p l e { frames := 1, cells := 0, slots := 0, locals := 20 } s m args below meth c 0 0 (MQ below (va_Qi Q (fun u t => wq_E D cl_A (wd_T cI cL cZ) A (wd_W cI cL cZ ad u.1 u.2 r o) t) A) args s 0 0 A) D cl_A A 2 (wd_W cI cL cZ ad g q r o) 78 [] [.int t0] := by
    intro g q t0 h
    exact sw_zret X hr hlk h.1 (u := (g, q)) rfl h.2 dc_P_detailFits_78
  have b77 : ∀ (g : st_I) (q : st_L), wp_P_detailFits_L77 Q g q → sw_J p l e { frames := 1, cells := 0, slots := 0, locals := 20 } s m args below meth c 0 0 (MQ below (va_Qi Q (fun u t => wq_E D cl_A (wd_T cI cL cZ) A (wd_W cI cL cZ ad u.1 u.2 r o) t) A) args s 0 0 A) D cl_A A 2 (wd_W cI cL cZ ad g q r o) 77 [] [] := by
    intro g q h
    refine sw_iconst (v := 0) X dc_P_detailFits_77 (by decide) ?_
    exact b78 g q (0 : Int32) h
  have b93 : ∀ (g : st_I) (q : st_L) (t0 : Int32), wp_P_detailFits_L93 Q g q t0 → sw_J p l e { frames := 1, cells := 0, slots := 0, locals := 20 } s m args below meth c 0 0 (MQ below (va_Qi Q (fun u t => wq_E D cl_A (wd_T cI cL cZ) A (wd_W cI cL cZ ad u.1 u.2 r o) t) A) args s 0 0 A) D cl_A A 2 (wd_W cI cL cZ ad g q r o) 93 [] [.int t0] := by
    intro g q t0 h
    exact sw_zret X hr hlk h.1 (u := (g, q)) rfl h.2 dc_P_detailFits_93
  have b92 : ∀ (g : st_I) (q : st_L), wp_P_detailFits_L92 Q g q → sw_J p l e { frames := 1, cells := 0, slots := 0, locals := 20 } s m args below meth c 0 0 (MQ below (va_Qi Q (fun u t => wq_E D cl_A (wd_T cI cL cZ) A (wd_W cI cL cZ ad u.1 u.2 r o) t) A) args s 0 0 A) D cl_A A 2 (wd_W cI cL cZ ad g q r o) 92 [] [] := by
    intro g q h
    refine sw_iconst (v := 0) X dc_P_detailFits_92 (by decide) ?_
    exact b93 g q (0 : Int32) h
  have b110 : ∀ (g : st_I) (q : st_L) (t0 : Int32), wp_P_detailFits_L110 Q g q t0 → sw_J p l e { frames := 1, cells := 0, slots := 0, locals := 20 } s m args below meth c 0 0 (MQ below (va_Qi Q (fun u t => wq_E D cl_A (wd_T cI cL cZ) A (wd_W cI cL cZ ad u.1 u.2 r o) t) A) args s 0 0 A) D cl_A A 2 (wd_W cI cL cZ ad g q r o) 110 [] [.int t0] := by
    intro g q t0 h
    exact sw_zret X hr hlk h.1 (u := (g, q)) rfl h.2 dc_P_detailFits_110
  have b109 : ∀ (g : st_I) (q : st_L), wp_P_detailFits_L109 Q g q → sw_J p l e { frames := 1, cells := 0, slots := 0, locals := 20 } s m args below meth c 0 0 (MQ below (va_Qi Q (fun u t => wq_E D cl_A (wd_T cI cL cZ) A (wd_W cI cL cZ ad u.1 u.2 r o) t) A) args s 0 0 A) D cl_A A 2 (wd_W cI cL cZ ad g q r o) 109 [] [] := by
    intro g q h
    refine sw_iconst (v := 0) X dc_P_detailFits_109 (by decide) ?_
    exact b110 g q (0 : Int32) h
  have b131 : ∀ (g : st_I) (q : st_L) (t0 : Int32), wp_P_detailFits_L131 Q g q t0 → sw_J p l e { frames := 1, cells := 0, slots := 0, locals := 20 } s m args below meth c 0 0 (MQ below (va_Qi Q (fun u t => wq_E D cl_A (wd_T cI cL cZ) A (wd_W cI cL cZ ad u.1 u.2 r o) t) A) args s 0 0 A) D cl_A A 2 (wd_W cI cL cZ ad g q r o) 131 [] [.int t0] := by
    intro g q t0 h
    exact sw_zret X hr hlk h.1 (u := (g, q)) rfl h.2 dc_P_detailFits_131
  have b130 : ∀ (g : st_I) (q : st_L), wp_P_detailFits_L130 Q g q → sw_J p l e { frames := 1, cells := 0, slots := 0, locals := 20 } s m args below meth c 0 0 (MQ below (va_Qi Q (fun u t => wq_E D cl_A (wd_T cI cL cZ) A (wd_W cI cL cZ ad u.1 u.2 r o) t) A) args s 0 0 A) D cl_A A 2 (wd_W cI cL cZ ad g q r o) 130 [] [] := by
    intro g q h
    refine sw_iconst (v := 0) X dc_P_detailFits_130 (by decide) ?_
    exact b131 g q (0 : Int32) h
  refine sw_iload_n X 0 rfl rfl dc_P_detailFits_0 ?_
  by_cases z0 : a1 = (0 : Int32)
  · have h := h.1 z0
    refine sw_tableIn (tgt := 64) (off := 63) X dc_P_detailFits_1 (by rw [z0]; decide) (by rw [z0]; decide) (by rw [z0]; rfl) (by decide) ?_
    refine sw_iload_n X 1 rfl rfl dc_P_detailFits_64 ?_
    refine sw_if_lt (tgt := 77) X dc_P_detailFits_65 (by decide) (fun z => ?_) (fun z => ?_)
    · have h := h.1 z
      refine sw_sub [] rfl ?_
      exact b77 g q h
    · have h := h.2 z
      refine sw_iload_n X 1 rfl rfl dc_P_detailFits_68 ?_
      refine sw_iconst (v := 4) X dc_P_detailFits_69 (by decide) ?_
      refine sw_icmp_ge (tgt := 77) X dc_P_detailFits_70 (by decide) (fun z => ?_) (fun z => ?_)
      · have h := h.1 z
        refine sw_sub [] rfl ?_
        exact b77 g q h
      · have h := h.2 z
        refine sw_iconst (v := 1) X dc_P_detailFits_73 (by decide) ?_
        refine sw_goto (tgt := 78) X dc_P_detailFits_74 (by decide) ?_
        refine sw_sub [] rfl ?_
        exact b78 g q (1 : Int32) h
  by_cases z1 : a1 = (1 : Int32)
  · have h := h.2.1 z1
    refine sw_tableIn (tgt := 79) (off := 78) X dc_P_detailFits_1 (by rw [z1]; decide) (by rw [z1]; decide) (by rw [z1]; rfl) (by decide) ?_
    refine sw_iload_n X 1 rfl rfl dc_P_detailFits_79 ?_
    refine sw_if_lt (tgt := 92) X dc_P_detailFits_80 (by decide) (fun z => ?_) (fun z => ?_)
    · have h := h.1 z
      refine sw_sub [] rfl ?_
      exact b92 g q h
    · have h := h.2 z
      refine sw_iload_n X 1 rfl rfl dc_P_detailFits_83 ?_
      refine sw_iconst (v := 4) X dc_P_detailFits_84 (by decide) ?_
      refine sw_icmp_ge (tgt := 92) X dc_P_detailFits_85 (by decide) (fun z => ?_) (fun z => ?_)
      · have h := h.1 z
        refine sw_sub [] rfl ?_
        exact b92 g q h
      · have h := h.2 z
        refine sw_iconst (v := 1) X dc_P_detailFits_88 (by decide) ?_
        refine sw_goto (tgt := 93) X dc_P_detailFits_89 (by decide) ?_
        refine sw_sub [] rfl ?_
        exact b93 g q (1 : Int32) h
  by_cases z2 : a1 = (2 : Int32)
  · have h := h.2.2.1 z2
    refine sw_tableIn (tgt := 132) (off := 131) X dc_P_detailFits_1 (by rw [z2]; decide) (by rw [z2]; decide) (by rw [z2]; rfl) (by decide) ?_
    refine sw_sub [] rfl ?_
    exact b132 g q h
  by_cases z3 : a1 = (3 : Int32)
  · have h := h.2.2.2.1 z3
    refine sw_tableIn (tgt := 132) (off := 131) X dc_P_detailFits_1 (by rw [z3]; decide) (by rw [z3]; decide) (by rw [z3]; rfl) (by decide) ?_
    refine sw_sub [] rfl ?_
    exact b132 g q h
  by_cases z4 : a1 = (4 : Int32)
  · have h := h.2.2.2.2.1 z4
    refine sw_tableIn (tgt := 132) (off := 131) X dc_P_detailFits_1 (by rw [z4]; decide) (by rw [z4]; decide) (by rw [z4]; rfl) (by decide) ?_
    refine sw_sub [] rfl ?_
    exact b132 g q h
  by_cases z5 : a1 = (5 : Int32)
  · have h := h.2.2.2.2.2.1 z5
    refine sw_tableIn (tgt := 132) (off := 131) X dc_P_detailFits_1 (by rw [z5]; decide) (by rw [z5]; decide) (by rw [z5]; rfl) (by decide) ?_
    refine sw_sub [] rfl ?_
    exact b132 g q h
  by_cases z6 : a1 = (6 : Int32)
  · have h := h.2.2.2.2.2.2.1 z6
    refine sw_tableIn (tgt := 132) (off := 131) X dc_P_detailFits_1 (by rw [z6]; decide) (by rw [z6]; decide) (by rw [z6]; rfl) (by decide) ?_
    refine sw_sub [] rfl ?_
    exact b132 g q h
  by_cases z7 : a1 = (7 : Int32)
  · have h := h.2.2.2.2.2.2.2.1 z7
    refine sw_tableIn (tgt := 132) (off := 131) X dc_P_detailFits_1 (by rw [z7]; decide) (by rw [z7]; decide) (by rw [z7]; rfl) (by decide) ?_
    refine sw_sub [] rfl ?_
    exact b132 g q h
  by_cases z8 : a1 = (8 : Int32)
  · have h := h.2.2.2.2.2.2.2.2.1 z8
    refine sw_tableIn (tgt := 132) (off := 131) X dc_P_detailFits_1 (by rw [z8]; decide) (by rw [z8]; decide) (by rw [z8]; rfl) (by decide) ?_
    refine sw_sub [] rfl ?_
    exact b132 g q h
  by_cases z9 : a1 = (9 : Int32)
  · have h := h.2.2.2.2.2.2.2.2.2.1 z9
    refine sw_tableIn (tgt := 94) (off := 93) X dc_P_detailFits_1 (by rw [z9]; decide) (by rw [z9]; decide) (by rw [z9]; rfl) (by decide) ?_
    refine sw_iload_n X 1 rfl rfl dc_P_detailFits_94 ?_
    refine sw_if_lt (tgt := 109) X dc_P_detailFits_95 (by decide) (fun z => ?_) (fun z => ?_)
    · have h := h.1 z
      refine sw_sub [] rfl ?_
      exact b109 g q h
    · have h := h.2 z
      refine sw_iload_n X 1 rfl rfl dc_P_detailFits_98 ?_
      refine sw_sipush (v := 511) X dc_P_detailFits_99 (by decide) ?_
      refine sw_icmp_gt (tgt := 109) X dc_P_detailFits_102 (by decide) (fun z => ?_) (fun z => ?_)
      · have h := h.1 z
        refine sw_sub [] rfl ?_
        exact b109 g q h
      · have h := h.2 z
        refine sw_iconst (v := 1) X dc_P_detailFits_105 (by decide) ?_
        refine sw_goto (tgt := 110) X dc_P_detailFits_106 (by decide) ?_
        refine sw_sub [] rfl ?_
        exact b110 g q (1 : Int32) h
  by_cases z10 : a1 = (10 : Int32)
  · have h := h.2.2.2.2.2.2.2.2.2.2.1 z10
    refine sw_tableIn (tgt := 111) (off := 110) X dc_P_detailFits_1 (by rw [z10]; decide) (by rw [z10]; decide) (by rw [z10]; rfl) (by decide) ?_
    refine sw_iload_n X 1 rfl rfl dc_P_detailFits_111 ?_
    refine sw_cSN_i (n := 1) X hA nw_okA hNs hE (fun u : st_S => wd_W cI cL cZ ad u.1 u.2 r o) [.int a2] (ct_S_isFunction l D cI cL cZ ad r o a2 g q _ h) nw_P_67 (List.mem_cons_of_mem _ wm_st_S_isFunction) rfl (wg_in wm_code_S_isFunction) rfl rfl (List.mem_cons_of_mem _ wm_in_S) ⟨by decide, by decide, by decide +kernel⟩ ⟨Nat.le_of_ble_eq_true rfl, Nat.le_of_ble_eq_true rfl⟩ ⟨Nat.zero_le _, Nat.zero_le _⟩ rfl (Nat.le_of_ble_eq_true rfl) dc_P_detailFits_112 rfl (fun x112 u112 h => ?_)
    exact sw_zret X hr hlk h.1 (u := (u112.1, u112.2)) rfl h.2 dc_P_detailFits_115
  by_cases z11 : a1 = (11 : Int32)
  · have h := h.2.2.2.2.2.2.2.2.2.2.2.1 z11
    refine sw_tableIn (tgt := 116) (off := 115) X dc_P_detailFits_1 (by rw [z11]; decide) (by rw [z11]; decide) (by rw [z11]; rfl) (by decide) ?_
    refine sw_iload_n X 1 rfl rfl dc_P_detailFits_116 ?_
    refine sw_iconst (v := 2) X dc_P_detailFits_117 (by decide) ?_
    refine sw_icmp_lt (tgt := 130) X dc_P_detailFits_118 (by decide) (fun z => ?_) (fun z => ?_)
    · have h := h.1 z
      refine sw_sub [] rfl ?_
      exact b130 g q h
    · have h := h.2 z
      refine sw_iload_n X 1 rfl rfl dc_P_detailFits_121 ?_
      refine sw_iconst (v := 4) X dc_P_detailFits_122 (by decide) ?_
      refine sw_icmp_ge (tgt := 130) X dc_P_detailFits_123 (by decide) (fun z => ?_) (fun z => ?_)
      · have h := h.1 z
        refine sw_sub [] rfl ?_
        exact b130 g q h
      · have h := h.2 z
        refine sw_iconst (v := 1) X dc_P_detailFits_126 (by decide) ?_
        refine sw_goto (tgt := 131) X dc_P_detailFits_127 (by decide) ?_
        refine sw_sub [] rfl ?_
        exact b131 g q (1 : Int32) h
  have h := h.2.2.2.2.2.2.2.2.2.2.2.2 z0 z1 z2 z3 z4 z5 z6 z7 z8 z9 z10 z11
  have z0 : (a1).toInt ≠ 0 := fun e => z0 (Int32.toInt_inj.mp (e.trans (by decide)))
  have z1 : (a1).toInt ≠ 1 := fun e => z1 (Int32.toInt_inj.mp (e.trans (by decide)))
  have z2 : (a1).toInt ≠ 2 := fun e => z2 (Int32.toInt_inj.mp (e.trans (by decide)))
  have z3 : (a1).toInt ≠ 3 := fun e => z3 (Int32.toInt_inj.mp (e.trans (by decide)))
  have z4 : (a1).toInt ≠ 4 := fun e => z4 (Int32.toInt_inj.mp (e.trans (by decide)))
  have z5 : (a1).toInt ≠ 5 := fun e => z5 (Int32.toInt_inj.mp (e.trans (by decide)))
  have z6 : (a1).toInt ≠ 6 := fun e => z6 (Int32.toInt_inj.mp (e.trans (by decide)))
  have z7 : (a1).toInt ≠ 7 := fun e => z7 (Int32.toInt_inj.mp (e.trans (by decide)))
  have z8 : (a1).toInt ≠ 8 := fun e => z8 (Int32.toInt_inj.mp (e.trans (by decide)))
  have z9 : (a1).toInt ≠ 9 := fun e => z9 (Int32.toInt_inj.mp (e.trans (by decide)))
  have z10 : (a1).toInt ≠ 10 := fun e => z10 (Int32.toInt_inj.mp (e.trans (by decide)))
  have z11 : (a1).toInt ≠ 11 := fun e => z11 (Int32.toInt_inj.mp (e.trans (by decide)))
  refine sw_tableOut (tgt := 132) X dc_P_detailFits_1 (by omega) (by decide) ?_
  refine sw_sub [] rfl ?_
  exact b132 g q h
def wp_P_partsExist_L45 (Q : (Int32 → st_S → Prop)) (g : st_I) (q : st_L) (t0 : Int32) : Prop := narrow .boolean (.int t0) = .int t0 ∧ Q t0 (g, q)
def wp_P_partsExist_L40 (Q : (Int32 → st_S → Prop)) (g : st_I) (q : st_L)  : Prop := wp_P_partsExist_L45 Q g q (1 : Int32)
def wp_P_partsExist_L44 (Q : (Int32 → st_S → Prop)) (g : st_I) (q : st_L)  : Prop := wp_P_partsExist_L45 Q g q (0 : Int32)
def wp_P_partsExist_L26 (Q : (Int32 → st_S → Prop)) (g : st_I) (q : st_L) (v1 : Int32) (v4 : Int32) : Prop := (v1 < (3 : Int32) → wp_P_partsExist_L40 Q g q) ∧ (¬ v1 < (3 : Int32) → wp_P_isExpression v4 g q (fun x34 u34 => (x34 = 0 → wp_P_partsExist_L44 Q u34.1 u34.2) ∧ (¬ x34 = 0 → wp_P_partsExist_L40 Q u34.1 u34.2)))
def wp_P_partsExist_L13 (Q : (Int32 → st_S → Prop)) (g : st_I) (q : st_L) (v1 : Int32) (v3 : Int32) (v4 : Int32) : Prop := (v1 < (2 : Int32) → wp_P_partsExist_L26 Q g q v1 v4) ∧ (¬ v1 < (2 : Int32) → wp_P_isExpression v3 g q (fun x20 u20 => (x20 = 0 → wp_P_partsExist_L44 Q u20.1 u20.2) ∧ (¬ x20 = 0 → wp_P_partsExist_L26 Q u20.1 u20.2 v1 v4)))
def wp_P_partsExist (a1 : Int32) (a2 : Int32) (a3 : Int32) (a4 : Int32) (g : st_I) (q : st_L) (Q : (Int32 → st_S → Prop)) : Prop := (a1 < (1 : Int32) → wp_P_partsExist_L13 Q g q a1 a3 a4) ∧ (¬ a1 < (1 : Int32) → wp_P_isExpression a2 g q (fun x7 u7 => (x7 = 0 → wp_P_partsExist_L44 Q u7.1 u7.2) ∧ (¬ x7 = 0 → wp_P_partsExist_L13 Q u7.1 u7.2 a1 a3 a4)))
set_option maxHeartbeats 4000000 in
set_option maxRecDepth 100000 in
theorem ct_P_partsExist (l : Launch) (D : va_G) (cI cL cZ : ClassId) (ad : Nat → Nat) (r : st_I) (o : st_L) (a1 : Int32) (a2 : Int32) (a3 : Int32) (a4 : Int32) (g : st_I) (q : st_L) (Q : (Int32 → st_S → Prop)) (h : wp_P_partsExist a1 a2 a3 a4 g q Q) : ∀ sz, Met l yn_P_partsExist (Cond.code yn_P_partsExist cd_P_partsExist 5 (some .boolean) :: wa_A) { frames := 1, cells := 0, slots := 0, locals := 21 } (va_Pc [.ref (ad 1), .int a1, .int a2, .int a3, .int a4] (wq_S D cl_A (wd_T cI cL cZ) nw_A (wd_W cI cL cZ ad g q r o) sz)) (va_Qi Q (fun u t => wq_E D cl_A (wd_T cI cL cZ) (va_A (wd_W cI cL cZ ad g q r o) sz) (wd_W cI cL cZ ad u.1 u.2 r o) t) (va_A (wd_W cI cL cZ ad g q r o) sz)) 0 0 (va_A (wd_W cI cL cZ ad g q r o) sz) := by
  refine sw_met (Qc := fun A => va_Qi Q (fun u t => wq_E D cl_A (wd_T cI cL cZ) A (wd_W cI cL cZ ad u.1 u.2 r o) t) A) (by decide) rfl (Nat.le_of_ble_eq_true rfl) rfl ?_
  intro p e s m args below meth c A X hA hNs hE hr hlk hnm
  have b45 : ∀ (g : st_I) (q : st_L) (t0 : Int32), wp_P_partsExist_L45 Q g q t0 → sw_J p l e { frames := 1, cells := 0, slots := 0, locals := 21 } s m args below meth c 0 0 (MQ below (va_Qi Q (fun u t => wq_E D cl_A (wd_T cI cL cZ) A (wd_W cI cL cZ ad u.1 u.2 r o) t) A) args s 0 0 A) D cl_A A 5 (wd_W cI cL cZ ad g q r o) 45 [] [.int t0] := by
    intro g q t0 h
    exact sw_zret X hr hlk h.1 (u := (g, q)) rfl h.2 dc_P_partsExist_45
  have b40 : ∀ (g : st_I) (q : st_L), wp_P_partsExist_L40 Q g q → sw_J p l e { frames := 1, cells := 0, slots := 0, locals := 21 } s m args below meth c 0 0 (MQ below (va_Qi Q (fun u t => wq_E D cl_A (wd_T cI cL cZ) A (wd_W cI cL cZ ad u.1 u.2 r o) t) A) args s 0 0 A) D cl_A A 5 (wd_W cI cL cZ ad g q r o) 40 [] [] := by
    intro g q h
    refine sw_iconst (v := 1) X dc_P_partsExist_40 (by decide) ?_
    refine sw_goto (tgt := 45) X dc_P_partsExist_41 (by decide) ?_
    exact b45 g q (1 : Int32) h
  have b44 : ∀ (g : st_I) (q : st_L), wp_P_partsExist_L44 Q g q → sw_J p l e { frames := 1, cells := 0, slots := 0, locals := 21 } s m args below meth c 0 0 (MQ below (va_Qi Q (fun u t => wq_E D cl_A (wd_T cI cL cZ) A (wd_W cI cL cZ ad u.1 u.2 r o) t) A) args s 0 0 A) D cl_A A 5 (wd_W cI cL cZ ad g q r o) 44 [] [] := by
    intro g q h
    refine sw_iconst (v := 0) X dc_P_partsExist_44 (by decide) ?_
    exact b45 g q (0 : Int32) h
  have b26 : ∀ (g : st_I) (q : st_L) (v1 : Int32) (v4 : Int32), wp_P_partsExist_L26 Q g q v1 v4 → sw_J p l e { frames := 1, cells := 0, slots := 0, locals := 21 } s m args below meth c 0 0 (MQ below (va_Qi Q (fun u t => wq_E D cl_A (wd_T cI cL cZ) A (wd_W cI cL cZ ad u.1 u.2 r o) t) A) args s 0 0 A) D cl_A A 5 (wd_W cI cL cZ ad g q r o) 26 [(0, .ref (ad 1)), (1, .int v1), (4, .int v4)] [] := by
    intro g q v1 v4 h
    refine sw_iload_n X 1 rfl rfl dc_P_partsExist_26 ?_
    refine sw_iconst (v := 3) X dc_P_partsExist_27 (by decide) ?_
    refine sw_icmp_lt (tgt := 40) X dc_P_partsExist_28 (by decide) (fun z => ?_) (fun z => ?_)
    · have h := h.1 z
      refine sw_sub [] rfl ?_
      exact b40 g q h
    · have h := h.2 z
      refine sw_aload_n X 0 rfl rfl dc_P_partsExist_31 ?_
      refine sw_iload X 2 rfl dc_P_partsExist_32 ?_
      refine sw_cV_i (n := 1) X hA nw_okA hNs hE (fun u : st_S => wd_W cI cL cZ ad u.1 u.2 r o) [.int v4] 1 (wd_1 cI cL cZ ad g q r o) rfl rfl (ct_P_isExpression l D cI cL cZ ad r o v4 g q _ h) (List.mem_cons_of_mem _ wm_ml_P_71) (List.mem_cons_of_mem _ wm_im_P_isExpression) (List.mem_cons_of_mem _ wm_se_P_isExpression) rfl (wg_in wm_code_P_isExpression) rfl rfl (List.mem_cons_of_mem _ wm_in_P) ⟨by decide, by decide, by decide +kernel⟩ ⟨Nat.le_of_ble_eq_true rfl, Nat.le_of_ble_eq_true rfl⟩ ⟨Nat.zero_le _, Nat.zero_le _⟩ rfl (Nat.le_of_ble_eq_true rfl) dc_P_partsExist_34 rfl (fun x34 u34 h => ?_)
      refine sw_if_eq (tgt := 44) X dc_P_partsExist_37 (by decide) (fun z => ?_) (fun z => ?_)
      · have h := h.1 z
        refine sw_sub [] rfl ?_
        exact b44 u34.1 u34.2 h
      · have h := h.2 z
        refine sw_sub [] rfl ?_
        exact b40 u34.1 u34.2 h
  have b13 : ∀ (g : st_I) (q : st_L) (v1 : Int32) (v3 : Int32) (v4 : Int32), wp_P_partsExist_L13 Q g q v1 v3 v4 → sw_J p l e { frames := 1, cells := 0, slots := 0, locals := 21 } s m args below meth c 0 0 (MQ below (va_Qi Q (fun u t => wq_E D cl_A (wd_T cI cL cZ) A (wd_W cI cL cZ ad u.1 u.2 r o) t) A) args s 0 0 A) D cl_A A 5 (wd_W cI cL cZ ad g q r o) 13 [(0, .ref (ad 1)), (1, .int v1), (3, .int v3), (4, .int v4)] [] := by
    intro g q v1 v3 v4 h
    refine sw_iload_n X 1 rfl rfl dc_P_partsExist_13 ?_
    refine sw_iconst (v := 2) X dc_P_partsExist_14 (by decide) ?_
    refine sw_icmp_lt (tgt := 26) X dc_P_partsExist_15 (by decide) (fun z => ?_) (fun z => ?_)
    · have h := h.1 z
      refine sw_sub [0, 1, 3] rfl ?_
      exact b26 g q v1 v4 h
    · have h := h.2 z
      refine sw_aload_n X 0 rfl rfl dc_P_partsExist_18 ?_
      refine sw_iload_n X 2 rfl rfl dc_P_partsExist_19 ?_
      refine sw_cV_i (n := 1) X hA nw_okA hNs hE (fun u : st_S => wd_W cI cL cZ ad u.1 u.2 r o) [.int v3] 1 (wd_1 cI cL cZ ad g q r o) rfl rfl (ct_P_isExpression l D cI cL cZ ad r o v3 g q _ h) (List.mem_cons_of_mem _ wm_ml_P_71) (List.mem_cons_of_mem _ wm_im_P_isExpression) (List.mem_cons_of_mem _ wm_se_P_isExpression) rfl (wg_in wm_code_P_isExpression) rfl rfl (List.mem_cons_of_mem _ wm_in_P) ⟨by decide, by decide, by decide +kernel⟩ ⟨Nat.le_of_ble_eq_true rfl, Nat.le_of_ble_eq_true rfl⟩ ⟨Nat.zero_le _, Nat.zero_le _⟩ rfl (Nat.le_of_ble_eq_true rfl) dc_P_partsExist_20 rfl (fun x20 u20 h => ?_)
      refine sw_if_eq (tgt := 44) X dc_P_partsExist_23 (by decide) (fun z => ?_) (fun z => ?_)
      · have h := h.1 z
        refine sw_sub [] rfl ?_
        exact b44 u20.1 u20.2 h
      · have h := h.2 z
        refine sw_sub [0, 1, 3] rfl ?_
        exact b26 u20.1 u20.2 v1 v4 h
  refine sw_iload_n X 1 rfl rfl dc_P_partsExist_0 ?_
  refine sw_iconst (v := 1) X dc_P_partsExist_1 (by decide) ?_
  refine sw_icmp_lt (tgt := 13) X dc_P_partsExist_2 (by decide) (fun z => ?_) (fun z => ?_)
  · have h := h.1 z
    refine sw_sub [0, 1, 3, 4] rfl ?_
    exact b13 g q a1 a3 a4 h
  · have h := h.2 z
    refine sw_aload_n X 0 rfl rfl dc_P_partsExist_5 ?_
    refine sw_iload_n X 2 rfl rfl dc_P_partsExist_6 ?_
    refine sw_cV_i (n := 1) X hA nw_okA hNs hE (fun u : st_S => wd_W cI cL cZ ad u.1 u.2 r o) [.int a2] 1 (wd_1 cI cL cZ ad g q r o) rfl rfl (ct_P_isExpression l D cI cL cZ ad r o a2 g q _ h) (List.mem_cons_of_mem _ wm_ml_P_71) (List.mem_cons_of_mem _ wm_im_P_isExpression) (List.mem_cons_of_mem _ wm_se_P_isExpression) rfl (wg_in wm_code_P_isExpression) rfl rfl (List.mem_cons_of_mem _ wm_in_P) ⟨by decide, by decide, by decide +kernel⟩ ⟨Nat.le_of_ble_eq_true rfl, Nat.le_of_ble_eq_true rfl⟩ ⟨Nat.zero_le _, Nat.zero_le _⟩ rfl (Nat.le_of_ble_eq_true rfl) dc_P_partsExist_7 rfl (fun x7 u7 h => ?_)
    refine sw_if_eq (tgt := 44) X dc_P_partsExist_10 (by decide) (fun z => ?_) (fun z => ?_)
    · have h := h.1 z
      refine sw_sub [] rfl ?_
      exact b44 u7.1 u7.2 h
    · have h := h.2 z
      refine sw_sub [0, 1, 3, 4] rfl ?_
      exact b13 u7.1 u7.2 a1 a3 a4 h
def wp_P_depthOf_L15 (Q : (Int32 → st_S → Prop)) (g : st_I) (q : st_L) (t0 : Int32) : Prop := Q t0 (g, q)
def wp_P_depthOf (a1 : Int32) (g : st_I) (q : st_L) (Q : (Int32 → st_S → Prop)) : Prop := (¬ a1 = ((-1) : Int32) → vp_in a1 91 ∧ wp_P_depthOf_L15 Q g q (g 7 (a1).toNatClampNeg)) ∧ (a1 = ((-1) : Int32) → wp_P_depthOf_L15 Q g q ((-1) : Int32))
set_option maxHeartbeats 4000000 in
set_option maxRecDepth 100000 in
theorem ct_P_depthOf (l : Launch) (D : va_G) (cI cL cZ : ClassId) (ad : Nat → Nat) (r : st_I) (o : st_L) (a1 : Int32) (g : st_I) (q : st_L) (Q : (Int32 → st_S → Prop)) (h : wp_P_depthOf a1 g q Q) : ∀ sz, Met l yn_P_depthOf (Cond.code yn_P_depthOf cd_P_depthOf 2 (some .int) :: wa_A) { frames := 0, cells := 0, slots := 0, locals := 0 } (va_Pc [.ref (ad 1), .int a1] (wq_S D cl_A (wd_T cI cL cZ) nw_A (wd_W cI cL cZ ad g q r o) sz)) (va_Qi Q (fun u t => wq_E D cl_A (wd_T cI cL cZ) (va_A (wd_W cI cL cZ ad g q r o) sz) (wd_W cI cL cZ ad u.1 u.2 r o) t) (va_A (wd_W cI cL cZ ad g q r o) sz)) 0 0 (va_A (wd_W cI cL cZ ad g q r o) sz) := by
  refine sw_met (Qc := fun A => va_Qi Q (fun u t => wq_E D cl_A (wd_T cI cL cZ) A (wd_W cI cL cZ ad u.1 u.2 r o) t) A) (by decide) rfl (Nat.le_of_ble_eq_true rfl) rfl ?_
  intro p e s m args below meth c A X hA hNs hE hr hlk hnm
  have b15 : ∀ (g : st_I) (q : st_L) (t0 : Int32), wp_P_depthOf_L15 Q g q t0 → sw_J p l e { frames := 0, cells := 0, slots := 0, locals := 0 } s m args below meth c 0 0 (MQ below (va_Qi Q (fun u t => wq_E D cl_A (wd_T cI cL cZ) A (wd_W cI cL cZ ad u.1 u.2 r o) t) A) args s 0 0 A) D cl_A A 2 (wd_W cI cL cZ ad g q r o) 15 [] [.int t0] := by
    intro g q t0 h
    exact sw_iret X hr hlk (u := (g, q)) rfl h dc_P_depthOf_15
  refine sw_iload_n X 1 rfl rfl dc_P_depthOf_0 ?_
  refine sw_iconst (v := -1) X dc_P_depthOf_1 (by decide) ?_
  refine sw_icmp_ne (tgt := 9) X dc_P_depthOf_2 (by decide) (fun z => ?_) (fun z => ?_)
  · have h := h.1 z
    refine sw_aload_n X 0 rfl rfl dc_P_depthOf_9 ?_
    refine sw_get X (fun z hz => List.mem_cons_of_mem _ (wf_P z hz)) 1 (wd_1 cI cL cZ ad g q r o) rfl 5 (by decide) (List.mem_cons_of_mem _ wm_fl_P_27) rfl dc_P_depthOf_10 ?_
    refine sw_iload_n X 1 rfl rfl dc_P_depthOf_13 ?_
    refine sw_iald X 7 0 (wd_7 cI cL cZ ad g q r o) rfl h.1 dc_P_depthOf_14 ?_
    have h := h.2
    refine sw_sub [] rfl ?_
    exact b15 g q (g 7 (a1).toNatClampNeg) h
  · have h := h.2 z
    refine sw_iconst (v := -1) X dc_P_depthOf_5 (by decide) ?_
    refine sw_goto (tgt := 15) X dc_P_depthOf_6 (by decide) ?_
    refine sw_sub [] rfl ?_
    exact b15 g q ((-1) : Int32) h
def wp_P_sizeOf_L15 (Q : (Int32 → st_S → Prop)) (g : st_I) (q : st_L) (t0 : Int32) : Prop := Q t0 (g, q)
def wp_P_sizeOf (a1 : Int32) (g : st_I) (q : st_L) (Q : (Int32 → st_S → Prop)) : Prop := (¬ a1 = ((-1) : Int32) → vp_in a1 91 ∧ wp_P_sizeOf_L15 Q g q (g 8 (a1).toNatClampNeg)) ∧ (a1 = ((-1) : Int32) → wp_P_sizeOf_L15 Q g q (0 : Int32))
set_option maxHeartbeats 4000000 in
set_option maxRecDepth 100000 in
theorem ct_P_sizeOf (l : Launch) (D : va_G) (cI cL cZ : ClassId) (ad : Nat → Nat) (r : st_I) (o : st_L) (a1 : Int32) (g : st_I) (q : st_L) (Q : (Int32 → st_S → Prop)) (h : wp_P_sizeOf a1 g q Q) : ∀ sz, Met l yn_P_sizeOf (Cond.code yn_P_sizeOf cd_P_sizeOf 2 (some .int) :: wa_A) { frames := 0, cells := 0, slots := 0, locals := 0 } (va_Pc [.ref (ad 1), .int a1] (wq_S D cl_A (wd_T cI cL cZ) nw_A (wd_W cI cL cZ ad g q r o) sz)) (va_Qi Q (fun u t => wq_E D cl_A (wd_T cI cL cZ) (va_A (wd_W cI cL cZ ad g q r o) sz) (wd_W cI cL cZ ad u.1 u.2 r o) t) (va_A (wd_W cI cL cZ ad g q r o) sz)) 0 0 (va_A (wd_W cI cL cZ ad g q r o) sz) := by
  refine sw_met (Qc := fun A => va_Qi Q (fun u t => wq_E D cl_A (wd_T cI cL cZ) A (wd_W cI cL cZ ad u.1 u.2 r o) t) A) (by decide) rfl (Nat.le_of_ble_eq_true rfl) rfl ?_
  intro p e s m args below meth c A X hA hNs hE hr hlk hnm
  have b15 : ∀ (g : st_I) (q : st_L) (t0 : Int32), wp_P_sizeOf_L15 Q g q t0 → sw_J p l e { frames := 0, cells := 0, slots := 0, locals := 0 } s m args below meth c 0 0 (MQ below (va_Qi Q (fun u t => wq_E D cl_A (wd_T cI cL cZ) A (wd_W cI cL cZ ad u.1 u.2 r o) t) A) args s 0 0 A) D cl_A A 2 (wd_W cI cL cZ ad g q r o) 15 [] [.int t0] := by
    intro g q t0 h
    exact sw_iret X hr hlk (u := (g, q)) rfl h dc_P_sizeOf_15
  refine sw_iload_n X 1 rfl rfl dc_P_sizeOf_0 ?_
  refine sw_iconst (v := -1) X dc_P_sizeOf_1 (by decide) ?_
  refine sw_icmp_ne (tgt := 9) X dc_P_sizeOf_2 (by decide) (fun z => ?_) (fun z => ?_)
  · have h := h.1 z
    refine sw_aload_n X 0 rfl rfl dc_P_sizeOf_9 ?_
    refine sw_get X (fun z hz => List.mem_cons_of_mem _ (wf_P z hz)) 1 (wd_1 cI cL cZ ad g q r o) rfl 6 (by decide) (List.mem_cons_of_mem _ wm_fl_P_30) rfl dc_P_sizeOf_10 ?_
    refine sw_iload_n X 1 rfl rfl dc_P_sizeOf_13 ?_
    refine sw_iald X 8 0 (wd_8 cI cL cZ ad g q r o) rfl h.1 dc_P_sizeOf_14 ?_
    have h := h.2
    refine sw_sub [] rfl ?_
    exact b15 g q (g 8 (a1).toNatClampNeg) h
  · have h := h.2 z
    refine sw_iconst (v := 0) X dc_P_sizeOf_5 (by decide) ?_
    refine sw_goto (tgt := 15) X dc_P_sizeOf_6 (by decide) ?_
    refine sw_sub [] rfl ?_
    exact b15 g q (0 : Int32) h
def wp_P_measure (a1 : Int32) (g : st_I) (q : st_L) (Q : (st_S → Prop)) : Prop := vp_in a1 91 ∧ wp_P_depthOf (g 4 (a1).toNatClampNeg) g q (fun x7 u7 => vp_in a1 91 ∧ wp_P_depthOf (u7.1 5 (a1).toNatClampNeg) u7.1 u7.2 (fun x17 u17 => vp_in a1 91 ∧ wp_P_depthOf (u17.1 6 (a1).toNatClampNeg) u17.1 u17.2 (fun x27 u27 => vp_in a1 91 ∧ vp_in a1 91 ∧ wp_P_sizeOf (u27.1 4 (a1).toNatClampNeg) (st_u u27.1 7 (a1).toNatClampNeg ((if x7 < (if x17 < x27 then x27 else x17) then (if x17 < x27 then x27 else x17) else x7) + (1 : Int32))) u27.2 (fun x59 u59 => vp_in a1 91 ∧ wp_P_sizeOf (u59.1 5 (a1).toNatClampNeg) u59.1 u59.2 (fun x70 u70 => vp_in a1 91 ∧ wp_P_sizeOf (u70.1 6 (a1).toNatClampNeg) u70.1 u70.2 (fun x81 u81 => vp_in a1 91 ∧ Q ((st_u u81.1 8 (a1).toNatClampNeg ((((1 : Int32) + x59) + x70) + x81)), u81.2)))))))
set_option maxHeartbeats 4000000 in
set_option maxRecDepth 100000 in
theorem ct_P_measure (l : Launch) (D : va_G) (cI cL cZ : ClassId) (ad : Nat → Nat) (r : st_I) (o : st_L) (a1 : Int32) (g : st_I) (q : st_L) (Q : (st_S → Prop)) (h : wp_P_measure a1 g q Q) : ∀ sz, Met l yn_P_measure (Cond.code yn_P_measure cd_P_measure 3 none :: wa_A) { frames := 1, cells := 0, slots := 0, locals := 21 } (va_Pc [.ref (ad 1), .int a1] (wq_S D cl_A (wd_T cI cL cZ) nw_A (wd_W cI cL cZ ad g q r o) sz)) (va_Qv Q (fun u t => wq_E D cl_A (wd_T cI cL cZ) (va_A (wd_W cI cL cZ ad g q r o) sz) (wd_W cI cL cZ ad u.1 u.2 r o) t) (va_A (wd_W cI cL cZ ad g q r o) sz)) 0 0 (va_A (wd_W cI cL cZ ad g q r o) sz) := by
  refine sw_met (Qc := fun A => va_Qv Q (fun u t => wq_E D cl_A (wd_T cI cL cZ) A (wd_W cI cL cZ ad u.1 u.2 r o) t) A) (by decide) rfl (Nat.le_of_ble_eq_true rfl) rfl ?_
  intro p e s m args below meth c A X hA hNs hE hr hlk hnm
  refine sw_aload_n X 0 rfl rfl dc_P_measure_0 ?_
  refine sw_aload_n X 0 rfl rfl dc_P_measure_1 ?_
  refine sw_get X (fun z hz => List.mem_cons_of_mem _ (wf_P z hz)) 1 (wd_1 cI cL cZ ad g q r o) rfl 2 (by decide) (List.mem_cons_of_mem _ wm_fl_P_18) rfl dc_P_measure_2 ?_
  refine sw_iload_n X 1 rfl rfl dc_P_measure_5 ?_
  refine sw_iald X 4 0 (wd_4 cI cL cZ ad g q r o) rfl h.1 dc_P_measure_6 ?_
  have h := h.2
  refine sw_cV_i (n := 1) X hA nw_okA hNs hE (fun u : st_S => wd_W cI cL cZ ad u.1 u.2 r o) [.int (g 4 (a1).toNatClampNeg)] 1 (wd_1 cI cL cZ ad g q r o) rfl rfl (ct_P_depthOf l D cI cL cZ ad r o (g 4 (a1).toNatClampNeg) g q _ h) (List.mem_cons_of_mem _ wm_ml_P_74) (List.mem_cons_of_mem _ wm_im_P_depthOf) (List.mem_cons_of_mem _ wm_se_P_depthOf) rfl (wg_in wm_code_P_depthOf) rfl rfl (List.mem_cons_of_mem _ wm_in_P) ⟨by decide, by decide, by decide +kernel⟩ ⟨Nat.le_of_ble_eq_true rfl, Nat.le_of_ble_eq_true rfl⟩ ⟨Nat.zero_le _, Nat.zero_le _⟩ rfl (Nat.le_of_ble_eq_true rfl) dc_P_measure_7 rfl (fun x7 u7 h => ?_)
  refine sw_aload_n X 0 rfl rfl dc_P_measure_10 ?_
  refine sw_aload_n X 0 rfl rfl dc_P_measure_11 ?_
  refine sw_get X (fun z hz => List.mem_cons_of_mem _ (wf_P z hz)) 1 (wd_1 cI cL cZ ad u7.1 u7.2 r o) rfl 3 (by decide) (List.mem_cons_of_mem _ wm_fl_P_21) rfl dc_P_measure_12 ?_
  refine sw_iload_n X 1 rfl rfl dc_P_measure_15 ?_
  refine sw_iald X 5 0 (wd_5 cI cL cZ ad u7.1 u7.2 r o) rfl h.1 dc_P_measure_16 ?_
  have h := h.2
  refine sw_cV_i (n := 1) X hA nw_okA hNs hE (fun u : st_S => wd_W cI cL cZ ad u.1 u.2 r o) [.int (u7.1 5 (a1).toNatClampNeg)] 1 (wd_1 cI cL cZ ad u7.1 u7.2 r o) rfl rfl (ct_P_depthOf l D cI cL cZ ad r o (u7.1 5 (a1).toNatClampNeg) u7.1 u7.2 _ h) (List.mem_cons_of_mem _ wm_ml_P_74) (List.mem_cons_of_mem _ wm_im_P_depthOf) (List.mem_cons_of_mem _ wm_se_P_depthOf) rfl (wg_in wm_code_P_depthOf) rfl rfl (List.mem_cons_of_mem _ wm_in_P) ⟨by decide, by decide, by decide +kernel⟩ ⟨Nat.le_of_ble_eq_true rfl, Nat.le_of_ble_eq_true rfl⟩ ⟨Nat.zero_le _, Nat.zero_le _⟩ rfl (Nat.le_of_ble_eq_true rfl) dc_P_measure_17 rfl (fun x17 u17 h => ?_)
  refine sw_aload_n X 0 rfl rfl dc_P_measure_20 ?_
  refine sw_aload_n X 0 rfl rfl dc_P_measure_21 ?_
  refine sw_get X (fun z hz => List.mem_cons_of_mem _ (wf_P z hz)) 1 (wd_1 cI cL cZ ad u17.1 u17.2 r o) rfl 4 (by decide) (List.mem_cons_of_mem _ wm_fl_P_24) rfl dc_P_measure_22 ?_
  refine sw_iload_n X 1 rfl rfl dc_P_measure_25 ?_
  refine sw_iald X 6 0 (wd_6 cI cL cZ ad u17.1 u17.2 r o) rfl h.1 dc_P_measure_26 ?_
  have h := h.2
  refine sw_cV_i (n := 1) X hA nw_okA hNs hE (fun u : st_S => wd_W cI cL cZ ad u.1 u.2 r o) [.int (u17.1 6 (a1).toNatClampNeg)] 1 (wd_1 cI cL cZ ad u17.1 u17.2 r o) rfl rfl (ct_P_depthOf l D cI cL cZ ad r o (u17.1 6 (a1).toNatClampNeg) u17.1 u17.2 _ h) (List.mem_cons_of_mem _ wm_ml_P_74) (List.mem_cons_of_mem _ wm_im_P_depthOf) (List.mem_cons_of_mem _ wm_se_P_depthOf) rfl (wg_in wm_code_P_depthOf) rfl rfl (List.mem_cons_of_mem _ wm_in_P) ⟨by decide, by decide, by decide +kernel⟩ ⟨Nat.le_of_ble_eq_true rfl, Nat.le_of_ble_eq_true rfl⟩ ⟨Nat.zero_le _, Nat.zero_le _⟩ rfl (Nat.le_of_ble_eq_true rfl) dc_P_measure_27 rfl (fun x27 u27 h => ?_)
  refine sw_mmax X (List.mem_cons_of_mem _ wm_ml_P_77) (List.mem_cons_of_mem _ wm_x_st) (List.mem_cons_of_mem _ wm_x_in) (List.mem_cons_of_mem _ wm_x_code) (Nat.le_of_ble_eq_true rfl) (Nat.le_of_ble_eq_true rfl) ⟨Nat.zero_le _, Nat.zero_le _⟩ dc_P_measure_30 ?_
  refine sw_mmax X (List.mem_cons_of_mem _ wm_ml_P_77) (List.mem_cons_of_mem _ wm_x_st) (List.mem_cons_of_mem _ wm_x_in) (List.mem_cons_of_mem _ wm_x_code) (Nat.le_of_ble_eq_true rfl) (Nat.le_of_ble_eq_true rfl) ⟨Nat.zero_le _, Nat.zero_le _⟩ dc_P_measure_33 ?_
  refine sw_istore_n X [(2, .int (if x7 < (if x17 < x27 then x27 else x17) then (if x17 < x27 then x27 else x17) else x7)), (0, .ref (ad 1)), (1, .int a1)] rfl (by decide) rfl dc_P_measure_36 ?_
  refine sw_aload_n X 1 rfl rfl dc_P_measure_37 ?_
  refine sw_get X (fun z hz => List.mem_cons_of_mem _ (wf_P z hz)) 1 (wd_1 cI cL cZ ad u27.1 u27.2 r o) rfl 5 (by decide) (List.mem_cons_of_mem _ wm_fl_P_27) rfl dc_P_measure_38 ?_
  refine sw_iload_n X 2 rfl rfl dc_P_measure_41 ?_
  refine sw_iload_n X 0 rfl rfl dc_P_measure_42 ?_
  refine sw_iconst (v := 1) X dc_P_measure_43 (by decide) ?_
  refine sw_iadd X dc_P_measure_44 ?_
  refine sw_iast X 7 0 (wd_7 cI cL cZ ad u27.1 u27.2 r o) rfl h.1 (wd_W cI cL cZ ad (st_u u27.1 7 (a1).toNatClampNeg ((if x7 < (if x17 < x27 then x27 else x17) then (if x17 < x27 then x27 else x17) else x7) + (1 : Int32))) u27.2 r o) (ws_7 cI cL cZ ad u27.1 u27.2 r o (a1).toNatClampNeg ((if x7 < (if x17 < x27 then x27 else x17) then (if x17 < x27 then x27 else x17) else x7) + (1 : Int32))) dc_P_measure_45 ?_
  have h := h.2
  refine sw_aload_n X 1 rfl rfl dc_P_measure_46 ?_
  refine sw_get X (fun z hz => List.mem_cons_of_mem _ (wf_P z hz)) 1 (wd_1 cI cL cZ ad (st_u u27.1 7 (a1).toNatClampNeg ((if x7 < (if x17 < x27 then x27 else x17) then (if x17 < x27 then x27 else x17) else x7) + (1 : Int32))) u27.2 r o) rfl 6 (by decide) (List.mem_cons_of_mem _ wm_fl_P_30) rfl dc_P_measure_47 ?_
  refine sw_iload_n X 2 rfl rfl dc_P_measure_50 ?_
  refine sw_iconst (v := 1) X dc_P_measure_51 (by decide) ?_
  refine sw_aload_n X 1 rfl rfl dc_P_measure_52 ?_
  refine sw_aload_n X 1 rfl rfl dc_P_measure_53 ?_
  refine sw_get X (fun z hz => List.mem_cons_of_mem _ (wf_P z hz)) 1 (wd_1 cI cL cZ ad (st_u u27.1 7 (a1).toNatClampNeg ((if x7 < (if x17 < x27 then x27 else x17) then (if x17 < x27 then x27 else x17) else x7) + (1 : Int32))) u27.2 r o) rfl 2 (by decide) (List.mem_cons_of_mem _ wm_fl_P_18) rfl dc_P_measure_54 ?_
  refine sw_iload_n X 2 rfl rfl dc_P_measure_57 ?_
  refine sw_iald X 4 0 (wd_4 cI cL cZ ad (st_u u27.1 7 (a1).toNatClampNeg ((if x7 < (if x17 < x27 then x27 else x17) then (if x17 < x27 then x27 else x17) else x7) + (1 : Int32))) u27.2 r o) rfl h.1 dc_P_measure_58 ?_
  have h := h.2
  refine sw_eq (st' := [.int (u27.1 4 (a1).toNatClampNeg), .ref (ad 1), .int (1 : Int32), .int a1, .ref (ad 8)]) rfl rfl rfl ?_
  refine sw_cV_i (n := 1) X hA nw_okA hNs hE (fun u : st_S => wd_W cI cL cZ ad u.1 u.2 r o) [.int (u27.1 4 (a1).toNatClampNeg)] 1 (wd_1 cI cL cZ ad (st_u u27.1 7 (a1).toNatClampNeg ((if x7 < (if x17 < x27 then x27 else x17) then (if x17 < x27 then x27 else x17) else x7) + (1 : Int32))) u27.2 r o) rfl rfl (ct_P_sizeOf l D cI cL cZ ad r o (u27.1 4 (a1).toNatClampNeg) (st_u u27.1 7 (a1).toNatClampNeg ((if x7 < (if x17 < x27 then x27 else x17) then (if x17 < x27 then x27 else x17) else x7) + (1 : Int32))) u27.2 _ h) (List.mem_cons_of_mem _ wm_ml_P_83) (List.mem_cons_of_mem _ wm_im_P_sizeOf) (List.mem_cons_of_mem _ wm_se_P_sizeOf) rfl (wg_in wm_code_P_sizeOf) rfl rfl (List.mem_cons_of_mem _ wm_in_P) ⟨by decide, by decide, by decide +kernel⟩ ⟨Nat.le_of_ble_eq_true rfl, Nat.le_of_ble_eq_true rfl⟩ ⟨Nat.zero_le _, Nat.zero_le _⟩ rfl (Nat.le_of_ble_eq_true rfl) dc_P_measure_59 rfl (fun x59 u59 h => ?_)
  refine sw_iadd X dc_P_measure_62 ?_
  refine sw_aload_n X 1 rfl rfl dc_P_measure_63 ?_
  refine sw_aload_n X 1 rfl rfl dc_P_measure_64 ?_
  refine sw_get X (fun z hz => List.mem_cons_of_mem _ (wf_P z hz)) 1 (wd_1 cI cL cZ ad u59.1 u59.2 r o) rfl 3 (by decide) (List.mem_cons_of_mem _ wm_fl_P_21) rfl dc_P_measure_65 ?_
  refine sw_iload_n X 2 rfl rfl dc_P_measure_68 ?_
  refine sw_iald X 5 0 (wd_5 cI cL cZ ad u59.1 u59.2 r o) rfl h.1 dc_P_measure_69 ?_
  have h := h.2
  refine sw_cV_i (n := 1) X hA nw_okA hNs hE (fun u : st_S => wd_W cI cL cZ ad u.1 u.2 r o) [.int (u59.1 5 (a1).toNatClampNeg)] 1 (wd_1 cI cL cZ ad u59.1 u59.2 r o) rfl rfl (ct_P_sizeOf l D cI cL cZ ad r o (u59.1 5 (a1).toNatClampNeg) u59.1 u59.2 _ h) (List.mem_cons_of_mem _ wm_ml_P_83) (List.mem_cons_of_mem _ wm_im_P_sizeOf) (List.mem_cons_of_mem _ wm_se_P_sizeOf) rfl (wg_in wm_code_P_sizeOf) rfl rfl (List.mem_cons_of_mem _ wm_in_P) ⟨by decide, by decide, by decide +kernel⟩ ⟨Nat.le_of_ble_eq_true rfl, Nat.le_of_ble_eq_true rfl⟩ ⟨Nat.zero_le _, Nat.zero_le _⟩ rfl (Nat.le_of_ble_eq_true rfl) dc_P_measure_70 rfl (fun x70 u70 h => ?_)
  refine sw_iadd X dc_P_measure_73 ?_
  refine sw_aload_n X 1 rfl rfl dc_P_measure_74 ?_
  refine sw_aload_n X 1 rfl rfl dc_P_measure_75 ?_
  refine sw_get X (fun z hz => List.mem_cons_of_mem _ (wf_P z hz)) 1 (wd_1 cI cL cZ ad u70.1 u70.2 r o) rfl 4 (by decide) (List.mem_cons_of_mem _ wm_fl_P_24) rfl dc_P_measure_76 ?_
  refine sw_iload_n X 2 rfl rfl dc_P_measure_79 ?_
  refine sw_iald X 6 0 (wd_6 cI cL cZ ad u70.1 u70.2 r o) rfl h.1 dc_P_measure_80 ?_
  have h := h.2
  refine sw_cV_i (n := 1) X hA nw_okA hNs hE (fun u : st_S => wd_W cI cL cZ ad u.1 u.2 r o) [.int (u70.1 6 (a1).toNatClampNeg)] 1 (wd_1 cI cL cZ ad u70.1 u70.2 r o) rfl rfl (ct_P_sizeOf l D cI cL cZ ad r o (u70.1 6 (a1).toNatClampNeg) u70.1 u70.2 _ h) (List.mem_cons_of_mem _ wm_ml_P_83) (List.mem_cons_of_mem _ wm_im_P_sizeOf) (List.mem_cons_of_mem _ wm_se_P_sizeOf) rfl (wg_in wm_code_P_sizeOf) rfl rfl (List.mem_cons_of_mem _ wm_in_P) ⟨by decide, by decide, by decide +kernel⟩ ⟨Nat.le_of_ble_eq_true rfl, Nat.le_of_ble_eq_true rfl⟩ ⟨Nat.zero_le _, Nat.zero_le _⟩ rfl (Nat.le_of_ble_eq_true rfl) dc_P_measure_81 rfl (fun x81 u81 h => ?_)
  refine sw_iadd X dc_P_measure_84 ?_
  refine sw_iast X 8 0 (wd_8 cI cL cZ ad u81.1 u81.2 r o) rfl h.1 (wd_W cI cL cZ ad (st_u u81.1 8 (a1).toNatClampNeg ((((1 : Int32) + x59) + x70) + x81)) u81.2 r o) (ws_8 cI cL cZ ad u81.1 u81.2 r o (a1).toNatClampNeg ((((1 : Int32) + x59) + x70) + x81)) dc_P_measure_85 ?_
  have h := h.2
  exact sw_vret X hr hlk (u := ((st_u u81.1 8 (a1).toNatClampNeg ((((1 : Int32) + x59) + x70) + x81)), u81.2)) rfl h dc_P_measure_86
def wp_P_draft_L10 (Q : (Int32 → st_S → Prop)) (g : st_I) (q : st_L)  : Prop := Q (0 : Int32) (g, q)
def wp_P_draft_L248 (Q : (Int32 → st_S → Prop)) (g : st_I) (q : st_L) (t0 : Int32) : Prop := narrow .boolean (.int t0) = .int t0 ∧ Q t0 (g, q)
def wp_P_draft_L247 (Q : (Int32 → st_S → Prop)) (g : st_I) (q : st_L)  : Prop := wp_P_draft_L248 Q g q (0 : Int32)
def wp_P_draft_L207 (Q : (Int32 → st_S → Prop)) (g : st_I) (q : st_L) (t0 : Int32) (t1 : Int32) : Prop := vp_in t1 91 ∧ wp_P_measure (g 1 8) (st_u g 6 (t1).toNatClampNeg t0) q (fun u213 => vp_in (u213.1 1 8) 91 ∧ ((5 : Int32) < (u213.1 7 ((u213.1 1 8)).toNatClampNeg) → wp_P_draft_L247 Q u213.1 u213.2) ∧ (¬ (5 : Int32) < (u213.1 7 ((u213.1 1 8)).toNatClampNeg) → vp_in (u213.1 1 8) 91 ∧ ((60 : Int32) < (u213.1 8 ((u213.1 1 8)).toNatClampNeg) → wp_P_draft_L247 Q u213.1 u213.2) ∧ (¬ (60 : Int32) < (u213.1 8 ((u213.1 1 8)).toNatClampNeg) → wp_P_draft_L248 Q u213.1 u213.2 (1 : Int32))))
def wp_P_draft_L186 (Q : (Int32 → st_S → Prop)) (g : st_I) (q : st_L) (v5 : Int32) (v7 : Int32) (t0 : Int32) (t1 : Int32) : Prop := vp_in t1 91 ∧ (v7 < (3 : Int32) → wp_P_draft_L207 Q (st_u g 5 (t1).toNatClampNeg t0) q ((-1) : Int32) (g 1 8)) ∧ (¬ v7 < (3 : Int32) → wp_P_draft_L207 Q (st_u g 5 (t1).toNatClampNeg t0) q v5 (g 1 8))
def wp_P_draft_L165 (Q : (Int32 → st_S → Prop)) (g : st_I) (q : st_L) (v5 : Int32) (v7 : Int32) (v10 : Int32) (t0 : Int32) (t1 : Int32) : Prop := vp_in t1 91 ∧ (v7 < (2 : Int32) → wp_P_draft_L186 Q (st_u g 4 (t1).toNatClampNeg t0) q v5 v7 ((-1) : Int32) (g 1 8)) ∧ (¬ v7 < (2 : Int32) → wp_P_draft_L186 Q (st_u g 4 (t1).toNatClampNeg t0) q v5 v7 v10 (g 1 8))
def wp_P_draft_L105 (Q : (Int32 → st_S → Prop)) (g : st_I) (q : st_L) (v1 : Int32) (v5 : Int32) (v6 : Int32) (v7 : Int32) (v9 : Int32) (t0 : Int32) : Prop := wp_P_partsExist v7 v9 t0 v5 g q (fun x116 u116 => (¬ x116 = 0 → vp_in (u116.1 1 8) 91 ∧ vp_in (u116.1 1 8) 91 ∧ (v7 < (1 : Int32) → wp_P_draft_L165 Q (st_u (st_u u116.1 2 ((u116.1 1 8)).toNatClampNeg v1) 3 ((u116.1 1 8)).toNatClampNeg v6) u116.2 v5 v7 t0 ((-1) : Int32) (u116.1 1 8)) ∧ (¬ v7 < (1 : Int32) → wp_P_draft_L165 Q (st_u (st_u u116.1 2 ((u116.1 1 8)).toNatClampNeg v1) 3 ((u116.1 1 8)).toNatClampNeg v6) u116.2 v5 v7 t0 v9 (u116.1 1 8))) ∧ (x116 = 0 → Q (0 : Int32) (u116.1, u116.2)))
def wp_P_draft_L99 (Q : (Int32 → st_S → Prop)) (g : st_I) (q : st_L) (v1 : Int32) (v4 : Int32) (v5 : Int32) (v6 : Int32) (v7 : Int32) (v9 : Int32) : Prop := wp_P_draft_L105 Q g q v1 v5 v6 v7 v9 v4
def wp_P_draft_L86 (Q : (Int32 → st_S → Prop)) (g : st_I) (q : st_L) (v1 : Int32) (v3 : Int32) (v4 : Int32) (v5 : Int32) (v6 : Int32) (v7 : Int32) (v8 : Int32) (t0 : Int32) : Prop := (¬ v8 = 0 → wp_P_draft_L99 Q g q v1 v4 v5 v6 v7 t0) ∧ (v8 = 0 → (¬ v1 = (9 : Int32) → wp_P_draft_L105 Q g q v1 v5 v6 v7 t0 v3) ∧ (v1 = (9 : Int32) → wp_P_draft_L99 Q g q v1 v4 v5 v6 v7 t0))
def wp_P_draft_L74 (Q : (Int32 → st_S → Prop)) (g : st_I) (q : st_L) (v1 : Int32) (v2 : Int32) (v3 : Int32) (v4 : Int32) (v5 : Int32) (v6 : Int32) (v7 : Int32) (t0 : Int32) : Prop := (t0 = 0 → wp_P_draft_L86 Q g q v1 v3 v4 v5 v6 v7 t0 v2) ∧ (¬ t0 = 0 → wp_P_draft_L86 Q g q v1 v3 v4 v5 v6 v7 t0 v3)
def wp_P_draft_L69 (Q : (Int32 → st_S → Prop)) (g : st_I) (q : st_L) (v1 : Int32) (v2 : Int32) (v3 : Int32) (v4 : Int32) (v5 : Int32) (v6 : Int32) (v7 : Int32) : Prop := wp_P_draft_L74 Q g q v1 v2 v3 v4 v5 v6 v7 (1 : Int32)
def wp_P_draft_L55 (Q : (Int32 → st_S → Prop)) (g : st_I) (q : st_L) (v1 : Int32) (v2 : Int32) (v3 : Int32) (v4 : Int32) (v5 : Int32) (v6 : Int32) (t0 : Int32) : Prop := (v1 = (10 : Int32) → wp_P_draft_L69 Q g q v1 v2 v3 v4 v5 v6 t0) ∧ (¬ v1 = (10 : Int32) → (¬ v1 = (11 : Int32) → wp_P_draft_L74 Q g q v1 v2 v3 v4 v5 v6 t0 (0 : Int32)) ∧ (v1 = (11 : Int32) → wp_P_draft_L69 Q g q v1 v2 v3 v4 v5 v6 t0))
def wp_P_draft_L23 (Q : (Int32 → st_S → Prop)) (g : st_I) (q : st_L) (v1 : Int32) (v2 : Int32) (v3 : Int32) (v4 : Int32) (v5 : Int32) (t0 : Int32) : Prop := wp_P_detailFits v1 t0 g q (fun x28 u28 => (¬ x28 = 0 → (¬ v1 = (10 : Int32) → vp_in v1 15 ∧ wp_P_draft_L55 Q u28.1 u28.2 v1 v2 v3 v4 v5 t0 (pt_P (v1).toNatClampNeg)) ∧ (v1 = (10 : Int32) → wp_S_parametersOf t0 u28.1 u28.2 (fun x44 u44 => wp_P_draft_L55 Q u44.1 u44.2 v1 v2 v3 v4 v5 t0 x44))) ∧ (x28 = 0 → Q (0 : Int32) (u28.1, u28.2)))
def wp_P_draft (a1 : Int32) (a2 : Int32) (a3 : Int32) (a4 : Int32) (a5 : Int32) (g : st_I) (q : st_L) (Q : (Int32 → st_S → Prop)) : Prop := (a1 < 0 → wp_P_draft_L10 Q g q) ∧ (¬ a1 < 0 → (a1 < (15 : Int32) → (¬ a1 = (9 : Int32) → wp_P_draft_L23 Q g q a1 a2 a3 a4 a5 a2) ∧ (a1 = (9 : Int32) → wp_P_draft_L23 Q g q a1 a2 a3 a4 a5 a3)) ∧ (¬ a1 < (15 : Int32) → wp_P_draft_L10 Q g q))
set_option maxHeartbeats 4000000 in
set_option maxRecDepth 100000 in
theorem ct_P_draft (l : Launch) (D : va_G) (cI cL cZ : ClassId) (ad : Nat → Nat) (r : st_I) (o : st_L) (a1 : Int32) (a2 : Int32) (a3 : Int32) (a4 : Int32) (a5 : Int32) (g : st_I) (q : st_L) (Q : (Int32 → st_S → Prop)) (h : wp_P_draft a1 a2 a3 a4 a5 g q Q) : ∀ sz, Met l yn_P_draft (Cond.code yn_P_draft cd_P_draft 11 (some .boolean) :: wa_A) { frames := 2, cells := 0, slots := 0, locals := 45 } (va_Pc [.ref (ad 1), .int a1, .int a2, .int a3, .int a4, .int a5] (wq_S D cl_A (wd_T cI cL cZ) nw_A (wd_W cI cL cZ ad g q r o) sz)) (va_Qi Q (fun u t => wq_E D cl_A (wd_T cI cL cZ) (va_A (wd_W cI cL cZ ad g q r o) sz) (wd_W cI cL cZ ad u.1 u.2 r o) t) (va_A (wd_W cI cL cZ ad g q r o) sz)) 0 0 (va_A (wd_W cI cL cZ ad g q r o) sz) := by
  refine sw_met (Qc := fun A => va_Qi Q (fun u t => wq_E D cl_A (wd_T cI cL cZ) A (wd_W cI cL cZ ad u.1 u.2 r o) t) A) (by decide) rfl (Nat.le_of_ble_eq_true rfl) rfl ?_
  intro p e s m args below meth c A X hA hNs hE hr hlk hnm
  have hE2 := hE
  obtain ⟨bP, hZ, hT⟩ := hE2
  have b10 : ∀ (g : st_I) (q : st_L), wp_P_draft_L10 Q g q → sw_J p l e { frames := 2, cells := 0, slots := 0, locals := 45 } s m args below meth c 0 0 (MQ below (va_Qi Q (fun u t => wq_E D cl_A (wd_T cI cL cZ) A (wd_W cI cL cZ ad u.1 u.2 r o) t) A) args s 0 0 A) D cl_A A 11 (wd_W cI cL cZ ad g q r o) 10 [] [] := by
    intro g q h
    refine sw_iconst (v := 0) X dc_P_draft_10 (by decide) ?_
    exact sw_zret X hr hlk (by decide) (u := (g, q)) rfl h dc_P_draft_11
  have b248 : ∀ (g : st_I) (q : st_L) (t0 : Int32), wp_P_draft_L248 Q g q t0 → sw_J p l e { frames := 2, cells := 0, slots := 0, locals := 45 } s m args below meth c 0 0 (MQ below (va_Qi Q (fun u t => wq_E D cl_A (wd_T cI cL cZ) A (wd_W cI cL cZ ad u.1 u.2 r o) t) A) args s 0 0 A) D cl_A A 11 (wd_W cI cL cZ ad g q r o) 248 [] [.int t0] := by
    intro g q t0 h
    exact sw_zret X hr hlk h.1 (u := (g, q)) rfl h.2 dc_P_draft_248
  have b247 : ∀ (g : st_I) (q : st_L), wp_P_draft_L247 Q g q → sw_J p l e { frames := 2, cells := 0, slots := 0, locals := 45 } s m args below meth c 0 0 (MQ below (va_Qi Q (fun u t => wq_E D cl_A (wd_T cI cL cZ) A (wd_W cI cL cZ ad u.1 u.2 r o) t) A) args s 0 0 A) D cl_A A 11 (wd_W cI cL cZ ad g q r o) 247 [] [] := by
    intro g q h
    refine sw_iconst (v := 0) X dc_P_draft_247 (by decide) ?_
    exact b248 g q (0 : Int32) h
  have b207 : ∀ (g : st_I) (q : st_L) (t0 : Int32) (t1 : Int32), wp_P_draft_L207 Q g q t0 t1 → sw_J p l e { frames := 2, cells := 0, slots := 0, locals := 45 } s m args below meth c 0 0 (MQ below (va_Qi Q (fun u t => wq_E D cl_A (wd_T cI cL cZ) A (wd_W cI cL cZ ad u.1 u.2 r o) t) A) args s 0 0 A) D cl_A A 11 (wd_W cI cL cZ ad g q r o) 207 [(0, .ref (ad 1))] [.int t0, .int t1, .ref (ad 6)] := by
    intro g q t0 t1 h
    refine sw_iast X 6 0 (wd_6 cI cL cZ ad g q r o) rfl h.1 (wd_W cI cL cZ ad (st_u g 6 (t1).toNatClampNeg t0) q r o) (ws_6 cI cL cZ ad g q r o (t1).toNatClampNeg t0) dc_P_draft_207 ?_
    have h := h.2
    refine sw_aload_n X 0 rfl rfl dc_P_draft_208 ?_
    refine sw_aload_n X 0 rfl rfl dc_P_draft_209 ?_
    refine sw_get (v := .int (g 1 8)) X (fun z hz => List.mem_cons_of_mem _ (wf_P z hz)) 1 (wd_1 cI cL cZ ad (st_u g 6 (t1).toNatClampNeg t0) q r o) rfl 8 (by decide) (List.mem_cons_of_mem _ wm_fl_P_42) rfl dc_P_draft_210 ?_
    refine sw_cV_v (n := 1) X hA nw_okA hNs hE (fun u : st_S => wd_W cI cL cZ ad u.1 u.2 r o) [.int (g 1 8)] 1 (wd_1 cI cL cZ ad (st_u g 6 (t1).toNatClampNeg t0) q r o) rfl rfl (ct_P_measure l D cI cL cZ ad r o (g 1 8) (st_u g 6 (t1).toNatClampNeg t0) q _ h) (List.mem_cons_of_mem _ wm_ml_P_61) (List.mem_cons_of_mem _ wm_im_P_measure) (List.mem_cons_of_mem _ wm_se_P_measure) rfl (wg_in wm_code_P_measure) rfl rfl (List.mem_cons_of_mem _ wm_in_P) ⟨by decide, by decide, by decide +kernel⟩ ⟨Nat.le_of_ble_eq_true rfl, Nat.le_of_ble_eq_true rfl⟩ ⟨Nat.zero_le _, Nat.zero_le _⟩ rfl (Nat.le_of_ble_eq_true rfl) dc_P_draft_213 rfl (fun u213 h => ?_)
    refine sw_aload_n X 0 rfl rfl dc_P_draft_216 ?_
    refine sw_get X (fun z hz => List.mem_cons_of_mem _ (wf_P z hz)) 1 (wd_1 cI cL cZ ad u213.1 u213.2 r o) rfl 5 (by decide) (List.mem_cons_of_mem _ wm_fl_P_27) rfl dc_P_draft_217 ?_
    refine sw_aload_n X 0 rfl rfl dc_P_draft_220 ?_
    refine sw_get (v := .int (u213.1 1 8)) X (fun z hz => List.mem_cons_of_mem _ (wf_P z hz)) 1 (wd_1 cI cL cZ ad u213.1 u213.2 r o) rfl 8 (by decide) (List.mem_cons_of_mem _ wm_fl_P_42) rfl dc_P_draft_221 ?_
    refine sw_iald X 7 0 (wd_7 cI cL cZ ad u213.1 u213.2 r o) rfl h.1 dc_P_draft_224 ?_
    have h := h.2
    refine sw_iconst (v := 5) X dc_P_draft_225 (by decide) ?_
    refine sw_icmp_gt (tgt := 247) X dc_P_draft_226 (by decide) (fun z => ?_) (fun z => ?_)
    · have h := h.1 z
      refine sw_sub [] rfl ?_
      exact b247 u213.1 u213.2 h
    · have h := h.2 z
      refine sw_aload_n X 0 rfl rfl dc_P_draft_229 ?_
      refine sw_get X (fun z hz => List.mem_cons_of_mem _ (wf_P z hz)) 1 (wd_1 cI cL cZ ad u213.1 u213.2 r o) rfl 6 (by decide) (List.mem_cons_of_mem _ wm_fl_P_30) rfl dc_P_draft_230 ?_
      refine sw_aload_n X 0 rfl rfl dc_P_draft_233 ?_
      refine sw_get (v := .int (u213.1 1 8)) X (fun z hz => List.mem_cons_of_mem _ (wf_P z hz)) 1 (wd_1 cI cL cZ ad u213.1 u213.2 r o) rfl 8 (by decide) (List.mem_cons_of_mem _ wm_fl_P_42) rfl dc_P_draft_234 ?_
      refine sw_iald X 8 0 (wd_8 cI cL cZ ad u213.1 u213.2 r o) rfl h.1 dc_P_draft_237 ?_
      have h := h.2
      refine sw_bipush (v := 60) X dc_P_draft_238 (by decide) ?_
      refine sw_icmp_gt (tgt := 247) X dc_P_draft_240 (by decide) (fun z => ?_) (fun z => ?_)
      · have h := h.1 z
        refine sw_sub [] rfl ?_
        exact b247 u213.1 u213.2 h
      · have h := h.2 z
        refine sw_iconst (v := 1) X dc_P_draft_243 (by decide) ?_
        refine sw_goto (tgt := 248) X dc_P_draft_244 (by decide) ?_
        refine sw_sub [] rfl ?_
        exact b248 u213.1 u213.2 (1 : Int32) h
  have b186 : ∀ (g : st_I) (q : st_L) (v5 : Int32) (v7 : Int32) (t0 : Int32) (t1 : Int32), wp_P_draft_L186 Q g q v5 v7 t0 t1 → sw_J p l e { frames := 2, cells := 0, slots := 0, locals := 45 } s m args below meth c 0 0 (MQ below (va_Qi Q (fun u t => wq_E D cl_A (wd_T cI cL cZ) A (wd_W cI cL cZ ad u.1 u.2 r o) t) A) args s 0 0 A) D cl_A A 11 (wd_W cI cL cZ ad g q r o) 186 [(0, .ref (ad 1)), (5, .int v5), (7, .int v7)] [.int t0, .int t1, .ref (ad 5)] := by
    intro g q v5 v7 t0 t1 h
    refine sw_iast X 5 0 (wd_5 cI cL cZ ad g q r o) rfl h.1 (wd_W cI cL cZ ad (st_u g 5 (t1).toNatClampNeg t0) q r o) (ws_5 cI cL cZ ad g q r o (t1).toNatClampNeg t0) dc_P_draft_186 ?_
    have h := h.2
    refine sw_aload_n X 0 rfl rfl dc_P_draft_187 ?_
    refine sw_get X (fun z hz => List.mem_cons_of_mem _ (wf_P z hz)) 1 (wd_1 cI cL cZ ad (st_u g 5 (t1).toNatClampNeg t0) q r o) rfl 4 (by decide) (List.mem_cons_of_mem _ wm_fl_P_24) rfl dc_P_draft_188 ?_
    refine sw_aload_n X 0 rfl rfl dc_P_draft_191 ?_
    refine sw_get (v := .int (g 1 8)) X (fun z hz => List.mem_cons_of_mem _ (wf_P z hz)) 1 (wd_1 cI cL cZ ad (st_u g 5 (t1).toNatClampNeg t0) q r o) rfl 8 (by decide) (List.mem_cons_of_mem _ wm_fl_P_42) rfl dc_P_draft_192 ?_
    refine sw_iload X 2 rfl dc_P_draft_195 ?_
    refine sw_iconst (v := 3) X dc_P_draft_197 (by decide) ?_
    refine sw_icmp_lt (tgt := 206) X dc_P_draft_198 (by decide) (fun z => ?_) (fun z => ?_)
    · have h := h.1 z
      refine sw_iconst (v := -1) X dc_P_draft_206 (by decide) ?_
      refine sw_sub [0] rfl ?_
      exact b207 (st_u g 5 (t1).toNatClampNeg t0) q ((-1) : Int32) (g 1 8) h
    · have h := h.2 z
      refine sw_iload X 1 rfl dc_P_draft_201 ?_
      refine sw_goto (tgt := 207) X dc_P_draft_203 (by decide) ?_
      refine sw_sub [0] rfl ?_
      exact b207 (st_u g 5 (t1).toNatClampNeg t0) q v5 (g 1 8) h
  have b165 : ∀ (g : st_I) (q : st_L) (v5 : Int32) (v7 : Int32) (v10 : Int32) (t0 : Int32) (t1 : Int32), wp_P_draft_L165 Q g q v5 v7 v10 t0 t1 → sw_J p l e { frames := 2, cells := 0, slots := 0, locals := 45 } s m args below meth c 0 0 (MQ below (va_Qi Q (fun u t => wq_E D cl_A (wd_T cI cL cZ) A (wd_W cI cL cZ ad u.1 u.2 r o) t) A) args s 0 0 A) D cl_A A 11 (wd_W cI cL cZ ad g q r o) 165 [(0, .ref (ad 1)), (5, .int v5), (7, .int v7), (10, .int v10)] [.int t0, .int t1, .ref (ad 4)] := by
    intro g q v5 v7 v10 t0 t1 h
    refine sw_iast X 4 0 (wd_4 cI cL cZ ad g q r o) rfl h.1 (wd_W cI cL cZ ad (st_u g 4 (t1).toNatClampNeg t0) q r o) (ws_4 cI cL cZ ad g q r o (t1).toNatClampNeg t0) dc_P_draft_165 ?_
    have h := h.2
    refine sw_aload_n X 0 rfl rfl dc_P_draft_166 ?_
    refine sw_get X (fun z hz => List.mem_cons_of_mem _ (wf_P z hz)) 1 (wd_1 cI cL cZ ad (st_u g 4 (t1).toNatClampNeg t0) q r o) rfl 3 (by decide) (List.mem_cons_of_mem _ wm_fl_P_21) rfl dc_P_draft_167 ?_
    refine sw_aload_n X 0 rfl rfl dc_P_draft_170 ?_
    refine sw_get (v := .int (g 1 8)) X (fun z hz => List.mem_cons_of_mem _ (wf_P z hz)) 1 (wd_1 cI cL cZ ad (st_u g 4 (t1).toNatClampNeg t0) q r o) rfl 8 (by decide) (List.mem_cons_of_mem _ wm_fl_P_42) rfl dc_P_draft_171 ?_
    refine sw_iload X 2 rfl dc_P_draft_174 ?_
    refine sw_iconst (v := 2) X dc_P_draft_176 (by decide) ?_
    refine sw_icmp_lt (tgt := 185) X dc_P_draft_177 (by decide) (fun z => ?_) (fun z => ?_)
    · have h := h.1 z
      refine sw_iconst (v := -1) X dc_P_draft_185 (by decide) ?_
      refine sw_sub [0, 1, 2] rfl ?_
      exact b186 (st_u g 4 (t1).toNatClampNeg t0) q v5 v7 ((-1) : Int32) (g 1 8) h
    · have h := h.2 z
      refine sw_iload X 3 rfl dc_P_draft_180 ?_
      refine sw_goto (tgt := 186) X dc_P_draft_182 (by decide) ?_
      refine sw_sub [0, 1, 2] rfl ?_
      exact b186 (st_u g 4 (t1).toNatClampNeg t0) q v5 v7 v10 (g 1 8) h
  have b105 : ∀ (g : st_I) (q : st_L) (v1 : Int32) (v5 : Int32) (v6 : Int32) (v7 : Int32) (v9 : Int32) (t0 : Int32), wp_P_draft_L105 Q g q v1 v5 v6 v7 v9 t0 → sw_J p l e { frames := 2, cells := 0, slots := 0, locals := 45 } s m args below meth c 0 0 (MQ below (va_Qi Q (fun u t => wq_E D cl_A (wd_T cI cL cZ) A (wd_W cI cL cZ ad u.1 u.2 r o) t) A) args s 0 0 A) D cl_A A 11 (wd_W cI cL cZ ad g q r o) 105 [(0, .ref (ad 1)), (1, .int v1), (5, .int v5), (6, .int v6), (7, .int v7), (9, .int v9)] [.int t0] := by
    intro g q v1 v5 v6 v7 v9 t0 h
    refine sw_istore X [(10, .int t0), (0, .ref (ad 1)), (1, .int v1), (5, .int v5), (6, .int v6), (7, .int v7), (9, .int v9)] rfl (by decide) dc_P_draft_105 ?_
    refine sw_aload_n X 1 rfl rfl dc_P_draft_107 ?_
    refine sw_iload X 5 rfl dc_P_draft_108 ?_
    refine sw_iload X 6 rfl dc_P_draft_110 ?_
    refine sw_iload X 0 rfl dc_P_draft_112 ?_
    refine sw_iload X 3 rfl dc_P_draft_114 ?_
    refine sw_cV_i (n := 4) X hA nw_okA hNs hE (fun u : st_S => wd_W cI cL cZ ad u.1 u.2 r o) [.int v7, .int v9, .int t0, .int v5] 1 (wd_1 cI cL cZ ad g q r o) rfl rfl (ct_P_partsExist l D cI cL cZ ad r o v7 v9 t0 v5 g q _ h) (List.mem_cons_of_mem _ wm_ml_P_57) (List.mem_cons_of_mem _ wm_im_P_partsExist) (List.mem_cons_of_mem _ wm_se_P_partsExist) rfl (wg_in wm_code_P_partsExist) rfl rfl (List.mem_cons_of_mem _ wm_in_P) ⟨by decide, by decide, by decide +kernel⟩ ⟨Nat.le_of_ble_eq_true rfl, Nat.le_of_ble_eq_true rfl⟩ ⟨Nat.zero_le _, Nat.zero_le _⟩ rfl (Nat.le_of_ble_eq_true rfl) dc_P_draft_116 rfl (fun x116 u116 h => ?_)
    refine sw_if_ne (tgt := 124) X dc_P_draft_119 (by decide) (fun z => ?_) (fun z => ?_)
    · have h := h.1 z
      refine sw_aload_n X 1 rfl rfl dc_P_draft_124 ?_
      refine sw_get X (fun z hz => List.mem_cons_of_mem _ (wf_P z hz)) 1 (wd_1 cI cL cZ ad u116.1 u116.2 r o) rfl 0 (by decide) (List.mem_cons_of_mem _ wm_fl_P_11) rfl dc_P_draft_125 ?_
      refine sw_aload_n X 1 rfl rfl dc_P_draft_128 ?_
      refine sw_get (v := .int (u116.1 1 8)) X (fun z hz => List.mem_cons_of_mem _ (wf_P z hz)) 1 (wd_1 cI cL cZ ad u116.1 u116.2 r o) rfl 8 (by decide) (List.mem_cons_of_mem _ wm_fl_P_42) rfl dc_P_draft_129 ?_
      refine sw_iload_n X 2 rfl rfl dc_P_draft_132 ?_
      refine sw_iast X 2 0 (wd_2 cI cL cZ ad u116.1 u116.2 r o) rfl h.1 (wd_W cI cL cZ ad (st_u u116.1 2 ((u116.1 1 8)).toNatClampNeg v1) u116.2 r o) (ws_2 cI cL cZ ad u116.1 u116.2 r o ((u116.1 1 8)).toNatClampNeg v1) dc_P_draft_133 ?_
      have h := h.2
      refine sw_aload_n X 1 rfl rfl dc_P_draft_134 ?_
      refine sw_get X (fun z hz => List.mem_cons_of_mem _ (wf_P z hz)) 1 (wd_1 cI cL cZ ad (st_u u116.1 2 ((u116.1 1 8)).toNatClampNeg v1) u116.2 r o) rfl 1 (by decide) (List.mem_cons_of_mem _ wm_fl_P_15) rfl dc_P_draft_135 ?_
      refine sw_aload_n X 1 rfl rfl dc_P_draft_138 ?_
      refine sw_get (v := .int (u116.1 1 8)) X (fun z hz => List.mem_cons_of_mem _ (wf_P z hz)) 1 (wd_1 cI cL cZ ad (st_u u116.1 2 ((u116.1 1 8)).toNatClampNeg v1) u116.2 r o) rfl 8 (by decide) (List.mem_cons_of_mem _ wm_fl_P_42) rfl dc_P_draft_139 ?_
      refine sw_iload X 4 rfl dc_P_draft_142 ?_
      refine sw_iast X 3 0 (wd_3 cI cL cZ ad (st_u u116.1 2 ((u116.1 1 8)).toNatClampNeg v1) u116.2 r o) rfl h.1 (wd_W cI cL cZ ad (st_u (st_u u116.1 2 ((u116.1 1 8)).toNatClampNeg v1) 3 ((u116.1 1 8)).toNatClampNeg v6) u116.2 r o) (ws_3 cI cL cZ ad (st_u u116.1 2 ((u116.1 1 8)).toNatClampNeg v1) u116.2 r o ((u116.1 1 8)).toNatClampNeg v6) dc_P_draft_144 ?_
      have h := h.2
      refine sw_aload_n X 1 rfl rfl dc_P_draft_145 ?_
      refine sw_get X (fun z hz => List.mem_cons_of_mem _ (wf_P z hz)) 1 (wd_1 cI cL cZ ad (st_u (st_u u116.1 2 ((u116.1 1 8)).toNatClampNeg v1) 3 ((u116.1 1 8)).toNatClampNeg v6) u116.2 r o) rfl 2 (by decide) (List.mem_cons_of_mem _ wm_fl_P_18) rfl dc_P_draft_146 ?_
      refine sw_aload_n X 1 rfl rfl dc_P_draft_149 ?_
      refine sw_get (v := .int (u116.1 1 8)) X (fun z hz => List.mem_cons_of_mem _ (wf_P z hz)) 1 (wd_1 cI cL cZ ad (st_u (st_u u116.1 2 ((u116.1 1 8)).toNatClampNeg v1) 3 ((u116.1 1 8)).toNatClampNeg v6) u116.2 r o) rfl 8 (by decide) (List.mem_cons_of_mem _ wm_fl_P_42) rfl dc_P_draft_150 ?_
      refine sw_iload X 5 rfl dc_P_draft_153 ?_
      refine sw_iconst (v := 1) X dc_P_draft_155 (by decide) ?_
      refine sw_icmp_lt (tgt := 164) X dc_P_draft_156 (by decide) (fun z => ?_) (fun z => ?_)
      · have h := h.1 z
        refine sw_iconst (v := -1) X dc_P_draft_164 (by decide) ?_
        refine sw_sub [1, 3, 5, 0] rfl ?_
        exact b165 (st_u (st_u u116.1 2 ((u116.1 1 8)).toNatClampNeg v1) 3 ((u116.1 1 8)).toNatClampNeg v6) u116.2 v5 v7 t0 ((-1) : Int32) (u116.1 1 8) h
      · have h := h.2 z
        refine sw_iload X 6 rfl dc_P_draft_159 ?_
        refine sw_goto (tgt := 165) X dc_P_draft_161 (by decide) ?_
        refine sw_sub [1, 3, 5, 0] rfl ?_
        exact b165 (st_u (st_u u116.1 2 ((u116.1 1 8)).toNatClampNeg v1) 3 ((u116.1 1 8)).toNatClampNeg v6) u116.2 v5 v7 t0 v9 (u116.1 1 8) h
    · have h := h.2 z
      refine sw_iconst (v := 0) X dc_P_draft_122 (by decide) ?_
      exact sw_zret X hr hlk (by decide) (u := (u116.1, u116.2)) rfl h dc_P_draft_123
  have b99 : ∀ (g : st_I) (q : st_L) (v1 : Int32) (v4 : Int32) (v5 : Int32) (v6 : Int32) (v7 : Int32) (v9 : Int32), wp_P_draft_L99 Q g q v1 v4 v5 v6 v7 v9 → sw_J p l e { frames := 2, cells := 0, slots := 0, locals := 45 } s m args below meth c 0 0 (MQ below (va_Qi Q (fun u t => wq_E D cl_A (wd_T cI cL cZ) A (wd_W cI cL cZ ad u.1 u.2 r o) t) A) args s 0 0 A) D cl_A A 11 (wd_W cI cL cZ ad g q r o) 99 [(0, .ref (ad 1)), (1, .int v1), (4, .int v4), (5, .int v5), (6, .int v6), (7, .int v7), (9, .int v9)] [] := by
    intro g q v1 v4 v5 v6 v7 v9 h
    refine sw_iload X 2 rfl dc_P_draft_99 ?_
    refine sw_goto (tgt := 105) X dc_P_draft_101 (by decide) ?_
    refine sw_sub [0, 1, 3, 4, 5, 6] rfl ?_
    exact b105 g q v1 v5 v6 v7 v9 v4 h
  have b86 : ∀ (g : st_I) (q : st_L) (v1 : Int32) (v3 : Int32) (v4 : Int32) (v5 : Int32) (v6 : Int32) (v7 : Int32) (v8 : Int32) (t0 : Int32), wp_P_draft_L86 Q g q v1 v3 v4 v5 v6 v7 v8 t0 → sw_J p l e { frames := 2, cells := 0, slots := 0, locals := 45 } s m args below meth c 0 0 (MQ below (va_Qi Q (fun u t => wq_E D cl_A (wd_T cI cL cZ) A (wd_W cI cL cZ ad u.1 u.2 r o) t) A) args s 0 0 A) D cl_A A 11 (wd_W cI cL cZ ad g q r o) 86 [(0, .ref (ad 1)), (1, .int v1), (3, .int v3), (4, .int v4), (5, .int v5), (6, .int v6), (7, .int v7), (8, .int v8)] [.int t0] := by
    intro g q v1 v3 v4 v5 v6 v7 v8 t0 h
    refine sw_istore X [(9, .int t0), (0, .ref (ad 1)), (1, .int v1), (3, .int v3), (4, .int v4), (5, .int v5), (6, .int v6), (7, .int v7), (8, .int v8)] rfl (by decide) dc_P_draft_86 ?_
    refine sw_iload X 8 rfl dc_P_draft_88 ?_
    refine sw_if_ne (tgt := 99) X dc_P_draft_90 (by decide) (fun z => ?_) (fun z => ?_)
    · have h := h.1 z
      refine sw_sub [1, 2, 4, 5, 6, 7, 0] rfl ?_
      exact b99 g q v1 v4 v5 v6 v7 t0 h
    · have h := h.2 z
      refine sw_iload_n X 2 rfl rfl dc_P_draft_93 ?_
      refine sw_bipush (v := 9) X dc_P_draft_94 (by decide) ?_
      refine sw_icmp_ne (tgt := 104) X dc_P_draft_96 (by decide) (fun z => ?_) (fun z => ?_)
      · have h := h.1 z
        refine sw_iload_n X 3 rfl rfl dc_P_draft_104 ?_
        refine sw_sub [1, 2, 5, 6, 7, 0] rfl ?_
        exact b105 g q v1 v5 v6 v7 t0 v3 h
      · have h := h.2 z
        refine sw_sub [1, 2, 4, 5, 6, 7, 0] rfl ?_
        exact b99 g q v1 v4 v5 v6 v7 t0 h
  have b74 : ∀ (g : st_I) (q : st_L) (v1 : Int32) (v2 : Int32) (v3 : Int32) (v4 : Int32) (v5 : Int32) (v6 : Int32) (v7 : Int32) (t0 : Int32), wp_P_draft_L74 Q g q v1 v2 v3 v4 v5 v6 v7 t0 → sw_J p l e { frames := 2, cells := 0, slots := 0, locals := 45 } s m args below meth c 0 0 (MQ below (va_Qi Q (fun u t => wq_E D cl_A (wd_T cI cL cZ) A (wd_W cI cL cZ ad u.1 u.2 r o) t) A) args s 0 0 A) D cl_A A 11 (wd_W cI cL cZ ad g q r o) 74 [(0, .ref (ad 1)), (1, .int v1), (2, .int v2), (3, .int v3), (4, .int v4), (5, .int v5), (6, .int v6), (7, .int v7)] [.int t0] := by
    intro g q v1 v2 v3 v4 v5 v6 v7 t0 h
    refine sw_istore X [(8, .int t0), (0, .ref (ad 1)), (1, .int v1), (2, .int v2), (3, .int v3), (4, .int v4), (5, .int v5), (6, .int v6), (7, .int v7)] rfl (by decide) dc_P_draft_74 ?_
    refine sw_iload X 0 rfl dc_P_draft_76 ?_
    refine sw_if_eq (tgt := 85) X dc_P_draft_78 (by decide) (fun z => ?_) (fun z => ?_)
    · have h := h.1 z
      refine sw_iload_n X 3 rfl rfl dc_P_draft_85 ?_
      refine sw_sub [1, 2, 4, 5, 6, 7, 8, 0] rfl ?_
      exact b86 g q v1 v3 v4 v5 v6 v7 t0 v2 h
    · have h := h.2 z
      refine sw_iload_n X 4 rfl rfl dc_P_draft_81 ?_
      refine sw_goto (tgt := 86) X dc_P_draft_82 (by decide) ?_
      refine sw_sub [1, 2, 4, 5, 6, 7, 8, 0] rfl ?_
      exact b86 g q v1 v3 v4 v5 v6 v7 t0 v3 h
  have b69 : ∀ (g : st_I) (q : st_L) (v1 : Int32) (v2 : Int32) (v3 : Int32) (v4 : Int32) (v5 : Int32) (v6 : Int32) (v7 : Int32), wp_P_draft_L69 Q g q v1 v2 v3 v4 v5 v6 v7 → sw_J p l e { frames := 2, cells := 0, slots := 0, locals := 45 } s m args below meth c 0 0 (MQ below (va_Qi Q (fun u t => wq_E D cl_A (wd_T cI cL cZ) A (wd_W cI cL cZ ad u.1 u.2 r o) t) A) args s 0 0 A) D cl_A A 11 (wd_W cI cL cZ ad g q r o) 69 [(0, .ref (ad 1)), (1, .int v1), (2, .int v2), (3, .int v3), (4, .int v4), (5, .int v5), (6, .int v6), (7, .int v7)] [] := by
    intro g q v1 v2 v3 v4 v5 v6 v7 h
    refine sw_iconst (v := 1) X dc_P_draft_69 (by decide) ?_
    refine sw_goto (tgt := 74) X dc_P_draft_70 (by decide) ?_
    exact b74 g q v1 v2 v3 v4 v5 v6 v7 (1 : Int32) h
  have b55 : ∀ (g : st_I) (q : st_L) (v1 : Int32) (v2 : Int32) (v3 : Int32) (v4 : Int32) (v5 : Int32) (v6 : Int32) (t0 : Int32), wp_P_draft_L55 Q g q v1 v2 v3 v4 v5 v6 t0 → sw_J p l e { frames := 2, cells := 0, slots := 0, locals := 45 } s m args below meth c 0 0 (MQ below (va_Qi Q (fun u t => wq_E D cl_A (wd_T cI cL cZ) A (wd_W cI cL cZ ad u.1 u.2 r o) t) A) args s 0 0 A) D cl_A A 11 (wd_W cI cL cZ ad g q r o) 55 [(0, .ref (ad 1)), (1, .int v1), (2, .int v2), (3, .int v3), (4, .int v4), (5, .int v5), (6, .int v6)] [.int t0] := by
    intro g q v1 v2 v3 v4 v5 v6 t0 h
    refine sw_istore X [(7, .int t0), (0, .ref (ad 1)), (1, .int v1), (2, .int v2), (3, .int v3), (4, .int v4), (5, .int v5), (6, .int v6)] rfl (by decide) dc_P_draft_55 ?_
    refine sw_iload_n X 2 rfl rfl dc_P_draft_57 ?_
    refine sw_bipush (v := 10) X dc_P_draft_58 (by decide) ?_
    refine sw_icmp_eq (tgt := 69) X dc_P_draft_60 (by decide) (fun z => ?_) (fun z => ?_)
    · have h := h.1 z
      refine sw_sub [1, 2, 3, 4, 5, 6, 7, 0] rfl ?_
      exact b69 g q v1 v2 v3 v4 v5 v6 t0 h
    · have h := h.2 z
      refine sw_iload_n X 2 rfl rfl dc_P_draft_63 ?_
      refine sw_bipush (v := 11) X dc_P_draft_64 (by decide) ?_
      refine sw_icmp_ne (tgt := 73) X dc_P_draft_66 (by decide) (fun z => ?_) (fun z => ?_)
      · have h := h.1 z
        refine sw_iconst (v := 0) X dc_P_draft_73 (by decide) ?_
        refine sw_sub [1, 2, 3, 4, 5, 6, 7, 0] rfl ?_
        exact b74 g q v1 v2 v3 v4 v5 v6 t0 (0 : Int32) h
      · have h := h.2 z
        refine sw_sub [1, 2, 3, 4, 5, 6, 7, 0] rfl ?_
        exact b69 g q v1 v2 v3 v4 v5 v6 t0 h
  have b23 : ∀ (g : st_I) (q : st_L) (v1 : Int32) (v2 : Int32) (v3 : Int32) (v4 : Int32) (v5 : Int32) (t0 : Int32), wp_P_draft_L23 Q g q v1 v2 v3 v4 v5 t0 → sw_J p l e { frames := 2, cells := 0, slots := 0, locals := 45 } s m args below meth c 0 0 (MQ below (va_Qi Q (fun u t => wq_E D cl_A (wd_T cI cL cZ) A (wd_W cI cL cZ ad u.1 u.2 r o) t) A) args s 0 0 A) D cl_A A 11 (wd_W cI cL cZ ad g q r o) 23 [(0, .ref (ad 1)), (1, .int v1), (2, .int v2), (3, .int v3), (4, .int v4), (5, .int v5)] [.int t0] := by
    intro g q v1 v2 v3 v4 v5 t0 h
    refine sw_istore X [(6, .int t0), (0, .ref (ad 1)), (1, .int v1), (2, .int v2), (3, .int v3), (4, .int v4), (5, .int v5)] rfl (by decide) dc_P_draft_23 ?_
    refine sw_iload_n X 2 rfl rfl dc_P_draft_25 ?_
    refine sw_iload X 0 rfl dc_P_draft_26 ?_
    refine sw_cS_i (n := 2) X hA nw_okA hNs hE (fun u : st_S => wd_W cI cL cZ ad u.1 u.2 r o) [.int v1, .int t0] (ct_P_detailFits l D cI cL cZ ad r o v1 t0 g q _ h) (List.mem_cons_of_mem _ wm_ml_P_46) (List.mem_cons_of_mem _ wm_st_P_detailFits) rfl (wg_in wm_code_P_detailFits) rfl rfl (List.mem_cons_of_mem _ wm_in_P) ⟨by decide, by decide, by decide +kernel⟩ ⟨Nat.le_of_ble_eq_true rfl, Nat.le_of_ble_eq_true rfl⟩ ⟨Nat.zero_le _, Nat.zero_le _⟩ rfl (Nat.le_of_ble_eq_true rfl) dc_P_draft_28 rfl (fun x28 u28 h => ?_)
    refine sw_if_ne (tgt := 36) X dc_P_draft_31 (by decide) (fun z => ?_) (fun z => ?_)
    · have h := h.1 z
      refine sw_iload_n X 2 rfl rfl dc_P_draft_36 ?_
      refine sw_bipush (v := 10) X dc_P_draft_37 (by decide) ?_
      refine sw_icmp_ne (tgt := 50) X dc_P_draft_39 (by decide) (fun z => ?_) (fun z => ?_)
      · have h := h.1 z
        refine sw_gets X hZ (List.mem_cons_of_mem _ wm_fl_P_54) dc_P_draft_50 ?_
        refine sw_iload_n X 2 rfl rfl dc_P_draft_53 ?_
        refine sw_ti X hT h.1 rfl dc_P_draft_54 ?_
        have h := h.2
        refine sw_sub [1, 2, 3, 4, 5, 6, 0] rfl ?_
        exact b55 u28.1 u28.2 v1 v2 v3 v4 v5 t0 (pt_P (v1).toNatClampNeg) h
      · have h := h.2 z
        refine sw_iload X 0 rfl dc_P_draft_42 ?_
        refine sw_cSN_i (n := 1) X hA nw_okA hNs hE (fun u : st_S => wd_W cI cL cZ ad u.1 u.2 r o) [.int t0] (ct_S_parametersOf l D cI cL cZ ad r o t0 u28.1 u28.2 _ h) nw_P_50 (List.mem_cons_of_mem _ wm_st_S_parametersOf) rfl (wg_in wm_code_S_parametersOf) rfl rfl (List.mem_cons_of_mem _ wm_in_S) ⟨by decide, by decide, by decide +kernel⟩ ⟨Nat.le_of_ble_eq_true rfl, Nat.le_of_ble_eq_true rfl⟩ ⟨Nat.zero_le _, Nat.zero_le _⟩ rfl (Nat.le_of_ble_eq_true rfl) dc_P_draft_44 rfl (fun x44 u44 h => ?_)
        refine sw_goto (tgt := 55) X dc_P_draft_47 (by decide) ?_
        refine sw_sub [1, 2, 3, 4, 5, 6, 0] rfl ?_
        exact b55 u44.1 u44.2 v1 v2 v3 v4 v5 t0 x44 h
    · have h := h.2 z
      refine sw_iconst (v := 0) X dc_P_draft_34 (by decide) ?_
      exact sw_zret X hr hlk (by decide) (u := (u28.1, u28.2)) rfl h dc_P_draft_35
  refine sw_iload_n X 1 rfl rfl dc_P_draft_0 ?_
  refine sw_if_lt (tgt := 10) X dc_P_draft_1 (by decide) (fun z => ?_) (fun z => ?_)
  · have h := h.1 z
    refine sw_sub [] rfl ?_
    exact b10 g q h
  · have h := h.2 z
    refine sw_iload_n X 1 rfl rfl dc_P_draft_4 ?_
    refine sw_bipush (v := 15) X dc_P_draft_5 (by decide) ?_
    refine sw_icmp_lt (tgt := 12) X dc_P_draft_7 (by decide) (fun z => ?_) (fun z => ?_)
    · have h := h.1 z
      refine sw_iload_n X 1 rfl rfl dc_P_draft_12 ?_
      refine sw_bipush (v := 9) X dc_P_draft_13 (by decide) ?_
      refine sw_icmp_ne (tgt := 22) X dc_P_draft_15 (by decide) (fun z => ?_) (fun z => ?_)
      · have h := h.1 z
        refine sw_iload_n X 2 rfl rfl dc_P_draft_22 ?_
        exact b23 g q a1 a2 a3 a4 a5 a2 h
      · have h := h.2 z
        refine sw_iload_n X 3 rfl rfl dc_P_draft_18 ?_
        refine sw_goto (tgt := 23) X dc_P_draft_19 (by decide) ?_
        exact b23 g q a1 a2 a3 a4 a5 a3 h
    · have h := h.2 z
      refine sw_sub [] rfl ?_
      exact b10 g q h
