def wp_H_kindOf (a1 : Int64) (g : st_I) (q : st_L) (Q : (Int32 → st_S → Prop)) : Prop := Q ((a1 >>> (((32 : Int32)).toInt64 &&& 63))).toInt32 (g, q)
set_option maxHeartbeats 4000000 in
set_option maxRecDepth 100000 in
theorem ct_H_kindOf (l : Launch) (D : va_G) (cI cL cZ : ClassId) (ad : Nat → Nat) (r : st_I) (o : st_L) (a1 : Int64) (g : st_I) (q : st_L) (Q : (Int32 → st_S → Prop)) (h : wp_H_kindOf a1 g q Q) : ∀ sz, Met l yn_H_kindOf (Cond.code yn_H_kindOf cd_H_kindOf 2 (some .int) :: wa_A) { frames := 0, cells := 0, slots := 0, locals := 0 } (va_Pc [.long a1] (wq_S D cl_A (wd_T cI cL cZ) nw_A (wd_W cI cL cZ ad g q r o) sz)) (va_Qi Q (fun u t => wq_E D cl_A (wd_T cI cL cZ) (va_A (wd_W cI cL cZ ad g q r o) sz) (wd_W cI cL cZ ad u.1 u.2 r o) t) (va_A (wd_W cI cL cZ ad g q r o) sz)) 0 0 (va_A (wd_W cI cL cZ ad g q r o) sz) := by
  refine sw_met (Qc := fun A => va_Qi Q (fun u t => wq_E D cl_A (wd_T cI cL cZ) A (wd_W cI cL cZ ad u.1 u.2 r o) t) A) (by decide) rfl (Nat.le_of_ble_eq_true rfl) rfl ?_
  intro p e s m args below meth c A X hA hNs hE hr hlk hnm
  refine sw_lload_n X 0 rfl rfl dc_H_kindOf_0 ?_
  refine sw_bipush (v := 32) X dc_H_kindOf_1 (by decide) ?_
  refine sw_lshr X dc_H_kindOf_3 rfl ?_
  refine sw_l2i X dc_H_kindOf_4 rfl ?_
  exact sw_iret X hr hlk (u := (g, q)) rfl h dc_H_kindOf_5
def wp_H_fail_L28 (Q : (Int64 → st_S → Prop)) (g : st_I) (q : st_L) (t0 : Int64) : Prop := Q t0 (g, q)
def wp_H_fail  (g : st_I) (q : st_L) (Q : (Int64 → st_S → Prop)) : Prop := (((g 14 11) + (1 : Int32)) ≤ (6 : Int32) → wp_H_fail_L28 Q (st_u g 14 11 ((g 14 11) + (1 : Int32))) q (-1 : Int64)) ∧ (¬ ((g 14 11) + (1 : Int32)) ≤ (6 : Int32) → wp_H_fail_L28 Q (st_u g 14 11 ((g 14 11) + (1 : Int32))) q (-2 : Int64))
set_option maxHeartbeats 4000000 in
set_option maxRecDepth 100000 in
theorem ct_H_fail (l : Launch) (D : va_G) (cI cL cZ : ClassId) (ad : Nat → Nat) (r : st_I) (o : st_L)  (g : st_I) (q : st_L) (Q : (Int64 → st_S → Prop)) (h : wp_H_fail  g q Q) : ∀ sz, Met l yn_H_fail (Cond.code yn_H_fail cd_H_fail 1 (some .long) :: wa_A) { frames := 0, cells := 0, slots := 0, locals := 0 } (va_Pc [.ref (ad 14)] (wq_S D cl_A (wd_T cI cL cZ) nw_A (wd_W cI cL cZ ad g q r o) sz)) (va_Ql Q (fun u t => wq_E D cl_A (wd_T cI cL cZ) (va_A (wd_W cI cL cZ ad g q r o) sz) (wd_W cI cL cZ ad u.1 u.2 r o) t) (va_A (wd_W cI cL cZ ad g q r o) sz)) 0 0 (va_A (wd_W cI cL cZ ad g q r o) sz) := by
  refine sw_met (Qc := fun A => va_Ql Q (fun u t => wq_E D cl_A (wd_T cI cL cZ) A (wd_W cI cL cZ ad u.1 u.2 r o) t) A) (by decide) rfl (Nat.le_of_ble_eq_true rfl) rfl ?_
  intro p e s m args below meth c A X hA hNs hE hr hlk hnm
  have b28 : ∀ (g : st_I) (q : st_L) (t0 : Int64), wp_H_fail_L28 Q g q t0 → sw_J p l e { frames := 0, cells := 0, slots := 0, locals := 0 } s m args below meth c 0 0 (MQ below (va_Ql Q (fun u t => wq_E D cl_A (wd_T cI cL cZ) A (wd_W cI cL cZ ad u.1 u.2 r o) t) A) args s 0 0 A) D cl_A A 1 (wd_W cI cL cZ ad g q r o) 28 [] [.long t0] := by
    intro g q t0 h
    exact sw_lret X hr hlk (u := (g, q)) rfl h dc_H_fail_28
  refine sw_aload_n X 0 rfl rfl dc_H_fail_0 ?_
  refine sw_dup X dc_H_fail_1 rfl ?_
  refine sw_get (v := .int (g 14 11)) X (fun z hz => List.mem_cons_of_mem _ (wf_H z hz)) 14 (wd_14 cI cL cZ ad g q r o) rfl 11 (by decide) (List.mem_cons_of_mem _ wm_fl_H_45) rfl dc_H_fail_2 ?_
  refine sw_iconst (v := 1) X dc_H_fail_5 (by decide) ?_
  refine sw_iadd X dc_H_fail_6 ?_
  refine sw_put (ty := .int) X (fun z hz => List.mem_cons_of_mem _ (wf_H z hz)) fy_H fo_H fn_H 14 (wd_14 cI cL cZ ad g q r o) rfl 11 (by decide) (List.mem_cons_of_mem _ wm_fl_H_45) rfl (by decide +kernel) rfl rfl (Nat.le_of_ble_eq_true rfl) (wd_W cI cL cZ ad (st_u g 14 11 ((g 14 11) + (1 : Int32))) q r o) (ws_14_11 cI cL cZ ad g q r o ((g 14 11) + (1 : Int32))) dc_H_fail_7 ?_
  refine sw_aload_n X 0 rfl rfl dc_H_fail_10 ?_
  refine sw_get (v := .int ((g 14 11) + (1 : Int32))) X (fun z hz => List.mem_cons_of_mem _ (wf_H z hz)) 14 (wd_14 cI cL cZ ad (st_u g 14 11 ((g 14 11) + (1 : Int32))) q r o) rfl 11 (by decide) (List.mem_cons_of_mem _ wm_fl_H_45) rfl dc_H_fail_11 ?_
  refine sw_bipush (v := 6) X dc_H_fail_14 (by decide) ?_
  refine sw_icmp_le (tgt := 25) X dc_H_fail_16 (by decide) (fun z => ?_) (fun z => ?_)
  · have h := h.1 z
    refine sw_ldc2 X (List.mem_cons_of_mem _ wm_kl_H_121) dc_H_fail_25 ?_
    refine sw_sub [] rfl ?_
    exact b28 (st_u g 14 11 ((g 14 11) + (1 : Int32))) q (-1 : Int64) h
  · have h := h.2 z
    refine sw_ldc2 X (List.mem_cons_of_mem _ wm_kl_H_75) dc_H_fail_19 ?_
    refine sw_goto (tgt := 28) X dc_H_fail_22 (by decide) ?_
    refine sw_sub [] rfl ?_
    exact b28 (st_u g 14 11 ((g 14 11) + (1 : Int32))) q (-2 : Int64) h
def wp_H_value (a1 : Int32) (a2 : Int32) (g : st_I) (q : st_L) (Q : (Int64 → st_S → Prop)) : Prop := Q (((a1).toInt64 <<< (((32 : Int32)).toInt64 &&& 63)) ||| ((a2).toInt64 &&& (4294967295 : Int64))) (g, q)
set_option maxHeartbeats 4000000 in
set_option maxRecDepth 100000 in
theorem ct_H_value (l : Launch) (D : va_G) (cI cL cZ : ClassId) (ad : Nat → Nat) (r : st_I) (o : st_L) (a1 : Int32) (a2 : Int32) (g : st_I) (q : st_L) (Q : (Int64 → st_S → Prop)) (h : wp_H_value a1 a2 g q Q) : ∀ sz, Met l yn_H_value (Cond.code yn_H_value cd_H_value 2 (some .long) :: wa_A) { frames := 0, cells := 0, slots := 0, locals := 0 } (va_Pc [.int a1, .int a2] (wq_S D cl_A (wd_T cI cL cZ) nw_A (wd_W cI cL cZ ad g q r o) sz)) (va_Ql Q (fun u t => wq_E D cl_A (wd_T cI cL cZ) (va_A (wd_W cI cL cZ ad g q r o) sz) (wd_W cI cL cZ ad u.1 u.2 r o) t) (va_A (wd_W cI cL cZ ad g q r o) sz)) 0 0 (va_A (wd_W cI cL cZ ad g q r o) sz) := by
  refine sw_met (Qc := fun A => va_Ql Q (fun u t => wq_E D cl_A (wd_T cI cL cZ) A (wd_W cI cL cZ ad u.1 u.2 r o) t) A) (by decide) rfl (Nat.le_of_ble_eq_true rfl) rfl ?_
  intro p e s m args below meth c A X hA hNs hE hr hlk hnm
  refine sw_iload_n X 0 rfl rfl dc_H_value_0 ?_
  refine sw_i2l X dc_H_value_1 rfl ?_
  refine sw_bipush (v := 32) X dc_H_value_2 (by decide) ?_
  refine sw_lshl X dc_H_value_4 rfl ?_
  refine sw_iload_n X 1 rfl rfl dc_H_value_5 ?_
  refine sw_i2l X dc_H_value_6 rfl ?_
  refine sw_ldc2 X (List.mem_cons_of_mem _ wm_kl_H_153) dc_H_value_7 ?_
  refine sw_land X dc_H_value_10 ?_
  refine sw_lor X dc_H_value_11 ?_
  exact sw_lret X hr hlk (u := (g, q)) rfl h dc_H_value_12
def wp_H_number (a1 : Int32) (g : st_I) (q : st_L) (Q : (Int64 → st_S → Prop)) : Prop := wp_H_kindOfNumber a1 g q (fun x1 u1 => wp_H_value x1 a1 u1.1 u1.2 (fun x5 u5 => Q x5 (u5.1, u5.2)))
set_option maxHeartbeats 4000000 in
set_option maxRecDepth 100000 in
theorem ct_H_number (l : Launch) (D : va_G) (cI cL cZ : ClassId) (ad : Nat → Nat) (r : st_I) (o : st_L) (a1 : Int32) (g : st_I) (q : st_L) (Q : (Int64 → st_S → Prop)) (h : wp_H_number a1 g q Q) : ∀ sz, Met l yn_H_number (Cond.code yn_H_number cd_H_number 1 (some .long) :: wa_A) { frames := 1, cells := 0, slots := 0, locals := 21 } (va_Pc [.int a1] (wq_S D cl_A (wd_T cI cL cZ) nw_A (wd_W cI cL cZ ad g q r o) sz)) (va_Ql Q (fun u t => wq_E D cl_A (wd_T cI cL cZ) (va_A (wd_W cI cL cZ ad g q r o) sz) (wd_W cI cL cZ ad u.1 u.2 r o) t) (va_A (wd_W cI cL cZ ad g q r o) sz)) 0 0 (va_A (wd_W cI cL cZ ad g q r o) sz) := by
  refine sw_met (Qc := fun A => va_Ql Q (fun u t => wq_E D cl_A (wd_T cI cL cZ) A (wd_W cI cL cZ ad u.1 u.2 r o) t) A) (by decide) rfl (Nat.le_of_ble_eq_true rfl) rfl ?_
  intro p e s m args below meth c A X hA hNs hE hr hlk hnm
  refine sw_iload_n X 0 rfl rfl dc_H_number_0 ?_
  refine sw_cS_i (n := 1) X hA nw_okA hNs hE (fun u : st_S => wd_W cI cL cZ ad u.1 u.2 r o) [.int a1] (ct_H_kindOfNumber l D cI cL cZ ad r o a1 g q _ h) (List.mem_cons_of_mem _ wm_ml_H_150) (List.mem_cons_of_mem _ wm_st_H_kindOfNumber) rfl (wg_in wm_code_H_kindOfNumber) rfl rfl (List.mem_cons_of_mem _ wm_in_H) ⟨by decide, by decide, by decide +kernel⟩ ⟨Nat.le_of_ble_eq_true rfl, Nat.le_of_ble_eq_true rfl⟩ ⟨Nat.zero_le _, Nat.zero_le _⟩ rfl (Nat.le_of_ble_eq_true rfl) dc_H_number_1 rfl (fun x1 u1 h => ?_)
  refine sw_iload_n X 0 rfl rfl dc_H_number_4 ?_
  refine sw_cS_l (n := 2) X hA nw_okA hNs hE (fun u : st_S => wd_W cI cL cZ ad u.1 u.2 r o) [.int x1, .int a1] (ct_H_value l D cI cL cZ ad r o x1 a1 u1.1 u1.2 _ h) (List.mem_cons_of_mem _ wm_ml_H_89) (List.mem_cons_of_mem _ wm_st_H_value) rfl (wg_in wm_code_H_value) rfl rfl (List.mem_cons_of_mem _ wm_in_H) ⟨by decide, by decide, by decide +kernel⟩ ⟨Nat.le_of_ble_eq_true rfl, Nat.le_of_ble_eq_true rfl⟩ ⟨Nat.zero_le _, Nat.zero_le _⟩ rfl (Nat.le_of_ble_eq_true rfl) dc_H_number_5 rfl (fun x5 u5 h => ?_)
  exact sw_lret X hr hlk (u := (u5.1, u5.2)) rfl h dc_H_number_8
def wp_H_detailOf (a1 : Int64) (g : st_I) (q : st_L) (Q : (Int32 → st_S → Prop)) : Prop := Q (a1).toInt32 (g, q)
set_option maxHeartbeats 4000000 in
set_option maxRecDepth 100000 in
theorem ct_H_detailOf (l : Launch) (D : va_G) (cI cL cZ : ClassId) (ad : Nat → Nat) (r : st_I) (o : st_L) (a1 : Int64) (g : st_I) (q : st_L) (Q : (Int32 → st_S → Prop)) (h : wp_H_detailOf a1 g q Q) : ∀ sz, Met l yn_H_detailOf (Cond.code yn_H_detailOf cd_H_detailOf 2 (some .int) :: wa_A) { frames := 0, cells := 0, slots := 0, locals := 0 } (va_Pc [.long a1] (wq_S D cl_A (wd_T cI cL cZ) nw_A (wd_W cI cL cZ ad g q r o) sz)) (va_Qi Q (fun u t => wq_E D cl_A (wd_T cI cL cZ) (va_A (wd_W cI cL cZ ad g q r o) sz) (wd_W cI cL cZ ad u.1 u.2 r o) t) (va_A (wd_W cI cL cZ ad g q r o) sz)) 0 0 (va_A (wd_W cI cL cZ ad g q r o) sz) := by
  refine sw_met (Qc := fun A => va_Qi Q (fun u t => wq_E D cl_A (wd_T cI cL cZ) A (wd_W cI cL cZ ad u.1 u.2 r o) t) A) (by decide) rfl (Nat.le_of_ble_eq_true rfl) rfl ?_
  intro p e s m args below meth c A X hA hNs hE hr hlk hnm
  refine sw_lload_n X 0 rfl rfl dc_H_detailOf_0 ?_
  refine sw_l2i X dc_H_detailOf_1 rfl ?_
  exact sw_iret X hr hlk (u := (g, q)) rfl h dc_H_detailOf_2
def wp_H_isNumber_L22 (Q : (Int32 → st_S → Prop)) (g : st_I) (q : st_L) (t0 : Int32) : Prop := narrow .boolean (.int t0) = .int t0 ∧ Q t0 (g, q)
def wp_H_isNumber_L21 (Q : (Int32 → st_S → Prop)) (g : st_I) (q : st_L)  : Prop := wp_H_isNumber_L22 Q g q (0 : Int32)
def wp_H_isNumber (a1 : Int64) (g : st_I) (q : st_L) (Q : (Int32 → st_S → Prop)) : Prop := wp_H_kindOf a1 g q (fun x1 u1 => (x1 < (4 : Int32) → wp_H_isNumber_L21 Q u1.1 u1.2) ∧ (¬ x1 < (4 : Int32) → wp_H_kindOf a1 u1.1 u1.2 (fun x9 u9 => ((6 : Int32) < x9 → wp_H_isNumber_L21 Q u9.1 u9.2) ∧ (¬ (6 : Int32) < x9 → wp_H_isNumber_L22 Q u9.1 u9.2 (1 : Int32)))))
set_option maxHeartbeats 4000000 in
set_option maxRecDepth 100000 in
theorem ct_H_isNumber (l : Launch) (D : va_G) (cI cL cZ : ClassId) (ad : Nat → Nat) (r : st_I) (o : st_L) (a1 : Int64) (g : st_I) (q : st_L) (Q : (Int32 → st_S → Prop)) (h : wp_H_isNumber a1 g q Q) : ∀ sz, Met l yn_H_isNumber (Cond.code yn_H_isNumber cd_H_isNumber 2 (some .boolean) :: wa_A) { frames := 1, cells := 0, slots := 0, locals := 21 } (va_Pc [.long a1] (wq_S D cl_A (wd_T cI cL cZ) nw_A (wd_W cI cL cZ ad g q r o) sz)) (va_Qi Q (fun u t => wq_E D cl_A (wd_T cI cL cZ) (va_A (wd_W cI cL cZ ad g q r o) sz) (wd_W cI cL cZ ad u.1 u.2 r o) t) (va_A (wd_W cI cL cZ ad g q r o) sz)) 0 0 (va_A (wd_W cI cL cZ ad g q r o) sz) := by
  refine sw_met (Qc := fun A => va_Qi Q (fun u t => wq_E D cl_A (wd_T cI cL cZ) A (wd_W cI cL cZ ad u.1 u.2 r o) t) A) (by decide) rfl (Nat.le_of_ble_eq_true rfl) rfl ?_
  intro p e s m args below meth c A X hA hNs hE hr hlk hnm
  have b22 : ∀ (g : st_I) (q : st_L) (t0 : Int32), wp_H_isNumber_L22 Q g q t0 → sw_J p l e { frames := 1, cells := 0, slots := 0, locals := 21 } s m args below meth c 0 0 (MQ below (va_Qi Q (fun u t => wq_E D cl_A (wd_T cI cL cZ) A (wd_W cI cL cZ ad u.1 u.2 r o) t) A) args s 0 0 A) D cl_A A 2 (wd_W cI cL cZ ad g q r o) 22 [] [.int t0] := by
    intro g q t0 h
    exact sw_zret X hr hlk h.1 (u := (g, q)) rfl h.2 dc_H_isNumber_22
  have b21 : ∀ (g : st_I) (q : st_L), wp_H_isNumber_L21 Q g q → sw_J p l e { frames := 1, cells := 0, slots := 0, locals := 21 } s m args below meth c 0 0 (MQ below (va_Qi Q (fun u t => wq_E D cl_A (wd_T cI cL cZ) A (wd_W cI cL cZ ad u.1 u.2 r o) t) A) args s 0 0 A) D cl_A A 2 (wd_W cI cL cZ ad g q r o) 21 [] [] := by
    intro g q h
    refine sw_iconst (v := 0) X dc_H_isNumber_21 (by decide) ?_
    exact b22 g q (0 : Int32) h
  refine sw_lload_n X 0 rfl rfl dc_H_isNumber_0 ?_
  refine sw_cS_i (n := 1) X hA nw_okA hNs hE (fun u : st_S => wd_W cI cL cZ ad u.1 u.2 r o) [.long a1] (ct_H_kindOf l D cI cL cZ ad r o a1 g q _ h) (List.mem_cons_of_mem _ wm_ml_H_66) (List.mem_cons_of_mem _ wm_st_H_kindOf) rfl (wg_in wm_code_H_kindOf) rfl rfl (List.mem_cons_of_mem _ wm_in_H) ⟨by decide, by decide, by decide +kernel⟩ ⟨Nat.le_of_ble_eq_true rfl, Nat.le_of_ble_eq_true rfl⟩ ⟨Nat.zero_le _, Nat.zero_le _⟩ rfl (Nat.le_of_ble_eq_true rfl) dc_H_isNumber_1 rfl (fun x1 u1 h => ?_)
  refine sw_iconst (v := 4) X dc_H_isNumber_4 (by decide) ?_
  refine sw_icmp_lt (tgt := 21) X dc_H_isNumber_5 (by decide) (fun z => ?_) (fun z => ?_)
  · have h := h.1 z
    refine sw_sub [] rfl ?_
    exact b21 u1.1 u1.2 h
  · have h := h.2 z
    refine sw_lload_n X 0 rfl rfl dc_H_isNumber_8 ?_
    refine sw_cS_i (n := 1) X hA nw_okA hNs hE (fun u : st_S => wd_W cI cL cZ ad u.1 u.2 r o) [.long a1] (ct_H_kindOf l D cI cL cZ ad r o a1 u1.1 u1.2 _ h) (List.mem_cons_of_mem _ wm_ml_H_66) (List.mem_cons_of_mem _ wm_st_H_kindOf) rfl (wg_in wm_code_H_kindOf) rfl rfl (List.mem_cons_of_mem _ wm_in_H) ⟨by decide, by decide, by decide +kernel⟩ ⟨Nat.le_of_ble_eq_true rfl, Nat.le_of_ble_eq_true rfl⟩ ⟨Nat.zero_le _, Nat.zero_le _⟩ rfl (Nat.le_of_ble_eq_true rfl) dc_H_isNumber_9 rfl (fun x9 u9 h => ?_)
    refine sw_bipush (v := 6) X dc_H_isNumber_12 (by decide) ?_
    refine sw_icmp_gt (tgt := 21) X dc_H_isNumber_14 (by decide) (fun z => ?_) (fun z => ?_)
    · have h := h.1 z
      refine sw_sub [] rfl ?_
      exact b21 u9.1 u9.2 h
    · have h := h.2 z
      refine sw_iconst (v := 1) X dc_H_isNumber_17 (by decide) ?_
      refine sw_goto (tgt := 22) X dc_H_isNumber_18 (by decide) ?_
      refine sw_sub [] rfl ?_
      exact b22 u9.1 u9.2 (1 : Int32) h
def wp_H_isPair_L14 (Q : (Int32 → st_S → Prop)) (g : st_I) (q : st_L) (t0 : Int32) : Prop := narrow .boolean (.int t0) = .int t0 ∧ Q t0 (g, q)
def wp_H_isPair (a1 : Int64) (g : st_I) (q : st_L) (Q : (Int32 → st_S → Prop)) : Prop := wp_H_kindOf a1 g q (fun x1 u1 => (¬ x1 = (8 : Int32) → wp_H_isPair_L14 Q u1.1 u1.2 (0 : Int32)) ∧ (x1 = (8 : Int32) → wp_H_isPair_L14 Q u1.1 u1.2 (1 : Int32)))
set_option maxHeartbeats 4000000 in
set_option maxRecDepth 100000 in
theorem ct_H_isPair (l : Launch) (D : va_G) (cI cL cZ : ClassId) (ad : Nat → Nat) (r : st_I) (o : st_L) (a1 : Int64) (g : st_I) (q : st_L) (Q : (Int32 → st_S → Prop)) (h : wp_H_isPair a1 g q Q) : ∀ sz, Met l yn_H_isPair (Cond.code yn_H_isPair cd_H_isPair 2 (some .boolean) :: wa_A) { frames := 1, cells := 0, slots := 0, locals := 21 } (va_Pc [.long a1] (wq_S D cl_A (wd_T cI cL cZ) nw_A (wd_W cI cL cZ ad g q r o) sz)) (va_Qi Q (fun u t => wq_E D cl_A (wd_T cI cL cZ) (va_A (wd_W cI cL cZ ad g q r o) sz) (wd_W cI cL cZ ad u.1 u.2 r o) t) (va_A (wd_W cI cL cZ ad g q r o) sz)) 0 0 (va_A (wd_W cI cL cZ ad g q r o) sz) := by
  refine sw_met (Qc := fun A => va_Qi Q (fun u t => wq_E D cl_A (wd_T cI cL cZ) A (wd_W cI cL cZ ad u.1 u.2 r o) t) A) (by decide) rfl (Nat.le_of_ble_eq_true rfl) rfl ?_
  intro p e s m args below meth c A X hA hNs hE hr hlk hnm
  have b14 : ∀ (g : st_I) (q : st_L) (t0 : Int32), wp_H_isPair_L14 Q g q t0 → sw_J p l e { frames := 1, cells := 0, slots := 0, locals := 21 } s m args below meth c 0 0 (MQ below (va_Qi Q (fun u t => wq_E D cl_A (wd_T cI cL cZ) A (wd_W cI cL cZ ad u.1 u.2 r o) t) A) args s 0 0 A) D cl_A A 2 (wd_W cI cL cZ ad g q r o) 14 [] [.int t0] := by
    intro g q t0 h
    exact sw_zret X hr hlk h.1 (u := (g, q)) rfl h.2 dc_H_isPair_14
  refine sw_lload_n X 0 rfl rfl dc_H_isPair_0 ?_
  refine sw_cS_i (n := 1) X hA nw_okA hNs hE (fun u : st_S => wd_W cI cL cZ ad u.1 u.2 r o) [.long a1] (ct_H_kindOf l D cI cL cZ ad r o a1 g q _ h) (List.mem_cons_of_mem _ wm_ml_H_66) (List.mem_cons_of_mem _ wm_st_H_kindOf) rfl (wg_in wm_code_H_kindOf) rfl rfl (List.mem_cons_of_mem _ wm_in_H) ⟨by decide, by decide, by decide +kernel⟩ ⟨Nat.le_of_ble_eq_true rfl, Nat.le_of_ble_eq_true rfl⟩ ⟨Nat.zero_le _, Nat.zero_le _⟩ rfl (Nat.le_of_ble_eq_true rfl) dc_H_isPair_1 rfl (fun x1 u1 h => ?_)
  refine sw_bipush (v := 8) X dc_H_isPair_4 (by decide) ?_
  refine sw_icmp_ne (tgt := 13) X dc_H_isPair_6 (by decide) (fun z => ?_) (fun z => ?_)
  · have h := h.1 z
    refine sw_iconst (v := 0) X dc_H_isPair_13 (by decide) ?_
    refine sw_sub [] rfl ?_
    exact b14 u1.1 u1.2 (0 : Int32) h
  · have h := h.2 z
    refine sw_iconst (v := 1) X dc_H_isPair_9 (by decide) ?_
    refine sw_goto (tgt := 14) X dc_H_isPair_10 (by decide) ?_
    refine sw_sub [] rfl ?_
    exact b14 u1.1 u1.2 (1 : Int32) h
def wp_H_variable_L27 (Q : (Int64 → st_S → Prop)) (g : st_I) (q : st_L) (t0 : Int64) : Prop := Q t0 (g, q)
def wp_H_variable (a1 : Int32) (a2 : Int32) (g : st_I) (q : st_L) (Q : (Int64 → st_S → Prop)) : Prop := vp_in ((a2 * (4 : Int32)) + a1) 24 ∧ (¬ (lg_cmp (q 16 (((a2 * (4 : Int32)) + a1)).toNatClampNeg) (-3 : Int64)) = 0 → wp_H_variable_L27 Q g q (q 16 (((a2 * (4 : Int32)) + a1)).toNatClampNeg)) ∧ ((lg_cmp (q 16 (((a2 * (4 : Int32)) + a1)).toNatClampNeg) (-3 : Int64)) = 0 → wp_H_fail  g q (fun x20 u20 => wp_H_variable_L27 Q u20.1 u20.2 x20))
set_option maxHeartbeats 4000000 in
set_option maxRecDepth 100000 in
theorem ct_H_variable (l : Launch) (D : va_G) (cI cL cZ : ClassId) (ad : Nat → Nat) (r : st_I) (o : st_L) (a1 : Int32) (a2 : Int32) (g : st_I) (q : st_L) (Q : (Int64 → st_S → Prop)) (h : wp_H_variable a1 a2 g q Q) : ∀ sz, Met l yn_H_variable (Cond.code yn_H_variable cd_H_variable 5 (some .long) :: wa_A) { frames := 1, cells := 0, slots := 0, locals := 20 } (va_Pc [.ref (ad 14), .int a1, .int a2] (wq_S D cl_A (wd_T cI cL cZ) nw_A (wd_W cI cL cZ ad g q r o) sz)) (va_Ql Q (fun u t => wq_E D cl_A (wd_T cI cL cZ) (va_A (wd_W cI cL cZ ad g q r o) sz) (wd_W cI cL cZ ad u.1 u.2 r o) t) (va_A (wd_W cI cL cZ ad g q r o) sz)) 0 0 (va_A (wd_W cI cL cZ ad g q r o) sz) := by
  refine sw_met (Qc := fun A => va_Ql Q (fun u t => wq_E D cl_A (wd_T cI cL cZ) A (wd_W cI cL cZ ad u.1 u.2 r o) t) A) (by decide) rfl (Nat.le_of_ble_eq_true rfl) rfl ?_
  intro p e s m args below meth c A X hA hNs hE hr hlk hnm
  have b27 : ∀ (g : st_I) (q : st_L) (t0 : Int64), wp_H_variable_L27 Q g q t0 → sw_J p l e { frames := 1, cells := 0, slots := 0, locals := 20 } s m args below meth c 0 0 (MQ below (va_Ql Q (fun u t => wq_E D cl_A (wd_T cI cL cZ) A (wd_W cI cL cZ ad u.1 u.2 r o) t) A) args s 0 0 A) D cl_A A 5 (wd_W cI cL cZ ad g q r o) 27 [] [.long t0] := by
    intro g q t0 h
    exact sw_lret X hr hlk (u := (g, q)) rfl h dc_H_variable_27
  refine sw_aload_n X 0 rfl rfl dc_H_variable_0 ?_
  refine sw_get X (fun z hz => List.mem_cons_of_mem _ (wf_H z hz)) 14 (wd_14 cI cL cZ ad g q r o) rfl 4 (by decide) (List.mem_cons_of_mem _ wm_fl_H_15) rfl dc_H_variable_1 ?_
  refine sw_iload_n X 2 rfl rfl dc_H_variable_4 ?_
  refine sw_iconst (v := 4) X dc_H_variable_5 (by decide) ?_
  refine sw_imul X dc_H_variable_6 ?_
  refine sw_iload_n X 1 rfl rfl dc_H_variable_7 ?_
  refine sw_iadd X dc_H_variable_8 ?_
  refine sw_lald X 16 1 (wd_16 cI cL cZ ad g q r o) rfl h.1 dc_H_variable_9 ?_
  have h := h.2
  refine sw_lstore_n X [(3, .long (q 16 (((a2 * (4 : Int32)) + a1)).toNatClampNeg)), (0, .ref (ad 14)), (1, .int a1), (2, .int a2)] rfl (by decide) rfl dc_H_variable_10 ?_
  refine sw_lload_n X 0 rfl rfl dc_H_variable_11 ?_
  refine sw_ldc2 X (List.mem_cons_of_mem _ wm_kl_H_48) dc_H_variable_12 ?_
  refine sw_lcmp X dc_H_variable_15 ?_
  refine sw_if_ne (tgt := 26) X dc_H_variable_16 (by decide) (fun z => ?_) (fun z => ?_)
  · have h := h.1 z
    refine sw_lload_n X 0 rfl rfl dc_H_variable_26 ?_
    refine sw_sub [] rfl ?_
    exact b27 g q (q 16 (((a2 * (4 : Int32)) + a1)).toNatClampNeg) h
  · have h := h.2 z
    refine sw_aload_n X 1 rfl rfl dc_H_variable_19 ?_
    refine sw_cV_l (n := 0) X hA nw_okA hNs hE (fun u : st_S => wd_W cI cL cZ ad u.1 u.2 r o) [] 14 (wd_14 cI cL cZ ad g q r o) rfl rfl (ct_H_fail l D cI cL cZ ad r o g q _ h) (List.mem_cons_of_mem _ wm_ml_H_114) (List.mem_cons_of_mem _ wm_im_H_fail) (List.mem_cons_of_mem _ wm_se_H_fail) rfl (wg_in wm_code_H_fail) rfl rfl (List.mem_cons_of_mem _ wm_in_H) ⟨by decide, by decide, by decide +kernel⟩ ⟨Nat.le_of_ble_eq_true rfl, Nat.le_of_ble_eq_true rfl⟩ ⟨Nat.zero_le _, Nat.zero_le _⟩ rfl (Nat.le_of_ble_eq_true rfl) dc_H_variable_20 rfl (fun x20 u20 h => ?_)
    refine sw_goto (tgt := 27) X dc_H_variable_23 (by decide) ?_
    refine sw_sub [] rfl ?_
    exact b27 u20.1 u20.2 x20 h
def wp_H_calculate_L15 (Q : (Int64 → st_S → Prop)) (g : st_I) (q : st_L)  : Prop := wp_H_fail  g q (fun x16 u16 => Q x16 (u16.1, u16.2))
def wp_H_calculate_L51 (Q : (Int64 → st_S → Prop)) (g : st_I) (q : st_L) (t0 : Int32) : Prop := wp_H_number t0 g q (fun x51 u51 => Q x51 (u51.1, u51.2))
def wp_H_calculate (a1 : Int32) (a2 : Int64) (a3 : Int64) (g : st_I) (q : st_L) (Q : (Int64 → st_S → Prop)) : Prop := wp_H_isNumber a2 g q (fun x1 u1 => (x1 = 0 → wp_H_calculate_L15 Q u1.1 u1.2) ∧ (¬ x1 = 0 → wp_H_isNumber a3 u1.1 u1.2 (fun x9 u9 => (¬ x9 = 0 → wp_H_detailOf a2 u9.1 u9.2 (fun x21 u21 => wp_H_detailOf a3 u21.1 u21.2 (fun x28 u28 => (¬ a1 = (5 : Int32) → wp_H_calculate_L51 Q u28.1 u28.2 (x21 + x28)) ∧ (a1 = (5 : Int32) → wp_H_calculate_L51 Q u28.1 u28.2 (x21 - x28))))) ∧ (x9 = 0 → wp_H_calculate_L15 Q u9.1 u9.2))))
set_option maxHeartbeats 4000000 in
set_option maxRecDepth 100000 in
theorem ct_H_calculate (l : Launch) (D : va_G) (cI cL cZ : ClassId) (ad : Nat → Nat) (r : st_I) (o : st_L) (a1 : Int32) (a2 : Int64) (a3 : Int64) (g : st_I) (q : st_L) (Q : (Int64 → st_S → Prop)) (h : wp_H_calculate a1 a2 a3 g q Q) : ∀ sz, Met l yn_H_calculate (Cond.code yn_H_calculate cd_H_calculate 8 (some .long) :: wa_A) { frames := 2, cells := 0, slots := 0, locals := 42 } (va_Pc [.ref (ad 14), .int a1, .long a2, .long a3] (wq_S D cl_A (wd_T cI cL cZ) nw_A (wd_W cI cL cZ ad g q r o) sz)) (va_Ql Q (fun u t => wq_E D cl_A (wd_T cI cL cZ) (va_A (wd_W cI cL cZ ad g q r o) sz) (wd_W cI cL cZ ad u.1 u.2 r o) t) (va_A (wd_W cI cL cZ ad g q r o) sz)) 0 0 (va_A (wd_W cI cL cZ ad g q r o) sz) := by
  refine sw_met (Qc := fun A => va_Ql Q (fun u t => wq_E D cl_A (wd_T cI cL cZ) A (wd_W cI cL cZ ad u.1 u.2 r o) t) A) (by decide) rfl (Nat.le_of_ble_eq_true rfl) rfl ?_
  intro p e s m args below meth c A X hA hNs hE hr hlk hnm
  have b15 : ∀ (g : st_I) (q : st_L), wp_H_calculate_L15 Q g q → sw_J p l e { frames := 2, cells := 0, slots := 0, locals := 42 } s m args below meth c 0 0 (MQ below (va_Ql Q (fun u t => wq_E D cl_A (wd_T cI cL cZ) A (wd_W cI cL cZ ad u.1 u.2 r o) t) A) args s 0 0 A) D cl_A A 8 (wd_W cI cL cZ ad g q r o) 15 [(0, .ref (ad 14))] [] := by
    intro g q h
    refine sw_aload_n X 0 rfl rfl dc_H_calculate_15 ?_
    refine sw_cV_l (n := 0) X hA nw_okA hNs hE (fun u : st_S => wd_W cI cL cZ ad u.1 u.2 r o) [] 14 (wd_14 cI cL cZ ad g q r o) rfl rfl (ct_H_fail l D cI cL cZ ad r o g q _ h) (List.mem_cons_of_mem _ wm_ml_H_114) (List.mem_cons_of_mem _ wm_im_H_fail) (List.mem_cons_of_mem _ wm_se_H_fail) rfl (wg_in wm_code_H_fail) rfl rfl (List.mem_cons_of_mem _ wm_in_H) ⟨by decide, by decide, by decide +kernel⟩ ⟨Nat.le_of_ble_eq_true rfl, Nat.le_of_ble_eq_true rfl⟩ ⟨Nat.zero_le _, Nat.zero_le _⟩ rfl (Nat.le_of_ble_eq_true rfl) dc_H_calculate_16 rfl (fun x16 u16 h => ?_)
    exact sw_lret X hr hlk (u := (u16.1, u16.2)) rfl h dc_H_calculate_19
  have b51 : ∀ (g : st_I) (q : st_L) (t0 : Int32), wp_H_calculate_L51 Q g q t0 → sw_J p l e { frames := 2, cells := 0, slots := 0, locals := 42 } s m args below meth c 0 0 (MQ below (va_Ql Q (fun u t => wq_E D cl_A (wd_T cI cL cZ) A (wd_W cI cL cZ ad u.1 u.2 r o) t) A) args s 0 0 A) D cl_A A 8 (wd_W cI cL cZ ad g q r o) 51 [] [.int t0] := by
    intro g q t0 h
    refine sw_cS_l (n := 1) X hA nw_okA hNs hE (fun u : st_S => wd_W cI cL cZ ad u.1 u.2 r o) [.int t0] (ct_H_number l D cI cL cZ ad r o t0 g q _ h) (List.mem_cons_of_mem _ wm_ml_H_92) (List.mem_cons_of_mem _ wm_st_H_number) rfl (wg_in wm_code_H_number) rfl rfl (List.mem_cons_of_mem _ wm_in_H) ⟨by decide, by decide, by decide +kernel⟩ ⟨Nat.le_of_ble_eq_true rfl, Nat.le_of_ble_eq_true rfl⟩ ⟨Nat.zero_le _, Nat.zero_le _⟩ rfl (Nat.le_of_ble_eq_true rfl) dc_H_calculate_51 rfl (fun x51 u51 h => ?_)
    exact sw_lret X hr hlk (u := (u51.1, u51.2)) rfl h dc_H_calculate_54
  refine sw_lload_n X 2 rfl rfl dc_H_calculate_0 ?_
  refine sw_cS_i (n := 1) X hA nw_okA hNs hE (fun u : st_S => wd_W cI cL cZ ad u.1 u.2 r o) [.long a2] (ct_H_isNumber l D cI cL cZ ad r o a2 g q _ h) (List.mem_cons_of_mem _ wm_ml_H_58) (List.mem_cons_of_mem _ wm_st_H_isNumber) rfl (wg_in wm_code_H_isNumber) rfl rfl (List.mem_cons_of_mem _ wm_in_H) ⟨by decide, by decide, by decide +kernel⟩ ⟨Nat.le_of_ble_eq_true rfl, Nat.le_of_ble_eq_true rfl⟩ ⟨Nat.zero_le _, Nat.zero_le _⟩ rfl (Nat.le_of_ble_eq_true rfl) dc_H_calculate_1 rfl (fun x1 u1 h => ?_)
  refine sw_if_eq (tgt := 15) X dc_H_calculate_4 (by decide) (fun z => ?_) (fun z => ?_)
  · have h := h.1 z
    refine sw_sub [0] rfl ?_
    exact b15 u1.1 u1.2 h
  · have h := h.2 z
    refine sw_lload X 3 rfl dc_H_calculate_7 ?_
    refine sw_cS_i (n := 1) X hA nw_okA hNs hE (fun u : st_S => wd_W cI cL cZ ad u.1 u.2 r o) [.long a3] (ct_H_isNumber l D cI cL cZ ad r o a3 u1.1 u1.2 _ h) (List.mem_cons_of_mem _ wm_ml_H_58) (List.mem_cons_of_mem _ wm_st_H_isNumber) rfl (wg_in wm_code_H_isNumber) rfl rfl (List.mem_cons_of_mem _ wm_in_H) ⟨by decide, by decide, by decide +kernel⟩ ⟨Nat.le_of_ble_eq_true rfl, Nat.le_of_ble_eq_true rfl⟩ ⟨Nat.zero_le _, Nat.zero_le _⟩ rfl (Nat.le_of_ble_eq_true rfl) dc_H_calculate_9 rfl (fun x9 u9 h => ?_)
    refine sw_if_ne (tgt := 20) X dc_H_calculate_12 (by decide) (fun z => ?_) (fun z => ?_)
    · have h := h.1 z
      refine sw_lload_n X 2 rfl rfl dc_H_calculate_20 ?_
      refine sw_cS_i (n := 1) X hA nw_okA hNs hE (fun u : st_S => wd_W cI cL cZ ad u.1 u.2 r o) [.long a2] (ct_H_detailOf l D cI cL cZ ad r o a2 u9.1 u9.2 _ h) (List.mem_cons_of_mem _ wm_ml_H_62) (List.mem_cons_of_mem _ wm_st_H_detailOf) rfl (wg_in wm_code_H_detailOf) rfl rfl (List.mem_cons_of_mem _ wm_in_H) ⟨by decide, by decide, by decide +kernel⟩ ⟨Nat.le_of_ble_eq_true rfl, Nat.le_of_ble_eq_true rfl⟩ ⟨Nat.zero_le _, Nat.zero_le _⟩ rfl (Nat.le_of_ble_eq_true rfl) dc_H_calculate_21 rfl (fun x21 u21 h => ?_)
      refine sw_istore X [(6, .int x21), (0, .ref (ad 14)), (1, .int a1), (2, .long a2), (4, .long a3)] rfl (by decide) dc_H_calculate_24 ?_
      refine sw_lload X 4 rfl dc_H_calculate_26 ?_
      refine sw_cS_i (n := 1) X hA nw_okA hNs hE (fun u : st_S => wd_W cI cL cZ ad u.1 u.2 r o) [.long a3] (ct_H_detailOf l D cI cL cZ ad r o a3 u21.1 u21.2 _ h) (List.mem_cons_of_mem _ wm_ml_H_62) (List.mem_cons_of_mem _ wm_st_H_detailOf) rfl (wg_in wm_code_H_detailOf) rfl rfl (List.mem_cons_of_mem _ wm_in_H) ⟨by decide, by decide, by decide +kernel⟩ ⟨Nat.le_of_ble_eq_true rfl, Nat.le_of_ble_eq_true rfl⟩ ⟨Nat.zero_le _, Nat.zero_le _⟩ rfl (Nat.le_of_ble_eq_true rfl) dc_H_calculate_28 rfl (fun x28 u28 h => ?_)
      refine sw_istore X [(7, .int x28), (6, .int x21), (0, .ref (ad 14)), (1, .int a1), (2, .long a2), (4, .long a3)] rfl (by decide) dc_H_calculate_31 ?_
      refine sw_iload_n X 3 rfl rfl dc_H_calculate_33 ?_
      refine sw_iconst (v := 5) X dc_H_calculate_34 (by decide) ?_
      refine sw_icmp_ne (tgt := 46) X dc_H_calculate_35 (by decide) (fun z => ?_) (fun z => ?_)
      · have h := h.1 z
        refine sw_iload X 1 rfl dc_H_calculate_46 ?_
        refine sw_iload X 0 rfl dc_H_calculate_48 ?_
        refine sw_iadd X dc_H_calculate_50 ?_
        refine sw_sub [] rfl ?_
        exact b51 u28.1 u28.2 (x21 + x28) h
      · have h := h.2 z
        refine sw_iload X 1 rfl dc_H_calculate_38 ?_
        refine sw_iload X 0 rfl dc_H_calculate_40 ?_
        refine sw_isub X dc_H_calculate_42 ?_
        refine sw_goto (tgt := 51) X dc_H_calculate_43 (by decide) ?_
        refine sw_sub [] rfl ?_
        exact b51 u28.1 u28.2 (x21 - x28) h
    · have h := h.2 z
      refine sw_sub [0] rfl ?_
      exact b15 u9.1 u9.2 h
def wp_H_pair_L67 (Q : (Int64 → st_S → Prop)) (H26 : st_I → st_L → Int64 → Int64 → Int32 → Prop) (g : st_I) (q : st_L) (v1 : Int64) (v3 : Int64) (v5 : Int32) : Prop := H26 g q v1 v3 (v5 + 1)
def wp_H_pair_L26 (Q : (Int64 → st_S → Prop)) : Nat → st_I → st_L → Int64 → Int64 → Int32 → Prop
  | 0 => fun _ _ _ _ _ => False
  | n26 + 1 => fun g q v1 v3 v5 => ((g 14 8) ≤ v5 → vp_in (g 14 8) 40 ∧ vp_in (g 14 8) 40 ∧ wp_H_value (8 : Int32) (g 14 8) (st_u g 14 8 ((g 14 8) + (1 : Int32))) (st_v (st_v q 17 ((g 14 8)).toNatClampNeg v1) 18 ((g 14 8)).toNatClampNeg v3) (fun x109 u109 => Q x109 (u109.1, u109.2))) ∧ (¬ (g 14 8) ≤ v5 → vp_in v5 40 ∧ (¬ (lg_cmp (q 17 (v5).toNatClampNeg) v1) = 0 → wp_H_pair_L67 Q (wp_H_pair_L26 Q n26) g q v1 v3 v5) ∧ ((lg_cmp (q 17 (v5).toNatClampNeg) v1) = 0 → vp_in v5 40 ∧ (¬ (lg_cmp (q 18 (v5).toNatClampNeg) v3) = 0 → wp_H_pair_L67 Q (wp_H_pair_L26 Q n26) g q v1 v3 v5) ∧ ((lg_cmp (q 18 (v5).toNatClampNeg) v3) = 0 → wp_H_value (8 : Int32) v5 g q (fun x63 u63 => Q x63 (u63.1, u63.2)))))
def wp_H_pair (a1 : Int64) (a2 : Int64) (g : st_I) (q : st_L) (Q : (Int64 → st_S → Prop)) : Prop := ((g 14 9) < (40 : Int32) → ∃ n26, wp_H_pair_L26 Q n26 (st_u g 14 9 ((g 14 9) + (1 : Int32))) q a1 a2 (0 : Int32)) ∧ (¬ (g 14 9) < (40 : Int32) → Q (-2 : Int64) (g, q))
set_option maxHeartbeats 4000000 in
set_option maxRecDepth 100000 in
theorem ct_H_pair (l : Launch) (D : va_G) (cI cL cZ : ClassId) (ad : Nat → Nat) (r : st_I) (o : st_L) (a1 : Int64) (a2 : Int64) (g : st_I) (q : st_L) (Q : (Int64 → st_S → Prop)) (h : wp_H_pair a1 a2 g q Q) : ∀ sz, Met l yn_H_pair (Cond.code yn_H_pair cd_H_pair 6 (some .long) :: wa_A) { frames := 1, cells := 0, slots := 0, locals := 21 } (va_Pc [.ref (ad 14), .long a1, .long a2] (wq_S D cl_A (wd_T cI cL cZ) nw_A (wd_W cI cL cZ ad g q r o) sz)) (va_Ql Q (fun u t => wq_E D cl_A (wd_T cI cL cZ) (va_A (wd_W cI cL cZ ad g q r o) sz) (wd_W cI cL cZ ad u.1 u.2 r o) t) (va_A (wd_W cI cL cZ ad g q r o) sz)) 0 0 (va_A (wd_W cI cL cZ ad g q r o) sz) := by
  refine sw_met (Qc := fun A => va_Ql Q (fun u t => wq_E D cl_A (wd_T cI cL cZ) A (wd_W cI cL cZ ad u.1 u.2 r o) t) A) (by decide) rfl (Nat.le_of_ble_eq_true rfl) rfl ?_
  intro p e s m args below meth c A X hA hNs hE hr hlk hnm
  have b67 : ∀ (H26 : st_I → st_L → Int64 → Int64 → Int32 → Prop) (hH26 : ∀ (g : st_I) (q : st_L) (v1 : Int64) (v3 : Int64) (v5 : Int32), H26 g q v1 v3 v5 → sw_J p l e { frames := 1, cells := 0, slots := 0, locals := 21 } s m args below meth c 0 0 (MQ below (va_Ql Q (fun u t => wq_E D cl_A (wd_T cI cL cZ) A (wd_W cI cL cZ ad u.1 u.2 r o) t) A) args s 0 0 A) D cl_A A 6 (wd_W cI cL cZ ad g q r o) 26 [(0, .ref (ad 14)), (1, .long v1), (3, .long v3), (5, .int v5)] []) (g : st_I) (q : st_L) (v1 : Int64) (v3 : Int64) (v5 : Int32), wp_H_pair_L67 Q H26 g q v1 v3 v5 → sw_J p l e { frames := 1, cells := 0, slots := 0, locals := 21 } s m args below meth c 0 0 (MQ below (va_Ql Q (fun u t => wq_E D cl_A (wd_T cI cL cZ) A (wd_W cI cL cZ ad u.1 u.2 r o) t) A) args s 0 0 A) D cl_A A 6 (wd_W cI cL cZ ad g q r o) 67 [(0, .ref (ad 14)), (1, .long v1), (3, .long v3), (5, .int v5)] [] := by
    intro H26 hH26 g q v1 v3 v5 h
    refine sw_iinc (n := 1) (v := (v5 + 1)) X 3 rfl rfl [(5, .int (v5 + 1)), (0, .ref (ad 14)), (1, .long v1), (3, .long v3)] rfl (by decide) dc_H_pair_67 ?_
    refine sw_goto (tgt := 26) X dc_H_pair_70 (by decide) ?_
    refine sw_sub [1, 2, 3, 0] rfl ?_
    exact hH26 g q v1 v3 (v5 + 1) h
  have b26 : ∀ (n : Nat) (g : st_I) (q : st_L) (v1 : Int64) (v3 : Int64) (v5 : Int32), wp_H_pair_L26 Q n g q v1 v3 v5 → sw_J p l e { frames := 1, cells := 0, slots := 0, locals := 21 } s m args below meth c 0 0 (MQ below (va_Ql Q (fun u t => wq_E D cl_A (wd_T cI cL cZ) A (wd_W cI cL cZ ad u.1 u.2 r o) t) A) args s 0 0 A) D cl_A A 6 (wd_W cI cL cZ ad g q r o) 26 [(0, .ref (ad 14)), (1, .long v1), (3, .long v3), (5, .int v5)] [] := by
    intro n26
    induction n26 with
    | zero => intro g q v1 v3 v5 h; exact h.elim
    | succ n26 hH26 =>
    intro g q v1 v3 v5 h
    refine sw_iload X 3 rfl dc_H_pair_26 ?_
    refine sw_aload_n X 0 rfl rfl dc_H_pair_28 ?_
    refine sw_get (v := .int (g 14 8)) X (fun z hz => List.mem_cons_of_mem _ (wf_H z hz)) 14 (wd_14 cI cL cZ ad g q r o) rfl 8 (by decide) (List.mem_cons_of_mem _ wm_fl_H_36) rfl dc_H_pair_29 ?_
    refine sw_icmp_ge (tgt := 73) X dc_H_pair_32 (by decide) (fun z => ?_) (fun z => ?_)
    · have h := h.1 z
      refine sw_aload_n X 0 rfl rfl dc_H_pair_73 ?_
      refine sw_get (v := .int (g 14 8)) X (fun z hz => List.mem_cons_of_mem _ (wf_H z hz)) 14 (wd_14 cI cL cZ ad g q r o) rfl 8 (by decide) (List.mem_cons_of_mem _ wm_fl_H_36) rfl dc_H_pair_74 ?_
      refine sw_istore X [(5, .int (g 14 8)), (0, .ref (ad 14)), (1, .long v1), (3, .long v3)] rfl (by decide) dc_H_pair_77 ?_
      refine sw_aload_n X 1 rfl rfl dc_H_pair_79 ?_
      refine sw_get X (fun z hz => List.mem_cons_of_mem _ (wf_H z hz)) 14 (wd_14 cI cL cZ ad g q r o) rfl 5 (by decide) (List.mem_cons_of_mem _ wm_fl_H_19) rfl dc_H_pair_80 ?_
      refine sw_iload X 0 rfl dc_H_pair_83 ?_
      refine sw_lload_n X 2 rfl rfl dc_H_pair_85 ?_
      refine sw_last X 17 1 (wd_17 cI cL cZ ad g q r o) rfl h.1 (wd_W cI cL cZ ad g (st_v q 17 ((g 14 8)).toNatClampNeg v1) r o) (ws_17 cI cL cZ ad g q r o ((g 14 8)).toNatClampNeg v1) dc_H_pair_86 ?_
      have h := h.2
      refine sw_aload_n X 1 rfl rfl dc_H_pair_87 ?_
      refine sw_get X (fun z hz => List.mem_cons_of_mem _ (wf_H z hz)) 14 (wd_14 cI cL cZ ad g (st_v q 17 ((g 14 8)).toNatClampNeg v1) r o) rfl 6 (by decide) (List.mem_cons_of_mem _ wm_fl_H_22) rfl dc_H_pair_88 ?_
      refine sw_iload X 0 rfl dc_H_pair_91 ?_
      refine sw_lload_n X 3 rfl rfl dc_H_pair_93 ?_
      refine sw_last X 18 1 (wd_18 cI cL cZ ad g (st_v q 17 ((g 14 8)).toNatClampNeg v1) r o) rfl h.1 (wd_W cI cL cZ ad g (st_v (st_v q 17 ((g 14 8)).toNatClampNeg v1) 18 ((g 14 8)).toNatClampNeg v3) r o) (ws_18 cI cL cZ ad g (st_v q 17 ((g 14 8)).toNatClampNeg v1) r o ((g 14 8)).toNatClampNeg v3) dc_H_pair_94 ?_
      have h := h.2
      refine sw_aload_n X 1 rfl rfl dc_H_pair_95 ?_
      refine sw_dup X dc_H_pair_96 rfl ?_
      refine sw_get (v := .int (g 14 8)) X (fun z hz => List.mem_cons_of_mem _ (wf_H z hz)) 14 (wd_14 cI cL cZ ad g (st_v (st_v q 17 ((g 14 8)).toNatClampNeg v1) 18 ((g 14 8)).toNatClampNeg v3) r o) rfl 8 (by decide) (List.mem_cons_of_mem _ wm_fl_H_36) rfl dc_H_pair_97 ?_
      refine sw_iconst (v := 1) X dc_H_pair_100 (by decide) ?_
      refine sw_iadd X dc_H_pair_101 ?_
      refine sw_put (ty := .int) X (fun z hz => List.mem_cons_of_mem _ (wf_H z hz)) fy_H fo_H fn_H 14 (wd_14 cI cL cZ ad g (st_v (st_v q 17 ((g 14 8)).toNatClampNeg v1) 18 ((g 14 8)).toNatClampNeg v3) r o) rfl 8 (by decide) (List.mem_cons_of_mem _ wm_fl_H_36) rfl (by decide +kernel) rfl rfl (Nat.le_of_ble_eq_true rfl) (wd_W cI cL cZ ad (st_u g 14 8 ((g 14 8) + (1 : Int32))) (st_v (st_v q 17 ((g 14 8)).toNatClampNeg v1) 18 ((g 14 8)).toNatClampNeg v3) r o) (ws_14_8 cI cL cZ ad g (st_v (st_v q 17 ((g 14 8)).toNatClampNeg v1) 18 ((g 14 8)).toNatClampNeg v3) r o ((g 14 8) + (1 : Int32))) dc_H_pair_102 ?_
      refine sw_bipush (v := 8) X dc_H_pair_105 (by decide) ?_
      refine sw_iload X 0 rfl dc_H_pair_107 ?_
      refine sw_cS_l (n := 2) X hA nw_okA hNs hE (fun u : st_S => wd_W cI cL cZ ad u.1 u.2 r o) [.int (8 : Int32), .int (g 14 8)] (ct_H_value l D cI cL cZ ad r o (8 : Int32) (g 14 8) (st_u g 14 8 ((g 14 8) + (1 : Int32))) (st_v (st_v q 17 ((g 14 8)).toNatClampNeg v1) 18 ((g 14 8)).toNatClampNeg v3) _ h) (List.mem_cons_of_mem _ wm_ml_H_89) (List.mem_cons_of_mem _ wm_st_H_value) rfl (wg_in wm_code_H_value) rfl rfl (List.mem_cons_of_mem _ wm_in_H) ⟨by decide, by decide, by decide +kernel⟩ ⟨Nat.le_of_ble_eq_true rfl, Nat.le_of_ble_eq_true rfl⟩ ⟨Nat.zero_le _, Nat.zero_le _⟩ rfl (Nat.le_of_ble_eq_true rfl) dc_H_pair_109 rfl (fun x109 u109 h => ?_)
      exact sw_lret X hr hlk (u := (u109.1, u109.2)) rfl h dc_H_pair_112
    · have h := h.2 z
      refine sw_aload_n X 0 rfl rfl dc_H_pair_35 ?_
      refine sw_get X (fun z hz => List.mem_cons_of_mem _ (wf_H z hz)) 14 (wd_14 cI cL cZ ad g q r o) rfl 5 (by decide) (List.mem_cons_of_mem _ wm_fl_H_19) rfl dc_H_pair_36 ?_
      refine sw_iload X 3 rfl dc_H_pair_39 ?_
      refine sw_lald X 17 1 (wd_17 cI cL cZ ad g q r o) rfl h.1 dc_H_pair_41 ?_
      have h := h.2
      refine sw_lload_n X 1 rfl rfl dc_H_pair_42 ?_
      refine sw_lcmp X dc_H_pair_43 ?_
      refine sw_if_ne (tgt := 67) X dc_H_pair_44 (by decide) (fun z => ?_) (fun z => ?_)
      · have h := h.1 z
        exact b67 (wp_H_pair_L26 Q n26) hH26 g q v1 v3 v5 h
      · have h := h.2 z
        refine sw_aload_n X 0 rfl rfl dc_H_pair_47 ?_
        refine sw_get X (fun z hz => List.mem_cons_of_mem _ (wf_H z hz)) 14 (wd_14 cI cL cZ ad g q r o) rfl 6 (by decide) (List.mem_cons_of_mem _ wm_fl_H_22) rfl dc_H_pair_48 ?_
        refine sw_iload X 3 rfl dc_H_pair_51 ?_
        refine sw_lald X 18 1 (wd_18 cI cL cZ ad g q r o) rfl h.1 dc_H_pair_53 ?_
        have h := h.2
        refine sw_lload_n X 2 rfl rfl dc_H_pair_54 ?_
        refine sw_lcmp X dc_H_pair_55 ?_
        refine sw_if_ne (tgt := 67) X dc_H_pair_56 (by decide) (fun z => ?_) (fun z => ?_)
        · have h := h.1 z
          exact b67 (wp_H_pair_L26 Q n26) hH26 g q v1 v3 v5 h
        · have h := h.2 z
          refine sw_bipush (v := 8) X dc_H_pair_59 (by decide) ?_
          refine sw_iload X 3 rfl dc_H_pair_61 ?_
          refine sw_cS_l (n := 2) X hA nw_okA hNs hE (fun u : st_S => wd_W cI cL cZ ad u.1 u.2 r o) [.int (8 : Int32), .int v5] (ct_H_value l D cI cL cZ ad r o (8 : Int32) v5 g q _ h) (List.mem_cons_of_mem _ wm_ml_H_89) (List.mem_cons_of_mem _ wm_st_H_value) rfl (wg_in wm_code_H_value) rfl rfl (List.mem_cons_of_mem _ wm_in_H) ⟨by decide, by decide, by decide +kernel⟩ ⟨Nat.le_of_ble_eq_true rfl, Nat.le_of_ble_eq_true rfl⟩ ⟨Nat.zero_le _, Nat.zero_le _⟩ rfl (Nat.le_of_ble_eq_true rfl) dc_H_pair_63 rfl (fun x63 u63 h => ?_)
          exact sw_lret X hr hlk (u := (u63.1, u63.2)) rfl h dc_H_pair_66
  refine sw_aload_n X 0 rfl rfl dc_H_pair_0 ?_
  refine sw_get (v := .int (g 14 9)) X (fun z hz => List.mem_cons_of_mem _ (wf_H z hz)) 14 (wd_14 cI cL cZ ad g q r o) rfl 9 (by decide) (List.mem_cons_of_mem _ wm_fl_H_39) rfl dc_H_pair_1 ?_
  refine sw_bipush (v := 40) X dc_H_pair_4 (by decide) ?_
  refine sw_icmp_lt (tgt := 13) X dc_H_pair_6 (by decide) (fun z => ?_) (fun z => ?_)
  · have h := h.1 z
    refine sw_aload_n X 0 rfl rfl dc_H_pair_13 ?_
    refine sw_dup X dc_H_pair_14 rfl ?_
    refine sw_get (v := .int (g 14 9)) X (fun z hz => List.mem_cons_of_mem _ (wf_H z hz)) 14 (wd_14 cI cL cZ ad g q r o) rfl 9 (by decide) (List.mem_cons_of_mem _ wm_fl_H_39) rfl dc_H_pair_15 ?_
    refine sw_iconst (v := 1) X dc_H_pair_18 (by decide) ?_
    refine sw_iadd X dc_H_pair_19 ?_
    refine sw_put (ty := .int) X (fun z hz => List.mem_cons_of_mem _ (wf_H z hz)) fy_H fo_H fn_H 14 (wd_14 cI cL cZ ad g q r o) rfl 9 (by decide) (List.mem_cons_of_mem _ wm_fl_H_39) rfl (by decide +kernel) rfl rfl (Nat.le_of_ble_eq_true rfl) (wd_W cI cL cZ ad (st_u g 14 9 ((g 14 9) + (1 : Int32))) q r o) (ws_14_9 cI cL cZ ad g q r o ((g 14 9) + (1 : Int32))) dc_H_pair_20 ?_
    refine sw_iconst (v := 0) X dc_H_pair_23 (by decide) ?_
    refine sw_istore X [(5, .int (0 : Int32)), (0, .ref (ad 14)), (1, .long a1), (3, .long a2)] rfl (by decide) dc_H_pair_24 ?_
    refine sw_sub [1, 2, 3, 0] rfl ?_
    obtain ⟨n26, h⟩ := h
    exact b26 n26 (st_u g 14 9 ((g 14 9) + (1 : Int32))) q a1 a2 (0 : Int32) h
  · have h := h.2 z
    refine sw_ldc2 X (List.mem_cons_of_mem _ wm_kl_H_75) dc_H_pair_9 ?_
    exact sw_lret X hr hlk (u := (g, q)) rfl h dc_H_pair_12
def wp_H_openFrame (a1 : Int32) (a2 : Int64) (a3 : Int64) (g : st_I) (q : st_L) (Q : (st_S → Prop)) : Prop := vp_in (a1 * (4 : Int32)) 24 ∧ vp_in ((a1 * (4 : Int32)) + (1 : Int32)) 24 ∧ vp_in ((a1 * (4 : Int32)) + (2 : Int32)) 24 ∧ vp_in ((a1 * (4 : Int32)) + (3 : Int32)) 24 ∧ Q (g, (st_v (st_v (st_v (st_v q 16 ((a1 * (4 : Int32))).toNatClampNeg a2) 16 (((a1 * (4 : Int32)) + (1 : Int32))).toNatClampNeg a3) 16 (((a1 * (4 : Int32)) + (2 : Int32))).toNatClampNeg (-3 : Int64)) 16 (((a1 * (4 : Int32)) + (3 : Int32))).toNatClampNeg (-3 : Int64)))
set_option maxHeartbeats 4000000 in
set_option maxRecDepth 100000 in
theorem ct_H_openFrame (l : Launch) (D : va_G) (cI cL cZ : ClassId) (ad : Nat → Nat) (r : st_I) (o : st_L) (a1 : Int32) (a2 : Int64) (a3 : Int64) (g : st_I) (q : st_L) (Q : (st_S → Prop)) (h : wp_H_openFrame a1 a2 a3 g q Q) : ∀ sz, Met l yn_H_openFrame (Cond.code yn_H_openFrame cd_H_openFrame 7 none :: wa_A) { frames := 0, cells := 0, slots := 0, locals := 0 } (va_Pc [.ref (ad 14), .int a1, .long a2, .long a3] (wq_S D cl_A (wd_T cI cL cZ) nw_A (wd_W cI cL cZ ad g q r o) sz)) (va_Qv Q (fun u t => wq_E D cl_A (wd_T cI cL cZ) (va_A (wd_W cI cL cZ ad g q r o) sz) (wd_W cI cL cZ ad u.1 u.2 r o) t) (va_A (wd_W cI cL cZ ad g q r o) sz)) 0 0 (va_A (wd_W cI cL cZ ad g q r o) sz) := by
  refine sw_met (Qc := fun A => va_Qv Q (fun u t => wq_E D cl_A (wd_T cI cL cZ) A (wd_W cI cL cZ ad u.1 u.2 r o) t) A) (by decide) rfl (Nat.le_of_ble_eq_true rfl) rfl ?_
  intro p e s m args below meth c A X hA hNs hE hr hlk hnm
  refine sw_iload_n X 1 rfl rfl dc_H_openFrame_0 ?_
  refine sw_iconst (v := 4) X dc_H_openFrame_1 (by decide) ?_
  refine sw_imul X dc_H_openFrame_2 ?_
  refine sw_istore X [(6, .int (a1 * (4 : Int32))), (0, .ref (ad 14)), (1, .int a1), (2, .long a2), (4, .long a3)] rfl (by decide) dc_H_openFrame_3 ?_
  refine sw_aload_n X 1 rfl rfl dc_H_openFrame_5 ?_
  refine sw_get X (fun z hz => List.mem_cons_of_mem _ (wf_H z hz)) 14 (wd_14 cI cL cZ ad g q r o) rfl 4 (by decide) (List.mem_cons_of_mem _ wm_fl_H_15) rfl dc_H_openFrame_6 ?_
  refine sw_iload X 0 rfl dc_H_openFrame_9 ?_
  refine sw_lload_n X 3 rfl rfl dc_H_openFrame_11 ?_
  refine sw_last X 16 1 (wd_16 cI cL cZ ad g q r o) rfl h.1 (wd_W cI cL cZ ad g (st_v q 16 ((a1 * (4 : Int32))).toNatClampNeg a2) r o) (ws_16 cI cL cZ ad g q r o ((a1 * (4 : Int32))).toNatClampNeg a2) dc_H_openFrame_12 ?_
  have h := h.2
  refine sw_aload_n X 1 rfl rfl dc_H_openFrame_13 ?_
  refine sw_get X (fun z hz => List.mem_cons_of_mem _ (wf_H z hz)) 14 (wd_14 cI cL cZ ad g (st_v q 16 ((a1 * (4 : Int32))).toNatClampNeg a2) r o) rfl 4 (by decide) (List.mem_cons_of_mem _ wm_fl_H_15) rfl dc_H_openFrame_14 ?_
  refine sw_iload X 0 rfl dc_H_openFrame_17 ?_
  refine sw_iconst (v := 1) X dc_H_openFrame_19 (by decide) ?_
  refine sw_iadd X dc_H_openFrame_20 ?_
  refine sw_lload X 4 rfl dc_H_openFrame_21 ?_
  refine sw_last X 16 1 (wd_16 cI cL cZ ad g (st_v q 16 ((a1 * (4 : Int32))).toNatClampNeg a2) r o) rfl h.1 (wd_W cI cL cZ ad g (st_v (st_v q 16 ((a1 * (4 : Int32))).toNatClampNeg a2) 16 (((a1 * (4 : Int32)) + (1 : Int32))).toNatClampNeg a3) r o) (ws_16 cI cL cZ ad g (st_v q 16 ((a1 * (4 : Int32))).toNatClampNeg a2) r o (((a1 * (4 : Int32)) + (1 : Int32))).toNatClampNeg a3) dc_H_openFrame_23 ?_
  have h := h.2
  refine sw_aload_n X 1 rfl rfl dc_H_openFrame_24 ?_
  refine sw_get X (fun z hz => List.mem_cons_of_mem _ (wf_H z hz)) 14 (wd_14 cI cL cZ ad g (st_v (st_v q 16 ((a1 * (4 : Int32))).toNatClampNeg a2) 16 (((a1 * (4 : Int32)) + (1 : Int32))).toNatClampNeg a3) r o) rfl 4 (by decide) (List.mem_cons_of_mem _ wm_fl_H_15) rfl dc_H_openFrame_25 ?_
  refine sw_iload X 0 rfl dc_H_openFrame_28 ?_
  refine sw_iconst (v := 2) X dc_H_openFrame_30 (by decide) ?_
  refine sw_iadd X dc_H_openFrame_31 ?_
  refine sw_ldc2 X (List.mem_cons_of_mem _ wm_kl_H_48) dc_H_openFrame_32 ?_
  refine sw_last X 16 1 (wd_16 cI cL cZ ad g (st_v (st_v q 16 ((a1 * (4 : Int32))).toNatClampNeg a2) 16 (((a1 * (4 : Int32)) + (1 : Int32))).toNatClampNeg a3) r o) rfl h.1 (wd_W cI cL cZ ad g (st_v (st_v (st_v q 16 ((a1 * (4 : Int32))).toNatClampNeg a2) 16 (((a1 * (4 : Int32)) + (1 : Int32))).toNatClampNeg a3) 16 (((a1 * (4 : Int32)) + (2 : Int32))).toNatClampNeg (-3 : Int64)) r o) (ws_16 cI cL cZ ad g (st_v (st_v q 16 ((a1 * (4 : Int32))).toNatClampNeg a2) 16 (((a1 * (4 : Int32)) + (1 : Int32))).toNatClampNeg a3) r o (((a1 * (4 : Int32)) + (2 : Int32))).toNatClampNeg (-3 : Int64)) dc_H_openFrame_35 ?_
  have h := h.2
  refine sw_aload_n X 1 rfl rfl dc_H_openFrame_36 ?_
  refine sw_get X (fun z hz => List.mem_cons_of_mem _ (wf_H z hz)) 14 (wd_14 cI cL cZ ad g (st_v (st_v (st_v q 16 ((a1 * (4 : Int32))).toNatClampNeg a2) 16 (((a1 * (4 : Int32)) + (1 : Int32))).toNatClampNeg a3) 16 (((a1 * (4 : Int32)) + (2 : Int32))).toNatClampNeg (-3 : Int64)) r o) rfl 4 (by decide) (List.mem_cons_of_mem _ wm_fl_H_15) rfl dc_H_openFrame_37 ?_
  refine sw_iload X 0 rfl dc_H_openFrame_40 ?_
  refine sw_iconst (v := 3) X dc_H_openFrame_42 (by decide) ?_
  refine sw_iadd X dc_H_openFrame_43 ?_
  refine sw_ldc2 X (List.mem_cons_of_mem _ wm_kl_H_48) dc_H_openFrame_44 ?_
  refine sw_last X 16 1 (wd_16 cI cL cZ ad g (st_v (st_v (st_v q 16 ((a1 * (4 : Int32))).toNatClampNeg a2) 16 (((a1 * (4 : Int32)) + (1 : Int32))).toNatClampNeg a3) 16 (((a1 * (4 : Int32)) + (2 : Int32))).toNatClampNeg (-3 : Int64)) r o) rfl h.1 (wd_W cI cL cZ ad g (st_v (st_v (st_v (st_v q 16 ((a1 * (4 : Int32))).toNatClampNeg a2) 16 (((a1 * (4 : Int32)) + (1 : Int32))).toNatClampNeg a3) 16 (((a1 * (4 : Int32)) + (2 : Int32))).toNatClampNeg (-3 : Int64)) 16 (((a1 * (4 : Int32)) + (3 : Int32))).toNatClampNeg (-3 : Int64)) r o) (ws_16 cI cL cZ ad g (st_v (st_v (st_v q 16 ((a1 * (4 : Int32))).toNatClampNeg a2) 16 (((a1 * (4 : Int32)) + (1 : Int32))).toNatClampNeg a3) 16 (((a1 * (4 : Int32)) + (2 : Int32))).toNatClampNeg (-3 : Int64)) r o (((a1 * (4 : Int32)) + (3 : Int32))).toNatClampNeg (-3 : Int64)) dc_H_openFrame_47 ?_
  have h := h.2
  exact sw_vret X hr hlk (u := (g, (st_v (st_v (st_v (st_v q 16 ((a1 * (4 : Int32))).toNatClampNeg a2) 16 (((a1 * (4 : Int32)) + (1 : Int32))).toNatClampNeg a3) 16 (((a1 * (4 : Int32)) + (2 : Int32))).toNatClampNeg (-3 : Int64)) 16 (((a1 * (4 : Int32)) + (3 : Int32))).toNatClampNeg (-3 : Int64)))) rfl h dc_H_openFrame_48
def wp_H_keepParts_L113 (Q : (st_S → Prop)) (g : st_I) (q : st_L) (v4 : Int32) : Prop := Q ((st_u g 14 1 v4), q)
def wp_H_keepParts_L110 (Q : (st_S → Prop)) (H12 : st_I → st_L → Int32 → Int32 → Prop) (g : st_I) (q : st_L) (v3 : Int32) (v4 : Int32) : Prop := H12 g q v3 v4
def wp_H_keepParts_L61 (Q : (st_S → Prop)) (H12 : st_I → st_L → Int32 → Int32 → Prop) (g : st_I) (q : st_L) (v3 : Int32) (v4 : Int32) (v5 : Int64) (t0 : Int32) (t1 : Int32) : Prop := vp_in t1 60 ∧ wp_H_isPair v5 (st_u g 15 (t1).toNatClampNeg t0) q (fun x67 u67 => (x67 = 0 → wp_H_keepParts_L110 Q H12 u67.1 u67.2 v3 (v4 + 1)) ∧ (¬ x67 = 0 → wp_H_detailOf v5 u67.1 u67.2 (fun x84 u84 => vp_in x84 40 ∧ vp_in v3 61 ∧ wp_H_detailOf v5 u84.1 (st_v u84.2 19 (v3).toNatClampNeg (u84.2 18 (x84).toNatClampNeg)) (fun x102 u102 => vp_in x102 40 ∧ vp_in (v3 + (1 : Int32)) 61 ∧ wp_H_keepParts_L110 Q H12 u102.1 (st_v u102.2 19 ((v3 + (1 : Int32))).toNatClampNeg (u102.2 17 (x102).toNatClampNeg)) (v3 + 2) (v4 + 1)))))
def wp_H_keepParts_L12 (Q : (st_S → Prop)) : Nat → st_I → st_L → Int32 → Int32 → Prop
  | 0 => fun _ _ _ _ => False
  | n12 + 1 => fun g q v3 v4 => (v3 ≤ 0 → wp_H_keepParts_L113 Q g q v4) ∧ (¬ v3 ≤ 0 → ((60 : Int32) ≤ v4 → wp_H_keepParts_L113 Q g q v4) ∧ (¬ (60 : Int32) ≤ v4 → vp_in (v3 + (-1)) 61 ∧ wp_H_isNumber (q 19 ((v3 + (-1))).toNatClampNeg) g q (fun x42 u42 => (x42 = 0 → wp_H_kindOf (q 19 ((v3 + (-1))).toNatClampNeg) u42.1 u42.2 (fun x58 u58 => wp_H_keepParts_L61 Q (wp_H_keepParts_L12 Q n12) u58.1 u58.2 (v3 + (-1)) v4 (q 19 ((v3 + (-1))).toNatClampNeg) x58 v4)) ∧ (¬ x42 = 0 → wp_H_detailOf (q 19 ((v3 + (-1))).toNatClampNeg) u42.1 u42.2 (fun x50 u50 => wp_H_keepParts_L61 Q (wp_H_keepParts_L12 Q n12) u50.1 u50.2 (v3 + (-1)) v4 (q 19 ((v3 + (-1))).toNatClampNeg) x50 v4)))))
def wp_H_keepParts (a1 : Int64) (g : st_I) (q : st_L) (Q : (st_S → Prop)) : Prop := vp_in (0 : Int32) 61 ∧ ∃ n12, wp_H_keepParts_L12 Q n12 g (st_v q 19 ((0 : Int32)).toNatClampNeg a1) (1 : Int32) (0 : Int32)
set_option maxHeartbeats 4000000 in
set_option maxRecDepth 100000 in
theorem ct_H_keepParts (l : Launch) (D : va_G) (cI cL cZ : ClassId) (ad : Nat → Nat) (r : st_I) (o : st_L) (a1 : Int64) (g : st_I) (q : st_L) (Q : (st_S → Prop)) (h : wp_H_keepParts a1 g q Q) : ∀ sz, Met l yn_H_keepParts (Cond.code yn_H_keepParts cd_H_keepParts 7 none :: wa_A) { frames := 2, cells := 0, slots := 0, locals := 42 } (va_Pc [.ref (ad 14), .long a1] (wq_S D cl_A (wd_T cI cL cZ) nw_A (wd_W cI cL cZ ad g q r o) sz)) (va_Qv Q (fun u t => wq_E D cl_A (wd_T cI cL cZ) (va_A (wd_W cI cL cZ ad g q r o) sz) (wd_W cI cL cZ ad u.1 u.2 r o) t) (va_A (wd_W cI cL cZ ad g q r o) sz)) 0 0 (va_A (wd_W cI cL cZ ad g q r o) sz) := by
  refine sw_met (Qc := fun A => va_Qv Q (fun u t => wq_E D cl_A (wd_T cI cL cZ) A (wd_W cI cL cZ ad u.1 u.2 r o) t) A) (by decide) rfl (Nat.le_of_ble_eq_true rfl) rfl ?_
  intro p e s m args below meth c A X hA hNs hE hr hlk hnm
  have b113 : ∀ (g : st_I) (q : st_L) (v4 : Int32), wp_H_keepParts_L113 Q g q v4 → sw_J p l e { frames := 2, cells := 0, slots := 0, locals := 42 } s m args below meth c 0 0 (MQ below (va_Qv Q (fun u t => wq_E D cl_A (wd_T cI cL cZ) A (wd_W cI cL cZ ad u.1 u.2 r o) t) A) args s 0 0 A) D cl_A A 7 (wd_W cI cL cZ ad g q r o) 113 [(0, .ref (ad 14)), (4, .int v4)] [] := by
    intro g q v4 h
    refine sw_aload_n X 0 rfl rfl dc_H_keepParts_113 ?_
    refine sw_iload X 1 rfl dc_H_keepParts_114 ?_
    refine sw_put (ty := .int) X (fun z hz => List.mem_cons_of_mem _ (wf_H z hz)) fy_H fo_H fn_H 14 (wd_14 cI cL cZ ad g q r o) rfl 1 (by decide) (List.mem_cons_of_mem _ wm_fl_H_72) rfl (by decide +kernel) rfl rfl (Nat.le_of_ble_eq_true rfl) (wd_W cI cL cZ ad (st_u g 14 1 v4) q r o) (ws_14_1 cI cL cZ ad g q r o v4) dc_H_keepParts_116 ?_
    exact sw_vret X hr hlk (u := ((st_u g 14 1 v4), q)) rfl h dc_H_keepParts_119
  have b110 : ∀ (H12 : st_I → st_L → Int32 → Int32 → Prop) (hH12 : ∀ (g : st_I) (q : st_L) (v3 : Int32) (v4 : Int32), H12 g q v3 v4 → sw_J p l e { frames := 2, cells := 0, slots := 0, locals := 42 } s m args below meth c 0 0 (MQ below (va_Qv Q (fun u t => wq_E D cl_A (wd_T cI cL cZ) A (wd_W cI cL cZ ad u.1 u.2 r o) t) A) args s 0 0 A) D cl_A A 7 (wd_W cI cL cZ ad g q r o) 12 [(0, .ref (ad 14)), (3, .int v3), (4, .int v4)] []) (g : st_I) (q : st_L) (v3 : Int32) (v4 : Int32), wp_H_keepParts_L110 Q H12 g q v3 v4 → sw_J p l e { frames := 2, cells := 0, slots := 0, locals := 42 } s m args below meth c 0 0 (MQ below (va_Qv Q (fun u t => wq_E D cl_A (wd_T cI cL cZ) A (wd_W cI cL cZ ad u.1 u.2 r o) t) A) args s 0 0 A) D cl_A A 7 (wd_W cI cL cZ ad g q r o) 110 [(0, .ref (ad 14)), (3, .int v3), (4, .int v4)] [] := by
    intro H12 hH12 g q v3 v4 h
    refine sw_goto (tgt := 12) X dc_H_keepParts_110 (by decide) ?_
    exact hH12 g q v3 v4 h
  have b61 : ∀ (H12 : st_I → st_L → Int32 → Int32 → Prop) (hH12 : ∀ (g : st_I) (q : st_L) (v3 : Int32) (v4 : Int32), H12 g q v3 v4 → sw_J p l e { frames := 2, cells := 0, slots := 0, locals := 42 } s m args below meth c 0 0 (MQ below (va_Qv Q (fun u t => wq_E D cl_A (wd_T cI cL cZ) A (wd_W cI cL cZ ad u.1 u.2 r o) t) A) args s 0 0 A) D cl_A A 7 (wd_W cI cL cZ ad g q r o) 12 [(0, .ref (ad 14)), (3, .int v3), (4, .int v4)] []) (g : st_I) (q : st_L) (v3 : Int32) (v4 : Int32) (v5 : Int64) (t0 : Int32) (t1 : Int32), wp_H_keepParts_L61 Q H12 g q v3 v4 v5 t0 t1 → sw_J p l e { frames := 2, cells := 0, slots := 0, locals := 42 } s m args below meth c 0 0 (MQ below (va_Qv Q (fun u t => wq_E D cl_A (wd_T cI cL cZ) A (wd_W cI cL cZ ad u.1 u.2 r o) t) A) args s 0 0 A) D cl_A A 7 (wd_W cI cL cZ ad g q r o) 61 [(0, .ref (ad 14)), (3, .int v3), (4, .int v4), (5, .long v5)] [.int t0, .int t1, .ref (ad 15)] := by
    intro H12 hH12 g q v3 v4 v5 t0 t1 h
    refine sw_iast X 15 0 (wd_15 cI cL cZ ad g q r o) rfl h.1 (wd_W cI cL cZ ad (st_u g 15 (t1).toNatClampNeg t0) q r o) (ws_15 cI cL cZ ad g q r o (t1).toNatClampNeg t0) dc_H_keepParts_61 ?_
    have h := h.2
    refine sw_iinc (n := 1) (v := (v4 + 1)) X 2 rfl rfl [(4, .int (v4 + 1)), (0, .ref (ad 14)), (3, .int v3), (5, .long v5)] rfl (by decide) dc_H_keepParts_62 ?_
    refine sw_lload X 3 rfl dc_H_keepParts_65 ?_
    refine sw_cS_i (n := 1) X hA nw_okA hNs hE (fun u : st_S => wd_W cI cL cZ ad u.1 u.2 r o) [.long v5] (ct_H_isPair l D cI cL cZ ad r o v5 (st_u g 15 (t1).toNatClampNeg t0) q _ h) (List.mem_cons_of_mem _ wm_ml_H_69) (List.mem_cons_of_mem _ wm_st_H_isPair) rfl (wg_in wm_code_H_isPair) rfl rfl (List.mem_cons_of_mem _ wm_in_H) ⟨by decide, by decide, by decide +kernel⟩ ⟨Nat.le_of_ble_eq_true rfl, Nat.le_of_ble_eq_true rfl⟩ ⟨Nat.zero_le _, Nat.zero_le _⟩ rfl (Nat.le_of_ble_eq_true rfl) dc_H_keepParts_67 rfl (fun x67 u67 h => ?_)
    refine sw_if_eq (tgt := 110) X dc_H_keepParts_70 (by decide) (fun z => ?_) (fun z => ?_)
    · have h := h.1 z
      refine sw_sub [1, 2, 0] rfl ?_
      exact b110 H12 hH12 u67.1 u67.2 v3 (v4 + 1) h
    · have h := h.2 z
      refine sw_aload_n X 1 rfl rfl dc_H_keepParts_73 ?_
      refine sw_get X (fun z hz => List.mem_cons_of_mem _ (wf_H z hz)) 14 (wd_14 cI cL cZ ad u67.1 u67.2 r o) rfl 7 (by decide) (List.mem_cons_of_mem _ wm_fl_H_25) rfl dc_H_keepParts_74 ?_
      refine sw_iload_n X 2 rfl rfl dc_H_keepParts_77 ?_
      refine sw_aload_n X 1 rfl rfl dc_H_keepParts_78 ?_
      refine sw_get X (fun z hz => List.mem_cons_of_mem _ (wf_H z hz)) 14 (wd_14 cI cL cZ ad u67.1 u67.2 r o) rfl 6 (by decide) (List.mem_cons_of_mem _ wm_fl_H_22) rfl dc_H_keepParts_79 ?_
      refine sw_lload X 3 rfl dc_H_keepParts_82 ?_
      refine sw_cS_i (n := 1) X hA nw_okA hNs hE (fun u : st_S => wd_W cI cL cZ ad u.1 u.2 r o) [.long v5] (ct_H_detailOf l D cI cL cZ ad r o v5 u67.1 u67.2 _ h) (List.mem_cons_of_mem _ wm_ml_H_62) (List.mem_cons_of_mem _ wm_st_H_detailOf) rfl (wg_in wm_code_H_detailOf) rfl rfl (List.mem_cons_of_mem _ wm_in_H) ⟨by decide, by decide, by decide +kernel⟩ ⟨Nat.le_of_ble_eq_true rfl, Nat.le_of_ble_eq_true rfl⟩ ⟨Nat.zero_le _, Nat.zero_le _⟩ rfl (Nat.le_of_ble_eq_true rfl) dc_H_keepParts_84 rfl (fun x84 u84 h => ?_)
      refine sw_lald X 18 1 (wd_18 cI cL cZ ad u84.1 u84.2 r o) rfl h.1 dc_H_keepParts_87 ?_
      have h := h.2
      refine sw_last X 19 1 (wd_19 cI cL cZ ad u84.1 u84.2 r o) rfl h.1 (wd_W cI cL cZ ad u84.1 (st_v u84.2 19 (v3).toNatClampNeg (u84.2 18 (x84).toNatClampNeg)) r o) (ws_19 cI cL cZ ad u84.1 u84.2 r o (v3).toNatClampNeg (u84.2 18 (x84).toNatClampNeg)) dc_H_keepParts_88 ?_
      have h := h.2
      refine sw_aload_n X 1 rfl rfl dc_H_keepParts_89 ?_
      refine sw_get X (fun z hz => List.mem_cons_of_mem _ (wf_H z hz)) 14 (wd_14 cI cL cZ ad u84.1 (st_v u84.2 19 (v3).toNatClampNeg (u84.2 18 (x84).toNatClampNeg)) r o) rfl 7 (by decide) (List.mem_cons_of_mem _ wm_fl_H_25) rfl dc_H_keepParts_90 ?_
      refine sw_iload_n X 2 rfl rfl dc_H_keepParts_93 ?_
      refine sw_iconst (v := 1) X dc_H_keepParts_94 (by decide) ?_
      refine sw_iadd X dc_H_keepParts_95 ?_
      refine sw_aload_n X 1 rfl rfl dc_H_keepParts_96 ?_
      refine sw_get X (fun z hz => List.mem_cons_of_mem _ (wf_H z hz)) 14 (wd_14 cI cL cZ ad u84.1 (st_v u84.2 19 (v3).toNatClampNeg (u84.2 18 (x84).toNatClampNeg)) r o) rfl 5 (by decide) (List.mem_cons_of_mem _ wm_fl_H_19) rfl dc_H_keepParts_97 ?_
      refine sw_lload X 3 rfl dc_H_keepParts_100 ?_
      refine sw_cS_i (n := 1) X hA nw_okA hNs hE (fun u : st_S => wd_W cI cL cZ ad u.1 u.2 r o) [.long v5] (ct_H_detailOf l D cI cL cZ ad r o v5 u84.1 (st_v u84.2 19 (v3).toNatClampNeg (u84.2 18 (x84).toNatClampNeg)) _ h) (List.mem_cons_of_mem _ wm_ml_H_62) (List.mem_cons_of_mem _ wm_st_H_detailOf) rfl (wg_in wm_code_H_detailOf) rfl rfl (List.mem_cons_of_mem _ wm_in_H) ⟨by decide, by decide, by decide +kernel⟩ ⟨Nat.le_of_ble_eq_true rfl, Nat.le_of_ble_eq_true rfl⟩ ⟨Nat.zero_le _, Nat.zero_le _⟩ rfl (Nat.le_of_ble_eq_true rfl) dc_H_keepParts_102 rfl (fun x102 u102 h => ?_)
      refine sw_lald X 17 1 (wd_17 cI cL cZ ad u102.1 u102.2 r o) rfl h.1 dc_H_keepParts_105 ?_
      have h := h.2
      refine sw_last X 19 1 (wd_19 cI cL cZ ad u102.1 u102.2 r o) rfl h.1 (wd_W cI cL cZ ad u102.1 (st_v u102.2 19 ((v3 + (1 : Int32))).toNatClampNeg (u102.2 17 (x102).toNatClampNeg)) r o) (ws_19 cI cL cZ ad u102.1 u102.2 r o ((v3 + (1 : Int32))).toNatClampNeg (u102.2 17 (x102).toNatClampNeg)) dc_H_keepParts_106 ?_
      have h := h.2
      refine sw_iinc (n := 2) (v := (v3 + 2)) X 2 rfl rfl [(3, .int (v3 + 2)), (4, .int (v4 + 1)), (0, .ref (ad 14)), (5, .long v5)] rfl (by decide) dc_H_keepParts_107 ?_
      refine sw_sub [2, 0, 1] rfl ?_
      exact b110 H12 hH12 u102.1 (st_v u102.2 19 ((v3 + (1 : Int32))).toNatClampNeg (u102.2 17 (x102).toNatClampNeg)) (v3 + 2) (v4 + 1) h
  have b12 : ∀ (n : Nat) (g : st_I) (q : st_L) (v3 : Int32) (v4 : Int32), wp_H_keepParts_L12 Q n g q v3 v4 → sw_J p l e { frames := 2, cells := 0, slots := 0, locals := 42 } s m args below meth c 0 0 (MQ below (va_Qv Q (fun u t => wq_E D cl_A (wd_T cI cL cZ) A (wd_W cI cL cZ ad u.1 u.2 r o) t) A) args s 0 0 A) D cl_A A 7 (wd_W cI cL cZ ad g q r o) 12 [(0, .ref (ad 14)), (3, .int v3), (4, .int v4)] [] := by
    intro n12
    induction n12 with
    | zero => intro g q v3 v4 h; exact h.elim
    | succ n12 hH12 =>
    intro g q v3 v4 h
    refine sw_iload_n X 1 rfl rfl dc_H_keepParts_12 ?_
    refine sw_if_le (tgt := 113) X dc_H_keepParts_13 (by decide) (fun z => ?_) (fun z => ?_)
    · have h := h.1 z
      refine sw_sub [0, 2] rfl ?_
      exact b113 g q v4 h
    · have h := h.2 z
      refine sw_iload X 2 rfl dc_H_keepParts_16 ?_
      refine sw_bipush (v := 60) X dc_H_keepParts_18 (by decide) ?_
      refine sw_icmp_ge (tgt := 113) X dc_H_keepParts_20 (by decide) (fun z => ?_) (fun z => ?_)
      · have h := h.1 z
        refine sw_sub [0, 2] rfl ?_
        exact b113 g q v4 h
      · have h := h.2 z
        refine sw_iinc (n := -1) (v := (v3 + (-1))) X 1 rfl rfl [(3, .int (v3 + (-1))), (0, .ref (ad 14)), (4, .int v4)] rfl (by decide) dc_H_keepParts_23 ?_
        refine sw_aload_n X 1 rfl rfl dc_H_keepParts_26 ?_
        refine sw_get X (fun z hz => List.mem_cons_of_mem _ (wf_H z hz)) 14 (wd_14 cI cL cZ ad g q r o) rfl 7 (by decide) (List.mem_cons_of_mem _ wm_fl_H_25) rfl dc_H_keepParts_27 ?_
        refine sw_iload_n X 0 rfl rfl dc_H_keepParts_30 ?_
        refine sw_lald X 19 1 (wd_19 cI cL cZ ad g q r o) rfl h.1 dc_H_keepParts_31 ?_
        have h := h.2
        refine sw_lstore X [(5, .long (q 19 ((v3 + (-1))).toNatClampNeg)), (3, .int (v3 + (-1))), (0, .ref (ad 14)), (4, .int v4)] rfl (by decide) dc_H_keepParts_32 ?_
        refine sw_aload_n X 2 rfl rfl dc_H_keepParts_34 ?_
        refine sw_get X (fun z hz => List.mem_cons_of_mem _ (wf_H z hz)) 14 (wd_14 cI cL cZ ad g q r o) rfl 0 (by decide) (List.mem_cons_of_mem _ wm_fl_H_11) rfl dc_H_keepParts_35 ?_
        refine sw_iload X 3 rfl dc_H_keepParts_38 ?_
        refine sw_lload X 0 rfl dc_H_keepParts_40 ?_
        refine sw_cS_i (n := 1) X hA nw_okA hNs hE (fun u : st_S => wd_W cI cL cZ ad u.1 u.2 r o) [.long (q 19 ((v3 + (-1))).toNatClampNeg)] (ct_H_isNumber l D cI cL cZ ad r o (q 19 ((v3 + (-1))).toNatClampNeg) g q _ h) (List.mem_cons_of_mem _ wm_ml_H_58) (List.mem_cons_of_mem _ wm_st_H_isNumber) rfl (wg_in wm_code_H_isNumber) rfl rfl (List.mem_cons_of_mem _ wm_in_H) ⟨by decide, by decide, by decide +kernel⟩ ⟨Nat.le_of_ble_eq_true rfl, Nat.le_of_ble_eq_true rfl⟩ ⟨Nat.zero_le _, Nat.zero_le _⟩ rfl (Nat.le_of_ble_eq_true rfl) dc_H_keepParts_42 rfl (fun x42 u42 h => ?_)
        refine sw_if_eq (tgt := 56) X dc_H_keepParts_45 (by decide) (fun z => ?_) (fun z => ?_)
        · have h := h.1 z
          refine sw_lload X 0 rfl dc_H_keepParts_56 ?_
          refine sw_cS_i (n := 1) X hA nw_okA hNs hE (fun u : st_S => wd_W cI cL cZ ad u.1 u.2 r o) [.long (q 19 ((v3 + (-1))).toNatClampNeg)] (ct_H_kindOf l D cI cL cZ ad r o (q 19 ((v3 + (-1))).toNatClampNeg) u42.1 u42.2 _ h) (List.mem_cons_of_mem _ wm_ml_H_66) (List.mem_cons_of_mem _ wm_st_H_kindOf) rfl (wg_in wm_code_H_kindOf) rfl rfl (List.mem_cons_of_mem _ wm_in_H) ⟨by decide, by decide, by decide +kernel⟩ ⟨Nat.le_of_ble_eq_true rfl, Nat.le_of_ble_eq_true rfl⟩ ⟨Nat.zero_le _, Nat.zero_le _⟩ rfl (Nat.le_of_ble_eq_true rfl) dc_H_keepParts_58 rfl (fun x58 u58 h => ?_)
          refine sw_sub [2, 1, 3, 0] rfl ?_
          exact b61 (wp_H_keepParts_L12 Q n12) hH12 u58.1 u58.2 (v3 + (-1)) v4 (q 19 ((v3 + (-1))).toNatClampNeg) x58 v4 h
        · have h := h.2 z
          refine sw_lload X 0 rfl dc_H_keepParts_48 ?_
          refine sw_cS_i (n := 1) X hA nw_okA hNs hE (fun u : st_S => wd_W cI cL cZ ad u.1 u.2 r o) [.long (q 19 ((v3 + (-1))).toNatClampNeg)] (ct_H_detailOf l D cI cL cZ ad r o (q 19 ((v3 + (-1))).toNatClampNeg) u42.1 u42.2 _ h) (List.mem_cons_of_mem _ wm_ml_H_62) (List.mem_cons_of_mem _ wm_st_H_detailOf) rfl (wg_in wm_code_H_detailOf) rfl rfl (List.mem_cons_of_mem _ wm_in_H) ⟨by decide, by decide, by decide +kernel⟩ ⟨Nat.le_of_ble_eq_true rfl, Nat.le_of_ble_eq_true rfl⟩ ⟨Nat.zero_le _, Nat.zero_le _⟩ rfl (Nat.le_of_ble_eq_true rfl) dc_H_keepParts_50 rfl (fun x50 u50 h => ?_)
          refine sw_goto (tgt := 61) X dc_H_keepParts_53 (by decide) ?_
          refine sw_sub [2, 1, 3, 0] rfl ?_
          exact b61 (wp_H_keepParts_L12 Q n12) hH12 u50.1 u50.2 (v3 + (-1)) v4 (q 19 ((v3 + (-1))).toNatClampNeg) x50 v4 h
  refine sw_aload_n X 0 rfl rfl dc_H_keepParts_0 ?_
  refine sw_get X (fun z hz => List.mem_cons_of_mem _ (wf_H z hz)) 14 (wd_14 cI cL cZ ad g q r o) rfl 7 (by decide) (List.mem_cons_of_mem _ wm_fl_H_25) rfl dc_H_keepParts_1 ?_
  refine sw_iconst (v := 0) X dc_H_keepParts_4 (by decide) ?_
  refine sw_lload_n X 1 rfl rfl dc_H_keepParts_5 ?_
  refine sw_last X 19 1 (wd_19 cI cL cZ ad g q r o) rfl h.1 (wd_W cI cL cZ ad g (st_v q 19 ((0 : Int32)).toNatClampNeg a1) r o) (ws_19 cI cL cZ ad g q r o ((0 : Int32)).toNatClampNeg a1) dc_H_keepParts_6 ?_
  have h := h.2
  refine sw_iconst (v := 1) X dc_H_keepParts_7 (by decide) ?_
  refine sw_istore_n X [(3, .int (1 : Int32)), (0, .ref (ad 14)), (1, .long a1)] rfl (by decide) rfl dc_H_keepParts_8 ?_
  refine sw_iconst (v := 0) X dc_H_keepParts_9 (by decide) ?_
  refine sw_istore X [(4, .int (0 : Int32)), (3, .int (1 : Int32)), (0, .ref (ad 14)), (1, .long a1)] rfl (by decide) dc_H_keepParts_10 ?_
  refine sw_sub [2, 1, 0] rfl ?_
  obtain ⟨n12, h⟩ := h
  exact b12 n12 g (st_v q 19 ((0 : Int32)).toNatClampNeg a1) (1 : Int32) (0 : Int32) h
def wp_H_headOrTail_L70 (K : Int32 → Int32 → st_I → st_L → (Int64 → st_S → Prop) → Prop) (Q : (Int64 → st_S → Prop)) (g : st_I) (q : st_L) (t0 : Int64) : Prop := Q t0 (g, q)
def wp_H_headOrTail (K : Int32 → Int32 → st_I → st_L → (Int64 → st_S → Prop) → Prop) (a1 : Int32) (a2 : Int32) (g : st_I) (q : st_L) (Q : (Int64 → st_S → Prop)) : Prop := vp_in a1 91 ∧ K (g 4 (a1).toNatClampNeg) a2 g q (fun x11 u11 => (0 ≤ (lg_cmp x11 (0 : Int64)) → wp_H_isPair x11 u11.1 u11.2 (fun x24 u24 => (¬ x24 = 0 → vp_in a1 91 ∧ (¬ (u24.1 2 (a1).toNatClampNeg) = (7 : Int32) → wp_H_detailOf x11 u24.1 u24.2 (fun x66 u66 => vp_in x66 40 ∧ wp_H_headOrTail_L70 K Q u66.1 u66.2 (u66.2 18 (x66).toNatClampNeg))) ∧ ((u24.1 2 (a1).toNatClampNeg) = (7 : Int32) → wp_H_detailOf x11 u24.1 u24.2 (fun x54 u54 => vp_in x54 40 ∧ wp_H_headOrTail_L70 K Q u54.1 u54.2 (u54.2 17 (x54).toNatClampNeg)))) ∧ (x24 = 0 → wp_H_fail  u24.1 u24.2 (fun x31 u31 => Q x31 (u31.1, u31.2))))) ∧ (¬ 0 ≤ (lg_cmp x11 (0 : Int64)) → Q x11 (u11.1, u11.2)))
set_option maxHeartbeats 4000000 in
set_option maxRecDepth 100000 in
theorem ct_H_headOrTail (l : Launch) (D : va_G) (cI cL cZ : ClassId) (ad : Nat → Nat) (r : st_I) (o : st_L) (f lo : Nat) (K : Int32 → Int32 → st_I → st_L → (Int64 → st_S → Prop) → Prop) (hK : ∀ (b0 : Int32) (b1 : Int32) (g : st_I) (q : st_L) (Q : (Int64 → st_S → Prop)), K b0 b1 g q Q → ∀ sz, Met l yn_H_workOut (Cond.code yn_H_workOut cd_H_workOut 4 (some .long) :: wa_A) { frames := f, cells := 0, slots := 0, locals := lo } (va_Pc [.ref (ad 14), .int b0, .int b1] (wq_S D cl_A (wd_T cI cL cZ) nw_A (wd_W cI cL cZ ad g q r o) sz)) (va_Ql Q (fun u t => wq_E D cl_A (wd_T cI cL cZ) (va_A (wd_W cI cL cZ ad g q r o) sz) (wd_W cI cL cZ ad u.1 u.2 r o) t) (va_A (wd_W cI cL cZ ad g q r o) sz)) 0 0 (va_A (wd_W cI cL cZ ad g q r o) sz)) (a1 : Int32) (a2 : Int32) (g : st_I) (q : st_L) (Q : (Int64 → st_S → Prop)) (h : wp_H_headOrTail K a1 a2 g q Q) : ∀ sz, Met l yn_H_headOrTail (Cond.code yn_H_headOrTail cd_H_headOrTail 5 (some .long) :: wa_A) { frames := f + 2, cells := 0, slots := 0, locals := lo + 42 } (va_Pc [.ref (ad 14), .int a1, .int a2] (wq_S D cl_A (wd_T cI cL cZ) nw_A (wd_W cI cL cZ ad g q r o) sz)) (va_Ql Q (fun u t => wq_E D cl_A (wd_T cI cL cZ) (va_A (wd_W cI cL cZ ad g q r o) sz) (wd_W cI cL cZ ad u.1 u.2 r o) t) (va_A (wd_W cI cL cZ ad g q r o) sz)) 0 0 (va_A (wd_W cI cL cZ ad g q r o) sz) := by
  refine sw_met (Qc := fun A => va_Ql Q (fun u t => wq_E D cl_A (wd_T cI cL cZ) A (wd_W cI cL cZ ad u.1 u.2 r o) t) A) (by decide) rfl (Nat.le_of_ble_eq_true rfl) rfl ?_
  intro p e s m args below meth c A X hA hNs hE hr hlk hnm
  have b70 : ∀ (g : st_I) (q : st_L) (t0 : Int64), wp_H_headOrTail_L70 K Q g q t0 → sw_J p l e { frames := f + 2, cells := 0, slots := 0, locals := lo + 42 } s m args below meth c 0 0 (MQ below (va_Ql Q (fun u t => wq_E D cl_A (wd_T cI cL cZ) A (wd_W cI cL cZ ad u.1 u.2 r o) t) A) args s 0 0 A) D cl_A A 5 (wd_W cI cL cZ ad g q r o) 70 [] [.long t0] := by
    intro g q t0 h
    exact sw_lret X hr hlk (u := (g, q)) rfl h dc_H_headOrTail_70
  refine sw_aload_n X 0 rfl rfl dc_H_headOrTail_0 ?_
  refine sw_aload_n X 0 rfl rfl dc_H_headOrTail_1 ?_
  refine sw_get X (fun z hz => List.mem_cons_of_mem _ (wf_H z hz)) 14 (wd_14 cI cL cZ ad g q r o) rfl 3 (by decide) (List.mem_cons_of_mem _ wm_fl_H_28) rfl dc_H_headOrTail_2 ?_
  refine sw_get X (fun z hz => List.mem_cons_of_mem _ (wf_P z hz)) 1 (wd_1 cI cL cZ ad g q r o) rfl 2 (by decide) (List.mem_cons_of_mem _ wm_fl_H_102) rfl dc_H_headOrTail_5 ?_
  refine sw_iload_n X 1 rfl rfl dc_H_headOrTail_8 ?_
  refine sw_iald X 4 0 (wd_4 cI cL cZ ad g q r o) rfl h.1 dc_H_headOrTail_9 ?_
  have h := h.2
  refine sw_iload_n X 2 rfl rfl dc_H_headOrTail_10 ?_
  refine sw_cV_l (n := 2) X hA nw_okA hNs hE (fun u : st_S => wd_W cI cL cZ ad u.1 u.2 r o) [.int (g 4 (a1).toNatClampNeg), .int a2] 14 (wd_14 cI cL cZ ad g q r o) rfl rfl (hK (g 4 (a1).toNatClampNeg) a2 g q _ h) (List.mem_cons_of_mem _ wm_ml_H_123) (List.mem_cons_of_mem _ wm_im_H_workOut) (List.mem_cons_of_mem _ wm_se_H_workOut) rfl (wg_in wm_code_H_workOut) rfl rfl (List.mem_cons_of_mem _ wm_in_H) ⟨by decide, by decide, by decide +kernel⟩ ⟨by dsimp only; omega, by dsimp only; omega⟩ ⟨Nat.zero_le _, Nat.zero_le _⟩ rfl (Nat.le_of_ble_eq_true rfl) dc_H_headOrTail_11 rfl (fun x11 u11 h => ?_)
  refine sw_lstore_n X [(3, .long x11), (0, .ref (ad 14)), (1, .int a1), (2, .int a2)] rfl (by decide) rfl dc_H_headOrTail_14 ?_
  refine sw_lload_n X 0 rfl rfl dc_H_headOrTail_15 ?_
  refine sw_lconst (v := 0) X dc_H_headOrTail_16 (by decide) ?_
  refine sw_lcmp X dc_H_headOrTail_17 ?_
  refine sw_if_ge (tgt := 23) X dc_H_headOrTail_18 (by decide) (fun z => ?_) (fun z => ?_)
  · have h := h.1 z
    refine sw_lload_n X 0 rfl rfl dc_H_headOrTail_23 ?_
    refine sw_cS_i (n := 1) X hA nw_okA hNs hE (fun u : st_S => wd_W cI cL cZ ad u.1 u.2 r o) [.long x11] (ct_H_isPair l D cI cL cZ ad r o x11 u11.1 u11.2 _ h) (List.mem_cons_of_mem _ wm_ml_H_69) (List.mem_cons_of_mem _ wm_st_H_isPair) rfl (wg_in wm_code_H_isPair) rfl rfl (List.mem_cons_of_mem _ wm_in_H) ⟨by decide, by decide, by decide +kernel⟩ ⟨by dsimp only; omega, by dsimp only; omega⟩ ⟨Nat.zero_le _, Nat.zero_le _⟩ rfl (Nat.le_of_ble_eq_true rfl) dc_H_headOrTail_24 rfl (fun x24 u24 h => ?_)
    refine sw_if_ne (tgt := 35) X dc_H_headOrTail_27 (by decide) (fun z => ?_) (fun z => ?_)
    · have h := h.1 z
      refine sw_aload_n X 1 rfl rfl dc_H_headOrTail_35 ?_
      refine sw_get X (fun z hz => List.mem_cons_of_mem _ (wf_H z hz)) 14 (wd_14 cI cL cZ ad u24.1 u24.2 r o) rfl 3 (by decide) (List.mem_cons_of_mem _ wm_fl_H_28) rfl dc_H_headOrTail_36 ?_
      refine sw_get X (fun z hz => List.mem_cons_of_mem _ (wf_P z hz)) 1 (wd_1 cI cL cZ ad u24.1 u24.2 r o) rfl 0 (by decide) (List.mem_cons_of_mem _ wm_fl_H_82) rfl dc_H_headOrTail_39 ?_
      refine sw_iload_n X 2 rfl rfl dc_H_headOrTail_42 ?_
      refine sw_iald X 2 0 (wd_2 cI cL cZ ad u24.1 u24.2 r o) rfl h.1 dc_H_headOrTail_43 ?_
      have h := h.2
      refine sw_bipush (v := 7) X dc_H_headOrTail_44 (by decide) ?_
      refine sw_icmp_ne (tgt := 61) X dc_H_headOrTail_46 (by decide) (fun z => ?_) (fun z => ?_)
      · have h := h.1 z
        refine sw_aload_n X 1 rfl rfl dc_H_headOrTail_61 ?_
        refine sw_get X (fun z hz => List.mem_cons_of_mem _ (wf_H z hz)) 14 (wd_14 cI cL cZ ad u24.1 u24.2 r o) rfl 6 (by decide) (List.mem_cons_of_mem _ wm_fl_H_22) rfl dc_H_headOrTail_62 ?_
        refine sw_lload_n X 0 rfl rfl dc_H_headOrTail_65 ?_
        refine sw_cS_i (n := 1) X hA nw_okA hNs hE (fun u : st_S => wd_W cI cL cZ ad u.1 u.2 r o) [.long x11] (ct_H_detailOf l D cI cL cZ ad r o x11 u24.1 u24.2 _ h) (List.mem_cons_of_mem _ wm_ml_H_62) (List.mem_cons_of_mem _ wm_st_H_detailOf) rfl (wg_in wm_code_H_detailOf) rfl rfl (List.mem_cons_of_mem _ wm_in_H) ⟨by decide, by decide, by decide +kernel⟩ ⟨by dsimp only; omega, by dsimp only; omega⟩ ⟨Nat.zero_le _, Nat.zero_le _⟩ rfl (Nat.le_of_ble_eq_true rfl) dc_H_headOrTail_66 rfl (fun x66 u66 h => ?_)
        refine sw_lald X 18 1 (wd_18 cI cL cZ ad u66.1 u66.2 r o) rfl h.1 dc_H_headOrTail_69 ?_
        have h := h.2
        refine sw_sub [] rfl ?_
        exact b70 u66.1 u66.2 (u66.2 18 (x66).toNatClampNeg) h
      · have h := h.2 z
        refine sw_aload_n X 1 rfl rfl dc_H_headOrTail_49 ?_
        refine sw_get X (fun z hz => List.mem_cons_of_mem _ (wf_H z hz)) 14 (wd_14 cI cL cZ ad u24.1 u24.2 r o) rfl 5 (by decide) (List.mem_cons_of_mem _ wm_fl_H_19) rfl dc_H_headOrTail_50 ?_
        refine sw_lload_n X 0 rfl rfl dc_H_headOrTail_53 ?_
        refine sw_cS_i (n := 1) X hA nw_okA hNs hE (fun u : st_S => wd_W cI cL cZ ad u.1 u.2 r o) [.long x11] (ct_H_detailOf l D cI cL cZ ad r o x11 u24.1 u24.2 _ h) (List.mem_cons_of_mem _ wm_ml_H_62) (List.mem_cons_of_mem _ wm_st_H_detailOf) rfl (wg_in wm_code_H_detailOf) rfl rfl (List.mem_cons_of_mem _ wm_in_H) ⟨by decide, by decide, by decide +kernel⟩ ⟨by dsimp only; omega, by dsimp only; omega⟩ ⟨Nat.zero_le _, Nat.zero_le _⟩ rfl (Nat.le_of_ble_eq_true rfl) dc_H_headOrTail_54 rfl (fun x54 u54 h => ?_)
        refine sw_lald X 17 1 (wd_17 cI cL cZ ad u54.1 u54.2 r o) rfl h.1 dc_H_headOrTail_57 ?_
        have h := h.2
        refine sw_goto (tgt := 70) X dc_H_headOrTail_58 (by decide) ?_
        refine sw_sub [] rfl ?_
        exact b70 u54.1 u54.2 (u54.2 17 (x54).toNatClampNeg) h
    · have h := h.2 z
      refine sw_aload_n X 1 rfl rfl dc_H_headOrTail_30 ?_
      refine sw_cV_l (n := 0) X hA nw_okA hNs hE (fun u : st_S => wd_W cI cL cZ ad u.1 u.2 r o) [] 14 (wd_14 cI cL cZ ad u24.1 u24.2 r o) rfl rfl (ct_H_fail l D cI cL cZ ad r o u24.1 u24.2 _ h) (List.mem_cons_of_mem _ wm_ml_H_114) (List.mem_cons_of_mem _ wm_im_H_fail) (List.mem_cons_of_mem _ wm_se_H_fail) rfl (wg_in wm_code_H_fail) rfl rfl (List.mem_cons_of_mem _ wm_in_H) ⟨by decide, by decide, by decide +kernel⟩ ⟨by dsimp only; omega, by dsimp only; omega⟩ ⟨Nat.zero_le _, Nat.zero_le _⟩ rfl (Nat.le_of_ble_eq_true rfl) dc_H_headOrTail_31 rfl (fun x31 u31 h => ?_)
      exact sw_lret X hr hlk (u := (u31.1, u31.2)) rfl h dc_H_headOrTail_34
  · have h := h.2 z
    refine sw_lload_n X 0 rfl rfl dc_H_headOrTail_21 ?_
    exact sw_lret X hr hlk (u := (u11.1, u11.2)) rfl h dc_H_headOrTail_22
def wp_H_oneOfCase_L68 (K : Int32 → Int32 → st_I → st_L → (Int64 → st_S → Prop) → Prop) (Q : (Int64 → st_S → Prop)) (g : st_I) (q : st_L) (v2 : Int32) (t0 : Int32) : Prop := K t0 v2 g q (fun x69 u69 => Q x69 (u69.1, u69.2))
def wp_H_oneOfCase (K : Int32 → Int32 → st_I → st_L → (Int64 → st_S → Prop) → Prop) (a1 : Int32) (a2 : Int32) (g : st_I) (q : st_L) (Q : (Int64 → st_S → Prop)) : Prop := vp_in a1 91 ∧ K (g 4 (a1).toNatClampNeg) a2 g q (fun x11 u11 => (0 ≤ (lg_cmp x11 (0 : Int64)) → vp_in a1 91 ∧ wp_H_kindOf x11 u11.1 u11.2 (fun x33 u33 => wp_K_has (u11.1 3 (a1).toNatClampNeg) x33 u33.1 u33.2 (fun x36 u36 => (x36 = 0 → vp_in a1 91 ∧ wp_H_oneOfCase_L68 K Q u36.1 u36.2 a2 (u36.1 6 (a1).toNatClampNeg)) ∧ (¬ x36 = 0 → vp_in a1 91 ∧ wp_H_oneOfCase_L68 K Q u36.1 u36.2 a2 (u36.1 5 (a1).toNatClampNeg))))) ∧ (¬ 0 ≤ (lg_cmp x11 (0 : Int64)) → Q x11 (u11.1, u11.2)))
set_option maxHeartbeats 4000000 in
set_option maxRecDepth 100000 in
theorem ct_H_oneOfCase (l : Launch) (D : va_G) (cI cL cZ : ClassId) (ad : Nat → Nat) (r : st_I) (o : st_L) (f lo : Nat) (K : Int32 → Int32 → st_I → st_L → (Int64 → st_S → Prop) → Prop) (hK : ∀ (b0 : Int32) (b1 : Int32) (g : st_I) (q : st_L) (Q : (Int64 → st_S → Prop)), K b0 b1 g q Q → ∀ sz, Met l yn_H_workOut (Cond.code yn_H_workOut cd_H_workOut 4 (some .long) :: wa_A) { frames := f, cells := 0, slots := 0, locals := lo } (va_Pc [.ref (ad 14), .int b0, .int b1] (wq_S D cl_A (wd_T cI cL cZ) nw_A (wd_W cI cL cZ ad g q r o) sz)) (va_Ql Q (fun u t => wq_E D cl_A (wd_T cI cL cZ) (va_A (wd_W cI cL cZ ad g q r o) sz) (wd_W cI cL cZ ad u.1 u.2 r o) t) (va_A (wd_W cI cL cZ ad g q r o) sz)) 0 0 (va_A (wd_W cI cL cZ ad g q r o) sz)) (a1 : Int32) (a2 : Int32) (g : st_I) (q : st_L) (Q : (Int64 → st_S → Prop)) (h : wp_H_oneOfCase K a1 a2 g q Q) : ∀ sz, Met l yn_H_oneOfCase (Cond.code yn_H_oneOfCase cd_H_oneOfCase 6 (some .long) :: wa_A) { frames := f + 1, cells := 0, slots := 0, locals := lo + 23 } (va_Pc [.ref (ad 14), .int a1, .int a2] (wq_S D cl_A (wd_T cI cL cZ) nw_A (wd_W cI cL cZ ad g q r o) sz)) (va_Ql Q (fun u t => wq_E D cl_A (wd_T cI cL cZ) (va_A (wd_W cI cL cZ ad g q r o) sz) (wd_W cI cL cZ ad u.1 u.2 r o) t) (va_A (wd_W cI cL cZ ad g q r o) sz)) 0 0 (va_A (wd_W cI cL cZ ad g q r o) sz) := by
  refine sw_met (Qc := fun A => va_Ql Q (fun u t => wq_E D cl_A (wd_T cI cL cZ) A (wd_W cI cL cZ ad u.1 u.2 r o) t) A) (by decide) rfl (Nat.le_of_ble_eq_true rfl) rfl ?_
  intro p e s m args below meth c A X hA hNs hE hr hlk hnm
  have b68 : ∀ (g : st_I) (q : st_L) (v2 : Int32) (t0 : Int32), wp_H_oneOfCase_L68 K Q g q v2 t0 → sw_J p l e { frames := f + 1, cells := 0, slots := 0, locals := lo + 23 } s m args below meth c 0 0 (MQ below (va_Ql Q (fun u t => wq_E D cl_A (wd_T cI cL cZ) A (wd_W cI cL cZ ad u.1 u.2 r o) t) A) args s 0 0 A) D cl_A A 6 (wd_W cI cL cZ ad g q r o) 68 [(2, .int v2)] [.int t0, .ref (ad 14)] := by
    intro g q v2 t0 h
    refine sw_iload_n X 0 rfl rfl dc_H_oneOfCase_68 ?_
    refine sw_cV_l (n := 2) X hA nw_okA hNs hE (fun u : st_S => wd_W cI cL cZ ad u.1 u.2 r o) [.int t0, .int v2] 14 (wd_14 cI cL cZ ad g q r o) rfl rfl (hK t0 v2 g q _ h) (List.mem_cons_of_mem _ wm_ml_H_123) (List.mem_cons_of_mem _ wm_im_H_workOut) (List.mem_cons_of_mem _ wm_se_H_workOut) rfl (wg_in wm_code_H_workOut) rfl rfl (List.mem_cons_of_mem _ wm_in_H) ⟨by decide, by decide, by decide +kernel⟩ ⟨by dsimp only; omega, by dsimp only; omega⟩ ⟨Nat.zero_le _, Nat.zero_le _⟩ rfl (Nat.le_of_ble_eq_true rfl) dc_H_oneOfCase_69 rfl (fun x69 u69 h => ?_)
    exact sw_lret X hr hlk (u := (u69.1, u69.2)) rfl h dc_H_oneOfCase_72
  refine sw_aload_n X 0 rfl rfl dc_H_oneOfCase_0 ?_
  refine sw_aload_n X 0 rfl rfl dc_H_oneOfCase_1 ?_
  refine sw_get X (fun z hz => List.mem_cons_of_mem _ (wf_H z hz)) 14 (wd_14 cI cL cZ ad g q r o) rfl 3 (by decide) (List.mem_cons_of_mem _ wm_fl_H_28) rfl dc_H_oneOfCase_2 ?_
  refine sw_get X (fun z hz => List.mem_cons_of_mem _ (wf_P z hz)) 1 (wd_1 cI cL cZ ad g q r o) rfl 2 (by decide) (List.mem_cons_of_mem _ wm_fl_H_102) rfl dc_H_oneOfCase_5 ?_
  refine sw_iload_n X 1 rfl rfl dc_H_oneOfCase_8 ?_
  refine sw_iald X 4 0 (wd_4 cI cL cZ ad g q r o) rfl h.1 dc_H_oneOfCase_9 ?_
  have h := h.2
  refine sw_iload_n X 2 rfl rfl dc_H_oneOfCase_10 ?_
  refine sw_cV_l (n := 2) X hA nw_okA hNs hE (fun u : st_S => wd_W cI cL cZ ad u.1 u.2 r o) [.int (g 4 (a1).toNatClampNeg), .int a2] 14 (wd_14 cI cL cZ ad g q r o) rfl rfl (hK (g 4 (a1).toNatClampNeg) a2 g q _ h) (List.mem_cons_of_mem _ wm_ml_H_123) (List.mem_cons_of_mem _ wm_im_H_workOut) (List.mem_cons_of_mem _ wm_se_H_workOut) rfl (wg_in wm_code_H_workOut) rfl rfl (List.mem_cons_of_mem _ wm_in_H) ⟨by decide, by decide, by decide +kernel⟩ ⟨by dsimp only; omega, by dsimp only; omega⟩ ⟨Nat.zero_le _, Nat.zero_le _⟩ rfl (Nat.le_of_ble_eq_true rfl) dc_H_oneOfCase_11 rfl (fun x11 u11 h => ?_)
  refine sw_lstore_n X [(3, .long x11), (0, .ref (ad 14)), (1, .int a1), (2, .int a2)] rfl (by decide) rfl dc_H_oneOfCase_14 ?_
  refine sw_lload_n X 0 rfl rfl dc_H_oneOfCase_15 ?_
  refine sw_lconst (v := 0) X dc_H_oneOfCase_16 (by decide) ?_
  refine sw_lcmp X dc_H_oneOfCase_17 ?_
  refine sw_if_ge (tgt := 23) X dc_H_oneOfCase_18 (by decide) (fun z => ?_) (fun z => ?_)
  · have h := h.1 z
    refine sw_aload_n X 1 rfl rfl dc_H_oneOfCase_23 ?_
    refine sw_get X (fun z hz => List.mem_cons_of_mem _ (wf_H z hz)) 14 (wd_14 cI cL cZ ad u11.1 u11.2 r o) rfl 3 (by decide) (List.mem_cons_of_mem _ wm_fl_H_28) rfl dc_H_oneOfCase_24 ?_
    refine sw_get X (fun z hz => List.mem_cons_of_mem _ (wf_P z hz)) 1 (wd_1 cI cL cZ ad u11.1 u11.2 r o) rfl 1 (by decide) (List.mem_cons_of_mem _ wm_fl_H_77) rfl dc_H_oneOfCase_27 ?_
    refine sw_iload_n X 2 rfl rfl dc_H_oneOfCase_30 ?_
    refine sw_iald X 3 0 (wd_3 cI cL cZ ad u11.1 u11.2 r o) rfl h.1 dc_H_oneOfCase_31 ?_
    have h := h.2
    refine sw_lload_n X 0 rfl rfl dc_H_oneOfCase_32 ?_
    refine sw_cS_i (n := 1) X hA nw_okA hNs hE (fun u : st_S => wd_W cI cL cZ ad u.1 u.2 r o) [.long x11] (ct_H_kindOf l D cI cL cZ ad r o x11 u11.1 u11.2 _ h) (List.mem_cons_of_mem _ wm_ml_H_66) (List.mem_cons_of_mem _ wm_st_H_kindOf) rfl (wg_in wm_code_H_kindOf) rfl rfl (List.mem_cons_of_mem _ wm_in_H) ⟨by decide, by decide, by decide +kernel⟩ ⟨by dsimp only; omega, by dsimp only; omega⟩ ⟨Nat.zero_le _, Nat.zero_le _⟩ rfl (Nat.le_of_ble_eq_true rfl) dc_H_oneOfCase_33 rfl (fun x33 u33 h => ?_)
    refine sw_cS_i (n := 2) X hA nw_okA hNs hE (fun u : st_S => wd_W cI cL cZ ad u.1 u.2 r o) [.int (u11.1 3 (a1).toNatClampNeg), .int x33] (ct_K_has l D cI cL cZ ad r o (u11.1 3 (a1).toNatClampNeg) x33 u33.1 u33.2 _ h) (List.mem_cons_of_mem _ wm_ml_H_126) (List.mem_cons_of_mem _ wm_st_K_has) rfl (wg_in wm_code_K_has) rfl rfl (List.mem_cons_of_mem _ wm_in_K) ⟨by decide, by decide, by decide +kernel⟩ ⟨by dsimp only; omega, by dsimp only; omega⟩ ⟨Nat.zero_le _, Nat.zero_le _⟩ rfl (Nat.le_of_ble_eq_true rfl) dc_H_oneOfCase_36 rfl (fun x36 u36 h => ?_)
    refine sw_istore X [(5, .int x36), (3, .long x11), (0, .ref (ad 14)), (1, .int a1), (2, .int a2)] rfl (by decide) dc_H_oneOfCase_39 ?_
    refine sw_aload_n X 2 rfl rfl dc_H_oneOfCase_41 ?_
    refine sw_iload X 0 rfl dc_H_oneOfCase_42 ?_
    refine sw_if_eq (tgt := 59) X dc_H_oneOfCase_44 (by decide) (fun z => ?_) (fun z => ?_)
    · have h := h.1 z
      refine sw_aload_n X 2 rfl rfl dc_H_oneOfCase_59 ?_
      refine sw_get X (fun z hz => List.mem_cons_of_mem _ (wf_H z hz)) 14 (wd_14 cI cL cZ ad u36.1 u36.2 r o) rfl 3 (by decide) (List.mem_cons_of_mem _ wm_fl_H_28) rfl dc_H_oneOfCase_60 ?_
      refine sw_get X (fun z hz => List.mem_cons_of_mem _ (wf_P z hz)) 1 (wd_1 cI cL cZ ad u36.1 u36.2 r o) rfl 4 (by decide) (List.mem_cons_of_mem _ wm_fl_H_132) rfl dc_H_oneOfCase_63 ?_
      refine sw_iload_n X 3 rfl rfl dc_H_oneOfCase_66 ?_
      refine sw_iald X 6 0 (wd_6 cI cL cZ ad u36.1 u36.2 r o) rfl h.1 dc_H_oneOfCase_67 ?_
      have h := h.2
      refine sw_sub [4] rfl ?_
      exact b68 u36.1 u36.2 a2 (u36.1 6 (a1).toNatClampNeg) h
    · have h := h.2 z
      refine sw_aload_n X 2 rfl rfl dc_H_oneOfCase_47 ?_
      refine sw_get X (fun z hz => List.mem_cons_of_mem _ (wf_H z hz)) 14 (wd_14 cI cL cZ ad u36.1 u36.2 r o) rfl 3 (by decide) (List.mem_cons_of_mem _ wm_fl_H_28) rfl dc_H_oneOfCase_48 ?_
      refine sw_get X (fun z hz => List.mem_cons_of_mem _ (wf_P z hz)) 1 (wd_1 cI cL cZ ad u36.1 u36.2 r o) rfl 3 (by decide) (List.mem_cons_of_mem _ wm_fl_H_105) rfl dc_H_oneOfCase_51 ?_
      refine sw_iload_n X 3 rfl rfl dc_H_oneOfCase_54 ?_
      refine sw_iald X 5 0 (wd_5 cI cL cZ ad u36.1 u36.2 r o) rfl h.1 dc_H_oneOfCase_55 ?_
      have h := h.2
      refine sw_goto (tgt := 68) X dc_H_oneOfCase_56 (by decide) ?_
      refine sw_sub [4] rfl ?_
      exact b68 u36.1 u36.2 a2 (u36.1 5 (a1).toNatClampNeg) h
  · have h := h.2 z
    refine sw_lload_n X 0 rfl rfl dc_H_oneOfCase_21 ?_
    exact sw_lret X hr hlk (u := (u11.1, u11.2)) rfl h dc_H_oneOfCase_22
def wp_H_callWith_L51 (K : Int32 → Int32 → st_I → st_L → (Int64 → st_S → Prop) → Prop) (Q : (Int64 → st_S → Prop)) (g : st_I) (q : st_L) (v1 : Int32) (v4 : Int32) (v5 : Int64) (v7 : Int64) : Prop := (v4 < (5 : Int32) → vp_in v1 6 ∧ (¬ (g 9 (v1).toNatClampNeg) = ((-1) : Int32) → wp_H_openFrame (v4 + (1 : Int32)) v5 v7 (st_u g 14 2 ((g 14 2) + (1 : Int32))) q (fun u102 => K (g 9 (v1).toNatClampNeg) (v4 + (1 : Int32)) u102.1 u102.2 (fun x112 u112 => Q x112 (u112.1, u112.2)))) ∧ ((g 9 (v1).toNatClampNeg) = ((-1) : Int32) → wp_H_fail  (st_u g 14 2 ((g 14 2) + (1 : Int32))) q (fun x89 u89 => Q x89 (u89.1, u89.2)))) ∧ (¬ v4 < (5 : Int32) → Q (-2 : Int64) (g, q))
def wp_H_callWith (K : Int32 → Int32 → st_I → st_L → (Int64 → st_S → Prop) → Prop) (a1 : Int32) (a2 : Int32) (a3 : Int32) (a4 : Int32) (g : st_I) (q : st_L) (Q : (Int64 → st_S → Prop)) : Prop := K a2 a4 g q (fun x4 u4 => (0 ≤ (lg_cmp x4 (0 : Int64)) → wp_S_parametersOf a1 u4.1 u4.2 (fun x25 u25 => (¬ x25 = (2 : Int32) → wp_H_callWith_L51 K Q u25.1 u25.2 a1 a4 x4 (-3 : Int64)) ∧ (x25 = (2 : Int32) → K a3 a4 u25.1 u25.2 (fun x36 u36 => (0 ≤ (lg_cmp x36 (0 : Int64)) → wp_H_callWith_L51 K Q u36.1 u36.2 a1 a4 x4 x36) ∧ (¬ 0 ≤ (lg_cmp x36 (0 : Int64)) → Q x36 (u36.1, u36.2)))))) ∧ (¬ 0 ≤ (lg_cmp x4 (0 : Int64)) → Q x4 (u4.1, u4.2)))
set_option maxHeartbeats 4000000 in
set_option maxRecDepth 100000 in
theorem ct_H_callWith (l : Launch) (D : va_G) (cI cL cZ : ClassId) (ad : Nat → Nat) (r : st_I) (o : st_L) (f lo : Nat) (K : Int32 → Int32 → st_I → st_L → (Int64 → st_S → Prop) → Prop) (hK : ∀ (b0 : Int32) (b1 : Int32) (g : st_I) (q : st_L) (Q : (Int64 → st_S → Prop)), K b0 b1 g q Q → ∀ sz, Met l yn_H_workOut (Cond.code yn_H_workOut cd_H_workOut 4 (some .long) :: wa_A) { frames := f, cells := 0, slots := 0, locals := lo } (va_Pc [.ref (ad 14), .int b0, .int b1] (wq_S D cl_A (wd_T cI cL cZ) nw_A (wd_W cI cL cZ ad g q r o) sz)) (va_Ql Q (fun u t => wq_E D cl_A (wd_T cI cL cZ) (va_A (wd_W cI cL cZ ad g q r o) sz) (wd_W cI cL cZ ad u.1 u.2 r o) t) (va_A (wd_W cI cL cZ ad g q r o) sz)) 0 0 (va_A (wd_W cI cL cZ ad g q r o) sz)) (a1 : Int32) (a2 : Int32) (a3 : Int32) (a4 : Int32) (g : st_I) (q : st_L) (Q : (Int64 → st_S → Prop)) (h : wp_H_callWith K a1 a2 a3 a4 g q Q) : ∀ sz, Met l yn_H_callWith (Cond.code yn_H_callWith cd_H_callWith 10 (some .long) :: wa_A) { frames := f + 1, cells := 0, slots := 0, locals := lo + 26 } (va_Pc [.ref (ad 14), .int a1, .int a2, .int a3, .int a4] (wq_S D cl_A (wd_T cI cL cZ) nw_A (wd_W cI cL cZ ad g q r o) sz)) (va_Ql Q (fun u t => wq_E D cl_A (wd_T cI cL cZ) (va_A (wd_W cI cL cZ ad g q r o) sz) (wd_W cI cL cZ ad u.1 u.2 r o) t) (va_A (wd_W cI cL cZ ad g q r o) sz)) 0 0 (va_A (wd_W cI cL cZ ad g q r o) sz) := by
  refine sw_met (Qc := fun A => va_Ql Q (fun u t => wq_E D cl_A (wd_T cI cL cZ) A (wd_W cI cL cZ ad u.1 u.2 r o) t) A) (by decide) rfl (Nat.le_of_ble_eq_true rfl) rfl ?_
  intro p e s m args below meth c A X hA hNs hE hr hlk hnm
  have b51 : ∀ (g : st_I) (q : st_L) (v1 : Int32) (v4 : Int32) (v5 : Int64) (v7 : Int64), wp_H_callWith_L51 K Q g q v1 v4 v5 v7 → sw_J p l e { frames := f + 1, cells := 0, slots := 0, locals := lo + 26 } s m args below meth c 0 0 (MQ below (va_Ql Q (fun u t => wq_E D cl_A (wd_T cI cL cZ) A (wd_W cI cL cZ ad u.1 u.2 r o) t) A) args s 0 0 A) D cl_A A 10 (wd_W cI cL cZ ad g q r o) 51 [(0, .ref (ad 14)), (1, .int v1), (4, .int v4), (5, .long v5), (7, .long v7)] [] := by
    intro g q v1 v4 v5 v7 h
    refine sw_iload X 2 rfl dc_H_callWith_51 ?_
    refine sw_iconst (v := 5) X dc_H_callWith_53 (by decide) ?_
    refine sw_icmp_lt (tgt := 61) X dc_H_callWith_54 (by decide) (fun z => ?_) (fun z => ?_)
    · have h := h.1 z
      refine sw_aload_n X 0 rfl rfl dc_H_callWith_61 ?_
      refine sw_dup X dc_H_callWith_62 rfl ?_
      refine sw_get (v := .int (g 14 2)) X (fun z hz => List.mem_cons_of_mem _ (wf_H z hz)) 14 (wd_14 cI cL cZ ad g q r o) rfl 2 (by decide) (List.mem_cons_of_mem _ wm_fl_H_32) rfl dc_H_callWith_63 ?_
      refine sw_iconst (v := 1) X dc_H_callWith_66 (by decide) ?_
      refine sw_iadd X dc_H_callWith_67 ?_
      refine sw_put (ty := .int) X (fun z hz => List.mem_cons_of_mem _ (wf_H z hz)) fy_H fo_H fn_H 14 (wd_14 cI cL cZ ad g q r o) rfl 2 (by decide) (List.mem_cons_of_mem _ wm_fl_H_32) rfl (by decide +kernel) rfl rfl (Nat.le_of_ble_eq_true rfl) (wd_W cI cL cZ ad (st_u g 14 2 ((g 14 2) + (1 : Int32))) q r o) (ws_14_2 cI cL cZ ad g q r o ((g 14 2) + (1 : Int32))) dc_H_callWith_68 ?_
      refine sw_aload_n X 0 rfl rfl dc_H_callWith_71 ?_
      refine sw_get X (fun z hz => List.mem_cons_of_mem _ (wf_H z hz)) 14 (wd_14 cI cL cZ ad (st_u g 14 2 ((g 14 2) + (1 : Int32))) q r o) rfl 3 (by decide) (List.mem_cons_of_mem _ wm_fl_H_28) rfl dc_H_callWith_72 ?_
      refine sw_get X (fun z hz => List.mem_cons_of_mem _ (wf_P z hz)) 1 (wd_1 cI cL cZ ad (st_u g 14 2 ((g 14 2) + (1 : Int32))) q r o) rfl 7 (by decide) (List.mem_cons_of_mem _ wm_fl_H_139) rfl dc_H_callWith_75 ?_
      refine sw_iload_n X 1 rfl rfl dc_H_callWith_78 ?_
      refine sw_iald X 9 0 (wd_9 cI cL cZ ad (st_u g 14 2 ((g 14 2) + (1 : Int32))) q r o) rfl h.1 dc_H_callWith_79 ?_
      have h := h.2
      refine sw_eq (st' := [.int (g 9 (v1).toNatClampNeg)]) rfl rfl rfl ?_
      refine sw_istore X [(9, .int (g 9 (v1).toNatClampNeg)), (0, .ref (ad 14)), (1, .int v1), (4, .int v4), (5, .long v5), (7, .long v7)] rfl (by decide) dc_H_callWith_80 ?_
      refine sw_iload X 0 rfl dc_H_callWith_82 ?_
      refine sw_iconst (v := -1) X dc_H_callWith_84 (by decide) ?_
      refine sw_icmp_ne (tgt := 93) X dc_H_callWith_85 (by decide) (fun z => ?_) (fun z => ?_)
      · have h := h.1 z
        refine sw_aload_n X 1 rfl rfl dc_H_callWith_93 ?_
        refine sw_iload X 3 rfl dc_H_callWith_94 ?_
        refine sw_iconst (v := 1) X dc_H_callWith_96 (by decide) ?_
        refine sw_iadd X dc_H_callWith_97 ?_
        refine sw_lload X 4 rfl dc_H_callWith_98 ?_
        refine sw_lload X 5 rfl dc_H_callWith_100 ?_
        refine sw_cV_v (n := 3) X hA nw_okA hNs hE (fun u : st_S => wd_W cI cL cZ ad u.1 u.2 r o) [.int (v4 + (1 : Int32)), .long v5, .long v7] 14 (wd_14 cI cL cZ ad (st_u g 14 2 ((g 14 2) + (1 : Int32))) q r o) rfl rfl (ct_H_openFrame l D cI cL cZ ad r o (v4 + (1 : Int32)) v5 v7 (st_u g 14 2 ((g 14 2) + (1 : Int32))) q _ h) (List.mem_cons_of_mem _ wm_ml_H_50) (List.mem_cons_of_mem _ wm_im_H_openFrame) (List.mem_cons_of_mem _ wm_se_H_openFrame) rfl (wg_in wm_code_H_openFrame) rfl rfl (List.mem_cons_of_mem _ wm_in_H) ⟨by decide, by decide, by decide +kernel⟩ ⟨by dsimp only; omega, by dsimp only; omega⟩ ⟨Nat.zero_le _, Nat.zero_le _⟩ rfl (Nat.le_of_ble_eq_true rfl) dc_H_callWith_102 rfl (fun u102 h => ?_)
        refine sw_aload_n X 1 rfl rfl dc_H_callWith_105 ?_
        refine sw_iload X 0 rfl dc_H_callWith_106 ?_
        refine sw_iload X 3 rfl dc_H_callWith_108 ?_
        refine sw_iconst (v := 1) X dc_H_callWith_110 (by decide) ?_
        refine sw_iadd X dc_H_callWith_111 ?_
        refine sw_cV_l (n := 2) X hA nw_okA hNs hE (fun u : st_S => wd_W cI cL cZ ad u.1 u.2 r o) [.int (g 9 (v1).toNatClampNeg), .int (v4 + (1 : Int32))] 14 (wd_14 cI cL cZ ad u102.1 u102.2 r o) rfl rfl (hK (g 9 (v1).toNatClampNeg) (v4 + (1 : Int32)) u102.1 u102.2 _ h) (List.mem_cons_of_mem _ wm_ml_H_123) (List.mem_cons_of_mem _ wm_im_H_workOut) (List.mem_cons_of_mem _ wm_se_H_workOut) rfl (wg_in wm_code_H_workOut) rfl rfl (List.mem_cons_of_mem _ wm_in_H) ⟨by decide, by decide, by decide +kernel⟩ ⟨by dsimp only; omega, by dsimp only; omega⟩ ⟨Nat.zero_le _, Nat.zero_le _⟩ rfl (Nat.le_of_ble_eq_true rfl) dc_H_callWith_112 rfl (fun x112 u112 h => ?_)
        exact sw_lret X hr hlk (u := (u112.1, u112.2)) rfl h dc_H_callWith_115
      · have h := h.2 z
        refine sw_aload_n X 1 rfl rfl dc_H_callWith_88 ?_
        refine sw_cV_l (n := 0) X hA nw_okA hNs hE (fun u : st_S => wd_W cI cL cZ ad u.1 u.2 r o) [] 14 (wd_14 cI cL cZ ad (st_u g 14 2 ((g 14 2) + (1 : Int32))) q r o) rfl rfl (ct_H_fail l D cI cL cZ ad r o (st_u g 14 2 ((g 14 2) + (1 : Int32))) q _ h) (List.mem_cons_of_mem _ wm_ml_H_114) (List.mem_cons_of_mem _ wm_im_H_fail) (List.mem_cons_of_mem _ wm_se_H_fail) rfl (wg_in wm_code_H_fail) rfl rfl (List.mem_cons_of_mem _ wm_in_H) ⟨by decide, by decide, by decide +kernel⟩ ⟨by dsimp only; omega, by dsimp only; omega⟩ ⟨Nat.zero_le _, Nat.zero_le _⟩ rfl (Nat.le_of_ble_eq_true rfl) dc_H_callWith_89 rfl (fun x89 u89 h => ?_)
        exact sw_lret X hr hlk (u := (u89.1, u89.2)) rfl h dc_H_callWith_92
    · have h := h.2 z
      refine sw_ldc2 X (List.mem_cons_of_mem _ wm_kl_H_75) dc_H_callWith_57 ?_
      exact sw_lret X hr hlk (u := (g, q)) rfl h dc_H_callWith_60
  refine sw_aload_n X 0 rfl rfl dc_H_callWith_0 ?_
  refine sw_iload_n X 2 rfl rfl dc_H_callWith_1 ?_
  refine sw_iload X 4 rfl dc_H_callWith_2 ?_
  refine sw_cV_l (n := 2) X hA nw_okA hNs hE (fun u : st_S => wd_W cI cL cZ ad u.1 u.2 r o) [.int a2, .int a4] 14 (wd_14 cI cL cZ ad g q r o) rfl rfl (hK a2 a4 g q _ h) (List.mem_cons_of_mem _ wm_ml_H_123) (List.mem_cons_of_mem _ wm_im_H_workOut) (List.mem_cons_of_mem _ wm_se_H_workOut) rfl (wg_in wm_code_H_workOut) rfl rfl (List.mem_cons_of_mem _ wm_in_H) ⟨by decide, by decide, by decide +kernel⟩ ⟨by dsimp only; omega, by dsimp only; omega⟩ ⟨Nat.zero_le _, Nat.zero_le _⟩ rfl (Nat.le_of_ble_eq_true rfl) dc_H_callWith_4 rfl (fun x4 u4 h => ?_)
  refine sw_lstore X [(5, .long x4), (0, .ref (ad 14)), (1, .int a1), (2, .int a2), (3, .int a3), (4, .int a4)] rfl (by decide) dc_H_callWith_7 ?_
  refine sw_lload X 0 rfl dc_H_callWith_9 ?_
  refine sw_lconst (v := 0) X dc_H_callWith_11 (by decide) ?_
  refine sw_lcmp X dc_H_callWith_12 ?_
  refine sw_if_ge (tgt := 19) X dc_H_callWith_13 (by decide) (fun z => ?_) (fun z => ?_)
  · have h := h.1 z
    refine sw_ldc2 X (List.mem_cons_of_mem _ wm_kl_H_48) dc_H_callWith_19 ?_
    refine sw_lstore X [(7, .long (-3 : Int64)), (5, .long x4), (0, .ref (ad 14)), (1, .int a1), (2, .int a2), (3, .int a3), (4, .int a4)] rfl (by decide) dc_H_callWith_22 ?_
    refine sw_iload_n X 3 rfl rfl dc_H_callWith_24 ?_
    refine sw_cSN_i (n := 1) X hA nw_okA hNs hE (fun u : st_S => wd_W cI cL cZ ad u.1 u.2 r o) [.int a1] (ct_S_parametersOf l D cI cL cZ ad r o a1 u4.1 u4.2 _ h) nw_H_135 (List.mem_cons_of_mem _ wm_st_S_parametersOf) rfl (wg_in wm_code_S_parametersOf) rfl rfl (List.mem_cons_of_mem _ wm_in_S) ⟨by decide, by decide, by decide +kernel⟩ ⟨by dsimp only; omega, by dsimp only; omega⟩ ⟨Nat.zero_le _, Nat.zero_le _⟩ rfl (Nat.le_of_ble_eq_true rfl) dc_H_callWith_25 rfl (fun x25 u25 h => ?_)
    refine sw_iconst (v := 2) X dc_H_callWith_28 (by decide) ?_
    refine sw_icmp_ne (tgt := 51) X dc_H_callWith_29 (by decide) (fun z => ?_) (fun z => ?_)
    · have h := h.1 z
      refine sw_sub [2, 3, 6, 1, 0] rfl ?_
      exact b51 u25.1 u25.2 a1 a4 x4 (-3 : Int64) h
    · have h := h.2 z
      refine sw_aload_n X 2 rfl rfl dc_H_callWith_32 ?_
      refine sw_iload_n X 5 rfl rfl dc_H_callWith_33 ?_
      refine sw_iload X 6 rfl dc_H_callWith_34 ?_
      refine sw_cV_l (n := 2) X hA nw_okA hNs hE (fun u : st_S => wd_W cI cL cZ ad u.1 u.2 r o) [.int a3, .int a4] 14 (wd_14 cI cL cZ ad u25.1 u25.2 r o) rfl rfl (hK a3 a4 u25.1 u25.2 _ h) (List.mem_cons_of_mem _ wm_ml_H_123) (List.mem_cons_of_mem _ wm_im_H_workOut) (List.mem_cons_of_mem _ wm_se_H_workOut) rfl (wg_in wm_code_H_workOut) rfl rfl (List.mem_cons_of_mem _ wm_in_H) ⟨by decide, by decide, by decide +kernel⟩ ⟨by dsimp only; omega, by dsimp only; omega⟩ ⟨Nat.zero_le _, Nat.zero_le _⟩ rfl (Nat.le_of_ble_eq_true rfl) dc_H_callWith_36 rfl (fun x36 u36 h => ?_)
      refine sw_lstore X [(7, .long x36), (5, .long x4), (0, .ref (ad 14)), (1, .int a1), (2, .int a2), (3, .int a3), (4, .int a4)] rfl (by decide) dc_H_callWith_39 ?_
      refine sw_lload X 0 rfl dc_H_callWith_41 ?_
      refine sw_lconst (v := 0) X dc_H_callWith_43 (by decide) ?_
      refine sw_lcmp X dc_H_callWith_44 ?_
      refine sw_if_ge (tgt := 51) X dc_H_callWith_45 (by decide) (fun z => ?_) (fun z => ?_)
      · have h := h.1 z
        refine sw_sub [2, 3, 6, 1, 0] rfl ?_
        exact b51 u36.1 u36.2 a1 a4 x4 x36 h
      · have h := h.2 z
        refine sw_lload X 0 rfl dc_H_callWith_48 ?_
        exact sw_lret X hr hlk (u := (u36.1, u36.2)) rfl h dc_H_callWith_50
  · have h := h.2 z
    refine sw_lload X 0 rfl dc_H_callWith_16 ?_
    exact sw_lret X hr hlk (u := (u4.1, u4.2)) rfl h dc_H_callWith_18
def wp_H_letIn (K : Int32 → Int32 → st_I → st_L → (Int64 → st_S → Prop) → Prop) (a1 : Int32) (a2 : Int32) (g : st_I) (q : st_L) (Q : (Int64 → st_S → Prop)) : Prop := vp_in a1 91 ∧ K (g 4 (a1).toNatClampNeg) a2 g q (fun x11 u11 => (0 ≤ (lg_cmp x11 (0 : Int64)) → vp_in a1 91 ∧ vp_in ((a2 * (4 : Int32)) + (u11.1 3 (a1).toNatClampNeg)) 24 ∧ vp_in ((a2 * (4 : Int32)) + (u11.1 3 (a1).toNatClampNeg)) 24 ∧ vp_in a1 91 ∧ K (u11.1 5 (a1).toNatClampNeg) a2 u11.1 (st_v u11.2 16 (((a2 * (4 : Int32)) + (u11.1 3 (a1).toNatClampNeg))).toNatClampNeg x11) (fun x66 u66 => vp_in ((a2 * (4 : Int32)) + (u11.1 3 (a1).toNatClampNeg)) 24 ∧ Q x66 (u66.1, (st_v u66.2 16 (((a2 * (4 : Int32)) + (u11.1 3 (a1).toNatClampNeg))).toNatClampNeg (u11.2 16 (((a2 * (4 : Int32)) + (u11.1 3 (a1).toNatClampNeg))).toNatClampNeg))))) ∧ (¬ 0 ≤ (lg_cmp x11 (0 : Int64)) → Q x11 (u11.1, u11.2)))
set_option maxHeartbeats 4000000 in
set_option maxRecDepth 100000 in
theorem ct_H_letIn (l : Launch) (D : va_G) (cI cL cZ : ClassId) (ad : Nat → Nat) (r : st_I) (o : st_L) (f lo : Nat) (K : Int32 → Int32 → st_I → st_L → (Int64 → st_S → Prop) → Prop) (hK : ∀ (b0 : Int32) (b1 : Int32) (g : st_I) (q : st_L) (Q : (Int64 → st_S → Prop)), K b0 b1 g q Q → ∀ sz, Met l yn_H_workOut (Cond.code yn_H_workOut cd_H_workOut 4 (some .long) :: wa_A) { frames := f, cells := 0, slots := 0, locals := lo } (va_Pc [.ref (ad 14), .int b0, .int b1] (wq_S D cl_A (wd_T cI cL cZ) nw_A (wd_W cI cL cZ ad g q r o) sz)) (va_Ql Q (fun u t => wq_E D cl_A (wd_T cI cL cZ) (va_A (wd_W cI cL cZ ad g q r o) sz) (wd_W cI cL cZ ad u.1 u.2 r o) t) (va_A (wd_W cI cL cZ ad g q r o) sz)) 0 0 (va_A (wd_W cI cL cZ ad g q r o) sz)) (a1 : Int32) (a2 : Int32) (g : st_I) (q : st_L) (Q : (Int64 → st_S → Prop)) (h : wp_H_letIn K a1 a2 g q Q) : ∀ sz, Met l yn_H_letIn (Cond.code yn_H_letIn cd_H_letIn 10 (some .long) :: wa_A) { frames := f + 1, cells := 0, slots := 0, locals := lo + 23 } (va_Pc [.ref (ad 14), .int a1, .int a2] (wq_S D cl_A (wd_T cI cL cZ) nw_A (wd_W cI cL cZ ad g q r o) sz)) (va_Ql Q (fun u t => wq_E D cl_A (wd_T cI cL cZ) (va_A (wd_W cI cL cZ ad g q r o) sz) (wd_W cI cL cZ ad u.1 u.2 r o) t) (va_A (wd_W cI cL cZ ad g q r o) sz)) 0 0 (va_A (wd_W cI cL cZ ad g q r o) sz) := by
  refine sw_met (Qc := fun A => va_Ql Q (fun u t => wq_E D cl_A (wd_T cI cL cZ) A (wd_W cI cL cZ ad u.1 u.2 r o) t) A) (by decide) rfl (Nat.le_of_ble_eq_true rfl) rfl ?_
  intro p e s m args below meth c A X hA hNs hE hr hlk hnm
  refine sw_aload_n X 0 rfl rfl dc_H_letIn_0 ?_
  refine sw_aload_n X 0 rfl rfl dc_H_letIn_1 ?_
  refine sw_get X (fun z hz => List.mem_cons_of_mem _ (wf_H z hz)) 14 (wd_14 cI cL cZ ad g q r o) rfl 3 (by decide) (List.mem_cons_of_mem _ wm_fl_H_28) rfl dc_H_letIn_2 ?_
  refine sw_get X (fun z hz => List.mem_cons_of_mem _ (wf_P z hz)) 1 (wd_1 cI cL cZ ad g q r o) rfl 2 (by decide) (List.mem_cons_of_mem _ wm_fl_H_102) rfl dc_H_letIn_5 ?_
  refine sw_iload_n X 1 rfl rfl dc_H_letIn_8 ?_
  refine sw_iald X 4 0 (wd_4 cI cL cZ ad g q r o) rfl h.1 dc_H_letIn_9 ?_
  have h := h.2
  refine sw_iload_n X 2 rfl rfl dc_H_letIn_10 ?_
  refine sw_cV_l (n := 2) X hA nw_okA hNs hE (fun u : st_S => wd_W cI cL cZ ad u.1 u.2 r o) [.int (g 4 (a1).toNatClampNeg), .int a2] 14 (wd_14 cI cL cZ ad g q r o) rfl rfl (hK (g 4 (a1).toNatClampNeg) a2 g q _ h) (List.mem_cons_of_mem _ wm_ml_H_123) (List.mem_cons_of_mem _ wm_im_H_workOut) (List.mem_cons_of_mem _ wm_se_H_workOut) rfl (wg_in wm_code_H_workOut) rfl rfl (List.mem_cons_of_mem _ wm_in_H) ⟨by decide, by decide, by decide +kernel⟩ ⟨by dsimp only; omega, by dsimp only; omega⟩ ⟨Nat.zero_le _, Nat.zero_le _⟩ rfl (Nat.le_of_ble_eq_true rfl) dc_H_letIn_11 rfl (fun x11 u11 h => ?_)
  refine sw_lstore_n X [(3, .long x11), (0, .ref (ad 14)), (1, .int a1), (2, .int a2)] rfl (by decide) rfl dc_H_letIn_14 ?_
  refine sw_lload_n X 0 rfl rfl dc_H_letIn_15 ?_
  refine sw_lconst (v := 0) X dc_H_letIn_16 (by decide) ?_
  refine sw_lcmp X dc_H_letIn_17 ?_
  refine sw_if_ge (tgt := 23) X dc_H_letIn_18 (by decide) (fun z => ?_) (fun z => ?_)
  · have h := h.1 z
    refine sw_iload_n X 3 rfl rfl dc_H_letIn_23 ?_
    refine sw_iconst (v := 4) X dc_H_letIn_24 (by decide) ?_
    refine sw_imul X dc_H_letIn_25 ?_
    refine sw_aload_n X 1 rfl rfl dc_H_letIn_26 ?_
    refine sw_get X (fun z hz => List.mem_cons_of_mem _ (wf_H z hz)) 14 (wd_14 cI cL cZ ad u11.1 u11.2 r o) rfl 3 (by decide) (List.mem_cons_of_mem _ wm_fl_H_28) rfl dc_H_letIn_27 ?_
    refine sw_get X (fun z hz => List.mem_cons_of_mem _ (wf_P z hz)) 1 (wd_1 cI cL cZ ad u11.1 u11.2 r o) rfl 1 (by decide) (List.mem_cons_of_mem _ wm_fl_H_77) rfl dc_H_letIn_30 ?_
    refine sw_iload_n X 2 rfl rfl dc_H_letIn_33 ?_
    refine sw_iald X 3 0 (wd_3 cI cL cZ ad u11.1 u11.2 r o) rfl h.1 dc_H_letIn_34 ?_
    have h := h.2
    refine sw_iadd X dc_H_letIn_35 ?_
    refine sw_istore X [(5, .int ((a2 * (4 : Int32)) + (u11.1 3 (a1).toNatClampNeg))), (3, .long x11), (0, .ref (ad 14)), (1, .int a1), (2, .int a2)] rfl (by decide) dc_H_letIn_36 ?_
    refine sw_aload_n X 2 rfl rfl dc_H_letIn_38 ?_
    refine sw_get X (fun z hz => List.mem_cons_of_mem _ (wf_H z hz)) 14 (wd_14 cI cL cZ ad u11.1 u11.2 r o) rfl 4 (by decide) (List.mem_cons_of_mem _ wm_fl_H_15) rfl dc_H_letIn_39 ?_
    refine sw_iload X 0 rfl dc_H_letIn_42 ?_
    refine sw_lald X 16 1 (wd_16 cI cL cZ ad u11.1 u11.2 r o) rfl h.1 dc_H_letIn_44 ?_
    have h := h.2
    refine sw_lstore X [(6, .long (u11.2 16 (((a2 * (4 : Int32)) + (u11.1 3 (a1).toNatClampNeg))).toNatClampNeg)), (5, .int ((a2 * (4 : Int32)) + (u11.1 3 (a1).toNatClampNeg))), (3, .long x11), (0, .ref (ad 14)), (1, .int a1), (2, .int a2)] rfl (by decide) dc_H_letIn_45 ?_
    refine sw_aload_n X 3 rfl rfl dc_H_letIn_47 ?_
    refine sw_get X (fun z hz => List.mem_cons_of_mem _ (wf_H z hz)) 14 (wd_14 cI cL cZ ad u11.1 u11.2 r o) rfl 4 (by decide) (List.mem_cons_of_mem _ wm_fl_H_15) rfl dc_H_letIn_48 ?_
    refine sw_iload X 1 rfl dc_H_letIn_51 ?_
    refine sw_lload_n X 2 rfl rfl dc_H_letIn_53 ?_
    refine sw_last X 16 1 (wd_16 cI cL cZ ad u11.1 u11.2 r o) rfl h.1 (wd_W cI cL cZ ad u11.1 (st_v u11.2 16 (((a2 * (4 : Int32)) + (u11.1 3 (a1).toNatClampNeg))).toNatClampNeg x11) r o) (ws_16 cI cL cZ ad u11.1 u11.2 r o (((a2 * (4 : Int32)) + (u11.1 3 (a1).toNatClampNeg))).toNatClampNeg x11) dc_H_letIn_54 ?_
    have h := h.2
    refine sw_aload_n X 3 rfl rfl dc_H_letIn_55 ?_
    refine sw_aload_n X 3 rfl rfl dc_H_letIn_56 ?_
    refine sw_get X (fun z hz => List.mem_cons_of_mem _ (wf_H z hz)) 14 (wd_14 cI cL cZ ad u11.1 (st_v u11.2 16 (((a2 * (4 : Int32)) + (u11.1 3 (a1).toNatClampNeg))).toNatClampNeg x11) r o) rfl 3 (by decide) (List.mem_cons_of_mem _ wm_fl_H_28) rfl dc_H_letIn_57 ?_
    refine sw_get X (fun z hz => List.mem_cons_of_mem _ (wf_P z hz)) 1 (wd_1 cI cL cZ ad u11.1 (st_v u11.2 16 (((a2 * (4 : Int32)) + (u11.1 3 (a1).toNatClampNeg))).toNatClampNeg x11) r o) rfl 3 (by decide) (List.mem_cons_of_mem _ wm_fl_H_105) rfl dc_H_letIn_60 ?_
    refine sw_iload_n X 4 rfl rfl dc_H_letIn_63 ?_
    refine sw_iald X 5 0 (wd_5 cI cL cZ ad u11.1 (st_v u11.2 16 (((a2 * (4 : Int32)) + (u11.1 3 (a1).toNatClampNeg))).toNatClampNeg x11) r o) rfl h.1 dc_H_letIn_64 ?_
    have h := h.2
    refine sw_iload_n X 5 rfl rfl dc_H_letIn_65 ?_
    refine sw_cV_l (n := 2) X hA nw_okA hNs hE (fun u : st_S => wd_W cI cL cZ ad u.1 u.2 r o) [.int (u11.1 5 (a1).toNatClampNeg), .int a2] 14 (wd_14 cI cL cZ ad u11.1 (st_v u11.2 16 (((a2 * (4 : Int32)) + (u11.1 3 (a1).toNatClampNeg))).toNatClampNeg x11) r o) rfl rfl (hK (u11.1 5 (a1).toNatClampNeg) a2 u11.1 (st_v u11.2 16 (((a2 * (4 : Int32)) + (u11.1 3 (a1).toNatClampNeg))).toNatClampNeg x11) _ h) (List.mem_cons_of_mem _ wm_ml_H_123) (List.mem_cons_of_mem _ wm_im_H_workOut) (List.mem_cons_of_mem _ wm_se_H_workOut) rfl (wg_in wm_code_H_workOut) rfl rfl (List.mem_cons_of_mem _ wm_in_H) ⟨by decide, by decide, by decide +kernel⟩ ⟨by dsimp only; omega, by dsimp only; omega⟩ ⟨Nat.zero_le _, Nat.zero_le _⟩ rfl (Nat.le_of_ble_eq_true rfl) dc_H_letIn_66 rfl (fun x66 u66 h => ?_)
    refine sw_lstore X [(8, .long x66), (6, .long (u11.2 16 (((a2 * (4 : Int32)) + (u11.1 3 (a1).toNatClampNeg))).toNatClampNeg)), (5, .int ((a2 * (4 : Int32)) + (u11.1 3 (a1).toNatClampNeg))), (3, .long x11), (0, .ref (ad 14)), (1, .int a1), (2, .int a2)] rfl (by decide) dc_H_letIn_69 ?_
    refine sw_aload_n X 4 rfl rfl dc_H_letIn_71 ?_
    refine sw_get X (fun z hz => List.mem_cons_of_mem _ (wf_H z hz)) 14 (wd_14 cI cL cZ ad u66.1 u66.2 r o) rfl 4 (by decide) (List.mem_cons_of_mem _ wm_fl_H_15) rfl dc_H_letIn_72 ?_
    refine sw_iload X 2 rfl dc_H_letIn_75 ?_
    refine sw_lload X 1 rfl dc_H_letIn_77 ?_
    refine sw_last X 16 1 (wd_16 cI cL cZ ad u66.1 u66.2 r o) rfl h.1 (wd_W cI cL cZ ad u66.1 (st_v u66.2 16 (((a2 * (4 : Int32)) + (u11.1 3 (a1).toNatClampNeg))).toNatClampNeg (u11.2 16 (((a2 * (4 : Int32)) + (u11.1 3 (a1).toNatClampNeg))).toNatClampNeg)) r o) (ws_16 cI cL cZ ad u66.1 u66.2 r o (((a2 * (4 : Int32)) + (u11.1 3 (a1).toNatClampNeg))).toNatClampNeg (u11.2 16 (((a2 * (4 : Int32)) + (u11.1 3 (a1).toNatClampNeg))).toNatClampNeg)) dc_H_letIn_79 ?_
    have h := h.2
    refine sw_lload X 0 rfl dc_H_letIn_80 ?_
    exact sw_lret X hr hlk (u := (u66.1, (st_v u66.2 16 (((a2 * (4 : Int32)) + (u11.1 3 (a1).toNatClampNeg))).toNatClampNeg (u11.2 16 (((a2 * (4 : Int32)) + (u11.1 3 (a1).toNatClampNeg))).toNatClampNeg)))) rfl h dc_H_letIn_82
  · have h := h.2 z
    refine sw_lload_n X 0 rfl rfl dc_H_letIn_21 ?_
    exact sw_lret X hr hlk (u := (u11.1, u11.2)) rfl h dc_H_letIn_22
def wp_H_firstOrElse_L41 (K : Int32 → Int32 → st_I → st_L → (Int64 → st_S → Prop) → Prop) (Q : (Int64 → st_S → Prop)) (g : st_I) (q : st_L) (t0 : Int64) : Prop := Q t0 (g, q)
def wp_H_firstOrElse (K : Int32 → Int32 → st_I → st_L → (Int64 → st_S → Prop) → Prop) (a1 : Int32) (a2 : Int32) (g : st_I) (q : st_L) (Q : (Int64 → st_S → Prop)) : Prop := vp_in a1 91 ∧ K (g 4 (a1).toNatClampNeg) a2 g q (fun x11 u11 => (¬ (lg_cmp x11 (-1 : Int64)) = 0 → wp_H_firstOrElse_L41 K Q u11.1 u11.2 x11) ∧ ((lg_cmp x11 (-1 : Int64)) = 0 → vp_in a1 91 ∧ K (u11.1 5 (a1).toNatClampNeg) a2 u11.1 u11.2 (fun x34 u34 => wp_H_firstOrElse_L41 K Q u34.1 u34.2 x34)))
set_option maxHeartbeats 4000000 in
set_option maxRecDepth 100000 in
theorem ct_H_firstOrElse (l : Launch) (D : va_G) (cI cL cZ : ClassId) (ad : Nat → Nat) (r : st_I) (o : st_L) (f lo : Nat) (K : Int32 → Int32 → st_I → st_L → (Int64 → st_S → Prop) → Prop) (hK : ∀ (b0 : Int32) (b1 : Int32) (g : st_I) (q : st_L) (Q : (Int64 → st_S → Prop)), K b0 b1 g q Q → ∀ sz, Met l yn_H_workOut (Cond.code yn_H_workOut cd_H_workOut 4 (some .long) :: wa_A) { frames := f, cells := 0, slots := 0, locals := lo } (va_Pc [.ref (ad 14), .int b0, .int b1] (wq_S D cl_A (wd_T cI cL cZ) nw_A (wd_W cI cL cZ ad g q r o) sz)) (va_Ql Q (fun u t => wq_E D cl_A (wd_T cI cL cZ) (va_A (wd_W cI cL cZ ad g q r o) sz) (wd_W cI cL cZ ad u.1 u.2 r o) t) (va_A (wd_W cI cL cZ ad g q r o) sz)) 0 0 (va_A (wd_W cI cL cZ ad g q r o) sz)) (a1 : Int32) (a2 : Int32) (g : st_I) (q : st_L) (Q : (Int64 → st_S → Prop)) (h : wp_H_firstOrElse K a1 a2 g q Q) : ∀ sz, Met l yn_H_firstOrElse (Cond.code yn_H_firstOrElse cd_H_firstOrElse 5 (some .long) :: wa_A) { frames := f + 1, cells := 0, slots := 0, locals := lo + 23 } (va_Pc [.ref (ad 14), .int a1, .int a2] (wq_S D cl_A (wd_T cI cL cZ) nw_A (wd_W cI cL cZ ad g q r o) sz)) (va_Ql Q (fun u t => wq_E D cl_A (wd_T cI cL cZ) (va_A (wd_W cI cL cZ ad g q r o) sz) (wd_W cI cL cZ ad u.1 u.2 r o) t) (va_A (wd_W cI cL cZ ad g q r o) sz)) 0 0 (va_A (wd_W cI cL cZ ad g q r o) sz) := by
  refine sw_met (Qc := fun A => va_Ql Q (fun u t => wq_E D cl_A (wd_T cI cL cZ) A (wd_W cI cL cZ ad u.1 u.2 r o) t) A) (by decide) rfl (Nat.le_of_ble_eq_true rfl) rfl ?_
  intro p e s m args below meth c A X hA hNs hE hr hlk hnm
  have b41 : ∀ (g : st_I) (q : st_L) (t0 : Int64), wp_H_firstOrElse_L41 K Q g q t0 → sw_J p l e { frames := f + 1, cells := 0, slots := 0, locals := lo + 23 } s m args below meth c 0 0 (MQ below (va_Ql Q (fun u t => wq_E D cl_A (wd_T cI cL cZ) A (wd_W cI cL cZ ad u.1 u.2 r o) t) A) args s 0 0 A) D cl_A A 5 (wd_W cI cL cZ ad g q r o) 41 [] [.long t0] := by
    intro g q t0 h
    exact sw_lret X hr hlk (u := (g, q)) rfl h dc_H_firstOrElse_41
  refine sw_aload_n X 0 rfl rfl dc_H_firstOrElse_0 ?_
  refine sw_aload_n X 0 rfl rfl dc_H_firstOrElse_1 ?_
  refine sw_get X (fun z hz => List.mem_cons_of_mem _ (wf_H z hz)) 14 (wd_14 cI cL cZ ad g q r o) rfl 3 (by decide) (List.mem_cons_of_mem _ wm_fl_H_28) rfl dc_H_firstOrElse_2 ?_
  refine sw_get X (fun z hz => List.mem_cons_of_mem _ (wf_P z hz)) 1 (wd_1 cI cL cZ ad g q r o) rfl 2 (by decide) (List.mem_cons_of_mem _ wm_fl_H_102) rfl dc_H_firstOrElse_5 ?_
  refine sw_iload_n X 1 rfl rfl dc_H_firstOrElse_8 ?_
  refine sw_iald X 4 0 (wd_4 cI cL cZ ad g q r o) rfl h.1 dc_H_firstOrElse_9 ?_
  have h := h.2
  refine sw_iload_n X 2 rfl rfl dc_H_firstOrElse_10 ?_
  refine sw_cV_l (n := 2) X hA nw_okA hNs hE (fun u : st_S => wd_W cI cL cZ ad u.1 u.2 r o) [.int (g 4 (a1).toNatClampNeg), .int a2] 14 (wd_14 cI cL cZ ad g q r o) rfl rfl (hK (g 4 (a1).toNatClampNeg) a2 g q _ h) (List.mem_cons_of_mem _ wm_ml_H_123) (List.mem_cons_of_mem _ wm_im_H_workOut) (List.mem_cons_of_mem _ wm_se_H_workOut) rfl (wg_in wm_code_H_workOut) rfl rfl (List.mem_cons_of_mem _ wm_in_H) ⟨by decide, by decide, by decide +kernel⟩ ⟨by dsimp only; omega, by dsimp only; omega⟩ ⟨Nat.zero_le _, Nat.zero_le _⟩ rfl (Nat.le_of_ble_eq_true rfl) dc_H_firstOrElse_11 rfl (fun x11 u11 h => ?_)
  refine sw_lstore_n X [(3, .long x11), (0, .ref (ad 14)), (1, .int a1), (2, .int a2)] rfl (by decide) rfl dc_H_firstOrElse_14 ?_
  refine sw_lload_n X 0 rfl rfl dc_H_firstOrElse_15 ?_
  refine sw_ldc2 X (List.mem_cons_of_mem _ wm_kl_H_121) dc_H_firstOrElse_16 ?_
  refine sw_lcmp X dc_H_firstOrElse_19 ?_
  refine sw_if_ne (tgt := 40) X dc_H_firstOrElse_20 (by decide) (fun z => ?_) (fun z => ?_)
  · have h := h.1 z
    refine sw_lload_n X 0 rfl rfl dc_H_firstOrElse_40 ?_
    refine sw_sub [] rfl ?_
    exact b41 u11.1 u11.2 x11 h
  · have h := h.2 z
    refine sw_aload_n X 1 rfl rfl dc_H_firstOrElse_23 ?_
    refine sw_aload_n X 1 rfl rfl dc_H_firstOrElse_24 ?_
    refine sw_get X (fun z hz => List.mem_cons_of_mem _ (wf_H z hz)) 14 (wd_14 cI cL cZ ad u11.1 u11.2 r o) rfl 3 (by decide) (List.mem_cons_of_mem _ wm_fl_H_28) rfl dc_H_firstOrElse_25 ?_
    refine sw_get X (fun z hz => List.mem_cons_of_mem _ (wf_P z hz)) 1 (wd_1 cI cL cZ ad u11.1 u11.2 r o) rfl 3 (by decide) (List.mem_cons_of_mem _ wm_fl_H_105) rfl dc_H_firstOrElse_28 ?_
    refine sw_iload_n X 2 rfl rfl dc_H_firstOrElse_31 ?_
    refine sw_iald X 5 0 (wd_5 cI cL cZ ad u11.1 u11.2 r o) rfl h.1 dc_H_firstOrElse_32 ?_
    have h := h.2
    refine sw_iload_n X 3 rfl rfl dc_H_firstOrElse_33 ?_
    refine sw_cV_l (n := 2) X hA nw_okA hNs hE (fun u : st_S => wd_W cI cL cZ ad u.1 u.2 r o) [.int (u11.1 5 (a1).toNatClampNeg), .int a2] 14 (wd_14 cI cL cZ ad u11.1 u11.2 r o) rfl rfl (hK (u11.1 5 (a1).toNatClampNeg) a2 u11.1 u11.2 _ h) (List.mem_cons_of_mem _ wm_ml_H_123) (List.mem_cons_of_mem _ wm_im_H_workOut) (List.mem_cons_of_mem _ wm_se_H_workOut) rfl (wg_in wm_code_H_workOut) rfl rfl (List.mem_cons_of_mem _ wm_in_H) ⟨by decide, by decide, by decide +kernel⟩ ⟨by dsimp only; omega, by dsimp only; omega⟩ ⟨Nat.zero_le _, Nat.zero_le _⟩ rfl (Nat.le_of_ble_eq_true rfl) dc_H_firstOrElse_34 rfl (fun x34 u34 h => ?_)
    refine sw_goto (tgt := 41) X dc_H_firstOrElse_37 (by decide) ?_
    refine sw_sub [] rfl ?_
    exact b41 u34.1 u34.2 x34 h
def wp_H_fromTwo_L110 (K : Int32 → Int32 → st_I → st_L → (Int64 → st_S → Prop) → Prop) (Q : (Int64 → st_S → Prop)) (g : st_I) (q : st_L) (t0 : Int64) : Prop := Q t0 (g, q)
def wp_H_fromTwo_L94 (K : Int32 → Int32 → st_I → st_L → (Int64 → st_S → Prop) → Prop) (Q : (Int64 → st_S → Prop)) (g : st_I) (q : st_L) (t0 : Int32) : Prop := wp_H_value t0 (0 : Int32) g q (fun x95 u95 => wp_H_fromTwo_L110 K Q u95.1 u95.2 x95)
def wp_H_fromTwo (K : Int32 → Int32 → st_I → st_L → (Int64 → st_S → Prop) → Prop) (a1 : Int32) (a2 : Int32) (g : st_I) (q : st_L) (Q : (Int64 → st_S → Prop)) : Prop := vp_in a1 91 ∧ K (g 4 (a1).toNatClampNeg) a2 g q (fun x11 u11 => (0 ≤ (lg_cmp x11 (0 : Int64)) → vp_in a1 91 ∧ K (u11.1 5 (a1).toNatClampNeg) a2 u11.1 u11.2 (fun x34 u34 => (0 ≤ (lg_cmp x34 (0 : Int64)) → vp_in a1 91 ∧ (¬ (u34.1 2 (a1).toNatClampNeg) = (6 : Int32) → (¬ (u34.1 2 (a1).toNatClampNeg) = (13 : Int32) → wp_H_calculate (u34.1 2 (a1).toNatClampNeg) x11 x34 u34.1 u34.2 (fun x107 u107 => wp_H_fromTwo_L110 K Q u107.1 u107.2 x107)) ∧ ((u34.1 2 (a1).toNatClampNeg) = (13 : Int32) → (¬ (lg_cmp x11 x34) = 0 → wp_H_fromTwo_L94 K Q u34.1 u34.2 (0 : Int32)) ∧ ((lg_cmp x11 x34) = 0 → wp_H_fromTwo_L94 K Q u34.1 u34.2 (1 : Int32)))) ∧ ((u34.1 2 (a1).toNatClampNeg) = (6 : Int32) → wp_H_pair x11 x34 u34.1 u34.2 (fun x71 u71 => Q x71 (u71.1, u71.2)))) ∧ (¬ 0 ≤ (lg_cmp x34 (0 : Int64)) → Q x34 (u34.1, u34.2)))) ∧ (¬ 0 ≤ (lg_cmp x11 (0 : Int64)) → Q x11 (u11.1, u11.2)))
set_option maxHeartbeats 4000000 in
set_option maxRecDepth 100000 in
theorem ct_H_fromTwo (l : Launch) (D : va_G) (cI cL cZ : ClassId) (ad : Nat → Nat) (r : st_I) (o : st_L) (f lo : Nat) (K : Int32 → Int32 → st_I → st_L → (Int64 → st_S → Prop) → Prop) (hK : ∀ (b0 : Int32) (b1 : Int32) (g : st_I) (q : st_L) (Q : (Int64 → st_S → Prop)), K b0 b1 g q Q → ∀ sz, Met l yn_H_workOut (Cond.code yn_H_workOut cd_H_workOut 4 (some .long) :: wa_A) { frames := f, cells := 0, slots := 0, locals := lo } (va_Pc [.ref (ad 14), .int b0, .int b1] (wq_S D cl_A (wd_T cI cL cZ) nw_A (wd_W cI cL cZ ad g q r o) sz)) (va_Ql Q (fun u t => wq_E D cl_A (wd_T cI cL cZ) (va_A (wd_W cI cL cZ ad g q r o) sz) (wd_W cI cL cZ ad u.1 u.2 r o) t) (va_A (wd_W cI cL cZ ad g q r o) sz)) 0 0 (va_A (wd_W cI cL cZ ad g q r o) sz)) (a1 : Int32) (a2 : Int32) (g : st_I) (q : st_L) (Q : (Int64 → st_S → Prop)) (h : wp_H_fromTwo K a1 a2 g q Q) : ∀ sz, Met l yn_H_fromTwo (Cond.code yn_H_fromTwo cd_H_fromTwo 8 (some .long) :: wa_A) { frames := f + 3, cells := 0, slots := 0, locals := lo + 69 } (va_Pc [.ref (ad 14), .int a1, .int a2] (wq_S D cl_A (wd_T cI cL cZ) nw_A (wd_W cI cL cZ ad g q r o) sz)) (va_Ql Q (fun u t => wq_E D cl_A (wd_T cI cL cZ) (va_A (wd_W cI cL cZ ad g q r o) sz) (wd_W cI cL cZ ad u.1 u.2 r o) t) (va_A (wd_W cI cL cZ ad g q r o) sz)) 0 0 (va_A (wd_W cI cL cZ ad g q r o) sz) := by
  refine sw_met (Qc := fun A => va_Ql Q (fun u t => wq_E D cl_A (wd_T cI cL cZ) A (wd_W cI cL cZ ad u.1 u.2 r o) t) A) (by decide) rfl (Nat.le_of_ble_eq_true rfl) rfl ?_
  intro p e s m args below meth c A X hA hNs hE hr hlk hnm
  have b110 : ∀ (g : st_I) (q : st_L) (t0 : Int64), wp_H_fromTwo_L110 K Q g q t0 → sw_J p l e { frames := f + 3, cells := 0, slots := 0, locals := lo + 69 } s m args below meth c 0 0 (MQ below (va_Ql Q (fun u t => wq_E D cl_A (wd_T cI cL cZ) A (wd_W cI cL cZ ad u.1 u.2 r o) t) A) args s 0 0 A) D cl_A A 8 (wd_W cI cL cZ ad g q r o) 110 [] [.long t0] := by
    intro g q t0 h
    exact sw_lret X hr hlk (u := (g, q)) rfl h dc_H_fromTwo_110
  have b94 : ∀ (g : st_I) (q : st_L) (t0 : Int32), wp_H_fromTwo_L94 K Q g q t0 → sw_J p l e { frames := f + 3, cells := 0, slots := 0, locals := lo + 69 } s m args below meth c 0 0 (MQ below (va_Ql Q (fun u t => wq_E D cl_A (wd_T cI cL cZ) A (wd_W cI cL cZ ad u.1 u.2 r o) t) A) args s 0 0 A) D cl_A A 8 (wd_W cI cL cZ ad g q r o) 94 [] [.int t0] := by
    intro g q t0 h
    refine sw_iconst (v := 0) X dc_H_fromTwo_94 (by decide) ?_
    refine sw_cS_l (n := 2) X hA nw_okA hNs hE (fun u : st_S => wd_W cI cL cZ ad u.1 u.2 r o) [.int t0, .int (0 : Int32)] (ct_H_value l D cI cL cZ ad r o t0 (0 : Int32) g q _ h) (List.mem_cons_of_mem _ wm_ml_H_89) (List.mem_cons_of_mem _ wm_st_H_value) rfl (wg_in wm_code_H_value) rfl rfl (List.mem_cons_of_mem _ wm_in_H) ⟨by decide, by decide, by decide +kernel⟩ ⟨by dsimp only; omega, by dsimp only; omega⟩ ⟨Nat.zero_le _, Nat.zero_le _⟩ rfl (Nat.le_of_ble_eq_true rfl) dc_H_fromTwo_95 rfl (fun x95 u95 h => ?_)
    refine sw_goto (tgt := 110) X dc_H_fromTwo_98 (by decide) ?_
    exact b110 u95.1 u95.2 x95 h
  refine sw_aload_n X 0 rfl rfl dc_H_fromTwo_0 ?_
  refine sw_aload_n X 0 rfl rfl dc_H_fromTwo_1 ?_
  refine sw_get X (fun z hz => List.mem_cons_of_mem _ (wf_H z hz)) 14 (wd_14 cI cL cZ ad g q r o) rfl 3 (by decide) (List.mem_cons_of_mem _ wm_fl_H_28) rfl dc_H_fromTwo_2 ?_
  refine sw_get X (fun z hz => List.mem_cons_of_mem _ (wf_P z hz)) 1 (wd_1 cI cL cZ ad g q r o) rfl 2 (by decide) (List.mem_cons_of_mem _ wm_fl_H_102) rfl dc_H_fromTwo_5 ?_
  refine sw_iload_n X 1 rfl rfl dc_H_fromTwo_8 ?_
  refine sw_iald X 4 0 (wd_4 cI cL cZ ad g q r o) rfl h.1 dc_H_fromTwo_9 ?_
  have h := h.2
  refine sw_iload_n X 2 rfl rfl dc_H_fromTwo_10 ?_
  refine sw_cV_l (n := 2) X hA nw_okA hNs hE (fun u : st_S => wd_W cI cL cZ ad u.1 u.2 r o) [.int (g 4 (a1).toNatClampNeg), .int a2] 14 (wd_14 cI cL cZ ad g q r o) rfl rfl (hK (g 4 (a1).toNatClampNeg) a2 g q _ h) (List.mem_cons_of_mem _ wm_ml_H_123) (List.mem_cons_of_mem _ wm_im_H_workOut) (List.mem_cons_of_mem _ wm_se_H_workOut) rfl (wg_in wm_code_H_workOut) rfl rfl (List.mem_cons_of_mem _ wm_in_H) ⟨by decide, by decide, by decide +kernel⟩ ⟨by dsimp only; omega, by dsimp only; omega⟩ ⟨Nat.zero_le _, Nat.zero_le _⟩ rfl (Nat.le_of_ble_eq_true rfl) dc_H_fromTwo_11 rfl (fun x11 u11 h => ?_)
  refine sw_lstore_n X [(3, .long x11), (0, .ref (ad 14)), (1, .int a1), (2, .int a2)] rfl (by decide) rfl dc_H_fromTwo_14 ?_
  refine sw_lload_n X 0 rfl rfl dc_H_fromTwo_15 ?_
  refine sw_lconst (v := 0) X dc_H_fromTwo_16 (by decide) ?_
  refine sw_lcmp X dc_H_fromTwo_17 ?_
  refine sw_if_ge (tgt := 23) X dc_H_fromTwo_18 (by decide) (fun z => ?_) (fun z => ?_)
  · have h := h.1 z
    refine sw_aload_n X 1 rfl rfl dc_H_fromTwo_23 ?_
    refine sw_aload_n X 1 rfl rfl dc_H_fromTwo_24 ?_
    refine sw_get X (fun z hz => List.mem_cons_of_mem _ (wf_H z hz)) 14 (wd_14 cI cL cZ ad u11.1 u11.2 r o) rfl 3 (by decide) (List.mem_cons_of_mem _ wm_fl_H_28) rfl dc_H_fromTwo_25 ?_
    refine sw_get X (fun z hz => List.mem_cons_of_mem _ (wf_P z hz)) 1 (wd_1 cI cL cZ ad u11.1 u11.2 r o) rfl 3 (by decide) (List.mem_cons_of_mem _ wm_fl_H_105) rfl dc_H_fromTwo_28 ?_
    refine sw_iload_n X 2 rfl rfl dc_H_fromTwo_31 ?_
    refine sw_iald X 5 0 (wd_5 cI cL cZ ad u11.1 u11.2 r o) rfl h.1 dc_H_fromTwo_32 ?_
    have h := h.2
    refine sw_iload_n X 3 rfl rfl dc_H_fromTwo_33 ?_
    refine sw_cV_l (n := 2) X hA nw_okA hNs hE (fun u : st_S => wd_W cI cL cZ ad u.1 u.2 r o) [.int (u11.1 5 (a1).toNatClampNeg), .int a2] 14 (wd_14 cI cL cZ ad u11.1 u11.2 r o) rfl rfl (hK (u11.1 5 (a1).toNatClampNeg) a2 u11.1 u11.2 _ h) (List.mem_cons_of_mem _ wm_ml_H_123) (List.mem_cons_of_mem _ wm_im_H_workOut) (List.mem_cons_of_mem _ wm_se_H_workOut) rfl (wg_in wm_code_H_workOut) rfl rfl (List.mem_cons_of_mem _ wm_in_H) ⟨by decide, by decide, by decide +kernel⟩ ⟨by dsimp only; omega, by dsimp only; omega⟩ ⟨Nat.zero_le _, Nat.zero_le _⟩ rfl (Nat.le_of_ble_eq_true rfl) dc_H_fromTwo_34 rfl (fun x34 u34 h => ?_)
    refine sw_lstore X [(5, .long x34), (3, .long x11), (0, .ref (ad 14)), (1, .int a1), (2, .int a2)] rfl (by decide) dc_H_fromTwo_37 ?_
    refine sw_lload X 0 rfl dc_H_fromTwo_39 ?_
    refine sw_lconst (v := 0) X dc_H_fromTwo_41 (by decide) ?_
    refine sw_lcmp X dc_H_fromTwo_42 ?_
    refine sw_if_ge (tgt := 49) X dc_H_fromTwo_43 (by decide) (fun z => ?_) (fun z => ?_)
    · have h := h.1 z
      refine sw_aload_n X 2 rfl rfl dc_H_fromTwo_49 ?_
      refine sw_get X (fun z hz => List.mem_cons_of_mem _ (wf_H z hz)) 14 (wd_14 cI cL cZ ad u34.1 u34.2 r o) rfl 3 (by decide) (List.mem_cons_of_mem _ wm_fl_H_28) rfl dc_H_fromTwo_50 ?_
      refine sw_get X (fun z hz => List.mem_cons_of_mem _ (wf_P z hz)) 1 (wd_1 cI cL cZ ad u34.1 u34.2 r o) rfl 0 (by decide) (List.mem_cons_of_mem _ wm_fl_H_82) rfl dc_H_fromTwo_53 ?_
      refine sw_iload_n X 3 rfl rfl dc_H_fromTwo_56 ?_
      refine sw_iald X 2 0 (wd_2 cI cL cZ ad u34.1 u34.2 r o) rfl h.1 dc_H_fromTwo_57 ?_
      have h := h.2
      refine sw_istore X [(7, .int (u34.1 2 (a1).toNatClampNeg)), (5, .long x34), (3, .long x11), (0, .ref (ad 14)), (1, .int a1), (2, .int a2)] rfl (by decide) dc_H_fromTwo_58 ?_
      refine sw_iload X 0 rfl dc_H_fromTwo_60 ?_
      refine sw_bipush (v := 6) X dc_H_fromTwo_62 (by decide) ?_
      refine sw_icmp_ne (tgt := 75) X dc_H_fromTwo_64 (by decide) (fun z => ?_) (fun z => ?_)
      · have h := h.1 z
        refine sw_iload X 0 rfl dc_H_fromTwo_75 ?_
        refine sw_bipush (v := 13) X dc_H_fromTwo_77 (by decide) ?_
        refine sw_icmp_ne (tgt := 101) X dc_H_fromTwo_79 (by decide) (fun z => ?_) (fun z => ?_)
        · have h := h.1 z
          refine sw_aload_n X 3 rfl rfl dc_H_fromTwo_101 ?_
          refine sw_iload X 0 rfl dc_H_fromTwo_102 ?_
          refine sw_lload_n X 2 rfl rfl dc_H_fromTwo_104 ?_
          refine sw_lload X 1 rfl dc_H_fromTwo_105 ?_
          refine sw_cV_l (n := 3) X hA nw_okA hNs hE (fun u : st_S => wd_W cI cL cZ ad u.1 u.2 r o) [.int (u34.1 2 (a1).toNatClampNeg), .long x11, .long x34] 14 (wd_14 cI cL cZ ad u34.1 u34.2 r o) rfl rfl (ct_H_calculate l D cI cL cZ ad r o (u34.1 2 (a1).toNatClampNeg) x11 x34 u34.1 u34.2 _ h) (List.mem_cons_of_mem _ wm_ml_H_146) (List.mem_cons_of_mem _ wm_im_H_calculate) (List.mem_cons_of_mem _ wm_se_H_calculate) rfl (wg_in wm_code_H_calculate) rfl rfl (List.mem_cons_of_mem _ wm_in_H) ⟨by decide, by decide, by decide +kernel⟩ ⟨by dsimp only; omega, by dsimp only; omega⟩ ⟨Nat.zero_le _, Nat.zero_le _⟩ rfl (Nat.le_of_ble_eq_true rfl) dc_H_fromTwo_107 rfl (fun x107 u107 h => ?_)
          refine sw_sub [] rfl ?_
          exact b110 u107.1 u107.2 x107 h
        · have h := h.2 z
          refine sw_lload_n X 2 rfl rfl dc_H_fromTwo_82 ?_
          refine sw_lload X 1 rfl dc_H_fromTwo_83 ?_
          refine sw_lcmp X dc_H_fromTwo_85 ?_
          refine sw_if_ne (tgt := 93) X dc_H_fromTwo_86 (by decide) (fun z => ?_) (fun z => ?_)
          · have h := h.1 z
            refine sw_iconst (v := 0) X dc_H_fromTwo_93 (by decide) ?_
            refine sw_sub [] rfl ?_
            exact b94 u34.1 u34.2 (0 : Int32) h
          · have h := h.2 z
            refine sw_iconst (v := 1) X dc_H_fromTwo_89 (by decide) ?_
            refine sw_goto (tgt := 94) X dc_H_fromTwo_90 (by decide) ?_
            refine sw_sub [] rfl ?_
            exact b94 u34.1 u34.2 (1 : Int32) h
      · have h := h.2 z
        refine sw_aload_n X 3 rfl rfl dc_H_fromTwo_67 ?_
        refine sw_lload_n X 2 rfl rfl dc_H_fromTwo_68 ?_
        refine sw_lload X 1 rfl dc_H_fromTwo_69 ?_
        refine sw_cV_l (n := 2) X hA nw_okA hNs hE (fun u : st_S => wd_W cI cL cZ ad u.1 u.2 r o) [.long x11, .long x34] 14 (wd_14 cI cL cZ ad u34.1 u34.2 r o) rfl rfl (ct_H_pair l D cI cL cZ ad r o x11 x34 u34.1 u34.2 _ h) (List.mem_cons_of_mem _ wm_ml_H_142) (List.mem_cons_of_mem _ wm_im_H_pair) (List.mem_cons_of_mem _ wm_se_H_pair) rfl (wg_in wm_code_H_pair) rfl rfl (List.mem_cons_of_mem _ wm_in_H) ⟨by decide, by decide, by decide +kernel⟩ ⟨by dsimp only; omega, by dsimp only; omega⟩ ⟨Nat.zero_le _, Nat.zero_le _⟩ rfl (Nat.le_of_ble_eq_true rfl) dc_H_fromTwo_71 rfl (fun x71 u71 h => ?_)
        exact sw_lret X hr hlk (u := (u71.1, u71.2)) rfl h dc_H_fromTwo_74
    · have h := h.2 z
      refine sw_lload X 0 rfl dc_H_fromTwo_46 ?_
      exact sw_lret X hr hlk (u := (u34.1, u34.2)) rfl h dc_H_fromTwo_48
  · have h := h.2 z
    refine sw_lload_n X 0 rfl rfl dc_H_fromTwo_21 ?_
    exact sw_lret X hr hlk (u := (u11.1, u11.2)) rfl h dc_H_fromTwo_22
def wp_H_workOut_L199 (K : Int32 → Int32 → st_I → st_L → (Int64 → st_S → Prop) → Prop) (Q : (Int64 → st_S → Prop)) (g : st_I) (q : st_L) (v1 : Int32) (v2 : Int32) : Prop := wp_H_fromTwo K v1 v2 g q (fun x202 u202 => Q x202 (u202.1, u202.2))
def wp_H_workOut_L141 (K : Int32 → Int32 → st_I → st_L → (Int64 → st_S → Prop) → Prop) (Q : (Int64 → st_S → Prop)) (g : st_I) (q : st_L) (v1 : Int32) (v2 : Int32) : Prop := wp_H_headOrTail K v1 v2 g q (fun x144 u144 => Q x144 (u144.1, u144.2))
def wp_H_workOut_B (K : Int32 → Int32 → st_I → st_L → (Int64 → st_S → Prop) → Prop) (a1 : Int32) (a2 : Int32) (g : st_I) (q : st_L) (Q : (Int64 → st_S → Prop)) : Prop := ((g 14 10) < (200 : Int32) → vp_in a1 91 ∧ vp_in a1 91 ∧ ((g 2 (a1).toNatClampNeg) = (0 : Int32) → wp_H_variable (g 3 (a1).toNatClampNeg) a2 (st_u g 14 10 ((g 14 10) + (1 : Int32))) q (fun x119 u119 => Q x119 (u119.1, u119.2))) ∧ ((g 2 (a1).toNatClampNeg) = (1 : Int32) → wp_H_value (g 3 (a1).toNatClampNeg) (0 : Int32) (st_u g 14 10 ((g 14 10) + (1 : Int32))) q (fun x125 u125 => Q x125 (u125.1, u125.2))) ∧ ((g 2 (a1).toNatClampNeg) = (2 : Int32) → wp_H_number (g 3 (a1).toNatClampNeg) (st_u g 14 10 ((g 14 10) + (1 : Int32))) q (fun x130 u130 => Q x130 (u130.1, u130.2))) ∧ ((g 2 (a1).toNatClampNeg) = (3 : Int32) → wp_H_value (7 : Int32) (0 : Int32) (st_u g 14 10 ((g 14 10) + (1 : Int32))) q (fun x137 u137 => Q x137 (u137.1, u137.2))) ∧ ((g 2 (a1).toNatClampNeg) = (4 : Int32) → wp_H_workOut_L199 K Q (st_u g 14 10 ((g 14 10) + (1 : Int32))) q a1 a2) ∧ ((g 2 (a1).toNatClampNeg) = (5 : Int32) → wp_H_workOut_L199 K Q (st_u g 14 10 ((g 14 10) + (1 : Int32))) q a1 a2) ∧ ((g 2 (a1).toNatClampNeg) = (6 : Int32) → wp_H_workOut_L199 K Q (st_u g 14 10 ((g 14 10) + (1 : Int32))) q a1 a2) ∧ ((g 2 (a1).toNatClampNeg) = (7 : Int32) → wp_H_workOut_L141 K Q (st_u g 14 10 ((g 14 10) + (1 : Int32))) q a1 a2) ∧ ((g 2 (a1).toNatClampNeg) = (8 : Int32) → wp_H_workOut_L141 K Q (st_u g 14 10 ((g 14 10) + (1 : Int32))) q a1 a2) ∧ ((g 2 (a1).toNatClampNeg) = (9 : Int32) → wp_H_oneOfCase K a1 a2 (st_u g 14 10 ((g 14 10) + (1 : Int32))) q (fun x151 u151 => Q x151 (u151.1, u151.2))) ∧ ((g 2 (a1).toNatClampNeg) = (10 : Int32) → vp_in a1 91 ∧ vp_in a1 91 ∧ wp_H_callWith K (g 3 (a1).toNatClampNeg) (g 4 (a1).toNatClampNeg) (g 5 (a1).toNatClampNeg) a2 (st_u g 14 10 ((g 14 10) + (1 : Int32))) q (fun x176 u176 => Q x176 (u176.1, u176.2))) ∧ ((g 2 (a1).toNatClampNeg) = (11 : Int32) → wp_H_letIn K a1 a2 (st_u g 14 10 ((g 14 10) + (1 : Int32))) q (fun x183 u183 => Q x183 (u183.1, u183.2))) ∧ ((g 2 (a1).toNatClampNeg) = (12 : Int32) → wp_H_firstOrElse K a1 a2 (st_u g 14 10 ((g 14 10) + (1 : Int32))) q (fun x190 u190 => Q x190 (u190.1, u190.2))) ∧ ((g 2 (a1).toNatClampNeg) = (13 : Int32) → wp_H_workOut_L199 K Q (st_u g 14 10 ((g 14 10) + (1 : Int32))) q a1 a2) ∧ ((g 2 (a1).toNatClampNeg) = (14 : Int32) → wp_H_fail  (st_u g 14 10 ((g 14 10) + (1 : Int32))) q (fun x195 u195 => Q x195 (u195.1, u195.2))) ∧ (¬ (g 2 (a1).toNatClampNeg) = (0 : Int32) → ¬ (g 2 (a1).toNatClampNeg) = (1 : Int32) → ¬ (g 2 (a1).toNatClampNeg) = (2 : Int32) → ¬ (g 2 (a1).toNatClampNeg) = (3 : Int32) → ¬ (g 2 (a1).toNatClampNeg) = (4 : Int32) → ¬ (g 2 (a1).toNatClampNeg) = (5 : Int32) → ¬ (g 2 (a1).toNatClampNeg) = (6 : Int32) → ¬ (g 2 (a1).toNatClampNeg) = (7 : Int32) → ¬ (g 2 (a1).toNatClampNeg) = (8 : Int32) → ¬ (g 2 (a1).toNatClampNeg) = (9 : Int32) → ¬ (g 2 (a1).toNatClampNeg) = (10 : Int32) → ¬ (g 2 (a1).toNatClampNeg) = (11 : Int32) → ¬ (g 2 (a1).toNatClampNeg) = (12 : Int32) → ¬ (g 2 (a1).toNatClampNeg) = (13 : Int32) → ¬ (g 2 (a1).toNatClampNeg) = (14 : Int32) → wp_H_workOut_L199 K Q (st_u g 14 10 ((g 14 10) + (1 : Int32))) q a1 a2)) ∧ (¬ (g 14 10) < (200 : Int32) → Q (-2 : Int64) (g, q))
def wp_H_workOut : Nat → Int32 → Int32 → st_I → st_L → (Int64 → st_S → Prop) → Prop
  | 0 => fun _ _ _ _ _ => False
  | d + 1 => wp_H_workOut_B (wp_H_workOut d)
set_option maxHeartbeats 4000000 in
set_option maxRecDepth 100000 in
theorem ct_H_workOut_B (l : Launch) (D : va_G) (cI cL cZ : ClassId) (ad : Nat → Nat) (r : st_I) (o : st_L) (f lo : Nat) (K : Int32 → Int32 → st_I → st_L → (Int64 → st_S → Prop) → Prop) (hK : ∀ (b0 : Int32) (b1 : Int32) (g : st_I) (q : st_L) (Q : (Int64 → st_S → Prop)), K b0 b1 g q Q → ∀ sz, Met l yn_H_workOut (Cond.code yn_H_workOut cd_H_workOut 4 (some .long) :: wa_A) { frames := f, cells := 0, slots := 0, locals := lo } (va_Pc [.ref (ad 14), .int b0, .int b1] (wq_S D cl_A (wd_T cI cL cZ) nw_A (wd_W cI cL cZ ad g q r o) sz)) (va_Ql Q (fun u t => wq_E D cl_A (wd_T cI cL cZ) (va_A (wd_W cI cL cZ ad g q r o) sz) (wd_W cI cL cZ ad u.1 u.2 r o) t) (va_A (wd_W cI cL cZ ad g q r o) sz)) 0 0 (va_A (wd_W cI cL cZ ad g q r o) sz)) (a1 : Int32) (a2 : Int32) (g : st_I) (q : st_L) (Q : (Int64 → st_S → Prop)) (h : wp_H_workOut_B K a1 a2 g q Q) : ∀ sz, Met l yn_H_workOut (Cond.code yn_H_workOut cd_H_workOut 4 (some .long) :: wa_A) { frames := f + 4, cells := 0, slots := 0, locals := lo + 96 } (va_Pc [.ref (ad 14), .int a1, .int a2] (wq_S D cl_A (wd_T cI cL cZ) nw_A (wd_W cI cL cZ ad g q r o) sz)) (va_Ql Q (fun u t => wq_E D cl_A (wd_T cI cL cZ) (va_A (wd_W cI cL cZ ad g q r o) sz) (wd_W cI cL cZ ad u.1 u.2 r o) t) (va_A (wd_W cI cL cZ ad g q r o) sz)) 0 0 (va_A (wd_W cI cL cZ ad g q r o) sz) := by
  refine sw_met (Qc := fun A => va_Ql Q (fun u t => wq_E D cl_A (wd_T cI cL cZ) A (wd_W cI cL cZ ad u.1 u.2 r o) t) A) (by decide) rfl (Nat.le_of_ble_eq_true rfl) rfl ?_
  intro p e s m args below meth c A X hA hNs hE hr hlk hnm
  have b199 : ∀ (g : st_I) (q : st_L) (v1 : Int32) (v2 : Int32), wp_H_workOut_L199 K Q g q v1 v2 → sw_J p l e { frames := f + 4, cells := 0, slots := 0, locals := lo + 96 } s m args below meth c 0 0 (MQ below (va_Ql Q (fun u t => wq_E D cl_A (wd_T cI cL cZ) A (wd_W cI cL cZ ad u.1 u.2 r o) t) A) args s 0 0 A) D cl_A A 4 (wd_W cI cL cZ ad g q r o) 199 [(0, .ref (ad 14)), (1, .int v1), (2, .int v2)] [] := by
    intro g q v1 v2 h
    refine sw_aload_n X 0 rfl rfl dc_H_workOut_199 ?_
    refine sw_iload_n X 1 rfl rfl dc_H_workOut_200 ?_
    refine sw_iload_n X 2 rfl rfl dc_H_workOut_201 ?_
    refine sw_cV_l (n := 2) X hA nw_okA hNs hE (fun u : st_S => wd_W cI cL cZ ad u.1 u.2 r o) [.int v1, .int v2] 14 (wd_14 cI cL cZ ad g q r o) rfl rfl (ct_H_fromTwo l D cI cL cZ ad r o f lo K hK v1 v2 g q _ h) (List.mem_cons_of_mem _ wm_ml_H_118) (List.mem_cons_of_mem _ wm_im_H_fromTwo) (List.mem_cons_of_mem _ wm_se_H_fromTwo) rfl (wg_in wm_code_H_fromTwo) rfl rfl (List.mem_cons_of_mem _ wm_in_H) ⟨by decide, by decide, by decide +kernel⟩ ⟨by dsimp only; omega, by dsimp only; omega⟩ ⟨Nat.zero_le _, Nat.zero_le _⟩ rfl (Nat.le_of_ble_eq_true rfl) dc_H_workOut_202 rfl (fun x202 u202 h => ?_)
    exact sw_lret X hr hlk (u := (u202.1, u202.2)) rfl h dc_H_workOut_205
  have b141 : ∀ (g : st_I) (q : st_L) (v1 : Int32) (v2 : Int32), wp_H_workOut_L141 K Q g q v1 v2 → sw_J p l e { frames := f + 4, cells := 0, slots := 0, locals := lo + 96 } s m args below meth c 0 0 (MQ below (va_Ql Q (fun u t => wq_E D cl_A (wd_T cI cL cZ) A (wd_W cI cL cZ ad u.1 u.2 r o) t) A) args s 0 0 A) D cl_A A 4 (wd_W cI cL cZ ad g q r o) 141 [(0, .ref (ad 14)), (1, .int v1), (2, .int v2)] [] := by
    intro g q v1 v2 h
    refine sw_aload_n X 0 rfl rfl dc_H_workOut_141 ?_
    refine sw_iload_n X 1 rfl rfl dc_H_workOut_142 ?_
    refine sw_iload_n X 2 rfl rfl dc_H_workOut_143 ?_
    refine sw_cV_l (n := 2) X hA nw_okA hNs hE (fun u : st_S => wd_W cI cL cZ ad u.1 u.2 r o) [.int v1, .int v2] 14 (wd_14 cI cL cZ ad g q r o) rfl rfl (ct_H_headOrTail l D cI cL cZ ad r o f lo K hK v1 v2 g q _ h) (List.mem_cons_of_mem _ wm_ml_H_96) (List.mem_cons_of_mem _ wm_im_H_headOrTail) (List.mem_cons_of_mem _ wm_se_H_headOrTail) rfl (wg_in wm_code_H_headOrTail) rfl rfl (List.mem_cons_of_mem _ wm_in_H) ⟨by decide, by decide, by decide +kernel⟩ ⟨by dsimp only; omega, by dsimp only; omega⟩ ⟨Nat.zero_le _, Nat.zero_le _⟩ rfl (Nat.le_of_ble_eq_true rfl) dc_H_workOut_144 rfl (fun x144 u144 h => ?_)
    exact sw_lret X hr hlk (u := (u144.1, u144.2)) rfl h dc_H_workOut_147
  refine sw_aload_n X 0 rfl rfl dc_H_workOut_0 ?_
  refine sw_get (v := .int (g 14 10)) X (fun z hz => List.mem_cons_of_mem _ (wf_H z hz)) 14 (wd_14 cI cL cZ ad g q r o) rfl 10 (by decide) (List.mem_cons_of_mem _ wm_fl_H_42) rfl dc_H_workOut_1 ?_
  refine sw_sipush (v := 200) X dc_H_workOut_4 (by decide) ?_
  refine sw_icmp_lt (tgt := 14) X dc_H_workOut_7 (by decide) (fun z => ?_) (fun z => ?_)
  · have h := h.1 z
    refine sw_aload_n X 0 rfl rfl dc_H_workOut_14 ?_
    refine sw_dup X dc_H_workOut_15 rfl ?_
    refine sw_get (v := .int (g 14 10)) X (fun z hz => List.mem_cons_of_mem _ (wf_H z hz)) 14 (wd_14 cI cL cZ ad g q r o) rfl 10 (by decide) (List.mem_cons_of_mem _ wm_fl_H_42) rfl dc_H_workOut_16 ?_
    refine sw_iconst (v := 1) X dc_H_workOut_19 (by decide) ?_
    refine sw_iadd X dc_H_workOut_20 ?_
    refine sw_put (ty := .int) X (fun z hz => List.mem_cons_of_mem _ (wf_H z hz)) fy_H fo_H fn_H 14 (wd_14 cI cL cZ ad g q r o) rfl 10 (by decide) (List.mem_cons_of_mem _ wm_fl_H_42) rfl (by decide +kernel) rfl rfl (Nat.le_of_ble_eq_true rfl) (wd_W cI cL cZ ad (st_u g 14 10 ((g 14 10) + (1 : Int32))) q r o) (ws_14_10 cI cL cZ ad g q r o ((g 14 10) + (1 : Int32))) dc_H_workOut_21 ?_
    refine sw_aload_n X 0 rfl rfl dc_H_workOut_24 ?_
    refine sw_get X (fun z hz => List.mem_cons_of_mem _ (wf_H z hz)) 14 (wd_14 cI cL cZ ad (st_u g 14 10 ((g 14 10) + (1 : Int32))) q r o) rfl 3 (by decide) (List.mem_cons_of_mem _ wm_fl_H_28) rfl dc_H_workOut_25 ?_
    refine sw_get X (fun z hz => List.mem_cons_of_mem _ (wf_P z hz)) 1 (wd_1 cI cL cZ ad (st_u g 14 10 ((g 14 10) + (1 : Int32))) q r o) rfl 1 (by decide) (List.mem_cons_of_mem _ wm_fl_H_77) rfl dc_H_workOut_28 ?_
    refine sw_iload_n X 1 rfl rfl dc_H_workOut_31 ?_
    refine sw_iald X 3 0 (wd_3 cI cL cZ ad (st_u g 14 10 ((g 14 10) + (1 : Int32))) q r o) rfl h.1 dc_H_workOut_32 ?_
    have h := h.2
    refine sw_eq (st' := [.int (g 3 (a1).toNatClampNeg)]) rfl rfl rfl ?_
    refine sw_istore_n X [(3, .int (g 3 (a1).toNatClampNeg)), (0, .ref (ad 14)), (1, .int a1), (2, .int a2)] rfl (by decide) rfl dc_H_workOut_33 ?_
    refine sw_aload_n X 1 rfl rfl dc_H_workOut_34 ?_
    refine sw_get X (fun z hz => List.mem_cons_of_mem _ (wf_H z hz)) 14 (wd_14 cI cL cZ ad (st_u g 14 10 ((g 14 10) + (1 : Int32))) q r o) rfl 3 (by decide) (List.mem_cons_of_mem _ wm_fl_H_28) rfl dc_H_workOut_35 ?_
    refine sw_get X (fun z hz => List.mem_cons_of_mem _ (wf_P z hz)) 1 (wd_1 cI cL cZ ad (st_u g 14 10 ((g 14 10) + (1 : Int32))) q r o) rfl 0 (by decide) (List.mem_cons_of_mem _ wm_fl_H_82) rfl dc_H_workOut_38 ?_
    refine sw_iload_n X 2 rfl rfl dc_H_workOut_41 ?_
    refine sw_iald X 2 0 (wd_2 cI cL cZ ad (st_u g 14 10 ((g 14 10) + (1 : Int32))) q r o) rfl h.1 dc_H_workOut_42 ?_
    have h := h.2
    refine sw_eq (st' := [.int (g 2 (a1).toNatClampNeg)]) rfl rfl rfl ?_
    by_cases z0 : (g 2 (a1).toNatClampNeg) = (0 : Int32)
    · have h := h.1 z0
      refine sw_tableIn (tgt := 116) (off := 73) X dc_H_workOut_43 (by rw [z0]; decide) (by rw [z0]; decide) (by rw [z0]; rfl) (by decide) ?_
      refine sw_aload_n X 1 rfl rfl dc_H_workOut_116 ?_
      refine sw_iload_n X 0 rfl rfl dc_H_workOut_117 ?_
      refine sw_iload_n X 3 rfl rfl dc_H_workOut_118 ?_
      refine sw_cV_l (n := 2) X hA nw_okA hNs hE (fun u : st_S => wd_W cI cL cZ ad u.1 u.2 r o) [.int (g 3 (a1).toNatClampNeg), .int a2] 14 (wd_14 cI cL cZ ad (st_u g 14 10 ((g 14 10) + (1 : Int32))) q r o) rfl rfl (ct_H_variable l D cI cL cZ ad r o (g 3 (a1).toNatClampNeg) a2 (st_u g 14 10 ((g 14 10) + (1 : Int32))) q _ h) (List.mem_cons_of_mem _ wm_ml_H_85) (List.mem_cons_of_mem _ wm_im_H_variable) (List.mem_cons_of_mem _ wm_se_H_variable) rfl (wg_in wm_code_H_variable) rfl rfl (List.mem_cons_of_mem _ wm_in_H) ⟨by decide, by decide, by decide +kernel⟩ ⟨by dsimp only; omega, by dsimp only; omega⟩ ⟨Nat.zero_le _, Nat.zero_le _⟩ rfl (Nat.le_of_ble_eq_true rfl) dc_H_workOut_119 rfl (fun x119 u119 h => ?_)
      exact sw_lret X hr hlk (u := (u119.1, u119.2)) rfl h dc_H_workOut_122
    by_cases z1 : (g 2 (a1).toNatClampNeg) = (1 : Int32)
    · have h := h.2.1 z1
      refine sw_tableIn (tgt := 123) (off := 80) X dc_H_workOut_43 (by rw [z1]; decide) (by rw [z1]; decide) (by rw [z1]; rfl) (by decide) ?_
      refine sw_iload_n X 0 rfl rfl dc_H_workOut_123 ?_
      refine sw_iconst (v := 0) X dc_H_workOut_124 (by decide) ?_
      refine sw_cS_l (n := 2) X hA nw_okA hNs hE (fun u : st_S => wd_W cI cL cZ ad u.1 u.2 r o) [.int (g 3 (a1).toNatClampNeg), .int (0 : Int32)] (ct_H_value l D cI cL cZ ad r o (g 3 (a1).toNatClampNeg) (0 : Int32) (st_u g 14 10 ((g 14 10) + (1 : Int32))) q _ h) (List.mem_cons_of_mem _ wm_ml_H_89) (List.mem_cons_of_mem _ wm_st_H_value) rfl (wg_in wm_code_H_value) rfl rfl (List.mem_cons_of_mem _ wm_in_H) ⟨by decide, by decide, by decide +kernel⟩ ⟨by dsimp only; omega, by dsimp only; omega⟩ ⟨Nat.zero_le _, Nat.zero_le _⟩ rfl (Nat.le_of_ble_eq_true rfl) dc_H_workOut_125 rfl (fun x125 u125 h => ?_)
      exact sw_lret X hr hlk (u := (u125.1, u125.2)) rfl h dc_H_workOut_128
    by_cases z2 : (g 2 (a1).toNatClampNeg) = (2 : Int32)
    · have h := h.2.2.1 z2
      refine sw_tableIn (tgt := 129) (off := 86) X dc_H_workOut_43 (by rw [z2]; decide) (by rw [z2]; decide) (by rw [z2]; rfl) (by decide) ?_
      refine sw_iload_n X 0 rfl rfl dc_H_workOut_129 ?_
      refine sw_cS_l (n := 1) X hA nw_okA hNs hE (fun u : st_S => wd_W cI cL cZ ad u.1 u.2 r o) [.int (g 3 (a1).toNatClampNeg)] (ct_H_number l D cI cL cZ ad r o (g 3 (a1).toNatClampNeg) (st_u g 14 10 ((g 14 10) + (1 : Int32))) q _ h) (List.mem_cons_of_mem _ wm_ml_H_92) (List.mem_cons_of_mem _ wm_st_H_number) rfl (wg_in wm_code_H_number) rfl rfl (List.mem_cons_of_mem _ wm_in_H) ⟨by decide, by decide, by decide +kernel⟩ ⟨by dsimp only; omega, by dsimp only; omega⟩ ⟨Nat.zero_le _, Nat.zero_le _⟩ rfl (Nat.le_of_ble_eq_true rfl) dc_H_workOut_130 rfl (fun x130 u130 h => ?_)
      exact sw_lret X hr hlk (u := (u130.1, u130.2)) rfl h dc_H_workOut_133
    by_cases z3 : (g 2 (a1).toNatClampNeg) = (3 : Int32)
    · have h := h.2.2.2.1 z3
      refine sw_tableIn (tgt := 134) (off := 91) X dc_H_workOut_43 (by rw [z3]; decide) (by rw [z3]; decide) (by rw [z3]; rfl) (by decide) ?_
      refine sw_bipush (v := 7) X dc_H_workOut_134 (by decide) ?_
      refine sw_iconst (v := 0) X dc_H_workOut_136 (by decide) ?_
      refine sw_cS_l (n := 2) X hA nw_okA hNs hE (fun u : st_S => wd_W cI cL cZ ad u.1 u.2 r o) [.int (7 : Int32), .int (0 : Int32)] (ct_H_value l D cI cL cZ ad r o (7 : Int32) (0 : Int32) (st_u g 14 10 ((g 14 10) + (1 : Int32))) q _ h) (List.mem_cons_of_mem _ wm_ml_H_89) (List.mem_cons_of_mem _ wm_st_H_value) rfl (wg_in wm_code_H_value) rfl rfl (List.mem_cons_of_mem _ wm_in_H) ⟨by decide, by decide, by decide +kernel⟩ ⟨by dsimp only; omega, by dsimp only; omega⟩ ⟨Nat.zero_le _, Nat.zero_le _⟩ rfl (Nat.le_of_ble_eq_true rfl) dc_H_workOut_137 rfl (fun x137 u137 h => ?_)
      exact sw_lret X hr hlk (u := (u137.1, u137.2)) rfl h dc_H_workOut_140
    by_cases z4 : (g 2 (a1).toNatClampNeg) = (4 : Int32)
    · have h := h.2.2.2.2.1 z4
      refine sw_tableIn (tgt := 199) (off := 156) X dc_H_workOut_43 (by rw [z4]; decide) (by rw [z4]; decide) (by rw [z4]; rfl) (by decide) ?_
      refine sw_sub [1, 2, 3] rfl ?_
      exact b199 (st_u g 14 10 ((g 14 10) + (1 : Int32))) q a1 a2 h
    by_cases z5 : (g 2 (a1).toNatClampNeg) = (5 : Int32)
    · have h := h.2.2.2.2.2.1 z5
      refine sw_tableIn (tgt := 199) (off := 156) X dc_H_workOut_43 (by rw [z5]; decide) (by rw [z5]; decide) (by rw [z5]; rfl) (by decide) ?_
      refine sw_sub [1, 2, 3] rfl ?_
      exact b199 (st_u g 14 10 ((g 14 10) + (1 : Int32))) q a1 a2 h
    by_cases z6 : (g 2 (a1).toNatClampNeg) = (6 : Int32)
    · have h := h.2.2.2.2.2.2.1 z6
      refine sw_tableIn (tgt := 199) (off := 156) X dc_H_workOut_43 (by rw [z6]; decide) (by rw [z6]; decide) (by rw [z6]; rfl) (by decide) ?_
      refine sw_sub [1, 2, 3] rfl ?_
      exact b199 (st_u g 14 10 ((g 14 10) + (1 : Int32))) q a1 a2 h
    by_cases z7 : (g 2 (a1).toNatClampNeg) = (7 : Int32)
    · have h := h.2.2.2.2.2.2.2.1 z7
      refine sw_tableIn (tgt := 141) (off := 98) X dc_H_workOut_43 (by rw [z7]; decide) (by rw [z7]; decide) (by rw [z7]; rfl) (by decide) ?_
      refine sw_sub [1, 2, 3] rfl ?_
      exact b141 (st_u g 14 10 ((g 14 10) + (1 : Int32))) q a1 a2 h
    by_cases z8 : (g 2 (a1).toNatClampNeg) = (8 : Int32)
    · have h := h.2.2.2.2.2.2.2.2.1 z8
      refine sw_tableIn (tgt := 141) (off := 98) X dc_H_workOut_43 (by rw [z8]; decide) (by rw [z8]; decide) (by rw [z8]; rfl) (by decide) ?_
      refine sw_sub [1, 2, 3] rfl ?_
      exact b141 (st_u g 14 10 ((g 14 10) + (1 : Int32))) q a1 a2 h
    by_cases z9 : (g 2 (a1).toNatClampNeg) = (9 : Int32)
    · have h := h.2.2.2.2.2.2.2.2.2.1 z9
      refine sw_tableIn (tgt := 148) (off := 105) X dc_H_workOut_43 (by rw [z9]; decide) (by rw [z9]; decide) (by rw [z9]; rfl) (by decide) ?_
      refine sw_aload_n X 1 rfl rfl dc_H_workOut_148 ?_
      refine sw_iload_n X 2 rfl rfl dc_H_workOut_149 ?_
      refine sw_iload_n X 3 rfl rfl dc_H_workOut_150 ?_
      refine sw_cV_l (n := 2) X hA nw_okA hNs hE (fun u : st_S => wd_W cI cL cZ ad u.1 u.2 r o) [.int a1, .int a2] 14 (wd_14 cI cL cZ ad (st_u g 14 10 ((g 14 10) + (1 : Int32))) q r o) rfl rfl (ct_H_oneOfCase l D cI cL cZ ad r o f lo K hK a1 a2 (st_u g 14 10 ((g 14 10) + (1 : Int32))) q _ h) (List.mem_cons_of_mem _ wm_ml_H_99) (List.mem_cons_of_mem _ wm_im_H_oneOfCase) (List.mem_cons_of_mem _ wm_se_H_oneOfCase) rfl (wg_in wm_code_H_oneOfCase) rfl rfl (List.mem_cons_of_mem _ wm_in_H) ⟨by decide, by decide, by decide +kernel⟩ ⟨by dsimp only; omega, by dsimp only; omega⟩ ⟨Nat.zero_le _, Nat.zero_le _⟩ rfl (Nat.le_of_ble_eq_true rfl) dc_H_workOut_151 rfl (fun x151 u151 h => ?_)
      exact sw_lret X hr hlk (u := (u151.1, u151.2)) rfl h dc_H_workOut_154
    by_cases z10 : (g 2 (a1).toNatClampNeg) = (10 : Int32)
    · have h := h.2.2.2.2.2.2.2.2.2.2.1 z10
      refine sw_tableIn (tgt := 155) (off := 112) X dc_H_workOut_43 (by rw [z10]; decide) (by rw [z10]; decide) (by rw [z10]; rfl) (by decide) ?_
      refine sw_aload_n X 1 rfl rfl dc_H_workOut_155 ?_
      refine sw_iload_n X 0 rfl rfl dc_H_workOut_156 ?_
      refine sw_aload_n X 1 rfl rfl dc_H_workOut_157 ?_
      refine sw_get X (fun z hz => List.mem_cons_of_mem _ (wf_H z hz)) 14 (wd_14 cI cL cZ ad (st_u g 14 10 ((g 14 10) + (1 : Int32))) q r o) rfl 3 (by decide) (List.mem_cons_of_mem _ wm_fl_H_28) rfl dc_H_workOut_158 ?_
      refine sw_get X (fun z hz => List.mem_cons_of_mem _ (wf_P z hz)) 1 (wd_1 cI cL cZ ad (st_u g 14 10 ((g 14 10) + (1 : Int32))) q r o) rfl 2 (by decide) (List.mem_cons_of_mem _ wm_fl_H_102) rfl dc_H_workOut_161 ?_
      refine sw_iload_n X 2 rfl rfl dc_H_workOut_164 ?_
      refine sw_iald X 4 0 (wd_4 cI cL cZ ad (st_u g 14 10 ((g 14 10) + (1 : Int32))) q r o) rfl h.1 dc_H_workOut_165 ?_
      have h := h.2
      refine sw_eq (st' := [.int (g 4 (a1).toNatClampNeg), .int (g 3 (a1).toNatClampNeg), .ref (ad 14)]) rfl rfl rfl ?_
      refine sw_aload_n X 1 rfl rfl dc_H_workOut_166 ?_
      refine sw_get X (fun z hz => List.mem_cons_of_mem _ (wf_H z hz)) 14 (wd_14 cI cL cZ ad (st_u g 14 10 ((g 14 10) + (1 : Int32))) q r o) rfl 3 (by decide) (List.mem_cons_of_mem _ wm_fl_H_28) rfl dc_H_workOut_167 ?_
      refine sw_get X (fun z hz => List.mem_cons_of_mem _ (wf_P z hz)) 1 (wd_1 cI cL cZ ad (st_u g 14 10 ((g 14 10) + (1 : Int32))) q r o) rfl 3 (by decide) (List.mem_cons_of_mem _ wm_fl_H_105) rfl dc_H_workOut_170 ?_
      refine sw_iload_n X 2 rfl rfl dc_H_workOut_173 ?_
      refine sw_iald X 5 0 (wd_5 cI cL cZ ad (st_u g 14 10 ((g 14 10) + (1 : Int32))) q r o) rfl h.1 dc_H_workOut_174 ?_
      have h := h.2
      refine sw_eq (st' := [.int (g 5 (a1).toNatClampNeg), .int (g 4 (a1).toNatClampNeg), .int (g 3 (a1).toNatClampNeg), .ref (ad 14)]) rfl rfl rfl ?_
      refine sw_iload_n X 3 rfl rfl dc_H_workOut_175 ?_
      refine sw_cV_l (n := 4) X hA nw_okA hNs hE (fun u : st_S => wd_W cI cL cZ ad u.1 u.2 r o) [.int (g 3 (a1).toNatClampNeg), .int (g 4 (a1).toNatClampNeg), .int (g 5 (a1).toNatClampNeg), .int a2] 14 (wd_14 cI cL cZ ad (st_u g 14 10 ((g 14 10) + (1 : Int32))) q r o) rfl rfl (ct_H_callWith l D cI cL cZ ad r o f lo K hK (g 3 (a1).toNatClampNeg) (g 4 (a1).toNatClampNeg) (g 5 (a1).toNatClampNeg) a2 (st_u g 14 10 ((g 14 10) + (1 : Int32))) q _ h) (List.mem_cons_of_mem _ wm_ml_H_54) (List.mem_cons_of_mem _ wm_im_H_callWith) (List.mem_cons_of_mem _ wm_se_H_callWith) rfl (wg_in wm_code_H_callWith) rfl rfl (List.mem_cons_of_mem _ wm_in_H) ⟨by decide, by decide, by decide +kernel⟩ ⟨by dsimp only; omega, by dsimp only; omega⟩ ⟨Nat.zero_le _, Nat.zero_le _⟩ rfl (Nat.le_of_ble_eq_true rfl) dc_H_workOut_176 rfl (fun x176 u176 h => ?_)
      exact sw_lret X hr hlk (u := (u176.1, u176.2)) rfl h dc_H_workOut_179
    by_cases z11 : (g 2 (a1).toNatClampNeg) = (11 : Int32)
    · have h := h.2.2.2.2.2.2.2.2.2.2.2.1 z11
      refine sw_tableIn (tgt := 180) (off := 137) X dc_H_workOut_43 (by rw [z11]; decide) (by rw [z11]; decide) (by rw [z11]; rfl) (by decide) ?_
      refine sw_aload_n X 1 rfl rfl dc_H_workOut_180 ?_
      refine sw_iload_n X 2 rfl rfl dc_H_workOut_181 ?_
      refine sw_iload_n X 3 rfl rfl dc_H_workOut_182 ?_
      refine sw_cV_l (n := 2) X hA nw_okA hNs hE (fun u : st_S => wd_W cI cL cZ ad u.1 u.2 r o) [.int a1, .int a2] 14 (wd_14 cI cL cZ ad (st_u g 14 10 ((g 14 10) + (1 : Int32))) q r o) rfl rfl (ct_H_letIn l D cI cL cZ ad r o f lo K hK a1 a2 (st_u g 14 10 ((g 14 10) + (1 : Int32))) q _ h) (List.mem_cons_of_mem _ wm_ml_H_108) (List.mem_cons_of_mem _ wm_im_H_letIn) (List.mem_cons_of_mem _ wm_se_H_letIn) rfl (wg_in wm_code_H_letIn) rfl rfl (List.mem_cons_of_mem _ wm_in_H) ⟨by decide, by decide, by decide +kernel⟩ ⟨by dsimp only; omega, by dsimp only; omega⟩ ⟨Nat.zero_le _, Nat.zero_le _⟩ rfl (Nat.le_of_ble_eq_true rfl) dc_H_workOut_183 rfl (fun x183 u183 h => ?_)
      exact sw_lret X hr hlk (u := (u183.1, u183.2)) rfl h dc_H_workOut_186
    by_cases z12 : (g 2 (a1).toNatClampNeg) = (12 : Int32)
    · have h := h.2.2.2.2.2.2.2.2.2.2.2.2.1 z12
      refine sw_tableIn (tgt := 187) (off := 144) X dc_H_workOut_43 (by rw [z12]; decide) (by rw [z12]; decide) (by rw [z12]; rfl) (by decide) ?_
      refine sw_aload_n X 1 rfl rfl dc_H_workOut_187 ?_
      refine sw_iload_n X 2 rfl rfl dc_H_workOut_188 ?_
      refine sw_iload_n X 3 rfl rfl dc_H_workOut_189 ?_
      refine sw_cV_l (n := 2) X hA nw_okA hNs hE (fun u : st_S => wd_W cI cL cZ ad u.1 u.2 r o) [.int a1, .int a2] 14 (wd_14 cI cL cZ ad (st_u g 14 10 ((g 14 10) + (1 : Int32))) q r o) rfl rfl (ct_H_firstOrElse l D cI cL cZ ad r o f lo K hK a1 a2 (st_u g 14 10 ((g 14 10) + (1 : Int32))) q _ h) (List.mem_cons_of_mem _ wm_ml_H_111) (List.mem_cons_of_mem _ wm_im_H_firstOrElse) (List.mem_cons_of_mem _ wm_se_H_firstOrElse) rfl (wg_in wm_code_H_firstOrElse) rfl rfl (List.mem_cons_of_mem _ wm_in_H) ⟨by decide, by decide, by decide +kernel⟩ ⟨by dsimp only; omega, by dsimp only; omega⟩ ⟨Nat.zero_le _, Nat.zero_le _⟩ rfl (Nat.le_of_ble_eq_true rfl) dc_H_workOut_190 rfl (fun x190 u190 h => ?_)
      exact sw_lret X hr hlk (u := (u190.1, u190.2)) rfl h dc_H_workOut_193
    by_cases z13 : (g 2 (a1).toNatClampNeg) = (13 : Int32)
    · have h := h.2.2.2.2.2.2.2.2.2.2.2.2.2.1 z13
      refine sw_tableIn (tgt := 199) (off := 156) X dc_H_workOut_43 (by rw [z13]; decide) (by rw [z13]; decide) (by rw [z13]; rfl) (by decide) ?_
      refine sw_sub [1, 2, 3] rfl ?_
      exact b199 (st_u g 14 10 ((g 14 10) + (1 : Int32))) q a1 a2 h
    by_cases z14 : (g 2 (a1).toNatClampNeg) = (14 : Int32)
    · have h := h.2.2.2.2.2.2.2.2.2.2.2.2.2.2.1 z14
      refine sw_tableIn (tgt := 194) (off := 151) X dc_H_workOut_43 (by rw [z14]; decide) (by rw [z14]; decide) (by rw [z14]; rfl) (by decide) ?_
      refine sw_aload_n X 1 rfl rfl dc_H_workOut_194 ?_
      refine sw_cV_l (n := 0) X hA nw_okA hNs hE (fun u : st_S => wd_W cI cL cZ ad u.1 u.2 r o) [] 14 (wd_14 cI cL cZ ad (st_u g 14 10 ((g 14 10) + (1 : Int32))) q r o) rfl rfl (ct_H_fail l D cI cL cZ ad r o (st_u g 14 10 ((g 14 10) + (1 : Int32))) q _ h) (List.mem_cons_of_mem _ wm_ml_H_114) (List.mem_cons_of_mem _ wm_im_H_fail) (List.mem_cons_of_mem _ wm_se_H_fail) rfl (wg_in wm_code_H_fail) rfl rfl (List.mem_cons_of_mem _ wm_in_H) ⟨by decide, by decide, by decide +kernel⟩ ⟨by dsimp only; omega, by dsimp only; omega⟩ ⟨Nat.zero_le _, Nat.zero_le _⟩ rfl (Nat.le_of_ble_eq_true rfl) dc_H_workOut_195 rfl (fun x195 u195 h => ?_)
      exact sw_lret X hr hlk (u := (u195.1, u195.2)) rfl h dc_H_workOut_198
    have h := h.2.2.2.2.2.2.2.2.2.2.2.2.2.2.2 z0 z1 z2 z3 z4 z5 z6 z7 z8 z9 z10 z11 z12 z13 z14
    have z0 : ((g 2 (a1).toNatClampNeg)).toInt ≠ 0 := fun e => z0 (Int32.toInt_inj.mp (e.trans (by decide)))
    have z1 : ((g 2 (a1).toNatClampNeg)).toInt ≠ 1 := fun e => z1 (Int32.toInt_inj.mp (e.trans (by decide)))
    have z2 : ((g 2 (a1).toNatClampNeg)).toInt ≠ 2 := fun e => z2 (Int32.toInt_inj.mp (e.trans (by decide)))
    have z3 : ((g 2 (a1).toNatClampNeg)).toInt ≠ 3 := fun e => z3 (Int32.toInt_inj.mp (e.trans (by decide)))
    have z4 : ((g 2 (a1).toNatClampNeg)).toInt ≠ 4 := fun e => z4 (Int32.toInt_inj.mp (e.trans (by decide)))
    have z5 : ((g 2 (a1).toNatClampNeg)).toInt ≠ 5 := fun e => z5 (Int32.toInt_inj.mp (e.trans (by decide)))
    have z6 : ((g 2 (a1).toNatClampNeg)).toInt ≠ 6 := fun e => z6 (Int32.toInt_inj.mp (e.trans (by decide)))
    have z7 : ((g 2 (a1).toNatClampNeg)).toInt ≠ 7 := fun e => z7 (Int32.toInt_inj.mp (e.trans (by decide)))
    have z8 : ((g 2 (a1).toNatClampNeg)).toInt ≠ 8 := fun e => z8 (Int32.toInt_inj.mp (e.trans (by decide)))
    have z9 : ((g 2 (a1).toNatClampNeg)).toInt ≠ 9 := fun e => z9 (Int32.toInt_inj.mp (e.trans (by decide)))
    have z10 : ((g 2 (a1).toNatClampNeg)).toInt ≠ 10 := fun e => z10 (Int32.toInt_inj.mp (e.trans (by decide)))
    have z11 : ((g 2 (a1).toNatClampNeg)).toInt ≠ 11 := fun e => z11 (Int32.toInt_inj.mp (e.trans (by decide)))
    have z12 : ((g 2 (a1).toNatClampNeg)).toInt ≠ 12 := fun e => z12 (Int32.toInt_inj.mp (e.trans (by decide)))
    have z13 : ((g 2 (a1).toNatClampNeg)).toInt ≠ 13 := fun e => z13 (Int32.toInt_inj.mp (e.trans (by decide)))
    have z14 : ((g 2 (a1).toNatClampNeg)).toInt ≠ 14 := fun e => z14 (Int32.toInt_inj.mp (e.trans (by decide)))
    refine sw_tableOut (tgt := 199) X dc_H_workOut_43 (by omega) (by decide) ?_
    refine sw_sub [1, 2, 3] rfl ?_
    exact b199 (st_u g 14 10 ((g 14 10) + (1 : Int32))) q a1 a2 h
  · have h := h.2 z
    refine sw_ldc2 X (List.mem_cons_of_mem _ wm_kl_H_75) dc_H_workOut_10 ?_
    exact sw_lret X hr hlk (u := (g, q)) rfl h dc_H_workOut_13
def rm_H_workOut : Nat → Nat × Nat
  | 0 => (0, 0)
  | d + 1 => ((rm_H_workOut d).1 + 4, (rm_H_workOut d).2 + 96)
theorem ct_H_workOut (l : Launch) (D : va_G) (cI cL cZ : ClassId) (ad : Nat → Nat) (r : st_I) (o : st_L) : ∀ (d : Nat) (a1 : Int32) (a2 : Int32) (g : st_I) (q : st_L) (Q : (Int64 → st_S → Prop)), wp_H_workOut d a1 a2 g q Q → ∀ sz, Met l yn_H_workOut (Cond.code yn_H_workOut cd_H_workOut 4 (some .long) :: wa_A) { frames := (rm_H_workOut d).1, cells := 0, slots := 0, locals := (rm_H_workOut d).2 } (va_Pc [.ref (ad 14), .int a1, .int a2] (wq_S D cl_A (wd_T cI cL cZ) nw_A (wd_W cI cL cZ ad g q r o) sz)) (va_Ql Q (fun u t => wq_E D cl_A (wd_T cI cL cZ) (va_A (wd_W cI cL cZ ad g q r o) sz) (wd_W cI cL cZ ad u.1 u.2 r o) t) (va_A (wd_W cI cL cZ ad g q r o) sz)) 0 0 (va_A (wd_W cI cL cZ ad g q r o) sz)
  | 0 => fun _ _ _ _ _ h => h.elim
  | d + 1 => fun a1 a2 g q Q h => ct_H_workOut_B l D cI cL cZ ad r o (rm_H_workOut d).1 (rm_H_workOut d).2 (wp_H_workOut d) (ct_H_workOut l D cI cL cZ ad r o d) a1 a2 g q Q h
def wp_H_start (d : Nat) (a1 : Int32) (a2 : Int32) (a3 : Int32) (g : st_I) (q : st_L) (Q : (Int64 → st_S → Prop)) : Prop := wp_H_openFrame (0 : Int32) (-3 : Int64) (-3 : Int64) (st_u (st_u (st_u (st_u (st_u g 14 2 (0 : Int32)) 14 8 (0 : Int32)) 14 9 (0 : Int32)) 14 10 (0 : Int32)) 14 11 (0 : Int32)) q (fun u33 => wp_H_callWith (wp_H_workOut d) a1 a2 a3 (0 : Int32) u33.1 u33.2 (fun x41 u41 => Q x41 (u41.1, u41.2)))
set_option maxHeartbeats 4000000 in
set_option maxRecDepth 100000 in
theorem ct_H_start (l : Launch) (D : va_G) (cI cL cZ : ClassId) (ad : Nat → Nat) (r : st_I) (o : st_L) (d : Nat) (a1 : Int32) (a2 : Int32) (a3 : Int32) (g : st_I) (q : st_L) (Q : (Int64 → st_S → Prop)) (h : wp_H_start d a1 a2 a3 g q Q) : ∀ sz, Met l yn_H_start (Cond.code yn_H_start cd_H_start 4 (some .long) :: wa_A) { frames := (rm_H_workOut d).1 + 2, cells := 0, slots := 0, locals := (rm_H_workOut d).2 + 55 } (va_Pc [.ref (ad 14), .int a1, .int a2, .int a3] (wq_S D cl_A (wd_T cI cL cZ) nw_A (wd_W cI cL cZ ad g q r o) sz)) (va_Ql Q (fun u t => wq_E D cl_A (wd_T cI cL cZ) (va_A (wd_W cI cL cZ ad g q r o) sz) (wd_W cI cL cZ ad u.1 u.2 r o) t) (va_A (wd_W cI cL cZ ad g q r o) sz)) 0 0 (va_A (wd_W cI cL cZ ad g q r o) sz) := by
  refine sw_met (Qc := fun A => va_Ql Q (fun u t => wq_E D cl_A (wd_T cI cL cZ) A (wd_W cI cL cZ ad u.1 u.2 r o) t) A) (by decide) rfl (Nat.le_of_ble_eq_true rfl) rfl ?_
  intro p e s m args below meth c A X hA hNs hE hr hlk hnm
  refine sw_aload_n X 0 rfl rfl dc_H_start_0 ?_
  refine sw_iconst (v := 0) X dc_H_start_1 (by decide) ?_
  refine sw_put (ty := .int) X (fun z hz => List.mem_cons_of_mem _ (wf_H z hz)) fy_H fo_H fn_H 14 (wd_14 cI cL cZ ad g q r o) rfl 2 (by decide) (List.mem_cons_of_mem _ wm_fl_H_32) rfl (by decide +kernel) rfl rfl (Nat.le_of_ble_eq_true rfl) (wd_W cI cL cZ ad (st_u g 14 2 (0 : Int32)) q r o) (ws_14_2 cI cL cZ ad g q r o (0 : Int32)) dc_H_start_2 ?_
  refine sw_aload_n X 0 rfl rfl dc_H_start_5 ?_
  refine sw_iconst (v := 0) X dc_H_start_6 (by decide) ?_
  refine sw_put (ty := .int) X (fun z hz => List.mem_cons_of_mem _ (wf_H z hz)) fy_H fo_H fn_H 14 (wd_14 cI cL cZ ad (st_u g 14 2 (0 : Int32)) q r o) rfl 8 (by decide) (List.mem_cons_of_mem _ wm_fl_H_36) rfl (by decide +kernel) rfl rfl (Nat.le_of_ble_eq_true rfl) (wd_W cI cL cZ ad (st_u (st_u g 14 2 (0 : Int32)) 14 8 (0 : Int32)) q r o) (ws_14_8 cI cL cZ ad (st_u g 14 2 (0 : Int32)) q r o (0 : Int32)) dc_H_start_7 ?_
  refine sw_aload_n X 0 rfl rfl dc_H_start_10 ?_
  refine sw_iconst (v := 0) X dc_H_start_11 (by decide) ?_
  refine sw_put (ty := .int) X (fun z hz => List.mem_cons_of_mem _ (wf_H z hz)) fy_H fo_H fn_H 14 (wd_14 cI cL cZ ad (st_u (st_u g 14 2 (0 : Int32)) 14 8 (0 : Int32)) q r o) rfl 9 (by decide) (List.mem_cons_of_mem _ wm_fl_H_39) rfl (by decide +kernel) rfl rfl (Nat.le_of_ble_eq_true rfl) (wd_W cI cL cZ ad (st_u (st_u (st_u g 14 2 (0 : Int32)) 14 8 (0 : Int32)) 14 9 (0 : Int32)) q r o) (ws_14_9 cI cL cZ ad (st_u (st_u g 14 2 (0 : Int32)) 14 8 (0 : Int32)) q r o (0 : Int32)) dc_H_start_12 ?_
  refine sw_aload_n X 0 rfl rfl dc_H_start_15 ?_
  refine sw_iconst (v := 0) X dc_H_start_16 (by decide) ?_
  refine sw_put (ty := .int) X (fun z hz => List.mem_cons_of_mem _ (wf_H z hz)) fy_H fo_H fn_H 14 (wd_14 cI cL cZ ad (st_u (st_u (st_u g 14 2 (0 : Int32)) 14 8 (0 : Int32)) 14 9 (0 : Int32)) q r o) rfl 10 (by decide) (List.mem_cons_of_mem _ wm_fl_H_42) rfl (by decide +kernel) rfl rfl (Nat.le_of_ble_eq_true rfl) (wd_W cI cL cZ ad (st_u (st_u (st_u (st_u g 14 2 (0 : Int32)) 14 8 (0 : Int32)) 14 9 (0 : Int32)) 14 10 (0 : Int32)) q r o) (ws_14_10 cI cL cZ ad (st_u (st_u (st_u g 14 2 (0 : Int32)) 14 8 (0 : Int32)) 14 9 (0 : Int32)) q r o (0 : Int32)) dc_H_start_17 ?_
  refine sw_aload_n X 0 rfl rfl dc_H_start_20 ?_
  refine sw_iconst (v := 0) X dc_H_start_21 (by decide) ?_
  refine sw_put (ty := .int) X (fun z hz => List.mem_cons_of_mem _ (wf_H z hz)) fy_H fo_H fn_H 14 (wd_14 cI cL cZ ad (st_u (st_u (st_u (st_u g 14 2 (0 : Int32)) 14 8 (0 : Int32)) 14 9 (0 : Int32)) 14 10 (0 : Int32)) q r o) rfl 11 (by decide) (List.mem_cons_of_mem _ wm_fl_H_45) rfl (by decide +kernel) rfl rfl (Nat.le_of_ble_eq_true rfl) (wd_W cI cL cZ ad (st_u (st_u (st_u (st_u (st_u g 14 2 (0 : Int32)) 14 8 (0 : Int32)) 14 9 (0 : Int32)) 14 10 (0 : Int32)) 14 11 (0 : Int32)) q r o) (ws_14_11 cI cL cZ ad (st_u (st_u (st_u (st_u g 14 2 (0 : Int32)) 14 8 (0 : Int32)) 14 9 (0 : Int32)) 14 10 (0 : Int32)) q r o (0 : Int32)) dc_H_start_22 ?_
  refine sw_aload_n X 0 rfl rfl dc_H_start_25 ?_
  refine sw_iconst (v := 0) X dc_H_start_26 (by decide) ?_
  refine sw_ldc2 X (List.mem_cons_of_mem _ wm_kl_H_48) dc_H_start_27 ?_
  refine sw_ldc2 X (List.mem_cons_of_mem _ wm_kl_H_48) dc_H_start_30 ?_
  refine sw_cV_v (n := 3) X hA nw_okA hNs hE (fun u : st_S => wd_W cI cL cZ ad u.1 u.2 r o) [.int (0 : Int32), .long (-3 : Int64), .long (-3 : Int64)] 14 (wd_14 cI cL cZ ad (st_u (st_u (st_u (st_u (st_u g 14 2 (0 : Int32)) 14 8 (0 : Int32)) 14 9 (0 : Int32)) 14 10 (0 : Int32)) 14 11 (0 : Int32)) q r o) rfl rfl (ct_H_openFrame l D cI cL cZ ad r o (0 : Int32) (-3 : Int64) (-3 : Int64) (st_u (st_u (st_u (st_u (st_u g 14 2 (0 : Int32)) 14 8 (0 : Int32)) 14 9 (0 : Int32)) 14 10 (0 : Int32)) 14 11 (0 : Int32)) q _ h) (List.mem_cons_of_mem _ wm_ml_H_50) (List.mem_cons_of_mem _ wm_im_H_openFrame) (List.mem_cons_of_mem _ wm_se_H_openFrame) rfl (wg_in wm_code_H_openFrame) rfl rfl (List.mem_cons_of_mem _ wm_in_H) ⟨by decide, by decide, by decide +kernel⟩ ⟨by dsimp only; omega, by dsimp only; omega⟩ ⟨Nat.zero_le _, Nat.zero_le _⟩ rfl (Nat.le_of_ble_eq_true rfl) dc_H_start_33 rfl (fun u33 h => ?_)
  refine sw_aload_n X 0 rfl rfl dc_H_start_36 ?_
  refine sw_iload_n X 1 rfl rfl dc_H_start_37 ?_
  refine sw_iload_n X 2 rfl rfl dc_H_start_38 ?_
  refine sw_iload_n X 3 rfl rfl dc_H_start_39 ?_
  refine sw_iconst (v := 0) X dc_H_start_40 (by decide) ?_
  refine sw_cV_l (n := 4) X hA nw_okA hNs hE (fun u : st_S => wd_W cI cL cZ ad u.1 u.2 r o) [.int a1, .int a2, .int a3, .int (0 : Int32)] 14 (wd_14 cI cL cZ ad u33.1 u33.2 r o) rfl rfl (ct_H_callWith l D cI cL cZ ad r o (rm_H_workOut d).1 (rm_H_workOut d).2 (wp_H_workOut d) (ct_H_workOut l D cI cL cZ ad r o d) a1 a2 a3 (0 : Int32) u33.1 u33.2 _ h) (List.mem_cons_of_mem _ wm_ml_H_54) (List.mem_cons_of_mem _ wm_im_H_callWith) (List.mem_cons_of_mem _ wm_se_H_callWith) rfl (wg_in wm_code_H_callWith) rfl rfl (List.mem_cons_of_mem _ wm_in_H) ⟨by decide, by decide, by decide +kernel⟩ ⟨by dsimp only; omega, by dsimp only; omega⟩ ⟨Nat.zero_le _, Nat.zero_le _⟩ rfl (Nat.le_of_ble_eq_true rfl) dc_H_start_41 rfl (fun x41 u41 h => ?_)
  exact sw_lret X hr hlk (u := (u41.1, u41.2)) rfl h dc_H_start_44
def wp_S_calls  (g : st_I) (q : st_L) (Q : (Int32 → st_S → Prop)) : Prop := Q (g 14 2) (g, q)
set_option maxHeartbeats 4000000 in
set_option maxRecDepth 100000 in
theorem ct_S_calls (l : Launch) (D : va_G) (cI cL cZ : ClassId) (ad : Nat → Nat) (r : st_I) (o : st_L)  (g : st_I) (q : st_L) (Q : (Int32 → st_S → Prop)) (h : wp_S_calls  g q Q) : ∀ sz, Met l yn_S_calls (Cond.code yn_S_calls cd_S_calls 1 (some .int) :: wa_A) { frames := 0, cells := 0, slots := 0, locals := 0 } (va_Pc [.ref (ad 0)] (wq_S D cl_A (wd_T cI cL cZ) nw_A (wd_W cI cL cZ ad g q r o) sz)) (va_Qi Q (fun u t => wq_E D cl_A (wd_T cI cL cZ) (va_A (wd_W cI cL cZ ad g q r o) sz) (wd_W cI cL cZ ad u.1 u.2 r o) t) (va_A (wd_W cI cL cZ ad g q r o) sz)) 0 0 (va_A (wd_W cI cL cZ ad g q r o) sz) := by
  refine sw_met (Qc := fun A => va_Qi Q (fun u t => wq_E D cl_A (wd_T cI cL cZ) A (wd_W cI cL cZ ad u.1 u.2 r o) t) A) (by decide) rfl (Nat.le_of_ble_eq_true rfl) rfl ?_
  intro p e s m args below meth c A X hA hNs hE hr hlk hnm
  refine sw_aload_n X 0 rfl rfl dc_S_calls_0 ?_
  refine sw_get X (fun z hz => List.mem_cons_of_mem _ (wf_S z hz)) 0 (wd_0 cI cL cZ ad g q r o) rfl 2 (by decide) (List.mem_cons_of_mem _ wm_fl_S_28) rfl dc_S_calls_1 ?_
  refine sw_get (v := .int (g 14 2)) X (fun z hz => List.mem_cons_of_mem _ (wf_H z hz)) 14 (wd_14 cI cL cZ ad g q r o) rfl 2 (by decide) (List.mem_cons_of_mem _ wm_fl_S_132) rfl dc_S_calls_4 ?_
  exact sw_iret X hr hlk (u := (g, q)) rfl h dc_S_calls_7
