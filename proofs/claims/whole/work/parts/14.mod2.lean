def wp_M_value (a1 : Int32) (a2 : Int32) (r : st_I) (Q : (Int32 → st_I → Prop)) : Prop := vp_in (r 20 19) 460 ∧ vp_in (r 20 19) 460 ∧ Q (((r 20 19) + (1 : Int32)) - (1 : Int32)) (st_u (st_u (st_u r 37 ((r 20 19)).toNatClampNeg a1) 38 ((r 20 19)).toNatClampNeg a2) 20 19 ((r 20 19) + (1 : Int32)))
set_option maxHeartbeats 4000000 in
set_option maxRecDepth 100000 in
theorem ct_M_value (l : Launch) (D : va_G) (cI cL cZ : ClassId) (ad : Nat → Nat) (g : st_I) (q : st_L) (o : st_L) (a1 : Int32) (a2 : Int32) (r : st_I) (Q : (Int32 → st_I → Prop)) (h : wp_M_value a1 a2 r Q) : ∀ sz, Met l yn_M_value (Cond.code yn_M_value cd_M_value 3 (some .int) :: wa_A) { frames := 0, cells := 0, slots := 0, locals := 0 } (va_Pc [.ref (ad 20), .int a1, .int a2] (wq_S D cl_A (wd_T cI cL cZ) nw_A (wd_W cI cL cZ ad g q r o) sz)) (va_Qi Q (fun u t => wq_E D cl_A (wd_T cI cL cZ) (va_A (wd_W cI cL cZ ad g q r o) sz) (wd_W cI cL cZ ad g q u o) t) (va_A (wd_W cI cL cZ ad g q r o) sz)) 0 0 (va_A (wd_W cI cL cZ ad g q r o) sz) := by
  refine sw_met (Qc := fun A => va_Qi Q (fun u t => wq_E D cl_A (wd_T cI cL cZ) A (wd_W cI cL cZ ad g q u o) t) A) (by decide) rfl (Nat.le_of_ble_eq_true rfl) rfl ?_
  intro p e s m args below meth c A X hA hNs hE hr hlk hnm
  refine sw_aload_n X 0 rfl rfl dc_M_value_0 ?_
  refine sw_get X (fun z hz => List.mem_cons_of_mem _ (wf_M z hz)) 20 (wd_20 cI cL cZ ad g q r o) rfl 20 (by decide) (List.mem_cons_of_mem _ wm_fl_M_59) rfl dc_M_value_1 ?_
  refine sw_aload_n X 0 rfl rfl dc_M_value_4 ?_
  refine sw_get (v := .int (r 20 19)) X (fun z hz => List.mem_cons_of_mem _ (wf_M z hz)) 20 (wd_20 cI cL cZ ad g q r o) rfl 19 (by decide) (List.mem_cons_of_mem _ wm_fl_M_161) rfl dc_M_value_5 ?_
  refine sw_iload_n X 1 rfl rfl dc_M_value_8 ?_
  refine sw_iast X 37 0 (wd_37 cI cL cZ ad g q r o) rfl h.1 (wd_W cI cL cZ ad g q (st_u r 37 ((r 20 19)).toNatClampNeg a1) o) (ws_37 cI cL cZ ad g q r o ((r 20 19)).toNatClampNeg a1) dc_M_value_9 ?_
  have h := h.2
  refine sw_aload_n X 0 rfl rfl dc_M_value_10 ?_
  refine sw_get X (fun z hz => List.mem_cons_of_mem _ (wf_M z hz)) 20 (wd_20 cI cL cZ ad g q (st_u r 37 ((r 20 19)).toNatClampNeg a1) o) rfl 21 (by decide) (List.mem_cons_of_mem _ wm_fl_M_62) rfl dc_M_value_11 ?_
  refine sw_aload_n X 0 rfl rfl dc_M_value_14 ?_
  refine sw_get (v := .int (r 20 19)) X (fun z hz => List.mem_cons_of_mem _ (wf_M z hz)) 20 (wd_20 cI cL cZ ad g q (st_u r 37 ((r 20 19)).toNatClampNeg a1) o) rfl 19 (by decide) (List.mem_cons_of_mem _ wm_fl_M_161) rfl dc_M_value_15 ?_
  refine sw_iload_n X 2 rfl rfl dc_M_value_18 ?_
  refine sw_iast X 38 0 (wd_38 cI cL cZ ad g q (st_u r 37 ((r 20 19)).toNatClampNeg a1) o) rfl h.1 (wd_W cI cL cZ ad g q (st_u (st_u r 37 ((r 20 19)).toNatClampNeg a1) 38 ((r 20 19)).toNatClampNeg a2) o) (ws_38 cI cL cZ ad g q (st_u r 37 ((r 20 19)).toNatClampNeg a1) o ((r 20 19)).toNatClampNeg a2) dc_M_value_19 ?_
  have h := h.2
  refine sw_aload_n X 0 rfl rfl dc_M_value_20 ?_
  refine sw_dup X dc_M_value_21 rfl ?_
  refine sw_get (v := .int (r 20 19)) X (fun z hz => List.mem_cons_of_mem _ (wf_M z hz)) 20 (wd_20 cI cL cZ ad g q (st_u (st_u r 37 ((r 20 19)).toNatClampNeg a1) 38 ((r 20 19)).toNatClampNeg a2) o) rfl 19 (by decide) (List.mem_cons_of_mem _ wm_fl_M_161) rfl dc_M_value_22 ?_
  refine sw_iconst (v := 1) X dc_M_value_25 (by decide) ?_
  refine sw_iadd X dc_M_value_26 ?_
  refine sw_put (ty := .int) X (fun z hz => List.mem_cons_of_mem _ (wf_M z hz)) fy_M fo_M fn_M 20 (wd_20 cI cL cZ ad g q (st_u (st_u r 37 ((r 20 19)).toNatClampNeg a1) 38 ((r 20 19)).toNatClampNeg a2) o) rfl 19 (by decide) (List.mem_cons_of_mem _ wm_fl_M_161) rfl (by decide +kernel) rfl rfl (Nat.le_of_ble_eq_true rfl) (wd_W cI cL cZ ad g q (st_u (st_u (st_u r 37 ((r 20 19)).toNatClampNeg a1) 38 ((r 20 19)).toNatClampNeg a2) 20 19 ((r 20 19) + (1 : Int32))) o) (ws_20_19 cI cL cZ ad g q (st_u (st_u r 37 ((r 20 19)).toNatClampNeg a1) 38 ((r 20 19)).toNatClampNeg a2) o ((r 20 19) + (1 : Int32))) dc_M_value_27 ?_
  refine sw_aload_n X 0 rfl rfl dc_M_value_30 ?_
  refine sw_get (v := .int ((r 20 19) + (1 : Int32))) X (fun z hz => List.mem_cons_of_mem _ (wf_M z hz)) 20 (wd_20 cI cL cZ ad g q (st_u (st_u (st_u r 37 ((r 20 19)).toNatClampNeg a1) 38 ((r 20 19)).toNatClampNeg a2) 20 19 ((r 20 19) + (1 : Int32))) o) rfl 19 (by decide) (List.mem_cons_of_mem _ wm_fl_M_161) rfl dc_M_value_31 ?_
  refine sw_iconst (v := 1) X dc_M_value_34 (by decide) ?_
  refine sw_isub X dc_M_value_35 ?_
  exact sw_iret X hr hlk (u := (st_u (st_u (st_u r 37 ((r 20 19)).toNatClampNeg a1) 38 ((r 20 19)).toNatClampNeg a2) 20 19 ((r 20 19) + (1 : Int32)))) rfl h dc_M_value_36
def wp_M_work (a1 : Int32) (r : st_I) (Q : (st_I → Prop)) : Prop := (¬ (r 20 26) = (200 : Int32) → wp_M_look a1 (st_u r 20 26 ((r 20 26) + (1 : Int32))) (fun u28 => Q u28)) ∧ ((r 20 26) = (200 : Int32) → Q (st_u r 20 25 (1 : Int32)))
set_option maxHeartbeats 4000000 in
set_option maxRecDepth 100000 in
theorem ct_M_work (l : Launch) (D : va_G) (cI cL cZ : ClassId) (ad : Nat → Nat) (g : st_I) (q : st_L) (o : st_L) (a1 : Int32) (r : st_I) (Q : (st_I → Prop)) (h : wp_M_work a1 r Q) : ∀ sz, Met l yn_M_work (Cond.code yn_M_work cd_M_work 2 none :: wa_A) { frames := 1, cells := 0, slots := 0, locals := 22 } (va_Pc [.ref (ad 20), .int a1] (wq_S D cl_A (wd_T cI cL cZ) nw_A (wd_W cI cL cZ ad g q r o) sz)) (va_Qv Q (fun u t => wq_E D cl_A (wd_T cI cL cZ) (va_A (wd_W cI cL cZ ad g q r o) sz) (wd_W cI cL cZ ad g q u o) t) (va_A (wd_W cI cL cZ ad g q r o) sz)) 0 0 (va_A (wd_W cI cL cZ ad g q r o) sz) := by
  refine sw_met (Qc := fun A => va_Qv Q (fun u t => wq_E D cl_A (wd_T cI cL cZ) A (wd_W cI cL cZ ad g q u o) t) A) (by decide) rfl (Nat.le_of_ble_eq_true rfl) rfl ?_
  intro p e s m args below meth c A X hA hNs hE hr hlk hnm
  refine sw_aload_n X 0 rfl rfl dc_M_work_0 ?_
  refine sw_get (v := .int (r 20 26)) X (fun z hz => List.mem_cons_of_mem _ (wf_M z hz)) 20 (wd_20 cI cL cZ ad g q r o) rfl 26 (by decide) (List.mem_cons_of_mem _ wm_fl_M_164) rfl dc_M_work_1 ?_
  refine sw_sipush (v := 200) X dc_M_work_4 (by decide) ?_
  refine sw_icmp_ne (tgt := 16) X dc_M_work_7 (by decide) (fun z => ?_) (fun z => ?_)
  · have h := h.1 z
    refine sw_aload_n X 0 rfl rfl dc_M_work_16 ?_
    refine sw_dup X dc_M_work_17 rfl ?_
    refine sw_get (v := .int (r 20 26)) X (fun z hz => List.mem_cons_of_mem _ (wf_M z hz)) 20 (wd_20 cI cL cZ ad g q r o) rfl 26 (by decide) (List.mem_cons_of_mem _ wm_fl_M_164) rfl dc_M_work_18 ?_
    refine sw_iconst (v := 1) X dc_M_work_21 (by decide) ?_
    refine sw_iadd X dc_M_work_22 ?_
    refine sw_put (ty := .int) X (fun z hz => List.mem_cons_of_mem _ (wf_M z hz)) fy_M fo_M fn_M 20 (wd_20 cI cL cZ ad g q r o) rfl 26 (by decide) (List.mem_cons_of_mem _ wm_fl_M_164) rfl (by decide +kernel) rfl rfl (Nat.le_of_ble_eq_true rfl) (wd_W cI cL cZ ad g q (st_u r 20 26 ((r 20 26) + (1 : Int32))) o) (ws_20_26 cI cL cZ ad g q r o ((r 20 26) + (1 : Int32))) dc_M_work_23 ?_
    refine sw_aload_n X 0 rfl rfl dc_M_work_26 ?_
    refine sw_iload_n X 1 rfl rfl dc_M_work_27 ?_
    refine sw_cV_v (n := 1) X hA nw_okA hNs hE (fun u : st_I => wd_W cI cL cZ ad g q u o) [.int a1] 20 (wd_20 cI cL cZ ad g q (st_u r 20 26 ((r 20 26) + (1 : Int32))) o) rfl rfl (ct_M_look l D cI cL cZ ad g q o a1 (st_u r 20 26 ((r 20 26) + (1 : Int32))) _ h) (List.mem_cons_of_mem _ wm_ml_M_128) (List.mem_cons_of_mem _ wm_im_M_look) (List.mem_cons_of_mem _ wm_se_M_look) rfl (wg_in wm_code_M_look) rfl rfl (List.mem_cons_of_mem _ wm_in_M) ⟨by decide, by decide, by decide +kernel⟩ ⟨Nat.le_of_ble_eq_true rfl, Nat.le_of_ble_eq_true rfl⟩ ⟨Nat.zero_le _, Nat.zero_le _⟩ rfl (Nat.le_of_ble_eq_true rfl) dc_M_work_28 rfl (fun u28 h => ?_)
    exact sw_vret X hr hlk (u := u28) rfl h dc_M_work_31
  · have h := h.2 z
    refine sw_aload_n X 0 rfl rfl dc_M_work_10 ?_
    refine sw_iconst (v := 1) X dc_M_work_11 (by decide) ?_
    refine sw_put (ty := .boolean) X (fun z hz => List.mem_cons_of_mem _ (wf_M z hz)) fy_M fo_M fn_M 20 (wd_20 cI cL cZ ad g q r o) rfl 25 (by decide) (List.mem_cons_of_mem _ wm_fl_M_167) rfl (by decide +kernel) (by decide) (by decide) (Nat.le_of_ble_eq_true rfl) (wd_W cI cL cZ ad g q (st_u r 20 25 (1 : Int32)) o) (ws_20_25 cI cL cZ ad g q r o (1 : Int32)) dc_M_work_12 ?_
    exact sw_vret X hr hlk (u := (st_u r 20 25 (1 : Int32))) rfl h dc_M_work_15
def wp_M_end (a1 : Int32) (r : st_I) (Q : (st_I → Prop)) : Prop := Q (st_u (st_u r 20 18 a1) 20 13 ((r 20 13) - (1 : Int32)))
set_option maxHeartbeats 4000000 in
set_option maxRecDepth 100000 in
theorem ct_M_end (l : Launch) (D : va_G) (cI cL cZ : ClassId) (ad : Nat → Nat) (g : st_I) (q : st_L) (o : st_L) (a1 : Int32) (r : st_I) (Q : (st_I → Prop)) (h : wp_M_end a1 r Q) : ∀ sz, Met l yn_M_end (Cond.code yn_M_end cd_M_end 2 none :: wa_A) { frames := 0, cells := 0, slots := 0, locals := 0 } (va_Pc [.ref (ad 20), .int a1] (wq_S D cl_A (wd_T cI cL cZ) nw_A (wd_W cI cL cZ ad g q r o) sz)) (va_Qv Q (fun u t => wq_E D cl_A (wd_T cI cL cZ) (va_A (wd_W cI cL cZ ad g q r o) sz) (wd_W cI cL cZ ad g q u o) t) (va_A (wd_W cI cL cZ ad g q r o) sz)) 0 0 (va_A (wd_W cI cL cZ ad g q r o) sz) := by
  refine sw_met (Qc := fun A => va_Qv Q (fun u t => wq_E D cl_A (wd_T cI cL cZ) A (wd_W cI cL cZ ad g q u o) t) A) (by decide) rfl (Nat.le_of_ble_eq_true rfl) rfl ?_
  intro p e s m args below meth c A X hA hNs hE hr hlk hnm
  refine sw_aload_n X 0 rfl rfl dc_M_end_0 ?_
  refine sw_iload_n X 1 rfl rfl dc_M_end_1 ?_
  refine sw_put (ty := .int) X (fun z hz => List.mem_cons_of_mem _ (wf_M z hz)) fy_M fo_M fn_M 20 (wd_20 cI cL cZ ad g q r o) rfl 18 (by decide) (List.mem_cons_of_mem _ wm_fl_M_125) rfl (by decide +kernel) rfl rfl (Nat.le_of_ble_eq_true rfl) (wd_W cI cL cZ ad g q (st_u r 20 18 a1) o) (ws_20_18 cI cL cZ ad g q r o a1) dc_M_end_2 ?_
  refine sw_aload_n X 0 rfl rfl dc_M_end_5 ?_
  refine sw_dup X dc_M_end_6 rfl ?_
  refine sw_get (v := .int (r 20 13)) X (fun z hz => List.mem_cons_of_mem _ (wf_M z hz)) 20 (wd_20 cI cL cZ ad g q (st_u r 20 18 a1) o) rfl 13 (by decide) (List.mem_cons_of_mem _ wm_fl_M_111) rfl dc_M_end_7 ?_
  refine sw_iconst (v := 1) X dc_M_end_10 (by decide) ?_
  refine sw_isub X dc_M_end_11 ?_
  refine sw_put (ty := .int) X (fun z hz => List.mem_cons_of_mem _ (wf_M z hz)) fy_M fo_M fn_M 20 (wd_20 cI cL cZ ad g q (st_u r 20 18 a1) o) rfl 13 (by decide) (List.mem_cons_of_mem _ wm_fl_M_111) rfl (by decide +kernel) rfl rfl (Nat.le_of_ble_eq_true rfl) (wd_W cI cL cZ ad g q (st_u (st_u r 20 18 a1) 20 13 ((r 20 13) - (1 : Int32))) o) (ws_20_13 cI cL cZ ad g q (st_u r 20 18 a1) o ((r 20 13) - (1 : Int32))) dc_M_end_12 ?_
  exact sw_vret X hr hlk (u := (st_u (st_u r 20 18 a1) 20 13 ((r 20 13) - (1 : Int32)))) rfl h dc_M_end_15
def wp_M_fails_L53 (Q : (st_I → Prop)) (r : st_I) (t0 : Int32) : Prop := (narrow .boolean (.int t0) = .int t0 ∧ fits .boolean (.int t0) = true) ∧ Q (st_u r 20 24 t0)
def wp_M_fails_L37 (Q : (st_I → Prop)) (r : st_I) (t0 : Int32) : Prop := (¬ (r 20 25) = 0 → wp_M_fails_L53 Q (st_u r 20 28 t0) (0 : Int32)) ∧ ((r 20 25) = 0 → wp_M_fails_L53 Q (st_u r 20 28 t0) (1 : Int32))
def wp_M_fails_L15 (Q : (st_I → Prop)) (r : st_I) (t0 : Int32) : Prop := (narrow .boolean (.int t0) = .int t0 ∧ fits .boolean (.int t0) = true) ∧ (t0 = 0 → wp_M_fails_L37 Q (st_u r 20 25 t0) ((r 20 28) + (1 : Int32))) ∧ (¬ t0 = 0 → wp_M_fails_L37 Q (st_u r 20 25 t0) (6 : Int32))
def wp_M_fails  (r : st_I) (Q : (st_I → Prop)) : Prop := (¬ (r 20 28) = (6 : Int32) → wp_M_fails_L15 Q r (0 : Int32)) ∧ ((r 20 28) = (6 : Int32) → wp_M_fails_L15 Q r (1 : Int32))
set_option maxHeartbeats 4000000 in
set_option maxRecDepth 100000 in
theorem ct_M_fails (l : Launch) (D : va_G) (cI cL cZ : ClassId) (ad : Nat → Nat) (g : st_I) (q : st_L) (o : st_L)  (r : st_I) (Q : (st_I → Prop)) (h : wp_M_fails  r Q) : ∀ sz, Met l yn_M_fails (Cond.code yn_M_fails cd_M_fails 1 none :: wa_A) { frames := 0, cells := 0, slots := 0, locals := 0 } (va_Pc [.ref (ad 20)] (wq_S D cl_A (wd_T cI cL cZ) nw_A (wd_W cI cL cZ ad g q r o) sz)) (va_Qv Q (fun u t => wq_E D cl_A (wd_T cI cL cZ) (va_A (wd_W cI cL cZ ad g q r o) sz) (wd_W cI cL cZ ad g q u o) t) (va_A (wd_W cI cL cZ ad g q r o) sz)) 0 0 (va_A (wd_W cI cL cZ ad g q r o) sz) := by
  refine sw_met (Qc := fun A => va_Qv Q (fun u t => wq_E D cl_A (wd_T cI cL cZ) A (wd_W cI cL cZ ad g q u o) t) A) (by decide) rfl (Nat.le_of_ble_eq_true rfl) rfl ?_
  intro p e s m args below meth c A X hA hNs hE hr hlk hnm
  have b53 : ∀ (r : st_I) (t0 : Int32), wp_M_fails_L53 Q r t0 → sw_J p l e { frames := 0, cells := 0, slots := 0, locals := 0 } s m args below meth c 0 0 (MQ below (va_Qv Q (fun u t => wq_E D cl_A (wd_T cI cL cZ) A (wd_W cI cL cZ ad g q u o) t) A) args s 0 0 A) D cl_A A 1 (wd_W cI cL cZ ad g q r o) 53 [] [.int t0, .ref (ad 20)] := by
    intro r t0 h
    refine sw_put (ty := .boolean) X (fun z hz => List.mem_cons_of_mem _ (wf_M z hz)) fy_M fo_M fn_M 20 (wd_20 cI cL cZ ad g q r o) rfl 24 (by decide) (List.mem_cons_of_mem _ wm_fl_M_174) rfl (by decide +kernel) h.1.1 h.1.2 (Nat.le_of_ble_eq_true rfl) (wd_W cI cL cZ ad g q (st_u r 20 24 t0) o) (ws_20_24 cI cL cZ ad g q r o t0) dc_M_fails_53 ?_
    have h := h.2
    exact sw_vret X hr hlk (u := (st_u r 20 24 t0)) rfl h dc_M_fails_56
  have b37 : ∀ (r : st_I) (t0 : Int32), wp_M_fails_L37 Q r t0 → sw_J p l e { frames := 0, cells := 0, slots := 0, locals := 0 } s m args below meth c 0 0 (MQ below (va_Qv Q (fun u t => wq_E D cl_A (wd_T cI cL cZ) A (wd_W cI cL cZ ad g q u o) t) A) args s 0 0 A) D cl_A A 1 (wd_W cI cL cZ ad g q r o) 37 [(0, .ref (ad 20))] [.int t0, .ref (ad 20)] := by
    intro r t0 h
    refine sw_put (ty := .int) X (fun z hz => List.mem_cons_of_mem _ (wf_M z hz)) fy_M fo_M fn_M 20 (wd_20 cI cL cZ ad g q r o) rfl 28 (by decide) (List.mem_cons_of_mem _ wm_fl_M_171) rfl (by decide +kernel) rfl rfl (Nat.le_of_ble_eq_true rfl) (wd_W cI cL cZ ad g q (st_u r 20 28 t0) o) (ws_20_28 cI cL cZ ad g q r o t0) dc_M_fails_37 ?_
    refine sw_aload_n X 0 rfl rfl dc_M_fails_40 ?_
    refine sw_aload_n X 0 rfl rfl dc_M_fails_41 ?_
    refine sw_get (v := .int (r 20 25)) X (fun z hz => List.mem_cons_of_mem _ (wf_M z hz)) 20 (wd_20 cI cL cZ ad g q (st_u r 20 28 t0) o) rfl 25 (by decide) (List.mem_cons_of_mem _ wm_fl_M_167) rfl dc_M_fails_42 ?_
    refine sw_if_ne (tgt := 52) X dc_M_fails_45 (by decide) (fun z => ?_) (fun z => ?_)
    · have h := h.1 z
      refine sw_iconst (v := 0) X dc_M_fails_52 (by decide) ?_
      refine sw_sub [] rfl ?_
      exact b53 (st_u r 20 28 t0) (0 : Int32) h
    · have h := h.2 z
      refine sw_iconst (v := 1) X dc_M_fails_48 (by decide) ?_
      refine sw_goto (tgt := 53) X dc_M_fails_49 (by decide) ?_
      refine sw_sub [] rfl ?_
      exact b53 (st_u r 20 28 t0) (1 : Int32) h
  have b15 : ∀ (r : st_I) (t0 : Int32), wp_M_fails_L15 Q r t0 → sw_J p l e { frames := 0, cells := 0, slots := 0, locals := 0 } s m args below meth c 0 0 (MQ below (va_Qv Q (fun u t => wq_E D cl_A (wd_T cI cL cZ) A (wd_W cI cL cZ ad g q u o) t) A) args s 0 0 A) D cl_A A 1 (wd_W cI cL cZ ad g q r o) 15 [(0, .ref (ad 20))] [.int t0, .ref (ad 20)] := by
    intro r t0 h
    refine sw_put (ty := .boolean) X (fun z hz => List.mem_cons_of_mem _ (wf_M z hz)) fy_M fo_M fn_M 20 (wd_20 cI cL cZ ad g q r o) rfl 25 (by decide) (List.mem_cons_of_mem _ wm_fl_M_167) rfl (by decide +kernel) h.1.1 h.1.2 (Nat.le_of_ble_eq_true rfl) (wd_W cI cL cZ ad g q (st_u r 20 25 t0) o) (ws_20_25 cI cL cZ ad g q r o t0) dc_M_fails_15 ?_
    have h := h.2
    refine sw_aload_n X 0 rfl rfl dc_M_fails_18 ?_
    refine sw_aload_n X 0 rfl rfl dc_M_fails_19 ?_
    refine sw_get (v := .int t0) X (fun z hz => List.mem_cons_of_mem _ (wf_M z hz)) 20 (wd_20 cI cL cZ ad g q (st_u r 20 25 t0) o) rfl 25 (by decide) (List.mem_cons_of_mem _ wm_fl_M_167) rfl dc_M_fails_20 ?_
    refine sw_if_eq (tgt := 31) X dc_M_fails_23 (by decide) (fun z => ?_) (fun z => ?_)
    · have h := h.1 z
      refine sw_aload_n X 0 rfl rfl dc_M_fails_31 ?_
      refine sw_get (v := .int (r 20 28)) X (fun z hz => List.mem_cons_of_mem _ (wf_M z hz)) 20 (wd_20 cI cL cZ ad g q (st_u r 20 25 t0) o) rfl 28 (by decide) (List.mem_cons_of_mem _ wm_fl_M_171) rfl dc_M_fails_32 ?_
      refine sw_iconst (v := 1) X dc_M_fails_35 (by decide) ?_
      refine sw_iadd X dc_M_fails_36 ?_
      exact b37 (st_u r 20 25 t0) ((r 20 28) + (1 : Int32)) h
    · have h := h.2 z
      refine sw_bipush (v := 6) X dc_M_fails_26 (by decide) ?_
      refine sw_goto (tgt := 37) X dc_M_fails_28 (by decide) ?_
      exact b37 (st_u r 20 25 t0) (6 : Int32) h
  refine sw_aload_n X 0 rfl rfl dc_M_fails_0 ?_
  refine sw_aload_n X 0 rfl rfl dc_M_fails_1 ?_
  refine sw_get (v := .int (r 20 28)) X (fun z hz => List.mem_cons_of_mem _ (wf_M z hz)) 20 (wd_20 cI cL cZ ad g q r o) rfl 28 (by decide) (List.mem_cons_of_mem _ wm_fl_M_171) rfl dc_M_fails_2 ?_
  refine sw_bipush (v := 6) X dc_M_fails_5 (by decide) ?_
  refine sw_icmp_ne (tgt := 14) X dc_M_fails_7 (by decide) (fun z => ?_) (fun z => ?_)
  · have h := h.1 z
    refine sw_iconst (v := 0) X dc_M_fails_14 (by decide) ?_
    exact b15 r (0 : Int32) h
  · have h := h.2 z
    refine sw_iconst (v := 1) X dc_M_fails_10 (by decide) ?_
    refine sw_goto (tgt := 15) X dc_M_fails_11 (by decide) ?_
    exact b15 r (1 : Int32) h
def wp_M_fail  (r : st_I) (Q : (st_I → Prop)) : Prop := wp_M_fails  r (fun u1 => Q (st_u u1 20 13 ((u1 20 13) - (1 : Int32))))
set_option maxHeartbeats 4000000 in
set_option maxRecDepth 100000 in
theorem ct_M_fail (l : Launch) (D : va_G) (cI cL cZ : ClassId) (ad : Nat → Nat) (g : st_I) (q : st_L) (o : st_L)  (r : st_I) (Q : (st_I → Prop)) (h : wp_M_fail  r Q) : ∀ sz, Met l yn_M_fail (Cond.code yn_M_fail cd_M_fail 1 none :: wa_A) { frames := 1, cells := 0, slots := 0, locals := 20 } (va_Pc [.ref (ad 20)] (wq_S D cl_A (wd_T cI cL cZ) nw_A (wd_W cI cL cZ ad g q r o) sz)) (va_Qv Q (fun u t => wq_E D cl_A (wd_T cI cL cZ) (va_A (wd_W cI cL cZ ad g q r o) sz) (wd_W cI cL cZ ad g q u o) t) (va_A (wd_W cI cL cZ ad g q r o) sz)) 0 0 (va_A (wd_W cI cL cZ ad g q r o) sz) := by
  refine sw_met (Qc := fun A => va_Qv Q (fun u t => wq_E D cl_A (wd_T cI cL cZ) A (wd_W cI cL cZ ad g q u o) t) A) (by decide) rfl (Nat.le_of_ble_eq_true rfl) rfl ?_
  intro p e s m args below meth c A X hA hNs hE hr hlk hnm
  refine sw_aload_n X 0 rfl rfl dc_M_fail_0 ?_
  refine sw_cV_v (n := 0) X hA nw_okA hNs hE (fun u : st_I => wd_W cI cL cZ ad g q u o) [] 20 (wd_20 cI cL cZ ad g q r o) rfl rfl (ct_M_fails l D cI cL cZ ad g q o r _ h) (List.mem_cons_of_mem _ wm_ml_M_177) (List.mem_cons_of_mem _ wm_im_M_fails) (List.mem_cons_of_mem _ wm_se_M_fails) rfl (wg_in wm_code_M_fails) rfl rfl (List.mem_cons_of_mem _ wm_in_M) ⟨by decide, by decide, by decide +kernel⟩ ⟨Nat.le_of_ble_eq_true rfl, Nat.le_of_ble_eq_true rfl⟩ ⟨Nat.zero_le _, Nat.zero_le _⟩ rfl (Nat.le_of_ble_eq_true rfl) dc_M_fail_1 rfl (fun u1 h => ?_)
  refine sw_aload_n X 0 rfl rfl dc_M_fail_4 ?_
  refine sw_dup X dc_M_fail_5 rfl ?_
  refine sw_get (v := .int (u1 20 13)) X (fun z hz => List.mem_cons_of_mem _ (wf_M z hz)) 20 (wd_20 cI cL cZ ad g q u1 o) rfl 13 (by decide) (List.mem_cons_of_mem _ wm_fl_M_111) rfl dc_M_fail_6 ?_
  refine sw_iconst (v := 1) X dc_M_fail_9 (by decide) ?_
  refine sw_isub X dc_M_fail_10 ?_
  refine sw_put (ty := .int) X (fun z hz => List.mem_cons_of_mem _ (wf_M z hz)) fy_M fo_M fn_M 20 (wd_20 cI cL cZ ad g q u1 o) rfl 13 (by decide) (List.mem_cons_of_mem _ wm_fl_M_111) rfl (by decide +kernel) rfl rfl (Nat.le_of_ble_eq_true rfl) (wd_W cI cL cZ ad g q (st_u u1 20 13 ((u1 20 13) - (1 : Int32))) o) (ws_20_13 cI cL cZ ad g q u1 o ((u1 20 13) - (1 : Int32))) dc_M_fail_11 ?_
  exact sw_vret X hr hlk (u := (st_u u1 20 13 ((u1 20 13) - (1 : Int32)))) rfl h dc_M_fail_14
def wp_M_same_L153 (Q : (Int32 → st_I → Prop)) (H16 : st_I → Int32 → Prop) (r : st_I) (v3 : Int32) : Prop := H16 r v3
def wp_M_same_L80 (Q : (Int32 → st_I → Prop)) (r : st_I)  : Prop := Q (0 : Int32) r
def wp_M_same_L16 (Q : (Int32 → st_I → Prop)) : Nat → st_I → Int32 → Prop
  | 0 => fun _ _ => False
  | n16 + 1 => fun r v3 => (v3 ≤ 0 → Q (1 : Int32) r) ∧ (¬ v3 ≤ 0 → vp_in (v3 + (-1)) 400 ∧ vp_in (v3 + (-1)) 400 ∧ ((r 41 ((v3 + (-1))).toNatClampNeg) = (r 42 ((v3 + (-1))).toNatClampNeg) → wp_M_same_L153 Q (wp_M_same_L16 Q n16) r (v3 + (-1))) ∧ (¬ (r 41 ((v3 + (-1))).toNatClampNeg) = (r 42 ((v3 + (-1))).toNatClampNeg) → vp_in (r 41 ((v3 + (-1))).toNatClampNeg) 460 ∧ vp_in (r 42 ((v3 + (-1))).toNatClampNeg) 460 ∧ (¬ (r 37 ((r 41 ((v3 + (-1))).toNatClampNeg)).toNatClampNeg) = (r 37 ((r 42 ((v3 + (-1))).toNatClampNeg)).toNatClampNeg) → wp_M_same_L80 Q r) ∧ ((r 37 ((r 41 ((v3 + (-1))).toNatClampNeg)).toNatClampNeg) = (r 37 ((r 42 ((v3 + (-1))).toNatClampNeg)).toNatClampNeg) → vp_in (r 41 ((v3 + (-1))).toNatClampNeg) 460 ∧ vp_in (r 42 ((v3 + (-1))).toNatClampNeg) 460 ∧ ((r 38 ((r 41 ((v3 + (-1))).toNatClampNeg)).toNatClampNeg) = (r 38 ((r 42 ((v3 + (-1))).toNatClampNeg)).toNatClampNeg) → vp_in (r 41 ((v3 + (-1))).toNatClampNeg) 460 ∧ (¬ (r 37 ((r 41 ((v3 + (-1))).toNatClampNeg)).toNatClampNeg) = (8 : Int32) → wp_M_same_L153 Q (wp_M_same_L16 Q n16) r (v3 + (-1))) ∧ ((r 37 ((r 41 ((v3 + (-1))).toNatClampNeg)).toNatClampNeg) = (8 : Int32) → vp_in (r 41 ((v3 + (-1))).toNatClampNeg) 460 ∧ vp_in (v3 + (-1)) 400 ∧ vp_in (r 42 ((v3 + (-1))).toNatClampNeg) 460 ∧ vp_in (v3 + (-1)) 400 ∧ vp_in (r 41 ((v3 + (-1))).toNatClampNeg) 460 ∧ vp_in ((v3 + (-1)) + (1 : Int32)) 400 ∧ vp_in (r 42 ((v3 + (-1))).toNatClampNeg) 460 ∧ vp_in ((v3 + (-1)) + (1 : Int32)) 400 ∧ wp_M_same_L153 Q (wp_M_same_L16 Q n16) (st_u (st_u (st_u (st_u r 41 ((v3 + (-1))).toNatClampNeg (r 40 ((r 41 ((v3 + (-1))).toNatClampNeg)).toNatClampNeg)) 42 ((v3 + (-1))).toNatClampNeg (r 40 ((r 42 ((v3 + (-1))).toNatClampNeg)).toNatClampNeg)) 41 (((v3 + (-1)) + (1 : Int32))).toNatClampNeg (r 39 ((r 41 ((v3 + (-1))).toNatClampNeg)).toNatClampNeg)) 42 (((v3 + (-1)) + (1 : Int32))).toNatClampNeg (r 39 ((r 42 ((v3 + (-1))).toNatClampNeg)).toNatClampNeg)) ((v3 + (-1)) + 2))) ∧ (¬ (r 38 ((r 41 ((v3 + (-1))).toNatClampNeg)).toNatClampNeg) = (r 38 ((r 42 ((v3 + (-1))).toNatClampNeg)).toNatClampNeg) → wp_M_same_L80 Q r))))
def wp_M_same (a1 : Int32) (a2 : Int32) (r : st_I) (Q : (Int32 → st_I → Prop)) : Prop := vp_in (0 : Int32) 400 ∧ vp_in (0 : Int32) 400 ∧ ∃ n16, wp_M_same_L16 Q n16 (st_u (st_u r 41 ((0 : Int32)).toNatClampNeg a1) 42 ((0 : Int32)).toNatClampNeg a2) (1 : Int32)
set_option maxHeartbeats 4000000 in
set_option maxRecDepth 100000 in
theorem ct_M_same (l : Launch) (D : va_G) (cI cL cZ : ClassId) (ad : Nat → Nat) (g : st_I) (q : st_L) (o : st_L) (a1 : Int32) (a2 : Int32) (r : st_I) (Q : (Int32 → st_I → Prop)) (h : wp_M_same a1 a2 r Q) : ∀ sz, Met l yn_M_same (Cond.code yn_M_same cd_M_same 6 (some .boolean) :: wa_A) { frames := 0, cells := 0, slots := 0, locals := 0 } (va_Pc [.ref (ad 20), .int a1, .int a2] (wq_S D cl_A (wd_T cI cL cZ) nw_A (wd_W cI cL cZ ad g q r o) sz)) (va_Qi Q (fun u t => wq_E D cl_A (wd_T cI cL cZ) (va_A (wd_W cI cL cZ ad g q r o) sz) (wd_W cI cL cZ ad g q u o) t) (va_A (wd_W cI cL cZ ad g q r o) sz)) 0 0 (va_A (wd_W cI cL cZ ad g q r o) sz) := by
  refine sw_met (Qc := fun A => va_Qi Q (fun u t => wq_E D cl_A (wd_T cI cL cZ) A (wd_W cI cL cZ ad g q u o) t) A) (by decide) rfl (Nat.le_of_ble_eq_true rfl) rfl ?_
  intro p e s m args below meth c A X hA hNs hE hr hlk hnm
  have b153 : ∀ (H16 : st_I → Int32 → Prop) (hH16 : ∀ (r : st_I) (v3 : Int32), H16 r v3 → sw_J p l e { frames := 0, cells := 0, slots := 0, locals := 0 } s m args below meth c 0 0 (MQ below (va_Qi Q (fun u t => wq_E D cl_A (wd_T cI cL cZ) A (wd_W cI cL cZ ad g q u o) t) A) args s 0 0 A) D cl_A A 6 (wd_W cI cL cZ ad g q r o) 16 [(0, .ref (ad 20)), (3, .int v3)] []) (r : st_I) (v3 : Int32), wp_M_same_L153 Q H16 r v3 → sw_J p l e { frames := 0, cells := 0, slots := 0, locals := 0 } s m args below meth c 0 0 (MQ below (va_Qi Q (fun u t => wq_E D cl_A (wd_T cI cL cZ) A (wd_W cI cL cZ ad g q u o) t) A) args s 0 0 A) D cl_A A 6 (wd_W cI cL cZ ad g q r o) 153 [(0, .ref (ad 20)), (3, .int v3)] [] := by
    intro H16 hH16 r v3 h
    refine sw_goto (tgt := 16) X dc_M_same_153 (by decide) ?_
    exact hH16 r v3 h
  have b80 : ∀ (r : st_I), wp_M_same_L80 Q r → sw_J p l e { frames := 0, cells := 0, slots := 0, locals := 0 } s m args below meth c 0 0 (MQ below (va_Qi Q (fun u t => wq_E D cl_A (wd_T cI cL cZ) A (wd_W cI cL cZ ad g q u o) t) A) args s 0 0 A) D cl_A A 6 (wd_W cI cL cZ ad g q r o) 80 [] [] := by
    intro r h
    refine sw_iconst (v := 0) X dc_M_same_80 (by decide) ?_
    exact sw_zret X hr hlk (by decide) (u := r) rfl h dc_M_same_81
  have b16 : ∀ (n : Nat) (r : st_I) (v3 : Int32), wp_M_same_L16 Q n r v3 → sw_J p l e { frames := 0, cells := 0, slots := 0, locals := 0 } s m args below meth c 0 0 (MQ below (va_Qi Q (fun u t => wq_E D cl_A (wd_T cI cL cZ) A (wd_W cI cL cZ ad g q u o) t) A) args s 0 0 A) D cl_A A 6 (wd_W cI cL cZ ad g q r o) 16 [(0, .ref (ad 20)), (3, .int v3)] [] := by
    intro n16
    induction n16 with
    | zero => intro r v3 h; exact h.elim
    | succ n16 hH16 =>
    intro r v3 h
    refine sw_iload_n X 1 rfl rfl dc_M_same_16 ?_
    refine sw_if_le (tgt := 156) X dc_M_same_17 (by decide) (fun z => ?_) (fun z => ?_)
    · have h := h.1 z
      refine sw_iconst (v := 1) X dc_M_same_156 (by decide) ?_
      exact sw_zret X hr hlk (by decide) (u := r) rfl h dc_M_same_157
    · have h := h.2 z
      refine sw_iinc (n := -1) (v := (v3 + (-1))) X 1 rfl rfl [(3, .int (v3 + (-1))), (0, .ref (ad 20))] rfl (by decide) dc_M_same_20 ?_
      refine sw_aload_n X 1 rfl rfl dc_M_same_23 ?_
      refine sw_get X (fun z hz => List.mem_cons_of_mem _ (wf_M z hz)) 20 (wd_20 cI cL cZ ad g q r o) rfl 31 (by decide) (List.mem_cons_of_mem _ wm_fl_M_71) rfl dc_M_same_24 ?_
      refine sw_iload_n X 0 rfl rfl dc_M_same_27 ?_
      refine sw_iald X 41 0 (wd_41 cI cL cZ ad g q r o) rfl h.1 dc_M_same_28 ?_
      have h := h.2
      refine sw_istore X [(4, .int (r 41 ((v3 + (-1))).toNatClampNeg)), (3, .int (v3 + (-1))), (0, .ref (ad 20))] rfl (by decide) dc_M_same_29 ?_
      refine sw_aload_n X 2 rfl rfl dc_M_same_31 ?_
      refine sw_get X (fun z hz => List.mem_cons_of_mem _ (wf_M z hz)) 20 (wd_20 cI cL cZ ad g q r o) rfl 32 (by decide) (List.mem_cons_of_mem _ wm_fl_M_74) rfl dc_M_same_32 ?_
      refine sw_iload_n X 1 rfl rfl dc_M_same_35 ?_
      refine sw_iald X 42 0 (wd_42 cI cL cZ ad g q r o) rfl h.1 dc_M_same_36 ?_
      have h := h.2
      refine sw_istore X [(5, .int (r 42 ((v3 + (-1))).toNatClampNeg)), (4, .int (r 41 ((v3 + (-1))).toNatClampNeg)), (3, .int (v3 + (-1))), (0, .ref (ad 20))] rfl (by decide) dc_M_same_37 ?_
      refine sw_iload X 1 rfl dc_M_same_39 ?_
      refine sw_iload X 0 rfl dc_M_same_41 ?_
      refine sw_icmp_eq (tgt := 153) X dc_M_same_43 (by decide) (fun z => ?_) (fun z => ?_)
      · have h := h.1 z
        refine sw_sub [3, 2] rfl ?_
        exact b153 (wp_M_same_L16 Q n16) hH16 r (v3 + (-1)) h
      · have h := h.2 z
        refine sw_aload_n X 3 rfl rfl dc_M_same_46 ?_
        refine sw_get X (fun z hz => List.mem_cons_of_mem _ (wf_M z hz)) 20 (wd_20 cI cL cZ ad g q r o) rfl 20 (by decide) (List.mem_cons_of_mem _ wm_fl_M_59) rfl dc_M_same_47 ?_
        refine sw_iload X 1 rfl dc_M_same_50 ?_
        refine sw_iald X 37 0 (wd_37 cI cL cZ ad g q r o) rfl h.1 dc_M_same_52 ?_
        have h := h.2
        refine sw_aload_n X 3 rfl rfl dc_M_same_53 ?_
        refine sw_get X (fun z hz => List.mem_cons_of_mem _ (wf_M z hz)) 20 (wd_20 cI cL cZ ad g q r o) rfl 20 (by decide) (List.mem_cons_of_mem _ wm_fl_M_59) rfl dc_M_same_54 ?_
        refine sw_iload X 0 rfl dc_M_same_57 ?_
        refine sw_iald X 37 0 (wd_37 cI cL cZ ad g q r o) rfl h.1 dc_M_same_59 ?_
        have h := h.2
        refine sw_icmp_ne (tgt := 80) X dc_M_same_60 (by decide) (fun z => ?_) (fun z => ?_)
        · have h := h.1 z
          refine sw_sub [] rfl ?_
          exact b80 r h
        · have h := h.2 z
          refine sw_aload_n X 3 rfl rfl dc_M_same_63 ?_
          refine sw_get X (fun z hz => List.mem_cons_of_mem _ (wf_M z hz)) 20 (wd_20 cI cL cZ ad g q r o) rfl 21 (by decide) (List.mem_cons_of_mem _ wm_fl_M_62) rfl dc_M_same_64 ?_
          refine sw_iload X 1 rfl dc_M_same_67 ?_
          refine sw_iald X 38 0 (wd_38 cI cL cZ ad g q r o) rfl h.1 dc_M_same_69 ?_
          have h := h.2
          refine sw_aload_n X 3 rfl rfl dc_M_same_70 ?_
          refine sw_get X (fun z hz => List.mem_cons_of_mem _ (wf_M z hz)) 20 (wd_20 cI cL cZ ad g q r o) rfl 21 (by decide) (List.mem_cons_of_mem _ wm_fl_M_62) rfl dc_M_same_71 ?_
          refine sw_iload X 0 rfl dc_M_same_74 ?_
          refine sw_iald X 38 0 (wd_38 cI cL cZ ad g q r o) rfl h.1 dc_M_same_76 ?_
          have h := h.2
          refine sw_icmp_eq (tgt := 82) X dc_M_same_77 (by decide) (fun z => ?_) (fun z => ?_)
          · have h := h.1 z
            refine sw_aload_n X 3 rfl rfl dc_M_same_82 ?_
            refine sw_get X (fun z hz => List.mem_cons_of_mem _ (wf_M z hz)) 20 (wd_20 cI cL cZ ad g q r o) rfl 20 (by decide) (List.mem_cons_of_mem _ wm_fl_M_59) rfl dc_M_same_83 ?_
            refine sw_iload X 1 rfl dc_M_same_86 ?_
            refine sw_iald X 37 0 (wd_37 cI cL cZ ad g q r o) rfl h.1 dc_M_same_88 ?_
            have h := h.2
            refine sw_bipush (v := 8) X dc_M_same_89 (by decide) ?_
            refine sw_icmp_ne (tgt := 153) X dc_M_same_91 (by decide) (fun z => ?_) (fun z => ?_)
            · have h := h.1 z
              refine sw_sub [3, 2] rfl ?_
              exact b153 (wp_M_same_L16 Q n16) hH16 r (v3 + (-1)) h
            · have h := h.2 z
              refine sw_aload_n X 3 rfl rfl dc_M_same_94 ?_
              refine sw_get X (fun z hz => List.mem_cons_of_mem _ (wf_M z hz)) 20 (wd_20 cI cL cZ ad g q r o) rfl 31 (by decide) (List.mem_cons_of_mem _ wm_fl_M_71) rfl dc_M_same_95 ?_
              refine sw_iload_n X 2 rfl rfl dc_M_same_98 ?_
              refine sw_aload_n X 3 rfl rfl dc_M_same_99 ?_
              refine sw_get X (fun z hz => List.mem_cons_of_mem _ (wf_M z hz)) 20 (wd_20 cI cL cZ ad g q r o) rfl 23 (by decide) (List.mem_cons_of_mem _ wm_fl_M_68) rfl dc_M_same_100 ?_
              refine sw_iload X 1 rfl dc_M_same_103 ?_
              refine sw_iald X 40 0 (wd_40 cI cL cZ ad g q r o) rfl h.1 dc_M_same_105 ?_
              have h := h.2
              refine sw_iast X 41 0 (wd_41 cI cL cZ ad g q r o) rfl h.1 (wd_W cI cL cZ ad g q (st_u r 41 ((v3 + (-1))).toNatClampNeg (r 40 ((r 41 ((v3 + (-1))).toNatClampNeg)).toNatClampNeg)) o) (ws_41 cI cL cZ ad g q r o ((v3 + (-1))).toNatClampNeg (r 40 ((r 41 ((v3 + (-1))).toNatClampNeg)).toNatClampNeg)) dc_M_same_106 ?_
              have h := h.2
              refine sw_aload_n X 3 rfl rfl dc_M_same_107 ?_
              refine sw_get X (fun z hz => List.mem_cons_of_mem _ (wf_M z hz)) 20 (wd_20 cI cL cZ ad g q (st_u r 41 ((v3 + (-1))).toNatClampNeg (r 40 ((r 41 ((v3 + (-1))).toNatClampNeg)).toNatClampNeg)) o) rfl 32 (by decide) (List.mem_cons_of_mem _ wm_fl_M_74) rfl dc_M_same_108 ?_
              refine sw_iload_n X 2 rfl rfl dc_M_same_111 ?_
              refine sw_aload_n X 3 rfl rfl dc_M_same_112 ?_
              refine sw_get X (fun z hz => List.mem_cons_of_mem _ (wf_M z hz)) 20 (wd_20 cI cL cZ ad g q (st_u r 41 ((v3 + (-1))).toNatClampNeg (r 40 ((r 41 ((v3 + (-1))).toNatClampNeg)).toNatClampNeg)) o) rfl 23 (by decide) (List.mem_cons_of_mem _ wm_fl_M_68) rfl dc_M_same_113 ?_
              refine sw_iload X 0 rfl dc_M_same_116 ?_
              refine sw_iald X 40 0 (wd_40 cI cL cZ ad g q (st_u r 41 ((v3 + (-1))).toNatClampNeg (r 40 ((r 41 ((v3 + (-1))).toNatClampNeg)).toNatClampNeg)) o) rfl h.1 dc_M_same_118 ?_
              have h := h.2
              refine sw_eq (st' := [.int (r 40 ((r 42 ((v3 + (-1))).toNatClampNeg)).toNatClampNeg), .int (v3 + (-1)), .ref (ad 42)]) rfl rfl rfl ?_
              refine sw_iast X 42 0 (wd_42 cI cL cZ ad g q (st_u r 41 ((v3 + (-1))).toNatClampNeg (r 40 ((r 41 ((v3 + (-1))).toNatClampNeg)).toNatClampNeg)) o) rfl h.1 (wd_W cI cL cZ ad g q (st_u (st_u r 41 ((v3 + (-1))).toNatClampNeg (r 40 ((r 41 ((v3 + (-1))).toNatClampNeg)).toNatClampNeg)) 42 ((v3 + (-1))).toNatClampNeg (r 40 ((r 42 ((v3 + (-1))).toNatClampNeg)).toNatClampNeg)) o) (ws_42 cI cL cZ ad g q (st_u r 41 ((v3 + (-1))).toNatClampNeg (r 40 ((r 41 ((v3 + (-1))).toNatClampNeg)).toNatClampNeg)) o ((v3 + (-1))).toNatClampNeg (r 40 ((r 42 ((v3 + (-1))).toNatClampNeg)).toNatClampNeg)) dc_M_same_119 ?_
              have h := h.2
              refine sw_aload_n X 3 rfl rfl dc_M_same_120 ?_
              refine sw_get X (fun z hz => List.mem_cons_of_mem _ (wf_M z hz)) 20 (wd_20 cI cL cZ ad g q (st_u (st_u r 41 ((v3 + (-1))).toNatClampNeg (r 40 ((r 41 ((v3 + (-1))).toNatClampNeg)).toNatClampNeg)) 42 ((v3 + (-1))).toNatClampNeg (r 40 ((r 42 ((v3 + (-1))).toNatClampNeg)).toNatClampNeg)) o) rfl 31 (by decide) (List.mem_cons_of_mem _ wm_fl_M_71) rfl dc_M_same_121 ?_
              refine sw_iload_n X 2 rfl rfl dc_M_same_124 ?_
              refine sw_iconst (v := 1) X dc_M_same_125 (by decide) ?_
              refine sw_iadd X dc_M_same_126 ?_
              refine sw_aload_n X 3 rfl rfl dc_M_same_127 ?_
              refine sw_get X (fun z hz => List.mem_cons_of_mem _ (wf_M z hz)) 20 (wd_20 cI cL cZ ad g q (st_u (st_u r 41 ((v3 + (-1))).toNatClampNeg (r 40 ((r 41 ((v3 + (-1))).toNatClampNeg)).toNatClampNeg)) 42 ((v3 + (-1))).toNatClampNeg (r 40 ((r 42 ((v3 + (-1))).toNatClampNeg)).toNatClampNeg)) o) rfl 22 (by decide) (List.mem_cons_of_mem _ wm_fl_M_65) rfl dc_M_same_128 ?_
              refine sw_iload X 1 rfl dc_M_same_131 ?_
              refine sw_iald X 39 0 (wd_39 cI cL cZ ad g q (st_u (st_u r 41 ((v3 + (-1))).toNatClampNeg (r 40 ((r 41 ((v3 + (-1))).toNatClampNeg)).toNatClampNeg)) 42 ((v3 + (-1))).toNatClampNeg (r 40 ((r 42 ((v3 + (-1))).toNatClampNeg)).toNatClampNeg)) o) rfl h.1 dc_M_same_133 ?_
              have h := h.2
              refine sw_eq (st' := [.int (r 39 ((r 41 ((v3 + (-1))).toNatClampNeg)).toNatClampNeg), .int ((v3 + (-1)) + (1 : Int32)), .ref (ad 41)]) rfl rfl rfl ?_
              refine sw_iast X 41 0 (wd_41 cI cL cZ ad g q (st_u (st_u r 41 ((v3 + (-1))).toNatClampNeg (r 40 ((r 41 ((v3 + (-1))).toNatClampNeg)).toNatClampNeg)) 42 ((v3 + (-1))).toNatClampNeg (r 40 ((r 42 ((v3 + (-1))).toNatClampNeg)).toNatClampNeg)) o) rfl h.1 (wd_W cI cL cZ ad g q (st_u (st_u (st_u r 41 ((v3 + (-1))).toNatClampNeg (r 40 ((r 41 ((v3 + (-1))).toNatClampNeg)).toNatClampNeg)) 42 ((v3 + (-1))).toNatClampNeg (r 40 ((r 42 ((v3 + (-1))).toNatClampNeg)).toNatClampNeg)) 41 (((v3 + (-1)) + (1 : Int32))).toNatClampNeg (r 39 ((r 41 ((v3 + (-1))).toNatClampNeg)).toNatClampNeg)) o) (ws_41 cI cL cZ ad g q (st_u (st_u r 41 ((v3 + (-1))).toNatClampNeg (r 40 ((r 41 ((v3 + (-1))).toNatClampNeg)).toNatClampNeg)) 42 ((v3 + (-1))).toNatClampNeg (r 40 ((r 42 ((v3 + (-1))).toNatClampNeg)).toNatClampNeg)) o (((v3 + (-1)) + (1 : Int32))).toNatClampNeg (r 39 ((r 41 ((v3 + (-1))).toNatClampNeg)).toNatClampNeg)) dc_M_same_134 ?_
              have h := h.2
              refine sw_aload_n X 3 rfl rfl dc_M_same_135 ?_
              refine sw_get X (fun z hz => List.mem_cons_of_mem _ (wf_M z hz)) 20 (wd_20 cI cL cZ ad g q (st_u (st_u (st_u r 41 ((v3 + (-1))).toNatClampNeg (r 40 ((r 41 ((v3 + (-1))).toNatClampNeg)).toNatClampNeg)) 42 ((v3 + (-1))).toNatClampNeg (r 40 ((r 42 ((v3 + (-1))).toNatClampNeg)).toNatClampNeg)) 41 (((v3 + (-1)) + (1 : Int32))).toNatClampNeg (r 39 ((r 41 ((v3 + (-1))).toNatClampNeg)).toNatClampNeg)) o) rfl 32 (by decide) (List.mem_cons_of_mem _ wm_fl_M_74) rfl dc_M_same_136 ?_
              refine sw_iload_n X 2 rfl rfl dc_M_same_139 ?_
              refine sw_iconst (v := 1) X dc_M_same_140 (by decide) ?_
              refine sw_iadd X dc_M_same_141 ?_
              refine sw_aload_n X 3 rfl rfl dc_M_same_142 ?_
              refine sw_get X (fun z hz => List.mem_cons_of_mem _ (wf_M z hz)) 20 (wd_20 cI cL cZ ad g q (st_u (st_u (st_u r 41 ((v3 + (-1))).toNatClampNeg (r 40 ((r 41 ((v3 + (-1))).toNatClampNeg)).toNatClampNeg)) 42 ((v3 + (-1))).toNatClampNeg (r 40 ((r 42 ((v3 + (-1))).toNatClampNeg)).toNatClampNeg)) 41 (((v3 + (-1)) + (1 : Int32))).toNatClampNeg (r 39 ((r 41 ((v3 + (-1))).toNatClampNeg)).toNatClampNeg)) o) rfl 22 (by decide) (List.mem_cons_of_mem _ wm_fl_M_65) rfl dc_M_same_143 ?_
              refine sw_iload X 0 rfl dc_M_same_146 ?_
              refine sw_iald X 39 0 (wd_39 cI cL cZ ad g q (st_u (st_u (st_u r 41 ((v3 + (-1))).toNatClampNeg (r 40 ((r 41 ((v3 + (-1))).toNatClampNeg)).toNatClampNeg)) 42 ((v3 + (-1))).toNatClampNeg (r 40 ((r 42 ((v3 + (-1))).toNatClampNeg)).toNatClampNeg)) 41 (((v3 + (-1)) + (1 : Int32))).toNatClampNeg (r 39 ((r 41 ((v3 + (-1))).toNatClampNeg)).toNatClampNeg)) o) rfl h.1 dc_M_same_148 ?_
              have h := h.2
              refine sw_eq (st' := [.int (r 39 ((r 42 ((v3 + (-1))).toNatClampNeg)).toNatClampNeg), .int ((v3 + (-1)) + (1 : Int32)), .ref (ad 42)]) rfl rfl rfl ?_
              refine sw_iast X 42 0 (wd_42 cI cL cZ ad g q (st_u (st_u (st_u r 41 ((v3 + (-1))).toNatClampNeg (r 40 ((r 41 ((v3 + (-1))).toNatClampNeg)).toNatClampNeg)) 42 ((v3 + (-1))).toNatClampNeg (r 40 ((r 42 ((v3 + (-1))).toNatClampNeg)).toNatClampNeg)) 41 (((v3 + (-1)) + (1 : Int32))).toNatClampNeg (r 39 ((r 41 ((v3 + (-1))).toNatClampNeg)).toNatClampNeg)) o) rfl h.1 (wd_W cI cL cZ ad g q (st_u (st_u (st_u (st_u r 41 ((v3 + (-1))).toNatClampNeg (r 40 ((r 41 ((v3 + (-1))).toNatClampNeg)).toNatClampNeg)) 42 ((v3 + (-1))).toNatClampNeg (r 40 ((r 42 ((v3 + (-1))).toNatClampNeg)).toNatClampNeg)) 41 (((v3 + (-1)) + (1 : Int32))).toNatClampNeg (r 39 ((r 41 ((v3 + (-1))).toNatClampNeg)).toNatClampNeg)) 42 (((v3 + (-1)) + (1 : Int32))).toNatClampNeg (r 39 ((r 42 ((v3 + (-1))).toNatClampNeg)).toNatClampNeg)) o) (ws_42 cI cL cZ ad g q (st_u (st_u (st_u r 41 ((v3 + (-1))).toNatClampNeg (r 40 ((r 41 ((v3 + (-1))).toNatClampNeg)).toNatClampNeg)) 42 ((v3 + (-1))).toNatClampNeg (r 40 ((r 42 ((v3 + (-1))).toNatClampNeg)).toNatClampNeg)) 41 (((v3 + (-1)) + (1 : Int32))).toNatClampNeg (r 39 ((r 41 ((v3 + (-1))).toNatClampNeg)).toNatClampNeg)) o (((v3 + (-1)) + (1 : Int32))).toNatClampNeg (r 39 ((r 42 ((v3 + (-1))).toNatClampNeg)).toNatClampNeg)) dc_M_same_149 ?_
              have h := h.2
              refine sw_iinc (n := 2) (v := ((v3 + (-1)) + 2)) X 2 rfl rfl [(3, .int ((v3 + (-1)) + 2)), (5, .int (r 42 ((v3 + (-1))).toNatClampNeg)), (4, .int (r 41 ((v3 + (-1))).toNatClampNeg)), (0, .ref (ad 20))] rfl (by decide) dc_M_same_150 ?_
              refine sw_sub [3, 0] rfl ?_
              exact b153 (wp_M_same_L16 Q n16) hH16 (st_u (st_u (st_u (st_u r 41 ((v3 + (-1))).toNatClampNeg (r 40 ((r 41 ((v3 + (-1))).toNatClampNeg)).toNatClampNeg)) 42 ((v3 + (-1))).toNatClampNeg (r 40 ((r 42 ((v3 + (-1))).toNatClampNeg)).toNatClampNeg)) 41 (((v3 + (-1)) + (1 : Int32))).toNatClampNeg (r 39 ((r 41 ((v3 + (-1))).toNatClampNeg)).toNatClampNeg)) 42 (((v3 + (-1)) + (1 : Int32))).toNatClampNeg (r 39 ((r 42 ((v3 + (-1))).toNatClampNeg)).toNatClampNeg)) ((v3 + (-1)) + 2) h
          · have h := h.2 z
            refine sw_sub [] rfl ?_
            exact b80 r h
  refine sw_iconst (v := 1) X dc_M_same_0 (by decide) ?_
  refine sw_istore_n X [(3, .int (1 : Int32)), (0, .ref (ad 20)), (1, .int a1), (2, .int a2)] rfl (by decide) rfl dc_M_same_1 ?_
  refine sw_aload_n X 1 rfl rfl dc_M_same_2 ?_
  refine sw_get X (fun z hz => List.mem_cons_of_mem _ (wf_M z hz)) 20 (wd_20 cI cL cZ ad g q r o) rfl 31 (by decide) (List.mem_cons_of_mem _ wm_fl_M_71) rfl dc_M_same_3 ?_
  refine sw_iconst (v := 0) X dc_M_same_6 (by decide) ?_
  refine sw_iload_n X 2 rfl rfl dc_M_same_7 ?_
  refine sw_iast X 41 0 (wd_41 cI cL cZ ad g q r o) rfl h.1 (wd_W cI cL cZ ad g q (st_u r 41 ((0 : Int32)).toNatClampNeg a1) o) (ws_41 cI cL cZ ad g q r o ((0 : Int32)).toNatClampNeg a1) dc_M_same_8 ?_
  have h := h.2
  refine sw_aload_n X 1 rfl rfl dc_M_same_9 ?_
  refine sw_get X (fun z hz => List.mem_cons_of_mem _ (wf_M z hz)) 20 (wd_20 cI cL cZ ad g q (st_u r 41 ((0 : Int32)).toNatClampNeg a1) o) rfl 32 (by decide) (List.mem_cons_of_mem _ wm_fl_M_74) rfl dc_M_same_10 ?_
  refine sw_iconst (v := 0) X dc_M_same_13 (by decide) ?_
  refine sw_iload_n X 3 rfl rfl dc_M_same_14 ?_
  refine sw_iast X 42 0 (wd_42 cI cL cZ ad g q (st_u r 41 ((0 : Int32)).toNatClampNeg a1) o) rfl h.1 (wd_W cI cL cZ ad g q (st_u (st_u r 41 ((0 : Int32)).toNatClampNeg a1) 42 ((0 : Int32)).toNatClampNeg a2) o) (ws_42 cI cL cZ ad g q (st_u r 41 ((0 : Int32)).toNatClampNeg a1) o ((0 : Int32)).toNatClampNeg a2) dc_M_same_15 ?_
  have h := h.2
  refine sw_sub [1, 0] rfl ?_
  obtain ⟨n16, h⟩ := h
  exact b16 n16 (st_u (st_u r 41 ((0 : Int32)).toNatClampNeg a1) 42 ((0 : Int32)).toNatClampNeg a2) (1 : Int32) h
def wp_M_isNumber_L16 (Q : (Int32 → st_I → Prop)) (r : st_I) (t0 : Int32) : Prop := narrow .boolean (.int t0) = .int t0 ∧ Q t0 r
def wp_M_isNumber_L15 (Q : (Int32 → st_I → Prop)) (r : st_I)  : Prop := wp_M_isNumber_L16 Q r (0 : Int32)
def wp_M_isNumber (a1 : Int32) (r : st_I) (Q : (Int32 → st_I → Prop)) : Prop := (a1 < (4 : Int32) → wp_M_isNumber_L15 Q r) ∧ (¬ a1 < (4 : Int32) → ((6 : Int32) < a1 → wp_M_isNumber_L15 Q r) ∧ (¬ (6 : Int32) < a1 → wp_M_isNumber_L16 Q r (1 : Int32)))
set_option maxHeartbeats 4000000 in
set_option maxRecDepth 100000 in
theorem ct_M_isNumber (l : Launch) (D : va_G) (cI cL cZ : ClassId) (ad : Nat → Nat) (g : st_I) (q : st_L) (o : st_L) (a1 : Int32) (r : st_I) (Q : (Int32 → st_I → Prop)) (h : wp_M_isNumber a1 r Q) : ∀ sz, Met l yn_M_isNumber (Cond.code yn_M_isNumber cd_M_isNumber 1 (some .boolean) :: wa_A) { frames := 0, cells := 0, slots := 0, locals := 0 } (va_Pc [.int a1] (wq_S D cl_A (wd_T cI cL cZ) nw_A (wd_W cI cL cZ ad g q r o) sz)) (va_Qi Q (fun u t => wq_E D cl_A (wd_T cI cL cZ) (va_A (wd_W cI cL cZ ad g q r o) sz) (wd_W cI cL cZ ad g q u o) t) (va_A (wd_W cI cL cZ ad g q r o) sz)) 0 0 (va_A (wd_W cI cL cZ ad g q r o) sz) := by
  refine sw_met (Qc := fun A => va_Qi Q (fun u t => wq_E D cl_A (wd_T cI cL cZ) A (wd_W cI cL cZ ad g q u o) t) A) (by decide) rfl (Nat.le_of_ble_eq_true rfl) rfl ?_
  intro p e s m args below meth c A X hA hNs hE hr hlk hnm
  have b16 : ∀ (r : st_I) (t0 : Int32), wp_M_isNumber_L16 Q r t0 → sw_J p l e { frames := 0, cells := 0, slots := 0, locals := 0 } s m args below meth c 0 0 (MQ below (va_Qi Q (fun u t => wq_E D cl_A (wd_T cI cL cZ) A (wd_W cI cL cZ ad g q u o) t) A) args s 0 0 A) D cl_A A 1 (wd_W cI cL cZ ad g q r o) 16 [] [.int t0] := by
    intro r t0 h
    exact sw_zret X hr hlk h.1 (u := r) rfl h.2 dc_M_isNumber_16
  have b15 : ∀ (r : st_I), wp_M_isNumber_L15 Q r → sw_J p l e { frames := 0, cells := 0, slots := 0, locals := 0 } s m args below meth c 0 0 (MQ below (va_Qi Q (fun u t => wq_E D cl_A (wd_T cI cL cZ) A (wd_W cI cL cZ ad g q u o) t) A) args s 0 0 A) D cl_A A 1 (wd_W cI cL cZ ad g q r o) 15 [] [] := by
    intro r h
    refine sw_iconst (v := 0) X dc_M_isNumber_15 (by decide) ?_
    exact b16 r (0 : Int32) h
  refine sw_iload_n X 0 rfl rfl dc_M_isNumber_0 ?_
  refine sw_iconst (v := 4) X dc_M_isNumber_1 (by decide) ?_
  refine sw_icmp_lt (tgt := 15) X dc_M_isNumber_2 (by decide) (fun z => ?_) (fun z => ?_)
  · have h := h.1 z
    refine sw_sub [] rfl ?_
    exact b15 r h
  · have h := h.2 z
    refine sw_iload_n X 0 rfl rfl dc_M_isNumber_5 ?_
    refine sw_bipush (v := 6) X dc_M_isNumber_6 (by decide) ?_
    refine sw_icmp_gt (tgt := 15) X dc_M_isNumber_8 (by decide) (fun z => ?_) (fun z => ?_)
    · have h := h.1 z
      refine sw_sub [] rfl ?_
      exact b15 r h
    · have h := h.2 z
      refine sw_iconst (v := 1) X dc_M_isNumber_11 (by decide) ?_
      refine sw_goto (tgt := 16) X dc_M_isNumber_12 (by decide) ?_
      refine sw_sub [] rfl ?_
      exact b16 r (1 : Int32) h
def wp_M_pair (a1 : Int32) (a2 : Int32) (r : st_I) (Q : (st_I → Prop)) : Prop := (¬ (r 20 27) = (40 : Int32) → wp_M_value (8 : Int32) (0 : Int32) (st_u r 20 27 ((r 20 27) + (1 : Int32))) (fun x29 u29 => vp_in x29 460 ∧ vp_in x29 460 ∧ wp_M_end x29 (st_u (st_u u29 39 (x29).toNatClampNeg a1) 40 (x29).toNatClampNeg a2) (fun u49 => Q u49))) ∧ ((r 20 27) = (40 : Int32) → Q (st_u r 20 25 (1 : Int32)))
set_option maxHeartbeats 4000000 in
set_option maxRecDepth 100000 in
theorem ct_M_pair (l : Launch) (D : va_G) (cI cL cZ : ClassId) (ad : Nat → Nat) (g : st_I) (q : st_L) (o : st_L) (a1 : Int32) (a2 : Int32) (r : st_I) (Q : (st_I → Prop)) (h : wp_M_pair a1 a2 r Q) : ∀ sz, Met l yn_M_pair (Cond.code yn_M_pair cd_M_pair 4 none :: wa_A) { frames := 1, cells := 0, slots := 0, locals := 22 } (va_Pc [.ref (ad 20), .int a1, .int a2] (wq_S D cl_A (wd_T cI cL cZ) nw_A (wd_W cI cL cZ ad g q r o) sz)) (va_Qv Q (fun u t => wq_E D cl_A (wd_T cI cL cZ) (va_A (wd_W cI cL cZ ad g q r o) sz) (wd_W cI cL cZ ad g q u o) t) (va_A (wd_W cI cL cZ ad g q r o) sz)) 0 0 (va_A (wd_W cI cL cZ ad g q r o) sz) := by
  refine sw_met (Qc := fun A => va_Qv Q (fun u t => wq_E D cl_A (wd_T cI cL cZ) A (wd_W cI cL cZ ad g q u o) t) A) (by decide) rfl (Nat.le_of_ble_eq_true rfl) rfl ?_
  intro p e s m args below meth c A X hA hNs hE hr hlk hnm
  refine sw_aload_n X 0 rfl rfl dc_M_pair_0 ?_
  refine sw_get (v := .int (r 20 27)) X (fun z hz => List.mem_cons_of_mem _ (wf_M z hz)) 20 (wd_20 cI cL cZ ad g q r o) rfl 27 (by decide) (List.mem_cons_of_mem _ wm_fl_M_180) rfl dc_M_pair_1 ?_
  refine sw_bipush (v := 40) X dc_M_pair_4 (by decide) ?_
  refine sw_icmp_ne (tgt := 15) X dc_M_pair_6 (by decide) (fun z => ?_) (fun z => ?_)
  · have h := h.1 z
    refine sw_aload_n X 0 rfl rfl dc_M_pair_15 ?_
    refine sw_dup X dc_M_pair_16 rfl ?_
    refine sw_get (v := .int (r 20 27)) X (fun z hz => List.mem_cons_of_mem _ (wf_M z hz)) 20 (wd_20 cI cL cZ ad g q r o) rfl 27 (by decide) (List.mem_cons_of_mem _ wm_fl_M_180) rfl dc_M_pair_17 ?_
    refine sw_iconst (v := 1) X dc_M_pair_20 (by decide) ?_
    refine sw_iadd X dc_M_pair_21 ?_
    refine sw_put (ty := .int) X (fun z hz => List.mem_cons_of_mem _ (wf_M z hz)) fy_M fo_M fn_M 20 (wd_20 cI cL cZ ad g q r o) rfl 27 (by decide) (List.mem_cons_of_mem _ wm_fl_M_180) rfl (by decide +kernel) rfl rfl (Nat.le_of_ble_eq_true rfl) (wd_W cI cL cZ ad g q (st_u r 20 27 ((r 20 27) + (1 : Int32))) o) (ws_20_27 cI cL cZ ad g q r o ((r 20 27) + (1 : Int32))) dc_M_pair_22 ?_
    refine sw_aload_n X 0 rfl rfl dc_M_pair_25 ?_
    refine sw_bipush (v := 8) X dc_M_pair_26 (by decide) ?_
    refine sw_iconst (v := 0) X dc_M_pair_28 (by decide) ?_
    refine sw_cV_i (n := 2) X hA nw_okA hNs hE (fun u : st_I => wd_W cI cL cZ ad g q u o) [.int (8 : Int32), .int (0 : Int32)] 20 (wd_20 cI cL cZ ad g q (st_u r 20 27 ((r 20 27) + (1 : Int32))) o) rfl rfl (ct_M_value l D cI cL cZ ad g q o (8 : Int32) (0 : Int32) (st_u r 20 27 ((r 20 27) + (1 : Int32))) _ h) (List.mem_cons_of_mem _ wm_ml_M_183) (List.mem_cons_of_mem _ wm_im_M_value) (List.mem_cons_of_mem _ wm_se_M_value) rfl (wg_in wm_code_M_value) rfl rfl (List.mem_cons_of_mem _ wm_in_M) ⟨by decide, by decide, by decide +kernel⟩ ⟨Nat.le_of_ble_eq_true rfl, Nat.le_of_ble_eq_true rfl⟩ ⟨Nat.zero_le _, Nat.zero_le _⟩ rfl (Nat.le_of_ble_eq_true rfl) dc_M_pair_29 rfl (fun x29 u29 h => ?_)
    refine sw_istore_n X [(3, .int x29), (0, .ref (ad 20)), (1, .int a1), (2, .int a2)] rfl (by decide) rfl dc_M_pair_32 ?_
    refine sw_aload_n X 1 rfl rfl dc_M_pair_33 ?_
    refine sw_get X (fun z hz => List.mem_cons_of_mem _ (wf_M z hz)) 20 (wd_20 cI cL cZ ad g q u29 o) rfl 22 (by decide) (List.mem_cons_of_mem _ wm_fl_M_65) rfl dc_M_pair_34 ?_
    refine sw_iload_n X 0 rfl rfl dc_M_pair_37 ?_
    refine sw_iload_n X 2 rfl rfl dc_M_pair_38 ?_
    refine sw_iast X 39 0 (wd_39 cI cL cZ ad g q u29 o) rfl h.1 (wd_W cI cL cZ ad g q (st_u u29 39 (x29).toNatClampNeg a1) o) (ws_39 cI cL cZ ad g q u29 o (x29).toNatClampNeg a1) dc_M_pair_39 ?_
    have h := h.2
    refine sw_aload_n X 1 rfl rfl dc_M_pair_40 ?_
    refine sw_get X (fun z hz => List.mem_cons_of_mem _ (wf_M z hz)) 20 (wd_20 cI cL cZ ad g q (st_u u29 39 (x29).toNatClampNeg a1) o) rfl 23 (by decide) (List.mem_cons_of_mem _ wm_fl_M_68) rfl dc_M_pair_41 ?_
    refine sw_iload_n X 0 rfl rfl dc_M_pair_44 ?_
    refine sw_iload_n X 3 rfl rfl dc_M_pair_45 ?_
    refine sw_iast X 40 0 (wd_40 cI cL cZ ad g q (st_u u29 39 (x29).toNatClampNeg a1) o) rfl h.1 (wd_W cI cL cZ ad g q (st_u (st_u u29 39 (x29).toNatClampNeg a1) 40 (x29).toNatClampNeg a2) o) (ws_40 cI cL cZ ad g q (st_u u29 39 (x29).toNatClampNeg a1) o (x29).toNatClampNeg a2) dc_M_pair_46 ?_
    have h := h.2
    refine sw_aload_n X 1 rfl rfl dc_M_pair_47 ?_
    refine sw_iload_n X 0 rfl rfl dc_M_pair_48 ?_
    refine sw_cV_v (n := 1) X hA nw_okA hNs hE (fun u : st_I => wd_W cI cL cZ ad g q u o) [.int x29] 20 (wd_20 cI cL cZ ad g q (st_u (st_u u29 39 (x29).toNatClampNeg a1) 40 (x29).toNatClampNeg a2) o) rfl rfl (ct_M_end l D cI cL cZ ad g q o x29 (st_u (st_u u29 39 (x29).toNatClampNeg a1) 40 (x29).toNatClampNeg a2) _ h) (List.mem_cons_of_mem _ wm_ml_M_186) (List.mem_cons_of_mem _ wm_im_M_end) (List.mem_cons_of_mem _ wm_se_M_end) rfl (wg_in wm_code_M_end) rfl rfl (List.mem_cons_of_mem _ wm_in_M) ⟨by decide, by decide, by decide +kernel⟩ ⟨Nat.le_of_ble_eq_true rfl, Nat.le_of_ble_eq_true rfl⟩ ⟨Nat.zero_le _, Nat.zero_le _⟩ rfl (Nat.le_of_ble_eq_true rfl) dc_M_pair_49 rfl (fun u49 h => ?_)
    exact sw_vret X hr hlk (u := u49) rfl h dc_M_pair_52
  · have h := h.2 z
    refine sw_aload_n X 0 rfl rfl dc_M_pair_9 ?_
    refine sw_iconst (v := 1) X dc_M_pair_10 (by decide) ?_
    refine sw_put (ty := .boolean) X (fun z hz => List.mem_cons_of_mem _ (wf_M z hz)) fy_M fo_M fn_M 20 (wd_20 cI cL cZ ad g q r o) rfl 25 (by decide) (List.mem_cons_of_mem _ wm_fl_M_167) rfl (by decide +kernel) (by decide) (by decide) (Nat.le_of_ble_eq_true rfl) (wd_W cI cL cZ ad g q (st_u r 20 25 (1 : Int32)) o) (ws_20_25 cI cL cZ ad g q r o (1 : Int32)) dc_M_pair_11 ?_
    exact sw_vret X hr hlk (u := (st_u r 20 25 (1 : Int32))) rfl h dc_M_pair_14
def wp_M_combine_L129 (Q : (st_I → Prop)) (r : st_I)  : Prop := Q r
def wp_M_combine_L125 (Q : (st_I → Prop)) (r : st_I)  : Prop := wp_M_fail  r (fun u126 => wp_M_combine_L129 Q u126)
def wp_M_combine_L105 (Q : (st_I → Prop)) (r : st_I) (t0 : Int32) : Prop := wp_M_kindOf t0 r (fun x111 u111 => wp_M_value x111 t0 u111 (fun x116 u116 => wp_M_end x116 u116 (fun u119 => wp_M_combine_L129 Q u119)))
def wp_M_combine_L37 (Q : (st_I → Prop)) (r : st_I) (t0 : Int32) : Prop := wp_M_value t0 (0 : Int32) r (fun x38 u38 => wp_M_end x38 u38 (fun u41 => wp_M_combine_L129 Q u41))
def wp_M_combine (a1 : Int32) (a2 : Int32) (a3 : Int32) (r : st_I) (Q : (st_I → Prop)) : Prop := (¬ a1 = (6 : Int32) → (¬ a1 = (13 : Int32) → vp_in a2 460 ∧ wp_M_isNumber (r 37 (a2).toNatClampNeg) r (fun x53 u53 => (x53 = 0 → wp_M_combine_L125 Q u53) ∧ (¬ x53 = 0 → vp_in a3 460 ∧ wp_M_isNumber (u53 37 (a3).toNatClampNeg) u53 (fun x65 u65 => (x65 = 0 → wp_M_combine_L125 Q u65) ∧ (¬ x65 = 0 → (¬ a1 = (4 : Int32) → vp_in a2 460 ∧ vp_in a3 460 ∧ wp_M_combine_L105 Q u65 ((u65 38 (a2).toNatClampNeg) - (u65 38 (a3).toNatClampNeg))) ∧ (a1 = (4 : Int32) → vp_in a2 460 ∧ vp_in a3 460 ∧ wp_M_combine_L105 Q u65 ((u65 38 (a2).toNatClampNeg) + (u65 38 (a3).toNatClampNeg)))))))) ∧ (a1 = (13 : Int32) → wp_M_same a2 a3 r (fun x26 u26 => (x26 = 0 → wp_M_combine_L37 Q u26 (0 : Int32)) ∧ (¬ x26 = 0 → wp_M_combine_L37 Q u26 (1 : Int32))))) ∧ (a1 = (6 : Int32) → wp_M_pair a2 a3 r (fun u9 => wp_M_combine_L129 Q u9))
set_option maxHeartbeats 4000000 in
set_option maxRecDepth 100000 in
theorem ct_M_combine (l : Launch) (D : va_G) (cI cL cZ : ClassId) (ad : Nat → Nat) (g : st_I) (q : st_L) (o : st_L) (a1 : Int32) (a2 : Int32) (a3 : Int32) (r : st_I) (Q : (st_I → Prop)) (h : wp_M_combine a1 a2 a3 r Q) : ∀ sz, Met l yn_M_combine (Cond.code yn_M_combine cd_M_combine 5 none :: wa_A) { frames := 2, cells := 0, slots := 0, locals := 45 } (va_Pc [.ref (ad 20), .int a1, .int a2, .int a3] (wq_S D cl_A (wd_T cI cL cZ) nw_A (wd_W cI cL cZ ad g q r o) sz)) (va_Qv Q (fun u t => wq_E D cl_A (wd_T cI cL cZ) (va_A (wd_W cI cL cZ ad g q r o) sz) (wd_W cI cL cZ ad g q u o) t) (va_A (wd_W cI cL cZ ad g q r o) sz)) 0 0 (va_A (wd_W cI cL cZ ad g q r o) sz) := by
  refine sw_met (Qc := fun A => va_Qv Q (fun u t => wq_E D cl_A (wd_T cI cL cZ) A (wd_W cI cL cZ ad g q u o) t) A) (by decide) rfl (Nat.le_of_ble_eq_true rfl) rfl ?_
  intro p e s m args below meth c A X hA hNs hE hr hlk hnm
  have b129 : ∀ (r : st_I), wp_M_combine_L129 Q r → sw_J p l e { frames := 2, cells := 0, slots := 0, locals := 45 } s m args below meth c 0 0 (MQ below (va_Qv Q (fun u t => wq_E D cl_A (wd_T cI cL cZ) A (wd_W cI cL cZ ad g q u o) t) A) args s 0 0 A) D cl_A A 5 (wd_W cI cL cZ ad g q r o) 129 [] [] := by
    intro r h
    exact sw_vret X hr hlk (u := r) rfl h dc_M_combine_129
  have b125 : ∀ (r : st_I), wp_M_combine_L125 Q r → sw_J p l e { frames := 2, cells := 0, slots := 0, locals := 45 } s m args below meth c 0 0 (MQ below (va_Qv Q (fun u t => wq_E D cl_A (wd_T cI cL cZ) A (wd_W cI cL cZ ad g q u o) t) A) args s 0 0 A) D cl_A A 5 (wd_W cI cL cZ ad g q r o) 125 [(0, .ref (ad 20))] [] := by
    intro r h
    refine sw_aload_n X 0 rfl rfl dc_M_combine_125 ?_
    refine sw_cV_v (n := 0) X hA nw_okA hNs hE (fun u : st_I => wd_W cI cL cZ ad g q u o) [] 20 (wd_20 cI cL cZ ad g q r o) rfl rfl (ct_M_fail l D cI cL cZ ad g q o r _ h) (List.mem_cons_of_mem _ wm_ml_M_198) (List.mem_cons_of_mem _ wm_im_M_fail) (List.mem_cons_of_mem _ wm_se_M_fail) rfl (wg_in wm_code_M_fail) rfl rfl (List.mem_cons_of_mem _ wm_in_M) ⟨by decide, by decide, by decide +kernel⟩ ⟨Nat.le_of_ble_eq_true rfl, Nat.le_of_ble_eq_true rfl⟩ ⟨Nat.zero_le _, Nat.zero_le _⟩ rfl (Nat.le_of_ble_eq_true rfl) dc_M_combine_126 rfl (fun u126 h => ?_)
    refine sw_sub [] rfl ?_
    exact b129 u126 h
  have b105 : ∀ (r : st_I) (t0 : Int32), wp_M_combine_L105 Q r t0 → sw_J p l e { frames := 2, cells := 0, slots := 0, locals := 45 } s m args below meth c 0 0 (MQ below (va_Qv Q (fun u t => wq_E D cl_A (wd_T cI cL cZ) A (wd_W cI cL cZ ad g q u o) t) A) args s 0 0 A) D cl_A A 5 (wd_W cI cL cZ ad g q r o) 105 [(0, .ref (ad 20))] [.int t0] := by
    intro r t0 h
    refine sw_istore X [(4, .int t0), (0, .ref (ad 20))] rfl (by decide) dc_M_combine_105 ?_
    refine sw_aload_n X 1 rfl rfl dc_M_combine_107 ?_
    refine sw_aload_n X 1 rfl rfl dc_M_combine_108 ?_
    refine sw_iload X 0 rfl dc_M_combine_109 ?_
    refine sw_cS_i (n := 1) X hA nw_okA hNs hE (fun u : st_I => wd_W cI cL cZ ad g q u o) [.int t0] (ct_M_kindOf l D cI cL cZ ad g q o t0 r _ h) (List.mem_cons_of_mem _ wm_ml_M_122) (List.mem_cons_of_mem _ wm_st_M_kindOf) rfl (wg_in wm_code_M_kindOf) rfl rfl (List.mem_cons_of_mem _ wm_in_M) ⟨by decide, by decide, by decide +kernel⟩ ⟨Nat.le_of_ble_eq_true rfl, Nat.le_of_ble_eq_true rfl⟩ ⟨Nat.zero_le _, Nat.zero_le _⟩ rfl (Nat.le_of_ble_eq_true rfl) dc_M_combine_111 rfl (fun x111 u111 h => ?_)
    refine sw_iload X 0 rfl dc_M_combine_114 ?_
    refine sw_cV_i (n := 2) X hA nw_okA hNs hE (fun u : st_I => wd_W cI cL cZ ad g q u o) [.int x111, .int t0] 20 (wd_20 cI cL cZ ad g q u111 o) rfl rfl (ct_M_value l D cI cL cZ ad g q o x111 t0 u111 _ h) (List.mem_cons_of_mem _ wm_ml_M_183) (List.mem_cons_of_mem _ wm_im_M_value) (List.mem_cons_of_mem _ wm_se_M_value) rfl (wg_in wm_code_M_value) rfl rfl (List.mem_cons_of_mem _ wm_in_M) ⟨by decide, by decide, by decide +kernel⟩ ⟨Nat.le_of_ble_eq_true rfl, Nat.le_of_ble_eq_true rfl⟩ ⟨Nat.zero_le _, Nat.zero_le _⟩ rfl (Nat.le_of_ble_eq_true rfl) dc_M_combine_116 rfl (fun x116 u116 h => ?_)
    refine sw_cV_v (n := 1) X hA nw_okA hNs hE (fun u : st_I => wd_W cI cL cZ ad g q u o) [.int x116] 20 (wd_20 cI cL cZ ad g q u116 o) rfl rfl (ct_M_end l D cI cL cZ ad g q o x116 u116 _ h) (List.mem_cons_of_mem _ wm_ml_M_186) (List.mem_cons_of_mem _ wm_im_M_end) (List.mem_cons_of_mem _ wm_se_M_end) rfl (wg_in wm_code_M_end) rfl rfl (List.mem_cons_of_mem _ wm_in_M) ⟨by decide, by decide, by decide +kernel⟩ ⟨Nat.le_of_ble_eq_true rfl, Nat.le_of_ble_eq_true rfl⟩ ⟨Nat.zero_le _, Nat.zero_le _⟩ rfl (Nat.le_of_ble_eq_true rfl) dc_M_combine_119 rfl (fun u119 h => ?_)
    refine sw_goto (tgt := 129) X dc_M_combine_122 (by decide) ?_
    refine sw_sub [] rfl ?_
    exact b129 u119 h
  have b37 : ∀ (r : st_I) (t0 : Int32), wp_M_combine_L37 Q r t0 → sw_J p l e { frames := 2, cells := 0, slots := 0, locals := 45 } s m args below meth c 0 0 (MQ below (va_Qv Q (fun u t => wq_E D cl_A (wd_T cI cL cZ) A (wd_W cI cL cZ ad g q u o) t) A) args s 0 0 A) D cl_A A 5 (wd_W cI cL cZ ad g q r o) 37 [] [.int t0, .ref (ad 20), .ref (ad 20)] := by
    intro r t0 h
    refine sw_iconst (v := 0) X dc_M_combine_37 (by decide) ?_
    refine sw_cV_i (n := 2) X hA nw_okA hNs hE (fun u : st_I => wd_W cI cL cZ ad g q u o) [.int t0, .int (0 : Int32)] 20 (wd_20 cI cL cZ ad g q r o) rfl rfl (ct_M_value l D cI cL cZ ad g q o t0 (0 : Int32) r _ h) (List.mem_cons_of_mem _ wm_ml_M_183) (List.mem_cons_of_mem _ wm_im_M_value) (List.mem_cons_of_mem _ wm_se_M_value) rfl (wg_in wm_code_M_value) rfl rfl (List.mem_cons_of_mem _ wm_in_M) ⟨by decide, by decide, by decide +kernel⟩ ⟨Nat.le_of_ble_eq_true rfl, Nat.le_of_ble_eq_true rfl⟩ ⟨Nat.zero_le _, Nat.zero_le _⟩ rfl (Nat.le_of_ble_eq_true rfl) dc_M_combine_38 rfl (fun x38 u38 h => ?_)
    refine sw_cV_v (n := 1) X hA nw_okA hNs hE (fun u : st_I => wd_W cI cL cZ ad g q u o) [.int x38] 20 (wd_20 cI cL cZ ad g q u38 o) rfl rfl (ct_M_end l D cI cL cZ ad g q o x38 u38 _ h) (List.mem_cons_of_mem _ wm_ml_M_186) (List.mem_cons_of_mem _ wm_im_M_end) (List.mem_cons_of_mem _ wm_se_M_end) rfl (wg_in wm_code_M_end) rfl rfl (List.mem_cons_of_mem _ wm_in_M) ⟨by decide, by decide, by decide +kernel⟩ ⟨Nat.le_of_ble_eq_true rfl, Nat.le_of_ble_eq_true rfl⟩ ⟨Nat.zero_le _, Nat.zero_le _⟩ rfl (Nat.le_of_ble_eq_true rfl) dc_M_combine_41 rfl (fun u41 h => ?_)
    refine sw_goto (tgt := 129) X dc_M_combine_44 (by decide) ?_
    exact b129 u41 h
  refine sw_iload_n X 1 rfl rfl dc_M_combine_0 ?_
  refine sw_bipush (v := 6) X dc_M_combine_1 (by decide) ?_
  refine sw_icmp_ne (tgt := 15) X dc_M_combine_3 (by decide) (fun z => ?_) (fun z => ?_)
  · have h := h.1 z
    refine sw_iload_n X 1 rfl rfl dc_M_combine_15 ?_
    refine sw_bipush (v := 13) X dc_M_combine_16 (by decide) ?_
    refine sw_icmp_ne (tgt := 47) X dc_M_combine_18 (by decide) (fun z => ?_) (fun z => ?_)
    · have h := h.1 z
      refine sw_aload_n X 0 rfl rfl dc_M_combine_47 ?_
      refine sw_get X (fun z hz => List.mem_cons_of_mem _ (wf_M z hz)) 20 (wd_20 cI cL cZ ad g q r o) rfl 20 (by decide) (List.mem_cons_of_mem _ wm_fl_M_59) rfl dc_M_combine_48 ?_
      refine sw_iload_n X 2 rfl rfl dc_M_combine_51 ?_
      refine sw_iald X 37 0 (wd_37 cI cL cZ ad g q r o) rfl h.1 dc_M_combine_52 ?_
      have h := h.2
      refine sw_cS_i (n := 1) X hA nw_okA hNs hE (fun u : st_I => wd_W cI cL cZ ad g q u o) [.int (r 37 (a2).toNatClampNeg)] (ct_M_isNumber l D cI cL cZ ad g q o (r 37 (a2).toNatClampNeg) r _ h) (List.mem_cons_of_mem _ wm_ml_M_195) (List.mem_cons_of_mem _ wm_st_M_isNumber) rfl (wg_in wm_code_M_isNumber) rfl rfl (List.mem_cons_of_mem _ wm_in_M) ⟨by decide, by decide, by decide +kernel⟩ ⟨Nat.le_of_ble_eq_true rfl, Nat.le_of_ble_eq_true rfl⟩ ⟨Nat.zero_le _, Nat.zero_le _⟩ rfl (Nat.le_of_ble_eq_true rfl) dc_M_combine_53 rfl (fun x53 u53 h => ?_)
      refine sw_if_eq (tgt := 125) X dc_M_combine_56 (by decide) (fun z => ?_) (fun z => ?_)
      · have h := h.1 z
        refine sw_sub [0] rfl ?_
        exact b125 u53 h
      · have h := h.2 z
        refine sw_aload_n X 0 rfl rfl dc_M_combine_59 ?_
        refine sw_get X (fun z hz => List.mem_cons_of_mem _ (wf_M z hz)) 20 (wd_20 cI cL cZ ad g q u53 o) rfl 20 (by decide) (List.mem_cons_of_mem _ wm_fl_M_59) rfl dc_M_combine_60 ?_
        refine sw_iload_n X 3 rfl rfl dc_M_combine_63 ?_
        refine sw_iald X 37 0 (wd_37 cI cL cZ ad g q u53 o) rfl h.1 dc_M_combine_64 ?_
        have h := h.2
        refine sw_cS_i (n := 1) X hA nw_okA hNs hE (fun u : st_I => wd_W cI cL cZ ad g q u o) [.int (u53 37 (a3).toNatClampNeg)] (ct_M_isNumber l D cI cL cZ ad g q o (u53 37 (a3).toNatClampNeg) u53 _ h) (List.mem_cons_of_mem _ wm_ml_M_195) (List.mem_cons_of_mem _ wm_st_M_isNumber) rfl (wg_in wm_code_M_isNumber) rfl rfl (List.mem_cons_of_mem _ wm_in_M) ⟨by decide, by decide, by decide +kernel⟩ ⟨Nat.le_of_ble_eq_true rfl, Nat.le_of_ble_eq_true rfl⟩ ⟨Nat.zero_le _, Nat.zero_le _⟩ rfl (Nat.le_of_ble_eq_true rfl) dc_M_combine_65 rfl (fun x65 u65 h => ?_)
        refine sw_if_eq (tgt := 125) X dc_M_combine_68 (by decide) (fun z => ?_) (fun z => ?_)
        · have h := h.1 z
          refine sw_sub [0] rfl ?_
          exact b125 u65 h
        · have h := h.2 z
          refine sw_iload_n X 1 rfl rfl dc_M_combine_71 ?_
          refine sw_iconst (v := 4) X dc_M_combine_72 (by decide) ?_
          refine sw_icmp_ne (tgt := 92) X dc_M_combine_73 (by decide) (fun z => ?_) (fun z => ?_)
          · have h := h.1 z
            refine sw_aload_n X 0 rfl rfl dc_M_combine_92 ?_
            refine sw_get X (fun z hz => List.mem_cons_of_mem _ (wf_M z hz)) 20 (wd_20 cI cL cZ ad g q u65 o) rfl 21 (by decide) (List.mem_cons_of_mem _ wm_fl_M_62) rfl dc_M_combine_93 ?_
            refine sw_iload_n X 2 rfl rfl dc_M_combine_96 ?_
            refine sw_iald X 38 0 (wd_38 cI cL cZ ad g q u65 o) rfl h.1 dc_M_combine_97 ?_
            have h := h.2
            refine sw_aload_n X 0 rfl rfl dc_M_combine_98 ?_
            refine sw_get X (fun z hz => List.mem_cons_of_mem _ (wf_M z hz)) 20 (wd_20 cI cL cZ ad g q u65 o) rfl 21 (by decide) (List.mem_cons_of_mem _ wm_fl_M_62) rfl dc_M_combine_99 ?_
            refine sw_iload_n X 3 rfl rfl dc_M_combine_102 ?_
            refine sw_iald X 38 0 (wd_38 cI cL cZ ad g q u65 o) rfl h.1 dc_M_combine_103 ?_
            have h := h.2
            refine sw_isub X dc_M_combine_104 ?_
            refine sw_sub [0] rfl ?_
            exact b105 u65 ((u65 38 (a2).toNatClampNeg) - (u65 38 (a3).toNatClampNeg)) h
          · have h := h.2 z
            refine sw_aload_n X 0 rfl rfl dc_M_combine_76 ?_
            refine sw_get X (fun z hz => List.mem_cons_of_mem _ (wf_M z hz)) 20 (wd_20 cI cL cZ ad g q u65 o) rfl 21 (by decide) (List.mem_cons_of_mem _ wm_fl_M_62) rfl dc_M_combine_77 ?_
            refine sw_iload_n X 2 rfl rfl dc_M_combine_80 ?_
            refine sw_iald X 38 0 (wd_38 cI cL cZ ad g q u65 o) rfl h.1 dc_M_combine_81 ?_
            have h := h.2
            refine sw_aload_n X 0 rfl rfl dc_M_combine_82 ?_
            refine sw_get X (fun z hz => List.mem_cons_of_mem _ (wf_M z hz)) 20 (wd_20 cI cL cZ ad g q u65 o) rfl 21 (by decide) (List.mem_cons_of_mem _ wm_fl_M_62) rfl dc_M_combine_83 ?_
            refine sw_iload_n X 3 rfl rfl dc_M_combine_86 ?_
            refine sw_iald X 38 0 (wd_38 cI cL cZ ad g q u65 o) rfl h.1 dc_M_combine_87 ?_
            have h := h.2
            refine sw_iadd X dc_M_combine_88 ?_
            refine sw_goto (tgt := 105) X dc_M_combine_89 (by decide) ?_
            refine sw_sub [0] rfl ?_
            exact b105 u65 ((u65 38 (a2).toNatClampNeg) + (u65 38 (a3).toNatClampNeg)) h
    · have h := h.2 z
      refine sw_aload_n X 0 rfl rfl dc_M_combine_21 ?_
      refine sw_aload_n X 0 rfl rfl dc_M_combine_22 ?_
      refine sw_aload_n X 0 rfl rfl dc_M_combine_23 ?_
      refine sw_iload_n X 2 rfl rfl dc_M_combine_24 ?_
      refine sw_iload_n X 3 rfl rfl dc_M_combine_25 ?_
      refine sw_cV_i (n := 2) X hA nw_okA hNs hE (fun u : st_I => wd_W cI cL cZ ad g q u o) [.int a2, .int a3] 20 (wd_20 cI cL cZ ad g q r o) rfl rfl (ct_M_same l D cI cL cZ ad g q o a2 a3 r _ h) (List.mem_cons_of_mem _ wm_ml_M_192) (List.mem_cons_of_mem _ wm_im_M_same) (List.mem_cons_of_mem _ wm_se_M_same) rfl (wg_in wm_code_M_same) rfl rfl (List.mem_cons_of_mem _ wm_in_M) ⟨by decide, by decide, by decide +kernel⟩ ⟨Nat.le_of_ble_eq_true rfl, Nat.le_of_ble_eq_true rfl⟩ ⟨Nat.zero_le _, Nat.zero_le _⟩ rfl (Nat.le_of_ble_eq_true rfl) dc_M_combine_26 rfl (fun x26 u26 h => ?_)
      refine sw_if_eq (tgt := 36) X dc_M_combine_29 (by decide) (fun z => ?_) (fun z => ?_)
      · have h := h.1 z
        refine sw_iconst (v := 0) X dc_M_combine_36 (by decide) ?_
        refine sw_sub [] rfl ?_
        exact b37 u26 (0 : Int32) h
      · have h := h.2 z
        refine sw_iconst (v := 1) X dc_M_combine_32 (by decide) ?_
        refine sw_goto (tgt := 37) X dc_M_combine_33 (by decide) ?_
        refine sw_sub [] rfl ?_
        exact b37 u26 (1 : Int32) h
  · have h := h.2 z
    refine sw_aload_n X 0 rfl rfl dc_M_combine_6 ?_
    refine sw_iload_n X 2 rfl rfl dc_M_combine_7 ?_
    refine sw_iload_n X 3 rfl rfl dc_M_combine_8 ?_
    refine sw_cV_v (n := 2) X hA nw_okA hNs hE (fun u : st_I => wd_W cI cL cZ ad g q u o) [.int a2, .int a3] 20 (wd_20 cI cL cZ ad g q r o) rfl rfl (ct_M_pair l D cI cL cZ ad g q o a2 a3 r _ h) (List.mem_cons_of_mem _ wm_ml_M_189) (List.mem_cons_of_mem _ wm_im_M_pair) (List.mem_cons_of_mem _ wm_se_M_pair) rfl (wg_in wm_code_M_pair) rfl rfl (List.mem_cons_of_mem _ wm_in_M) ⟨by decide, by decide, by decide +kernel⟩ ⟨Nat.le_of_ble_eq_true rfl, Nat.le_of_ble_eq_true rfl⟩ ⟨Nat.zero_le _, Nat.zero_le _⟩ rfl (Nat.le_of_ble_eq_true rfl) dc_M_combine_9 rfl (fun u9 h => ?_)
    refine sw_goto (tgt := 129) X dc_M_combine_12 (by decide) ?_
    refine sw_sub [] rfl ?_
    exact b129 u9 h
def wp_M_call_L125 (Q : (st_I → Prop)) (r : st_I)  : Prop := Q r
def wp_M_call_L104 (Q : (st_I → Prop)) (r : st_I) (v4 : Int32) (t0 : Int32) (t1 : Int32) : Prop := vp_in t1 256 ∧ vp_in (v4 + (2 : Int32)) 256 ∧ vp_in (v4 + (3 : Int32)) 256 ∧ wp_M_call_L125 Q (st_u (st_u (st_u r 35 (t1).toNatClampNeg t0) 35 ((v4 + (2 : Int32))).toNatClampNeg ((-1) : Int32)) 35 ((v4 + (3 : Int32))).toNatClampNeg ((-1) : Int32))
def wp_M_call (a1 : Int32) (a2 : Int32) (a3 : Int32) (r : st_I) (Q : (st_I → Prop)) : Prop := (¬ (r 20 29) = (5 : Int32) → vp_in a1 6 ∧ (0 ≤ (r 28 (a1).toNatClampNeg) → vp_in a1 6 ∧ wp_M_work (r 28 (a1).toNatClampNeg) (st_u (st_u r 20 30 ((r 20 30) + (1 : Int32))) 20 29 ((r 20 29) + (1 : Int32))) (fun u55 => (¬ (u55 20 25) = 0 → wp_M_call_L125 Q u55) ∧ ((u55 20 25) = 0 → vp_in ((4 : Int32) * ((u55 20 13) - (1 : Int32))) 256 ∧ wp_M_parameters a1 (st_u u55 35 (((4 : Int32) * ((u55 20 13) - (1 : Int32)))).toNatClampNeg a2) (fun x92 u92 => (¬ x92 = (1 : Int32) → wp_M_call_L104 Q u92 ((4 : Int32) * ((u55 20 13) - (1 : Int32))) a3 (((4 : Int32) * ((u55 20 13) - (1 : Int32))) + (1 : Int32))) ∧ (x92 = (1 : Int32) → wp_M_call_L104 Q u92 ((4 : Int32) * ((u55 20 13) - (1 : Int32))) ((-1) : Int32) (((4 : Int32) * ((u55 20 13) - (1 : Int32))) + (1 : Int32))))))) ∧ (¬ 0 ≤ (r 28 (a1).toNatClampNeg) → wp_M_fails  (st_u r 20 30 ((r 20 30) + (1 : Int32))) (fun u34 => Q u34))) ∧ ((r 20 29) = (5 : Int32) → Q (st_u r 20 25 (1 : Int32)))
set_option maxHeartbeats 4000000 in
set_option maxRecDepth 100000 in
theorem ct_M_call (l : Launch) (D : va_G) (cI cL cZ : ClassId) (ad : Nat → Nat) (g : st_I) (q : st_L) (o : st_L) (a1 : Int32) (a2 : Int32) (a3 : Int32) (r : st_I) (Q : (st_I → Prop)) (h : wp_M_call a1 a2 a3 r Q) : ∀ sz, Met l yn_M_call (Cond.code yn_M_call cd_M_call 5 none :: wa_A) { frames := 2, cells := 0, slots := 0, locals := 43 } (va_Pc [.ref (ad 20), .int a1, .int a2, .int a3] (wq_S D cl_A (wd_T cI cL cZ) nw_A (wd_W cI cL cZ ad g q r o) sz)) (va_Qv Q (fun u t => wq_E D cl_A (wd_T cI cL cZ) (va_A (wd_W cI cL cZ ad g q r o) sz) (wd_W cI cL cZ ad g q u o) t) (va_A (wd_W cI cL cZ ad g q r o) sz)) 0 0 (va_A (wd_W cI cL cZ ad g q r o) sz) := by
  refine sw_met (Qc := fun A => va_Qv Q (fun u t => wq_E D cl_A (wd_T cI cL cZ) A (wd_W cI cL cZ ad g q u o) t) A) (by decide) rfl (Nat.le_of_ble_eq_true rfl) rfl ?_
  intro p e s m args below meth c A X hA hNs hE hr hlk hnm
  have b125 : ∀ (r : st_I), wp_M_call_L125 Q r → sw_J p l e { frames := 2, cells := 0, slots := 0, locals := 43 } s m args below meth c 0 0 (MQ below (va_Qv Q (fun u t => wq_E D cl_A (wd_T cI cL cZ) A (wd_W cI cL cZ ad g q u o) t) A) args s 0 0 A) D cl_A A 5 (wd_W cI cL cZ ad g q r o) 125 [] [] := by
    intro r h
    exact sw_vret X hr hlk (u := r) rfl h dc_M_call_125
  have b104 : ∀ (r : st_I) (v4 : Int32) (t0 : Int32) (t1 : Int32), wp_M_call_L104 Q r v4 t0 t1 → sw_J p l e { frames := 2, cells := 0, slots := 0, locals := 43 } s m args below meth c 0 0 (MQ below (va_Qv Q (fun u t => wq_E D cl_A (wd_T cI cL cZ) A (wd_W cI cL cZ ad g q u o) t) A) args s 0 0 A) D cl_A A 5 (wd_W cI cL cZ ad g q r o) 104 [(0, .ref (ad 20)), (4, .int v4)] [.int t0, .int t1, .ref (ad 35)] := by
    intro r v4 t0 t1 h
    refine sw_iast X 35 0 (wd_35 cI cL cZ ad g q r o) rfl h.1 (wd_W cI cL cZ ad g q (st_u r 35 (t1).toNatClampNeg t0) o) (ws_35 cI cL cZ ad g q r o (t1).toNatClampNeg t0) dc_M_call_104 ?_
    have h := h.2
    refine sw_aload_n X 0 rfl rfl dc_M_call_105 ?_
    refine sw_get X (fun z hz => List.mem_cons_of_mem _ (wf_M z hz)) 20 (wd_20 cI cL cZ ad g q (st_u r 35 (t1).toNatClampNeg t0) o) rfl 16 (by decide) (List.mem_cons_of_mem _ wm_fl_M_53) rfl dc_M_call_106 ?_
    refine sw_iload X 1 rfl dc_M_call_109 ?_
    refine sw_iconst (v := 2) X dc_M_call_111 (by decide) ?_
    refine sw_iadd X dc_M_call_112 ?_
    refine sw_iconst (v := -1) X dc_M_call_113 (by decide) ?_
    refine sw_iast X 35 0 (wd_35 cI cL cZ ad g q (st_u r 35 (t1).toNatClampNeg t0) o) rfl h.1 (wd_W cI cL cZ ad g q (st_u (st_u r 35 (t1).toNatClampNeg t0) 35 ((v4 + (2 : Int32))).toNatClampNeg ((-1) : Int32)) o) (ws_35 cI cL cZ ad g q (st_u r 35 (t1).toNatClampNeg t0) o ((v4 + (2 : Int32))).toNatClampNeg ((-1) : Int32)) dc_M_call_114 ?_
    have h := h.2
    refine sw_aload_n X 0 rfl rfl dc_M_call_115 ?_
    refine sw_get X (fun z hz => List.mem_cons_of_mem _ (wf_M z hz)) 20 (wd_20 cI cL cZ ad g q (st_u (st_u r 35 (t1).toNatClampNeg t0) 35 ((v4 + (2 : Int32))).toNatClampNeg ((-1) : Int32)) o) rfl 16 (by decide) (List.mem_cons_of_mem _ wm_fl_M_53) rfl dc_M_call_116 ?_
    refine sw_iload X 1 rfl dc_M_call_119 ?_
    refine sw_iconst (v := 3) X dc_M_call_121 (by decide) ?_
    refine sw_iadd X dc_M_call_122 ?_
    refine sw_iconst (v := -1) X dc_M_call_123 (by decide) ?_
    refine sw_iast X 35 0 (wd_35 cI cL cZ ad g q (st_u (st_u r 35 (t1).toNatClampNeg t0) 35 ((v4 + (2 : Int32))).toNatClampNeg ((-1) : Int32)) o) rfl h.1 (wd_W cI cL cZ ad g q (st_u (st_u (st_u r 35 (t1).toNatClampNeg t0) 35 ((v4 + (2 : Int32))).toNatClampNeg ((-1) : Int32)) 35 ((v4 + (3 : Int32))).toNatClampNeg ((-1) : Int32)) o) (ws_35 cI cL cZ ad g q (st_u (st_u r 35 (t1).toNatClampNeg t0) 35 ((v4 + (2 : Int32))).toNatClampNeg ((-1) : Int32)) o ((v4 + (3 : Int32))).toNatClampNeg ((-1) : Int32)) dc_M_call_124 ?_
    have h := h.2
    refine sw_sub [] rfl ?_
    exact b125 (st_u (st_u (st_u r 35 (t1).toNatClampNeg t0) 35 ((v4 + (2 : Int32))).toNatClampNeg ((-1) : Int32)) 35 ((v4 + (3 : Int32))).toNatClampNeg ((-1) : Int32)) h
  refine sw_aload_n X 0 rfl rfl dc_M_call_0 ?_
  refine sw_get (v := .int (r 20 29)) X (fun z hz => List.mem_cons_of_mem _ (wf_M z hz)) 20 (wd_20 cI cL cZ ad g q r o) rfl 29 (by decide) (List.mem_cons_of_mem _ wm_fl_M_201) rfl dc_M_call_1 ?_
  refine sw_iconst (v := 5) X dc_M_call_4 (by decide) ?_
  refine sw_icmp_ne (tgt := 14) X dc_M_call_5 (by decide) (fun z => ?_) (fun z => ?_)
  · have h := h.1 z
    refine sw_aload_n X 0 rfl rfl dc_M_call_14 ?_
    refine sw_dup X dc_M_call_15 rfl ?_
    refine sw_get (v := .int (r 20 30)) X (fun z hz => List.mem_cons_of_mem _ (wf_M z hz)) 20 (wd_20 cI cL cZ ad g q r o) rfl 30 (by decide) (List.mem_cons_of_mem _ wm_fl_M_204) rfl dc_M_call_16 ?_
    refine sw_iconst (v := 1) X dc_M_call_19 (by decide) ?_
    refine sw_iadd X dc_M_call_20 ?_
    refine sw_put (ty := .int) X (fun z hz => List.mem_cons_of_mem _ (wf_M z hz)) fy_M fo_M fn_M 20 (wd_20 cI cL cZ ad g q r o) rfl 30 (by decide) (List.mem_cons_of_mem _ wm_fl_M_204) rfl (by decide +kernel) rfl rfl (Nat.le_of_ble_eq_true rfl) (wd_W cI cL cZ ad g q (st_u r 20 30 ((r 20 30) + (1 : Int32))) o) (ws_20_30 cI cL cZ ad g q r o ((r 20 30) + (1 : Int32))) dc_M_call_21 ?_
    refine sw_aload_n X 0 rfl rfl dc_M_call_24 ?_
    refine sw_get X (fun z hz => List.mem_cons_of_mem _ (wf_M z hz)) 20 (wd_20 cI cL cZ ad g q (st_u r 20 30 ((r 20 30) + (1 : Int32))) o) rfl 8 (by decide) (List.mem_cons_of_mem _ wm_fl_M_31) rfl dc_M_call_25 ?_
    refine sw_iload_n X 1 rfl rfl dc_M_call_28 ?_
    refine sw_iald X 28 0 (wd_28 cI cL cZ ad g q (st_u r 20 30 ((r 20 30) + (1 : Int32))) o) rfl h.1 dc_M_call_29 ?_
    have h := h.2
    refine sw_eq (st' := [.int (r 28 (a1).toNatClampNeg)]) rfl rfl rfl ?_
    refine sw_if_ge (tgt := 38) X dc_M_call_30 (by decide) (fun z => ?_) (fun z => ?_)
    · have h := h.1 z
      refine sw_aload_n X 0 rfl rfl dc_M_call_38 ?_
      refine sw_dup X dc_M_call_39 rfl ?_
      refine sw_get (v := .int (r 20 29)) X (fun z hz => List.mem_cons_of_mem _ (wf_M z hz)) 20 (wd_20 cI cL cZ ad g q (st_u r 20 30 ((r 20 30) + (1 : Int32))) o) rfl 29 (by decide) (List.mem_cons_of_mem _ wm_fl_M_201) rfl dc_M_call_40 ?_
      refine sw_iconst (v := 1) X dc_M_call_43 (by decide) ?_
      refine sw_iadd X dc_M_call_44 ?_
      refine sw_put (ty := .int) X (fun z hz => List.mem_cons_of_mem _ (wf_M z hz)) fy_M fo_M fn_M 20 (wd_20 cI cL cZ ad g q (st_u r 20 30 ((r 20 30) + (1 : Int32))) o) rfl 29 (by decide) (List.mem_cons_of_mem _ wm_fl_M_201) rfl (by decide +kernel) rfl rfl (Nat.le_of_ble_eq_true rfl) (wd_W cI cL cZ ad g q (st_u (st_u r 20 30 ((r 20 30) + (1 : Int32))) 20 29 ((r 20 29) + (1 : Int32))) o) (ws_20_29 cI cL cZ ad g q (st_u r 20 30 ((r 20 30) + (1 : Int32))) o ((r 20 29) + (1 : Int32))) dc_M_call_45 ?_
      refine sw_aload_n X 0 rfl rfl dc_M_call_48 ?_
      refine sw_aload_n X 0 rfl rfl dc_M_call_49 ?_
      refine sw_get X (fun z hz => List.mem_cons_of_mem _ (wf_M z hz)) 20 (wd_20 cI cL cZ ad g q (st_u (st_u r 20 30 ((r 20 30) + (1 : Int32))) 20 29 ((r 20 29) + (1 : Int32))) o) rfl 8 (by decide) (List.mem_cons_of_mem _ wm_fl_M_31) rfl dc_M_call_50 ?_
      refine sw_iload_n X 1 rfl rfl dc_M_call_53 ?_
      refine sw_iald X 28 0 (wd_28 cI cL cZ ad g q (st_u (st_u r 20 30 ((r 20 30) + (1 : Int32))) 20 29 ((r 20 29) + (1 : Int32))) o) rfl h.1 dc_M_call_54 ?_
      have h := h.2
      refine sw_eq (st' := [.int (r 28 (a1).toNatClampNeg), .ref (ad 20)]) rfl rfl rfl ?_
      refine sw_cV_v (n := 1) X hA nw_okA hNs hE (fun u : st_I => wd_W cI cL cZ ad g q u o) [.int (r 28 (a1).toNatClampNeg)] 20 (wd_20 cI cL cZ ad g q (st_u (st_u r 20 30 ((r 20 30) + (1 : Int32))) 20 29 ((r 20 29) + (1 : Int32))) o) rfl rfl (ct_M_work l D cI cL cZ ad g q o (r 28 (a1).toNatClampNeg) (st_u (st_u r 20 30 ((r 20 30) + (1 : Int32))) 20 29 ((r 20 29) + (1 : Int32))) _ h) (List.mem_cons_of_mem _ wm_ml_M_207) (List.mem_cons_of_mem _ wm_im_M_work) (List.mem_cons_of_mem _ wm_se_M_work) rfl (wg_in wm_code_M_work) rfl rfl (List.mem_cons_of_mem _ wm_in_M) ⟨by decide, by decide, by decide +kernel⟩ ⟨Nat.le_of_ble_eq_true rfl, Nat.le_of_ble_eq_true rfl⟩ ⟨Nat.zero_le _, Nat.zero_le _⟩ rfl (Nat.le_of_ble_eq_true rfl) dc_M_call_55 rfl (fun u55 h => ?_)
      refine sw_aload_n X 0 rfl rfl dc_M_call_58 ?_
      refine sw_get (v := .int (u55 20 25)) X (fun z hz => List.mem_cons_of_mem _ (wf_M z hz)) 20 (wd_20 cI cL cZ ad g q u55 o) rfl 25 (by decide) (List.mem_cons_of_mem _ wm_fl_M_167) rfl dc_M_call_59 ?_
      refine sw_if_ne (tgt := 125) X dc_M_call_62 (by decide) (fun z => ?_) (fun z => ?_)
      · have h := h.1 z
        refine sw_sub [] rfl ?_
        exact b125 u55 h
      · have h := h.2 z
        refine sw_iconst (v := 4) X dc_M_call_65 (by decide) ?_
        refine sw_aload_n X 0 rfl rfl dc_M_call_66 ?_
        refine sw_get (v := .int (u55 20 13)) X (fun z hz => List.mem_cons_of_mem _ (wf_M z hz)) 20 (wd_20 cI cL cZ ad g q u55 o) rfl 13 (by decide) (List.mem_cons_of_mem _ wm_fl_M_111) rfl dc_M_call_67 ?_
        refine sw_iconst (v := 1) X dc_M_call_70 (by decide) ?_
        refine sw_isub X dc_M_call_71 ?_
        refine sw_imul X dc_M_call_72 ?_
        refine sw_istore X [(4, .int ((4 : Int32) * ((u55 20 13) - (1 : Int32)))), (0, .ref (ad 20)), (1, .int a1), (2, .int a2), (3, .int a3)] rfl (by decide) dc_M_call_73 ?_
        refine sw_aload_n X 1 rfl rfl dc_M_call_75 ?_
        refine sw_get X (fun z hz => List.mem_cons_of_mem _ (wf_M z hz)) 20 (wd_20 cI cL cZ ad g q u55 o) rfl 16 (by decide) (List.mem_cons_of_mem _ wm_fl_M_53) rfl dc_M_call_76 ?_
        refine sw_iload X 0 rfl dc_M_call_79 ?_
        refine sw_iload_n X 3 rfl rfl dc_M_call_81 ?_
        refine sw_iast X 35 0 (wd_35 cI cL cZ ad g q u55 o) rfl h.1 (wd_W cI cL cZ ad g q (st_u u55 35 (((4 : Int32) * ((u55 20 13) - (1 : Int32)))).toNatClampNeg a2) o) (ws_35 cI cL cZ ad g q u55 o (((4 : Int32) * ((u55 20 13) - (1 : Int32)))).toNatClampNeg a2) dc_M_call_82 ?_
        have h := h.2
        refine sw_aload_n X 1 rfl rfl dc_M_call_83 ?_
        refine sw_get X (fun z hz => List.mem_cons_of_mem _ (wf_M z hz)) 20 (wd_20 cI cL cZ ad g q (st_u u55 35 (((4 : Int32) * ((u55 20 13) - (1 : Int32)))).toNatClampNeg a2) o) rfl 16 (by decide) (List.mem_cons_of_mem _ wm_fl_M_53) rfl dc_M_call_84 ?_
        refine sw_iload X 0 rfl dc_M_call_87 ?_
        refine sw_iconst (v := 1) X dc_M_call_89 (by decide) ?_
        refine sw_iadd X dc_M_call_90 ?_
        refine sw_iload_n X 2 rfl rfl dc_M_call_91 ?_
        refine sw_cS_i (n := 1) X hA nw_okA hNs hE (fun u : st_I => wd_W cI cL cZ ad g q u o) [.int a1] (ct_M_parameters l D cI cL cZ ad g q o a1 (st_u u55 35 (((4 : Int32) * ((u55 20 13) - (1 : Int32)))).toNatClampNeg a2) _ h) (List.mem_cons_of_mem _ wm_ml_M_91) (List.mem_cons_of_mem _ wm_st_M_parameters) rfl (wg_in wm_code_M_parameters) rfl rfl (List.mem_cons_of_mem _ wm_in_M) ⟨by decide, by decide, by decide +kernel⟩ ⟨Nat.le_of_ble_eq_true rfl, Nat.le_of_ble_eq_true rfl⟩ ⟨Nat.zero_le _, Nat.zero_le _⟩ rfl (Nat.le_of_ble_eq_true rfl) dc_M_call_92 rfl (fun x92 u92 h => ?_)
        refine sw_iconst (v := 1) X dc_M_call_95 (by decide) ?_
        refine sw_icmp_ne (tgt := 103) X dc_M_call_96 (by decide) (fun z => ?_) (fun z => ?_)
        · have h := h.1 z
          refine sw_iload_n X 4 rfl rfl dc_M_call_103 ?_
          refine sw_sub [1, 0] rfl ?_
          exact b104 u92 ((4 : Int32) * ((u55 20 13) - (1 : Int32))) a3 (((4 : Int32) * ((u55 20 13) - (1 : Int32))) + (1 : Int32)) h
        · have h := h.2 z
          refine sw_iconst (v := -1) X dc_M_call_99 (by decide) ?_
          refine sw_goto (tgt := 104) X dc_M_call_100 (by decide) ?_
          refine sw_sub [1, 0] rfl ?_
          exact b104 u92 ((4 : Int32) * ((u55 20 13) - (1 : Int32))) ((-1) : Int32) (((4 : Int32) * ((u55 20 13) - (1 : Int32))) + (1 : Int32)) h
    · have h := h.2 z
      refine sw_aload_n X 0 rfl rfl dc_M_call_33 ?_
      refine sw_cV_v (n := 0) X hA nw_okA hNs hE (fun u : st_I => wd_W cI cL cZ ad g q u o) [] 20 (wd_20 cI cL cZ ad g q (st_u r 20 30 ((r 20 30) + (1 : Int32))) o) rfl rfl (ct_M_fails l D cI cL cZ ad g q o (st_u r 20 30 ((r 20 30) + (1 : Int32))) _ h) (List.mem_cons_of_mem _ wm_ml_M_177) (List.mem_cons_of_mem _ wm_im_M_fails) (List.mem_cons_of_mem _ wm_se_M_fails) rfl (wg_in wm_code_M_fails) rfl rfl (List.mem_cons_of_mem _ wm_in_M) ⟨by decide, by decide, by decide +kernel⟩ ⟨Nat.le_of_ble_eq_true rfl, Nat.le_of_ble_eq_true rfl⟩ ⟨Nat.zero_le _, Nat.zero_le _⟩ rfl (Nat.le_of_ble_eq_true rfl) dc_M_call_34 rfl (fun u34 h => ?_)
      exact sw_vret X hr hlk (u := u34) rfl h dc_M_call_37
  · have h := h.2 z
    refine sw_aload_n X 0 rfl rfl dc_M_call_8 ?_
    refine sw_iconst (v := 1) X dc_M_call_9 (by decide) ?_
    refine sw_put (ty := .boolean) X (fun z hz => List.mem_cons_of_mem _ (wf_M z hz)) fy_M fo_M fn_M 20 (wd_20 cI cL cZ ad g q r o) rfl 25 (by decide) (List.mem_cons_of_mem _ wm_fl_M_167) rfl (by decide +kernel) (by decide) (by decide) (Nat.le_of_ble_eq_true rfl) (wd_W cI cL cZ ad g q (st_u r 20 25 (1 : Int32)) o) (ws_20_25 cI cL cZ ad g q r o (1 : Int32)) dc_M_call_10 ?_
    exact sw_vret X hr hlk (u := (st_u r 20 25 (1 : Int32))) rfl h dc_M_call_13
def wp_M_leafValue_L128 (Q : (st_I → Prop)) (r : st_I)  : Prop := Q r
def wp_M_leafValue_L51 (Q : (st_I → Prop)) (r : st_I) (v1 : Int32) (v3 : Int32) : Prop := (¬ v3 = (1 : Int32) → (¬ v3 = (2 : Int32) → (¬ v3 = (3 : Int32) → wp_M_fail  r (fun u125 => wp_M_leafValue_L128 Q u125)) ∧ (v3 = (3 : Int32) → wp_M_value (7 : Int32) (0 : Int32) r (fun x115 u115 => wp_M_end x115 u115 (fun u118 => wp_M_leafValue_L128 Q u118)))) ∧ (v3 = (2 : Int32) → vp_in v1 90 ∧ wp_M_kindOf (r 22 (v1).toNatClampNeg) r (fun x87 u87 => vp_in v1 90 ∧ wp_M_value x87 (u87 22 (v1).toNatClampNeg) u87 (fun x96 u96 => wp_M_end x96 u96 (fun u99 => wp_M_leafValue_L128 Q u99))))) ∧ (v3 = (1 : Int32) → vp_in v1 90 ∧ wp_M_value (r 22 (v1).toNatClampNeg) (0 : Int32) r (fun x65 u65 => wp_M_end x65 u65 (fun u68 => wp_M_leafValue_L128 Q u68)))
def wp_M_leafValue (a1 : Int32) (a2 : Int32) (r : st_I) (Q : (st_I → Prop)) : Prop := vp_in a1 90 ∧ (¬ (r 21 (a1).toNatClampNeg) = 0 → wp_M_leafValue_L51 Q r a1 (r 21 (a1).toNatClampNeg)) ∧ ((r 21 (a1).toNatClampNeg) = 0 → vp_in a1 90 ∧ vp_in (((4 : Int32) * a2) + (r 22 (a1).toNatClampNeg)) 256 ∧ ((r 35 ((((4 : Int32) * a2) + (r 22 (a1).toNatClampNeg))).toNatClampNeg) < 0 → wp_M_leafValue_L51 Q r a1 (r 21 (a1).toNatClampNeg)) ∧ (¬ (r 35 ((((4 : Int32) * a2) + (r 22 (a1).toNatClampNeg))).toNatClampNeg) < 0 → vp_in a1 90 ∧ vp_in (((4 : Int32) * a2) + (r 22 (a1).toNatClampNeg)) 256 ∧ wp_M_end (r 35 ((((4 : Int32) * a2) + (r 22 (a1).toNatClampNeg))).toNatClampNeg) r (fun u45 => wp_M_leafValue_L128 Q u45)))
set_option maxHeartbeats 4000000 in
set_option maxRecDepth 100000 in
theorem ct_M_leafValue (l : Launch) (D : va_G) (cI cL cZ : ClassId) (ad : Nat → Nat) (g : st_I) (q : st_L) (o : st_L) (a1 : Int32) (a2 : Int32) (r : st_I) (Q : (st_I → Prop)) (h : wp_M_leafValue a1 a2 r Q) : ∀ sz, Met l yn_M_leafValue (Cond.code yn_M_leafValue cd_M_leafValue 4 none :: wa_A) { frames := 2, cells := 0, slots := 0, locals := 40 } (va_Pc [.ref (ad 20), .int a1, .int a2] (wq_S D cl_A (wd_T cI cL cZ) nw_A (wd_W cI cL cZ ad g q r o) sz)) (va_Qv Q (fun u t => wq_E D cl_A (wd_T cI cL cZ) (va_A (wd_W cI cL cZ ad g q r o) sz) (wd_W cI cL cZ ad g q u o) t) (va_A (wd_W cI cL cZ ad g q r o) sz)) 0 0 (va_A (wd_W cI cL cZ ad g q r o) sz) := by
  refine sw_met (Qc := fun A => va_Qv Q (fun u t => wq_E D cl_A (wd_T cI cL cZ) A (wd_W cI cL cZ ad g q u o) t) A) (by decide) rfl (Nat.le_of_ble_eq_true rfl) rfl ?_
  intro p e s m args below meth c A X hA hNs hE hr hlk hnm
  have b128 : ∀ (r : st_I), wp_M_leafValue_L128 Q r → sw_J p l e { frames := 2, cells := 0, slots := 0, locals := 40 } s m args below meth c 0 0 (MQ below (va_Qv Q (fun u t => wq_E D cl_A (wd_T cI cL cZ) A (wd_W cI cL cZ ad g q u o) t) A) args s 0 0 A) D cl_A A 4 (wd_W cI cL cZ ad g q r o) 128 [] [] := by
    intro r h
    exact sw_vret X hr hlk (u := r) rfl h dc_M_leafValue_128
  have b51 : ∀ (r : st_I) (v1 : Int32) (v3 : Int32), wp_M_leafValue_L51 Q r v1 v3 → sw_J p l e { frames := 2, cells := 0, slots := 0, locals := 40 } s m args below meth c 0 0 (MQ below (va_Qv Q (fun u t => wq_E D cl_A (wd_T cI cL cZ) A (wd_W cI cL cZ ad g q u o) t) A) args s 0 0 A) D cl_A A 4 (wd_W cI cL cZ ad g q r o) 51 [(0, .ref (ad 20)), (1, .int v1), (3, .int v3)] [] := by
    intro r v1 v3 h
    refine sw_iload_n X 2 rfl rfl dc_M_leafValue_51 ?_
    refine sw_iconst (v := 1) X dc_M_leafValue_52 (by decide) ?_
    refine sw_icmp_ne (tgt := 74) X dc_M_leafValue_53 (by decide) (fun z => ?_) (fun z => ?_)
    · have h := h.1 z
      refine sw_iload_n X 2 rfl rfl dc_M_leafValue_74 ?_
      refine sw_iconst (v := 2) X dc_M_leafValue_75 (by decide) ?_
      refine sw_icmp_ne (tgt := 105) X dc_M_leafValue_76 (by decide) (fun z => ?_) (fun z => ?_)
      · have h := h.1 z
        refine sw_iload_n X 2 rfl rfl dc_M_leafValue_105 ?_
        refine sw_iconst (v := 3) X dc_M_leafValue_106 (by decide) ?_
        refine sw_icmp_ne (tgt := 124) X dc_M_leafValue_107 (by decide) (fun z => ?_) (fun z => ?_)
        · have h := h.1 z
          refine sw_aload_n X 0 rfl rfl dc_M_leafValue_124 ?_
          refine sw_cV_v (n := 0) X hA nw_okA hNs hE (fun u : st_I => wd_W cI cL cZ ad g q u o) [] 20 (wd_20 cI cL cZ ad g q r o) rfl rfl (ct_M_fail l D cI cL cZ ad g q o r _ h) (List.mem_cons_of_mem _ wm_ml_M_198) (List.mem_cons_of_mem _ wm_im_M_fail) (List.mem_cons_of_mem _ wm_se_M_fail) rfl (wg_in wm_code_M_fail) rfl rfl (List.mem_cons_of_mem _ wm_in_M) ⟨by decide, by decide, by decide +kernel⟩ ⟨Nat.le_of_ble_eq_true rfl, Nat.le_of_ble_eq_true rfl⟩ ⟨Nat.zero_le _, Nat.zero_le _⟩ rfl (Nat.le_of_ble_eq_true rfl) dc_M_leafValue_125 rfl (fun u125 h => ?_)
          refine sw_sub [] rfl ?_
          exact b128 u125 h
        · have h := h.2 z
          refine sw_aload_n X 0 rfl rfl dc_M_leafValue_110 ?_
          refine sw_aload_n X 0 rfl rfl dc_M_leafValue_111 ?_
          refine sw_bipush (v := 7) X dc_M_leafValue_112 (by decide) ?_
          refine sw_iconst (v := 0) X dc_M_leafValue_114 (by decide) ?_
          refine sw_cV_i (n := 2) X hA nw_okA hNs hE (fun u : st_I => wd_W cI cL cZ ad g q u o) [.int (7 : Int32), .int (0 : Int32)] 20 (wd_20 cI cL cZ ad g q r o) rfl rfl (ct_M_value l D cI cL cZ ad g q o (7 : Int32) (0 : Int32) r _ h) (List.mem_cons_of_mem _ wm_ml_M_183) (List.mem_cons_of_mem _ wm_im_M_value) (List.mem_cons_of_mem _ wm_se_M_value) rfl (wg_in wm_code_M_value) rfl rfl (List.mem_cons_of_mem _ wm_in_M) ⟨by decide, by decide, by decide +kernel⟩ ⟨Nat.le_of_ble_eq_true rfl, Nat.le_of_ble_eq_true rfl⟩ ⟨Nat.zero_le _, Nat.zero_le _⟩ rfl (Nat.le_of_ble_eq_true rfl) dc_M_leafValue_115 rfl (fun x115 u115 h => ?_)
          refine sw_cV_v (n := 1) X hA nw_okA hNs hE (fun u : st_I => wd_W cI cL cZ ad g q u o) [.int x115] 20 (wd_20 cI cL cZ ad g q u115 o) rfl rfl (ct_M_end l D cI cL cZ ad g q o x115 u115 _ h) (List.mem_cons_of_mem _ wm_ml_M_186) (List.mem_cons_of_mem _ wm_im_M_end) (List.mem_cons_of_mem _ wm_se_M_end) rfl (wg_in wm_code_M_end) rfl rfl (List.mem_cons_of_mem _ wm_in_M) ⟨by decide, by decide, by decide +kernel⟩ ⟨Nat.le_of_ble_eq_true rfl, Nat.le_of_ble_eq_true rfl⟩ ⟨Nat.zero_le _, Nat.zero_le _⟩ rfl (Nat.le_of_ble_eq_true rfl) dc_M_leafValue_118 rfl (fun u118 h => ?_)
          refine sw_goto (tgt := 128) X dc_M_leafValue_121 (by decide) ?_
          refine sw_sub [] rfl ?_
          exact b128 u118 h
      · have h := h.2 z
        refine sw_aload_n X 0 rfl rfl dc_M_leafValue_79 ?_
        refine sw_aload_n X 0 rfl rfl dc_M_leafValue_80 ?_
        refine sw_aload_n X 0 rfl rfl dc_M_leafValue_81 ?_
        refine sw_get X (fun z hz => List.mem_cons_of_mem _ (wf_M z hz)) 20 (wd_20 cI cL cZ ad g q r o) rfl 2 (by decide) (List.mem_cons_of_mem _ wm_fl_M_13) rfl dc_M_leafValue_82 ?_
        refine sw_iload_n X 1 rfl rfl dc_M_leafValue_85 ?_
        refine sw_iald X 22 0 (wd_22 cI cL cZ ad g q r o) rfl h.1 dc_M_leafValue_86 ?_
        have h := h.2
        refine sw_cS_i (n := 1) X hA nw_okA hNs hE (fun u : st_I => wd_W cI cL cZ ad g q u o) [.int (r 22 (v1).toNatClampNeg)] (ct_M_kindOf l D cI cL cZ ad g q o (r 22 (v1).toNatClampNeg) r _ h) (List.mem_cons_of_mem _ wm_ml_M_122) (List.mem_cons_of_mem _ wm_st_M_kindOf) rfl (wg_in wm_code_M_kindOf) rfl rfl (List.mem_cons_of_mem _ wm_in_M) ⟨by decide, by decide, by decide +kernel⟩ ⟨Nat.le_of_ble_eq_true rfl, Nat.le_of_ble_eq_true rfl⟩ ⟨Nat.zero_le _, Nat.zero_le _⟩ rfl (Nat.le_of_ble_eq_true rfl) dc_M_leafValue_87 rfl (fun x87 u87 h => ?_)
        refine sw_aload_n X 0 rfl rfl dc_M_leafValue_90 ?_
        refine sw_get X (fun z hz => List.mem_cons_of_mem _ (wf_M z hz)) 20 (wd_20 cI cL cZ ad g q u87 o) rfl 2 (by decide) (List.mem_cons_of_mem _ wm_fl_M_13) rfl dc_M_leafValue_91 ?_
        refine sw_iload_n X 1 rfl rfl dc_M_leafValue_94 ?_
        refine sw_iald X 22 0 (wd_22 cI cL cZ ad g q u87 o) rfl h.1 dc_M_leafValue_95 ?_
        have h := h.2
        refine sw_cV_i (n := 2) X hA nw_okA hNs hE (fun u : st_I => wd_W cI cL cZ ad g q u o) [.int x87, .int (u87 22 (v1).toNatClampNeg)] 20 (wd_20 cI cL cZ ad g q u87 o) rfl rfl (ct_M_value l D cI cL cZ ad g q o x87 (u87 22 (v1).toNatClampNeg) u87 _ h) (List.mem_cons_of_mem _ wm_ml_M_183) (List.mem_cons_of_mem _ wm_im_M_value) (List.mem_cons_of_mem _ wm_se_M_value) rfl (wg_in wm_code_M_value) rfl rfl (List.mem_cons_of_mem _ wm_in_M) ⟨by decide, by decide, by decide +kernel⟩ ⟨Nat.le_of_ble_eq_true rfl, Nat.le_of_ble_eq_true rfl⟩ ⟨Nat.zero_le _, Nat.zero_le _⟩ rfl (Nat.le_of_ble_eq_true rfl) dc_M_leafValue_96 rfl (fun x96 u96 h => ?_)
        refine sw_cV_v (n := 1) X hA nw_okA hNs hE (fun u : st_I => wd_W cI cL cZ ad g q u o) [.int x96] 20 (wd_20 cI cL cZ ad g q u96 o) rfl rfl (ct_M_end l D cI cL cZ ad g q o x96 u96 _ h) (List.mem_cons_of_mem _ wm_ml_M_186) (List.mem_cons_of_mem _ wm_im_M_end) (List.mem_cons_of_mem _ wm_se_M_end) rfl (wg_in wm_code_M_end) rfl rfl (List.mem_cons_of_mem _ wm_in_M) ⟨by decide, by decide, by decide +kernel⟩ ⟨Nat.le_of_ble_eq_true rfl, Nat.le_of_ble_eq_true rfl⟩ ⟨Nat.zero_le _, Nat.zero_le _⟩ rfl (Nat.le_of_ble_eq_true rfl) dc_M_leafValue_99 rfl (fun u99 h => ?_)
        refine sw_goto (tgt := 128) X dc_M_leafValue_102 (by decide) ?_
        refine sw_sub [] rfl ?_
        exact b128 u99 h
    · have h := h.2 z
      refine sw_aload_n X 0 rfl rfl dc_M_leafValue_56 ?_
      refine sw_aload_n X 0 rfl rfl dc_M_leafValue_57 ?_
      refine sw_aload_n X 0 rfl rfl dc_M_leafValue_58 ?_
      refine sw_get X (fun z hz => List.mem_cons_of_mem _ (wf_M z hz)) 20 (wd_20 cI cL cZ ad g q r o) rfl 2 (by decide) (List.mem_cons_of_mem _ wm_fl_M_13) rfl dc_M_leafValue_59 ?_
      refine sw_iload_n X 1 rfl rfl dc_M_leafValue_62 ?_
      refine sw_iald X 22 0 (wd_22 cI cL cZ ad g q r o) rfl h.1 dc_M_leafValue_63 ?_
      have h := h.2
      refine sw_iconst (v := 0) X dc_M_leafValue_64 (by decide) ?_
      refine sw_cV_i (n := 2) X hA nw_okA hNs hE (fun u : st_I => wd_W cI cL cZ ad g q u o) [.int (r 22 (v1).toNatClampNeg), .int (0 : Int32)] 20 (wd_20 cI cL cZ ad g q r o) rfl rfl (ct_M_value l D cI cL cZ ad g q o (r 22 (v1).toNatClampNeg) (0 : Int32) r _ h) (List.mem_cons_of_mem _ wm_ml_M_183) (List.mem_cons_of_mem _ wm_im_M_value) (List.mem_cons_of_mem _ wm_se_M_value) rfl (wg_in wm_code_M_value) rfl rfl (List.mem_cons_of_mem _ wm_in_M) ⟨by decide, by decide, by decide +kernel⟩ ⟨Nat.le_of_ble_eq_true rfl, Nat.le_of_ble_eq_true rfl⟩ ⟨Nat.zero_le _, Nat.zero_le _⟩ rfl (Nat.le_of_ble_eq_true rfl) dc_M_leafValue_65 rfl (fun x65 u65 h => ?_)
      refine sw_cV_v (n := 1) X hA nw_okA hNs hE (fun u : st_I => wd_W cI cL cZ ad g q u o) [.int x65] 20 (wd_20 cI cL cZ ad g q u65 o) rfl rfl (ct_M_end l D cI cL cZ ad g q o x65 u65 _ h) (List.mem_cons_of_mem _ wm_ml_M_186) (List.mem_cons_of_mem _ wm_im_M_end) (List.mem_cons_of_mem _ wm_se_M_end) rfl (wg_in wm_code_M_end) rfl rfl (List.mem_cons_of_mem _ wm_in_M) ⟨by decide, by decide, by decide +kernel⟩ ⟨Nat.le_of_ble_eq_true rfl, Nat.le_of_ble_eq_true rfl⟩ ⟨Nat.zero_le _, Nat.zero_le _⟩ rfl (Nat.le_of_ble_eq_true rfl) dc_M_leafValue_68 rfl (fun u68 h => ?_)
      refine sw_goto (tgt := 128) X dc_M_leafValue_71 (by decide) ?_
      refine sw_sub [] rfl ?_
      exact b128 u68 h
  refine sw_aload_n X 0 rfl rfl dc_M_leafValue_0 ?_
  refine sw_get X (fun z hz => List.mem_cons_of_mem _ (wf_M z hz)) 20 (wd_20 cI cL cZ ad g q r o) rfl 1 (by decide) (List.mem_cons_of_mem _ wm_fl_M_7) rfl dc_M_leafValue_1 ?_
  refine sw_iload_n X 1 rfl rfl dc_M_leafValue_4 ?_
  refine sw_iald X 21 0 (wd_21 cI cL cZ ad g q r o) rfl h.1 dc_M_leafValue_5 ?_
  have h := h.2
  refine sw_istore_n X [(3, .int (r 21 (a1).toNatClampNeg)), (0, .ref (ad 20)), (1, .int a1), (2, .int a2)] rfl (by decide) rfl dc_M_leafValue_6 ?_
  refine sw_iload_n X 0 rfl rfl dc_M_leafValue_7 ?_
  refine sw_if_ne (tgt := 51) X dc_M_leafValue_8 (by decide) (fun z => ?_) (fun z => ?_)
  · have h := h.1 z
    refine sw_sub [1, 2, 0] rfl ?_
    exact b51 r a1 (r 21 (a1).toNatClampNeg) h
  · have h := h.2 z
    refine sw_aload_n X 1 rfl rfl dc_M_leafValue_11 ?_
    refine sw_get X (fun z hz => List.mem_cons_of_mem _ (wf_M z hz)) 20 (wd_20 cI cL cZ ad g q r o) rfl 16 (by decide) (List.mem_cons_of_mem _ wm_fl_M_53) rfl dc_M_leafValue_12 ?_
    refine sw_iconst (v := 4) X dc_M_leafValue_15 (by decide) ?_
    refine sw_iload_n X 3 rfl rfl dc_M_leafValue_16 ?_
    refine sw_imul X dc_M_leafValue_17 ?_
    refine sw_aload_n X 1 rfl rfl dc_M_leafValue_18 ?_
    refine sw_get X (fun z hz => List.mem_cons_of_mem _ (wf_M z hz)) 20 (wd_20 cI cL cZ ad g q r o) rfl 2 (by decide) (List.mem_cons_of_mem _ wm_fl_M_13) rfl dc_M_leafValue_19 ?_
    refine sw_iload_n X 2 rfl rfl dc_M_leafValue_22 ?_
    refine sw_iald X 22 0 (wd_22 cI cL cZ ad g q r o) rfl h.1 dc_M_leafValue_23 ?_
    have h := h.2
    refine sw_iadd X dc_M_leafValue_24 ?_
    refine sw_iald X 35 0 (wd_35 cI cL cZ ad g q r o) rfl h.1 dc_M_leafValue_25 ?_
    have h := h.2
    refine sw_if_lt (tgt := 51) X dc_M_leafValue_26 (by decide) (fun z => ?_) (fun z => ?_)
    · have h := h.1 z
      refine sw_sub [1, 2, 0] rfl ?_
      exact b51 r a1 (r 21 (a1).toNatClampNeg) h
    · have h := h.2 z
      refine sw_aload_n X 1 rfl rfl dc_M_leafValue_29 ?_
      refine sw_aload_n X 1 rfl rfl dc_M_leafValue_30 ?_
      refine sw_get X (fun z hz => List.mem_cons_of_mem _ (wf_M z hz)) 20 (wd_20 cI cL cZ ad g q r o) rfl 16 (by decide) (List.mem_cons_of_mem _ wm_fl_M_53) rfl dc_M_leafValue_31 ?_
      refine sw_iconst (v := 4) X dc_M_leafValue_34 (by decide) ?_
      refine sw_iload_n X 3 rfl rfl dc_M_leafValue_35 ?_
      refine sw_imul X dc_M_leafValue_36 ?_
      refine sw_aload_n X 1 rfl rfl dc_M_leafValue_37 ?_
      refine sw_get X (fun z hz => List.mem_cons_of_mem _ (wf_M z hz)) 20 (wd_20 cI cL cZ ad g q r o) rfl 2 (by decide) (List.mem_cons_of_mem _ wm_fl_M_13) rfl dc_M_leafValue_38 ?_
      refine sw_iload_n X 2 rfl rfl dc_M_leafValue_41 ?_
      refine sw_iald X 22 0 (wd_22 cI cL cZ ad g q r o) rfl h.1 dc_M_leafValue_42 ?_
      have h := h.2
      refine sw_iadd X dc_M_leafValue_43 ?_
      refine sw_iald X 35 0 (wd_35 cI cL cZ ad g q r o) rfl h.1 dc_M_leafValue_44 ?_
      have h := h.2
      refine sw_cV_v (n := 1) X hA nw_okA hNs hE (fun u : st_I => wd_W cI cL cZ ad g q u o) [.int (r 35 ((((4 : Int32) * a2) + (r 22 (a1).toNatClampNeg))).toNatClampNeg)] 20 (wd_20 cI cL cZ ad g q r o) rfl rfl (ct_M_end l D cI cL cZ ad g q o (r 35 ((((4 : Int32) * a2) + (r 22 (a1).toNatClampNeg))).toNatClampNeg) r _ h) (List.mem_cons_of_mem _ wm_ml_M_186) (List.mem_cons_of_mem _ wm_im_M_end) (List.mem_cons_of_mem _ wm_se_M_end) rfl (wg_in wm_code_M_end) rfl rfl (List.mem_cons_of_mem _ wm_in_M) ⟨by decide, by decide, by decide +kernel⟩ ⟨Nat.le_of_ble_eq_true rfl, Nat.le_of_ble_eq_true rfl⟩ ⟨Nat.zero_le _, Nat.zero_le _⟩ rfl (Nat.le_of_ble_eq_true rfl) dc_M_leafValue_45 rfl (fun u45 h => ?_)
      refine sw_goto (tgt := 128) X dc_M_leafValue_48 (by decide) ?_
      refine sw_sub [] rfl ?_
      exact b128 u45 h
def wp_M_callOn_L118 (Q : (st_I → Prop)) (r : st_I)  : Prop := Q r
def wp_M_callOn_L100 (Q : (st_I → Prop)) (r : st_I)  : Prop := wp_M_end (r 20 18) (st_u r 20 29 ((r 20 29) - (1 : Int32))) (fun u115 => wp_M_callOn_L118 Q u115)
def wp_M_callOn_L35 (Q : (st_I → Prop)) (r : st_I) (v2 : Int32) (v3 : Int32) (v4 : Int32) : Prop := ((2 : Int32) < v3 → wp_M_callOn_L100 Q r) ∧ (¬ (2 : Int32) < v3 → wp_M_parameters v4 r (fun x43 u43 => (¬ v3 = x43 → wp_M_callOn_L100 Q u43) ∧ (v3 = x43 → vp_in v2 64 ∧ vp_in ((2 : Int32) * v2) 128 ∧ vp_in (((2 : Int32) * v2) + (1 : Int32)) 128 ∧ wp_M_call v4 (u43 36 (((2 : Int32) * v2)).toNatClampNeg) (u43 36 ((((2 : Int32) * v2) + (1 : Int32))).toNatClampNeg) (st_u u43 34 (v2).toNatClampNeg (4 : Int32)) (fun u77 => ((u77 20 24) = 0 → wp_M_callOn_L118 Q u77) ∧ (¬ (u77 20 24) = 0 → wp_M_callOn_L118 Q (st_u u77 20 13 ((u77 20 13) - (1 : Int32))))))))
def wp_M_callOn (a1 : Int32) (a2 : Int32) (a3 : Int32) (r : st_I) (Q : (st_I → Prop)) : Prop := vp_in a1 90 ∧ (¬ a3 = (1 : Int32) → wp_M_callOn_L35 Q r a2 a3 (r 22 (a1).toNatClampNeg)) ∧ (a3 = (1 : Int32) → wp_M_parameters (r 22 (a1).toNatClampNeg) r (fun x15 u15 => (¬ x15 = (2 : Int32) → wp_M_callOn_L35 Q u15 a2 a3 (r 22 (a1).toNatClampNeg)) ∧ (x15 = (2 : Int32) → vp_in a1 90 ∧ wp_M_work (u15 24 (a1).toNatClampNeg) u15 (fun u29 => wp_M_callOn_L118 Q u29))))
set_option maxHeartbeats 4000000 in
set_option maxRecDepth 100000 in
theorem ct_M_callOn (l : Launch) (D : va_G) (cI cL cZ : ClassId) (ad : Nat → Nat) (g : st_I) (q : st_L) (o : st_L) (a1 : Int32) (a2 : Int32) (a3 : Int32) (r : st_I) (Q : (st_I → Prop)) (h : wp_M_callOn a1 a2 a3 r Q) : ∀ sz, Met l yn_M_callOn (Cond.code yn_M_callOn cd_M_callOn 5 none :: wa_A) { frames := 3, cells := 0, slots := 0, locals := 67 } (va_Pc [.ref (ad 20), .int a1, .int a2, .int a3] (wq_S D cl_A (wd_T cI cL cZ) nw_A (wd_W cI cL cZ ad g q r o) sz)) (va_Qv Q (fun u t => wq_E D cl_A (wd_T cI cL cZ) (va_A (wd_W cI cL cZ ad g q r o) sz) (wd_W cI cL cZ ad g q u o) t) (va_A (wd_W cI cL cZ ad g q r o) sz)) 0 0 (va_A (wd_W cI cL cZ ad g q r o) sz) := by
  refine sw_met (Qc := fun A => va_Qv Q (fun u t => wq_E D cl_A (wd_T cI cL cZ) A (wd_W cI cL cZ ad g q u o) t) A) (by decide) rfl (Nat.le_of_ble_eq_true rfl) rfl ?_
  intro p e s m args below meth c A X hA hNs hE hr hlk hnm
  have b118 : ∀ (r : st_I), wp_M_callOn_L118 Q r → sw_J p l e { frames := 3, cells := 0, slots := 0, locals := 67 } s m args below meth c 0 0 (MQ below (va_Qv Q (fun u t => wq_E D cl_A (wd_T cI cL cZ) A (wd_W cI cL cZ ad g q u o) t) A) args s 0 0 A) D cl_A A 5 (wd_W cI cL cZ ad g q r o) 118 [] [] := by
    intro r h
    exact sw_vret X hr hlk (u := r) rfl h dc_M_callOn_118
  have b100 : ∀ (r : st_I), wp_M_callOn_L100 Q r → sw_J p l e { frames := 3, cells := 0, slots := 0, locals := 67 } s m args below meth c 0 0 (MQ below (va_Qv Q (fun u t => wq_E D cl_A (wd_T cI cL cZ) A (wd_W cI cL cZ ad g q u o) t) A) args s 0 0 A) D cl_A A 5 (wd_W cI cL cZ ad g q r o) 100 [(0, .ref (ad 20))] [] := by
    intro r h
    refine sw_aload_n X 0 rfl rfl dc_M_callOn_100 ?_
    refine sw_dup X dc_M_callOn_101 rfl ?_
    refine sw_get (v := .int (r 20 29)) X (fun z hz => List.mem_cons_of_mem _ (wf_M z hz)) 20 (wd_20 cI cL cZ ad g q r o) rfl 29 (by decide) (List.mem_cons_of_mem _ wm_fl_M_201) rfl dc_M_callOn_102 ?_
    refine sw_iconst (v := 1) X dc_M_callOn_105 (by decide) ?_
    refine sw_isub X dc_M_callOn_106 ?_
    refine sw_put (ty := .int) X (fun z hz => List.mem_cons_of_mem _ (wf_M z hz)) fy_M fo_M fn_M 20 (wd_20 cI cL cZ ad g q r o) rfl 29 (by decide) (List.mem_cons_of_mem _ wm_fl_M_201) rfl (by decide +kernel) rfl rfl (Nat.le_of_ble_eq_true rfl) (wd_W cI cL cZ ad g q (st_u r 20 29 ((r 20 29) - (1 : Int32))) o) (ws_20_29 cI cL cZ ad g q r o ((r 20 29) - (1 : Int32))) dc_M_callOn_107 ?_
    refine sw_aload_n X 0 rfl rfl dc_M_callOn_110 ?_
    refine sw_aload_n X 0 rfl rfl dc_M_callOn_111 ?_
    refine sw_get (v := .int (r 20 18)) X (fun z hz => List.mem_cons_of_mem _ (wf_M z hz)) 20 (wd_20 cI cL cZ ad g q (st_u r 20 29 ((r 20 29) - (1 : Int32))) o) rfl 18 (by decide) (List.mem_cons_of_mem _ wm_fl_M_125) rfl dc_M_callOn_112 ?_
    refine sw_cV_v (n := 1) X hA nw_okA hNs hE (fun u : st_I => wd_W cI cL cZ ad g q u o) [.int (r 20 18)] 20 (wd_20 cI cL cZ ad g q (st_u r 20 29 ((r 20 29) - (1 : Int32))) o) rfl rfl (ct_M_end l D cI cL cZ ad g q o (r 20 18) (st_u r 20 29 ((r 20 29) - (1 : Int32))) _ h) (List.mem_cons_of_mem _ wm_ml_M_186) (List.mem_cons_of_mem _ wm_im_M_end) (List.mem_cons_of_mem _ wm_se_M_end) rfl (wg_in wm_code_M_end) rfl rfl (List.mem_cons_of_mem _ wm_in_M) ⟨by decide, by decide, by decide +kernel⟩ ⟨Nat.le_of_ble_eq_true rfl, Nat.le_of_ble_eq_true rfl⟩ ⟨Nat.zero_le _, Nat.zero_le _⟩ rfl (Nat.le_of_ble_eq_true rfl) dc_M_callOn_115 rfl (fun u115 h => ?_)
    refine sw_sub [] rfl ?_
    exact b118 u115 h
  have b35 : ∀ (r : st_I) (v2 : Int32) (v3 : Int32) (v4 : Int32), wp_M_callOn_L35 Q r v2 v3 v4 → sw_J p l e { frames := 3, cells := 0, slots := 0, locals := 67 } s m args below meth c 0 0 (MQ below (va_Qv Q (fun u t => wq_E D cl_A (wd_T cI cL cZ) A (wd_W cI cL cZ ad g q u o) t) A) args s 0 0 A) D cl_A A 5 (wd_W cI cL cZ ad g q r o) 35 [(0, .ref (ad 20)), (2, .int v2), (3, .int v3), (4, .int v4)] [] := by
    intro r v2 v3 v4 h
    refine sw_iload_n X 2 rfl rfl dc_M_callOn_35 ?_
    refine sw_iconst (v := 2) X dc_M_callOn_36 (by decide) ?_
    refine sw_icmp_gt (tgt := 100) X dc_M_callOn_37 (by decide) (fun z => ?_) (fun z => ?_)
    · have h := h.1 z
      refine sw_sub [0] rfl ?_
      exact b100 r h
    · have h := h.2 z
      refine sw_iload_n X 2 rfl rfl dc_M_callOn_40 ?_
      refine sw_iload X 3 rfl dc_M_callOn_41 ?_
      refine sw_cS_i (n := 1) X hA nw_okA hNs hE (fun u : st_I => wd_W cI cL cZ ad g q u o) [.int v4] (ct_M_parameters l D cI cL cZ ad g q o v4 r _ h) (List.mem_cons_of_mem _ wm_ml_M_91) (List.mem_cons_of_mem _ wm_st_M_parameters) rfl (wg_in wm_code_M_parameters) rfl rfl (List.mem_cons_of_mem _ wm_in_M) ⟨by decide, by decide, by decide +kernel⟩ ⟨Nat.le_of_ble_eq_true rfl, Nat.le_of_ble_eq_true rfl⟩ ⟨Nat.zero_le _, Nat.zero_le _⟩ rfl (Nat.le_of_ble_eq_true rfl) dc_M_callOn_43 rfl (fun x43 u43 h => ?_)
      refine sw_icmp_ne (tgt := 100) X dc_M_callOn_46 (by decide) (fun z => ?_) (fun z => ?_)
      · have h := h.1 z
        refine sw_sub [0] rfl ?_
        exact b100 u43 h
      · have h := h.2 z
        refine sw_aload_n X 0 rfl rfl dc_M_callOn_49 ?_
        refine sw_get X (fun z hz => List.mem_cons_of_mem _ (wf_M z hz)) 20 (wd_20 cI cL cZ ad g q u43 o) rfl 15 (by decide) (List.mem_cons_of_mem _ wm_fl_M_50) rfl dc_M_callOn_50 ?_
        refine sw_iload_n X 1 rfl rfl dc_M_callOn_53 ?_
        refine sw_iconst (v := 4) X dc_M_callOn_54 (by decide) ?_
        refine sw_iast X 34 0 (wd_34 cI cL cZ ad g q u43 o) rfl h.1 (wd_W cI cL cZ ad g q (st_u u43 34 (v2).toNatClampNeg (4 : Int32)) o) (ws_34 cI cL cZ ad g q u43 o (v2).toNatClampNeg (4 : Int32)) dc_M_callOn_55 ?_
        have h := h.2
        refine sw_aload_n X 0 rfl rfl dc_M_callOn_56 ?_
        refine sw_iload X 3 rfl dc_M_callOn_57 ?_
        refine sw_aload_n X 0 rfl rfl dc_M_callOn_59 ?_
        refine sw_get X (fun z hz => List.mem_cons_of_mem _ (wf_M z hz)) 20 (wd_20 cI cL cZ ad g q (st_u u43 34 (v2).toNatClampNeg (4 : Int32)) o) rfl 17 (by decide) (List.mem_cons_of_mem _ wm_fl_M_56) rfl dc_M_callOn_60 ?_
        refine sw_iconst (v := 2) X dc_M_callOn_63 (by decide) ?_
        refine sw_iload_n X 1 rfl rfl dc_M_callOn_64 ?_
        refine sw_imul X dc_M_callOn_65 ?_
        refine sw_iald X 36 0 (wd_36 cI cL cZ ad g q (st_u u43 34 (v2).toNatClampNeg (4 : Int32)) o) rfl h.1 dc_M_callOn_66 ?_
        have h := h.2
        refine sw_eq (st' := [.int (u43 36 (((2 : Int32) * v2)).toNatClampNeg), .int v4, .ref (ad 20)]) rfl rfl rfl ?_
        refine sw_aload_n X 0 rfl rfl dc_M_callOn_67 ?_
        refine sw_get X (fun z hz => List.mem_cons_of_mem _ (wf_M z hz)) 20 (wd_20 cI cL cZ ad g q (st_u u43 34 (v2).toNatClampNeg (4 : Int32)) o) rfl 17 (by decide) (List.mem_cons_of_mem _ wm_fl_M_56) rfl dc_M_callOn_68 ?_
        refine sw_iconst (v := 2) X dc_M_callOn_71 (by decide) ?_
        refine sw_iload_n X 1 rfl rfl dc_M_callOn_72 ?_
        refine sw_imul X dc_M_callOn_73 ?_
        refine sw_iconst (v := 1) X dc_M_callOn_74 (by decide) ?_
        refine sw_iadd X dc_M_callOn_75 ?_
        refine sw_iald X 36 0 (wd_36 cI cL cZ ad g q (st_u u43 34 (v2).toNatClampNeg (4 : Int32)) o) rfl h.1 dc_M_callOn_76 ?_
        have h := h.2
        refine sw_eq (st' := [.int (u43 36 ((((2 : Int32) * v2) + (1 : Int32))).toNatClampNeg), .int (u43 36 (((2 : Int32) * v2)).toNatClampNeg), .int v4, .ref (ad 20)]) rfl rfl rfl ?_
        refine sw_cV_v (n := 3) X hA nw_okA hNs hE (fun u : st_I => wd_W cI cL cZ ad g q u o) [.int v4, .int (u43 36 (((2 : Int32) * v2)).toNatClampNeg), .int (u43 36 ((((2 : Int32) * v2) + (1 : Int32))).toNatClampNeg)] 20 (wd_20 cI cL cZ ad g q (st_u u43 34 (v2).toNatClampNeg (4 : Int32)) o) rfl rfl (ct_M_call l D cI cL cZ ad g q o v4 (u43 36 (((2 : Int32) * v2)).toNatClampNeg) (u43 36 ((((2 : Int32) * v2) + (1 : Int32))).toNatClampNeg) (st_u u43 34 (v2).toNatClampNeg (4 : Int32)) _ h) (List.mem_cons_of_mem _ wm_ml_M_210) (List.mem_cons_of_mem _ wm_im_M_call) (List.mem_cons_of_mem _ wm_se_M_call) rfl (wg_in wm_code_M_call) rfl rfl (List.mem_cons_of_mem _ wm_in_M) ⟨by decide, by decide, by decide +kernel⟩ ⟨Nat.le_of_ble_eq_true rfl, Nat.le_of_ble_eq_true rfl⟩ ⟨Nat.zero_le _, Nat.zero_le _⟩ rfl (Nat.le_of_ble_eq_true rfl) dc_M_callOn_77 rfl (fun u77 h => ?_)
        refine sw_aload_n X 0 rfl rfl dc_M_callOn_80 ?_
        refine sw_get (v := .int (u77 20 24)) X (fun z hz => List.mem_cons_of_mem _ (wf_M z hz)) 20 (wd_20 cI cL cZ ad g q u77 o) rfl 24 (by decide) (List.mem_cons_of_mem _ wm_fl_M_174) rfl dc_M_callOn_81 ?_
        refine sw_if_eq (tgt := 118) X dc_M_callOn_84 (by decide) (fun z => ?_) (fun z => ?_)
        · have h := h.1 z
          refine sw_sub [] rfl ?_
          exact b118 u77 h
        · have h := h.2 z
          refine sw_aload_n X 0 rfl rfl dc_M_callOn_87 ?_
          refine sw_dup X dc_M_callOn_88 rfl ?_
          refine sw_get (v := .int (u77 20 13)) X (fun z hz => List.mem_cons_of_mem _ (wf_M z hz)) 20 (wd_20 cI cL cZ ad g q u77 o) rfl 13 (by decide) (List.mem_cons_of_mem _ wm_fl_M_111) rfl dc_M_callOn_89 ?_
          refine sw_iconst (v := 1) X dc_M_callOn_92 (by decide) ?_
          refine sw_isub X dc_M_callOn_93 ?_
          refine sw_put (ty := .int) X (fun z hz => List.mem_cons_of_mem _ (wf_M z hz)) fy_M fo_M fn_M 20 (wd_20 cI cL cZ ad g q u77 o) rfl 13 (by decide) (List.mem_cons_of_mem _ wm_fl_M_111) rfl (by decide +kernel) rfl rfl (Nat.le_of_ble_eq_true rfl) (wd_W cI cL cZ ad g q (st_u u77 20 13 ((u77 20 13) - (1 : Int32))) o) (ws_20_13 cI cL cZ ad g q u77 o ((u77 20 13) - (1 : Int32))) dc_M_callOn_94 ?_
          refine sw_goto (tgt := 118) X dc_M_callOn_97 (by decide) ?_
          refine sw_sub [] rfl ?_
          exact b118 (st_u u77 20 13 ((u77 20 13) - (1 : Int32))) h
  refine sw_aload_n X 0 rfl rfl dc_M_callOn_0 ?_
  refine sw_get X (fun z hz => List.mem_cons_of_mem _ (wf_M z hz)) 20 (wd_20 cI cL cZ ad g q r o) rfl 2 (by decide) (List.mem_cons_of_mem _ wm_fl_M_13) rfl dc_M_callOn_1 ?_
  refine sw_iload_n X 1 rfl rfl dc_M_callOn_4 ?_
  refine sw_iald X 22 0 (wd_22 cI cL cZ ad g q r o) rfl h.1 dc_M_callOn_5 ?_
  have h := h.2
  refine sw_istore X [(4, .int (r 22 (a1).toNatClampNeg)), (0, .ref (ad 20)), (1, .int a1), (2, .int a2), (3, .int a3)] rfl (by decide) dc_M_callOn_6 ?_
  refine sw_iload_n X 4 rfl rfl dc_M_callOn_8 ?_
  refine sw_iconst (v := 1) X dc_M_callOn_9 (by decide) ?_
  refine sw_icmp_ne (tgt := 35) X dc_M_callOn_10 (by decide) (fun z => ?_) (fun z => ?_)
  · have h := h.1 z
    refine sw_sub [1, 3, 4, 0] rfl ?_
    exact b35 r a2 a3 (r 22 (a1).toNatClampNeg) h
  · have h := h.2 z
    refine sw_iload X 0 rfl dc_M_callOn_13 ?_
    refine sw_cS_i (n := 1) X hA nw_okA hNs hE (fun u : st_I => wd_W cI cL cZ ad g q u o) [.int (r 22 (a1).toNatClampNeg)] (ct_M_parameters l D cI cL cZ ad g q o (r 22 (a1).toNatClampNeg) r _ h) (List.mem_cons_of_mem _ wm_ml_M_91) (List.mem_cons_of_mem _ wm_st_M_parameters) rfl (wg_in wm_code_M_parameters) rfl rfl (List.mem_cons_of_mem _ wm_in_M) ⟨by decide, by decide, by decide +kernel⟩ ⟨Nat.le_of_ble_eq_true rfl, Nat.le_of_ble_eq_true rfl⟩ ⟨Nat.zero_le _, Nat.zero_le _⟩ rfl (Nat.le_of_ble_eq_true rfl) dc_M_callOn_15 rfl (fun x15 u15 h => ?_)
    refine sw_iconst (v := 2) X dc_M_callOn_18 (by decide) ?_
    refine sw_icmp_ne (tgt := 35) X dc_M_callOn_19 (by decide) (fun z => ?_) (fun z => ?_)
    · have h := h.1 z
      refine sw_sub [1, 3, 4, 0] rfl ?_
      exact b35 u15 a2 a3 (r 22 (a1).toNatClampNeg) h
    · have h := h.2 z
      refine sw_aload_n X 1 rfl rfl dc_M_callOn_22 ?_
      refine sw_aload_n X 1 rfl rfl dc_M_callOn_23 ?_
      refine sw_get X (fun z hz => List.mem_cons_of_mem _ (wf_M z hz)) 20 (wd_20 cI cL cZ ad g q u15 o) rfl 4 (by decide) (List.mem_cons_of_mem _ wm_fl_M_19) rfl dc_M_callOn_24 ?_
      refine sw_iload_n X 2 rfl rfl dc_M_callOn_27 ?_
      refine sw_iald X 24 0 (wd_24 cI cL cZ ad g q u15 o) rfl h.1 dc_M_callOn_28 ?_
      have h := h.2
      refine sw_cV_v (n := 1) X hA nw_okA hNs hE (fun u : st_I => wd_W cI cL cZ ad g q u o) [.int (u15 24 (a1).toNatClampNeg)] 20 (wd_20 cI cL cZ ad g q u15 o) rfl rfl (ct_M_work l D cI cL cZ ad g q o (u15 24 (a1).toNatClampNeg) u15 _ h) (List.mem_cons_of_mem _ wm_ml_M_207) (List.mem_cons_of_mem _ wm_im_M_work) (List.mem_cons_of_mem _ wm_se_M_work) rfl (wg_in wm_code_M_work) rfl rfl (List.mem_cons_of_mem _ wm_in_M) ⟨by decide, by decide, by decide +kernel⟩ ⟨Nat.le_of_ble_eq_true rfl, Nat.le_of_ble_eq_true rfl⟩ ⟨Nat.zero_le _, Nat.zero_le _⟩ rfl (Nat.le_of_ble_eq_true rfl) dc_M_callOn_29 rfl (fun u29 h => ?_)
      refine sw_goto (tgt := 118) X dc_M_callOn_32 (by decide) ?_
      refine sw_sub [] rfl ?_
      exact b118 u29 h
def wp_M_workOn_L393 (Q : (st_I → Prop)) (r : st_I)  : Prop := Q r
def wp_M_workOn_L279 (Q : (st_I → Prop)) (r : st_I)  : Prop := wp_M_end (r 20 18) r (fun u284 => wp_M_workOn_L393 Q u284)
def wp_M_workOn_L338 (Q : (st_I → Prop)) (r : st_I) (t0 : Int32) : Prop := wp_M_end t0 r (fun u338 => wp_M_workOn_L393 Q u338)
def wp_M_workOn_L261 (Q : (st_I → Prop)) (r : st_I) (v1 : Int32) (v2 : Int32) (v3 : Int32) (v4 : Int32) (v5 : Int32) : Prop := (v3 = (9 : Int32) → wp_M_workOn_L279 Q r) ∧ (¬ v3 = (9 : Int32) → (v3 = (11 : Int32) → wp_M_workOn_L279 Q r) ∧ (¬ v3 = (11 : Int32) → (¬ v3 = (12 : Int32) → (¬ v5 = (1 : Int32) → (¬ v4 = (1 : Int32) → vp_in ((2 : Int32) * v1) 128 ∧ vp_in (((2 : Int32) * v1) + (1 : Int32)) 128 ∧ wp_M_combine v3 (r 36 (((2 : Int32) * v1)).toNatClampNeg) (r 36 ((((2 : Int32) * v1) + (1 : Int32))).toNatClampNeg) r (fun u390 => wp_M_workOn_L393 Q u390)) ∧ (v4 = (1 : Int32) → vp_in v2 90 ∧ wp_M_work (r 23 (v2).toNatClampNeg) r (fun u364 => wp_M_workOn_L393 Q u364))) ∧ (v5 = (1 : Int32) → vp_in (r 20 18) 460 ∧ (¬ (r 37 ((r 20 18)).toNatClampNeg) = (8 : Int32) → wp_M_fail  r (fun u345 => wp_M_workOn_L393 Q u345)) ∧ ((r 37 ((r 20 18)).toNatClampNeg) = (8 : Int32) → (¬ v3 = (7 : Int32) → vp_in (r 20 18) 460 ∧ wp_M_workOn_L338 Q r (r 40 ((r 20 18)).toNatClampNeg)) ∧ (v3 = (7 : Int32) → vp_in (r 20 18) 460 ∧ wp_M_workOn_L338 Q r (r 39 ((r 20 18)).toNatClampNeg))))) ∧ (v3 = (12 : Int32) → wp_M_workOn_L279 Q r)))
def wp_M_workOn_L201 (Q : (st_I → Prop)) (r : st_I) (v1 : Int32) (v2 : Int32) (v3 : Int32) (v4 : Int32) (v5 : Int32) : Prop := (¬ v3 = (11 : Int32) → wp_M_workOn_L261 Q r v1 v2 v3 v4 v5) ∧ (v3 = (11 : Int32) → (¬ v4 = (1 : Int32) → wp_M_workOn_L261 Q r v1 v2 v3 v4 v5) ∧ (v4 = (1 : Int32) → vp_in v2 90 ∧ wp_M_work (r 24 (v2).toNatClampNeg) r (fun u220 => (¬ (u220 20 25) = 0 → wp_M_workOn_L393 Q u220) ∧ ((u220 20 25) = 0 → vp_in v2 90 ∧ vp_in ((2 : Int32) * v1) 128 ∧ vp_in (((4 : Int32) * ((u220 20 13) - (1 : Int32))) + (u220 22 (v2).toNatClampNeg)) 256 ∧ wp_M_workOn_L393 Q (st_u u220 35 ((((4 : Int32) * ((u220 20 13) - (1 : Int32))) + (u220 22 (v2).toNatClampNeg))).toNatClampNeg (u220 36 (((2 : Int32) * v1)).toNatClampNeg))))))
def wp_M_workOn_L195 (Q : (st_I → Prop)) (r : st_I) (t0 : Int32) : Prop := wp_M_work t0 r (fun u195 => wp_M_workOn_L393 Q u195)
def wp_M_workOn_L122 (Q : (st_I → Prop)) (r : st_I) (t0 : Int32) : Prop := wp_M_work t0 r (fun u122 => wp_M_workOn_L393 Q u122)
def wp_M_workOn_L67 (Q : (st_I → Prop)) (r : st_I) (v1 : Int32) (v2 : Int32) (v3 : Int32) (v4 : Int32) : Prop := vp_in v2 90 ∧ wp_M_partsOf v3 (r 22 (v2).toNatClampNeg) r (fun x74 u74 => (¬ x74 = 0 → (¬ v4 = 0 → (¬ v3 = (10 : Int32) → (¬ v3 = (9 : Int32) → wp_M_workOn_L201 Q u74 v1 v2 v3 v4 x74) ∧ (v3 = (9 : Int32) → (¬ v4 = (1 : Int32) → wp_M_workOn_L201 Q u74 v1 v2 v3 v4 x74) ∧ (v4 = (1 : Int32) → vp_in v2 90 ∧ vp_in (u74 20 18) 460 ∧ (¬ (((u74 23 (v2).toNatClampNeg) >>> ((u74 37 ((u74 20 18)).toNatClampNeg) &&& 31)) &&& (1 : Int32)) = (1 : Int32) → vp_in v2 90 ∧ wp_M_workOn_L195 Q u74 (u74 25 (v2).toNatClampNeg)) ∧ ((((u74 23 (v2).toNatClampNeg) >>> ((u74 37 ((u74 20 18)).toNatClampNeg) &&& 31)) &&& (1 : Int32)) = (1 : Int32) → vp_in v2 90 ∧ wp_M_workOn_L195 Q u74 (u74 24 (v2).toNatClampNeg))))) ∧ (v3 = (10 : Int32) → wp_M_callOn v2 v1 v4 u74 (fun u139 => wp_M_workOn_L393 Q u139))) ∧ (v4 = 0 → (¬ (x74 &&& (1 : Int32)) = (1 : Int32) → vp_in v2 90 ∧ wp_M_workOn_L122 Q u74 (u74 23 (v2).toNatClampNeg)) ∧ ((x74 &&& (1 : Int32)) = (1 : Int32) → vp_in v2 90 ∧ wp_M_workOn_L122 Q u74 (u74 22 (v2).toNatClampNeg)))) ∧ (x74 = 0 → wp_M_leafValue v2 v1 u74 (fun u87 => wp_M_workOn_L393 Q u87)))
def wp_M_workOn  (r : st_I) (Q : (st_I → Prop)) : Prop := vp_in ((r 20 13) - (1 : Int32)) 64 ∧ vp_in (r 33 (((r 20 13) - (1 : Int32))).toNatClampNeg) 90 ∧ vp_in ((r 20 13) - (1 : Int32)) 64 ∧ vp_in ((r 20 13) - (1 : Int32)) 64 ∧ vp_in ((r 20 13) - (1 : Int32)) 64 ∧ ((r 34 (((r 20 13) - (1 : Int32))).toNatClampNeg) ≤ 0 → wp_M_workOn_L67 Q (st_u r 34 (((r 20 13) - (1 : Int32))).toNatClampNeg ((r 34 (((r 20 13) - (1 : Int32))).toNatClampNeg) + (1 : Int32))) ((r 20 13) - (1 : Int32)) (r 33 (((r 20 13) - (1 : Int32))).toNatClampNeg) (r 21 ((r 33 (((r 20 13) - (1 : Int32))).toNatClampNeg)).toNatClampNeg) (r 34 (((r 20 13) - (1 : Int32))).toNatClampNeg)) ∧ (¬ (r 34 (((r 20 13) - (1 : Int32))).toNatClampNeg) ≤ 0 → ((3 : Int32) ≤ (r 34 (((r 20 13) - (1 : Int32))).toNatClampNeg) → wp_M_workOn_L67 Q (st_u r 34 (((r 20 13) - (1 : Int32))).toNatClampNeg ((r 34 (((r 20 13) - (1 : Int32))).toNatClampNeg) + (1 : Int32))) ((r 20 13) - (1 : Int32)) (r 33 (((r 20 13) - (1 : Int32))).toNatClampNeg) (r 21 ((r 33 (((r 20 13) - (1 : Int32))).toNatClampNeg)).toNatClampNeg) (r 34 (((r 20 13) - (1 : Int32))).toNatClampNeg)) ∧ (¬ (3 : Int32) ≤ (r 34 (((r 20 13) - (1 : Int32))).toNatClampNeg) → vp_in ((((2 : Int32) * ((r 20 13) - (1 : Int32))) + (r 34 (((r 20 13) - (1 : Int32))).toNatClampNeg)) - (1 : Int32)) 128 ∧ wp_M_workOn_L67 Q (st_u (st_u r 34 (((r 20 13) - (1 : Int32))).toNatClampNeg ((r 34 (((r 20 13) - (1 : Int32))).toNatClampNeg) + (1 : Int32))) 36 (((((2 : Int32) * ((r 20 13) - (1 : Int32))) + (r 34 (((r 20 13) - (1 : Int32))).toNatClampNeg)) - (1 : Int32))).toNatClampNeg (r 20 18)) ((r 20 13) - (1 : Int32)) (r 33 (((r 20 13) - (1 : Int32))).toNatClampNeg) (r 21 ((r 33 (((r 20 13) - (1 : Int32))).toNatClampNeg)).toNatClampNeg) (r 34 (((r 20 13) - (1 : Int32))).toNatClampNeg)))
set_option maxHeartbeats 4000000 in
set_option maxRecDepth 100000 in
theorem ct_M_workOn (l : Launch) (D : va_G) (cI cL cZ : ClassId) (ad : Nat → Nat) (g : st_I) (q : st_L) (o : st_L)  (r : st_I) (Q : (st_I → Prop)) (h : wp_M_workOn  r Q) : ∀ sz, Met l yn_M_workOn (Cond.code yn_M_workOn cd_M_workOn 6 none :: wa_A) { frames := 4, cells := 0, slots := 0, locals := 91 } (va_Pc [.ref (ad 20)] (wq_S D cl_A (wd_T cI cL cZ) nw_A (wd_W cI cL cZ ad g q r o) sz)) (va_Qv Q (fun u t => wq_E D cl_A (wd_T cI cL cZ) (va_A (wd_W cI cL cZ ad g q r o) sz) (wd_W cI cL cZ ad g q u o) t) (va_A (wd_W cI cL cZ ad g q r o) sz)) 0 0 (va_A (wd_W cI cL cZ ad g q r o) sz) := by
  refine sw_met (Qc := fun A => va_Qv Q (fun u t => wq_E D cl_A (wd_T cI cL cZ) A (wd_W cI cL cZ ad g q u o) t) A) (by decide) rfl (Nat.le_of_ble_eq_true rfl) rfl ?_
  intro p e s m args below meth c A X hA hNs hE hr hlk hnm
  have b393 : ∀ (r : st_I), wp_M_workOn_L393 Q r → sw_J p l e { frames := 4, cells := 0, slots := 0, locals := 91 } s m args below meth c 0 0 (MQ below (va_Qv Q (fun u t => wq_E D cl_A (wd_T cI cL cZ) A (wd_W cI cL cZ ad g q u o) t) A) args s 0 0 A) D cl_A A 6 (wd_W cI cL cZ ad g q r o) 393 [] [] := by
    intro r h
    exact sw_vret X hr hlk (u := r) rfl h dc_M_workOn_393
  have b279 : ∀ (r : st_I), wp_M_workOn_L279 Q r → sw_J p l e { frames := 4, cells := 0, slots := 0, locals := 91 } s m args below meth c 0 0 (MQ below (va_Qv Q (fun u t => wq_E D cl_A (wd_T cI cL cZ) A (wd_W cI cL cZ ad g q u o) t) A) args s 0 0 A) D cl_A A 6 (wd_W cI cL cZ ad g q r o) 279 [(0, .ref (ad 20))] [] := by
    intro r h
    refine sw_aload_n X 0 rfl rfl dc_M_workOn_279 ?_
    refine sw_aload_n X 0 rfl rfl dc_M_workOn_280 ?_
    refine sw_get (v := .int (r 20 18)) X (fun z hz => List.mem_cons_of_mem _ (wf_M z hz)) 20 (wd_20 cI cL cZ ad g q r o) rfl 18 (by decide) (List.mem_cons_of_mem _ wm_fl_M_125) rfl dc_M_workOn_281 ?_
    refine sw_cV_v (n := 1) X hA nw_okA hNs hE (fun u : st_I => wd_W cI cL cZ ad g q u o) [.int (r 20 18)] 20 (wd_20 cI cL cZ ad g q r o) rfl rfl (ct_M_end l D cI cL cZ ad g q o (r 20 18) r _ h) (List.mem_cons_of_mem _ wm_ml_M_186) (List.mem_cons_of_mem _ wm_im_M_end) (List.mem_cons_of_mem _ wm_se_M_end) rfl (wg_in wm_code_M_end) rfl rfl (List.mem_cons_of_mem _ wm_in_M) ⟨by decide, by decide, by decide +kernel⟩ ⟨Nat.le_of_ble_eq_true rfl, Nat.le_of_ble_eq_true rfl⟩ ⟨Nat.zero_le _, Nat.zero_le _⟩ rfl (Nat.le_of_ble_eq_true rfl) dc_M_workOn_284 rfl (fun u284 h => ?_)
    refine sw_goto (tgt := 393) X dc_M_workOn_287 (by decide) ?_
    refine sw_sub [] rfl ?_
    exact b393 u284 h
  have b338 : ∀ (r : st_I) (t0 : Int32), wp_M_workOn_L338 Q r t0 → sw_J p l e { frames := 4, cells := 0, slots := 0, locals := 91 } s m args below meth c 0 0 (MQ below (va_Qv Q (fun u t => wq_E D cl_A (wd_T cI cL cZ) A (wd_W cI cL cZ ad g q u o) t) A) args s 0 0 A) D cl_A A 6 (wd_W cI cL cZ ad g q r o) 338 [] [.int t0, .ref (ad 20)] := by
    intro r t0 h
    refine sw_cV_v (n := 1) X hA nw_okA hNs hE (fun u : st_I => wd_W cI cL cZ ad g q u o) [.int t0] 20 (wd_20 cI cL cZ ad g q r o) rfl rfl (ct_M_end l D cI cL cZ ad g q o t0 r _ h) (List.mem_cons_of_mem _ wm_ml_M_186) (List.mem_cons_of_mem _ wm_im_M_end) (List.mem_cons_of_mem _ wm_se_M_end) rfl (wg_in wm_code_M_end) rfl rfl (List.mem_cons_of_mem _ wm_in_M) ⟨by decide, by decide, by decide +kernel⟩ ⟨Nat.le_of_ble_eq_true rfl, Nat.le_of_ble_eq_true rfl⟩ ⟨Nat.zero_le _, Nat.zero_le _⟩ rfl (Nat.le_of_ble_eq_true rfl) dc_M_workOn_338 rfl (fun u338 h => ?_)
    refine sw_goto (tgt := 393) X dc_M_workOn_341 (by decide) ?_
    exact b393 u338 h
  have b261 : ∀ (r : st_I) (v1 : Int32) (v2 : Int32) (v3 : Int32) (v4 : Int32) (v5 : Int32), wp_M_workOn_L261 Q r v1 v2 v3 v4 v5 → sw_J p l e { frames := 4, cells := 0, slots := 0, locals := 91 } s m args below meth c 0 0 (MQ below (va_Qv Q (fun u t => wq_E D cl_A (wd_T cI cL cZ) A (wd_W cI cL cZ ad g q u o) t) A) args s 0 0 A) D cl_A A 6 (wd_W cI cL cZ ad g q r o) 261 [(0, .ref (ad 20)), (1, .int v1), (2, .int v2), (3, .int v3), (4, .int v4), (5, .int v5)] [] := by
    intro r v1 v2 v3 v4 v5 h
    refine sw_iload_n X 3 rfl rfl dc_M_workOn_261 ?_
    refine sw_bipush (v := 9) X dc_M_workOn_262 (by decide) ?_
    refine sw_icmp_eq (tgt := 279) X dc_M_workOn_264 (by decide) (fun z => ?_) (fun z => ?_)
    · have h := h.1 z
      refine sw_sub [0] rfl ?_
      exact b279 r h
    · have h := h.2 z
      refine sw_iload_n X 3 rfl rfl dc_M_workOn_267 ?_
      refine sw_bipush (v := 11) X dc_M_workOn_268 (by decide) ?_
      refine sw_icmp_eq (tgt := 279) X dc_M_workOn_270 (by decide) (fun z => ?_) (fun z => ?_)
      · have h := h.1 z
        refine sw_sub [0] rfl ?_
        exact b279 r h
      · have h := h.2 z
        refine sw_iload_n X 3 rfl rfl dc_M_workOn_273 ?_
        refine sw_bipush (v := 12) X dc_M_workOn_274 (by decide) ?_
        refine sw_icmp_ne (tgt := 290) X dc_M_workOn_276 (by decide) (fun z => ?_) (fun z => ?_)
        · have h := h.1 z
          refine sw_iload X 5 rfl dc_M_workOn_290 ?_
          refine sw_iconst (v := 1) X dc_M_workOn_292 (by decide) ?_
          refine sw_icmp_ne (tgt := 351) X dc_M_workOn_293 (by decide) (fun z => ?_) (fun z => ?_)
          · have h := h.1 z
            refine sw_iload X 4 rfl dc_M_workOn_351 ?_
            refine sw_iconst (v := 1) X dc_M_workOn_353 (by decide) ?_
            refine sw_icmp_ne (tgt := 370) X dc_M_workOn_354 (by decide) (fun z => ?_) (fun z => ?_)
            · have h := h.1 z
              refine sw_aload_n X 0 rfl rfl dc_M_workOn_370 ?_
              refine sw_iload_n X 3 rfl rfl dc_M_workOn_371 ?_
              refine sw_aload_n X 0 rfl rfl dc_M_workOn_372 ?_
              refine sw_get X (fun z hz => List.mem_cons_of_mem _ (wf_M z hz)) 20 (wd_20 cI cL cZ ad g q r o) rfl 17 (by decide) (List.mem_cons_of_mem _ wm_fl_M_56) rfl dc_M_workOn_373 ?_
              refine sw_iconst (v := 2) X dc_M_workOn_376 (by decide) ?_
              refine sw_iload_n X 1 rfl rfl dc_M_workOn_377 ?_
              refine sw_imul X dc_M_workOn_378 ?_
              refine sw_iald X 36 0 (wd_36 cI cL cZ ad g q r o) rfl h.1 dc_M_workOn_379 ?_
              have h := h.2
              refine sw_aload_n X 0 rfl rfl dc_M_workOn_380 ?_
              refine sw_get X (fun z hz => List.mem_cons_of_mem _ (wf_M z hz)) 20 (wd_20 cI cL cZ ad g q r o) rfl 17 (by decide) (List.mem_cons_of_mem _ wm_fl_M_56) rfl dc_M_workOn_381 ?_
              refine sw_iconst (v := 2) X dc_M_workOn_384 (by decide) ?_
              refine sw_iload_n X 1 rfl rfl dc_M_workOn_385 ?_
              refine sw_imul X dc_M_workOn_386 ?_
              refine sw_iconst (v := 1) X dc_M_workOn_387 (by decide) ?_
              refine sw_iadd X dc_M_workOn_388 ?_
              refine sw_iald X 36 0 (wd_36 cI cL cZ ad g q r o) rfl h.1 dc_M_workOn_389 ?_
              have h := h.2
              refine sw_cV_v (n := 3) X hA nw_okA hNs hE (fun u : st_I => wd_W cI cL cZ ad g q u o) [.int v3, .int (r 36 (((2 : Int32) * v1)).toNatClampNeg), .int (r 36 ((((2 : Int32) * v1) + (1 : Int32))).toNatClampNeg)] 20 (wd_20 cI cL cZ ad g q r o) rfl rfl (ct_M_combine l D cI cL cZ ad g q o v3 (r 36 (((2 : Int32) * v1)).toNatClampNeg) (r 36 ((((2 : Int32) * v1) + (1 : Int32))).toNatClampNeg) r _ h) (List.mem_cons_of_mem _ wm_ml_M_220) (List.mem_cons_of_mem _ wm_im_M_combine) (List.mem_cons_of_mem _ wm_se_M_combine) rfl (wg_in wm_code_M_combine) rfl rfl (List.mem_cons_of_mem _ wm_in_M) ⟨by decide, by decide, by decide +kernel⟩ ⟨Nat.le_of_ble_eq_true rfl, Nat.le_of_ble_eq_true rfl⟩ ⟨Nat.zero_le _, Nat.zero_le _⟩ rfl (Nat.le_of_ble_eq_true rfl) dc_M_workOn_390 rfl (fun u390 h => ?_)
              refine sw_sub [] rfl ?_
              exact b393 u390 h
            · have h := h.2 z
              refine sw_aload_n X 0 rfl rfl dc_M_workOn_357 ?_
              refine sw_aload_n X 0 rfl rfl dc_M_workOn_358 ?_
              refine sw_get X (fun z hz => List.mem_cons_of_mem _ (wf_M z hz)) 20 (wd_20 cI cL cZ ad g q r o) rfl 3 (by decide) (List.mem_cons_of_mem _ wm_fl_M_16) rfl dc_M_workOn_359 ?_
              refine sw_iload_n X 2 rfl rfl dc_M_workOn_362 ?_
              refine sw_iald X 23 0 (wd_23 cI cL cZ ad g q r o) rfl h.1 dc_M_workOn_363 ?_
              have h := h.2
              refine sw_cV_v (n := 1) X hA nw_okA hNs hE (fun u : st_I => wd_W cI cL cZ ad g q u o) [.int (r 23 (v2).toNatClampNeg)] 20 (wd_20 cI cL cZ ad g q r o) rfl rfl (ct_M_work l D cI cL cZ ad g q o (r 23 (v2).toNatClampNeg) r _ h) (List.mem_cons_of_mem _ wm_ml_M_207) (List.mem_cons_of_mem _ wm_im_M_work) (List.mem_cons_of_mem _ wm_se_M_work) rfl (wg_in wm_code_M_work) rfl rfl (List.mem_cons_of_mem _ wm_in_M) ⟨by decide, by decide, by decide +kernel⟩ ⟨Nat.le_of_ble_eq_true rfl, Nat.le_of_ble_eq_true rfl⟩ ⟨Nat.zero_le _, Nat.zero_le _⟩ rfl (Nat.le_of_ble_eq_true rfl) dc_M_workOn_364 rfl (fun u364 h => ?_)
              refine sw_goto (tgt := 393) X dc_M_workOn_367 (by decide) ?_
              refine sw_sub [] rfl ?_
              exact b393 u364 h
          · have h := h.2 z
            refine sw_aload_n X 0 rfl rfl dc_M_workOn_296 ?_
            refine sw_get X (fun z hz => List.mem_cons_of_mem _ (wf_M z hz)) 20 (wd_20 cI cL cZ ad g q r o) rfl 20 (by decide) (List.mem_cons_of_mem _ wm_fl_M_59) rfl dc_M_workOn_297 ?_
            refine sw_aload_n X 0 rfl rfl dc_M_workOn_300 ?_
            refine sw_get (v := .int (r 20 18)) X (fun z hz => List.mem_cons_of_mem _ (wf_M z hz)) 20 (wd_20 cI cL cZ ad g q r o) rfl 18 (by decide) (List.mem_cons_of_mem _ wm_fl_M_125) rfl dc_M_workOn_301 ?_
            refine sw_iald X 37 0 (wd_37 cI cL cZ ad g q r o) rfl h.1 dc_M_workOn_304 ?_
            have h := h.2
            refine sw_bipush (v := 8) X dc_M_workOn_305 (by decide) ?_
            refine sw_icmp_ne (tgt := 344) X dc_M_workOn_307 (by decide) (fun z => ?_) (fun z => ?_)
            · have h := h.1 z
              refine sw_aload_n X 0 rfl rfl dc_M_workOn_344 ?_
              refine sw_cV_v (n := 0) X hA nw_okA hNs hE (fun u : st_I => wd_W cI cL cZ ad g q u o) [] 20 (wd_20 cI cL cZ ad g q r o) rfl rfl (ct_M_fail l D cI cL cZ ad g q o r _ h) (List.mem_cons_of_mem _ wm_ml_M_198) (List.mem_cons_of_mem _ wm_im_M_fail) (List.mem_cons_of_mem _ wm_se_M_fail) rfl (wg_in wm_code_M_fail) rfl rfl (List.mem_cons_of_mem _ wm_in_M) ⟨by decide, by decide, by decide +kernel⟩ ⟨Nat.le_of_ble_eq_true rfl, Nat.le_of_ble_eq_true rfl⟩ ⟨Nat.zero_le _, Nat.zero_le _⟩ rfl (Nat.le_of_ble_eq_true rfl) dc_M_workOn_345 rfl (fun u345 h => ?_)
              refine sw_goto (tgt := 393) X dc_M_workOn_348 (by decide) ?_
              refine sw_sub [] rfl ?_
              exact b393 u345 h
            · have h := h.2 z
              refine sw_aload_n X 0 rfl rfl dc_M_workOn_310 ?_
              refine sw_iload_n X 3 rfl rfl dc_M_workOn_311 ?_
              refine sw_bipush (v := 7) X dc_M_workOn_312 (by decide) ?_
              refine sw_icmp_ne (tgt := 329) X dc_M_workOn_314 (by decide) (fun z => ?_) (fun z => ?_)
              · have h := h.1 z
                refine sw_aload_n X 0 rfl rfl dc_M_workOn_329 ?_
                refine sw_get X (fun z hz => List.mem_cons_of_mem _ (wf_M z hz)) 20 (wd_20 cI cL cZ ad g q r o) rfl 23 (by decide) (List.mem_cons_of_mem _ wm_fl_M_68) rfl dc_M_workOn_330 ?_
                refine sw_aload_n X 0 rfl rfl dc_M_workOn_333 ?_
                refine sw_get (v := .int (r 20 18)) X (fun z hz => List.mem_cons_of_mem _ (wf_M z hz)) 20 (wd_20 cI cL cZ ad g q r o) rfl 18 (by decide) (List.mem_cons_of_mem _ wm_fl_M_125) rfl dc_M_workOn_334 ?_
                refine sw_iald X 40 0 (wd_40 cI cL cZ ad g q r o) rfl h.1 dc_M_workOn_337 ?_
                have h := h.2
                refine sw_sub [] rfl ?_
                exact b338 r (r 40 ((r 20 18)).toNatClampNeg) h
              · have h := h.2 z
                refine sw_aload_n X 0 rfl rfl dc_M_workOn_317 ?_
                refine sw_get X (fun z hz => List.mem_cons_of_mem _ (wf_M z hz)) 20 (wd_20 cI cL cZ ad g q r o) rfl 22 (by decide) (List.mem_cons_of_mem _ wm_fl_M_65) rfl dc_M_workOn_318 ?_
                refine sw_aload_n X 0 rfl rfl dc_M_workOn_321 ?_
                refine sw_get (v := .int (r 20 18)) X (fun z hz => List.mem_cons_of_mem _ (wf_M z hz)) 20 (wd_20 cI cL cZ ad g q r o) rfl 18 (by decide) (List.mem_cons_of_mem _ wm_fl_M_125) rfl dc_M_workOn_322 ?_
                refine sw_iald X 39 0 (wd_39 cI cL cZ ad g q r o) rfl h.1 dc_M_workOn_325 ?_
                have h := h.2
                refine sw_goto (tgt := 338) X dc_M_workOn_326 (by decide) ?_
                refine sw_sub [] rfl ?_
                exact b338 r (r 39 ((r 20 18)).toNatClampNeg) h
        · have h := h.2 z
          refine sw_sub [0] rfl ?_
          exact b279 r h
  have b201 : ∀ (r : st_I) (v1 : Int32) (v2 : Int32) (v3 : Int32) (v4 : Int32) (v5 : Int32), wp_M_workOn_L201 Q r v1 v2 v3 v4 v5 → sw_J p l e { frames := 4, cells := 0, slots := 0, locals := 91 } s m args below meth c 0 0 (MQ below (va_Qv Q (fun u t => wq_E D cl_A (wd_T cI cL cZ) A (wd_W cI cL cZ ad g q u o) t) A) args s 0 0 A) D cl_A A 6 (wd_W cI cL cZ ad g q r o) 201 [(0, .ref (ad 20)), (1, .int v1), (2, .int v2), (3, .int v3), (4, .int v4), (5, .int v5)] [] := by
    intro r v1 v2 v3 v4 v5 h
    refine sw_iload_n X 3 rfl rfl dc_M_workOn_201 ?_
    refine sw_bipush (v := 11) X dc_M_workOn_202 (by decide) ?_
    refine sw_icmp_ne (tgt := 261) X dc_M_workOn_204 (by decide) (fun z => ?_) (fun z => ?_)
    · have h := h.1 z
      exact b261 r v1 v2 v3 v4 v5 h
    · have h := h.2 z
      refine sw_iload X 4 rfl dc_M_workOn_207 ?_
      refine sw_iconst (v := 1) X dc_M_workOn_209 (by decide) ?_
      refine sw_icmp_ne (tgt := 261) X dc_M_workOn_210 (by decide) (fun z => ?_) (fun z => ?_)
      · have h := h.1 z
        exact b261 r v1 v2 v3 v4 v5 h
      · have h := h.2 z
        refine sw_aload_n X 0 rfl rfl dc_M_workOn_213 ?_
        refine sw_aload_n X 0 rfl rfl dc_M_workOn_214 ?_
        refine sw_get X (fun z hz => List.mem_cons_of_mem _ (wf_M z hz)) 20 (wd_20 cI cL cZ ad g q r o) rfl 4 (by decide) (List.mem_cons_of_mem _ wm_fl_M_19) rfl dc_M_workOn_215 ?_
        refine sw_iload_n X 2 rfl rfl dc_M_workOn_218 ?_
        refine sw_iald X 24 0 (wd_24 cI cL cZ ad g q r o) rfl h.1 dc_M_workOn_219 ?_
        have h := h.2
        refine sw_cV_v (n := 1) X hA nw_okA hNs hE (fun u : st_I => wd_W cI cL cZ ad g q u o) [.int (r 24 (v2).toNatClampNeg)] 20 (wd_20 cI cL cZ ad g q r o) rfl rfl (ct_M_work l D cI cL cZ ad g q o (r 24 (v2).toNatClampNeg) r _ h) (List.mem_cons_of_mem _ wm_ml_M_207) (List.mem_cons_of_mem _ wm_im_M_work) (List.mem_cons_of_mem _ wm_se_M_work) rfl (wg_in wm_code_M_work) rfl rfl (List.mem_cons_of_mem _ wm_in_M) ⟨by decide, by decide, by decide +kernel⟩ ⟨Nat.le_of_ble_eq_true rfl, Nat.le_of_ble_eq_true rfl⟩ ⟨Nat.zero_le _, Nat.zero_le _⟩ rfl (Nat.le_of_ble_eq_true rfl) dc_M_workOn_220 rfl (fun u220 h => ?_)
        refine sw_aload_n X 0 rfl rfl dc_M_workOn_223 ?_
        refine sw_get (v := .int (u220 20 25)) X (fun z hz => List.mem_cons_of_mem _ (wf_M z hz)) 20 (wd_20 cI cL cZ ad g q u220 o) rfl 25 (by decide) (List.mem_cons_of_mem _ wm_fl_M_167) rfl dc_M_workOn_224 ?_
        refine sw_if_ne (tgt := 393) X dc_M_workOn_227 (by decide) (fun z => ?_) (fun z => ?_)
        · have h := h.1 z
          refine sw_sub [] rfl ?_
          exact b393 u220 h
        · have h := h.2 z
          refine sw_aload_n X 0 rfl rfl dc_M_workOn_230 ?_
          refine sw_get X (fun z hz => List.mem_cons_of_mem _ (wf_M z hz)) 20 (wd_20 cI cL cZ ad g q u220 o) rfl 16 (by decide) (List.mem_cons_of_mem _ wm_fl_M_53) rfl dc_M_workOn_231 ?_
          refine sw_iconst (v := 4) X dc_M_workOn_234 (by decide) ?_
          refine sw_aload_n X 0 rfl rfl dc_M_workOn_235 ?_
          refine sw_get (v := .int (u220 20 13)) X (fun z hz => List.mem_cons_of_mem _ (wf_M z hz)) 20 (wd_20 cI cL cZ ad g q u220 o) rfl 13 (by decide) (List.mem_cons_of_mem _ wm_fl_M_111) rfl dc_M_workOn_236 ?_
          refine sw_iconst (v := 1) X dc_M_workOn_239 (by decide) ?_
          refine sw_isub X dc_M_workOn_240 ?_
          refine sw_imul X dc_M_workOn_241 ?_
          refine sw_aload_n X 0 rfl rfl dc_M_workOn_242 ?_
          refine sw_get X (fun z hz => List.mem_cons_of_mem _ (wf_M z hz)) 20 (wd_20 cI cL cZ ad g q u220 o) rfl 2 (by decide) (List.mem_cons_of_mem _ wm_fl_M_13) rfl dc_M_workOn_243 ?_
          refine sw_iload_n X 2 rfl rfl dc_M_workOn_246 ?_
          refine sw_iald X 22 0 (wd_22 cI cL cZ ad g q u220 o) rfl h.1 dc_M_workOn_247 ?_
          have h := h.2
          refine sw_iadd X dc_M_workOn_248 ?_
          refine sw_aload_n X 0 rfl rfl dc_M_workOn_249 ?_
          refine sw_get X (fun z hz => List.mem_cons_of_mem _ (wf_M z hz)) 20 (wd_20 cI cL cZ ad g q u220 o) rfl 17 (by decide) (List.mem_cons_of_mem _ wm_fl_M_56) rfl dc_M_workOn_250 ?_
          refine sw_iconst (v := 2) X dc_M_workOn_253 (by decide) ?_
          refine sw_iload_n X 1 rfl rfl dc_M_workOn_254 ?_
          refine sw_imul X dc_M_workOn_255 ?_
          refine sw_iald X 36 0 (wd_36 cI cL cZ ad g q u220 o) rfl h.1 dc_M_workOn_256 ?_
          have h := h.2
          refine sw_iast X 35 0 (wd_35 cI cL cZ ad g q u220 o) rfl h.1 (wd_W cI cL cZ ad g q (st_u u220 35 ((((4 : Int32) * ((u220 20 13) - (1 : Int32))) + (u220 22 (v2).toNatClampNeg))).toNatClampNeg (u220 36 (((2 : Int32) * v1)).toNatClampNeg)) o) (ws_35 cI cL cZ ad g q u220 o ((((4 : Int32) * ((u220 20 13) - (1 : Int32))) + (u220 22 (v2).toNatClampNeg))).toNatClampNeg (u220 36 (((2 : Int32) * v1)).toNatClampNeg)) dc_M_workOn_257 ?_
          have h := h.2
          refine sw_goto (tgt := 393) X dc_M_workOn_258 (by decide) ?_
          refine sw_sub [] rfl ?_
          exact b393 (st_u u220 35 ((((4 : Int32) * ((u220 20 13) - (1 : Int32))) + (u220 22 (v2).toNatClampNeg))).toNatClampNeg (u220 36 (((2 : Int32) * v1)).toNatClampNeg)) h
  have b195 : ∀ (r : st_I) (t0 : Int32), wp_M_workOn_L195 Q r t0 → sw_J p l e { frames := 4, cells := 0, slots := 0, locals := 91 } s m args below meth c 0 0 (MQ below (va_Qv Q (fun u t => wq_E D cl_A (wd_T cI cL cZ) A (wd_W cI cL cZ ad g q u o) t) A) args s 0 0 A) D cl_A A 6 (wd_W cI cL cZ ad g q r o) 195 [] [.int t0, .ref (ad 20)] := by
    intro r t0 h
    refine sw_cV_v (n := 1) X hA nw_okA hNs hE (fun u : st_I => wd_W cI cL cZ ad g q u o) [.int t0] 20 (wd_20 cI cL cZ ad g q r o) rfl rfl (ct_M_work l D cI cL cZ ad g q o t0 r _ h) (List.mem_cons_of_mem _ wm_ml_M_207) (List.mem_cons_of_mem _ wm_im_M_work) (List.mem_cons_of_mem _ wm_se_M_work) rfl (wg_in wm_code_M_work) rfl rfl (List.mem_cons_of_mem _ wm_in_M) ⟨by decide, by decide, by decide +kernel⟩ ⟨Nat.le_of_ble_eq_true rfl, Nat.le_of_ble_eq_true rfl⟩ ⟨Nat.zero_le _, Nat.zero_le _⟩ rfl (Nat.le_of_ble_eq_true rfl) dc_M_workOn_195 rfl (fun u195 h => ?_)
    refine sw_goto (tgt := 393) X dc_M_workOn_198 (by decide) ?_
    exact b393 u195 h
  have b122 : ∀ (r : st_I) (t0 : Int32), wp_M_workOn_L122 Q r t0 → sw_J p l e { frames := 4, cells := 0, slots := 0, locals := 91 } s m args below meth c 0 0 (MQ below (va_Qv Q (fun u t => wq_E D cl_A (wd_T cI cL cZ) A (wd_W cI cL cZ ad g q u o) t) A) args s 0 0 A) D cl_A A 6 (wd_W cI cL cZ ad g q r o) 122 [] [.int t0, .ref (ad 20)] := by
    intro r t0 h
    refine sw_cV_v (n := 1) X hA nw_okA hNs hE (fun u : st_I => wd_W cI cL cZ ad g q u o) [.int t0] 20 (wd_20 cI cL cZ ad g q r o) rfl rfl (ct_M_work l D cI cL cZ ad g q o t0 r _ h) (List.mem_cons_of_mem _ wm_ml_M_207) (List.mem_cons_of_mem _ wm_im_M_work) (List.mem_cons_of_mem _ wm_se_M_work) rfl (wg_in wm_code_M_work) rfl rfl (List.mem_cons_of_mem _ wm_in_M) ⟨by decide, by decide, by decide +kernel⟩ ⟨Nat.le_of_ble_eq_true rfl, Nat.le_of_ble_eq_true rfl⟩ ⟨Nat.zero_le _, Nat.zero_le _⟩ rfl (Nat.le_of_ble_eq_true rfl) dc_M_workOn_122 rfl (fun u122 h => ?_)
    refine sw_goto (tgt := 393) X dc_M_workOn_125 (by decide) ?_
    exact b393 u122 h
  have b67 : ∀ (r : st_I) (v1 : Int32) (v2 : Int32) (v3 : Int32) (v4 : Int32), wp_M_workOn_L67 Q r v1 v2 v3 v4 → sw_J p l e { frames := 4, cells := 0, slots := 0, locals := 91 } s m args below meth c 0 0 (MQ below (va_Qv Q (fun u t => wq_E D cl_A (wd_T cI cL cZ) A (wd_W cI cL cZ ad g q u o) t) A) args s 0 0 A) D cl_A A 6 (wd_W cI cL cZ ad g q r o) 67 [(0, .ref (ad 20)), (1, .int v1), (2, .int v2), (3, .int v3), (4, .int v4)] [] := by
    intro r v1 v2 v3 v4 h
    refine sw_iload_n X 3 rfl rfl dc_M_workOn_67 ?_
    refine sw_aload_n X 0 rfl rfl dc_M_workOn_68 ?_
    refine sw_get X (fun z hz => List.mem_cons_of_mem _ (wf_M z hz)) 20 (wd_20 cI cL cZ ad g q r o) rfl 2 (by decide) (List.mem_cons_of_mem _ wm_fl_M_13) rfl dc_M_workOn_69 ?_
    refine sw_iload_n X 2 rfl rfl dc_M_workOn_72 ?_
    refine sw_iald X 22 0 (wd_22 cI cL cZ ad g q r o) rfl h.1 dc_M_workOn_73 ?_
    have h := h.2
    refine sw_cS_i (n := 2) X hA nw_okA hNs hE (fun u : st_I => wd_W cI cL cZ ad g q u o) [.int v3, .int (r 22 (v2).toNatClampNeg)] (ct_M_partsOf l D cI cL cZ ad g q o v3 (r 22 (v2).toNatClampNeg) r _ h) (List.mem_cons_of_mem _ wm_ml_M_99) (List.mem_cons_of_mem _ wm_st_M_partsOf) rfl (wg_in wm_code_M_partsOf) rfl rfl (List.mem_cons_of_mem _ wm_in_M) ⟨by decide, by decide, by decide +kernel⟩ ⟨Nat.le_of_ble_eq_true rfl, Nat.le_of_ble_eq_true rfl⟩ ⟨Nat.zero_le _, Nat.zero_le _⟩ rfl (Nat.le_of_ble_eq_true rfl) dc_M_workOn_74 rfl (fun x74 u74 h => ?_)
    refine sw_istore X [(5, .int x74), (0, .ref (ad 20)), (1, .int v1), (2, .int v2), (3, .int v3), (4, .int v4)] rfl (by decide) dc_M_workOn_77 ?_
    refine sw_iload X 0 rfl dc_M_workOn_79 ?_
    refine sw_if_ne (tgt := 93) X dc_M_workOn_81 (by decide) (fun z => ?_) (fun z => ?_)
    · have h := h.1 z
      refine sw_iload X 5 rfl dc_M_workOn_93 ?_
      refine sw_if_ne (tgt := 128) X dc_M_workOn_95 (by decide) (fun z => ?_) (fun z => ?_)
      · have h := h.1 z
        refine sw_iload_n X 4 rfl rfl dc_M_workOn_128 ?_
        refine sw_bipush (v := 10) X dc_M_workOn_129 (by decide) ?_
        refine sw_icmp_ne (tgt := 145) X dc_M_workOn_131 (by decide) (fun z => ?_) (fun z => ?_)
        · have h := h.1 z
          refine sw_iload_n X 4 rfl rfl dc_M_workOn_145 ?_
          refine sw_bipush (v := 9) X dc_M_workOn_146 (by decide) ?_
          refine sw_icmp_ne (tgt := 201) X dc_M_workOn_148 (by decide) (fun z => ?_) (fun z => ?_)
          · have h := h.1 z
            refine sw_sub [1, 2, 3, 4, 5, 0] rfl ?_
            exact b201 u74 v1 v2 v3 v4 x74 h
          · have h := h.2 z
            refine sw_iload X 5 rfl dc_M_workOn_151 ?_
            refine sw_iconst (v := 1) X dc_M_workOn_153 (by decide) ?_
            refine sw_icmp_ne (tgt := 201) X dc_M_workOn_154 (by decide) (fun z => ?_) (fun z => ?_)
            · have h := h.1 z
              refine sw_sub [1, 2, 3, 4, 5, 0] rfl ?_
              exact b201 u74 v1 v2 v3 v4 x74 h
            · have h := h.2 z
              refine sw_aload_n X 1 rfl rfl dc_M_workOn_157 ?_
              refine sw_aload_n X 1 rfl rfl dc_M_workOn_158 ?_
              refine sw_get X (fun z hz => List.mem_cons_of_mem _ (wf_M z hz)) 20 (wd_20 cI cL cZ ad g q u74 o) rfl 3 (by decide) (List.mem_cons_of_mem _ wm_fl_M_16) rfl dc_M_workOn_159 ?_
              refine sw_iload_n X 3 rfl rfl dc_M_workOn_162 ?_
              refine sw_iald X 23 0 (wd_23 cI cL cZ ad g q u74 o) rfl h.1 dc_M_workOn_163 ?_
              have h := h.2
              refine sw_aload_n X 1 rfl rfl dc_M_workOn_164 ?_
              refine sw_get X (fun z hz => List.mem_cons_of_mem _ (wf_M z hz)) 20 (wd_20 cI cL cZ ad g q u74 o) rfl 20 (by decide) (List.mem_cons_of_mem _ wm_fl_M_59) rfl dc_M_workOn_165 ?_
              refine sw_aload_n X 1 rfl rfl dc_M_workOn_168 ?_
              refine sw_get (v := .int (u74 20 18)) X (fun z hz => List.mem_cons_of_mem _ (wf_M z hz)) 20 (wd_20 cI cL cZ ad g q u74 o) rfl 18 (by decide) (List.mem_cons_of_mem _ wm_fl_M_125) rfl dc_M_workOn_169 ?_
              refine sw_iald X 37 0 (wd_37 cI cL cZ ad g q u74 o) rfl h.1 dc_M_workOn_172 ?_
              have h := h.2
              refine sw_ishr X dc_M_workOn_173 ?_
              refine sw_iconst (v := 1) X dc_M_workOn_174 (by decide) ?_
              refine sw_iand X dc_M_workOn_175 ?_
              refine sw_iconst (v := 1) X dc_M_workOn_176 (by decide) ?_
              refine sw_icmp_ne (tgt := 189) X dc_M_workOn_177 (by decide) (fun z => ?_) (fun z => ?_)
              · have h := h.1 z
                refine sw_aload_n X 1 rfl rfl dc_M_workOn_189 ?_
                refine sw_get X (fun z hz => List.mem_cons_of_mem _ (wf_M z hz)) 20 (wd_20 cI cL cZ ad g q u74 o) rfl 5 (by decide) (List.mem_cons_of_mem _ wm_fl_M_22) rfl dc_M_workOn_190 ?_
                refine sw_iload_n X 3 rfl rfl dc_M_workOn_193 ?_
                refine sw_iald X 25 0 (wd_25 cI cL cZ ad g q u74 o) rfl h.1 dc_M_workOn_194 ?_
                have h := h.2
                refine sw_sub [] rfl ?_
                exact b195 u74 (u74 25 (v2).toNatClampNeg) h
              · have h := h.2 z
                refine sw_aload_n X 1 rfl rfl dc_M_workOn_180 ?_
                refine sw_get X (fun z hz => List.mem_cons_of_mem _ (wf_M z hz)) 20 (wd_20 cI cL cZ ad g q u74 o) rfl 4 (by decide) (List.mem_cons_of_mem _ wm_fl_M_19) rfl dc_M_workOn_181 ?_
                refine sw_iload_n X 3 rfl rfl dc_M_workOn_184 ?_
                refine sw_iald X 24 0 (wd_24 cI cL cZ ad g q u74 o) rfl h.1 dc_M_workOn_185 ?_
                have h := h.2
                refine sw_goto (tgt := 195) X dc_M_workOn_186 (by decide) ?_
                refine sw_sub [] rfl ?_
                exact b195 u74 (u74 24 (v2).toNatClampNeg) h
        · have h := h.2 z
          refine sw_aload_n X 1 rfl rfl dc_M_workOn_134 ?_
          refine sw_iload_n X 3 rfl rfl dc_M_workOn_135 ?_
          refine sw_iload_n X 2 rfl rfl dc_M_workOn_136 ?_
          refine sw_iload X 5 rfl dc_M_workOn_137 ?_
          refine sw_cV_v (n := 3) X hA nw_okA hNs hE (fun u : st_I => wd_W cI cL cZ ad g q u o) [.int v2, .int v1, .int v4] 20 (wd_20 cI cL cZ ad g q u74 o) rfl rfl (ct_M_callOn l D cI cL cZ ad g q o v2 v1 v4 u74 _ h) (List.mem_cons_of_mem _ wm_ml_M_217) (List.mem_cons_of_mem _ wm_im_M_callOn) (List.mem_cons_of_mem _ wm_se_M_callOn) rfl (wg_in wm_code_M_callOn) rfl rfl (List.mem_cons_of_mem _ wm_in_M) ⟨by decide, by decide, by decide +kernel⟩ ⟨Nat.le_of_ble_eq_true rfl, Nat.le_of_ble_eq_true rfl⟩ ⟨Nat.zero_le _, Nat.zero_le _⟩ rfl (Nat.le_of_ble_eq_true rfl) dc_M_workOn_139 rfl (fun u139 h => ?_)
          refine sw_goto (tgt := 393) X dc_M_workOn_142 (by decide) ?_
          refine sw_sub [] rfl ?_
          exact b393 u139 h
      · have h := h.2 z
        refine sw_aload_n X 1 rfl rfl dc_M_workOn_98 ?_
        refine sw_iload X 0 rfl dc_M_workOn_99 ?_
        refine sw_iconst (v := 1) X dc_M_workOn_101 (by decide) ?_
        refine sw_iand X dc_M_workOn_102 ?_
        refine sw_iconst (v := 1) X dc_M_workOn_103 (by decide) ?_
        refine sw_icmp_ne (tgt := 116) X dc_M_workOn_104 (by decide) (fun z => ?_) (fun z => ?_)
        · have h := h.1 z
          refine sw_aload_n X 1 rfl rfl dc_M_workOn_116 ?_
          refine sw_get X (fun z hz => List.mem_cons_of_mem _ (wf_M z hz)) 20 (wd_20 cI cL cZ ad g q u74 o) rfl 3 (by decide) (List.mem_cons_of_mem _ wm_fl_M_16) rfl dc_M_workOn_117 ?_
          refine sw_iload_n X 3 rfl rfl dc_M_workOn_120 ?_
          refine sw_iald X 23 0 (wd_23 cI cL cZ ad g q u74 o) rfl h.1 dc_M_workOn_121 ?_
          have h := h.2
          refine sw_sub [] rfl ?_
          exact b122 u74 (u74 23 (v2).toNatClampNeg) h
        · have h := h.2 z
          refine sw_aload_n X 1 rfl rfl dc_M_workOn_107 ?_
          refine sw_get X (fun z hz => List.mem_cons_of_mem _ (wf_M z hz)) 20 (wd_20 cI cL cZ ad g q u74 o) rfl 2 (by decide) (List.mem_cons_of_mem _ wm_fl_M_13) rfl dc_M_workOn_108 ?_
          refine sw_iload_n X 3 rfl rfl dc_M_workOn_111 ?_
          refine sw_iald X 22 0 (wd_22 cI cL cZ ad g q u74 o) rfl h.1 dc_M_workOn_112 ?_
          have h := h.2
          refine sw_goto (tgt := 122) X dc_M_workOn_113 (by decide) ?_
          refine sw_sub [] rfl ?_
          exact b122 u74 (u74 22 (v2).toNatClampNeg) h
    · have h := h.2 z
      refine sw_aload_n X 1 rfl rfl dc_M_workOn_84 ?_
      refine sw_iload_n X 3 rfl rfl dc_M_workOn_85 ?_
      refine sw_iload_n X 2 rfl rfl dc_M_workOn_86 ?_
      refine sw_cV_v (n := 2) X hA nw_okA hNs hE (fun u : st_I => wd_W cI cL cZ ad g q u o) [.int v2, .int v1] 20 (wd_20 cI cL cZ ad g q u74 o) rfl rfl (ct_M_leafValue l D cI cL cZ ad g q o v2 v1 u74 _ h) (List.mem_cons_of_mem _ wm_ml_M_214) (List.mem_cons_of_mem _ wm_im_M_leafValue) (List.mem_cons_of_mem _ wm_se_M_leafValue) rfl (wg_in wm_code_M_leafValue) rfl rfl (List.mem_cons_of_mem _ wm_in_M) ⟨by decide, by decide, by decide +kernel⟩ ⟨Nat.le_of_ble_eq_true rfl, Nat.le_of_ble_eq_true rfl⟩ ⟨Nat.zero_le _, Nat.zero_le _⟩ rfl (Nat.le_of_ble_eq_true rfl) dc_M_workOn_87 rfl (fun u87 h => ?_)
      refine sw_goto (tgt := 393) X dc_M_workOn_90 (by decide) ?_
      refine sw_sub [] rfl ?_
      exact b393 u87 h
  refine sw_aload_n X 0 rfl rfl dc_M_workOn_0 ?_
  refine sw_get (v := .int (r 20 13)) X (fun z hz => List.mem_cons_of_mem _ (wf_M z hz)) 20 (wd_20 cI cL cZ ad g q r o) rfl 13 (by decide) (List.mem_cons_of_mem _ wm_fl_M_111) rfl dc_M_workOn_1 ?_
  refine sw_iconst (v := 1) X dc_M_workOn_4 (by decide) ?_
  refine sw_isub X dc_M_workOn_5 ?_
  refine sw_istore_n X [(1, .int ((r 20 13) - (1 : Int32))), (0, .ref (ad 20))] rfl (by decide) rfl dc_M_workOn_6 ?_
  refine sw_aload_n X 1 rfl rfl dc_M_workOn_7 ?_
  refine sw_get X (fun z hz => List.mem_cons_of_mem _ (wf_M z hz)) 20 (wd_20 cI cL cZ ad g q r o) rfl 14 (by decide) (List.mem_cons_of_mem _ wm_fl_M_47) rfl dc_M_workOn_8 ?_
  refine sw_iload_n X 0 rfl rfl dc_M_workOn_11 ?_
  refine sw_iald X 33 0 (wd_33 cI cL cZ ad g q r o) rfl h.1 dc_M_workOn_12 ?_
  have h := h.2
  refine sw_istore_n X [(2, .int (r 33 (((r 20 13) - (1 : Int32))).toNatClampNeg)), (1, .int ((r 20 13) - (1 : Int32))), (0, .ref (ad 20))] rfl (by decide) rfl dc_M_workOn_13 ?_
  refine sw_aload_n X 2 rfl rfl dc_M_workOn_14 ?_
  refine sw_get X (fun z hz => List.mem_cons_of_mem _ (wf_M z hz)) 20 (wd_20 cI cL cZ ad g q r o) rfl 1 (by decide) (List.mem_cons_of_mem _ wm_fl_M_7) rfl dc_M_workOn_15 ?_
  refine sw_iload_n X 0 rfl rfl dc_M_workOn_18 ?_
  refine sw_iald X 21 0 (wd_21 cI cL cZ ad g q r o) rfl h.1 dc_M_workOn_19 ?_
  have h := h.2
  refine sw_istore_n X [(3, .int (r 21 ((r 33 (((r 20 13) - (1 : Int32))).toNatClampNeg)).toNatClampNeg)), (2, .int (r 33 (((r 20 13) - (1 : Int32))).toNatClampNeg)), (1, .int ((r 20 13) - (1 : Int32))), (0, .ref (ad 20))] rfl (by decide) rfl dc_M_workOn_20 ?_
  refine sw_aload_n X 3 rfl rfl dc_M_workOn_21 ?_
  refine sw_get X (fun z hz => List.mem_cons_of_mem _ (wf_M z hz)) 20 (wd_20 cI cL cZ ad g q r o) rfl 15 (by decide) (List.mem_cons_of_mem _ wm_fl_M_50) rfl dc_M_workOn_22 ?_
  refine sw_iload_n X 2 rfl rfl dc_M_workOn_25 ?_
  refine sw_iald X 34 0 (wd_34 cI cL cZ ad g q r o) rfl h.1 dc_M_workOn_26 ?_
  have h := h.2
  refine sw_istore X [(4, .int (r 34 (((r 20 13) - (1 : Int32))).toNatClampNeg)), (3, .int (r 21 ((r 33 (((r 20 13) - (1 : Int32))).toNatClampNeg)).toNatClampNeg)), (2, .int (r 33 (((r 20 13) - (1 : Int32))).toNatClampNeg)), (1, .int ((r 20 13) - (1 : Int32))), (0, .ref (ad 20))] rfl (by decide) dc_M_workOn_27 ?_
  refine sw_aload_n X 4 rfl rfl dc_M_workOn_29 ?_
  refine sw_get X (fun z hz => List.mem_cons_of_mem _ (wf_M z hz)) 20 (wd_20 cI cL cZ ad g q r o) rfl 15 (by decide) (List.mem_cons_of_mem _ wm_fl_M_50) rfl dc_M_workOn_30 ?_
  refine sw_iload_n X 3 rfl rfl dc_M_workOn_33 ?_
  refine sw_dup2 X dc_M_workOn_34 rfl rfl ?_
  refine sw_iald X 34 0 (wd_34 cI cL cZ ad g q r o) rfl h.1 dc_M_workOn_35 ?_
  have h := h.2
  refine sw_iconst (v := 1) X dc_M_workOn_36 (by decide) ?_
  refine sw_iadd X dc_M_workOn_37 ?_
  refine sw_iast X 34 0 (wd_34 cI cL cZ ad g q r o) rfl h.1 (wd_W cI cL cZ ad g q (st_u r 34 (((r 20 13) - (1 : Int32))).toNatClampNeg ((r 34 (((r 20 13) - (1 : Int32))).toNatClampNeg) + (1 : Int32))) o) (ws_34 cI cL cZ ad g q r o (((r 20 13) - (1 : Int32))).toNatClampNeg ((r 34 (((r 20 13) - (1 : Int32))).toNatClampNeg) + (1 : Int32))) dc_M_workOn_38 ?_
  have h := h.2
  refine sw_iload X 0 rfl dc_M_workOn_39 ?_
  refine sw_if_le (tgt := 67) X dc_M_workOn_41 (by decide) (fun z => ?_) (fun z => ?_)
  · have h := h.1 z
    refine sw_sub [4, 3, 2, 1, 0] rfl ?_
    exact b67 (st_u r 34 (((r 20 13) - (1 : Int32))).toNatClampNeg ((r 34 (((r 20 13) - (1 : Int32))).toNatClampNeg) + (1 : Int32))) ((r 20 13) - (1 : Int32)) (r 33 (((r 20 13) - (1 : Int32))).toNatClampNeg) (r 21 ((r 33 (((r 20 13) - (1 : Int32))).toNatClampNeg)).toNatClampNeg) (r 34 (((r 20 13) - (1 : Int32))).toNatClampNeg) h
  · have h := h.2 z
    refine sw_iload X 0 rfl dc_M_workOn_44 ?_
    refine sw_iconst (v := 3) X dc_M_workOn_46 (by decide) ?_
    refine sw_icmp_ge (tgt := 67) X dc_M_workOn_47 (by decide) (fun z => ?_) (fun z => ?_)
    · have h := h.1 z
      refine sw_sub [4, 3, 2, 1, 0] rfl ?_
      exact b67 (st_u r 34 (((r 20 13) - (1 : Int32))).toNatClampNeg ((r 34 (((r 20 13) - (1 : Int32))).toNatClampNeg) + (1 : Int32))) ((r 20 13) - (1 : Int32)) (r 33 (((r 20 13) - (1 : Int32))).toNatClampNeg) (r 21 ((r 33 (((r 20 13) - (1 : Int32))).toNatClampNeg)).toNatClampNeg) (r 34 (((r 20 13) - (1 : Int32))).toNatClampNeg) h
    · have h := h.2 z
      refine sw_aload_n X 4 rfl rfl dc_M_workOn_50 ?_
      refine sw_get X (fun z hz => List.mem_cons_of_mem _ (wf_M z hz)) 20 (wd_20 cI cL cZ ad g q (st_u r 34 (((r 20 13) - (1 : Int32))).toNatClampNeg ((r 34 (((r 20 13) - (1 : Int32))).toNatClampNeg) + (1 : Int32))) o) rfl 17 (by decide) (List.mem_cons_of_mem _ wm_fl_M_56) rfl dc_M_workOn_51 ?_
      refine sw_iconst (v := 2) X dc_M_workOn_54 (by decide) ?_
      refine sw_iload_n X 3 rfl rfl dc_M_workOn_55 ?_
      refine sw_imul X dc_M_workOn_56 ?_
      refine sw_iload X 0 rfl dc_M_workOn_57 ?_
      refine sw_iadd X dc_M_workOn_59 ?_
      refine sw_iconst (v := 1) X dc_M_workOn_60 (by decide) ?_
      refine sw_isub X dc_M_workOn_61 ?_
      refine sw_aload_n X 4 rfl rfl dc_M_workOn_62 ?_
      refine sw_get (v := .int (r 20 18)) X (fun z hz => List.mem_cons_of_mem _ (wf_M z hz)) 20 (wd_20 cI cL cZ ad g q (st_u r 34 (((r 20 13) - (1 : Int32))).toNatClampNeg ((r 34 (((r 20 13) - (1 : Int32))).toNatClampNeg) + (1 : Int32))) o) rfl 18 (by decide) (List.mem_cons_of_mem _ wm_fl_M_125) rfl dc_M_workOn_63 ?_
      refine sw_iast X 36 0 (wd_36 cI cL cZ ad g q (st_u r 34 (((r 20 13) - (1 : Int32))).toNatClampNeg ((r 34 (((r 20 13) - (1 : Int32))).toNatClampNeg) + (1 : Int32))) o) rfl h.1 (wd_W cI cL cZ ad g q (st_u (st_u r 34 (((r 20 13) - (1 : Int32))).toNatClampNeg ((r 34 (((r 20 13) - (1 : Int32))).toNatClampNeg) + (1 : Int32))) 36 (((((2 : Int32) * ((r 20 13) - (1 : Int32))) + (r 34 (((r 20 13) - (1 : Int32))).toNatClampNeg)) - (1 : Int32))).toNatClampNeg (r 20 18)) o) (ws_36 cI cL cZ ad g q (st_u r 34 (((r 20 13) - (1 : Int32))).toNatClampNeg ((r 34 (((r 20 13) - (1 : Int32))).toNatClampNeg) + (1 : Int32))) o (((((2 : Int32) * ((r 20 13) - (1 : Int32))) + (r 34 (((r 20 13) - (1 : Int32))).toNatClampNeg)) - (1 : Int32))).toNatClampNeg (r 20 18)) dc_M_workOn_66 ?_
      have h := h.2
      refine sw_sub [4, 3, 2, 1, 0] rfl ?_
      exact b67 (st_u (st_u r 34 (((r 20 13) - (1 : Int32))).toNatClampNeg ((r 34 (((r 20 13) - (1 : Int32))).toNatClampNeg) + (1 : Int32))) 36 (((((2 : Int32) * ((r 20 13) - (1 : Int32))) + (r 34 (((r 20 13) - (1 : Int32))).toNatClampNeg)) - (1 : Int32))).toNatClampNeg (r 20 18)) ((r 20 13) - (1 : Int32)) (r 33 (((r 20 13) - (1 : Int32))).toNatClampNeg) (r 21 ((r 33 (((r 20 13) - (1 : Int32))).toNatClampNeg)).toNatClampNeg) (r 34 (((r 20 13) - (1 : Int32))).toNatClampNeg) h
def wp_M_goUp_L108 (Q : (st_I → Prop)) (r : st_I)  : Prop := Q r
def wp_M_goUp_L95 (Q : (st_I → Prop)) (r : st_I) (t0 : Int32) : Prop := wp_M_goUp_L108 Q (st_u (st_u r 20 29 t0) 20 13 ((r 20 13) - (1 : Int32)))
def wp_M_goUp_L91 (Q : (st_I → Prop)) (r : st_I)  : Prop := wp_M_goUp_L95 Q r (r 20 29)
def wp_M_goUp_L60 (Q : (st_I → Prop)) (r : st_I) (v1 : Int32) (v2 : Int32) : Prop := vp_in v2 90 ∧ (¬ (r 21 (v2).toNatClampNeg) = (10 : Int32) → wp_M_goUp_L91 Q r) ∧ ((r 21 (v2).toNatClampNeg) = (10 : Int32) → vp_in v1 64 ∧ ((r 34 (v1).toNatClampNeg) < (4 : Int32) → wp_M_goUp_L91 Q r) ∧ (¬ (r 34 (v1).toNatClampNeg) < (4 : Int32) → wp_M_goUp_L95 Q r ((r 20 29) - (1 : Int32))))
def wp_M_goUp  (r : st_I) (Q : (st_I → Prop)) : Prop := vp_in ((r 20 13) - (1 : Int32)) 64 ∧ vp_in (r 33 (((r 20 13) - (1 : Int32))).toNatClampNeg) 90 ∧ (¬ (r 21 ((r 33 (((r 20 13) - (1 : Int32))).toNatClampNeg)).toNatClampNeg) = (12 : Int32) → wp_M_goUp_L60 Q r ((r 20 13) - (1 : Int32)) (r 33 (((r 20 13) - (1 : Int32))).toNatClampNeg)) ∧ ((r 21 ((r 33 (((r 20 13) - (1 : Int32))).toNatClampNeg)).toNatClampNeg) = (12 : Int32) → vp_in ((r 20 13) - (1 : Int32)) 64 ∧ (¬ (r 34 (((r 20 13) - (1 : Int32))).toNatClampNeg) = (1 : Int32) → wp_M_goUp_L60 Q r ((r 20 13) - (1 : Int32)) (r 33 (((r 20 13) - (1 : Int32))).toNatClampNeg)) ∧ ((r 34 (((r 20 13) - (1 : Int32))).toNatClampNeg) = (1 : Int32) → vp_in ((r 20 13) - (1 : Int32)) 64 ∧ vp_in (r 33 (((r 20 13) - (1 : Int32))).toNatClampNeg) 90 ∧ wp_M_work (r 23 ((r 33 (((r 20 13) - (1 : Int32))).toNatClampNeg)).toNatClampNeg) (st_u (st_u r 20 24 (0 : Int32)) 34 (((r 20 13) - (1 : Int32))).toNatClampNeg (2 : Int32)) (fun u54 => wp_M_goUp_L108 Q u54)))
set_option maxHeartbeats 4000000 in
set_option maxRecDepth 100000 in
theorem ct_M_goUp (l : Launch) (D : va_G) (cI cL cZ : ClassId) (ad : Nat → Nat) (g : st_I) (q : st_L) (o : st_L)  (r : st_I) (Q : (st_I → Prop)) (h : wp_M_goUp  r Q) : ∀ sz, Met l yn_M_goUp (Cond.code yn_M_goUp cd_M_goUp 3 none :: wa_A) { frames := 2, cells := 0, slots := 0, locals := 43 } (va_Pc [.ref (ad 20)] (wq_S D cl_A (wd_T cI cL cZ) nw_A (wd_W cI cL cZ ad g q r o) sz)) (va_Qv Q (fun u t => wq_E D cl_A (wd_T cI cL cZ) (va_A (wd_W cI cL cZ ad g q r o) sz) (wd_W cI cL cZ ad g q u o) t) (va_A (wd_W cI cL cZ ad g q r o) sz)) 0 0 (va_A (wd_W cI cL cZ ad g q r o) sz) := by
  refine sw_met (Qc := fun A => va_Qv Q (fun u t => wq_E D cl_A (wd_T cI cL cZ) A (wd_W cI cL cZ ad g q u o) t) A) (by decide) rfl (Nat.le_of_ble_eq_true rfl) rfl ?_
  intro p e s m args below meth c A X hA hNs hE hr hlk hnm
  have b108 : ∀ (r : st_I), wp_M_goUp_L108 Q r → sw_J p l e { frames := 2, cells := 0, slots := 0, locals := 43 } s m args below meth c 0 0 (MQ below (va_Qv Q (fun u t => wq_E D cl_A (wd_T cI cL cZ) A (wd_W cI cL cZ ad g q u o) t) A) args s 0 0 A) D cl_A A 3 (wd_W cI cL cZ ad g q r o) 108 [] [] := by
    intro r h
    exact sw_vret X hr hlk (u := r) rfl h dc_M_goUp_108
  have b95 : ∀ (r : st_I) (t0 : Int32), wp_M_goUp_L95 Q r t0 → sw_J p l e { frames := 2, cells := 0, slots := 0, locals := 43 } s m args below meth c 0 0 (MQ below (va_Qv Q (fun u t => wq_E D cl_A (wd_T cI cL cZ) A (wd_W cI cL cZ ad g q u o) t) A) args s 0 0 A) D cl_A A 3 (wd_W cI cL cZ ad g q r o) 95 [(0, .ref (ad 20))] [.int t0, .ref (ad 20)] := by
    intro r t0 h
    refine sw_put (ty := .int) X (fun z hz => List.mem_cons_of_mem _ (wf_M z hz)) fy_M fo_M fn_M 20 (wd_20 cI cL cZ ad g q r o) rfl 29 (by decide) (List.mem_cons_of_mem _ wm_fl_M_201) rfl (by decide +kernel) rfl rfl (Nat.le_of_ble_eq_true rfl) (wd_W cI cL cZ ad g q (st_u r 20 29 t0) o) (ws_20_29 cI cL cZ ad g q r o t0) dc_M_goUp_95 ?_
    refine sw_aload_n X 0 rfl rfl dc_M_goUp_98 ?_
    refine sw_dup X dc_M_goUp_99 rfl ?_
    refine sw_get (v := .int (r 20 13)) X (fun z hz => List.mem_cons_of_mem _ (wf_M z hz)) 20 (wd_20 cI cL cZ ad g q (st_u r 20 29 t0) o) rfl 13 (by decide) (List.mem_cons_of_mem _ wm_fl_M_111) rfl dc_M_goUp_100 ?_
    refine sw_iconst (v := 1) X dc_M_goUp_103 (by decide) ?_
    refine sw_isub X dc_M_goUp_104 ?_
    refine sw_put (ty := .int) X (fun z hz => List.mem_cons_of_mem _ (wf_M z hz)) fy_M fo_M fn_M 20 (wd_20 cI cL cZ ad g q (st_u r 20 29 t0) o) rfl 13 (by decide) (List.mem_cons_of_mem _ wm_fl_M_111) rfl (by decide +kernel) rfl rfl (Nat.le_of_ble_eq_true rfl) (wd_W cI cL cZ ad g q (st_u (st_u r 20 29 t0) 20 13 ((r 20 13) - (1 : Int32))) o) (ws_20_13 cI cL cZ ad g q (st_u r 20 29 t0) o ((r 20 13) - (1 : Int32))) dc_M_goUp_105 ?_
    refine sw_sub [] rfl ?_
    exact b108 (st_u (st_u r 20 29 t0) 20 13 ((r 20 13) - (1 : Int32))) h
  have b91 : ∀ (r : st_I), wp_M_goUp_L91 Q r → sw_J p l e { frames := 2, cells := 0, slots := 0, locals := 43 } s m args below meth c 0 0 (MQ below (va_Qv Q (fun u t => wq_E D cl_A (wd_T cI cL cZ) A (wd_W cI cL cZ ad g q u o) t) A) args s 0 0 A) D cl_A A 3 (wd_W cI cL cZ ad g q r o) 91 [(0, .ref (ad 20))] [.ref (ad 20)] := by
    intro r h
    refine sw_aload_n X 0 rfl rfl dc_M_goUp_91 ?_
    refine sw_get (v := .int (r 20 29)) X (fun z hz => List.mem_cons_of_mem _ (wf_M z hz)) 20 (wd_20 cI cL cZ ad g q r o) rfl 29 (by decide) (List.mem_cons_of_mem _ wm_fl_M_201) rfl dc_M_goUp_92 ?_
    exact b95 r (r 20 29) h
  have b60 : ∀ (r : st_I) (v1 : Int32) (v2 : Int32), wp_M_goUp_L60 Q r v1 v2 → sw_J p l e { frames := 2, cells := 0, slots := 0, locals := 43 } s m args below meth c 0 0 (MQ below (va_Qv Q (fun u t => wq_E D cl_A (wd_T cI cL cZ) A (wd_W cI cL cZ ad g q u o) t) A) args s 0 0 A) D cl_A A 3 (wd_W cI cL cZ ad g q r o) 60 [(0, .ref (ad 20)), (1, .int v1), (2, .int v2)] [] := by
    intro r v1 v2 h
    refine sw_aload_n X 0 rfl rfl dc_M_goUp_60 ?_
    refine sw_aload_n X 0 rfl rfl dc_M_goUp_61 ?_
    refine sw_get X (fun z hz => List.mem_cons_of_mem _ (wf_M z hz)) 20 (wd_20 cI cL cZ ad g q r o) rfl 1 (by decide) (List.mem_cons_of_mem _ wm_fl_M_7) rfl dc_M_goUp_62 ?_
    refine sw_iload_n X 2 rfl rfl dc_M_goUp_65 ?_
    refine sw_iald X 21 0 (wd_21 cI cL cZ ad g q r o) rfl h.1 dc_M_goUp_66 ?_
    have h := h.2
    refine sw_bipush (v := 10) X dc_M_goUp_67 (by decide) ?_
    refine sw_icmp_ne (tgt := 91) X dc_M_goUp_69 (by decide) (fun z => ?_) (fun z => ?_)
    · have h := h.1 z
      refine sw_sub [0] rfl ?_
      exact b91 r h
    · have h := h.2 z
      refine sw_aload_n X 0 rfl rfl dc_M_goUp_72 ?_
      refine sw_get X (fun z hz => List.mem_cons_of_mem _ (wf_M z hz)) 20 (wd_20 cI cL cZ ad g q r o) rfl 15 (by decide) (List.mem_cons_of_mem _ wm_fl_M_50) rfl dc_M_goUp_73 ?_
      refine sw_iload_n X 1 rfl rfl dc_M_goUp_76 ?_
      refine sw_iald X 34 0 (wd_34 cI cL cZ ad g q r o) rfl h.1 dc_M_goUp_77 ?_
      have h := h.2
      refine sw_iconst (v := 4) X dc_M_goUp_78 (by decide) ?_
      refine sw_icmp_lt (tgt := 91) X dc_M_goUp_79 (by decide) (fun z => ?_) (fun z => ?_)
      · have h := h.1 z
        refine sw_sub [0] rfl ?_
        exact b91 r h
      · have h := h.2 z
        refine sw_aload_n X 0 rfl rfl dc_M_goUp_82 ?_
        refine sw_get (v := .int (r 20 29)) X (fun z hz => List.mem_cons_of_mem _ (wf_M z hz)) 20 (wd_20 cI cL cZ ad g q r o) rfl 29 (by decide) (List.mem_cons_of_mem _ wm_fl_M_201) rfl dc_M_goUp_83 ?_
        refine sw_iconst (v := 1) X dc_M_goUp_86 (by decide) ?_
        refine sw_isub X dc_M_goUp_87 ?_
        refine sw_goto (tgt := 95) X dc_M_goUp_88 (by decide) ?_
        refine sw_sub [0] rfl ?_
        exact b95 r ((r 20 29) - (1 : Int32)) h
  refine sw_aload_n X 0 rfl rfl dc_M_goUp_0 ?_
  refine sw_get (v := .int (r 20 13)) X (fun z hz => List.mem_cons_of_mem _ (wf_M z hz)) 20 (wd_20 cI cL cZ ad g q r o) rfl 13 (by decide) (List.mem_cons_of_mem _ wm_fl_M_111) rfl dc_M_goUp_1 ?_
  refine sw_iconst (v := 1) X dc_M_goUp_4 (by decide) ?_
  refine sw_isub X dc_M_goUp_5 ?_
  refine sw_istore_n X [(1, .int ((r 20 13) - (1 : Int32))), (0, .ref (ad 20))] rfl (by decide) rfl dc_M_goUp_6 ?_
  refine sw_aload_n X 1 rfl rfl dc_M_goUp_7 ?_
  refine sw_get X (fun z hz => List.mem_cons_of_mem _ (wf_M z hz)) 20 (wd_20 cI cL cZ ad g q r o) rfl 14 (by decide) (List.mem_cons_of_mem _ wm_fl_M_47) rfl dc_M_goUp_8 ?_
  refine sw_iload_n X 0 rfl rfl dc_M_goUp_11 ?_
  refine sw_iald X 33 0 (wd_33 cI cL cZ ad g q r o) rfl h.1 dc_M_goUp_12 ?_
  have h := h.2
  refine sw_istore_n X [(2, .int (r 33 (((r 20 13) - (1 : Int32))).toNatClampNeg)), (1, .int ((r 20 13) - (1 : Int32))), (0, .ref (ad 20))] rfl (by decide) rfl dc_M_goUp_13 ?_
  refine sw_aload_n X 2 rfl rfl dc_M_goUp_14 ?_
  refine sw_get X (fun z hz => List.mem_cons_of_mem _ (wf_M z hz)) 20 (wd_20 cI cL cZ ad g q r o) rfl 1 (by decide) (List.mem_cons_of_mem _ wm_fl_M_7) rfl dc_M_goUp_15 ?_
  refine sw_iload_n X 0 rfl rfl dc_M_goUp_18 ?_
  refine sw_iald X 21 0 (wd_21 cI cL cZ ad g q r o) rfl h.1 dc_M_goUp_19 ?_
  have h := h.2
  refine sw_bipush (v := 12) X dc_M_goUp_20 (by decide) ?_
  refine sw_icmp_ne (tgt := 60) X dc_M_goUp_22 (by decide) (fun z => ?_) (fun z => ?_)
  · have h := h.1 z
    refine sw_sub [2, 1, 0] rfl ?_
    exact b60 r ((r 20 13) - (1 : Int32)) (r 33 (((r 20 13) - (1 : Int32))).toNatClampNeg) h
  · have h := h.2 z
    refine sw_aload_n X 2 rfl rfl dc_M_goUp_25 ?_
    refine sw_get X (fun z hz => List.mem_cons_of_mem _ (wf_M z hz)) 20 (wd_20 cI cL cZ ad g q r o) rfl 15 (by decide) (List.mem_cons_of_mem _ wm_fl_M_50) rfl dc_M_goUp_26 ?_
    refine sw_iload_n X 1 rfl rfl dc_M_goUp_29 ?_
    refine sw_iald X 34 0 (wd_34 cI cL cZ ad g q r o) rfl h.1 dc_M_goUp_30 ?_
    have h := h.2
    refine sw_iconst (v := 1) X dc_M_goUp_31 (by decide) ?_
    refine sw_icmp_ne (tgt := 60) X dc_M_goUp_32 (by decide) (fun z => ?_) (fun z => ?_)
    · have h := h.1 z
      refine sw_sub [2, 1, 0] rfl ?_
      exact b60 r ((r 20 13) - (1 : Int32)) (r 33 (((r 20 13) - (1 : Int32))).toNatClampNeg) h
    · have h := h.2 z
      refine sw_aload_n X 2 rfl rfl dc_M_goUp_35 ?_
      refine sw_iconst (v := 0) X dc_M_goUp_36 (by decide) ?_
      refine sw_put (ty := .boolean) X (fun z hz => List.mem_cons_of_mem _ (wf_M z hz)) fy_M fo_M fn_M 20 (wd_20 cI cL cZ ad g q r o) rfl 24 (by decide) (List.mem_cons_of_mem _ wm_fl_M_174) rfl (by decide +kernel) (by decide) (by decide) (Nat.le_of_ble_eq_true rfl) (wd_W cI cL cZ ad g q (st_u r 20 24 (0 : Int32)) o) (ws_20_24 cI cL cZ ad g q r o (0 : Int32)) dc_M_goUp_37 ?_
      refine sw_aload_n X 2 rfl rfl dc_M_goUp_40 ?_
      refine sw_get X (fun z hz => List.mem_cons_of_mem _ (wf_M z hz)) 20 (wd_20 cI cL cZ ad g q (st_u r 20 24 (0 : Int32)) o) rfl 15 (by decide) (List.mem_cons_of_mem _ wm_fl_M_50) rfl dc_M_goUp_41 ?_
      refine sw_iload_n X 1 rfl rfl dc_M_goUp_44 ?_
      refine sw_iconst (v := 2) X dc_M_goUp_45 (by decide) ?_
      refine sw_iast X 34 0 (wd_34 cI cL cZ ad g q (st_u r 20 24 (0 : Int32)) o) rfl h.1 (wd_W cI cL cZ ad g q (st_u (st_u r 20 24 (0 : Int32)) 34 (((r 20 13) - (1 : Int32))).toNatClampNeg (2 : Int32)) o) (ws_34 cI cL cZ ad g q (st_u r 20 24 (0 : Int32)) o (((r 20 13) - (1 : Int32))).toNatClampNeg (2 : Int32)) dc_M_goUp_46 ?_
      have h := h.2
      refine sw_aload_n X 2 rfl rfl dc_M_goUp_47 ?_
      refine sw_aload_n X 2 rfl rfl dc_M_goUp_48 ?_
      refine sw_get X (fun z hz => List.mem_cons_of_mem _ (wf_M z hz)) 20 (wd_20 cI cL cZ ad g q (st_u (st_u r 20 24 (0 : Int32)) 34 (((r 20 13) - (1 : Int32))).toNatClampNeg (2 : Int32)) o) rfl 3 (by decide) (List.mem_cons_of_mem _ wm_fl_M_16) rfl dc_M_goUp_49 ?_
      refine sw_iload_n X 0 rfl rfl dc_M_goUp_52 ?_
      refine sw_iald X 23 0 (wd_23 cI cL cZ ad g q (st_u (st_u r 20 24 (0 : Int32)) 34 (((r 20 13) - (1 : Int32))).toNatClampNeg (2 : Int32)) o) rfl h.1 dc_M_goUp_53 ?_
      have h := h.2
      refine sw_eq (st' := [.int (r 23 ((r 33 (((r 20 13) - (1 : Int32))).toNatClampNeg)).toNatClampNeg), .ref (ad 20)]) rfl rfl rfl ?_
      refine sw_cV_v (n := 1) X hA nw_okA hNs hE (fun u : st_I => wd_W cI cL cZ ad g q u o) [.int (r 23 ((r 33 (((r 20 13) - (1 : Int32))).toNatClampNeg)).toNatClampNeg)] 20 (wd_20 cI cL cZ ad g q (st_u (st_u r 20 24 (0 : Int32)) 34 (((r 20 13) - (1 : Int32))).toNatClampNeg (2 : Int32)) o) rfl rfl (ct_M_work l D cI cL cZ ad g q o (r 23 ((r 33 (((r 20 13) - (1 : Int32))).toNatClampNeg)).toNatClampNeg) (st_u (st_u r 20 24 (0 : Int32)) 34 (((r 20 13) - (1 : Int32))).toNatClampNeg (2 : Int32)) _ h) (List.mem_cons_of_mem _ wm_ml_M_207) (List.mem_cons_of_mem _ wm_im_M_work) (List.mem_cons_of_mem _ wm_se_M_work) rfl (wg_in wm_code_M_work) rfl rfl (List.mem_cons_of_mem _ wm_in_M) ⟨by decide, by decide, by decide +kernel⟩ ⟨Nat.le_of_ble_eq_true rfl, Nat.le_of_ble_eq_true rfl⟩ ⟨Nat.zero_le _, Nat.zero_le _⟩ rfl (Nat.le_of_ble_eq_true rfl) dc_M_goUp_54 rfl (fun u54 h => ?_)
      refine sw_goto (tgt := 108) X dc_M_goUp_57 (by decide) ?_
      refine sw_sub [] rfl ?_
      exact b108 u54 h
def wp_M_go_L35 (Q : (st_I → Prop)) (r : st_I)  : Prop := Q r
def wp_M_go_L0 (Q : (st_I → Prop)) : Nat → st_I → Prop
  | 0 => fun _ => False
  | n0 + 1 => fun r => ((r 20 13) ≤ 0 → wp_M_go_L35 Q r) ∧ (¬ (r 20 13) ≤ 0 → (¬ (r 20 25) = 0 → wp_M_go_L35 Q r) ∧ ((r 20 25) = 0 → ((r 20 24) = 0 → wp_M_workOn  r (fun u29 => (wp_M_go_L0 Q n0) u29)) ∧ (¬ (r 20 24) = 0 → wp_M_goUp  r (fun u22 => (wp_M_go_L0 Q n0) u22))))
def wp_M_go  (r : st_I) (Q : (st_I → Prop)) : Prop := ∃ n0, wp_M_go_L0 Q n0 r
set_option maxHeartbeats 4000000 in
set_option maxRecDepth 100000 in
theorem ct_M_go (l : Launch) (D : va_G) (cI cL cZ : ClassId) (ad : Nat → Nat) (g : st_I) (q : st_L) (o : st_L)  (r : st_I) (Q : (st_I → Prop)) (h : wp_M_go  r Q) : ∀ sz, Met l yn_M_go (Cond.code yn_M_go cd_M_go 1 none :: wa_A) { frames := 5, cells := 0, slots := 0, locals := 116 } (va_Pc [.ref (ad 20)] (wq_S D cl_A (wd_T cI cL cZ) nw_A (wd_W cI cL cZ ad g q r o) sz)) (va_Qv Q (fun u t => wq_E D cl_A (wd_T cI cL cZ) (va_A (wd_W cI cL cZ ad g q r o) sz) (wd_W cI cL cZ ad g q u o) t) (va_A (wd_W cI cL cZ ad g q r o) sz)) 0 0 (va_A (wd_W cI cL cZ ad g q r o) sz) := by
  refine sw_met (Qc := fun A => va_Qv Q (fun u t => wq_E D cl_A (wd_T cI cL cZ) A (wd_W cI cL cZ ad g q u o) t) A) (by decide) rfl (Nat.le_of_ble_eq_true rfl) rfl ?_
  intro p e s m args below meth c A X hA hNs hE hr hlk hnm
  have b35 : ∀ (r : st_I), wp_M_go_L35 Q r → sw_J p l e { frames := 5, cells := 0, slots := 0, locals := 116 } s m args below meth c 0 0 (MQ below (va_Qv Q (fun u t => wq_E D cl_A (wd_T cI cL cZ) A (wd_W cI cL cZ ad g q u o) t) A) args s 0 0 A) D cl_A A 1 (wd_W cI cL cZ ad g q r o) 35 [] [] := by
    intro r h
    exact sw_vret X hr hlk (u := r) rfl h dc_M_go_35
  have b0 : ∀ (n : Nat) (r : st_I), wp_M_go_L0 Q n r → sw_J p l e { frames := 5, cells := 0, slots := 0, locals := 116 } s m args below meth c 0 0 (MQ below (va_Qv Q (fun u t => wq_E D cl_A (wd_T cI cL cZ) A (wd_W cI cL cZ ad g q u o) t) A) args s 0 0 A) D cl_A A 1 (wd_W cI cL cZ ad g q r o) 0 [(0, .ref (ad 20))] [] := by
    intro n0
    induction n0 with
    | zero => intro r h; exact h.elim
    | succ n0 hH0 =>
    intro r h
    refine sw_aload_n X 0 rfl rfl dc_M_go_0 ?_
    refine sw_get (v := .int (r 20 13)) X (fun z hz => List.mem_cons_of_mem _ (wf_M z hz)) 20 (wd_20 cI cL cZ ad g q r o) rfl 13 (by decide) (List.mem_cons_of_mem _ wm_fl_M_111) rfl dc_M_go_1 ?_
    refine sw_if_le (tgt := 35) X dc_M_go_4 (by decide) (fun z => ?_) (fun z => ?_)
    · have h := h.1 z
      refine sw_sub [] rfl ?_
      exact b35 r h
    · have h := h.2 z
      refine sw_aload_n X 0 rfl rfl dc_M_go_7 ?_
      refine sw_get (v := .int (r 20 25)) X (fun z hz => List.mem_cons_of_mem _ (wf_M z hz)) 20 (wd_20 cI cL cZ ad g q r o) rfl 25 (by decide) (List.mem_cons_of_mem _ wm_fl_M_167) rfl dc_M_go_8 ?_
      refine sw_if_ne (tgt := 35) X dc_M_go_11 (by decide) (fun z => ?_) (fun z => ?_)
      · have h := h.1 z
        refine sw_sub [] rfl ?_
        exact b35 r h
      · have h := h.2 z
        refine sw_aload_n X 0 rfl rfl dc_M_go_14 ?_
        refine sw_get (v := .int (r 20 24)) X (fun z hz => List.mem_cons_of_mem _ (wf_M z hz)) 20 (wd_20 cI cL cZ ad g q r o) rfl 24 (by decide) (List.mem_cons_of_mem _ wm_fl_M_174) rfl dc_M_go_15 ?_
        refine sw_if_eq (tgt := 28) X dc_M_go_18 (by decide) (fun z => ?_) (fun z => ?_)
        · have h := h.1 z
          refine sw_aload_n X 0 rfl rfl dc_M_go_28 ?_
          refine sw_cV_v (n := 0) X hA nw_okA hNs hE (fun u : st_I => wd_W cI cL cZ ad g q u o) [] 20 (wd_20 cI cL cZ ad g q r o) rfl rfl (ct_M_workOn l D cI cL cZ ad g q o r _ h) (List.mem_cons_of_mem _ wm_ml_M_226) (List.mem_cons_of_mem _ wm_im_M_workOn) (List.mem_cons_of_mem _ wm_se_M_workOn) rfl (wg_in wm_code_M_workOn) rfl rfl (List.mem_cons_of_mem _ wm_in_M) ⟨by decide, by decide, by decide +kernel⟩ ⟨Nat.le_of_ble_eq_true rfl, Nat.le_of_ble_eq_true rfl⟩ ⟨Nat.zero_le _, Nat.zero_le _⟩ rfl (Nat.le_of_ble_eq_true rfl) dc_M_go_29 rfl (fun u29 h => ?_)
          refine sw_goto (tgt := 0) X dc_M_go_32 (by decide) ?_
          exact hH0 u29 h
        · have h := h.2 z
          refine sw_aload_n X 0 rfl rfl dc_M_go_21 ?_
          refine sw_cV_v (n := 0) X hA nw_okA hNs hE (fun u : st_I => wd_W cI cL cZ ad g q u o) [] 20 (wd_20 cI cL cZ ad g q r o) rfl rfl (ct_M_goUp l D cI cL cZ ad g q o r _ h) (List.mem_cons_of_mem _ wm_ml_M_223) (List.mem_cons_of_mem _ wm_im_M_goUp) (List.mem_cons_of_mem _ wm_se_M_goUp) rfl (wg_in wm_code_M_goUp) rfl rfl (List.mem_cons_of_mem _ wm_in_M) ⟨by decide, by decide, by decide +kernel⟩ ⟨Nat.le_of_ble_eq_true rfl, Nat.le_of_ble_eq_true rfl⟩ ⟨Nat.zero_le _, Nat.zero_le _⟩ rfl (Nat.le_of_ble_eq_true rfl) dc_M_go_22 rfl (fun u22 h => ?_)
          refine sw_goto (tgt := 0) X dc_M_go_25 (by decide) ?_
          exact hH0 u22 h
  obtain ⟨n0, h⟩ := h
  exact b0 n0 r h
def wp_M_worked_L37 (Q : (Int32 → st_I → Prop)) (r : st_I)  : Prop := wp_M_go  r (fun u38 => Q (u38 20 18) u38)
def wp_M_worked_L12 (Q : (Int32 → st_I → Prop)) : Nat → st_I → Int32 → Prop
  | 0 => fun _ _ => False
  | n12 + 1 => fun r v2 => ((4 : Int32) ≤ v2 → wp_M_worked_L37 Q r) ∧ (¬ (4 : Int32) ≤ v2 → (¬ (r 20 25) = 0 → wp_M_worked_L37 Q r) ∧ ((r 20 25) = 0 → vp_in v2 256 ∧ (wp_M_worked_L12 Q n12) (st_u r 35 (v2).toNatClampNeg ((-1) : Int32)) (v2 + 1)))
def wp_M_worked (a1 : Int32) (r : st_I) (Q : (Int32 → st_I → Prop)) : Prop := wp_M_work a1 (st_u r 20 13 (0 : Int32)) (fun u7 => ∃ n12, wp_M_worked_L12 Q n12 u7 (0 : Int32))
set_option maxHeartbeats 4000000 in
set_option maxRecDepth 100000 in
theorem ct_M_worked (l : Launch) (D : va_G) (cI cL cZ : ClassId) (ad : Nat → Nat) (g : st_I) (q : st_L) (o : st_L) (a1 : Int32) (r : st_I) (Q : (Int32 → st_I → Prop)) (h : wp_M_worked a1 r Q) : ∀ sz, Met l yn_M_worked (Cond.code yn_M_worked cd_M_worked 3 (some .int) :: wa_A) { frames := 6, cells := 0, slots := 0, locals := 136 } (va_Pc [.ref (ad 20), .int a1] (wq_S D cl_A (wd_T cI cL cZ) nw_A (wd_W cI cL cZ ad g q r o) sz)) (va_Qi Q (fun u t => wq_E D cl_A (wd_T cI cL cZ) (va_A (wd_W cI cL cZ ad g q r o) sz) (wd_W cI cL cZ ad g q u o) t) (va_A (wd_W cI cL cZ ad g q r o) sz)) 0 0 (va_A (wd_W cI cL cZ ad g q r o) sz) := by
  refine sw_met (Qc := fun A => va_Qi Q (fun u t => wq_E D cl_A (wd_T cI cL cZ) A (wd_W cI cL cZ ad g q u o) t) A) (by decide) rfl (Nat.le_of_ble_eq_true rfl) rfl ?_
  intro p e s m args below meth c A X hA hNs hE hr hlk hnm
  have b37 : ∀ (r : st_I), wp_M_worked_L37 Q r → sw_J p l e { frames := 6, cells := 0, slots := 0, locals := 136 } s m args below meth c 0 0 (MQ below (va_Qi Q (fun u t => wq_E D cl_A (wd_T cI cL cZ) A (wd_W cI cL cZ ad g q u o) t) A) args s 0 0 A) D cl_A A 3 (wd_W cI cL cZ ad g q r o) 37 [(0, .ref (ad 20))] [] := by
    intro r h
    refine sw_aload_n X 0 rfl rfl dc_M_worked_37 ?_
    refine sw_cV_v (n := 0) X hA nw_okA hNs hE (fun u : st_I => wd_W cI cL cZ ad g q u o) [] 20 (wd_20 cI cL cZ ad g q r o) rfl rfl (ct_M_go l D cI cL cZ ad g q o r _ h) (List.mem_cons_of_mem _ wm_ml_M_229) (List.mem_cons_of_mem _ wm_im_M_go) (List.mem_cons_of_mem _ wm_se_M_go) rfl (wg_in wm_code_M_go) rfl rfl (List.mem_cons_of_mem _ wm_in_M) ⟨by decide, by decide, by decide +kernel⟩ ⟨Nat.le_of_ble_eq_true rfl, Nat.le_of_ble_eq_true rfl⟩ ⟨Nat.zero_le _, Nat.zero_le _⟩ rfl (Nat.le_of_ble_eq_true rfl) dc_M_worked_38 rfl (fun u38 h => ?_)
    refine sw_aload_n X 0 rfl rfl dc_M_worked_41 ?_
    refine sw_get (v := .int (u38 20 18)) X (fun z hz => List.mem_cons_of_mem _ (wf_M z hz)) 20 (wd_20 cI cL cZ ad g q u38 o) rfl 18 (by decide) (List.mem_cons_of_mem _ wm_fl_M_125) rfl dc_M_worked_42 ?_
    exact sw_iret X hr hlk (u := u38) rfl h dc_M_worked_45
  have b12 : ∀ (n : Nat) (r : st_I) (v2 : Int32), wp_M_worked_L12 Q n r v2 → sw_J p l e { frames := 6, cells := 0, slots := 0, locals := 136 } s m args below meth c 0 0 (MQ below (va_Qi Q (fun u t => wq_E D cl_A (wd_T cI cL cZ) A (wd_W cI cL cZ ad g q u o) t) A) args s 0 0 A) D cl_A A 3 (wd_W cI cL cZ ad g q r o) 12 [(0, .ref (ad 20)), (2, .int v2)] [] := by
    intro n12
    induction n12 with
    | zero => intro r v2 h; exact h.elim
    | succ n12 hH12 =>
    intro r v2 h
    refine sw_iload_n X 1 rfl rfl dc_M_worked_12 ?_
    refine sw_iconst (v := 4) X dc_M_worked_13 (by decide) ?_
    refine sw_icmp_ge (tgt := 37) X dc_M_worked_14 (by decide) (fun z => ?_) (fun z => ?_)
    · have h := h.1 z
      refine sw_sub [0] rfl ?_
      exact b37 r h
    · have h := h.2 z
      refine sw_aload_n X 0 rfl rfl dc_M_worked_17 ?_
      refine sw_get (v := .int (r 20 25)) X (fun z hz => List.mem_cons_of_mem _ (wf_M z hz)) 20 (wd_20 cI cL cZ ad g q r o) rfl 25 (by decide) (List.mem_cons_of_mem _ wm_fl_M_167) rfl dc_M_worked_18 ?_
      refine sw_if_ne (tgt := 37) X dc_M_worked_21 (by decide) (fun z => ?_) (fun z => ?_)
      · have h := h.1 z
        refine sw_sub [0] rfl ?_
        exact b37 r h
      · have h := h.2 z
        refine sw_aload_n X 0 rfl rfl dc_M_worked_24 ?_
        refine sw_get X (fun z hz => List.mem_cons_of_mem _ (wf_M z hz)) 20 (wd_20 cI cL cZ ad g q r o) rfl 16 (by decide) (List.mem_cons_of_mem _ wm_fl_M_53) rfl dc_M_worked_25 ?_
        refine sw_iload_n X 1 rfl rfl dc_M_worked_28 ?_
        refine sw_iconst (v := -1) X dc_M_worked_29 (by decide) ?_
        refine sw_iast X 35 0 (wd_35 cI cL cZ ad g q r o) rfl h.1 (wd_W cI cL cZ ad g q (st_u r 35 (v2).toNatClampNeg ((-1) : Int32)) o) (ws_35 cI cL cZ ad g q r o (v2).toNatClampNeg ((-1) : Int32)) dc_M_worked_30 ?_
        have h := h.2
        refine sw_iinc (n := 1) (v := (v2 + 1)) X 1 rfl rfl [(2, .int (v2 + 1)), (0, .ref (ad 20))] rfl (by decide) dc_M_worked_31 ?_
        refine sw_goto (tgt := 12) X dc_M_worked_34 (by decide) ?_
        refine sw_sub [1, 0] rfl ?_
        exact hH12 (st_u r 35 (v2).toNatClampNeg ((-1) : Int32)) (v2 + 1) h
  refine sw_aload_n X 0 rfl rfl dc_M_worked_0 ?_
  refine sw_iconst (v := 0) X dc_M_worked_1 (by decide) ?_
  refine sw_put (ty := .int) X (fun z hz => List.mem_cons_of_mem _ (wf_M z hz)) fy_M fo_M fn_M 20 (wd_20 cI cL cZ ad g q r o) rfl 13 (by decide) (List.mem_cons_of_mem _ wm_fl_M_111) rfl (by decide +kernel) rfl rfl (Nat.le_of_ble_eq_true rfl) (wd_W cI cL cZ ad g q (st_u r 20 13 (0 : Int32)) o) (ws_20_13 cI cL cZ ad g q r o (0 : Int32)) dc_M_worked_2 ?_
  refine sw_aload_n X 0 rfl rfl dc_M_worked_5 ?_
  refine sw_iload_n X 1 rfl rfl dc_M_worked_6 ?_
  refine sw_cV_v (n := 1) X hA nw_okA hNs hE (fun u : st_I => wd_W cI cL cZ ad g q u o) [.int a1] 20 (wd_20 cI cL cZ ad g q (st_u r 20 13 (0 : Int32)) o) rfl rfl (ct_M_work l D cI cL cZ ad g q o a1 (st_u r 20 13 (0 : Int32)) _ h) (List.mem_cons_of_mem _ wm_ml_M_207) (List.mem_cons_of_mem _ wm_im_M_work) (List.mem_cons_of_mem _ wm_se_M_work) rfl (wg_in wm_code_M_work) rfl rfl (List.mem_cons_of_mem _ wm_in_M) ⟨by decide, by decide, by decide +kernel⟩ ⟨Nat.le_of_ble_eq_true rfl, Nat.le_of_ble_eq_true rfl⟩ ⟨Nat.zero_le _, Nat.zero_le _⟩ rfl (Nat.le_of_ble_eq_true rfl) dc_M_worked_7 rfl (fun u7 h => ?_)
  refine sw_iconst (v := 0) X dc_M_worked_10 (by decide) ?_
  refine sw_istore_n X [(2, .int (0 : Int32)), (0, .ref (ad 20)), (1, .int a1)] rfl (by decide) rfl dc_M_worked_11 ?_
  refine sw_sub [1, 0] rfl ?_
  obtain ⟨n12, h⟩ := h
  exact b12 n12 u7 (0 : Int32) h
def wp_M_flatten_L126 (Q : (st_I → Prop)) (r : st_I)  : Prop := Q r
def wp_M_flatten_L123 (Q : (st_I → Prop)) (H14 : st_I → Int32 → Prop) (r : st_I) (v2 : Int32) : Prop := H14 r v2
def wp_M_flatten_L72 (Q : (st_I → Prop)) (H14 : st_I → Int32 → Prop) (r : st_I) (v2 : Int32) (v3 : Int32) (t0 : Int32) (t1 : Int32) : Prop := vp_in t1 60 ∧ vp_in v3 460 ∧ (¬ (r 37 (v3).toNatClampNeg) = (8 : Int32) → wp_M_flatten_L123 Q H14 (st_u (st_u r 43 (t1).toNatClampNeg t0) 20 33 ((r 20 33) + (1 : Int32))) v2) ∧ ((r 37 (v3).toNatClampNeg) = (8 : Int32) → vp_in v3 460 ∧ vp_in v2 400 ∧ vp_in v3 460 ∧ vp_in (v2 + (1 : Int32)) 400 ∧ wp_M_flatten_L123 Q H14 (st_u (st_u (st_u (st_u r 43 (t1).toNatClampNeg t0) 20 33 ((r 20 33) + (1 : Int32))) 41 (v2).toNatClampNeg (r 40 (v3).toNatClampNeg)) 41 ((v2 + (1 : Int32))).toNatClampNeg (r 39 (v3).toNatClampNeg)) (v2 + 2))
def wp_M_flatten_L14 (Q : (st_I → Prop)) : Nat → st_I → Int32 → Prop
  | 0 => fun _ _ => False
  | n14 + 1 => fun r v2 => (v2 ≤ 0 → wp_M_flatten_L126 Q r) ∧ (¬ v2 ≤ 0 → ((60 : Int32) ≤ (r 20 33) → wp_M_flatten_L126 Q r) ∧ (¬ (60 : Int32) ≤ (r 20 33) → vp_in (v2 + (-1)) 400 ∧ vp_in (r 41 ((v2 + (-1))).toNatClampNeg) 460 ∧ wp_M_isNumber (r 37 ((r 41 ((v2 + (-1))).toNatClampNeg)).toNatClampNeg) r (fun x51 u51 => (x51 = 0 → vp_in (r 41 ((v2 + (-1))).toNatClampNeg) 460 ∧ wp_M_flatten_L72 Q (wp_M_flatten_L14 Q n14) u51 (v2 + (-1)) (r 41 ((v2 + (-1))).toNatClampNeg) (u51 37 ((r 41 ((v2 + (-1))).toNatClampNeg)).toNatClampNeg) (r 20 33)) ∧ (¬ x51 = 0 → vp_in (r 41 ((v2 + (-1))).toNatClampNeg) 460 ∧ wp_M_flatten_L72 Q (wp_M_flatten_L14 Q n14) u51 (v2 + (-1)) (r 41 ((v2 + (-1))).toNatClampNeg) (u51 38 ((r 41 ((v2 + (-1))).toNatClampNeg)).toNatClampNeg) (r 20 33)))))
def wp_M_flatten (a1 : Int32) (r : st_I) (Q : (st_I → Prop)) : Prop := vp_in (0 : Int32) 400 ∧ ∃ n14, wp_M_flatten_L14 Q n14 (st_u (st_u r 41 ((0 : Int32)).toNatClampNeg a1) 20 33 (0 : Int32)) (1 : Int32)
set_option maxHeartbeats 4000000 in
set_option maxRecDepth 100000 in
theorem ct_M_flatten (l : Launch) (D : va_G) (cI cL cZ : ClassId) (ad : Nat → Nat) (g : st_I) (q : st_L) (o : st_L) (a1 : Int32) (r : st_I) (Q : (st_I → Prop)) (h : wp_M_flatten a1 r Q) : ∀ sz, Met l yn_M_flatten (Cond.code yn_M_flatten cd_M_flatten 4 none :: wa_A) { frames := 1, cells := 0, slots := 0, locals := 20 } (va_Pc [.ref (ad 20), .int a1] (wq_S D cl_A (wd_T cI cL cZ) nw_A (wd_W cI cL cZ ad g q r o) sz)) (va_Qv Q (fun u t => wq_E D cl_A (wd_T cI cL cZ) (va_A (wd_W cI cL cZ ad g q r o) sz) (wd_W cI cL cZ ad g q u o) t) (va_A (wd_W cI cL cZ ad g q r o) sz)) 0 0 (va_A (wd_W cI cL cZ ad g q r o) sz) := by
  refine sw_met (Qc := fun A => va_Qv Q (fun u t => wq_E D cl_A (wd_T cI cL cZ) A (wd_W cI cL cZ ad g q u o) t) A) (by decide) rfl (Nat.le_of_ble_eq_true rfl) rfl ?_
  intro p e s m args below meth c A X hA hNs hE hr hlk hnm
  have b126 : ∀ (r : st_I), wp_M_flatten_L126 Q r → sw_J p l e { frames := 1, cells := 0, slots := 0, locals := 20 } s m args below meth c 0 0 (MQ below (va_Qv Q (fun u t => wq_E D cl_A (wd_T cI cL cZ) A (wd_W cI cL cZ ad g q u o) t) A) args s 0 0 A) D cl_A A 4 (wd_W cI cL cZ ad g q r o) 126 [] [] := by
    intro r h
    exact sw_vret X hr hlk (u := r) rfl h dc_M_flatten_126
  have b123 : ∀ (H14 : st_I → Int32 → Prop) (hH14 : ∀ (r : st_I) (v2 : Int32), H14 r v2 → sw_J p l e { frames := 1, cells := 0, slots := 0, locals := 20 } s m args below meth c 0 0 (MQ below (va_Qv Q (fun u t => wq_E D cl_A (wd_T cI cL cZ) A (wd_W cI cL cZ ad g q u o) t) A) args s 0 0 A) D cl_A A 4 (wd_W cI cL cZ ad g q r o) 14 [(0, .ref (ad 20)), (2, .int v2)] []) (r : st_I) (v2 : Int32), wp_M_flatten_L123 Q H14 r v2 → sw_J p l e { frames := 1, cells := 0, slots := 0, locals := 20 } s m args below meth c 0 0 (MQ below (va_Qv Q (fun u t => wq_E D cl_A (wd_T cI cL cZ) A (wd_W cI cL cZ ad g q u o) t) A) args s 0 0 A) D cl_A A 4 (wd_W cI cL cZ ad g q r o) 123 [(0, .ref (ad 20)), (2, .int v2)] [] := by
    intro H14 hH14 r v2 h
    refine sw_goto (tgt := 14) X dc_M_flatten_123 (by decide) ?_
    exact hH14 r v2 h
  have b72 : ∀ (H14 : st_I → Int32 → Prop) (hH14 : ∀ (r : st_I) (v2 : Int32), H14 r v2 → sw_J p l e { frames := 1, cells := 0, slots := 0, locals := 20 } s m args below meth c 0 0 (MQ below (va_Qv Q (fun u t => wq_E D cl_A (wd_T cI cL cZ) A (wd_W cI cL cZ ad g q u o) t) A) args s 0 0 A) D cl_A A 4 (wd_W cI cL cZ ad g q r o) 14 [(0, .ref (ad 20)), (2, .int v2)] []) (r : st_I) (v2 : Int32) (v3 : Int32) (t0 : Int32) (t1 : Int32), wp_M_flatten_L72 Q H14 r v2 v3 t0 t1 → sw_J p l e { frames := 1, cells := 0, slots := 0, locals := 20 } s m args below meth c 0 0 (MQ below (va_Qv Q (fun u t => wq_E D cl_A (wd_T cI cL cZ) A (wd_W cI cL cZ ad g q u o) t) A) args s 0 0 A) D cl_A A 4 (wd_W cI cL cZ ad g q r o) 72 [(0, .ref (ad 20)), (2, .int v2), (3, .int v3)] [.int t0, .int t1, .ref (ad 43)] := by
    intro H14 hH14 r v2 v3 t0 t1 h
    refine sw_iast X 43 0 (wd_43 cI cL cZ ad g q r o) rfl h.1 (wd_W cI cL cZ ad g q (st_u r 43 (t1).toNatClampNeg t0) o) (ws_43 cI cL cZ ad g q r o (t1).toNatClampNeg t0) dc_M_flatten_72 ?_
    have h := h.2
    refine sw_aload_n X 0 rfl rfl dc_M_flatten_73 ?_
    refine sw_dup X dc_M_flatten_74 rfl ?_
    refine sw_get (v := .int (r 20 33)) X (fun z hz => List.mem_cons_of_mem _ (wf_M z hz)) 20 (wd_20 cI cL cZ ad g q (st_u r 43 (t1).toNatClampNeg t0) o) rfl 33 (by decide) (List.mem_cons_of_mem _ wm_fl_M_232) rfl dc_M_flatten_75 ?_
    refine sw_iconst (v := 1) X dc_M_flatten_78 (by decide) ?_
    refine sw_iadd X dc_M_flatten_79 ?_
    refine sw_put (ty := .int) X (fun z hz => List.mem_cons_of_mem _ (wf_M z hz)) fy_M fo_M fn_M 20 (wd_20 cI cL cZ ad g q (st_u r 43 (t1).toNatClampNeg t0) o) rfl 33 (by decide) (List.mem_cons_of_mem _ wm_fl_M_232) rfl (by decide +kernel) rfl rfl (Nat.le_of_ble_eq_true rfl) (wd_W cI cL cZ ad g q (st_u (st_u r 43 (t1).toNatClampNeg t0) 20 33 ((r 20 33) + (1 : Int32))) o) (ws_20_33 cI cL cZ ad g q (st_u r 43 (t1).toNatClampNeg t0) o ((r 20 33) + (1 : Int32))) dc_M_flatten_80 ?_
    refine sw_aload_n X 0 rfl rfl dc_M_flatten_83 ?_
    refine sw_get X (fun z hz => List.mem_cons_of_mem _ (wf_M z hz)) 20 (wd_20 cI cL cZ ad g q (st_u (st_u r 43 (t1).toNatClampNeg t0) 20 33 ((r 20 33) + (1 : Int32))) o) rfl 20 (by decide) (List.mem_cons_of_mem _ wm_fl_M_59) rfl dc_M_flatten_84 ?_
    refine sw_iload_n X 2 rfl rfl dc_M_flatten_87 ?_
    refine sw_iald X 37 0 (wd_37 cI cL cZ ad g q (st_u (st_u r 43 (t1).toNatClampNeg t0) 20 33 ((r 20 33) + (1 : Int32))) o) rfl h.1 dc_M_flatten_88 ?_
    have h := h.2
    refine sw_eq (st' := [.int (r 37 (v3).toNatClampNeg)]) rfl rfl rfl ?_
    refine sw_bipush (v := 8) X dc_M_flatten_89 (by decide) ?_
    refine sw_icmp_ne (tgt := 123) X dc_M_flatten_91 (by decide) (fun z => ?_) (fun z => ?_)
    · have h := h.1 z
      refine sw_sub [0, 1] rfl ?_
      exact b123 H14 hH14 (st_u (st_u r 43 (t1).toNatClampNeg t0) 20 33 ((r 20 33) + (1 : Int32))) v2 h
    · have h := h.2 z
      refine sw_aload_n X 0 rfl rfl dc_M_flatten_94 ?_
      refine sw_get X (fun z hz => List.mem_cons_of_mem _ (wf_M z hz)) 20 (wd_20 cI cL cZ ad g q (st_u (st_u r 43 (t1).toNatClampNeg t0) 20 33 ((r 20 33) + (1 : Int32))) o) rfl 31 (by decide) (List.mem_cons_of_mem _ wm_fl_M_71) rfl dc_M_flatten_95 ?_
      refine sw_iload_n X 1 rfl rfl dc_M_flatten_98 ?_
      refine sw_aload_n X 0 rfl rfl dc_M_flatten_99 ?_
      refine sw_get X (fun z hz => List.mem_cons_of_mem _ (wf_M z hz)) 20 (wd_20 cI cL cZ ad g q (st_u (st_u r 43 (t1).toNatClampNeg t0) 20 33 ((r 20 33) + (1 : Int32))) o) rfl 23 (by decide) (List.mem_cons_of_mem _ wm_fl_M_68) rfl dc_M_flatten_100 ?_
      refine sw_iload_n X 2 rfl rfl dc_M_flatten_103 ?_
      refine sw_iald X 40 0 (wd_40 cI cL cZ ad g q (st_u (st_u r 43 (t1).toNatClampNeg t0) 20 33 ((r 20 33) + (1 : Int32))) o) rfl h.1 dc_M_flatten_104 ?_
      have h := h.2
      refine sw_eq (st' := [.int (r 40 (v3).toNatClampNeg), .int v2, .ref (ad 41)]) rfl rfl rfl ?_
      refine sw_iast X 41 0 (wd_41 cI cL cZ ad g q (st_u (st_u r 43 (t1).toNatClampNeg t0) 20 33 ((r 20 33) + (1 : Int32))) o) rfl h.1 (wd_W cI cL cZ ad g q (st_u (st_u (st_u r 43 (t1).toNatClampNeg t0) 20 33 ((r 20 33) + (1 : Int32))) 41 (v2).toNatClampNeg (r 40 (v3).toNatClampNeg)) o) (ws_41 cI cL cZ ad g q (st_u (st_u r 43 (t1).toNatClampNeg t0) 20 33 ((r 20 33) + (1 : Int32))) o (v2).toNatClampNeg (r 40 (v3).toNatClampNeg)) dc_M_flatten_105 ?_
      have h := h.2
      refine sw_aload_n X 0 rfl rfl dc_M_flatten_106 ?_
      refine sw_get X (fun z hz => List.mem_cons_of_mem _ (wf_M z hz)) 20 (wd_20 cI cL cZ ad g q (st_u (st_u (st_u r 43 (t1).toNatClampNeg t0) 20 33 ((r 20 33) + (1 : Int32))) 41 (v2).toNatClampNeg (r 40 (v3).toNatClampNeg)) o) rfl 31 (by decide) (List.mem_cons_of_mem _ wm_fl_M_71) rfl dc_M_flatten_107 ?_
      refine sw_iload_n X 1 rfl rfl dc_M_flatten_110 ?_
      refine sw_iconst (v := 1) X dc_M_flatten_111 (by decide) ?_
      refine sw_iadd X dc_M_flatten_112 ?_
      refine sw_aload_n X 0 rfl rfl dc_M_flatten_113 ?_
      refine sw_get X (fun z hz => List.mem_cons_of_mem _ (wf_M z hz)) 20 (wd_20 cI cL cZ ad g q (st_u (st_u (st_u r 43 (t1).toNatClampNeg t0) 20 33 ((r 20 33) + (1 : Int32))) 41 (v2).toNatClampNeg (r 40 (v3).toNatClampNeg)) o) rfl 22 (by decide) (List.mem_cons_of_mem _ wm_fl_M_65) rfl dc_M_flatten_114 ?_
      refine sw_iload_n X 2 rfl rfl dc_M_flatten_117 ?_
      refine sw_iald X 39 0 (wd_39 cI cL cZ ad g q (st_u (st_u (st_u r 43 (t1).toNatClampNeg t0) 20 33 ((r 20 33) + (1 : Int32))) 41 (v2).toNatClampNeg (r 40 (v3).toNatClampNeg)) o) rfl h.1 dc_M_flatten_118 ?_
      have h := h.2
      refine sw_eq (st' := [.int (r 39 (v3).toNatClampNeg), .int (v2 + (1 : Int32)), .ref (ad 41)]) rfl rfl rfl ?_
      refine sw_iast X 41 0 (wd_41 cI cL cZ ad g q (st_u (st_u (st_u r 43 (t1).toNatClampNeg t0) 20 33 ((r 20 33) + (1 : Int32))) 41 (v2).toNatClampNeg (r 40 (v3).toNatClampNeg)) o) rfl h.1 (wd_W cI cL cZ ad g q (st_u (st_u (st_u (st_u r 43 (t1).toNatClampNeg t0) 20 33 ((r 20 33) + (1 : Int32))) 41 (v2).toNatClampNeg (r 40 (v3).toNatClampNeg)) 41 ((v2 + (1 : Int32))).toNatClampNeg (r 39 (v3).toNatClampNeg)) o) (ws_41 cI cL cZ ad g q (st_u (st_u (st_u r 43 (t1).toNatClampNeg t0) 20 33 ((r 20 33) + (1 : Int32))) 41 (v2).toNatClampNeg (r 40 (v3).toNatClampNeg)) o ((v2 + (1 : Int32))).toNatClampNeg (r 39 (v3).toNatClampNeg)) dc_M_flatten_119 ?_
      have h := h.2
      refine sw_iinc (n := 2) (v := (v2 + 2)) X 1 rfl rfl [(2, .int (v2 + 2)), (0, .ref (ad 20)), (3, .int v3)] rfl (by decide) dc_M_flatten_120 ?_
      refine sw_sub [1, 0] rfl ?_
      exact b123 H14 hH14 (st_u (st_u (st_u (st_u r 43 (t1).toNatClampNeg t0) 20 33 ((r 20 33) + (1 : Int32))) 41 (v2).toNatClampNeg (r 40 (v3).toNatClampNeg)) 41 ((v2 + (1 : Int32))).toNatClampNeg (r 39 (v3).toNatClampNeg)) (v2 + 2) h
  have b14 : ∀ (n : Nat) (r : st_I) (v2 : Int32), wp_M_flatten_L14 Q n r v2 → sw_J p l e { frames := 1, cells := 0, slots := 0, locals := 20 } s m args below meth c 0 0 (MQ below (va_Qv Q (fun u t => wq_E D cl_A (wd_T cI cL cZ) A (wd_W cI cL cZ ad g q u o) t) A) args s 0 0 A) D cl_A A 4 (wd_W cI cL cZ ad g q r o) 14 [(0, .ref (ad 20)), (2, .int v2)] [] := by
    intro n14
    induction n14 with
    | zero => intro r v2 h; exact h.elim
    | succ n14 hH14 =>
    intro r v2 h
    refine sw_iload_n X 1 rfl rfl dc_M_flatten_14 ?_
    refine sw_if_le (tgt := 126) X dc_M_flatten_15 (by decide) (fun z => ?_) (fun z => ?_)
    · have h := h.1 z
      refine sw_sub [] rfl ?_
      exact b126 r h
    · have h := h.2 z
      refine sw_aload_n X 0 rfl rfl dc_M_flatten_18 ?_
      refine sw_get (v := .int (r 20 33)) X (fun z hz => List.mem_cons_of_mem _ (wf_M z hz)) 20 (wd_20 cI cL cZ ad g q r o) rfl 33 (by decide) (List.mem_cons_of_mem _ wm_fl_M_232) rfl dc_M_flatten_19 ?_
      refine sw_bipush (v := 60) X dc_M_flatten_22 (by decide) ?_
      refine sw_icmp_ge (tgt := 126) X dc_M_flatten_24 (by decide) (fun z => ?_) (fun z => ?_)
      · have h := h.1 z
        refine sw_sub [] rfl ?_
        exact b126 r h
      · have h := h.2 z
        refine sw_iinc (n := -1) (v := (v2 + (-1))) X 1 rfl rfl [(2, .int (v2 + (-1))), (0, .ref (ad 20))] rfl (by decide) dc_M_flatten_27 ?_
        refine sw_aload_n X 1 rfl rfl dc_M_flatten_30 ?_
        refine sw_get X (fun z hz => List.mem_cons_of_mem _ (wf_M z hz)) 20 (wd_20 cI cL cZ ad g q r o) rfl 31 (by decide) (List.mem_cons_of_mem _ wm_fl_M_71) rfl dc_M_flatten_31 ?_
        refine sw_iload_n X 0 rfl rfl dc_M_flatten_34 ?_
        refine sw_iald X 41 0 (wd_41 cI cL cZ ad g q r o) rfl h.1 dc_M_flatten_35 ?_
        have h := h.2
        refine sw_istore_n X [(3, .int (r 41 ((v2 + (-1))).toNatClampNeg)), (2, .int (v2 + (-1))), (0, .ref (ad 20))] rfl (by decide) rfl dc_M_flatten_36 ?_
        refine sw_aload_n X 2 rfl rfl dc_M_flatten_37 ?_
        refine sw_get X (fun z hz => List.mem_cons_of_mem _ (wf_M z hz)) 20 (wd_20 cI cL cZ ad g q r o) rfl 34 (by decide) (List.mem_cons_of_mem _ wm_fl_M_77) rfl dc_M_flatten_38 ?_
        refine sw_aload_n X 2 rfl rfl dc_M_flatten_41 ?_
        refine sw_get (v := .int (r 20 33)) X (fun z hz => List.mem_cons_of_mem _ (wf_M z hz)) 20 (wd_20 cI cL cZ ad g q r o) rfl 33 (by decide) (List.mem_cons_of_mem _ wm_fl_M_232) rfl dc_M_flatten_42 ?_
        refine sw_aload_n X 2 rfl rfl dc_M_flatten_45 ?_
        refine sw_get X (fun z hz => List.mem_cons_of_mem _ (wf_M z hz)) 20 (wd_20 cI cL cZ ad g q r o) rfl 20 (by decide) (List.mem_cons_of_mem _ wm_fl_M_59) rfl dc_M_flatten_46 ?_
        refine sw_iload_n X 0 rfl rfl dc_M_flatten_49 ?_
        refine sw_iald X 37 0 (wd_37 cI cL cZ ad g q r o) rfl h.1 dc_M_flatten_50 ?_
        have h := h.2
        refine sw_cS_i (n := 1) X hA nw_okA hNs hE (fun u : st_I => wd_W cI cL cZ ad g q u o) [.int (r 37 ((r 41 ((v2 + (-1))).toNatClampNeg)).toNatClampNeg)] (ct_M_isNumber l D cI cL cZ ad g q o (r 37 ((r 41 ((v2 + (-1))).toNatClampNeg)).toNatClampNeg) r _ h) (List.mem_cons_of_mem _ wm_ml_M_195) (List.mem_cons_of_mem _ wm_st_M_isNumber) rfl (wg_in wm_code_M_isNumber) rfl rfl (List.mem_cons_of_mem _ wm_in_M) ⟨by decide, by decide, by decide +kernel⟩ ⟨Nat.le_of_ble_eq_true rfl, Nat.le_of_ble_eq_true rfl⟩ ⟨Nat.zero_le _, Nat.zero_le _⟩ rfl (Nat.le_of_ble_eq_true rfl) dc_M_flatten_51 rfl (fun x51 u51 h => ?_)
        refine sw_if_eq (tgt := 66) X dc_M_flatten_54 (by decide) (fun z => ?_) (fun z => ?_)
        · have h := h.1 z
          refine sw_aload_n X 2 rfl rfl dc_M_flatten_66 ?_
          refine sw_get X (fun z hz => List.mem_cons_of_mem _ (wf_M z hz)) 20 (wd_20 cI cL cZ ad g q u51 o) rfl 20 (by decide) (List.mem_cons_of_mem _ wm_fl_M_59) rfl dc_M_flatten_67 ?_
          refine sw_iload_n X 0 rfl rfl dc_M_flatten_70 ?_
          refine sw_iald X 37 0 (wd_37 cI cL cZ ad g q u51 o) rfl h.1 dc_M_flatten_71 ?_
          have h := h.2
          refine sw_sub [2, 1, 0] rfl ?_
          exact b72 (wp_M_flatten_L14 Q n14) hH14 u51 (v2 + (-1)) (r 41 ((v2 + (-1))).toNatClampNeg) (u51 37 ((r 41 ((v2 + (-1))).toNatClampNeg)).toNatClampNeg) (r 20 33) h
        · have h := h.2 z
          refine sw_aload_n X 2 rfl rfl dc_M_flatten_57 ?_
          refine sw_get X (fun z hz => List.mem_cons_of_mem _ (wf_M z hz)) 20 (wd_20 cI cL cZ ad g q u51 o) rfl 21 (by decide) (List.mem_cons_of_mem _ wm_fl_M_62) rfl dc_M_flatten_58 ?_
          refine sw_iload_n X 0 rfl rfl dc_M_flatten_61 ?_
          refine sw_iald X 38 0 (wd_38 cI cL cZ ad g q u51 o) rfl h.1 dc_M_flatten_62 ?_
          have h := h.2
          refine sw_goto (tgt := 72) X dc_M_flatten_63 (by decide) ?_
          refine sw_sub [2, 1, 0] rfl ?_
          exact b72 (wp_M_flatten_L14 Q n14) hH14 u51 (v2 + (-1)) (r 41 ((v2 + (-1))).toNatClampNeg) (u51 38 ((r 41 ((v2 + (-1))).toNatClampNeg)).toNatClampNeg) (r 20 33) h
  refine sw_iconst (v := 1) X dc_M_flatten_0 (by decide) ?_
  refine sw_istore_n X [(2, .int (1 : Int32)), (0, .ref (ad 20)), (1, .int a1)] rfl (by decide) rfl dc_M_flatten_1 ?_
  refine sw_aload_n X 1 rfl rfl dc_M_flatten_2 ?_
  refine sw_get X (fun z hz => List.mem_cons_of_mem _ (wf_M z hz)) 20 (wd_20 cI cL cZ ad g q r o) rfl 31 (by decide) (List.mem_cons_of_mem _ wm_fl_M_71) rfl dc_M_flatten_3 ?_
  refine sw_iconst (v := 0) X dc_M_flatten_6 (by decide) ?_
  refine sw_iload_n X 2 rfl rfl dc_M_flatten_7 ?_
  refine sw_iast X 41 0 (wd_41 cI cL cZ ad g q r o) rfl h.1 (wd_W cI cL cZ ad g q (st_u r 41 ((0 : Int32)).toNatClampNeg a1) o) (ws_41 cI cL cZ ad g q r o ((0 : Int32)).toNatClampNeg a1) dc_M_flatten_8 ?_
  have h := h.2
  refine sw_aload_n X 1 rfl rfl dc_M_flatten_9 ?_
  refine sw_iconst (v := 0) X dc_M_flatten_10 (by decide) ?_
  refine sw_put (ty := .int) X (fun z hz => List.mem_cons_of_mem _ (wf_M z hz)) fy_M fo_M fn_M 20 (wd_20 cI cL cZ ad g q (st_u r 41 ((0 : Int32)).toNatClampNeg a1) o) rfl 33 (by decide) (List.mem_cons_of_mem _ wm_fl_M_232) rfl (by decide +kernel) rfl rfl (Nat.le_of_ble_eq_true rfl) (wd_W cI cL cZ ad g q (st_u (st_u r 41 ((0 : Int32)).toNatClampNeg a1) 20 33 (0 : Int32)) o) (ws_20_33 cI cL cZ ad g q (st_u r 41 ((0 : Int32)).toNatClampNeg a1) o (0 : Int32)) dc_M_flatten_11 ?_
  refine sw_sub [1, 0] rfl ?_
  obtain ⟨n14, h⟩ := h
  exact b14 n14 (st_u (st_u r 41 ((0 : Int32)).toNatClampNeg a1) 20 33 (0 : Int32)) (1 : Int32) h
def wp_M_run_L195 (Q : (Int32 → st_I → Prop)) (r : st_I) (t0 : Int32) : Prop := (t0 = 0 → wp_M_flatten (r 20 18) (st_u r 20 35 t0) (fun u212 => vp_in (u212 20 18) 460 ∧ Q (u212 37 ((u212 20 18)).toNatClampNeg) u212)) ∧ (¬ t0 = 0 → Q (0 : Int32) (st_u r 20 35 t0))
def wp_M_run_L171 (Q : (Int32 → st_I → Prop)) (r : st_I)  : Prop := ((r 20 25) = 0 → ((r 20 24) = 0 → wp_M_run_L195 Q r (0 : Int32)) ∧ (¬ (r 20 24) = 0 → wp_M_run_L195 Q r (2 : Int32))) ∧ (¬ (r 20 25) = 0 → wp_M_run_L195 Q r (3 : Int32))
def wp_M_run_L139 (Q : (Int32 → st_I → Prop)) (r : st_I) (v1 : Int32) (v5 : Int32) (v6 : Int32) : Prop := (¬ (r 20 24) = 0 → wp_M_run_L171 Q r) ∧ ((r 20 24) = 0 → (¬ (r 20 25) = 0 → wp_M_run_L171 Q r) ∧ ((r 20 25) = 0 → wp_M_call v1 v5 v6 (st_u r 20 13 (0 : Int32)) (fun u164 => wp_M_go  u164 (fun u168 => wp_M_run_L171 Q u168))))
def wp_M_run_L50 (Q : (Int32 → st_I → Prop)) (r : st_I) (v1 : Int32) (v2 : Int32) (v3 : Int32) (v4 : Int32) (t0 : Int32) : Prop := (v4 = 0 → wp_M_worked v2 (st_u (st_u (st_u (st_u (st_u (st_u (st_u (st_u (st_u r 20 35 t0) 20 19 (0 : Int32)) 20 24 (0 : Int32)) 20 25 (0 : Int32)) 20 26 (0 : Int32)) 20 27 (0 : Int32)) 20 28 (0 : Int32)) 20 29 (0 : Int32)) 20 30 (0 : Int32)) (fun x102 u102 => (¬ (u102 20 24) = 0 → wp_M_run_L139 Q u102 v1 x102 ((-1) : Int32)) ∧ ((u102 20 24) = 0 → (¬ (u102 20 25) = 0 → wp_M_run_L139 Q u102 v1 x102 ((-1) : Int32)) ∧ ((u102 20 25) = 0 → wp_M_parameters v1 u102 (fun x125 u125 => (¬ x125 = (2 : Int32) → wp_M_run_L139 Q u125 v1 x102 ((-1) : Int32)) ∧ (x125 = (2 : Int32) → wp_M_worked v3 u125 (fun x134 u134 => wp_M_run_L139 Q u134 v1 x102 x134))))))) ∧ (¬ v4 = 0 → Q (0 : Int32) (st_u r 20 35 t0))
def wp_M_run_L37 (Q : (Int32 → st_I → Prop)) (r : st_I) (v1 : Int32) (v2 : Int32) (v3 : Int32) (t0 : Int32) : Prop := (t0 = 0 → wp_M_run_L50 Q r v1 v2 v3 t0 (0 : Int32)) ∧ (¬ t0 = 0 → wp_M_run_L50 Q r v1 v2 v3 t0 (1 : Int32))
def wp_M_run_L32 (Q : (Int32 → st_I → Prop)) (r : st_I) (v1 : Int32) (v2 : Int32) (v3 : Int32) : Prop := wp_M_run_L37 Q r v1 v2 v3 (1 : Int32)
def wp_M_run_L36 (Q : (Int32 → st_I → Prop)) (r : st_I) (v1 : Int32) (v2 : Int32) (v3 : Int32) : Prop := wp_M_run_L37 Q r v1 v2 v3 (0 : Int32)
def wp_M_run (a1 : Int32) (a2 : Int32) (a3 : Int32) (r : st_I) (Q : (Int32 → st_I → Prop)) : Prop := wp_M_outside a1 (5 : Int32) r (fun x2 u2 => (¬ x2 = 0 → wp_M_run_L32 Q u2 a1 a2 a3) ∧ (x2 = 0 → wp_M_isPart a2 u2 (fun x10 u10 => (x10 = 0 → wp_M_run_L32 Q u10 a1 a2 a3) ∧ (¬ x10 = 0 → wp_M_parameters a1 u10 (fun x17 u17 => (¬ x17 = (2 : Int32) → wp_M_run_L36 Q u17 a1 a2 a3) ∧ (x17 = (2 : Int32) → wp_M_isPart a3 u17 (fun x26 u26 => (¬ x26 = 0 → wp_M_run_L36 Q u26 a1 a2 a3) ∧ (x26 = 0 → wp_M_run_L32 Q u26 a1 a2 a3))))))))
set_option maxHeartbeats 4000000 in
set_option maxRecDepth 100000 in
theorem ct_M_run (l : Launch) (D : va_G) (cI cL cZ : ClassId) (ad : Nat → Nat) (g : st_I) (q : st_L) (o : st_L) (a1 : Int32) (a2 : Int32) (a3 : Int32) (r : st_I) (Q : (Int32 → st_I → Prop)) (h : wp_M_run a1 a2 a3 r Q) : ∀ sz, Met l yn_M_run (Cond.code yn_M_run cd_M_run 7 (some .int) :: wa_A) { frames := 7, cells := 0, slots := 0, locals := 158 } (va_Pc [.ref (ad 20), .int a1, .int a2, .int a3] (wq_S D cl_A (wd_T cI cL cZ) nw_A (wd_W cI cL cZ ad g q r o) sz)) (va_Qi Q (fun u t => wq_E D cl_A (wd_T cI cL cZ) (va_A (wd_W cI cL cZ ad g q r o) sz) (wd_W cI cL cZ ad g q u o) t) (va_A (wd_W cI cL cZ ad g q r o) sz)) 0 0 (va_A (wd_W cI cL cZ ad g q r o) sz) := by
  refine sw_met (Qc := fun A => va_Qi Q (fun u t => wq_E D cl_A (wd_T cI cL cZ) A (wd_W cI cL cZ ad g q u o) t) A) (by decide) rfl (Nat.le_of_ble_eq_true rfl) rfl ?_
  intro p e s m args below meth c A X hA hNs hE hr hlk hnm
  have b195 : ∀ (r : st_I) (t0 : Int32), wp_M_run_L195 Q r t0 → sw_J p l e { frames := 7, cells := 0, slots := 0, locals := 158 } s m args below meth c 0 0 (MQ below (va_Qi Q (fun u t => wq_E D cl_A (wd_T cI cL cZ) A (wd_W cI cL cZ ad g q u o) t) A) args s 0 0 A) D cl_A A 7 (wd_W cI cL cZ ad g q r o) 195 [(0, .ref (ad 20))] [.int t0, .ref (ad 20)] := by
    intro r t0 h
    refine sw_put (ty := .int) X (fun z hz => List.mem_cons_of_mem _ (wf_M z hz)) fy_M fo_M fn_M 20 (wd_20 cI cL cZ ad g q r o) rfl 35 (by decide) (List.mem_cons_of_mem _ wm_fl_M_80) rfl (by decide +kernel) rfl rfl (Nat.le_of_ble_eq_true rfl) (wd_W cI cL cZ ad g q (st_u r 20 35 t0) o) (ws_20_35 cI cL cZ ad g q r o t0) dc_M_run_195 ?_
    refine sw_aload_n X 0 rfl rfl dc_M_run_198 ?_
    refine sw_get (v := .int t0) X (fun z hz => List.mem_cons_of_mem _ (wf_M z hz)) 20 (wd_20 cI cL cZ ad g q (st_u r 20 35 t0) o) rfl 35 (by decide) (List.mem_cons_of_mem _ wm_fl_M_80) rfl dc_M_run_199 ?_
    refine sw_if_eq (tgt := 207) X dc_M_run_202 (by decide) (fun z => ?_) (fun z => ?_)
    · have h := h.1 z
      refine sw_aload_n X 0 rfl rfl dc_M_run_207 ?_
      refine sw_aload_n X 0 rfl rfl dc_M_run_208 ?_
      refine sw_get (v := .int (r 20 18)) X (fun z hz => List.mem_cons_of_mem _ (wf_M z hz)) 20 (wd_20 cI cL cZ ad g q (st_u r 20 35 t0) o) rfl 18 (by decide) (List.mem_cons_of_mem _ wm_fl_M_125) rfl dc_M_run_209 ?_
      refine sw_cV_v (n := 1) X hA nw_okA hNs hE (fun u : st_I => wd_W cI cL cZ ad g q u o) [.int (r 20 18)] 20 (wd_20 cI cL cZ ad g q (st_u r 20 35 t0) o) rfl rfl (ct_M_flatten l D cI cL cZ ad g q o (r 20 18) (st_u r 20 35 t0) _ h) (List.mem_cons_of_mem _ wm_ml_M_238) (List.mem_cons_of_mem _ wm_im_M_flatten) (List.mem_cons_of_mem _ wm_se_M_flatten) rfl (wg_in wm_code_M_flatten) rfl rfl (List.mem_cons_of_mem _ wm_in_M) ⟨by decide, by decide, by decide +kernel⟩ ⟨Nat.le_of_ble_eq_true rfl, Nat.le_of_ble_eq_true rfl⟩ ⟨Nat.zero_le _, Nat.zero_le _⟩ rfl (Nat.le_of_ble_eq_true rfl) dc_M_run_212 rfl (fun u212 h => ?_)
      refine sw_aload_n X 0 rfl rfl dc_M_run_215 ?_
      refine sw_get X (fun z hz => List.mem_cons_of_mem _ (wf_M z hz)) 20 (wd_20 cI cL cZ ad g q u212 o) rfl 20 (by decide) (List.mem_cons_of_mem _ wm_fl_M_59) rfl dc_M_run_216 ?_
      refine sw_aload_n X 0 rfl rfl dc_M_run_219 ?_
      refine sw_get (v := .int (u212 20 18)) X (fun z hz => List.mem_cons_of_mem _ (wf_M z hz)) 20 (wd_20 cI cL cZ ad g q u212 o) rfl 18 (by decide) (List.mem_cons_of_mem _ wm_fl_M_125) rfl dc_M_run_220 ?_
      refine sw_iald X 37 0 (wd_37 cI cL cZ ad g q u212 o) rfl h.1 dc_M_run_223 ?_
      have h := h.2
      exact sw_iret X hr hlk (u := u212) rfl h dc_M_run_224
    · have h := h.2 z
      refine sw_iconst (v := 0) X dc_M_run_205 (by decide) ?_
      exact sw_iret X hr hlk (u := (st_u r 20 35 t0)) rfl h dc_M_run_206
  have b171 : ∀ (r : st_I), wp_M_run_L171 Q r → sw_J p l e { frames := 7, cells := 0, slots := 0, locals := 158 } s m args below meth c 0 0 (MQ below (va_Qi Q (fun u t => wq_E D cl_A (wd_T cI cL cZ) A (wd_W cI cL cZ ad g q u o) t) A) args s 0 0 A) D cl_A A 7 (wd_W cI cL cZ ad g q r o) 171 [(0, .ref (ad 20))] [] := by
    intro r h
    refine sw_aload_n X 0 rfl rfl dc_M_run_171 ?_
    refine sw_aload_n X 0 rfl rfl dc_M_run_172 ?_
    refine sw_get (v := .int (r 20 25)) X (fun z hz => List.mem_cons_of_mem _ (wf_M z hz)) 20 (wd_20 cI cL cZ ad g q r o) rfl 25 (by decide) (List.mem_cons_of_mem _ wm_fl_M_167) rfl dc_M_run_173 ?_
    refine sw_if_eq (tgt := 183) X dc_M_run_176 (by decide) (fun z => ?_) (fun z => ?_)
    · have h := h.1 z
      refine sw_aload_n X 0 rfl rfl dc_M_run_183 ?_
      refine sw_get (v := .int (r 20 24)) X (fun z hz => List.mem_cons_of_mem _ (wf_M z hz)) 20 (wd_20 cI cL cZ ad g q r o) rfl 24 (by decide) (List.mem_cons_of_mem _ wm_fl_M_174) rfl dc_M_run_184 ?_
      refine sw_if_eq (tgt := 194) X dc_M_run_187 (by decide) (fun z => ?_) (fun z => ?_)
      · have h := h.1 z
        refine sw_iconst (v := 0) X dc_M_run_194 (by decide) ?_
        exact b195 r (0 : Int32) h
      · have h := h.2 z
        refine sw_iconst (v := 2) X dc_M_run_190 (by decide) ?_
        refine sw_goto (tgt := 195) X dc_M_run_191 (by decide) ?_
        exact b195 r (2 : Int32) h
    · have h := h.2 z
      refine sw_iconst (v := 3) X dc_M_run_179 (by decide) ?_
      refine sw_goto (tgt := 195) X dc_M_run_180 (by decide) ?_
      exact b195 r (3 : Int32) h
  have b139 : ∀ (r : st_I) (v1 : Int32) (v5 : Int32) (v6 : Int32), wp_M_run_L139 Q r v1 v5 v6 → sw_J p l e { frames := 7, cells := 0, slots := 0, locals := 158 } s m args below meth c 0 0 (MQ below (va_Qi Q (fun u t => wq_E D cl_A (wd_T cI cL cZ) A (wd_W cI cL cZ ad g q u o) t) A) args s 0 0 A) D cl_A A 7 (wd_W cI cL cZ ad g q r o) 139 [(0, .ref (ad 20)), (1, .int v1), (5, .int v5), (6, .int v6)] [] := by
    intro r v1 v5 v6 h
    refine sw_aload_n X 0 rfl rfl dc_M_run_139 ?_
    refine sw_get (v := .int (r 20 24)) X (fun z hz => List.mem_cons_of_mem _ (wf_M z hz)) 20 (wd_20 cI cL cZ ad g q r o) rfl 24 (by decide) (List.mem_cons_of_mem _ wm_fl_M_174) rfl dc_M_run_140 ?_
    refine sw_if_ne (tgt := 171) X dc_M_run_143 (by decide) (fun z => ?_) (fun z => ?_)
    · have h := h.1 z
      refine sw_sub [0] rfl ?_
      exact b171 r h
    · have h := h.2 z
      refine sw_aload_n X 0 rfl rfl dc_M_run_146 ?_
      refine sw_get (v := .int (r 20 25)) X (fun z hz => List.mem_cons_of_mem _ (wf_M z hz)) 20 (wd_20 cI cL cZ ad g q r o) rfl 25 (by decide) (List.mem_cons_of_mem _ wm_fl_M_167) rfl dc_M_run_147 ?_
      refine sw_if_ne (tgt := 171) X dc_M_run_150 (by decide) (fun z => ?_) (fun z => ?_)
      · have h := h.1 z
        refine sw_sub [0] rfl ?_
        exact b171 r h
      · have h := h.2 z
        refine sw_aload_n X 0 rfl rfl dc_M_run_153 ?_
        refine sw_iconst (v := 0) X dc_M_run_154 (by decide) ?_
        refine sw_put (ty := .int) X (fun z hz => List.mem_cons_of_mem _ (wf_M z hz)) fy_M fo_M fn_M 20 (wd_20 cI cL cZ ad g q r o) rfl 13 (by decide) (List.mem_cons_of_mem _ wm_fl_M_111) rfl (by decide +kernel) rfl rfl (Nat.le_of_ble_eq_true rfl) (wd_W cI cL cZ ad g q (st_u r 20 13 (0 : Int32)) o) (ws_20_13 cI cL cZ ad g q r o (0 : Int32)) dc_M_run_155 ?_
        refine sw_aload_n X 0 rfl rfl dc_M_run_158 ?_
        refine sw_iload_n X 1 rfl rfl dc_M_run_159 ?_
        refine sw_iload X 2 rfl dc_M_run_160 ?_
        refine sw_iload X 3 rfl dc_M_run_162 ?_
        refine sw_cV_v (n := 3) X hA nw_okA hNs hE (fun u : st_I => wd_W cI cL cZ ad g q u o) [.int v1, .int v5, .int v6] 20 (wd_20 cI cL cZ ad g q (st_u r 20 13 (0 : Int32)) o) rfl rfl (ct_M_call l D cI cL cZ ad g q o v1 v5 v6 (st_u r 20 13 (0 : Int32)) _ h) (List.mem_cons_of_mem _ wm_ml_M_210) (List.mem_cons_of_mem _ wm_im_M_call) (List.mem_cons_of_mem _ wm_se_M_call) rfl (wg_in wm_code_M_call) rfl rfl (List.mem_cons_of_mem _ wm_in_M) ⟨by decide, by decide, by decide +kernel⟩ ⟨Nat.le_of_ble_eq_true rfl, Nat.le_of_ble_eq_true rfl⟩ ⟨Nat.zero_le _, Nat.zero_le _⟩ rfl (Nat.le_of_ble_eq_true rfl) dc_M_run_164 rfl (fun u164 h => ?_)
        refine sw_aload_n X 0 rfl rfl dc_M_run_167 ?_
        refine sw_cV_v (n := 0) X hA nw_okA hNs hE (fun u : st_I => wd_W cI cL cZ ad g q u o) [] 20 (wd_20 cI cL cZ ad g q u164 o) rfl rfl (ct_M_go l D cI cL cZ ad g q o u164 _ h) (List.mem_cons_of_mem _ wm_ml_M_229) (List.mem_cons_of_mem _ wm_im_M_go) (List.mem_cons_of_mem _ wm_se_M_go) rfl (wg_in wm_code_M_go) rfl rfl (List.mem_cons_of_mem _ wm_in_M) ⟨by decide, by decide, by decide +kernel⟩ ⟨Nat.le_of_ble_eq_true rfl, Nat.le_of_ble_eq_true rfl⟩ ⟨Nat.zero_le _, Nat.zero_le _⟩ rfl (Nat.le_of_ble_eq_true rfl) dc_M_run_168 rfl (fun u168 h => ?_)
        refine sw_sub [0] rfl ?_
        exact b171 u168 h
  have b50 : ∀ (r : st_I) (v1 : Int32) (v2 : Int32) (v3 : Int32) (v4 : Int32) (t0 : Int32), wp_M_run_L50 Q r v1 v2 v3 v4 t0 → sw_J p l e { frames := 7, cells := 0, slots := 0, locals := 158 } s m args below meth c 0 0 (MQ below (va_Qi Q (fun u t => wq_E D cl_A (wd_T cI cL cZ) A (wd_W cI cL cZ ad g q u o) t) A) args s 0 0 A) D cl_A A 7 (wd_W cI cL cZ ad g q r o) 50 [(0, .ref (ad 20)), (1, .int v1), (2, .int v2), (3, .int v3), (4, .int v4)] [.int t0, .ref (ad 20)] := by
    intro r v1 v2 v3 v4 t0 h
    refine sw_put (ty := .int) X (fun z hz => List.mem_cons_of_mem _ (wf_M z hz)) fy_M fo_M fn_M 20 (wd_20 cI cL cZ ad g q r o) rfl 35 (by decide) (List.mem_cons_of_mem _ wm_fl_M_80) rfl (by decide +kernel) rfl rfl (Nat.le_of_ble_eq_true rfl) (wd_W cI cL cZ ad g q (st_u r 20 35 t0) o) (ws_20_35 cI cL cZ ad g q r o t0) dc_M_run_50 ?_
    refine sw_iload X 4 rfl dc_M_run_53 ?_
    refine sw_if_eq (tgt := 60) X dc_M_run_55 (by decide) (fun z => ?_) (fun z => ?_)
    · have h := h.1 z
      refine sw_aload_n X 0 rfl rfl dc_M_run_60 ?_
      refine sw_iconst (v := 0) X dc_M_run_61 (by decide) ?_
      refine sw_put (ty := .int) X (fun z hz => List.mem_cons_of_mem _ (wf_M z hz)) fy_M fo_M fn_M 20 (wd_20 cI cL cZ ad g q (st_u r 20 35 t0) o) rfl 19 (by decide) (List.mem_cons_of_mem _ wm_fl_M_161) rfl (by decide +kernel) rfl rfl (Nat.le_of_ble_eq_true rfl) (wd_W cI cL cZ ad g q (st_u (st_u r 20 35 t0) 20 19 (0 : Int32)) o) (ws_20_19 cI cL cZ ad g q (st_u r 20 35 t0) o (0 : Int32)) dc_M_run_62 ?_
      refine sw_aload_n X 0 rfl rfl dc_M_run_65 ?_
      refine sw_iconst (v := 0) X dc_M_run_66 (by decide) ?_
      refine sw_put (ty := .boolean) X (fun z hz => List.mem_cons_of_mem _ (wf_M z hz)) fy_M fo_M fn_M 20 (wd_20 cI cL cZ ad g q (st_u (st_u r 20 35 t0) 20 19 (0 : Int32)) o) rfl 24 (by decide) (List.mem_cons_of_mem _ wm_fl_M_174) rfl (by decide +kernel) (by decide) (by decide) (Nat.le_of_ble_eq_true rfl) (wd_W cI cL cZ ad g q (st_u (st_u (st_u r 20 35 t0) 20 19 (0 : Int32)) 20 24 (0 : Int32)) o) (ws_20_24 cI cL cZ ad g q (st_u (st_u r 20 35 t0) 20 19 (0 : Int32)) o (0 : Int32)) dc_M_run_67 ?_
      refine sw_aload_n X 0 rfl rfl dc_M_run_70 ?_
      refine sw_iconst (v := 0) X dc_M_run_71 (by decide) ?_
      refine sw_put (ty := .boolean) X (fun z hz => List.mem_cons_of_mem _ (wf_M z hz)) fy_M fo_M fn_M 20 (wd_20 cI cL cZ ad g q (st_u (st_u (st_u r 20 35 t0) 20 19 (0 : Int32)) 20 24 (0 : Int32)) o) rfl 25 (by decide) (List.mem_cons_of_mem _ wm_fl_M_167) rfl (by decide +kernel) (by decide) (by decide) (Nat.le_of_ble_eq_true rfl) (wd_W cI cL cZ ad g q (st_u (st_u (st_u (st_u r 20 35 t0) 20 19 (0 : Int32)) 20 24 (0 : Int32)) 20 25 (0 : Int32)) o) (ws_20_25 cI cL cZ ad g q (st_u (st_u (st_u r 20 35 t0) 20 19 (0 : Int32)) 20 24 (0 : Int32)) o (0 : Int32)) dc_M_run_72 ?_
      refine sw_aload_n X 0 rfl rfl dc_M_run_75 ?_
      refine sw_iconst (v := 0) X dc_M_run_76 (by decide) ?_
      refine sw_put (ty := .int) X (fun z hz => List.mem_cons_of_mem _ (wf_M z hz)) fy_M fo_M fn_M 20 (wd_20 cI cL cZ ad g q (st_u (st_u (st_u (st_u r 20 35 t0) 20 19 (0 : Int32)) 20 24 (0 : Int32)) 20 25 (0 : Int32)) o) rfl 26 (by decide) (List.mem_cons_of_mem _ wm_fl_M_164) rfl (by decide +kernel) rfl rfl (Nat.le_of_ble_eq_true rfl) (wd_W cI cL cZ ad g q (st_u (st_u (st_u (st_u (st_u r 20 35 t0) 20 19 (0 : Int32)) 20 24 (0 : Int32)) 20 25 (0 : Int32)) 20 26 (0 : Int32)) o) (ws_20_26 cI cL cZ ad g q (st_u (st_u (st_u (st_u r 20 35 t0) 20 19 (0 : Int32)) 20 24 (0 : Int32)) 20 25 (0 : Int32)) o (0 : Int32)) dc_M_run_77 ?_
      refine sw_aload_n X 0 rfl rfl dc_M_run_80 ?_
      refine sw_iconst (v := 0) X dc_M_run_81 (by decide) ?_
      refine sw_put (ty := .int) X (fun z hz => List.mem_cons_of_mem _ (wf_M z hz)) fy_M fo_M fn_M 20 (wd_20 cI cL cZ ad g q (st_u (st_u (st_u (st_u (st_u r 20 35 t0) 20 19 (0 : Int32)) 20 24 (0 : Int32)) 20 25 (0 : Int32)) 20 26 (0 : Int32)) o) rfl 27 (by decide) (List.mem_cons_of_mem _ wm_fl_M_180) rfl (by decide +kernel) rfl rfl (Nat.le_of_ble_eq_true rfl) (wd_W cI cL cZ ad g q (st_u (st_u (st_u (st_u (st_u (st_u r 20 35 t0) 20 19 (0 : Int32)) 20 24 (0 : Int32)) 20 25 (0 : Int32)) 20 26 (0 : Int32)) 20 27 (0 : Int32)) o) (ws_20_27 cI cL cZ ad g q (st_u (st_u (st_u (st_u (st_u r 20 35 t0) 20 19 (0 : Int32)) 20 24 (0 : Int32)) 20 25 (0 : Int32)) 20 26 (0 : Int32)) o (0 : Int32)) dc_M_run_82 ?_
      refine sw_aload_n X 0 rfl rfl dc_M_run_85 ?_
      refine sw_iconst (v := 0) X dc_M_run_86 (by decide) ?_
      refine sw_put (ty := .int) X (fun z hz => List.mem_cons_of_mem _ (wf_M z hz)) fy_M fo_M fn_M 20 (wd_20 cI cL cZ ad g q (st_u (st_u (st_u (st_u (st_u (st_u r 20 35 t0) 20 19 (0 : Int32)) 20 24 (0 : Int32)) 20 25 (0 : Int32)) 20 26 (0 : Int32)) 20 27 (0 : Int32)) o) rfl 28 (by decide) (List.mem_cons_of_mem _ wm_fl_M_171) rfl (by decide +kernel) rfl rfl (Nat.le_of_ble_eq_true rfl) (wd_W cI cL cZ ad g q (st_u (st_u (st_u (st_u (st_u (st_u (st_u r 20 35 t0) 20 19 (0 : Int32)) 20 24 (0 : Int32)) 20 25 (0 : Int32)) 20 26 (0 : Int32)) 20 27 (0 : Int32)) 20 28 (0 : Int32)) o) (ws_20_28 cI cL cZ ad g q (st_u (st_u (st_u (st_u (st_u (st_u r 20 35 t0) 20 19 (0 : Int32)) 20 24 (0 : Int32)) 20 25 (0 : Int32)) 20 26 (0 : Int32)) 20 27 (0 : Int32)) o (0 : Int32)) dc_M_run_87 ?_
      refine sw_aload_n X 0 rfl rfl dc_M_run_90 ?_
      refine sw_iconst (v := 0) X dc_M_run_91 (by decide) ?_
      refine sw_put (ty := .int) X (fun z hz => List.mem_cons_of_mem _ (wf_M z hz)) fy_M fo_M fn_M 20 (wd_20 cI cL cZ ad g q (st_u (st_u (st_u (st_u (st_u (st_u (st_u r 20 35 t0) 20 19 (0 : Int32)) 20 24 (0 : Int32)) 20 25 (0 : Int32)) 20 26 (0 : Int32)) 20 27 (0 : Int32)) 20 28 (0 : Int32)) o) rfl 29 (by decide) (List.mem_cons_of_mem _ wm_fl_M_201) rfl (by decide +kernel) rfl rfl (Nat.le_of_ble_eq_true rfl) (wd_W cI cL cZ ad g q (st_u (st_u (st_u (st_u (st_u (st_u (st_u (st_u r 20 35 t0) 20 19 (0 : Int32)) 20 24 (0 : Int32)) 20 25 (0 : Int32)) 20 26 (0 : Int32)) 20 27 (0 : Int32)) 20 28 (0 : Int32)) 20 29 (0 : Int32)) o) (ws_20_29 cI cL cZ ad g q (st_u (st_u (st_u (st_u (st_u (st_u (st_u r 20 35 t0) 20 19 (0 : Int32)) 20 24 (0 : Int32)) 20 25 (0 : Int32)) 20 26 (0 : Int32)) 20 27 (0 : Int32)) 20 28 (0 : Int32)) o (0 : Int32)) dc_M_run_92 ?_
      refine sw_aload_n X 0 rfl rfl dc_M_run_95 ?_
      refine sw_iconst (v := 0) X dc_M_run_96 (by decide) ?_
      refine sw_put (ty := .int) X (fun z hz => List.mem_cons_of_mem _ (wf_M z hz)) fy_M fo_M fn_M 20 (wd_20 cI cL cZ ad g q (st_u (st_u (st_u (st_u (st_u (st_u (st_u (st_u r 20 35 t0) 20 19 (0 : Int32)) 20 24 (0 : Int32)) 20 25 (0 : Int32)) 20 26 (0 : Int32)) 20 27 (0 : Int32)) 20 28 (0 : Int32)) 20 29 (0 : Int32)) o) rfl 30 (by decide) (List.mem_cons_of_mem _ wm_fl_M_204) rfl (by decide +kernel) rfl rfl (Nat.le_of_ble_eq_true rfl) (wd_W cI cL cZ ad g q (st_u (st_u (st_u (st_u (st_u (st_u (st_u (st_u (st_u r 20 35 t0) 20 19 (0 : Int32)) 20 24 (0 : Int32)) 20 25 (0 : Int32)) 20 26 (0 : Int32)) 20 27 (0 : Int32)) 20 28 (0 : Int32)) 20 29 (0 : Int32)) 20 30 (0 : Int32)) o) (ws_20_30 cI cL cZ ad g q (st_u (st_u (st_u (st_u (st_u (st_u (st_u (st_u r 20 35 t0) 20 19 (0 : Int32)) 20 24 (0 : Int32)) 20 25 (0 : Int32)) 20 26 (0 : Int32)) 20 27 (0 : Int32)) 20 28 (0 : Int32)) 20 29 (0 : Int32)) o (0 : Int32)) dc_M_run_97 ?_
      refine sw_aload_n X 0 rfl rfl dc_M_run_100 ?_
      refine sw_iload_n X 2 rfl rfl dc_M_run_101 ?_
      refine sw_cV_i (n := 1) X hA nw_okA hNs hE (fun u : st_I => wd_W cI cL cZ ad g q u o) [.int v2] 20 (wd_20 cI cL cZ ad g q (st_u (st_u (st_u (st_u (st_u (st_u (st_u (st_u (st_u r 20 35 t0) 20 19 (0 : Int32)) 20 24 (0 : Int32)) 20 25 (0 : Int32)) 20 26 (0 : Int32)) 20 27 (0 : Int32)) 20 28 (0 : Int32)) 20 29 (0 : Int32)) 20 30 (0 : Int32)) o) rfl rfl (ct_M_worked l D cI cL cZ ad g q o v2 (st_u (st_u (st_u (st_u (st_u (st_u (st_u (st_u (st_u r 20 35 t0) 20 19 (0 : Int32)) 20 24 (0 : Int32)) 20 25 (0 : Int32)) 20 26 (0 : Int32)) 20 27 (0 : Int32)) 20 28 (0 : Int32)) 20 29 (0 : Int32)) 20 30 (0 : Int32)) _ h) (List.mem_cons_of_mem _ wm_ml_M_235) (List.mem_cons_of_mem _ wm_im_M_worked) (List.mem_cons_of_mem _ wm_se_M_worked) rfl (wg_in wm_code_M_worked) rfl rfl (List.mem_cons_of_mem _ wm_in_M) ⟨by decide, by decide, by decide +kernel⟩ ⟨Nat.le_of_ble_eq_true rfl, Nat.le_of_ble_eq_true rfl⟩ ⟨Nat.zero_le _, Nat.zero_le _⟩ rfl (Nat.le_of_ble_eq_true rfl) dc_M_run_102 rfl (fun x102 u102 h => ?_)
      refine sw_istore X [(5, .int x102), (0, .ref (ad 20)), (1, .int v1), (2, .int v2), (3, .int v3), (4, .int v4)] rfl (by decide) dc_M_run_105 ?_
      refine sw_iconst (v := -1) X dc_M_run_107 (by decide) ?_
      refine sw_istore X [(6, .int ((-1) : Int32)), (5, .int x102), (0, .ref (ad 20)), (1, .int v1), (2, .int v2), (3, .int v3), (4, .int v4)] rfl (by decide) dc_M_run_108 ?_
      refine sw_aload_n X 2 rfl rfl dc_M_run_110 ?_
      refine sw_get (v := .int (u102 20 24)) X (fun z hz => List.mem_cons_of_mem _ (wf_M z hz)) 20 (wd_20 cI cL cZ ad g q u102 o) rfl 24 (by decide) (List.mem_cons_of_mem _ wm_fl_M_174) rfl dc_M_run_111 ?_
      refine sw_if_ne (tgt := 139) X dc_M_run_114 (by decide) (fun z => ?_) (fun z => ?_)
      · have h := h.1 z
        refine sw_sub [2, 3, 1, 0] rfl ?_
        exact b139 u102 v1 x102 ((-1) : Int32) h
      · have h := h.2 z
        refine sw_aload_n X 2 rfl rfl dc_M_run_117 ?_
        refine sw_get (v := .int (u102 20 25)) X (fun z hz => List.mem_cons_of_mem _ (wf_M z hz)) 20 (wd_20 cI cL cZ ad g q u102 o) rfl 25 (by decide) (List.mem_cons_of_mem _ wm_fl_M_167) rfl dc_M_run_118 ?_
        refine sw_if_ne (tgt := 139) X dc_M_run_121 (by decide) (fun z => ?_) (fun z => ?_)
        · have h := h.1 z
          refine sw_sub [2, 3, 1, 0] rfl ?_
          exact b139 u102 v1 x102 ((-1) : Int32) h
        · have h := h.2 z
          refine sw_iload_n X 3 rfl rfl dc_M_run_124 ?_
          refine sw_cS_i (n := 1) X hA nw_okA hNs hE (fun u : st_I => wd_W cI cL cZ ad g q u o) [.int v1] (ct_M_parameters l D cI cL cZ ad g q o v1 u102 _ h) (List.mem_cons_of_mem _ wm_ml_M_91) (List.mem_cons_of_mem _ wm_st_M_parameters) rfl (wg_in wm_code_M_parameters) rfl rfl (List.mem_cons_of_mem _ wm_in_M) ⟨by decide, by decide, by decide +kernel⟩ ⟨Nat.le_of_ble_eq_true rfl, Nat.le_of_ble_eq_true rfl⟩ ⟨Nat.zero_le _, Nat.zero_le _⟩ rfl (Nat.le_of_ble_eq_true rfl) dc_M_run_125 rfl (fun x125 u125 h => ?_)
          refine sw_iconst (v := 2) X dc_M_run_128 (by decide) ?_
          refine sw_icmp_ne (tgt := 139) X dc_M_run_129 (by decide) (fun z => ?_) (fun z => ?_)
          · have h := h.1 z
            refine sw_sub [2, 3, 1, 0] rfl ?_
            exact b139 u125 v1 x102 ((-1) : Int32) h
          · have h := h.2 z
            refine sw_aload_n X 2 rfl rfl dc_M_run_132 ?_
            refine sw_iload_n X 5 rfl rfl dc_M_run_133 ?_
            refine sw_cV_i (n := 1) X hA nw_okA hNs hE (fun u : st_I => wd_W cI cL cZ ad g q u o) [.int v3] 20 (wd_20 cI cL cZ ad g q u125 o) rfl rfl (ct_M_worked l D cI cL cZ ad g q o v3 u125 _ h) (List.mem_cons_of_mem _ wm_ml_M_235) (List.mem_cons_of_mem _ wm_im_M_worked) (List.mem_cons_of_mem _ wm_se_M_worked) rfl (wg_in wm_code_M_worked) rfl rfl (List.mem_cons_of_mem _ wm_in_M) ⟨by decide, by decide, by decide +kernel⟩ ⟨Nat.le_of_ble_eq_true rfl, Nat.le_of_ble_eq_true rfl⟩ ⟨Nat.zero_le _, Nat.zero_le _⟩ rfl (Nat.le_of_ble_eq_true rfl) dc_M_run_134 rfl (fun x134 u134 h => ?_)
            refine sw_istore X [(6, .int x134), (5, .int x102), (0, .ref (ad 20)), (1, .int v1), (2, .int v2), (3, .int v3), (4, .int v4)] rfl (by decide) dc_M_run_137 ?_
            refine sw_sub [2, 3, 1, 0] rfl ?_
            exact b139 u134 v1 x102 x134 h
    · have h := h.2 z
      refine sw_iconst (v := 0) X dc_M_run_58 (by decide) ?_
      exact sw_iret X hr hlk (u := (st_u r 20 35 t0)) rfl h dc_M_run_59
  have b37 : ∀ (r : st_I) (v1 : Int32) (v2 : Int32) (v3 : Int32) (t0 : Int32), wp_M_run_L37 Q r v1 v2 v3 t0 → sw_J p l e { frames := 7, cells := 0, slots := 0, locals := 158 } s m args below meth c 0 0 (MQ below (va_Qi Q (fun u t => wq_E D cl_A (wd_T cI cL cZ) A (wd_W cI cL cZ ad g q u o) t) A) args s 0 0 A) D cl_A A 7 (wd_W cI cL cZ ad g q r o) 37 [(0, .ref (ad 20)), (1, .int v1), (2, .int v2), (3, .int v3)] [.int t0] := by
    intro r v1 v2 v3 t0 h
    refine sw_istore X [(4, .int t0), (0, .ref (ad 20)), (1, .int v1), (2, .int v2), (3, .int v3)] rfl (by decide) dc_M_run_37 ?_
    refine sw_aload_n X 1 rfl rfl dc_M_run_39 ?_
    refine sw_iload X 0 rfl dc_M_run_40 ?_
    refine sw_if_eq (tgt := 49) X dc_M_run_42 (by decide) (fun z => ?_) (fun z => ?_)
    · have h := h.1 z
      refine sw_iconst (v := 0) X dc_M_run_49 (by decide) ?_
      refine sw_sub [1, 2, 3, 4, 0] rfl ?_
      exact b50 r v1 v2 v3 t0 (0 : Int32) h
    · have h := h.2 z
      refine sw_iconst (v := 1) X dc_M_run_45 (by decide) ?_
      refine sw_goto (tgt := 50) X dc_M_run_46 (by decide) ?_
      refine sw_sub [1, 2, 3, 4, 0] rfl ?_
      exact b50 r v1 v2 v3 t0 (1 : Int32) h
  have b32 : ∀ (r : st_I) (v1 : Int32) (v2 : Int32) (v3 : Int32), wp_M_run_L32 Q r v1 v2 v3 → sw_J p l e { frames := 7, cells := 0, slots := 0, locals := 158 } s m args below meth c 0 0 (MQ below (va_Qi Q (fun u t => wq_E D cl_A (wd_T cI cL cZ) A (wd_W cI cL cZ ad g q u o) t) A) args s 0 0 A) D cl_A A 7 (wd_W cI cL cZ ad g q r o) 32 [(0, .ref (ad 20)), (1, .int v1), (2, .int v2), (3, .int v3)] [] := by
    intro r v1 v2 v3 h
    refine sw_iconst (v := 1) X dc_M_run_32 (by decide) ?_
    refine sw_goto (tgt := 37) X dc_M_run_33 (by decide) ?_
    exact b37 r v1 v2 v3 (1 : Int32) h
  have b36 : ∀ (r : st_I) (v1 : Int32) (v2 : Int32) (v3 : Int32), wp_M_run_L36 Q r v1 v2 v3 → sw_J p l e { frames := 7, cells := 0, slots := 0, locals := 158 } s m args below meth c 0 0 (MQ below (va_Qi Q (fun u t => wq_E D cl_A (wd_T cI cL cZ) A (wd_W cI cL cZ ad g q u o) t) A) args s 0 0 A) D cl_A A 7 (wd_W cI cL cZ ad g q r o) 36 [(0, .ref (ad 20)), (1, .int v1), (2, .int v2), (3, .int v3)] [] := by
    intro r v1 v2 v3 h
    refine sw_iconst (v := 0) X dc_M_run_36 (by decide) ?_
    exact b37 r v1 v2 v3 (0 : Int32) h
  refine sw_iload_n X 1 rfl rfl dc_M_run_0 ?_
  refine sw_iconst (v := 5) X dc_M_run_1 (by decide) ?_
  refine sw_cS_i (n := 2) X hA nw_okA hNs hE (fun u : st_I => wd_W cI cL cZ ad g q u o) [.int a1, .int (5 : Int32)] (ct_M_outside l D cI cL cZ ad g q o a1 (5 : Int32) r _ h) (List.mem_cons_of_mem _ wm_ml_M_87) (List.mem_cons_of_mem _ wm_st_M_outside) rfl (wg_in wm_code_M_outside) rfl rfl (List.mem_cons_of_mem _ wm_in_M) ⟨by decide, by decide, by decide +kernel⟩ ⟨Nat.le_of_ble_eq_true rfl, Nat.le_of_ble_eq_true rfl⟩ ⟨Nat.zero_le _, Nat.zero_le _⟩ rfl (Nat.le_of_ble_eq_true rfl) dc_M_run_2 rfl (fun x2 u2 h => ?_)
  refine sw_if_ne (tgt := 32) X dc_M_run_5 (by decide) (fun z => ?_) (fun z => ?_)
  · have h := h.1 z
    exact b32 u2 a1 a2 a3 h
  · have h := h.2 z
    refine sw_aload_n X 0 rfl rfl dc_M_run_8 ?_
    refine sw_iload_n X 2 rfl rfl dc_M_run_9 ?_
    refine sw_cV_i (n := 1) X hA nw_okA hNs hE (fun u : st_I => wd_W cI cL cZ ad g q u o) [.int a2] 20 (wd_20 cI cL cZ ad g q u2 o) rfl rfl (ct_M_isPart l D cI cL cZ ad g q o a2 u2 _ h) (List.mem_cons_of_mem _ wm_ml_M_107) (List.mem_cons_of_mem _ wm_im_M_isPart) (List.mem_cons_of_mem _ wm_se_M_isPart) rfl (wg_in wm_code_M_isPart) rfl rfl (List.mem_cons_of_mem _ wm_in_M) ⟨by decide, by decide, by decide +kernel⟩ ⟨Nat.le_of_ble_eq_true rfl, Nat.le_of_ble_eq_true rfl⟩ ⟨Nat.zero_le _, Nat.zero_le _⟩ rfl (Nat.le_of_ble_eq_true rfl) dc_M_run_10 rfl (fun x10 u10 h => ?_)
    refine sw_if_eq (tgt := 32) X dc_M_run_13 (by decide) (fun z => ?_) (fun z => ?_)
    · have h := h.1 z
      exact b32 u10 a1 a2 a3 h
    · have h := h.2 z
      refine sw_iload_n X 1 rfl rfl dc_M_run_16 ?_
      refine sw_cS_i (n := 1) X hA nw_okA hNs hE (fun u : st_I => wd_W cI cL cZ ad g q u o) [.int a1] (ct_M_parameters l D cI cL cZ ad g q o a1 u10 _ h) (List.mem_cons_of_mem _ wm_ml_M_91) (List.mem_cons_of_mem _ wm_st_M_parameters) rfl (wg_in wm_code_M_parameters) rfl rfl (List.mem_cons_of_mem _ wm_in_M) ⟨by decide, by decide, by decide +kernel⟩ ⟨Nat.le_of_ble_eq_true rfl, Nat.le_of_ble_eq_true rfl⟩ ⟨Nat.zero_le _, Nat.zero_le _⟩ rfl (Nat.le_of_ble_eq_true rfl) dc_M_run_17 rfl (fun x17 u17 h => ?_)
      refine sw_iconst (v := 2) X dc_M_run_20 (by decide) ?_
      refine sw_icmp_ne (tgt := 36) X dc_M_run_21 (by decide) (fun z => ?_) (fun z => ?_)
      · have h := h.1 z
        exact b36 u17 a1 a2 a3 h
      · have h := h.2 z
        refine sw_aload_n X 0 rfl rfl dc_M_run_24 ?_
        refine sw_iload_n X 3 rfl rfl dc_M_run_25 ?_
        refine sw_cV_i (n := 1) X hA nw_okA hNs hE (fun u : st_I => wd_W cI cL cZ ad g q u o) [.int a3] 20 (wd_20 cI cL cZ ad g q u17 o) rfl rfl (ct_M_isPart l D cI cL cZ ad g q o a3 u17 _ h) (List.mem_cons_of_mem _ wm_ml_M_107) (List.mem_cons_of_mem _ wm_im_M_isPart) (List.mem_cons_of_mem _ wm_se_M_isPart) rfl (wg_in wm_code_M_isPart) rfl rfl (List.mem_cons_of_mem _ wm_in_M) ⟨by decide, by decide, by decide +kernel⟩ ⟨Nat.le_of_ble_eq_true rfl, Nat.le_of_ble_eq_true rfl⟩ ⟨Nat.zero_le _, Nat.zero_le _⟩ rfl (Nat.le_of_ble_eq_true rfl) dc_M_run_26 rfl (fun x26 u26 h => ?_)
        refine sw_if_ne (tgt := 36) X dc_M_run_29 (by decide) (fun z => ?_) (fun z => ?_)
        · have h := h.1 z
          exact b36 u26 a1 a2 a3 h
        · have h := h.2 z
          exact b32 u26 a1 a2 a3 h
def wp_M_part_L38 (Q : (Int32 → st_I → Prop)) (r : st_I) (t0 : Int32) : Prop := Q t0 r
def wp_M_part_L18 (Q : (Int32 → st_I → Prop)) (r : st_I) (v1 : Int32) (t0 : Int32) : Prop := (¬ t0 = 0 → wp_M_part_L38 Q (st_u r 20 35 t0) (0 : Int32)) ∧ (t0 = 0 → vp_in v1 60 ∧ wp_M_part_L38 Q (st_u r 20 35 t0) (r 43 (v1).toNatClampNeg))
def wp_M_part_L13 (Q : (Int32 → st_I → Prop)) (r : st_I) (v1 : Int32) : Prop := wp_M_part_L18 Q r v1 (1 : Int32)
def wp_M_part (a1 : Int32) (r : st_I) (Q : (Int32 → st_I → Prop)) : Prop := (a1 < 0 → wp_M_part_L13 Q r a1) ∧ (¬ a1 < 0 → (a1 < (r 20 33) → wp_M_part_L18 Q r a1 (0 : Int32)) ∧ (¬ a1 < (r 20 33) → wp_M_part_L13 Q r a1))
set_option maxHeartbeats 4000000 in
set_option maxRecDepth 100000 in
theorem ct_M_part (l : Launch) (D : va_G) (cI cL cZ : ClassId) (ad : Nat → Nat) (g : st_I) (q : st_L) (o : st_L) (a1 : Int32) (r : st_I) (Q : (Int32 → st_I → Prop)) (h : wp_M_part a1 r Q) : ∀ sz, Met l yn_M_part (Cond.code yn_M_part cd_M_part 2 (some .int) :: wa_A) { frames := 0, cells := 0, slots := 0, locals := 0 } (va_Pc [.ref (ad 20), .int a1] (wq_S D cl_A (wd_T cI cL cZ) nw_A (wd_W cI cL cZ ad g q r o) sz)) (va_Qi Q (fun u t => wq_E D cl_A (wd_T cI cL cZ) (va_A (wd_W cI cL cZ ad g q r o) sz) (wd_W cI cL cZ ad g q u o) t) (va_A (wd_W cI cL cZ ad g q r o) sz)) 0 0 (va_A (wd_W cI cL cZ ad g q r o) sz) := by
  refine sw_met (Qc := fun A => va_Qi Q (fun u t => wq_E D cl_A (wd_T cI cL cZ) A (wd_W cI cL cZ ad g q u o) t) A) (by decide) rfl (Nat.le_of_ble_eq_true rfl) rfl ?_
  intro p e s m args below meth c A X hA hNs hE hr hlk hnm
  have b38 : ∀ (r : st_I) (t0 : Int32), wp_M_part_L38 Q r t0 → sw_J p l e { frames := 0, cells := 0, slots := 0, locals := 0 } s m args below meth c 0 0 (MQ below (va_Qi Q (fun u t => wq_E D cl_A (wd_T cI cL cZ) A (wd_W cI cL cZ ad g q u o) t) A) args s 0 0 A) D cl_A A 2 (wd_W cI cL cZ ad g q r o) 38 [] [.int t0] := by
    intro r t0 h
    exact sw_iret X hr hlk (u := r) rfl h dc_M_part_38
  have b18 : ∀ (r : st_I) (v1 : Int32) (t0 : Int32), wp_M_part_L18 Q r v1 t0 → sw_J p l e { frames := 0, cells := 0, slots := 0, locals := 0 } s m args below meth c 0 0 (MQ below (va_Qi Q (fun u t => wq_E D cl_A (wd_T cI cL cZ) A (wd_W cI cL cZ ad g q u o) t) A) args s 0 0 A) D cl_A A 2 (wd_W cI cL cZ ad g q r o) 18 [(0, .ref (ad 20)), (1, .int v1)] [.int t0, .ref (ad 20)] := by
    intro r v1 t0 h
    refine sw_put (ty := .int) X (fun z hz => List.mem_cons_of_mem _ (wf_M z hz)) fy_M fo_M fn_M 20 (wd_20 cI cL cZ ad g q r o) rfl 35 (by decide) (List.mem_cons_of_mem _ wm_fl_M_80) rfl (by decide +kernel) rfl rfl (Nat.le_of_ble_eq_true rfl) (wd_W cI cL cZ ad g q (st_u r 20 35 t0) o) (ws_20_35 cI cL cZ ad g q r o t0) dc_M_part_18 ?_
    refine sw_aload_n X 0 rfl rfl dc_M_part_21 ?_
    refine sw_get (v := .int t0) X (fun z hz => List.mem_cons_of_mem _ (wf_M z hz)) 20 (wd_20 cI cL cZ ad g q (st_u r 20 35 t0) o) rfl 35 (by decide) (List.mem_cons_of_mem _ wm_fl_M_80) rfl dc_M_part_22 ?_
    refine sw_if_ne (tgt := 37) X dc_M_part_25 (by decide) (fun z => ?_) (fun z => ?_)
    · have h := h.1 z
      refine sw_iconst (v := 0) X dc_M_part_37 (by decide) ?_
      refine sw_sub [] rfl ?_
      exact b38 (st_u r 20 35 t0) (0 : Int32) h
    · have h := h.2 z
      refine sw_aload_n X 0 rfl rfl dc_M_part_28 ?_
      refine sw_get X (fun z hz => List.mem_cons_of_mem _ (wf_M z hz)) 20 (wd_20 cI cL cZ ad g q (st_u r 20 35 t0) o) rfl 34 (by decide) (List.mem_cons_of_mem _ wm_fl_M_77) rfl dc_M_part_29 ?_
      refine sw_iload_n X 1 rfl rfl dc_M_part_32 ?_
      refine sw_iald X 43 0 (wd_43 cI cL cZ ad g q (st_u r 20 35 t0) o) rfl h.1 dc_M_part_33 ?_
      have h := h.2
      refine sw_eq (st' := [.int (r 43 (v1).toNatClampNeg)]) rfl rfl rfl ?_
      refine sw_goto (tgt := 38) X dc_M_part_34 (by decide) ?_
      refine sw_sub [] rfl ?_
      exact b38 (st_u r 20 35 t0) (r 43 (v1).toNatClampNeg) h
  have b13 : ∀ (r : st_I) (v1 : Int32), wp_M_part_L13 Q r v1 → sw_J p l e { frames := 0, cells := 0, slots := 0, locals := 0 } s m args below meth c 0 0 (MQ below (va_Qi Q (fun u t => wq_E D cl_A (wd_T cI cL cZ) A (wd_W cI cL cZ ad g q u o) t) A) args s 0 0 A) D cl_A A 2 (wd_W cI cL cZ ad g q r o) 13 [(0, .ref (ad 20)), (1, .int v1)] [.ref (ad 20)] := by
    intro r v1 h
    refine sw_iconst (v := 1) X dc_M_part_13 (by decide) ?_
    refine sw_goto (tgt := 18) X dc_M_part_14 (by decide) ?_
    exact b18 r v1 (1 : Int32) h
  refine sw_aload_n X 0 rfl rfl dc_M_part_0 ?_
  refine sw_iload_n X 1 rfl rfl dc_M_part_1 ?_
  refine sw_if_lt (tgt := 13) X dc_M_part_2 (by decide) (fun z => ?_) (fun z => ?_)
  · have h := h.1 z
    exact b13 r a1 h
  · have h := h.2 z
    refine sw_iload_n X 1 rfl rfl dc_M_part_5 ?_
    refine sw_aload_n X 0 rfl rfl dc_M_part_6 ?_
    refine sw_get (v := .int (r 20 33)) X (fun z hz => List.mem_cons_of_mem _ (wf_M z hz)) 20 (wd_20 cI cL cZ ad g q r o) rfl 33 (by decide) (List.mem_cons_of_mem _ wm_fl_M_232) rfl dc_M_part_7 ?_
    refine sw_icmp_lt (tgt := 17) X dc_M_part_10 (by decide) (fun z => ?_) (fun z => ?_)
    · have h := h.1 z
      refine sw_iconst (v := 0) X dc_M_part_17 (by decide) ?_
      exact b18 r a1 (0 : Int32) h
    · have h := h.2 z
      exact b13 r a1 h
def wp_M_calls  (r : st_I) (Q : (Int32 → st_I → Prop)) : Prop := Q (r 20 30) (st_u r 20 35 (0 : Int32))
set_option maxHeartbeats 4000000 in
set_option maxRecDepth 100000 in
theorem ct_M_calls (l : Launch) (D : va_G) (cI cL cZ : ClassId) (ad : Nat → Nat) (g : st_I) (q : st_L) (o : st_L)  (r : st_I) (Q : (Int32 → st_I → Prop)) (h : wp_M_calls  r Q) : ∀ sz, Met l yn_M_calls (Cond.code yn_M_calls cd_M_calls 1 (some .int) :: wa_A) { frames := 0, cells := 0, slots := 0, locals := 0 } (va_Pc [.ref (ad 20)] (wq_S D cl_A (wd_T cI cL cZ) nw_A (wd_W cI cL cZ ad g q r o) sz)) (va_Qi Q (fun u t => wq_E D cl_A (wd_T cI cL cZ) (va_A (wd_W cI cL cZ ad g q r o) sz) (wd_W cI cL cZ ad g q u o) t) (va_A (wd_W cI cL cZ ad g q r o) sz)) 0 0 (va_A (wd_W cI cL cZ ad g q r o) sz) := by
  refine sw_met (Qc := fun A => va_Qi Q (fun u t => wq_E D cl_A (wd_T cI cL cZ) A (wd_W cI cL cZ ad g q u o) t) A) (by decide) rfl (Nat.le_of_ble_eq_true rfl) rfl ?_
  intro p e s m args below meth c A X hA hNs hE hr hlk hnm
  refine sw_aload_n X 0 rfl rfl dc_M_calls_0 ?_
  refine sw_iconst (v := 0) X dc_M_calls_1 (by decide) ?_
  refine sw_put (ty := .int) X (fun z hz => List.mem_cons_of_mem _ (wf_M z hz)) fy_M fo_M fn_M 20 (wd_20 cI cL cZ ad g q r o) rfl 35 (by decide) (List.mem_cons_of_mem _ wm_fl_M_80) rfl (by decide +kernel) rfl rfl (Nat.le_of_ble_eq_true rfl) (wd_W cI cL cZ ad g q (st_u r 20 35 (0 : Int32)) o) (ws_20_35 cI cL cZ ad g q r o (0 : Int32)) dc_M_calls_2 ?_
  refine sw_aload_n X 0 rfl rfl dc_M_calls_5 ?_
  refine sw_get (v := .int (r 20 30)) X (fun z hz => List.mem_cons_of_mem _ (wf_M z hz)) 20 (wd_20 cI cL cZ ad g q (st_u r 20 35 (0 : Int32)) o) rfl 30 (by decide) (List.mem_cons_of_mem _ wm_fl_M_204) rfl dc_M_calls_6 ?_
  exact sw_iret X hr hlk (u := (st_u r 20 35 (0 : Int32))) rfl h dc_M_calls_9
