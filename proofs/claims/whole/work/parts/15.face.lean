def wp_S_checkFunction (a1 : Int32) (g : st_I) (q : st_L) (Q : (st_S → Prop)) (QX : String → st_S → Prop) : Prop := wp_S_isFunction a1 g q (fun x1 u1 => (¬ x1 = 0 → Q (u1.1, u1.2)) ∧ (x1 = 0 → QX "java/lang/IllegalArgumentException" (u1.1, u1.2)))
set_option maxHeartbeats 4000000 in
set_option maxRecDepth 100000 in
theorem ct_S_checkFunction (l : Launch) (hlT : l.stackTraces = false) (D : va_G) (cI cL cZ : ClassId) (ad : Nat → Nat) (r : st_I) (o : st_L) (a1 : Int32) (g : st_I) (q : st_L) (Q : (st_S → Prop)) (QX : String → st_S → Prop) (h : wp_S_checkFunction a1 g q Q QX) : ∀ sz, vx_Met l yn_S_checkFunction (Cond.code yn_S_checkFunction cd_S_checkFunction 1 none :: wa_A) { frames := 6, cells := 1, slots := 6, locals := 90 } (va_Pc [.int a1] (wx_S D cl_A (wd_T cI cL cZ) nw_A (wd_W cI cL cZ ad g q r o) sz)) (va_Qv Q (fun u t => wq_E D cl_A (wd_T cI cL cZ) (va_A (wd_W cI cL cZ ad g q r o) sz) (wd_W cI cL cZ ad u.1 u.2 r o) t) (va_A (wd_W cI cL cZ ad g q r o) sz)) (xc_X D cl_A (wd_T cI cL cZ) (fun u : st_S => (wd_W cI cL cZ ad u.1 u.2 r o)) QX (va_A (wd_W cI cL cZ ad g q r o) sz)) 1 6 (va_A (wd_W cI cL cZ ad g q r o) sz) := by
  refine sx_met (Qc := fun A => va_Qv Q (fun u t => wq_E D cl_A (wd_T cI cL cZ) A (wd_W cI cL cZ ad u.1 u.2 r o) t) A) (XC := fun A => xc_X D cl_A (wd_T cI cL cZ) (fun u : st_S => (wd_W cI cL cZ ad u.1 u.2 r o)) QX A) (by decide) rfl (Nat.le_of_ble_eq_true rfl) rfl ?_
  intro p e s m args below meth c A X hA hNs hE hX hout hr hlk
  refine sw_iload_n X 0 rfl rfl dc_S_checkFunction_0 ?_
  refine sw_cS_i (n := 1) X hA nw_okA hNs hE (fun u : st_S => wd_W cI cL cZ ad u.1 u.2 r o) [.int a1] (ct_S_isFunction l D cI cL cZ ad r o a1 g q _ h) (List.mem_cons_of_mem _ wm_ml_S_135) (List.mem_cons_of_mem _ wm_st_S_isFunction) rfl (wg_in wm_code_S_isFunction) rfl rfl (List.mem_cons_of_mem _ wm_in_S) ⟨by decide, by decide, by decide +kernel⟩ ⟨by dsimp only; omega, by dsimp only; omega⟩ ⟨(Nat.le_of_ble_eq_true rfl), (Nat.le_of_ble_eq_true rfl)⟩ rfl (Nat.le_of_ble_eq_true rfl) dc_S_checkFunction_1 rfl (fun x1 u1 h => ?_)
  refine sw_if_ne (tgt := 17) X dc_S_checkFunction_4 (by decide) (fun z => ?_) (fun z => ?_)
  · have h := h.1 z
    exact sx_vret X hr hlk (Nat.le_of_ble_eq_true rfl) (Nat.le_of_ble_eq_true rfl) (u := (u1.1, u1.2)) rfl h dc_S_checkFunction_17
  · have h := h.2 z
    exact sx_throw X hlT hX xo_A xt_139 dc_S_checkFunction_7 dc_S_checkFunction_10 dc_S_checkFunction_11 dc_S_checkFunction_13 dc_S_checkFunction_16 hout ⟨by dsimp only; omega, by simp only [List.map_nil, List.sum_nil]; omega, (Nat.le_of_ble_eq_true rfl), (Nat.le_of_ble_eq_true rfl)⟩ hlk (Nat.le_of_ble_eq_true rfl) (Nat.le_of_ble_eq_true rfl) (u := (u1.1, u1.2)) rfl h
def wp_S_checkExpression (a1 : Int32) (g : st_I) (q : st_L) (Q : (st_S → Prop)) (QX : String → st_S → Prop) : Prop := wp_P_isExpression a1 g q (fun x5 u5 => (¬ x5 = 0 → Q (u5.1, u5.2)) ∧ (x5 = 0 → QX "java/lang/IllegalArgumentException" (u5.1, u5.2)))
set_option maxHeartbeats 4000000 in
set_option maxRecDepth 100000 in
theorem ct_S_checkExpression (l : Launch) (hlT : l.stackTraces = false) (D : va_G) (cI cL cZ : ClassId) (ad : Nat → Nat) (r : st_I) (o : st_L) (a1 : Int32) (g : st_I) (q : st_L) (Q : (st_S → Prop)) (QX : String → st_S → Prop) (h : wp_S_checkExpression a1 g q Q QX) : ∀ sz, vx_Met l yn_S_checkExpression (Cond.code yn_S_checkExpression cd_S_checkExpression 2 none :: wa_A) { frames := 6, cells := 1, slots := 6, locals := 90 } (va_Pc [.ref (ad 0), .int a1] (wx_S D cl_A (wd_T cI cL cZ) nw_A (wd_W cI cL cZ ad g q r o) sz)) (va_Qv Q (fun u t => wq_E D cl_A (wd_T cI cL cZ) (va_A (wd_W cI cL cZ ad g q r o) sz) (wd_W cI cL cZ ad u.1 u.2 r o) t) (va_A (wd_W cI cL cZ ad g q r o) sz)) (xc_X D cl_A (wd_T cI cL cZ) (fun u : st_S => (wd_W cI cL cZ ad u.1 u.2 r o)) QX (va_A (wd_W cI cL cZ ad g q r o) sz)) 1 6 (va_A (wd_W cI cL cZ ad g q r o) sz) := by
  refine sx_met (Qc := fun A => va_Qv Q (fun u t => wq_E D cl_A (wd_T cI cL cZ) A (wd_W cI cL cZ ad u.1 u.2 r o) t) A) (XC := fun A => xc_X D cl_A (wd_T cI cL cZ) (fun u : st_S => (wd_W cI cL cZ ad u.1 u.2 r o)) QX A) (by decide) rfl (Nat.le_of_ble_eq_true rfl) rfl ?_
  intro p e s m args below meth c A X hA hNs hE hX hout hr hlk
  refine sw_aload_n X 0 rfl rfl dc_S_checkExpression_0 ?_
  refine sw_get X (fun z hz => List.mem_cons_of_mem _ (wf_S z hz)) 0 (wd_0 cI cL cZ ad g q r o) rfl 0 (by decide) (List.mem_cons_of_mem _ wm_fl_S_10) rfl dc_S_checkExpression_1 ?_
  refine sw_iload_n X 1 rfl rfl dc_S_checkExpression_4 ?_
  refine sw_cV_i (n := 1) X hA nw_okA hNs hE (fun u : st_S => wd_W cI cL cZ ad u.1 u.2 r o) [.int a1] 1 (wd_1 cI cL cZ ad g q r o) rfl rfl (ct_P_isExpression l D cI cL cZ ad r o a1 g q _ h) (List.mem_cons_of_mem _ wm_ml_S_141) (List.mem_cons_of_mem _ wm_im_P_isExpression) (List.mem_cons_of_mem _ wm_se_P_isExpression) rfl (wg_in wm_code_P_isExpression) rfl rfl (List.mem_cons_of_mem _ wm_in_P) ⟨by decide, by decide, by decide +kernel⟩ ⟨by dsimp only; omega, by dsimp only; omega⟩ ⟨(Nat.le_of_ble_eq_true rfl), (Nat.le_of_ble_eq_true rfl)⟩ rfl (Nat.le_of_ble_eq_true rfl) dc_S_checkExpression_5 rfl (fun x5 u5 h => ?_)
  refine sw_if_ne (tgt := 21) X dc_S_checkExpression_8 (by decide) (fun z => ?_) (fun z => ?_)
  · have h := h.1 z
    exact sx_vret X hr hlk (Nat.le_of_ble_eq_true rfl) (Nat.le_of_ble_eq_true rfl) (u := (u5.1, u5.2)) rfl h dc_S_checkExpression_21
  · have h := h.2 z
    exact sx_throw X hlT hX xo_A xt_144 dc_S_checkExpression_11 dc_S_checkExpression_14 dc_S_checkExpression_15 dc_S_checkExpression_17 dc_S_checkExpression_20 hout ⟨by dsimp only; omega, by simp only [List.map_nil, List.sum_nil]; omega, (Nat.le_of_ble_eq_true rfl), (Nat.le_of_ble_eq_true rfl)⟩ hlk (Nat.le_of_ble_eq_true rfl) (Nat.le_of_ble_eq_true rfl) (u := (u5.1, u5.2)) rfl h
def wp_S_make (a1 : Int32) (a2 : Int32) (a3 : Int32) (a4 : Int32) (a5 : Int32) (g : st_I) (q : st_L) (Q : (Int32 → st_S → Prop)) (QX : String → st_S → Prop) : Prop := wp_P_draft a1 a2 a3 a4 a5 g q (fun x11 u11 => (¬ x11 = 0 → wp_P_isFull  u11.1 u11.2 (fun x31 u31 => (x31 = 0 → wp_P_keepDraft  u31.1 u31.2 (fun x51 u51 => Q x51 (u51.1, u51.2))) ∧ (¬ x31 = 0 → QX "java/lang/IllegalStateException" (u31.1, u31.2)))) ∧ (x11 = 0 → QX "java/lang/IllegalArgumentException" (u11.1, u11.2)))
set_option maxHeartbeats 4000000 in
set_option maxRecDepth 100000 in
theorem ct_S_make (l : Launch) (hlT : l.stackTraces = false) (D : va_G) (cI cL cZ : ClassId) (ad : Nat → Nat) (r : st_I) (o : st_L) (a1 : Int32) (a2 : Int32) (a3 : Int32) (a4 : Int32) (a5 : Int32) (g : st_I) (q : st_L) (Q : (Int32 → st_S → Prop)) (QX : String → st_S → Prop) (h : wp_S_make a1 a2 a3 a4 a5 g q Q QX) : ∀ sz, vx_Met l yn_S_make (Cond.code yn_S_make cd_S_make 6 (some .int) :: wa_A) { frames := 6, cells := 4, slots := 24, locals := 90 } (va_Pc [.ref (ad 0), .int a1, .int a2, .int a3, .int a4, .int a5] (wx_S D cl_A (wd_T cI cL cZ) nw_A (wd_W cI cL cZ ad g q r o) sz)) (va_Qi Q (fun u t => wq_E D cl_A (wd_T cI cL cZ) (va_A (wd_W cI cL cZ ad g q r o) sz) (wd_W cI cL cZ ad u.1 u.2 r o) t) (va_A (wd_W cI cL cZ ad g q r o) sz)) (xc_X D cl_A (wd_T cI cL cZ) (fun u : st_S => (wd_W cI cL cZ ad u.1 u.2 r o)) QX (va_A (wd_W cI cL cZ ad g q r o) sz)) 4 24 (va_A (wd_W cI cL cZ ad g q r o) sz) := by
  refine sx_met (Qc := fun A => va_Qi Q (fun u t => wq_E D cl_A (wd_T cI cL cZ) A (wd_W cI cL cZ ad u.1 u.2 r o) t) A) (XC := fun A => xc_X D cl_A (wd_T cI cL cZ) (fun u : st_S => (wd_W cI cL cZ ad u.1 u.2 r o)) QX A) (by decide) rfl (Nat.le_of_ble_eq_true rfl) rfl ?_
  intro p e s m args below meth c A X hA hNs hE hX hout hr hlk
  refine sw_aload_n X 0 rfl rfl dc_S_make_0 ?_
  refine sw_get X (fun z hz => List.mem_cons_of_mem _ (wf_S z hz)) 0 (wd_0 cI cL cZ ad g q r o) rfl 0 (by decide) (List.mem_cons_of_mem _ wm_fl_S_10) rfl dc_S_make_1 ?_
  refine sw_iload_n X 1 rfl rfl dc_S_make_4 ?_
  refine sw_iload_n X 2 rfl rfl dc_S_make_5 ?_
  refine sw_iload_n X 3 rfl rfl dc_S_make_6 ?_
  refine sw_iload X 4 rfl dc_S_make_7 ?_
  refine sw_iload X 5 rfl dc_S_make_9 ?_
  refine sw_cV_i (n := 5) X hA nw_okA hNs hE (fun u : st_S => wd_W cI cL cZ ad u.1 u.2 r o) [.int a1, .int a2, .int a3, .int a4, .int a5] 1 (wd_1 cI cL cZ ad g q r o) rfl rfl (ct_P_draft l D cI cL cZ ad r o a1 a2 a3 a4 a5 g q _ h) (List.mem_cons_of_mem _ wm_ml_S_32) (List.mem_cons_of_mem _ wm_im_P_draft) (List.mem_cons_of_mem _ wm_se_P_draft) rfl (wg_in wm_code_P_draft) rfl rfl (List.mem_cons_of_mem _ wm_in_P) ⟨by decide, by decide, by decide +kernel⟩ ⟨by dsimp only; omega, by dsimp only; omega⟩ ⟨(Nat.le_of_ble_eq_true rfl), (Nat.le_of_ble_eq_true rfl)⟩ rfl (Nat.le_of_ble_eq_true rfl) dc_S_make_11 rfl (fun x11 u11 h => ?_)
  refine sw_if_ne (tgt := 27) X dc_S_make_14 (by decide) (fun z => ?_) (fun z => ?_)
  · have h := h.1 z
    refine sw_aload_n X 0 rfl rfl dc_S_make_27 ?_
    refine sw_get X (fun z hz => List.mem_cons_of_mem _ (wf_S z hz)) 0 (wd_0 cI cL cZ ad u11.1 u11.2 r o) rfl 0 (by decide) (List.mem_cons_of_mem _ wm_fl_S_10) rfl dc_S_make_28 ?_
    refine sw_cV_i (n := 0) X hA nw_okA hNs hE (fun u : st_S => wd_W cI cL cZ ad u.1 u.2 r o) [] 1 (wd_1 cI cL cZ ad u11.1 u11.2 r o) rfl rfl (ct_P_isFull l D cI cL cZ ad r o u11.1 u11.2 _ h) (List.mem_cons_of_mem _ wm_ml_S_43) (List.mem_cons_of_mem _ wm_im_P_isFull) (List.mem_cons_of_mem _ wm_se_P_isFull) rfl (wg_in wm_code_P_isFull) rfl rfl (List.mem_cons_of_mem _ wm_in_P) ⟨by decide, by decide, by decide +kernel⟩ ⟨by dsimp only; omega, by dsimp only; omega⟩ ⟨(Nat.le_of_ble_eq_true rfl), (Nat.le_of_ble_eq_true rfl)⟩ rfl (Nat.le_of_ble_eq_true rfl) dc_S_make_31 rfl (fun x31 u31 h => ?_)
    refine sw_if_eq (tgt := 47) X dc_S_make_34 (by decide) (fun z => ?_) (fun z => ?_)
    · have h := h.1 z
      refine sw_aload_n X 0 rfl rfl dc_S_make_47 ?_
      refine sw_get X (fun z hz => List.mem_cons_of_mem _ (wf_S z hz)) 0 (wd_0 cI cL cZ ad u31.1 u31.2 r o) rfl 0 (by decide) (List.mem_cons_of_mem _ wm_fl_S_10) rfl dc_S_make_48 ?_
      refine sw_cV_i (n := 0) X hA nw_okA hNs hE (fun u : st_S => wd_W cI cL cZ ad u.1 u.2 r o) [] 1 (wd_1 cI cL cZ ad u31.1 u31.2 r o) rfl rfl (ct_P_keepDraft l D cI cL cZ ad r o u31.1 u31.2 _ h) (List.mem_cons_of_mem _ wm_ml_S_52) (List.mem_cons_of_mem _ wm_im_P_keepDraft) (List.mem_cons_of_mem _ wm_se_P_keepDraft) rfl (wg_in wm_code_P_keepDraft) rfl rfl (List.mem_cons_of_mem _ wm_in_P) ⟨by decide, by decide, by decide +kernel⟩ ⟨by dsimp only; omega, by dsimp only; omega⟩ ⟨(Nat.le_of_ble_eq_true rfl), (Nat.le_of_ble_eq_true rfl)⟩ rfl (Nat.le_of_ble_eq_true rfl) dc_S_make_51 rfl (fun x51 u51 h => ?_)
      exact sx_iret X hr hlk (Nat.le_of_ble_eq_true rfl) (Nat.le_of_ble_eq_true rfl) (u := (u51.1, u51.2)) rfl h dc_S_make_54
    · have h := h.2 z
      exact sx_throw X hlT hX xo_S xt_49 dc_S_make_37 dc_S_make_40 dc_S_make_41 dc_S_make_43 dc_S_make_46 hout ⟨by dsimp only; omega, by simp only [List.map_nil, List.sum_nil]; omega, (Nat.le_of_ble_eq_true rfl), (Nat.le_of_ble_eq_true rfl)⟩ hlk (Nat.le_of_ble_eq_true rfl) (Nat.le_of_ble_eq_true rfl) (u := (u31.1, u31.2)) rfl h
  · have h := h.2 z
    exact sx_throw X hlT hX xo_A xt_38 dc_S_make_17 dc_S_make_20 dc_S_make_21 dc_S_make_23 dc_S_make_26 hout ⟨by dsimp only; omega, by simp only [List.map_nil, List.sum_nil]; omega, (Nat.le_of_ble_eq_true rfl), (Nat.le_of_ble_eq_true rfl)⟩ hlk (Nat.le_of_ble_eq_true rfl) (Nat.le_of_ble_eq_true rfl) (u := (u11.1, u11.2)) rfl h
def wp_S_define (a1 : Int32) (a2 : Int32) (g : st_I) (q : st_L) (Q : (Int32 → st_S → Prop)) (QX : String → st_S → Prop) : Prop := wp_S_checkFunction a1 g q (fun u1 => wp_S_checkExpression a2 u1.1 u1.2 (fun u6 => wp_P_setBody a1 a2 u6.1 u6.2 (fun u15 => wp_K_forget  u15.1 u15.2 (fun u22 => wp_P_countBodies  u22.1 u22.2 (fun x29 u29 => Q x29 (u29.1, u29.2))))) QX) QX
set_option maxHeartbeats 4000000 in
set_option maxRecDepth 100000 in
theorem ct_S_define (l : Launch) (hlT : l.stackTraces = false) (D : va_G) (cI cL cZ : ClassId) (ad : Nat → Nat) (r : st_I) (o : st_L) (a1 : Int32) (a2 : Int32) (g : st_I) (q : st_L) (Q : (Int32 → st_S → Prop)) (QX : String → st_S → Prop) (h : wp_S_define a1 a2 g q Q QX) : ∀ sz, vx_Met l yn_S_define (Cond.code yn_S_define cd_S_define 3 (some .int) :: wa_A) { frames := 7, cells := 4, slots := 24, locals := 111 } (va_Pc [.ref (ad 0), .int a1, .int a2] (wx_S D cl_A (wd_T cI cL cZ) nw_A (wd_W cI cL cZ ad g q r o) sz)) (va_Qi Q (fun u t => wq_E D cl_A (wd_T cI cL cZ) (va_A (wd_W cI cL cZ ad g q r o) sz) (wd_W cI cL cZ ad u.1 u.2 r o) t) (va_A (wd_W cI cL cZ ad g q r o) sz)) (xc_X D cl_A (wd_T cI cL cZ) (fun u : st_S => (wd_W cI cL cZ ad u.1 u.2 r o)) QX (va_A (wd_W cI cL cZ ad g q r o) sz)) 4 24 (va_A (wd_W cI cL cZ ad g q r o) sz) := by
  refine sx_met (Qc := fun A => va_Qi Q (fun u t => wq_E D cl_A (wd_T cI cL cZ) A (wd_W cI cL cZ ad u.1 u.2 r o) t) A) (XC := fun A => xc_X D cl_A (wd_T cI cL cZ) (fun u : st_S => (wd_W cI cL cZ ad u.1 u.2 r o)) QX A) (by decide) rfl (Nat.le_of_ble_eq_true rfl) rfl ?_
  intro p e s m args below meth c A X hA hNs hE hX hout hr hlk
  refine sw_iload_n X 1 rfl rfl dc_S_define_0 ?_
  refine sx_cS_v (n := 1) (F := (fun u : st_S => wd_W cI cL cZ ad u.1 u.2 r o)) X hA nw_okA hNs hE hX [.int a1] (ct_S_checkFunction l hlT D cI cL cZ ad r o a1 g q _ _ h) (List.mem_cons_of_mem _ wm_ml_S_56) (List.mem_cons_of_mem _ wm_st_S_checkFunction) rfl (wg_in wm_code_S_checkFunction) rfl rfl (List.mem_cons_of_mem _ wm_in_S) ⟨by decide, by decide, by decide +kernel⟩ ⟨by dsimp only; omega, by dsimp only; omega⟩ ⟨(Nat.le_of_ble_eq_true rfl), (Nat.le_of_ble_eq_true rfl)⟩ rfl (Nat.le_of_ble_eq_true rfl) hlk hout (Nat.le_of_ble_eq_true rfl) (Nat.le_of_ble_eq_true rfl) dc_S_define_1 rfl (fun u1 h => ?_)
  refine sw_aload_n X 0 rfl rfl dc_S_define_4 ?_
  refine sw_iload_n X 2 rfl rfl dc_S_define_5 ?_
  refine sx_cV_v (n := 1) (F := (fun u : st_S => wd_W cI cL cZ ad u.1 u.2 r o)) X hA nw_okA hNs hE hX [.int a2] 0 (wd_0 cI cL cZ ad u1.1 u1.2 r o) rfl rfl (ct_S_checkExpression l hlT D cI cL cZ ad r o a2 u1.1 u1.2 _ _ h) (List.mem_cons_of_mem _ wm_ml_S_60) (List.mem_cons_of_mem _ wm_im_S_checkExpression) (List.mem_cons_of_mem _ wm_se_S_checkExpression) rfl (wg_in wm_code_S_checkExpression) rfl rfl (List.mem_cons_of_mem _ wm_in_S) ⟨by decide, by decide, by decide +kernel⟩ ⟨by dsimp only; omega, by dsimp only; omega⟩ ⟨(Nat.le_of_ble_eq_true rfl), (Nat.le_of_ble_eq_true rfl)⟩ rfl (Nat.le_of_ble_eq_true rfl) hlk hout (Nat.le_of_ble_eq_true rfl) (Nat.le_of_ble_eq_true rfl) dc_S_define_6 rfl (fun u6 h => ?_)
  refine sw_aload_n X 0 rfl rfl dc_S_define_9 ?_
  refine sw_get X (fun z hz => List.mem_cons_of_mem _ (wf_S z hz)) 0 (wd_0 cI cL cZ ad u6.1 u6.2 r o) rfl 0 (by decide) (List.mem_cons_of_mem _ wm_fl_S_10) rfl dc_S_define_10 ?_
  refine sw_iload_n X 1 rfl rfl dc_S_define_13 ?_
  refine sw_iload_n X 2 rfl rfl dc_S_define_14 ?_
  refine sw_cV_v (n := 2) X hA nw_okA hNs hE (fun u : st_S => wd_W cI cL cZ ad u.1 u.2 r o) [.int a1, .int a2] 1 (wd_1 cI cL cZ ad u6.1 u6.2 r o) rfl rfl (ct_P_setBody l D cI cL cZ ad r o a1 a2 u6.1 u6.2 _ h) (List.mem_cons_of_mem _ wm_ml_S_63) (List.mem_cons_of_mem _ wm_im_P_setBody) (List.mem_cons_of_mem _ wm_se_P_setBody) rfl (wg_in wm_code_P_setBody) rfl rfl (List.mem_cons_of_mem _ wm_in_P) ⟨by decide, by decide, by decide +kernel⟩ ⟨by dsimp only; omega, by dsimp only; omega⟩ ⟨(Nat.le_of_ble_eq_true rfl), (Nat.le_of_ble_eq_true rfl)⟩ rfl (Nat.le_of_ble_eq_true rfl) dc_S_define_15 rfl (fun u15 h => ?_)
  refine sw_aload_n X 0 rfl rfl dc_S_define_18 ?_
  refine sw_get X (fun z hz => List.mem_cons_of_mem _ (wf_S z hz)) 0 (wd_0 cI cL cZ ad u15.1 u15.2 r o) rfl 1 (by decide) (List.mem_cons_of_mem _ wm_fl_S_21) rfl dc_S_define_19 ?_
  refine sw_cV_v (n := 0) X hA nw_okA hNs hE (fun u : st_S => wd_W cI cL cZ ad u.1 u.2 r o) [] 10 (wd_10 cI cL cZ ad u15.1 u15.2 r o) rfl rfl (ct_K_forget l D cI cL cZ ad r o u15.1 u15.2 _ h) (List.mem_cons_of_mem _ wm_ml_S_67) (List.mem_cons_of_mem _ wm_im_K_forget) (List.mem_cons_of_mem _ wm_se_K_forget) rfl (wg_in wm_code_K_forget) rfl rfl (List.mem_cons_of_mem _ wm_in_K) ⟨by decide, by decide, by decide +kernel⟩ ⟨by dsimp only; omega, by dsimp only; omega⟩ ⟨(Nat.le_of_ble_eq_true rfl), (Nat.le_of_ble_eq_true rfl)⟩ rfl (Nat.le_of_ble_eq_true rfl) dc_S_define_22 rfl (fun u22 h => ?_)
  refine sw_aload_n X 0 rfl rfl dc_S_define_25 ?_
  refine sw_get X (fun z hz => List.mem_cons_of_mem _ (wf_S z hz)) 0 (wd_0 cI cL cZ ad u22.1 u22.2 r o) rfl 0 (by decide) (List.mem_cons_of_mem _ wm_fl_S_10) rfl dc_S_define_26 ?_
  refine sw_cV_i (n := 0) X hA nw_okA hNs hE (fun u : st_S => wd_W cI cL cZ ad u.1 u.2 r o) [] 1 (wd_1 cI cL cZ ad u22.1 u22.2 r o) rfl rfl (ct_P_countBodies l D cI cL cZ ad r o u22.1 u22.2 _ h) (List.mem_cons_of_mem _ wm_ml_S_70) (List.mem_cons_of_mem _ wm_im_P_countBodies) (List.mem_cons_of_mem _ wm_se_P_countBodies) rfl (wg_in wm_code_P_countBodies) rfl rfl (List.mem_cons_of_mem _ wm_in_P) ⟨by decide, by decide, by decide +kernel⟩ ⟨by dsimp only; omega, by dsimp only; omega⟩ ⟨(Nat.le_of_ble_eq_true rfl), (Nat.le_of_ble_eq_true rfl)⟩ rfl (Nat.le_of_ble_eq_true rfl) dc_S_define_29 rfl (fun x29 u29 h => ?_)
  exact sx_iret X hr hlk (Nat.le_of_ble_eq_true rfl) (Nat.le_of_ble_eq_true rfl) (u := (u29.1, u29.2)) rfl h dc_S_define_32
def wp_S_may_L16 (d : Nat) (QX : String → st_S → Prop) (Q : (Int32 → st_S → Prop)) (g : st_I) (q : st_L)  : Prop := QX "java/lang/IllegalArgumentException" (g, q)
def wp_S_may (d : Nat) (a1 : Int32) (a2 : Int32) (g : st_I) (q : st_L) (Q : (Int32 → st_S → Prop)) (QX : String → st_S → Prop) : Prop := wp_S_checkFunction a1 g q (fun u1 => (a2 < 0 → wp_S_may_L16 d QX Q u1.1 u1.2) ∧ (¬ a2 < 0 → wp_S_parametersOf a1 u1.1 u1.2 (fun x10 u10 => (a2 < x10 → wp_K_learn d  u10.1 u10.2 (fun u30 => wp_K_mayOf a1 a2 u30.1 u30.2 (fun x39 u39 => Q x39 (u39.1, u39.2)))) ∧ (¬ a2 < x10 → wp_S_may_L16 d QX Q u10.1 u10.2)))) QX
set_option maxHeartbeats 4000000 in
set_option maxRecDepth 100000 in
theorem ct_S_may (l : Launch) (hlT : l.stackTraces = false) (D : va_G) (cI cL cZ : ClassId) (ad : Nat → Nat) (r : st_I) (o : st_L) (d : Nat) (a1 : Int32) (a2 : Int32) (g : st_I) (q : st_L) (Q : (Int32 → st_S → Prop)) (QX : String → st_S → Prop) (h : wp_S_may d a1 a2 g q Q QX) : ∀ sz, vx_Met l yn_S_may (Cond.code yn_S_may cd_S_may 3 (some .int) :: wa_A) { frames := (rm_K_kinds d).1 + 7, cells := 4, slots := 24, locals := (rm_K_kinds d).2 + 110 } (va_Pc [.ref (ad 0), .int a1, .int a2] (wx_S D cl_A (wd_T cI cL cZ) nw_A (wd_W cI cL cZ ad g q r o) sz)) (va_Qi Q (fun u t => wq_E D cl_A (wd_T cI cL cZ) (va_A (wd_W cI cL cZ ad g q r o) sz) (wd_W cI cL cZ ad u.1 u.2 r o) t) (va_A (wd_W cI cL cZ ad g q r o) sz)) (xc_X D cl_A (wd_T cI cL cZ) (fun u : st_S => (wd_W cI cL cZ ad u.1 u.2 r o)) QX (va_A (wd_W cI cL cZ ad g q r o) sz)) 4 24 (va_A (wd_W cI cL cZ ad g q r o) sz) := by
  refine sx_met (Qc := fun A => va_Qi Q (fun u t => wq_E D cl_A (wd_T cI cL cZ) A (wd_W cI cL cZ ad u.1 u.2 r o) t) A) (XC := fun A => xc_X D cl_A (wd_T cI cL cZ) (fun u : st_S => (wd_W cI cL cZ ad u.1 u.2 r o)) QX A) (by decide) rfl (Nat.le_of_ble_eq_true rfl) rfl ?_
  intro p e s m args below meth c A X hA hNs hE hX hout hr hlk
  have b16 : ∀ (g : st_I) (q : st_L), wp_S_may_L16 d QX Q g q → sw_J p l e { frames := (rm_K_kinds d).1 + 7, cells := 4, slots := 24, locals := (rm_K_kinds d).2 + 110 } s m args below meth c 3 18 (vx_MQ below (va_Qi Q (fun u t => wq_E D cl_A (wd_T cI cL cZ) A (wd_W cI cL cZ ad u.1 u.2 r o) t) A) (xc_X D cl_A (wd_T cI cL cZ) (fun u : st_S => (wd_W cI cL cZ ad u.1 u.2 r o)) QX A) args s 4 24 A) D cl_A A 3 (wd_W cI cL cZ ad g q r o) 16 [] [] := by
    intro g q h
    exact sx_throw X hlT hX xo_A xt_77 dc_S_may_16 dc_S_may_19 dc_S_may_20 dc_S_may_22 dc_S_may_25 hout ⟨by dsimp only; omega, by simp only [List.map_nil, List.sum_nil]; omega, (Nat.le_of_ble_eq_true rfl), (Nat.le_of_ble_eq_true rfl)⟩ hlk (Nat.le_of_ble_eq_true rfl) (Nat.le_of_ble_eq_true rfl) (u := (g, q)) rfl h
  refine sw_iload_n X 1 rfl rfl dc_S_may_0 ?_
  refine sx_cS_v (n := 1) (F := (fun u : st_S => wd_W cI cL cZ ad u.1 u.2 r o)) X hA nw_okA hNs hE hX [.int a1] (ct_S_checkFunction l hlT D cI cL cZ ad r o a1 g q _ _ h) (List.mem_cons_of_mem _ wm_ml_S_56) (List.mem_cons_of_mem _ wm_st_S_checkFunction) rfl (wg_in wm_code_S_checkFunction) rfl rfl (List.mem_cons_of_mem _ wm_in_S) ⟨by decide, by decide, by decide +kernel⟩ ⟨by dsimp only; omega, by dsimp only; omega⟩ ⟨(Nat.le_of_ble_eq_true rfl), (Nat.le_of_ble_eq_true rfl)⟩ rfl (Nat.le_of_ble_eq_true rfl) hlk hout (Nat.le_of_ble_eq_true rfl) (Nat.le_of_ble_eq_true rfl) dc_S_may_1 rfl (fun u1 h => ?_)
  refine sw_iload_n X 2 rfl rfl dc_S_may_4 ?_
  refine sw_if_lt (tgt := 16) X dc_S_may_5 (by decide) (fun z => ?_) (fun z => ?_)
  · have h := h.1 z
    refine sw_sub [] rfl ?_
    refine sw_widen 3 18 (Nat.le_of_ble_eq_true rfl) (Nat.le_of_ble_eq_true rfl) ?_
    exact b16 u1.1 u1.2 h
  · have h := h.2 z
    refine sw_iload_n X 2 rfl rfl dc_S_may_8 ?_
    refine sw_iload_n X 1 rfl rfl dc_S_may_9 ?_
    refine sw_cS_i (n := 1) X hA nw_okA hNs hE (fun u : st_S => wd_W cI cL cZ ad u.1 u.2 r o) [.int a1] (ct_S_parametersOf l D cI cL cZ ad r o a1 u1.1 u1.2 _ h) (List.mem_cons_of_mem _ wm_ml_S_73) (List.mem_cons_of_mem _ wm_st_S_parametersOf) rfl (wg_in wm_code_S_parametersOf) rfl rfl (List.mem_cons_of_mem _ wm_in_S) ⟨by decide, by decide, by decide +kernel⟩ ⟨by dsimp only; omega, by dsimp only; omega⟩ ⟨(Nat.le_of_ble_eq_true rfl), (Nat.le_of_ble_eq_true rfl)⟩ rfl (Nat.le_of_ble_eq_true rfl) dc_S_may_10 rfl (fun x10 u10 h => ?_)
    refine sw_icmp_lt (tgt := 26) X dc_S_may_13 (by decide) (fun z => ?_) (fun z => ?_)
    · have h := h.1 z
      refine sw_aload_n X 0 rfl rfl dc_S_may_26 ?_
      refine sw_get X (fun z hz => List.mem_cons_of_mem _ (wf_S z hz)) 0 (wd_0 cI cL cZ ad u10.1 u10.2 r o) rfl 1 (by decide) (List.mem_cons_of_mem _ wm_fl_S_21) rfl dc_S_may_27 ?_
      refine sw_cV_v (n := 0) X hA nw_okA hNs hE (fun u : st_S => wd_W cI cL cZ ad u.1 u.2 r o) [] 10 (wd_10 cI cL cZ ad u10.1 u10.2 r o) rfl rfl (ct_K_learn l D cI cL cZ ad r o d  u10.1 u10.2 _ h) (List.mem_cons_of_mem _ wm_ml_S_79) (List.mem_cons_of_mem _ wm_im_K_learn) (List.mem_cons_of_mem _ wm_se_K_learn) rfl (wg_in wm_code_K_learn) rfl rfl (List.mem_cons_of_mem _ wm_in_K) ⟨by decide, by decide, by decide +kernel⟩ ⟨by dsimp only; omega, by dsimp only; omega⟩ ⟨(Nat.le_of_ble_eq_true rfl), (Nat.le_of_ble_eq_true rfl)⟩ rfl (Nat.le_of_ble_eq_true rfl) dc_S_may_30 rfl (fun u30 h => ?_)
      refine sw_aload_n X 0 rfl rfl dc_S_may_33 ?_
      refine sw_get X (fun z hz => List.mem_cons_of_mem _ (wf_S z hz)) 0 (wd_0 cI cL cZ ad u30.1 u30.2 r o) rfl 1 (by decide) (List.mem_cons_of_mem _ wm_fl_S_21) rfl dc_S_may_34 ?_
      refine sw_iload_n X 1 rfl rfl dc_S_may_37 ?_
      refine sw_iload_n X 2 rfl rfl dc_S_may_38 ?_
      refine sw_cV_i (n := 2) X hA nw_okA hNs hE (fun u : st_S => wd_W cI cL cZ ad u.1 u.2 r o) [.int a1, .int a2] 10 (wd_10 cI cL cZ ad u30.1 u30.2 r o) rfl rfl (ct_K_mayOf l D cI cL cZ ad r o a1 a2 u30.1 u30.2 _ h) (List.mem_cons_of_mem _ wm_ml_S_82) (List.mem_cons_of_mem _ wm_im_K_mayOf) (List.mem_cons_of_mem _ wm_se_K_mayOf) rfl (wg_in wm_code_K_mayOf) rfl rfl (List.mem_cons_of_mem _ wm_in_K) ⟨by decide, by decide, by decide +kernel⟩ ⟨by dsimp only; omega, by dsimp only; omega⟩ ⟨(Nat.le_of_ble_eq_true rfl), (Nat.le_of_ble_eq_true rfl)⟩ rfl (Nat.le_of_ble_eq_true rfl) dc_S_may_39 rfl (fun x39 u39 h => ?_)
      exact sx_iret X hr hlk (Nat.le_of_ble_eq_true rfl) (Nat.le_of_ble_eq_true rfl) (u := (u39.1, u39.2)) rfl h dc_S_may_42
    · have h := h.2 z
      refine sw_sub [] rfl ?_
      refine sw_widen 3 18 (Nat.le_of_ble_eq_true rfl) (Nat.le_of_ble_eq_true rfl) ?_
      exact b16 u10.1 u10.2 h
def wp_S_gives (d : Nat) (a1 : Int32) (g : st_I) (q : st_L) (Q : (Int32 → st_S → Prop)) (QX : String → st_S → Prop) : Prop := wp_S_checkFunction a1 g q (fun u1 => wp_K_learn d  u1.1 u1.2 (fun u8 => wp_K_givesOf a1 u8.1 u8.2 (fun x16 u16 => Q x16 (u16.1, u16.2)))) QX
set_option maxHeartbeats 4000000 in
set_option maxRecDepth 100000 in
theorem ct_S_gives (l : Launch) (hlT : l.stackTraces = false) (D : va_G) (cI cL cZ : ClassId) (ad : Nat → Nat) (r : st_I) (o : st_L) (d : Nat) (a1 : Int32) (g : st_I) (q : st_L) (Q : (Int32 → st_S → Prop)) (QX : String → st_S → Prop) (h : wp_S_gives d a1 g q Q QX) : ∀ sz, vx_Met l yn_S_gives (Cond.code yn_S_gives cd_S_gives 2 (some .int) :: wa_A) { frames := (rm_K_kinds d).1 + 7, cells := 4, slots := 24, locals := (rm_K_kinds d).2 + 110 } (va_Pc [.ref (ad 0), .int a1] (wx_S D cl_A (wd_T cI cL cZ) nw_A (wd_W cI cL cZ ad g q r o) sz)) (va_Qi Q (fun u t => wq_E D cl_A (wd_T cI cL cZ) (va_A (wd_W cI cL cZ ad g q r o) sz) (wd_W cI cL cZ ad u.1 u.2 r o) t) (va_A (wd_W cI cL cZ ad g q r o) sz)) (xc_X D cl_A (wd_T cI cL cZ) (fun u : st_S => (wd_W cI cL cZ ad u.1 u.2 r o)) QX (va_A (wd_W cI cL cZ ad g q r o) sz)) 4 24 (va_A (wd_W cI cL cZ ad g q r o) sz) := by
  refine sx_met (Qc := fun A => va_Qi Q (fun u t => wq_E D cl_A (wd_T cI cL cZ) A (wd_W cI cL cZ ad u.1 u.2 r o) t) A) (XC := fun A => xc_X D cl_A (wd_T cI cL cZ) (fun u : st_S => (wd_W cI cL cZ ad u.1 u.2 r o)) QX A) (by decide) rfl (Nat.le_of_ble_eq_true rfl) rfl ?_
  intro p e s m args below meth c A X hA hNs hE hX hout hr hlk
  refine sw_iload_n X 1 rfl rfl dc_S_gives_0 ?_
  refine sx_cS_v (n := 1) (F := (fun u : st_S => wd_W cI cL cZ ad u.1 u.2 r o)) X hA nw_okA hNs hE hX [.int a1] (ct_S_checkFunction l hlT D cI cL cZ ad r o a1 g q _ _ h) (List.mem_cons_of_mem _ wm_ml_S_56) (List.mem_cons_of_mem _ wm_st_S_checkFunction) rfl (wg_in wm_code_S_checkFunction) rfl rfl (List.mem_cons_of_mem _ wm_in_S) ⟨by decide, by decide, by decide +kernel⟩ ⟨by dsimp only; omega, by dsimp only; omega⟩ ⟨(Nat.le_of_ble_eq_true rfl), (Nat.le_of_ble_eq_true rfl)⟩ rfl (Nat.le_of_ble_eq_true rfl) hlk hout (Nat.le_of_ble_eq_true rfl) (Nat.le_of_ble_eq_true rfl) dc_S_gives_1 rfl (fun u1 h => ?_)
  refine sw_aload_n X 0 rfl rfl dc_S_gives_4 ?_
  refine sw_get X (fun z hz => List.mem_cons_of_mem _ (wf_S z hz)) 0 (wd_0 cI cL cZ ad u1.1 u1.2 r o) rfl 1 (by decide) (List.mem_cons_of_mem _ wm_fl_S_21) rfl dc_S_gives_5 ?_
  refine sw_cV_v (n := 0) X hA nw_okA hNs hE (fun u : st_S => wd_W cI cL cZ ad u.1 u.2 r o) [] 10 (wd_10 cI cL cZ ad u1.1 u1.2 r o) rfl rfl (ct_K_learn l D cI cL cZ ad r o d  u1.1 u1.2 _ h) (List.mem_cons_of_mem _ wm_ml_S_79) (List.mem_cons_of_mem _ wm_im_K_learn) (List.mem_cons_of_mem _ wm_se_K_learn) rfl (wg_in wm_code_K_learn) rfl rfl (List.mem_cons_of_mem _ wm_in_K) ⟨by decide, by decide, by decide +kernel⟩ ⟨by dsimp only; omega, by dsimp only; omega⟩ ⟨(Nat.le_of_ble_eq_true rfl), (Nat.le_of_ble_eq_true rfl)⟩ rfl (Nat.le_of_ble_eq_true rfl) dc_S_gives_8 rfl (fun u8 h => ?_)
  refine sw_aload_n X 0 rfl rfl dc_S_gives_11 ?_
  refine sw_get X (fun z hz => List.mem_cons_of_mem _ (wf_S z hz)) 0 (wd_0 cI cL cZ ad u8.1 u8.2 r o) rfl 1 (by decide) (List.mem_cons_of_mem _ wm_fl_S_21) rfl dc_S_gives_12 ?_
  refine sw_iload_n X 1 rfl rfl dc_S_gives_15 ?_
  refine sw_cV_i (n := 1) X hA nw_okA hNs hE (fun u : st_S => wd_W cI cL cZ ad u.1 u.2 r o) [.int a1] 10 (wd_10 cI cL cZ ad u8.1 u8.2 r o) rfl rfl (ct_K_givesOf l D cI cL cZ ad r o a1 u8.1 u8.2 _ h) (List.mem_cons_of_mem _ wm_ml_S_86) (List.mem_cons_of_mem _ wm_im_K_givesOf) (List.mem_cons_of_mem _ wm_se_K_givesOf) rfl (wg_in wm_code_K_givesOf) rfl rfl (List.mem_cons_of_mem _ wm_in_K) ⟨by decide, by decide, by decide +kernel⟩ ⟨by dsimp only; omega, by dsimp only; omega⟩ ⟨(Nat.le_of_ble_eq_true rfl), (Nat.le_of_ble_eq_true rfl)⟩ rfl (Nat.le_of_ble_eq_true rfl) dc_S_gives_16 rfl (fun x16 u16 h => ?_)
  exact sx_iret X hr hlk (Nat.le_of_ble_eq_true rfl) (Nat.le_of_ble_eq_true rfl) (u := (u16.1, u16.2)) rfl h dc_S_gives_19
def wp_S_hopeless (d : Nat) (a1 : Int32) (g : st_I) (q : st_L) (Q : (Int32 → st_S → Prop)) (QX : String → st_S → Prop) : Prop := wp_S_checkFunction a1 g q (fun u1 => wp_K_learn d  u1.1 u1.2 (fun u8 => wp_K_countHopeless d a1 u8.1 u8.2 (fun x16 u16 => Q x16 (u16.1, u16.2)))) QX
set_option maxHeartbeats 4000000 in
set_option maxRecDepth 100000 in
theorem ct_S_hopeless (l : Launch) (hlT : l.stackTraces = false) (D : va_G) (cI cL cZ : ClassId) (ad : Nat → Nat) (r : st_I) (o : st_L) (d : Nat) (a1 : Int32) (g : st_I) (q : st_L) (Q : (Int32 → st_S → Prop)) (QX : String → st_S → Prop) (h : wp_S_hopeless d a1 g q Q QX) : ∀ sz, vx_Met l yn_S_hopeless (Cond.code yn_S_hopeless cd_S_hopeless 2 (some .int) :: wa_A) { frames := (rm_K_kinds d).1 + 7, cells := 4, slots := 24, locals := (rm_K_kinds d).2 + 110 } (va_Pc [.ref (ad 0), .int a1] (wx_S D cl_A (wd_T cI cL cZ) nw_A (wd_W cI cL cZ ad g q r o) sz)) (va_Qi Q (fun u t => wq_E D cl_A (wd_T cI cL cZ) (va_A (wd_W cI cL cZ ad g q r o) sz) (wd_W cI cL cZ ad u.1 u.2 r o) t) (va_A (wd_W cI cL cZ ad g q r o) sz)) (xc_X D cl_A (wd_T cI cL cZ) (fun u : st_S => (wd_W cI cL cZ ad u.1 u.2 r o)) QX (va_A (wd_W cI cL cZ ad g q r o) sz)) 4 24 (va_A (wd_W cI cL cZ ad g q r o) sz) := by
  refine sx_met (Qc := fun A => va_Qi Q (fun u t => wq_E D cl_A (wd_T cI cL cZ) A (wd_W cI cL cZ ad u.1 u.2 r o) t) A) (XC := fun A => xc_X D cl_A (wd_T cI cL cZ) (fun u : st_S => (wd_W cI cL cZ ad u.1 u.2 r o)) QX A) (by decide) rfl (Nat.le_of_ble_eq_true rfl) rfl ?_
  intro p e s m args below meth c A X hA hNs hE hX hout hr hlk
  refine sw_iload_n X 1 rfl rfl dc_S_hopeless_0 ?_
  refine sx_cS_v (n := 1) (F := (fun u : st_S => wd_W cI cL cZ ad u.1 u.2 r o)) X hA nw_okA hNs hE hX [.int a1] (ct_S_checkFunction l hlT D cI cL cZ ad r o a1 g q _ _ h) (List.mem_cons_of_mem _ wm_ml_S_56) (List.mem_cons_of_mem _ wm_st_S_checkFunction) rfl (wg_in wm_code_S_checkFunction) rfl rfl (List.mem_cons_of_mem _ wm_in_S) ⟨by decide, by decide, by decide +kernel⟩ ⟨by dsimp only; omega, by dsimp only; omega⟩ ⟨(Nat.le_of_ble_eq_true rfl), (Nat.le_of_ble_eq_true rfl)⟩ rfl (Nat.le_of_ble_eq_true rfl) hlk hout (Nat.le_of_ble_eq_true rfl) (Nat.le_of_ble_eq_true rfl) dc_S_hopeless_1 rfl (fun u1 h => ?_)
  refine sw_aload_n X 0 rfl rfl dc_S_hopeless_4 ?_
  refine sw_get X (fun z hz => List.mem_cons_of_mem _ (wf_S z hz)) 0 (wd_0 cI cL cZ ad u1.1 u1.2 r o) rfl 1 (by decide) (List.mem_cons_of_mem _ wm_fl_S_21) rfl dc_S_hopeless_5 ?_
  refine sw_cV_v (n := 0) X hA nw_okA hNs hE (fun u : st_S => wd_W cI cL cZ ad u.1 u.2 r o) [] 10 (wd_10 cI cL cZ ad u1.1 u1.2 r o) rfl rfl (ct_K_learn l D cI cL cZ ad r o d  u1.1 u1.2 _ h) (List.mem_cons_of_mem _ wm_ml_S_79) (List.mem_cons_of_mem _ wm_im_K_learn) (List.mem_cons_of_mem _ wm_se_K_learn) rfl (wg_in wm_code_K_learn) rfl rfl (List.mem_cons_of_mem _ wm_in_K) ⟨by decide, by decide, by decide +kernel⟩ ⟨by dsimp only; omega, by dsimp only; omega⟩ ⟨(Nat.le_of_ble_eq_true rfl), (Nat.le_of_ble_eq_true rfl)⟩ rfl (Nat.le_of_ble_eq_true rfl) dc_S_hopeless_8 rfl (fun u8 h => ?_)
  refine sw_aload_n X 0 rfl rfl dc_S_hopeless_11 ?_
  refine sw_get X (fun z hz => List.mem_cons_of_mem _ (wf_S z hz)) 0 (wd_0 cI cL cZ ad u8.1 u8.2 r o) rfl 1 (by decide) (List.mem_cons_of_mem _ wm_fl_S_21) rfl dc_S_hopeless_12 ?_
  refine sw_iload_n X 1 rfl rfl dc_S_hopeless_15 ?_
  refine sw_cV_i (n := 1) X hA nw_okA hNs hE (fun u : st_S => wd_W cI cL cZ ad u.1 u.2 r o) [.int a1] 10 (wd_10 cI cL cZ ad u8.1 u8.2 r o) rfl rfl (ct_K_countHopeless l D cI cL cZ ad r o d a1 u8.1 u8.2 _ h) (List.mem_cons_of_mem _ wm_ml_S_89) (List.mem_cons_of_mem _ wm_im_K_countHopeless) (List.mem_cons_of_mem _ wm_se_K_countHopeless) rfl (wg_in wm_code_K_countHopeless) rfl rfl (List.mem_cons_of_mem _ wm_in_K) ⟨by decide, by decide, by decide +kernel⟩ ⟨by dsimp only; omega, by dsimp only; omega⟩ ⟨(Nat.le_of_ble_eq_true rfl), (Nat.le_of_ble_eq_true rfl)⟩ rfl (Nat.le_of_ble_eq_true rfl) dc_S_hopeless_16 rfl (fun x16 u16 h => ?_)
  exact sx_iret X hr hlk (Nat.le_of_ble_eq_true rfl) (Nat.le_of_ble_eq_true rfl) (u := (u16.1, u16.2)) rfl h dc_S_hopeless_19
def wp_S_isHopeless (d : Nat) (a1 : Int32) (a2 : Int32) (g : st_I) (q : st_L) (Q : (Int32 → st_S → Prop)) (QX : String → st_S → Prop) : Prop := wp_S_checkFunction a1 g q (fun u1 => wp_S_checkExpression a2 u1.1 u1.2 (fun u6 => wp_K_learn d  u6.1 u6.2 (fun u13 => wp_K_isHopelessCall d a1 a2 u13.1 u13.2 (fun x22 u22 => narrow .boolean (.int x22) = .int x22 ∧ Q x22 (u22.1, u22.2)))) QX) QX
set_option maxHeartbeats 4000000 in
set_option maxRecDepth 100000 in
theorem ct_S_isHopeless (l : Launch) (hlT : l.stackTraces = false) (D : va_G) (cI cL cZ : ClassId) (ad : Nat → Nat) (r : st_I) (o : st_L) (d : Nat) (a1 : Int32) (a2 : Int32) (g : st_I) (q : st_L) (Q : (Int32 → st_S → Prop)) (QX : String → st_S → Prop) (h : wp_S_isHopeless d a1 a2 g q Q QX) : ∀ sz, vx_Met l yn_S_isHopeless (Cond.code yn_S_isHopeless cd_S_isHopeless 3 (some .boolean) :: wa_A) { frames := (rm_K_kinds d).1 + 7, cells := 4, slots := 24, locals := (rm_K_kinds d).2 + 111 } (va_Pc [.ref (ad 0), .int a1, .int a2] (wx_S D cl_A (wd_T cI cL cZ) nw_A (wd_W cI cL cZ ad g q r o) sz)) (va_Qi Q (fun u t => wq_E D cl_A (wd_T cI cL cZ) (va_A (wd_W cI cL cZ ad g q r o) sz) (wd_W cI cL cZ ad u.1 u.2 r o) t) (va_A (wd_W cI cL cZ ad g q r o) sz)) (xc_X D cl_A (wd_T cI cL cZ) (fun u : st_S => (wd_W cI cL cZ ad u.1 u.2 r o)) QX (va_A (wd_W cI cL cZ ad g q r o) sz)) 4 24 (va_A (wd_W cI cL cZ ad g q r o) sz) := by
  refine sx_met (Qc := fun A => va_Qi Q (fun u t => wq_E D cl_A (wd_T cI cL cZ) A (wd_W cI cL cZ ad u.1 u.2 r o) t) A) (XC := fun A => xc_X D cl_A (wd_T cI cL cZ) (fun u : st_S => (wd_W cI cL cZ ad u.1 u.2 r o)) QX A) (by decide) rfl (Nat.le_of_ble_eq_true rfl) rfl ?_
  intro p e s m args below meth c A X hA hNs hE hX hout hr hlk
  refine sw_iload_n X 1 rfl rfl dc_S_isHopeless_0 ?_
  refine sx_cS_v (n := 1) (F := (fun u : st_S => wd_W cI cL cZ ad u.1 u.2 r o)) X hA nw_okA hNs hE hX [.int a1] (ct_S_checkFunction l hlT D cI cL cZ ad r o a1 g q _ _ h) (List.mem_cons_of_mem _ wm_ml_S_56) (List.mem_cons_of_mem _ wm_st_S_checkFunction) rfl (wg_in wm_code_S_checkFunction) rfl rfl (List.mem_cons_of_mem _ wm_in_S) ⟨by decide, by decide, by decide +kernel⟩ ⟨by dsimp only; omega, by dsimp only; omega⟩ ⟨(Nat.le_of_ble_eq_true rfl), (Nat.le_of_ble_eq_true rfl)⟩ rfl (Nat.le_of_ble_eq_true rfl) hlk hout (Nat.le_of_ble_eq_true rfl) (Nat.le_of_ble_eq_true rfl) dc_S_isHopeless_1 rfl (fun u1 h => ?_)
  refine sw_aload_n X 0 rfl rfl dc_S_isHopeless_4 ?_
  refine sw_iload_n X 2 rfl rfl dc_S_isHopeless_5 ?_
  refine sx_cV_v (n := 1) (F := (fun u : st_S => wd_W cI cL cZ ad u.1 u.2 r o)) X hA nw_okA hNs hE hX [.int a2] 0 (wd_0 cI cL cZ ad u1.1 u1.2 r o) rfl rfl (ct_S_checkExpression l hlT D cI cL cZ ad r o a2 u1.1 u1.2 _ _ h) (List.mem_cons_of_mem _ wm_ml_S_60) (List.mem_cons_of_mem _ wm_im_S_checkExpression) (List.mem_cons_of_mem _ wm_se_S_checkExpression) rfl (wg_in wm_code_S_checkExpression) rfl rfl (List.mem_cons_of_mem _ wm_in_S) ⟨by decide, by decide, by decide +kernel⟩ ⟨by dsimp only; omega, by dsimp only; omega⟩ ⟨(Nat.le_of_ble_eq_true rfl), (Nat.le_of_ble_eq_true rfl)⟩ rfl (Nat.le_of_ble_eq_true rfl) hlk hout (Nat.le_of_ble_eq_true rfl) (Nat.le_of_ble_eq_true rfl) dc_S_isHopeless_6 rfl (fun u6 h => ?_)
  refine sw_aload_n X 0 rfl rfl dc_S_isHopeless_9 ?_
  refine sw_get X (fun z hz => List.mem_cons_of_mem _ (wf_S z hz)) 0 (wd_0 cI cL cZ ad u6.1 u6.2 r o) rfl 1 (by decide) (List.mem_cons_of_mem _ wm_fl_S_21) rfl dc_S_isHopeless_10 ?_
  refine sw_cV_v (n := 0) X hA nw_okA hNs hE (fun u : st_S => wd_W cI cL cZ ad u.1 u.2 r o) [] 10 (wd_10 cI cL cZ ad u6.1 u6.2 r o) rfl rfl (ct_K_learn l D cI cL cZ ad r o d  u6.1 u6.2 _ h) (List.mem_cons_of_mem _ wm_ml_S_79) (List.mem_cons_of_mem _ wm_im_K_learn) (List.mem_cons_of_mem _ wm_se_K_learn) rfl (wg_in wm_code_K_learn) rfl rfl (List.mem_cons_of_mem _ wm_in_K) ⟨by decide, by decide, by decide +kernel⟩ ⟨by dsimp only; omega, by dsimp only; omega⟩ ⟨(Nat.le_of_ble_eq_true rfl), (Nat.le_of_ble_eq_true rfl)⟩ rfl (Nat.le_of_ble_eq_true rfl) dc_S_isHopeless_13 rfl (fun u13 h => ?_)
  refine sw_aload_n X 0 rfl rfl dc_S_isHopeless_16 ?_
  refine sw_get X (fun z hz => List.mem_cons_of_mem _ (wf_S z hz)) 0 (wd_0 cI cL cZ ad u13.1 u13.2 r o) rfl 1 (by decide) (List.mem_cons_of_mem _ wm_fl_S_21) rfl dc_S_isHopeless_17 ?_
  refine sw_iload_n X 1 rfl rfl dc_S_isHopeless_20 ?_
  refine sw_iload_n X 2 rfl rfl dc_S_isHopeless_21 ?_
  refine sw_cV_i (n := 2) X hA nw_okA hNs hE (fun u : st_S => wd_W cI cL cZ ad u.1 u.2 r o) [.int a1, .int a2] 10 (wd_10 cI cL cZ ad u13.1 u13.2 r o) rfl rfl (ct_K_isHopelessCall l D cI cL cZ ad r o d a1 a2 u13.1 u13.2 _ h) (List.mem_cons_of_mem _ wm_ml_S_92) (List.mem_cons_of_mem _ wm_im_K_isHopelessCall) (List.mem_cons_of_mem _ wm_se_K_isHopelessCall) rfl (wg_in wm_code_K_isHopelessCall) rfl rfl (List.mem_cons_of_mem _ wm_in_K) ⟨by decide, by decide, by decide +kernel⟩ ⟨by dsimp only; omega, by dsimp only; omega⟩ ⟨(Nat.le_of_ble_eq_true rfl), (Nat.le_of_ble_eq_true rfl)⟩ rfl (Nat.le_of_ble_eq_true rfl) dc_S_isHopeless_22 rfl (fun x22 u22 h => ?_)
  exact sx_zret X hr hlk (Nat.le_of_ble_eq_true rfl) (Nat.le_of_ble_eq_true rfl) h.1 (u := (u22.1, u22.2)) rfl h.2 dc_S_isHopeless_25
def wp_S_run_L22 (d : Nat) (QX : String → st_S → Prop) (Q : (Int32 → st_S → Prop)) (g : st_I) (q : st_L) (v1 : Int32) (v2 : Int32) (v3 : Int32) : Prop := wp_H_start d v1 v2 v3 g q (fun x29 u29 => (¬ (lg_cmp x29 (-1 : Int64)) = 0 → (¬ (lg_cmp x29 (-2 : Int64)) = 0 → wp_H_keepParts x29 u29.1 u29.2 (fun u78 => wp_H_kindOf x29 u78.1 u78.2 (fun x83 u83 => Q x83 (u83.1, u83.2)))) ∧ ((lg_cmp x29 (-2 : Int64)) = 0 → QX "java/lang/IllegalStateException" (u29.1, u29.2))) ∧ ((lg_cmp x29 (-1 : Int64)) = 0 → QX "java/lang/UnsupportedOperationException" (u29.1, u29.2)))
def wp_S_run (d : Nat) (a1 : Int32) (a2 : Int32) (a3 : Int32) (g : st_I) (q : st_L) (Q : (Int32 → st_S → Prop)) (QX : String → st_S → Prop) : Prop := wp_S_checkFunction a1 g q (fun u1 => wp_S_checkExpression a2 u1.1 u1.2 (fun u6 => wp_S_parametersOf a1 u6.1 u6.2 (fun x10 u10 => (¬ x10 = (2 : Int32) → wp_S_run_L22 d QX Q u10.1 u10.2 a1 a2 a3) ∧ (x10 = (2 : Int32) → wp_S_checkExpression a3 u10.1 u10.2 (fun u19 => wp_S_run_L22 d QX Q u19.1 u19.2 a1 a2 a3) QX))) QX) QX
set_option maxHeartbeats 4000000 in
set_option maxRecDepth 100000 in
theorem ct_S_run (l : Launch) (hlT : l.stackTraces = false) (D : va_G) (cI cL cZ : ClassId) (ad : Nat → Nat) (r : st_I) (o : st_L) (d : Nat) (a1 : Int32) (a2 : Int32) (a3 : Int32) (g : st_I) (q : st_L) (Q : (Int32 → st_S → Prop)) (QX : String → st_S → Prop) (h : wp_S_run d a1 a2 a3 g q Q QX) : ∀ sz, vx_Met l yn_S_run (Cond.code yn_S_run cd_S_run 6 (some .int) :: wa_A) { frames := (rm_H_workOut d).1 + 7, cells := 4, slots := 24, locals := (rm_H_workOut d).2 + 111 } (va_Pc [.ref (ad 0), .int a1, .int a2, .int a3] (wx_S D cl_A (wd_T cI cL cZ) nw_A (wd_W cI cL cZ ad g q r o) sz)) (va_Qi Q (fun u t => wq_E D cl_A (wd_T cI cL cZ) (va_A (wd_W cI cL cZ ad g q r o) sz) (wd_W cI cL cZ ad u.1 u.2 r o) t) (va_A (wd_W cI cL cZ ad g q r o) sz)) (xc_X D cl_A (wd_T cI cL cZ) (fun u : st_S => (wd_W cI cL cZ ad u.1 u.2 r o)) QX (va_A (wd_W cI cL cZ ad g q r o) sz)) 4 24 (va_A (wd_W cI cL cZ ad g q r o) sz) := by
  refine sx_met (Qc := fun A => va_Qi Q (fun u t => wq_E D cl_A (wd_T cI cL cZ) A (wd_W cI cL cZ ad u.1 u.2 r o) t) A) (XC := fun A => xc_X D cl_A (wd_T cI cL cZ) (fun u : st_S => (wd_W cI cL cZ ad u.1 u.2 r o)) QX A) (by decide) rfl (Nat.le_of_ble_eq_true rfl) rfl ?_
  intro p e s m args below meth c A X hA hNs hE hX hout hr hlk
  have b22 : ∀ (g : st_I) (q : st_L) (v1 : Int32) (v2 : Int32) (v3 : Int32), wp_S_run_L22 d QX Q g q v1 v2 v3 → sw_J p l e { frames := (rm_H_workOut d).1 + 7, cells := 4, slots := 24, locals := (rm_H_workOut d).2 + 111 } s m args below meth c 3 18 (vx_MQ below (va_Qi Q (fun u t => wq_E D cl_A (wd_T cI cL cZ) A (wd_W cI cL cZ ad u.1 u.2 r o) t) A) (xc_X D cl_A (wd_T cI cL cZ) (fun u : st_S => (wd_W cI cL cZ ad u.1 u.2 r o)) QX A) args s 4 24 A) D cl_A A 6 (wd_W cI cL cZ ad g q r o) 22 [(0, .ref (ad 0)), (1, .int v1), (2, .int v2), (3, .int v3)] [] := by
    intro g q v1 v2 v3 h
    refine sw_aload_n X 0 rfl rfl dc_S_run_22 ?_
    refine sw_get X (fun z hz => List.mem_cons_of_mem _ (wf_S z hz)) 0 (wd_0 cI cL cZ ad g q r o) rfl 2 (by decide) (List.mem_cons_of_mem _ wm_fl_S_28) rfl dc_S_run_23 ?_
    refine sw_iload_n X 1 rfl rfl dc_S_run_26 ?_
    refine sw_iload_n X 2 rfl rfl dc_S_run_27 ?_
    refine sw_iload_n X 3 rfl rfl dc_S_run_28 ?_
    refine sw_cV_l (n := 3) X hA nw_okA hNs hE (fun u : st_S => wd_W cI cL cZ ad u.1 u.2 r o) [.int v1, .int v2, .int v3] 14 (wd_14 cI cL cZ ad g q r o) rfl rfl (ct_H_start l D cI cL cZ ad r o d v1 v2 v3 g q _ h) (List.mem_cons_of_mem _ wm_ml_S_96) (List.mem_cons_of_mem _ wm_im_H_start) (List.mem_cons_of_mem _ wm_se_H_start) rfl (wg_in wm_code_H_start) rfl rfl (List.mem_cons_of_mem _ wm_in_H) ⟨by decide, by decide, by decide +kernel⟩ ⟨by dsimp only; omega, by dsimp only; omega⟩ ⟨(Nat.le_of_ble_eq_true rfl), (Nat.le_of_ble_eq_true rfl)⟩ rfl (Nat.le_of_ble_eq_true rfl) dc_S_run_29 rfl (fun x29 u29 h => ?_)
    refine sw_lstore X [(4, .long x29), (0, .ref (ad 0)), (1, .int v1), (2, .int v2), (3, .int v3)] rfl (by decide) dc_S_run_32 ?_
    refine sw_lload X 0 rfl dc_S_run_34 ?_
    refine sw_ldc2 X (List.mem_cons_of_mem _ wm_kl_S_100) dc_S_run_36 ?_
    refine sw_lcmp X dc_S_run_39 ?_
    refine sw_if_ne (tgt := 53) X dc_S_run_40 (by decide) (fun z => ?_) (fun z => ?_)
    · have h := h.1 z
      refine sw_lload X 0 rfl dc_S_run_53 ?_
      refine sw_ldc2 X (List.mem_cons_of_mem _ wm_kl_S_107) dc_S_run_55 ?_
      refine sw_lcmp X dc_S_run_58 ?_
      refine sw_if_ne (tgt := 72) X dc_S_run_59 (by decide) (fun z => ?_) (fun z => ?_)
      · have h := h.1 z
        refine sw_aload_n X 1 rfl rfl dc_S_run_72 ?_
        refine sw_get X (fun z hz => List.mem_cons_of_mem _ (wf_S z hz)) 0 (wd_0 cI cL cZ ad u29.1 u29.2 r o) rfl 2 (by decide) (List.mem_cons_of_mem _ wm_fl_S_28) rfl dc_S_run_73 ?_
        refine sw_lload X 0 rfl dc_S_run_76 ?_
        refine sw_cV_v (n := 1) X hA nw_okA hNs hE (fun u : st_S => wd_W cI cL cZ ad u.1 u.2 r o) [.long x29] 14 (wd_14 cI cL cZ ad u29.1 u29.2 r o) rfl rfl (ct_H_keepParts l D cI cL cZ ad r o x29 u29.1 u29.2 _ h) (List.mem_cons_of_mem _ wm_ml_S_111) (List.mem_cons_of_mem _ wm_im_H_keepParts) (List.mem_cons_of_mem _ wm_se_H_keepParts) rfl (wg_in wm_code_H_keepParts) rfl rfl (List.mem_cons_of_mem _ wm_in_H) ⟨by decide, by decide, by decide +kernel⟩ ⟨by dsimp only; omega, by dsimp only; omega⟩ ⟨(Nat.le_of_ble_eq_true rfl), (Nat.le_of_ble_eq_true rfl)⟩ rfl (Nat.le_of_ble_eq_true rfl) dc_S_run_78 rfl (fun u78 h => ?_)
        refine sw_lload X 0 rfl dc_S_run_81 ?_
        refine sw_cS_i (n := 1) X hA nw_okA hNs hE (fun u : st_S => wd_W cI cL cZ ad u.1 u.2 r o) [.long x29] (ct_H_kindOf l D cI cL cZ ad r o x29 u78.1 u78.2 _ h) (List.mem_cons_of_mem _ wm_ml_S_115) (List.mem_cons_of_mem _ wm_st_H_kindOf) rfl (wg_in wm_code_H_kindOf) rfl rfl (List.mem_cons_of_mem _ wm_in_H) ⟨by decide, by decide, by decide +kernel⟩ ⟨by dsimp only; omega, by dsimp only; omega⟩ ⟨(Nat.le_of_ble_eq_true rfl), (Nat.le_of_ble_eq_true rfl)⟩ rfl (Nat.le_of_ble_eq_true rfl) dc_S_run_83 rfl (fun x83 u83 h => ?_)
        exact sx_iret X hr hlk (Nat.le_of_ble_eq_true rfl) (Nat.le_of_ble_eq_true rfl) (u := (u83.1, u83.2)) rfl h dc_S_run_86
      · have h := h.2 z
        exact sx_throw X hlT hX xo_S xt_109 dc_S_run_62 dc_S_run_65 dc_S_run_66 dc_S_run_68 dc_S_run_71 hout ⟨by dsimp only; omega, by simp only [List.map_nil, List.sum_nil]; omega, (Nat.le_of_ble_eq_true rfl), (Nat.le_of_ble_eq_true rfl)⟩ hlk (Nat.le_of_ble_eq_true rfl) (Nat.le_of_ble_eq_true rfl) (u := (u29.1, u29.2)) rfl h
    · have h := h.2 z
      exact sx_throw X hlT hX xo_U xt_104 dc_S_run_43 dc_S_run_46 dc_S_run_47 dc_S_run_49 dc_S_run_52 hout ⟨by dsimp only; omega, by simp only [List.map_nil, List.sum_nil]; omega, (Nat.le_of_ble_eq_true rfl), (Nat.le_of_ble_eq_true rfl)⟩ hlk (Nat.le_of_ble_eq_true rfl) (Nat.le_of_ble_eq_true rfl) (u := (u29.1, u29.2)) rfl h
  refine sw_iload_n X 1 rfl rfl dc_S_run_0 ?_
  refine sx_cS_v (n := 1) (F := (fun u : st_S => wd_W cI cL cZ ad u.1 u.2 r o)) X hA nw_okA hNs hE hX [.int a1] (ct_S_checkFunction l hlT D cI cL cZ ad r o a1 g q _ _ h) (List.mem_cons_of_mem _ wm_ml_S_56) (List.mem_cons_of_mem _ wm_st_S_checkFunction) rfl (wg_in wm_code_S_checkFunction) rfl rfl (List.mem_cons_of_mem _ wm_in_S) ⟨by decide, by decide, by decide +kernel⟩ ⟨by dsimp only; omega, by dsimp only; omega⟩ ⟨(Nat.le_of_ble_eq_true rfl), (Nat.le_of_ble_eq_true rfl)⟩ rfl (Nat.le_of_ble_eq_true rfl) hlk hout (Nat.le_of_ble_eq_true rfl) (Nat.le_of_ble_eq_true rfl) dc_S_run_1 rfl (fun u1 h => ?_)
  refine sw_aload_n X 0 rfl rfl dc_S_run_4 ?_
  refine sw_iload_n X 2 rfl rfl dc_S_run_5 ?_
  refine sx_cV_v (n := 1) (F := (fun u : st_S => wd_W cI cL cZ ad u.1 u.2 r o)) X hA nw_okA hNs hE hX [.int a2] 0 (wd_0 cI cL cZ ad u1.1 u1.2 r o) rfl rfl (ct_S_checkExpression l hlT D cI cL cZ ad r o a2 u1.1 u1.2 _ _ h) (List.mem_cons_of_mem _ wm_ml_S_60) (List.mem_cons_of_mem _ wm_im_S_checkExpression) (List.mem_cons_of_mem _ wm_se_S_checkExpression) rfl (wg_in wm_code_S_checkExpression) rfl rfl (List.mem_cons_of_mem _ wm_in_S) ⟨by decide, by decide, by decide +kernel⟩ ⟨by dsimp only; omega, by dsimp only; omega⟩ ⟨(Nat.le_of_ble_eq_true rfl), (Nat.le_of_ble_eq_true rfl)⟩ rfl (Nat.le_of_ble_eq_true rfl) hlk hout (Nat.le_of_ble_eq_true rfl) (Nat.le_of_ble_eq_true rfl) dc_S_run_6 rfl (fun u6 h => ?_)
  refine sw_iload_n X 1 rfl rfl dc_S_run_9 ?_
  refine sw_cS_i (n := 1) X hA nw_okA hNs hE (fun u : st_S => wd_W cI cL cZ ad u.1 u.2 r o) [.int a1] (ct_S_parametersOf l D cI cL cZ ad r o a1 u6.1 u6.2 _ h) (List.mem_cons_of_mem _ wm_ml_S_73) (List.mem_cons_of_mem _ wm_st_S_parametersOf) rfl (wg_in wm_code_S_parametersOf) rfl rfl (List.mem_cons_of_mem _ wm_in_S) ⟨by decide, by decide, by decide +kernel⟩ ⟨by dsimp only; omega, by dsimp only; omega⟩ ⟨(Nat.le_of_ble_eq_true rfl), (Nat.le_of_ble_eq_true rfl)⟩ rfl (Nat.le_of_ble_eq_true rfl) dc_S_run_10 rfl (fun x10 u10 h => ?_)
  refine sw_iconst (v := 2) X dc_S_run_13 (by decide) ?_
  refine sw_icmp_ne (tgt := 22) X dc_S_run_14 (by decide) (fun z => ?_) (fun z => ?_)
  · have h := h.1 z
    refine sw_widen 3 18 (Nat.le_of_ble_eq_true rfl) (Nat.le_of_ble_eq_true rfl) ?_
    exact b22 u10.1 u10.2 a1 a2 a3 h
  · have h := h.2 z
    refine sw_aload_n X 0 rfl rfl dc_S_run_17 ?_
    refine sw_iload_n X 3 rfl rfl dc_S_run_18 ?_
    refine sx_cV_v (n := 1) (F := (fun u : st_S => wd_W cI cL cZ ad u.1 u.2 r o)) X hA nw_okA hNs hE hX [.int a3] 0 (wd_0 cI cL cZ ad u10.1 u10.2 r o) rfl rfl (ct_S_checkExpression l hlT D cI cL cZ ad r o a3 u10.1 u10.2 _ _ h) (List.mem_cons_of_mem _ wm_ml_S_60) (List.mem_cons_of_mem _ wm_im_S_checkExpression) (List.mem_cons_of_mem _ wm_se_S_checkExpression) rfl (wg_in wm_code_S_checkExpression) rfl rfl (List.mem_cons_of_mem _ wm_in_S) ⟨by decide, by decide, by decide +kernel⟩ ⟨by dsimp only; omega, by dsimp only; omega⟩ ⟨(Nat.le_of_ble_eq_true rfl), (Nat.le_of_ble_eq_true rfl)⟩ rfl (Nat.le_of_ble_eq_true rfl) hlk hout (Nat.le_of_ble_eq_true rfl) (Nat.le_of_ble_eq_true rfl) dc_S_run_19 rfl (fun u19 h => ?_)
    exact b22 u19.1 u19.2 a1 a2 a3 h
def wp_S_part_L15 (QX : String → st_S → Prop) (Q : (Int32 → st_S → Prop)) (g : st_I) (q : st_L)  : Prop := QX "java/lang/IndexOutOfBoundsException" (g, q)
def wp_S_part (a1 : Int32) (g : st_I) (q : st_L) (Q : (Int32 → st_S → Prop)) (QX : String → st_S → Prop) : Prop := (a1 < 0 → wp_S_part_L15 QX Q g q) ∧ (¬ a1 < 0 → (a1 < (g 14 1) → vp_in a1 60 ∧ Q (g 15 (a1).toNatClampNeg) (g, q)) ∧ (¬ a1 < (g 14 1) → wp_S_part_L15 QX Q g q))
set_option maxHeartbeats 4000000 in
set_option maxRecDepth 100000 in
theorem ct_S_part (l : Launch) (hlT : l.stackTraces = false) (D : va_G) (cI cL cZ : ClassId) (ad : Nat → Nat) (r : st_I) (o : st_L) (a1 : Int32) (g : st_I) (q : st_L) (Q : (Int32 → st_S → Prop)) (QX : String → st_S → Prop) (h : wp_S_part a1 g q Q QX) : ∀ sz, vx_Met l yn_S_part (Cond.code yn_S_part cd_S_part 2 (some .int) :: wa_A) { frames := 6, cells := 4, slots := 24, locals := 90 } (va_Pc [.ref (ad 0), .int a1] (wx_S D cl_A (wd_T cI cL cZ) nw_A (wd_W cI cL cZ ad g q r o) sz)) (va_Qi Q (fun u t => wq_E D cl_A (wd_T cI cL cZ) (va_A (wd_W cI cL cZ ad g q r o) sz) (wd_W cI cL cZ ad u.1 u.2 r o) t) (va_A (wd_W cI cL cZ ad g q r o) sz)) (xc_X D cl_A (wd_T cI cL cZ) (fun u : st_S => (wd_W cI cL cZ ad u.1 u.2 r o)) QX (va_A (wd_W cI cL cZ ad g q r o) sz)) 4 24 (va_A (wd_W cI cL cZ ad g q r o) sz) := by
  refine sx_met (Qc := fun A => va_Qi Q (fun u t => wq_E D cl_A (wd_T cI cL cZ) A (wd_W cI cL cZ ad u.1 u.2 r o) t) A) (XC := fun A => xc_X D cl_A (wd_T cI cL cZ) (fun u : st_S => (wd_W cI cL cZ ad u.1 u.2 r o)) QX A) (by decide) rfl (Nat.le_of_ble_eq_true rfl) rfl ?_
  intro p e s m args below meth c A X hA hNs hE hX hout hr hlk
  have b15 : ∀ (g : st_I) (q : st_L), wp_S_part_L15 QX Q g q → sw_J p l e { frames := 6, cells := 4, slots := 24, locals := 90 } s m args below meth c 3 18 (vx_MQ below (va_Qi Q (fun u t => wq_E D cl_A (wd_T cI cL cZ) A (wd_W cI cL cZ ad u.1 u.2 r o) t) A) (xc_X D cl_A (wd_T cI cL cZ) (fun u : st_S => (wd_W cI cL cZ ad u.1 u.2 r o)) QX A) args s 4 24 A) D cl_A A 2 (wd_W cI cL cZ ad g q r o) 15 [] [] := by
    intro g q h
    exact sx_throw X hlT hX xo_B xt_125 dc_S_part_15 dc_S_part_18 dc_S_part_19 dc_S_part_21 dc_S_part_24 hout ⟨by dsimp only; omega, by simp only [List.map_nil, List.sum_nil]; omega, (Nat.le_of_ble_eq_true rfl), (Nat.le_of_ble_eq_true rfl)⟩ hlk (Nat.le_of_ble_eq_true rfl) (Nat.le_of_ble_eq_true rfl) (u := (g, q)) rfl h
  refine sw_iload_n X 1 rfl rfl dc_S_part_0 ?_
  refine sw_if_lt (tgt := 15) X dc_S_part_1 (by decide) (fun z => ?_) (fun z => ?_)
  · have h := h.1 z
    refine sw_sub [] rfl ?_
    refine sw_widen 3 18 (Nat.le_of_ble_eq_true rfl) (Nat.le_of_ble_eq_true rfl) ?_
    exact b15 g q h
  · have h := h.2 z
    refine sw_iload_n X 1 rfl rfl dc_S_part_4 ?_
    refine sw_aload_n X 0 rfl rfl dc_S_part_5 ?_
    refine sw_get X (fun z hz => List.mem_cons_of_mem _ (wf_S z hz)) 0 (wd_0 cI cL cZ ad g q r o) rfl 2 (by decide) (List.mem_cons_of_mem _ wm_fl_S_28) rfl dc_S_part_6 ?_
    refine sw_get (v := .int (g 14 1)) X (fun z hz => List.mem_cons_of_mem _ (wf_H z hz)) 14 (wd_14 cI cL cZ ad g q r o) rfl 1 (by decide) (List.mem_cons_of_mem _ wm_fl_S_119) rfl dc_S_part_9 ?_
    refine sw_icmp_lt (tgt := 25) X dc_S_part_12 (by decide) (fun z => ?_) (fun z => ?_)
    · have h := h.1 z
      refine sw_aload_n X 0 rfl rfl dc_S_part_25 ?_
      refine sw_get X (fun z hz => List.mem_cons_of_mem _ (wf_S z hz)) 0 (wd_0 cI cL cZ ad g q r o) rfl 2 (by decide) (List.mem_cons_of_mem _ wm_fl_S_28) rfl dc_S_part_26 ?_
      refine sw_get X (fun z hz => List.mem_cons_of_mem _ (wf_H z hz)) 14 (wd_14 cI cL cZ ad g q r o) rfl 0 (by decide) (List.mem_cons_of_mem _ wm_fl_S_128) rfl dc_S_part_29 ?_
      refine sw_iload_n X 1 rfl rfl dc_S_part_32 ?_
      refine sw_iald X 15 0 (wd_15 cI cL cZ ad g q r o) rfl h.1 dc_S_part_33 ?_
      have h := h.2
      exact sx_iret X hr hlk (Nat.le_of_ble_eq_true rfl) (Nat.le_of_ble_eq_true rfl) (u := (g, q)) rfl h dc_S_part_34
    · have h := h.2 z
      refine sw_sub [] rfl ?_
      refine sw_widen 3 18 (Nat.le_of_ble_eq_true rfl) (Nat.le_of_ble_eq_true rfl) ?_
      exact b15 g q h
