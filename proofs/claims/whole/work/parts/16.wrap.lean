def wp_L_make (a1 : Int32) (a2 : Int32) (a3 : Int32) (a4 : Int32) (a5 : Int32) (g : st_I) (q : st_L) (o : st_L) (Q : (Int32 → (st_I × st_L × st_L) → Prop)) : Prop := wp_S_make a1 a2 a3 a4 a5 g q (fun x11 u11 => vp_in (0 : Int32) 1 ∧ Q (0 : Int32) (u11.1, u11.2, (st_v o 44 ((0 : Int32)).toNatClampNeg (x11).toInt64))) (fun E u11 => (E = "java/lang/IllegalArgumentException" ∨ E = "java/lang/IllegalStateException") ∧ (E = "java/lang/IllegalArgumentException" → Q (1 : Int32) (u11.1, u11.2, o)) ∧ (E = "java/lang/IllegalStateException" → Q (2 : Int32) (u11.1, u11.2, o)))
set_option maxHeartbeats 4000000 in
set_option maxRecDepth 100000 in
theorem ct_L_make (l : Launch) (hlT : l.stackTraces = false) (D : va_G) (cI cL cZ : ClassId) (ad : Nat → Nat) (r : st_I) (a1 : Int32) (a2 : Int32) (a3 : Int32) (a4 : Int32) (a5 : Int32) (g : st_I) (q : st_L) (o : st_L) (Q : (Int32 → (st_I × st_L × st_L) → Prop)) (h : wp_L_make a1 a2 a3 a4 a5 g q o Q) : ∀ sz, Met l yn_L_make (Cond.codeWith yn_L_make cd_L_make 8 (some .int) [(0, 16, 19, 13), (0, 16, 23, 15)] :: wa_A) { frames := 7, cells := 4, slots := 24, locals := 115 } (va_Pc [.ref (ad 0), .int a1, .int a2, .int a3, .int a4, .int a5, .ref (ad 44)] (wy_S D cl_A (wd_T cI cL cZ) nw_A (wd_W cI cL cZ ad g q r o) sz)) (va_Qi Q (fun u t => wq_E D cl_A (wd_T cI cL cZ) (va_A (wd_W cI cL cZ ad g q r o) sz) (wd_W cI cL cZ ad u.1 u.2.1 r u.2.2) t) (va_A (wd_W cI cL cZ ad g q r o) sz)) 4 24 (va_A (wd_W cI cL cZ ad g q r o) sz) := by
  refine sy_met (Qc := fun A => va_Qi Q (fun u t => wq_E D cl_A (wd_T cI cL cZ) A (wd_W cI cL cZ ad u.1 u.2.1 r u.2.2) t) A) (by decide) rfl (Nat.le_of_ble_eq_true rfl) rfl ?_
  intro p e s m args below meth c A X hA hNs hE hX hC htb hr hlk
  refine sw_aload X 6 rfl dc_L_make_0 ?_
  refine sw_iconst (v := 0) X dc_L_make_2 (by decide) ?_
  refine sw_aload_n X 0 rfl rfl dc_L_make_3 ?_
  refine sw_iload_n X 1 rfl rfl dc_L_make_4 ?_
  refine sw_iload_n X 2 rfl rfl dc_L_make_5 ?_
  refine sw_iload_n X 3 rfl rfl dc_L_make_6 ?_
  refine sw_iload X 4 rfl dc_L_make_7 ?_
  refine sw_iload X 5 rfl dc_L_make_9 ?_
  refine sx_cV_iX (n := 5) (F := (fun u : st_S => wd_W cI cL cZ ad u.1 u.2 r o)) X hA nw_okA hNs hE hX [.int a1, .int a2, .int a3, .int a4, .int a5] 0 (wd_0 cI cL cZ ad g q r o) rfl rfl (ct_S_make l hlT D cI cL cZ ad r o a1 a2 a3 a4 a5 g q _ _ h) (List.mem_cons_of_mem _ wm_ml_L_7) (List.mem_cons_of_mem _ wm_im_S_make) (List.mem_cons_of_mem _ wm_se_S_make) rfl (wg_inW wm_code_S_make) rfl rfl (List.mem_cons_of_mem _ wm_in_S) ⟨by decide, by decide, by decide +kernel⟩ ⟨by dsimp only; omega, by dsimp only; omega⟩ ⟨(Nat.le_of_ble_eq_true rfl), (Nat.le_of_ble_eq_true rfl)⟩ rfl (Nat.le_of_ble_eq_true rfl) dc_L_make_11 rfl (fun x11 u11 h => ?_) (fun E u11 h => ?_)
  · refine sw_i2l X dc_L_make_14 rfl ?_
    refine sw_last X 44 1 (wd_44 cI cL cZ ad u11.1 u11.2 r o) rfl h.1 (wd_W cI cL cZ ad u11.1 u11.2 r (st_v o 44 ((0 : Int32)).toNatClampNeg (x11).toInt64)) (ws_44 cI cL cZ ad u11.1 u11.2 r o ((0 : Int32)).toNatClampNeg (x11).toInt64) dc_L_make_15 ?_
    have h := h.2
    refine sw_goto (tgt := 27) X dc_L_make_16 (by decide) ?_
    refine sw_iconst (v := 0) X dc_L_make_27 (by decide) ?_
    exact sw_iret X hr hlk (u := (u11.1, u11.2, (st_v o 44 ((0 : Int32)).toNatClampNeg (x11).toInt64))) rfl h dc_L_make_28
  · obtain ⟨hor, h⟩ := h
    rcases hor with rfl | rfl
    · have h := h.1 rfl
      refine sx_catch X [] ⟨0, 16, 19, 13⟩ [⟨0, 16, 23, 15⟩] htb (fun z hz => nomatch hz) (by decide) (by decide) (List.mem_cons_of_mem _ wm_cl_L_13) (hX.2.2.1 _ (List.mem_of_getElem? (i := 0) rfl)) (fun q9 => ?_)
      refine sw_astore X [(7, .ref q9), (0, .ref (ad 0)), (1, .int a1), (2, .int a2), (3, .int a3), (4, .int a4), (5, .int a5), (6, .ref (ad 44))] rfl (by decide) dc_L_make_19 ?_
      refine sw_iconst (v := 1) X dc_L_make_21 (by decide) ?_
      exact sw_iret X hr hlk (u := (u11.1, u11.2, o)) rfl h dc_L_make_22
    · have h := h.2 rfl
      refine sx_catch X [⟨0, 16, 19, 13⟩] ⟨0, 16, 23, 15⟩ [] htb (fun z hz => by
        rcases List.mem_cons.mp hz with rfl | hz
        · exact ⟨by decide, "java/lang/IllegalArgumentException", List.mem_cons_of_mem _ wm_cl_L_13, hC _ (List.mem_of_getElem? (i := 0) rfl)⟩
        cases hz) (by decide) (by decide) (List.mem_cons_of_mem _ wm_cl_L_15) (hX.2.2.1 _ (List.mem_of_getElem? (i := 1) rfl)) (fun q9 => ?_)
      refine sw_astore X [(7, .ref q9), (0, .ref (ad 0)), (1, .int a1), (2, .int a2), (3, .int a3), (4, .int a4), (5, .int a5), (6, .ref (ad 44))] rfl (by decide) dc_L_make_23 ?_
      refine sw_iconst (v := 2) X dc_L_make_25 (by decide) ?_
      exact sw_iret X hr hlk (u := (u11.1, u11.2, o)) rfl h dc_L_make_26
def wp_L_define (a1 : Int32) (a2 : Int32) (g : st_I) (q : st_L) (o : st_L) (Q : (Int32 → (st_I × st_L × st_L) → Prop)) : Prop := wp_S_define a1 a2 g q (fun x5 u5 => vp_in (0 : Int32) 1 ∧ Q (0 : Int32) (u5.1, u5.2, (st_v o 44 ((0 : Int32)).toNatClampNeg (x5).toInt64))) (fun E u5 => (E = "java/lang/IllegalArgumentException") ∧ (E = "java/lang/IllegalArgumentException" → Q (1 : Int32) (u5.1, u5.2, o)))
set_option maxHeartbeats 4000000 in
set_option maxRecDepth 100000 in
theorem ct_L_define (l : Launch) (hlT : l.stackTraces = false) (D : va_G) (cI cL cZ : ClassId) (ad : Nat → Nat) (r : st_I) (a1 : Int32) (a2 : Int32) (g : st_I) (q : st_L) (o : st_L) (Q : (Int32 → (st_I × st_L × st_L) → Prop)) (h : wp_L_define a1 a2 g q o Q) : ∀ sz, Met l yn_L_define (Cond.codeWith yn_L_define cd_L_define 5 (some .int) [(0, 10, 13, 13)] :: wa_A) { frames := 8, cells := 4, slots := 24, locals := 133 } (va_Pc [.ref (ad 0), .int a1, .int a2, .ref (ad 44)] (wy_S D cl_A (wd_T cI cL cZ) nw_A (wd_W cI cL cZ ad g q r o) sz)) (va_Qi Q (fun u t => wq_E D cl_A (wd_T cI cL cZ) (va_A (wd_W cI cL cZ ad g q r o) sz) (wd_W cI cL cZ ad u.1 u.2.1 r u.2.2) t) (va_A (wd_W cI cL cZ ad g q r o) sz)) 4 24 (va_A (wd_W cI cL cZ ad g q r o) sz) := by
  refine sy_met (Qc := fun A => va_Qi Q (fun u t => wq_E D cl_A (wd_T cI cL cZ) A (wd_W cI cL cZ ad u.1 u.2.1 r u.2.2) t) A) (by decide) rfl (Nat.le_of_ble_eq_true rfl) rfl ?_
  intro p e s m args below meth c A X hA hNs hE hX hC htb hr hlk
  refine sw_aload_n X 3 rfl rfl dc_L_define_0 ?_
  refine sw_iconst (v := 0) X dc_L_define_1 (by decide) ?_
  refine sw_aload_n X 0 rfl rfl dc_L_define_2 ?_
  refine sw_iload_n X 1 rfl rfl dc_L_define_3 ?_
  refine sw_iload_n X 2 rfl rfl dc_L_define_4 ?_
  refine sx_cV_iX (n := 2) (F := (fun u : st_S => wd_W cI cL cZ ad u.1 u.2 r o)) X hA nw_okA hNs hE hX [.int a1, .int a2] 0 (wd_0 cI cL cZ ad g q r o) rfl rfl (ct_S_define l hlT D cI cL cZ ad r o a1 a2 g q _ _ h) (List.mem_cons_of_mem _ wm_ml_L_17) (List.mem_cons_of_mem _ wm_im_S_define) (List.mem_cons_of_mem _ wm_se_S_define) rfl (wg_inW wm_code_S_define) rfl rfl (List.mem_cons_of_mem _ wm_in_S) ⟨by decide, by decide, by decide +kernel⟩ ⟨by dsimp only; omega, by dsimp only; omega⟩ ⟨(Nat.le_of_ble_eq_true rfl), (Nat.le_of_ble_eq_true rfl)⟩ rfl (Nat.le_of_ble_eq_true rfl) dc_L_define_5 rfl (fun x5 u5 h => ?_) (fun E u5 h => ?_)
  · refine sw_i2l X dc_L_define_8 rfl ?_
    refine sw_last X 44 1 (wd_44 cI cL cZ ad u5.1 u5.2 r o) rfl h.1 (wd_W cI cL cZ ad u5.1 u5.2 r (st_v o 44 ((0 : Int32)).toNatClampNeg (x5).toInt64)) (ws_44 cI cL cZ ad u5.1 u5.2 r o ((0 : Int32)).toNatClampNeg (x5).toInt64) dc_L_define_9 ?_
    have h := h.2
    refine sw_goto (tgt := 17) X dc_L_define_10 (by decide) ?_
    refine sw_iconst (v := 0) X dc_L_define_17 (by decide) ?_
    exact sw_iret X hr hlk (u := (u5.1, u5.2, (st_v o 44 ((0 : Int32)).toNatClampNeg (x5).toInt64))) rfl h dc_L_define_18
  · obtain ⟨hor, h⟩ := h
    rcases hor with rfl
    · have h := h rfl
      refine sx_catch X [] ⟨0, 10, 13, 13⟩ [] htb (fun z hz => nomatch hz) (by decide) (by decide) (List.mem_cons_of_mem _ wm_cl_L_13) (hX.2.2.1 _ (List.mem_of_getElem? (i := 0) rfl)) (fun q9 => ?_)
      refine sw_astore X [(4, .ref q9), (0, .ref (ad 0)), (1, .int a1), (2, .int a2), (3, .ref (ad 44))] rfl (by decide) dc_L_define_13 ?_
      refine sw_iconst (v := 1) X dc_L_define_15 (by decide) ?_
      exact sw_iret X hr hlk (u := (u5.1, u5.2, o)) rfl h dc_L_define_16
def wp_L_may (d : Nat) (a1 : Int32) (a2 : Int32) (g : st_I) (q : st_L) (o : st_L) (Q : (Int32 → (st_I × st_L × st_L) → Prop)) : Prop := wp_S_may d a1 a2 g q (fun x5 u5 => vp_in (0 : Int32) 1 ∧ Q (0 : Int32) (u5.1, u5.2, (st_v o 44 ((0 : Int32)).toNatClampNeg (x5).toInt64))) (fun E u5 => (E = "java/lang/IllegalArgumentException") ∧ (E = "java/lang/IllegalArgumentException" → Q (1 : Int32) (u5.1, u5.2, o)))
set_option maxHeartbeats 4000000 in
set_option maxRecDepth 100000 in
theorem ct_L_may (l : Launch) (hlT : l.stackTraces = false) (D : va_G) (cI cL cZ : ClassId) (ad : Nat → Nat) (r : st_I) (d : Nat) (a1 : Int32) (a2 : Int32) (g : st_I) (q : st_L) (o : st_L) (Q : (Int32 → (st_I × st_L × st_L) → Prop)) (h : wp_L_may d a1 a2 g q o Q) : ∀ sz, Met l yn_L_may (Cond.codeWith yn_L_may cd_L_may 5 (some .int) [(0, 10, 13, 13)] :: wa_A) { frames := (rm_K_kinds d).1 + 8, cells := 4, slots := 24, locals := (rm_K_kinds d).2 + 132 } (va_Pc [.ref (ad 0), .int a1, .int a2, .ref (ad 44)] (wy_S D cl_A (wd_T cI cL cZ) nw_A (wd_W cI cL cZ ad g q r o) sz)) (va_Qi Q (fun u t => wq_E D cl_A (wd_T cI cL cZ) (va_A (wd_W cI cL cZ ad g q r o) sz) (wd_W cI cL cZ ad u.1 u.2.1 r u.2.2) t) (va_A (wd_W cI cL cZ ad g q r o) sz)) 4 24 (va_A (wd_W cI cL cZ ad g q r o) sz) := by
  refine sy_met (Qc := fun A => va_Qi Q (fun u t => wq_E D cl_A (wd_T cI cL cZ) A (wd_W cI cL cZ ad u.1 u.2.1 r u.2.2) t) A) (by decide) rfl (Nat.le_of_ble_eq_true rfl) rfl ?_
  intro p e s m args below meth c A X hA hNs hE hX hC htb hr hlk
  refine sw_aload_n X 3 rfl rfl dc_L_may_0 ?_
  refine sw_iconst (v := 0) X dc_L_may_1 (by decide) ?_
  refine sw_aload_n X 0 rfl rfl dc_L_may_2 ?_
  refine sw_iload_n X 1 rfl rfl dc_L_may_3 ?_
  refine sw_iload_n X 2 rfl rfl dc_L_may_4 ?_
  refine sx_cV_iX (n := 2) (F := (fun u : st_S => wd_W cI cL cZ ad u.1 u.2 r o)) X hA nw_okA hNs hE hX [.int a1, .int a2] 0 (wd_0 cI cL cZ ad g q r o) rfl rfl (ct_S_may l hlT D cI cL cZ ad r o d a1 a2 g q _ _ h) (List.mem_cons_of_mem _ wm_ml_L_21) (List.mem_cons_of_mem _ wm_im_S_may) (List.mem_cons_of_mem _ wm_se_S_may) rfl (wg_inW wm_code_S_may) rfl rfl (List.mem_cons_of_mem _ wm_in_S) ⟨by decide, by decide, by decide +kernel⟩ ⟨by dsimp only; omega, by dsimp only; omega⟩ ⟨(Nat.le_of_ble_eq_true rfl), (Nat.le_of_ble_eq_true rfl)⟩ rfl (Nat.le_of_ble_eq_true rfl) dc_L_may_5 rfl (fun x5 u5 h => ?_) (fun E u5 h => ?_)
  · refine sw_i2l X dc_L_may_8 rfl ?_
    refine sw_last X 44 1 (wd_44 cI cL cZ ad u5.1 u5.2 r o) rfl h.1 (wd_W cI cL cZ ad u5.1 u5.2 r (st_v o 44 ((0 : Int32)).toNatClampNeg (x5).toInt64)) (ws_44 cI cL cZ ad u5.1 u5.2 r o ((0 : Int32)).toNatClampNeg (x5).toInt64) dc_L_may_9 ?_
    have h := h.2
    refine sw_goto (tgt := 17) X dc_L_may_10 (by decide) ?_
    refine sw_iconst (v := 0) X dc_L_may_17 (by decide) ?_
    exact sw_iret X hr hlk (u := (u5.1, u5.2, (st_v o 44 ((0 : Int32)).toNatClampNeg (x5).toInt64))) rfl h dc_L_may_18
  · obtain ⟨hor, h⟩ := h
    rcases hor with rfl
    · have h := h rfl
      refine sx_catch X [] ⟨0, 10, 13, 13⟩ [] htb (fun z hz => nomatch hz) (by decide) (by decide) (List.mem_cons_of_mem _ wm_cl_L_13) (hX.2.2.1 _ (List.mem_of_getElem? (i := 0) rfl)) (fun q9 => ?_)
      refine sw_astore X [(4, .ref q9), (0, .ref (ad 0)), (1, .int a1), (2, .int a2), (3, .ref (ad 44))] rfl (by decide) dc_L_may_13 ?_
      refine sw_iconst (v := 1) X dc_L_may_15 (by decide) ?_
      exact sw_iret X hr hlk (u := (u5.1, u5.2, o)) rfl h dc_L_may_16
def wp_L_gives (d : Nat) (a1 : Int32) (g : st_I) (q : st_L) (o : st_L) (Q : (Int32 → (st_I × st_L × st_L) → Prop)) : Prop := wp_S_gives d a1 g q (fun x4 u4 => vp_in (0 : Int32) 1 ∧ Q (0 : Int32) (u4.1, u4.2, (st_v o 44 ((0 : Int32)).toNatClampNeg (x4).toInt64))) (fun E u4 => (E = "java/lang/IllegalArgumentException") ∧ (E = "java/lang/IllegalArgumentException" → Q (1 : Int32) (u4.1, u4.2, o)))
set_option maxHeartbeats 4000000 in
set_option maxRecDepth 100000 in
theorem ct_L_gives (l : Launch) (hlT : l.stackTraces = false) (D : va_G) (cI cL cZ : ClassId) (ad : Nat → Nat) (r : st_I) (d : Nat) (a1 : Int32) (g : st_I) (q : st_L) (o : st_L) (Q : (Int32 → (st_I × st_L × st_L) → Prop)) (h : wp_L_gives d a1 g q o Q) : ∀ sz, Met l yn_L_gives (Cond.codeWith yn_L_gives cd_L_gives 4 (some .int) [(0, 9, 12, 13)] :: wa_A) { frames := (rm_K_kinds d).1 + 8, cells := 4, slots := 24, locals := (rm_K_kinds d).2 + 131 } (va_Pc [.ref (ad 0), .int a1, .ref (ad 44)] (wy_S D cl_A (wd_T cI cL cZ) nw_A (wd_W cI cL cZ ad g q r o) sz)) (va_Qi Q (fun u t => wq_E D cl_A (wd_T cI cL cZ) (va_A (wd_W cI cL cZ ad g q r o) sz) (wd_W cI cL cZ ad u.1 u.2.1 r u.2.2) t) (va_A (wd_W cI cL cZ ad g q r o) sz)) 4 24 (va_A (wd_W cI cL cZ ad g q r o) sz) := by
  refine sy_met (Qc := fun A => va_Qi Q (fun u t => wq_E D cl_A (wd_T cI cL cZ) A (wd_W cI cL cZ ad u.1 u.2.1 r u.2.2) t) A) (by decide) rfl (Nat.le_of_ble_eq_true rfl) rfl ?_
  intro p e s m args below meth c A X hA hNs hE hX hC htb hr hlk
  refine sw_aload_n X 2 rfl rfl dc_L_gives_0 ?_
  refine sw_iconst (v := 0) X dc_L_gives_1 (by decide) ?_
  refine sw_aload_n X 0 rfl rfl dc_L_gives_2 ?_
  refine sw_iload_n X 1 rfl rfl dc_L_gives_3 ?_
  refine sx_cV_iX (n := 1) (F := (fun u : st_S => wd_W cI cL cZ ad u.1 u.2 r o)) X hA nw_okA hNs hE hX [.int a1] 0 (wd_0 cI cL cZ ad g q r o) rfl rfl (ct_S_gives l hlT D cI cL cZ ad r o d a1 g q _ _ h) (List.mem_cons_of_mem _ wm_ml_L_24) (List.mem_cons_of_mem _ wm_im_S_gives) (List.mem_cons_of_mem _ wm_se_S_gives) rfl (wg_inW wm_code_S_gives) rfl rfl (List.mem_cons_of_mem _ wm_in_S) ⟨by decide, by decide, by decide +kernel⟩ ⟨by dsimp only; omega, by dsimp only; omega⟩ ⟨(Nat.le_of_ble_eq_true rfl), (Nat.le_of_ble_eq_true rfl)⟩ rfl (Nat.le_of_ble_eq_true rfl) dc_L_gives_4 rfl (fun x4 u4 h => ?_) (fun E u4 h => ?_)
  · refine sw_i2l X dc_L_gives_7 rfl ?_
    refine sw_last X 44 1 (wd_44 cI cL cZ ad u4.1 u4.2 r o) rfl h.1 (wd_W cI cL cZ ad u4.1 u4.2 r (st_v o 44 ((0 : Int32)).toNatClampNeg (x4).toInt64)) (ws_44 cI cL cZ ad u4.1 u4.2 r o ((0 : Int32)).toNatClampNeg (x4).toInt64) dc_L_gives_8 ?_
    have h := h.2
    refine sw_goto (tgt := 15) X dc_L_gives_9 (by decide) ?_
    refine sw_iconst (v := 0) X dc_L_gives_15 (by decide) ?_
    exact sw_iret X hr hlk (u := (u4.1, u4.2, (st_v o 44 ((0 : Int32)).toNatClampNeg (x4).toInt64))) rfl h dc_L_gives_16
  · obtain ⟨hor, h⟩ := h
    rcases hor with rfl
    · have h := h rfl
      refine sx_catch X [] ⟨0, 9, 12, 13⟩ [] htb (fun z hz => nomatch hz) (by decide) (by decide) (List.mem_cons_of_mem _ wm_cl_L_13) (hX.2.2.1 _ (List.mem_of_getElem? (i := 0) rfl)) (fun q9 => ?_)
      refine sw_astore_n X [(3, .ref q9), (0, .ref (ad 0)), (1, .int a1), (2, .ref (ad 44))] rfl (by decide) rfl dc_L_gives_12 ?_
      refine sw_iconst (v := 1) X dc_L_gives_13 (by decide) ?_
      exact sw_iret X hr hlk (u := (u4.1, u4.2, o)) rfl h dc_L_gives_14
def wp_L_hopeless (d : Nat) (a1 : Int32) (g : st_I) (q : st_L) (o : st_L) (Q : (Int32 → (st_I × st_L × st_L) → Prop)) : Prop := wp_S_hopeless d a1 g q (fun x4 u4 => vp_in (0 : Int32) 1 ∧ Q (0 : Int32) (u4.1, u4.2, (st_v o 44 ((0 : Int32)).toNatClampNeg (x4).toInt64))) (fun E u4 => (E = "java/lang/IllegalArgumentException") ∧ (E = "java/lang/IllegalArgumentException" → Q (1 : Int32) (u4.1, u4.2, o)))
set_option maxHeartbeats 4000000 in
set_option maxRecDepth 100000 in
theorem ct_L_hopeless (l : Launch) (hlT : l.stackTraces = false) (D : va_G) (cI cL cZ : ClassId) (ad : Nat → Nat) (r : st_I) (d : Nat) (a1 : Int32) (g : st_I) (q : st_L) (o : st_L) (Q : (Int32 → (st_I × st_L × st_L) → Prop)) (h : wp_L_hopeless d a1 g q o Q) : ∀ sz, Met l yn_L_hopeless (Cond.codeWith yn_L_hopeless cd_L_hopeless 4 (some .int) [(0, 9, 12, 13)] :: wa_A) { frames := (rm_K_kinds d).1 + 8, cells := 4, slots := 24, locals := (rm_K_kinds d).2 + 131 } (va_Pc [.ref (ad 0), .int a1, .ref (ad 44)] (wy_S D cl_A (wd_T cI cL cZ) nw_A (wd_W cI cL cZ ad g q r o) sz)) (va_Qi Q (fun u t => wq_E D cl_A (wd_T cI cL cZ) (va_A (wd_W cI cL cZ ad g q r o) sz) (wd_W cI cL cZ ad u.1 u.2.1 r u.2.2) t) (va_A (wd_W cI cL cZ ad g q r o) sz)) 4 24 (va_A (wd_W cI cL cZ ad g q r o) sz) := by
  refine sy_met (Qc := fun A => va_Qi Q (fun u t => wq_E D cl_A (wd_T cI cL cZ) A (wd_W cI cL cZ ad u.1 u.2.1 r u.2.2) t) A) (by decide) rfl (Nat.le_of_ble_eq_true rfl) rfl ?_
  intro p e s m args below meth c A X hA hNs hE hX hC htb hr hlk
  refine sw_aload_n X 2 rfl rfl dc_L_hopeless_0 ?_
  refine sw_iconst (v := 0) X dc_L_hopeless_1 (by decide) ?_
  refine sw_aload_n X 0 rfl rfl dc_L_hopeless_2 ?_
  refine sw_iload_n X 1 rfl rfl dc_L_hopeless_3 ?_
  refine sx_cV_iX (n := 1) (F := (fun u : st_S => wd_W cI cL cZ ad u.1 u.2 r o)) X hA nw_okA hNs hE hX [.int a1] 0 (wd_0 cI cL cZ ad g q r o) rfl rfl (ct_S_hopeless l hlT D cI cL cZ ad r o d a1 g q _ _ h) (List.mem_cons_of_mem _ wm_ml_L_28) (List.mem_cons_of_mem _ wm_im_S_hopeless) (List.mem_cons_of_mem _ wm_se_S_hopeless) rfl (wg_inW wm_code_S_hopeless) rfl rfl (List.mem_cons_of_mem _ wm_in_S) ⟨by decide, by decide, by decide +kernel⟩ ⟨by dsimp only; omega, by dsimp only; omega⟩ ⟨(Nat.le_of_ble_eq_true rfl), (Nat.le_of_ble_eq_true rfl)⟩ rfl (Nat.le_of_ble_eq_true rfl) dc_L_hopeless_4 rfl (fun x4 u4 h => ?_) (fun E u4 h => ?_)
  · refine sw_i2l X dc_L_hopeless_7 rfl ?_
    refine sw_last X 44 1 (wd_44 cI cL cZ ad u4.1 u4.2 r o) rfl h.1 (wd_W cI cL cZ ad u4.1 u4.2 r (st_v o 44 ((0 : Int32)).toNatClampNeg (x4).toInt64)) (ws_44 cI cL cZ ad u4.1 u4.2 r o ((0 : Int32)).toNatClampNeg (x4).toInt64) dc_L_hopeless_8 ?_
    have h := h.2
    refine sw_goto (tgt := 15) X dc_L_hopeless_9 (by decide) ?_
    refine sw_iconst (v := 0) X dc_L_hopeless_15 (by decide) ?_
    exact sw_iret X hr hlk (u := (u4.1, u4.2, (st_v o 44 ((0 : Int32)).toNatClampNeg (x4).toInt64))) rfl h dc_L_hopeless_16
  · obtain ⟨hor, h⟩ := h
    rcases hor with rfl
    · have h := h rfl
      refine sx_catch X [] ⟨0, 9, 12, 13⟩ [] htb (fun z hz => nomatch hz) (by decide) (by decide) (List.mem_cons_of_mem _ wm_cl_L_13) (hX.2.2.1 _ (List.mem_of_getElem? (i := 0) rfl)) (fun q9 => ?_)
      refine sw_astore_n X [(3, .ref q9), (0, .ref (ad 0)), (1, .int a1), (2, .ref (ad 44))] rfl (by decide) rfl dc_L_hopeless_12 ?_
      refine sw_iconst (v := 1) X dc_L_hopeless_13 (by decide) ?_
      exact sw_iret X hr hlk (u := (u4.1, u4.2, o)) rfl h dc_L_hopeless_14
def wp_L_isHopeless_L16 (d : Nat) (Q : (Int32 → (st_I × st_L × st_L) → Prop)) (g : st_I) (q : st_L) (o : st_L) (t0 : Int64) (t1 : Int32) : Prop := vp_in t1 1 ∧ Q (0 : Int32) (g, q, (st_v o 44 (t1).toNatClampNeg t0))
def wp_L_isHopeless (d : Nat) (a1 : Int32) (a2 : Int32) (g : st_I) (q : st_L) (o : st_L) (Q : (Int32 → (st_I × st_L × st_L) → Prop)) : Prop := wp_S_isHopeless d a1 a2 g q (fun x5 u5 => (x5 = 0 → wp_L_isHopeless_L16 d Q u5.1 u5.2 o (0 : Int64) (0 : Int32)) ∧ (¬ x5 = 0 → wp_L_isHopeless_L16 d Q u5.1 u5.2 o (1 : Int64) (0 : Int32))) (fun E u5 => (E = "java/lang/IllegalArgumentException") ∧ (E = "java/lang/IllegalArgumentException" → Q (1 : Int32) (u5.1, u5.2, o)))
set_option maxHeartbeats 4000000 in
set_option maxRecDepth 100000 in
theorem ct_L_isHopeless (l : Launch) (hlT : l.stackTraces = false) (D : va_G) (cI cL cZ : ClassId) (ad : Nat → Nat) (r : st_I) (d : Nat) (a1 : Int32) (a2 : Int32) (g : st_I) (q : st_L) (o : st_L) (Q : (Int32 → (st_I × st_L × st_L) → Prop)) (h : wp_L_isHopeless d a1 a2 g q o Q) : ∀ sz, Met l yn_L_isHopeless (Cond.codeWith yn_L_isHopeless cd_L_isHopeless 5 (some .int) [(0, 17, 20, 13)] :: wa_A) { frames := (rm_K_kinds d).1 + 8, cells := 4, slots := 24, locals := (rm_K_kinds d).2 + 133 } (va_Pc [.ref (ad 0), .int a1, .int a2, .ref (ad 44)] (wy_S D cl_A (wd_T cI cL cZ) nw_A (wd_W cI cL cZ ad g q r o) sz)) (va_Qi Q (fun u t => wq_E D cl_A (wd_T cI cL cZ) (va_A (wd_W cI cL cZ ad g q r o) sz) (wd_W cI cL cZ ad u.1 u.2.1 r u.2.2) t) (va_A (wd_W cI cL cZ ad g q r o) sz)) 4 24 (va_A (wd_W cI cL cZ ad g q r o) sz) := by
  refine sy_met (Qc := fun A => va_Qi Q (fun u t => wq_E D cl_A (wd_T cI cL cZ) A (wd_W cI cL cZ ad u.1 u.2.1 r u.2.2) t) A) (by decide) rfl (Nat.le_of_ble_eq_true rfl) rfl ?_
  intro p e s m args below meth c A X hA hNs hE hX hC htb hr hlk
  have b16 : ∀ (g : st_I) (q : st_L) (o : st_L) (t0 : Int64) (t1 : Int32), wp_L_isHopeless_L16 d Q g q o t0 t1 → sw_J p l e { frames := (rm_K_kinds d).1 + 8, cells := 4, slots := 24, locals := (rm_K_kinds d).2 + 133 } s m args below meth c 4 24 (MQ below (va_Qi Q (fun u t => wq_E D cl_A (wd_T cI cL cZ) A (wd_W cI cL cZ ad u.1 u.2.1 r u.2.2) t) A) args s 4 24 A) D cl_A A 5 (wd_W cI cL cZ ad g q r o) 16 [] [.long t0, .int t1, .ref (ad 44)] := by
    intro g q o t0 t1 h
    refine sw_last X 44 1 (wd_44 cI cL cZ ad g q r o) rfl h.1 (wd_W cI cL cZ ad g q r (st_v o 44 (t1).toNatClampNeg t0)) (ws_44 cI cL cZ ad g q r o (t1).toNatClampNeg t0) dc_L_isHopeless_16 ?_
    have h := h.2
    refine sw_goto (tgt := 24) X dc_L_isHopeless_17 (by decide) ?_
    refine sw_iconst (v := 0) X dc_L_isHopeless_24 (by decide) ?_
    exact sw_iret X hr hlk (u := (g, q, (st_v o 44 (t1).toNatClampNeg t0))) rfl h dc_L_isHopeless_25
  refine sw_aload_n X 3 rfl rfl dc_L_isHopeless_0 ?_
  refine sw_iconst (v := 0) X dc_L_isHopeless_1 (by decide) ?_
  refine sw_aload_n X 0 rfl rfl dc_L_isHopeless_2 ?_
  refine sw_iload_n X 1 rfl rfl dc_L_isHopeless_3 ?_
  refine sw_iload_n X 2 rfl rfl dc_L_isHopeless_4 ?_
  refine sx_cV_iX (n := 2) (F := (fun u : st_S => wd_W cI cL cZ ad u.1 u.2 r o)) X hA nw_okA hNs hE hX [.int a1, .int a2] 0 (wd_0 cI cL cZ ad g q r o) rfl rfl (ct_S_isHopeless l hlT D cI cL cZ ad r o d a1 a2 g q _ _ h) (List.mem_cons_of_mem _ wm_ml_L_31) (List.mem_cons_of_mem _ wm_im_S_isHopeless) (List.mem_cons_of_mem _ wm_se_S_isHopeless) rfl (wg_inW wm_code_S_isHopeless) rfl rfl (List.mem_cons_of_mem _ wm_in_S) ⟨by decide, by decide, by decide +kernel⟩ ⟨by dsimp only; omega, by dsimp only; omega⟩ ⟨(Nat.le_of_ble_eq_true rfl), (Nat.le_of_ble_eq_true rfl)⟩ rfl (Nat.le_of_ble_eq_true rfl) dc_L_isHopeless_5 rfl (fun x5 u5 h => ?_) (fun E u5 h => ?_)
  · refine sw_if_eq (tgt := 15) X dc_L_isHopeless_8 (by decide) (fun z => ?_) (fun z => ?_)
    · have h := h.1 z
      refine sw_lconst (v := 0) X dc_L_isHopeless_15 (by decide) ?_
      refine sw_sub [] rfl ?_
      exact b16 u5.1 u5.2 o (0 : Int64) (0 : Int32) h
    · have h := h.2 z
      refine sw_lconst (v := 1) X dc_L_isHopeless_11 (by decide) ?_
      refine sw_goto (tgt := 16) X dc_L_isHopeless_12 (by decide) ?_
      refine sw_sub [] rfl ?_
      exact b16 u5.1 u5.2 o (1 : Int64) (0 : Int32) h
  · obtain ⟨hor, h⟩ := h
    rcases hor with rfl
    · have h := h rfl
      refine sx_catch X [] ⟨0, 17, 20, 13⟩ [] htb (fun z hz => nomatch hz) (by decide) (by decide) (List.mem_cons_of_mem _ wm_cl_L_13) (hX.2.2.1 _ (List.mem_of_getElem? (i := 0) rfl)) (fun q9 => ?_)
      refine sw_astore X [(4, .ref q9), (0, .ref (ad 0)), (1, .int a1), (2, .int a2), (3, .ref (ad 44))] rfl (by decide) dc_L_isHopeless_20 ?_
      refine sw_iconst (v := 1) X dc_L_isHopeless_22 (by decide) ?_
      exact sw_iret X hr hlk (u := (u5.1, u5.2, o)) rfl h dc_L_isHopeless_23
def wp_L_run (d : Nat) (a1 : Int32) (a2 : Int32) (a3 : Int32) (g : st_I) (q : st_L) (o : st_L) (Q : (Int32 → (st_I × st_L × st_L) → Prop)) : Prop := wp_S_run d a1 a2 a3 g q (fun x7 u7 => vp_in (0 : Int32) 1 ∧ Q (0 : Int32) (u7.1, u7.2, (st_v o 44 ((0 : Int32)).toNatClampNeg (x7).toInt64))) (fun E u7 => (E = "java/lang/IllegalArgumentException" ∨ E = "java/lang/UnsupportedOperationException" ∨ E = "java/lang/IllegalStateException") ∧ (E = "java/lang/IllegalArgumentException" → Q (1 : Int32) (u7.1, u7.2, o)) ∧ (E = "java/lang/UnsupportedOperationException" → Q (2 : Int32) (u7.1, u7.2, o)) ∧ (E = "java/lang/IllegalStateException" → Q (3 : Int32) (u7.1, u7.2, o)))
set_option maxHeartbeats 4000000 in
set_option maxRecDepth 100000 in
theorem ct_L_run (l : Launch) (hlT : l.stackTraces = false) (D : va_G) (cI cL cZ : ClassId) (ad : Nat → Nat) (r : st_I) (d : Nat) (a1 : Int32) (a2 : Int32) (a3 : Int32) (g : st_I) (q : st_L) (o : st_L) (Q : (Int32 → (st_I × st_L × st_L) → Prop)) (h : wp_L_run d a1 a2 a3 g q o Q) : ∀ sz, Met l yn_L_run (Cond.codeWith yn_L_run cd_L_run 6 (some .int) [(0, 12, 15, 13), (0, 12, 19, 39), (0, 12, 23, 15)] :: wa_A) { frames := (rm_H_workOut d).1 + 8, cells := 4, slots := 24, locals := (rm_H_workOut d).2 + 136 } (va_Pc [.ref (ad 0), .int a1, .int a2, .int a3, .ref (ad 44)] (wy_S D cl_A (wd_T cI cL cZ) nw_A (wd_W cI cL cZ ad g q r o) sz)) (va_Qi Q (fun u t => wq_E D cl_A (wd_T cI cL cZ) (va_A (wd_W cI cL cZ ad g q r o) sz) (wd_W cI cL cZ ad u.1 u.2.1 r u.2.2) t) (va_A (wd_W cI cL cZ ad g q r o) sz)) 4 24 (va_A (wd_W cI cL cZ ad g q r o) sz) := by
  refine sy_met (Qc := fun A => va_Qi Q (fun u t => wq_E D cl_A (wd_T cI cL cZ) A (wd_W cI cL cZ ad u.1 u.2.1 r u.2.2) t) A) (by decide) rfl (Nat.le_of_ble_eq_true rfl) rfl ?_
  intro p e s m args below meth c A X hA hNs hE hX hC htb hr hlk
  refine sw_aload X 4 rfl dc_L_run_0 ?_
  refine sw_iconst (v := 0) X dc_L_run_2 (by decide) ?_
  refine sw_aload_n X 0 rfl rfl dc_L_run_3 ?_
  refine sw_iload_n X 1 rfl rfl dc_L_run_4 ?_
  refine sw_iload_n X 2 rfl rfl dc_L_run_5 ?_
  refine sw_iload_n X 3 rfl rfl dc_L_run_6 ?_
  refine sx_cV_iX (n := 3) (F := (fun u : st_S => wd_W cI cL cZ ad u.1 u.2 r o)) X hA nw_okA hNs hE hX [.int a1, .int a2, .int a3] 0 (wd_0 cI cL cZ ad g q r o) rfl rfl (ct_S_run l hlT D cI cL cZ ad r o d a1 a2 a3 g q _ _ h) (List.mem_cons_of_mem _ wm_ml_L_35) (List.mem_cons_of_mem _ wm_im_S_run) (List.mem_cons_of_mem _ wm_se_S_run) rfl (wg_inW wm_code_S_run) rfl rfl (List.mem_cons_of_mem _ wm_in_S) ⟨by decide, by decide, by decide +kernel⟩ ⟨by dsimp only; omega, by dsimp only; omega⟩ ⟨(Nat.le_of_ble_eq_true rfl), (Nat.le_of_ble_eq_true rfl)⟩ rfl (Nat.le_of_ble_eq_true rfl) dc_L_run_7 rfl (fun x7 u7 h => ?_) (fun E u7 h => ?_)
  · refine sw_i2l X dc_L_run_10 rfl ?_
    refine sw_last X 44 1 (wd_44 cI cL cZ ad u7.1 u7.2 r o) rfl h.1 (wd_W cI cL cZ ad u7.1 u7.2 r (st_v o 44 ((0 : Int32)).toNatClampNeg (x7).toInt64)) (ws_44 cI cL cZ ad u7.1 u7.2 r o ((0 : Int32)).toNatClampNeg (x7).toInt64) dc_L_run_11 ?_
    have h := h.2
    refine sw_goto (tgt := 27) X dc_L_run_12 (by decide) ?_
    refine sw_iconst (v := 0) X dc_L_run_27 (by decide) ?_
    exact sw_iret X hr hlk (u := (u7.1, u7.2, (st_v o 44 ((0 : Int32)).toNatClampNeg (x7).toInt64))) rfl h dc_L_run_28
  · obtain ⟨hor, h⟩ := h
    rcases hor with rfl | rfl | rfl
    · have h := h.1 rfl
      refine sx_catch X [] ⟨0, 12, 15, 13⟩ [⟨0, 12, 19, 39⟩, ⟨0, 12, 23, 15⟩] htb (fun z hz => nomatch hz) (by decide) (by decide) (List.mem_cons_of_mem _ wm_cl_L_13) (hX.2.2.1 _ (List.mem_of_getElem? (i := 0) rfl)) (fun q9 => ?_)
      refine sw_astore X [(5, .ref q9), (0, .ref (ad 0)), (1, .int a1), (2, .int a2), (3, .int a3), (4, .ref (ad 44))] rfl (by decide) dc_L_run_15 ?_
      refine sw_iconst (v := 1) X dc_L_run_17 (by decide) ?_
      exact sw_iret X hr hlk (u := (u7.1, u7.2, o)) rfl h dc_L_run_18
    · have h := h.2.1 rfl
      refine sx_catch X [⟨0, 12, 15, 13⟩] ⟨0, 12, 19, 39⟩ [⟨0, 12, 23, 15⟩] htb (fun z hz => by
        rcases List.mem_cons.mp hz with rfl | hz
        · exact ⟨by decide, "java/lang/IllegalArgumentException", List.mem_cons_of_mem _ wm_cl_L_13, hC _ (List.mem_of_getElem? (i := 1) rfl)⟩
        cases hz) (by decide) (by decide) (List.mem_cons_of_mem _ wm_cl_L_39) (hX.2.2.1 _ (List.mem_of_getElem? (i := 2) rfl)) (fun q9 => ?_)
      refine sw_astore X [(5, .ref q9), (0, .ref (ad 0)), (1, .int a1), (2, .int a2), (3, .int a3), (4, .ref (ad 44))] rfl (by decide) dc_L_run_19 ?_
      refine sw_iconst (v := 2) X dc_L_run_21 (by decide) ?_
      exact sw_iret X hr hlk (u := (u7.1, u7.2, o)) rfl h dc_L_run_22
    · have h := h.2.2 rfl
      refine sx_catch X [⟨0, 12, 15, 13⟩, ⟨0, 12, 19, 39⟩] ⟨0, 12, 23, 15⟩ [] htb (fun z hz => by
        rcases List.mem_cons.mp hz with rfl | hz
        · exact ⟨by decide, "java/lang/IllegalArgumentException", List.mem_cons_of_mem _ wm_cl_L_13, hC _ (List.mem_of_getElem? (i := 0) rfl)⟩
        rcases List.mem_cons.mp hz with rfl | hz
        · exact ⟨by decide, "java/lang/UnsupportedOperationException", List.mem_cons_of_mem _ wm_cl_L_39, hC _ (List.mem_of_getElem? (i := 2) rfl)⟩
        cases hz) (by decide) (by decide) (List.mem_cons_of_mem _ wm_cl_L_15) (hX.2.2.1 _ (List.mem_of_getElem? (i := 1) rfl)) (fun q9 => ?_)
      refine sw_astore X [(5, .ref q9), (0, .ref (ad 0)), (1, .int a1), (2, .int a2), (3, .int a3), (4, .ref (ad 44))] rfl (by decide) dc_L_run_23 ?_
      refine sw_iconst (v := 3) X dc_L_run_25 (by decide) ?_
      exact sw_iret X hr hlk (u := (u7.1, u7.2, o)) rfl h dc_L_run_26
def wp_L_part (a1 : Int32) (g : st_I) (q : st_L) (o : st_L) (Q : (Int32 → (st_I × st_L × st_L) → Prop)) : Prop := wp_S_part a1 g q (fun x4 u4 => vp_in (0 : Int32) 1 ∧ Q (0 : Int32) (u4.1, u4.2, (st_v o 44 ((0 : Int32)).toNatClampNeg (x4).toInt64))) (fun E u4 => (E = "java/lang/IndexOutOfBoundsException") ∧ (E = "java/lang/IndexOutOfBoundsException" → Q (1 : Int32) (u4.1, u4.2, o)))
set_option maxHeartbeats 4000000 in
set_option maxRecDepth 100000 in
theorem ct_L_part (l : Launch) (hlT : l.stackTraces = false) (D : va_G) (cI cL cZ : ClassId) (ad : Nat → Nat) (r : st_I) (a1 : Int32) (g : st_I) (q : st_L) (o : st_L) (Q : (Int32 → (st_I × st_L × st_L) → Prop)) (h : wp_L_part a1 g q o Q) : ∀ sz, Met l yn_L_part (Cond.codeWith yn_L_part cd_L_part 4 (some .int) [(0, 9, 12, 44)] :: wa_A) { frames := 7, cells := 4, slots := 24, locals := 111 } (va_Pc [.ref (ad 0), .int a1, .ref (ad 44)] (wy_S D cl_A (wd_T cI cL cZ) nw_A (wd_W cI cL cZ ad g q r o) sz)) (va_Qi Q (fun u t => wq_E D cl_A (wd_T cI cL cZ) (va_A (wd_W cI cL cZ ad g q r o) sz) (wd_W cI cL cZ ad u.1 u.2.1 r u.2.2) t) (va_A (wd_W cI cL cZ ad g q r o) sz)) 4 24 (va_A (wd_W cI cL cZ ad g q r o) sz) := by
  refine sy_met (Qc := fun A => va_Qi Q (fun u t => wq_E D cl_A (wd_T cI cL cZ) A (wd_W cI cL cZ ad u.1 u.2.1 r u.2.2) t) A) (by decide) rfl (Nat.le_of_ble_eq_true rfl) rfl ?_
  intro p e s m args below meth c A X hA hNs hE hX hC htb hr hlk
  refine sw_aload_n X 2 rfl rfl dc_L_part_0 ?_
  refine sw_iconst (v := 0) X dc_L_part_1 (by decide) ?_
  refine sw_aload_n X 0 rfl rfl dc_L_part_2 ?_
  refine sw_iload_n X 1 rfl rfl dc_L_part_3 ?_
  refine sx_cV_iX (n := 1) (F := (fun u : st_S => wd_W cI cL cZ ad u.1 u.2 r o)) X hA nw_okA hNs hE hX [.int a1] 0 (wd_0 cI cL cZ ad g q r o) rfl rfl (ct_S_part l hlT D cI cL cZ ad r o a1 g q _ _ h) (List.mem_cons_of_mem _ wm_ml_L_41) (List.mem_cons_of_mem _ wm_im_S_part) (List.mem_cons_of_mem _ wm_se_S_part) rfl (wg_inW wm_code_S_part) rfl rfl (List.mem_cons_of_mem _ wm_in_S) ⟨by decide, by decide, by decide +kernel⟩ ⟨by dsimp only; omega, by dsimp only; omega⟩ ⟨(Nat.le_of_ble_eq_true rfl), (Nat.le_of_ble_eq_true rfl)⟩ rfl (Nat.le_of_ble_eq_true rfl) dc_L_part_4 rfl (fun x4 u4 h => ?_) (fun E u4 h => ?_)
  · refine sw_i2l X dc_L_part_7 rfl ?_
    refine sw_last X 44 1 (wd_44 cI cL cZ ad u4.1 u4.2 r o) rfl h.1 (wd_W cI cL cZ ad u4.1 u4.2 r (st_v o 44 ((0 : Int32)).toNatClampNeg (x4).toInt64)) (ws_44 cI cL cZ ad u4.1 u4.2 r o ((0 : Int32)).toNatClampNeg (x4).toInt64) dc_L_part_8 ?_
    have h := h.2
    refine sw_goto (tgt := 15) X dc_L_part_9 (by decide) ?_
    refine sw_iconst (v := 0) X dc_L_part_15 (by decide) ?_
    exact sw_iret X hr hlk (u := (u4.1, u4.2, (st_v o 44 ((0 : Int32)).toNatClampNeg (x4).toInt64))) rfl h dc_L_part_16
  · obtain ⟨hor, h⟩ := h
    rcases hor with rfl
    · have h := h rfl
      refine sx_catch X [] ⟨0, 9, 12, 44⟩ [] htb (fun z hz => nomatch hz) (by decide) (by decide) (List.mem_cons_of_mem _ wm_cl_L_44) (hX.2.2.1 _ (List.mem_of_getElem? (i := 3) rfl)) (fun q9 => ?_)
      refine sw_astore_n X [(3, .ref q9), (0, .ref (ad 0)), (1, .int a1), (2, .ref (ad 44))] rfl (by decide) rfl dc_L_part_12 ?_
      refine sw_iconst (v := 1) X dc_L_part_13 (by decide) ?_
      exact sw_iret X hr hlk (u := (u4.1, u4.2, o)) rfl h dc_L_part_14
