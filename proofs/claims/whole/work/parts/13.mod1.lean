def wp_M_thrown  (r : st_I) (Q : (Int32 → st_I → Prop)) : Prop := Q (r 20 35) r
set_option maxHeartbeats 4000000 in
set_option maxRecDepth 100000 in
theorem ct_M_thrown (l : Launch) (D : va_G) (cI cL cZ : ClassId) (ad : Nat → Nat) (g : st_I) (q : st_L) (o : st_L)  (r : st_I) (Q : (Int32 → st_I → Prop)) (h : wp_M_thrown  r Q) : ∀ sz, Met l yn_M_thrown (Cond.code yn_M_thrown cd_M_thrown 1 (some .int) :: wa_A) { frames := 0, cells := 0, slots := 0, locals := 0 } (va_Pc [.ref (ad 20)] (wq_S D cl_A (wd_T cI cL cZ) nw_A (wd_W cI cL cZ ad g q r o) sz)) (va_Qi Q (fun u t => wq_E D cl_A (wd_T cI cL cZ) (va_A (wd_W cI cL cZ ad g q r o) sz) (wd_W cI cL cZ ad g q u o) t) (va_A (wd_W cI cL cZ ad g q r o) sz)) 0 0 (va_A (wd_W cI cL cZ ad g q r o) sz) := by
  refine sw_met (Qc := fun A => va_Qi Q (fun u t => wq_E D cl_A (wd_T cI cL cZ) A (wd_W cI cL cZ ad g q u o) t) A) (by decide) rfl (Nat.le_of_ble_eq_true rfl) rfl ?_
  intro p e s m args below meth c A X hA hNs hE hr hlk hnm
  refine sw_aload_n X 0 rfl rfl dc_M_thrown_0 ?_
  refine sw_get (v := .int (r 20 35)) X (fun z hz => List.mem_cons_of_mem _ (wf_M z hz)) 20 (wd_20 cI cL cZ ad g q r o) rfl 35 (by decide) (List.mem_cons_of_mem _ wm_fl_M_80) rfl dc_M_thrown_1 ?_
  exact sw_iret X hr hlk (u := r) rfl h dc_M_thrown_4
def wp_M_outside_L14 (Q : (Int32 → st_I → Prop)) (r : st_I) (t0 : Int32) : Prop := narrow .boolean (.int t0) = .int t0 ∧ Q t0 r
def wp_M_outside_L9 (Q : (Int32 → st_I → Prop)) (r : st_I)  : Prop := wp_M_outside_L14 Q r (1 : Int32)
def wp_M_outside (a1 : Int32) (a2 : Int32) (r : st_I) (Q : (Int32 → st_I → Prop)) : Prop := (a1 < 0 → wp_M_outside_L9 Q r) ∧ (¬ a1 < 0 → (a1 ≤ a2 → wp_M_outside_L14 Q r (0 : Int32)) ∧ (¬ a1 ≤ a2 → wp_M_outside_L9 Q r))
set_option maxHeartbeats 4000000 in
set_option maxRecDepth 100000 in
theorem ct_M_outside (l : Launch) (D : va_G) (cI cL cZ : ClassId) (ad : Nat → Nat) (g : st_I) (q : st_L) (o : st_L) (a1 : Int32) (a2 : Int32) (r : st_I) (Q : (Int32 → st_I → Prop)) (h : wp_M_outside a1 a2 r Q) : ∀ sz, Met l yn_M_outside (Cond.code yn_M_outside cd_M_outside 2 (some .boolean) :: wa_A) { frames := 0, cells := 0, slots := 0, locals := 0 } (va_Pc [.int a1, .int a2] (wq_S D cl_A (wd_T cI cL cZ) nw_A (wd_W cI cL cZ ad g q r o) sz)) (va_Qi Q (fun u t => wq_E D cl_A (wd_T cI cL cZ) (va_A (wd_W cI cL cZ ad g q r o) sz) (wd_W cI cL cZ ad g q u o) t) (va_A (wd_W cI cL cZ ad g q r o) sz)) 0 0 (va_A (wd_W cI cL cZ ad g q r o) sz) := by
  refine sw_met (Qc := fun A => va_Qi Q (fun u t => wq_E D cl_A (wd_T cI cL cZ) A (wd_W cI cL cZ ad g q u o) t) A) (by decide) rfl (Nat.le_of_ble_eq_true rfl) rfl ?_
  intro p e s m args below meth c A X hA hNs hE hr hlk hnm
  have b14 : ∀ (r : st_I) (t0 : Int32), wp_M_outside_L14 Q r t0 → sw_J p l e { frames := 0, cells := 0, slots := 0, locals := 0 } s m args below meth c 0 0 (MQ below (va_Qi Q (fun u t => wq_E D cl_A (wd_T cI cL cZ) A (wd_W cI cL cZ ad g q u o) t) A) args s 0 0 A) D cl_A A 2 (wd_W cI cL cZ ad g q r o) 14 [] [.int t0] := by
    intro r t0 h
    exact sw_zret X hr hlk h.1 (u := r) rfl h.2 dc_M_outside_14
  have b9 : ∀ (r : st_I), wp_M_outside_L9 Q r → sw_J p l e { frames := 0, cells := 0, slots := 0, locals := 0 } s m args below meth c 0 0 (MQ below (va_Qi Q (fun u t => wq_E D cl_A (wd_T cI cL cZ) A (wd_W cI cL cZ ad g q u o) t) A) args s 0 0 A) D cl_A A 2 (wd_W cI cL cZ ad g q r o) 9 [] [] := by
    intro r h
    refine sw_iconst (v := 1) X dc_M_outside_9 (by decide) ?_
    refine sw_goto (tgt := 14) X dc_M_outside_10 (by decide) ?_
    exact b14 r (1 : Int32) h
  refine sw_iload_n X 0 rfl rfl dc_M_outside_0 ?_
  refine sw_if_lt (tgt := 9) X dc_M_outside_1 (by decide) (fun z => ?_) (fun z => ?_)
  · have h := h.1 z
    refine sw_sub [] rfl ?_
    exact b9 r h
  · have h := h.2 z
    refine sw_iload_n X 0 rfl rfl dc_M_outside_4 ?_
    refine sw_iload_n X 1 rfl rfl dc_M_outside_5 ?_
    refine sw_icmp_le (tgt := 13) X dc_M_outside_6 (by decide) (fun z => ?_) (fun z => ?_)
    · have h := h.1 z
      refine sw_iconst (v := 0) X dc_M_outside_13 (by decide) ?_
      refine sw_sub [] rfl ?_
      exact b14 r (0 : Int32) h
    · have h := h.2 z
      refine sw_sub [] rfl ?_
      exact b9 r h
def wp_M_parameters_L10 (Q : (Int32 → st_I → Prop)) (r : st_I) (t0 : Int32) : Prop := Q t0 r
def wp_M_parameters (a1 : Int32) (r : st_I) (Q : (Int32 → st_I → Prop)) : Prop := ((3 : Int32) ≤ a1 → wp_M_parameters_L10 Q r (2 : Int32)) ∧ (¬ (3 : Int32) ≤ a1 → wp_M_parameters_L10 Q r (1 : Int32))
set_option maxHeartbeats 4000000 in
set_option maxRecDepth 100000 in
theorem ct_M_parameters (l : Launch) (D : va_G) (cI cL cZ : ClassId) (ad : Nat → Nat) (g : st_I) (q : st_L) (o : st_L) (a1 : Int32) (r : st_I) (Q : (Int32 → st_I → Prop)) (h : wp_M_parameters a1 r Q) : ∀ sz, Met l yn_M_parameters (Cond.code yn_M_parameters cd_M_parameters 1 (some .int) :: wa_A) { frames := 0, cells := 0, slots := 0, locals := 0 } (va_Pc [.int a1] (wq_S D cl_A (wd_T cI cL cZ) nw_A (wd_W cI cL cZ ad g q r o) sz)) (va_Qi Q (fun u t => wq_E D cl_A (wd_T cI cL cZ) (va_A (wd_W cI cL cZ ad g q r o) sz) (wd_W cI cL cZ ad g q u o) t) (va_A (wd_W cI cL cZ ad g q r o) sz)) 0 0 (va_A (wd_W cI cL cZ ad g q r o) sz) := by
  refine sw_met (Qc := fun A => va_Qi Q (fun u t => wq_E D cl_A (wd_T cI cL cZ) A (wd_W cI cL cZ ad g q u o) t) A) (by decide) rfl (Nat.le_of_ble_eq_true rfl) rfl ?_
  intro p e s m args below meth c A X hA hNs hE hr hlk hnm
  have b10 : ∀ (r : st_I) (t0 : Int32), wp_M_parameters_L10 Q r t0 → sw_J p l e { frames := 0, cells := 0, slots := 0, locals := 0 } s m args below meth c 0 0 (MQ below (va_Qi Q (fun u t => wq_E D cl_A (wd_T cI cL cZ) A (wd_W cI cL cZ ad g q u o) t) A) args s 0 0 A) D cl_A A 1 (wd_W cI cL cZ ad g q r o) 10 [] [.int t0] := by
    intro r t0 h
    exact sw_iret X hr hlk (u := r) rfl h dc_M_parameters_10
  refine sw_iload_n X 0 rfl rfl dc_M_parameters_0 ?_
  refine sw_iconst (v := 3) X dc_M_parameters_1 (by decide) ?_
  refine sw_icmp_ge (tgt := 9) X dc_M_parameters_2 (by decide) (fun z => ?_) (fun z => ?_)
  · have h := h.1 z
    refine sw_iconst (v := 2) X dc_M_parameters_9 (by decide) ?_
    refine sw_sub [] rfl ?_
    exact b10 r (2 : Int32) h
  · have h := h.2 z
    refine sw_iconst (v := 1) X dc_M_parameters_5 (by decide) ?_
    refine sw_goto (tgt := 10) X dc_M_parameters_6 (by decide) ?_
    refine sw_sub [] rfl ?_
    exact b10 r (1 : Int32) h
def wp_M_isPart_L17 (Q : (Int32 → st_I → Prop)) (r : st_I) (t0 : Int32) : Prop := narrow .boolean (.int t0) = .int t0 ∧ Q t0 r
def wp_M_isPart_L16 (Q : (Int32 → st_I → Prop)) (r : st_I)  : Prop := wp_M_isPart_L17 Q r (0 : Int32)
def wp_M_isPart (a1 : Int32) (r : st_I) (Q : (Int32 → st_I → Prop)) : Prop := (a1 < 0 → wp_M_isPart_L16 Q r) ∧ (¬ a1 < 0 → ((r 20 0) ≤ a1 → wp_M_isPart_L16 Q r) ∧ (¬ (r 20 0) ≤ a1 → wp_M_isPart_L17 Q r (1 : Int32)))
set_option maxHeartbeats 4000000 in
set_option maxRecDepth 100000 in
theorem ct_M_isPart (l : Launch) (D : va_G) (cI cL cZ : ClassId) (ad : Nat → Nat) (g : st_I) (q : st_L) (o : st_L) (a1 : Int32) (r : st_I) (Q : (Int32 → st_I → Prop)) (h : wp_M_isPart a1 r Q) : ∀ sz, Met l yn_M_isPart (Cond.code yn_M_isPart cd_M_isPart 2 (some .boolean) :: wa_A) { frames := 0, cells := 0, slots := 0, locals := 0 } (va_Pc [.ref (ad 20), .int a1] (wq_S D cl_A (wd_T cI cL cZ) nw_A (wd_W cI cL cZ ad g q r o) sz)) (va_Qi Q (fun u t => wq_E D cl_A (wd_T cI cL cZ) (va_A (wd_W cI cL cZ ad g q r o) sz) (wd_W cI cL cZ ad g q u o) t) (va_A (wd_W cI cL cZ ad g q r o) sz)) 0 0 (va_A (wd_W cI cL cZ ad g q r o) sz) := by
  refine sw_met (Qc := fun A => va_Qi Q (fun u t => wq_E D cl_A (wd_T cI cL cZ) A (wd_W cI cL cZ ad g q u o) t) A) (by decide) rfl (Nat.le_of_ble_eq_true rfl) rfl ?_
  intro p e s m args below meth c A X hA hNs hE hr hlk hnm
  have b17 : ∀ (r : st_I) (t0 : Int32), wp_M_isPart_L17 Q r t0 → sw_J p l e { frames := 0, cells := 0, slots := 0, locals := 0 } s m args below meth c 0 0 (MQ below (va_Qi Q (fun u t => wq_E D cl_A (wd_T cI cL cZ) A (wd_W cI cL cZ ad g q u o) t) A) args s 0 0 A) D cl_A A 2 (wd_W cI cL cZ ad g q r o) 17 [] [.int t0] := by
    intro r t0 h
    exact sw_zret X hr hlk h.1 (u := r) rfl h.2 dc_M_isPart_17
  have b16 : ∀ (r : st_I), wp_M_isPart_L16 Q r → sw_J p l e { frames := 0, cells := 0, slots := 0, locals := 0 } s m args below meth c 0 0 (MQ below (va_Qi Q (fun u t => wq_E D cl_A (wd_T cI cL cZ) A (wd_W cI cL cZ ad g q u o) t) A) args s 0 0 A) D cl_A A 2 (wd_W cI cL cZ ad g q r o) 16 [] [] := by
    intro r h
    refine sw_iconst (v := 0) X dc_M_isPart_16 (by decide) ?_
    exact b17 r (0 : Int32) h
  refine sw_iload_n X 1 rfl rfl dc_M_isPart_0 ?_
  refine sw_if_lt (tgt := 16) X dc_M_isPart_1 (by decide) (fun z => ?_) (fun z => ?_)
  · have h := h.1 z
    refine sw_sub [] rfl ?_
    exact b16 r h
  · have h := h.2 z
    refine sw_iload_n X 1 rfl rfl dc_M_isPart_4 ?_
    refine sw_aload_n X 0 rfl rfl dc_M_isPart_5 ?_
    refine sw_get (v := .int (r 20 0)) X (fun z hz => List.mem_cons_of_mem _ (wf_M z hz)) 20 (wd_20 cI cL cZ ad g q r o) rfl 0 (by decide) (List.mem_cons_of_mem _ wm_fl_M_84) rfl dc_M_isPart_6 ?_
    refine sw_icmp_ge (tgt := 16) X dc_M_isPart_9 (by decide) (fun z => ?_) (fun z => ?_)
    · have h := h.1 z
      refine sw_sub [] rfl ?_
      exact b16 r h
    · have h := h.2 z
      refine sw_iconst (v := 1) X dc_M_isPart_12 (by decide) ?_
      refine sw_goto (tgt := 17) X dc_M_isPart_13 (by decide) ?_
      refine sw_sub [] rfl ?_
      exact b17 r (1 : Int32) h
def wp_M_isSaid_L138 (Q : (Int32 → st_I → Prop)) (r : st_I) (t0 : Int32) : Prop := narrow .boolean (.int t0) = .int t0 ∧ Q t0 r
def wp_M_isSaid_L124 (Q : (Int32 → st_I → Prop)) (r : st_I) (v0 : Int32) : Prop := wp_M_outside v0 (14 : Int32) r (fun x127 u127 => (¬ x127 = 0 → wp_M_isSaid_L138 Q u127 (0 : Int32)) ∧ (x127 = 0 → wp_M_isSaid_L138 Q u127 (1 : Int32)))
def wp_M_isSaid_L77 (Q : (Int32 → st_I → Prop)) (r : st_I) (t0 : Int32) : Prop := narrow .boolean (.int t0) = .int t0 ∧ Q t0 r
def wp_M_isSaid_L64 (Q : (Int32 → st_I → Prop)) (r : st_I) (v1 : Int32) : Prop := wp_M_outside v1 (3 : Int32) r (fun x66 u66 => (¬ x66 = 0 → wp_M_isSaid_L77 Q u66 (0 : Int32)) ∧ (x66 = 0 → wp_M_isSaid_L77 Q u66 (1 : Int32)))
def wp_M_isSaid_L93 (Q : (Int32 → st_I → Prop)) (r : st_I) (t0 : Int32) : Prop := narrow .boolean (.int t0) = .int t0 ∧ Q t0 r
def wp_M_isSaid_L107 (Q : (Int32 → st_I → Prop)) (r : st_I) (t0 : Int32) : Prop := narrow .boolean (.int t0) = .int t0 ∧ Q t0 r
def wp_M_isSaid_L123 (Q : (Int32 → st_I → Prop)) (r : st_I) (t0 : Int32) : Prop := narrow .boolean (.int t0) = .int t0 ∧ Q t0 r
def wp_M_isSaid_L118 (Q : (Int32 → st_I → Prop)) (r : st_I)  : Prop := wp_M_isSaid_L123 Q r (1 : Int32)
def wp_M_isSaid (a1 : Int32) (a2 : Int32) (a3 : Int32) (r : st_I) (Q : (Int32 → st_I → Prop)) : Prop := (a1 = (0 : Int32) → wp_M_isSaid_L64 Q r a2) ∧ (a1 = (1 : Int32) → wp_M_isSaid_L64 Q r a2) ∧ (a1 = (2 : Int32) → wp_M_isSaid_L124 Q r a1) ∧ (a1 = (3 : Int32) → wp_M_isSaid_L124 Q r a1) ∧ (a1 = (4 : Int32) → wp_M_isSaid_L124 Q r a1) ∧ (a1 = (5 : Int32) → wp_M_isSaid_L124 Q r a1) ∧ (a1 = (6 : Int32) → wp_M_isSaid_L124 Q r a1) ∧ (a1 = (7 : Int32) → wp_M_isSaid_L124 Q r a1) ∧ (a1 = (8 : Int32) → wp_M_isSaid_L124 Q r a1) ∧ (a1 = (9 : Int32) → wp_M_outside a3 (511 : Int32) r (fun x82 u82 => (¬ x82 = 0 → wp_M_isSaid_L93 Q u82 (0 : Int32)) ∧ (x82 = 0 → wp_M_isSaid_L93 Q u82 (1 : Int32)))) ∧ (a1 = (10 : Int32) → wp_M_outside a2 (5 : Int32) r (fun x96 u96 => (¬ x96 = 0 → wp_M_isSaid_L107 Q u96 (0 : Int32)) ∧ (x96 = 0 → wp_M_isSaid_L107 Q u96 (1 : Int32)))) ∧ (a1 = (11 : Int32) → (a2 = (2 : Int32) → wp_M_isSaid_L118 Q r) ∧ (¬ a2 = (2 : Int32) → (¬ a2 = (3 : Int32) → wp_M_isSaid_L123 Q r (0 : Int32)) ∧ (a2 = (3 : Int32) → wp_M_isSaid_L118 Q r))) ∧ (¬ a1 = (0 : Int32) → ¬ a1 = (1 : Int32) → ¬ a1 = (2 : Int32) → ¬ a1 = (3 : Int32) → ¬ a1 = (4 : Int32) → ¬ a1 = (5 : Int32) → ¬ a1 = (6 : Int32) → ¬ a1 = (7 : Int32) → ¬ a1 = (8 : Int32) → ¬ a1 = (9 : Int32) → ¬ a1 = (10 : Int32) → ¬ a1 = (11 : Int32) → wp_M_isSaid_L124 Q r a1)
set_option maxHeartbeats 4000000 in
set_option maxRecDepth 100000 in
theorem ct_M_isSaid (l : Launch) (D : va_G) (cI cL cZ : ClassId) (ad : Nat → Nat) (g : st_I) (q : st_L) (o : st_L) (a1 : Int32) (a2 : Int32) (a3 : Int32) (r : st_I) (Q : (Int32 → st_I → Prop)) (h : wp_M_isSaid a1 a2 a3 r Q) : ∀ sz, Met l yn_M_isSaid (Cond.code yn_M_isSaid cd_M_isSaid 3 (some .boolean) :: wa_A) { frames := 1, cells := 0, slots := 0, locals := 21 } (va_Pc [.int a1, .int a2, .int a3] (wq_S D cl_A (wd_T cI cL cZ) nw_A (wd_W cI cL cZ ad g q r o) sz)) (va_Qi Q (fun u t => wq_E D cl_A (wd_T cI cL cZ) (va_A (wd_W cI cL cZ ad g q r o) sz) (wd_W cI cL cZ ad g q u o) t) (va_A (wd_W cI cL cZ ad g q r o) sz)) 0 0 (va_A (wd_W cI cL cZ ad g q r o) sz) := by
  refine sw_met (Qc := fun A => va_Qi Q (fun u t => wq_E D cl_A (wd_T cI cL cZ) A (wd_W cI cL cZ ad g q u o) t) A) (by decide) rfl (Nat.le_of_ble_eq_true rfl) rfl ?_
  intro p e s m args below meth c A X hA hNs hE hr hlk hnm
  have b138 : ∀ (r : st_I) (t0 : Int32), wp_M_isSaid_L138 Q r t0 → sw_J p l e { frames := 1, cells := 0, slots := 0, locals := 21 } s m args below meth c 0 0 (MQ below (va_Qi Q (fun u t => wq_E D cl_A (wd_T cI cL cZ) A (wd_W cI cL cZ ad g q u o) t) A) args s 0 0 A) D cl_A A 3 (wd_W cI cL cZ ad g q r o) 138 [] [.int t0] := by
    intro r t0 h
    exact sw_zret X hr hlk h.1 (u := r) rfl h.2 dc_M_isSaid_138
  have b124 : ∀ (r : st_I) (v0 : Int32), wp_M_isSaid_L124 Q r v0 → sw_J p l e { frames := 1, cells := 0, slots := 0, locals := 21 } s m args below meth c 0 0 (MQ below (va_Qi Q (fun u t => wq_E D cl_A (wd_T cI cL cZ) A (wd_W cI cL cZ ad g q u o) t) A) args s 0 0 A) D cl_A A 3 (wd_W cI cL cZ ad g q r o) 124 [(0, .int v0)] [] := by
    intro r v0 h
    refine sw_iload_n X 0 rfl rfl dc_M_isSaid_124 ?_
    refine sw_bipush (v := 14) X dc_M_isSaid_125 (by decide) ?_
    refine sw_cS_i (n := 2) X hA nw_okA hNs hE (fun u : st_I => wd_W cI cL cZ ad g q u o) [.int v0, .int (14 : Int32)] (ct_M_outside l D cI cL cZ ad g q o v0 (14 : Int32) r _ h) (List.mem_cons_of_mem _ wm_ml_M_87) (List.mem_cons_of_mem _ wm_st_M_outside) rfl (wg_in wm_code_M_outside) rfl rfl (List.mem_cons_of_mem _ wm_in_M) ⟨by decide, by decide, by decide +kernel⟩ ⟨Nat.le_of_ble_eq_true rfl, Nat.le_of_ble_eq_true rfl⟩ ⟨Nat.zero_le _, Nat.zero_le _⟩ rfl (Nat.le_of_ble_eq_true rfl) dc_M_isSaid_127 rfl (fun x127 u127 h => ?_)
    refine sw_if_ne (tgt := 137) X dc_M_isSaid_130 (by decide) (fun z => ?_) (fun z => ?_)
    · have h := h.1 z
      refine sw_iconst (v := 0) X dc_M_isSaid_137 (by decide) ?_
      refine sw_sub [] rfl ?_
      exact b138 u127 (0 : Int32) h
    · have h := h.2 z
      refine sw_iconst (v := 1) X dc_M_isSaid_133 (by decide) ?_
      refine sw_goto (tgt := 138) X dc_M_isSaid_134 (by decide) ?_
      refine sw_sub [] rfl ?_
      exact b138 u127 (1 : Int32) h
  have b77 : ∀ (r : st_I) (t0 : Int32), wp_M_isSaid_L77 Q r t0 → sw_J p l e { frames := 1, cells := 0, slots := 0, locals := 21 } s m args below meth c 0 0 (MQ below (va_Qi Q (fun u t => wq_E D cl_A (wd_T cI cL cZ) A (wd_W cI cL cZ ad g q u o) t) A) args s 0 0 A) D cl_A A 3 (wd_W cI cL cZ ad g q r o) 77 [] [.int t0] := by
    intro r t0 h
    exact sw_zret X hr hlk h.1 (u := r) rfl h.2 dc_M_isSaid_77
  have b64 : ∀ (r : st_I) (v1 : Int32), wp_M_isSaid_L64 Q r v1 → sw_J p l e { frames := 1, cells := 0, slots := 0, locals := 21 } s m args below meth c 0 0 (MQ below (va_Qi Q (fun u t => wq_E D cl_A (wd_T cI cL cZ) A (wd_W cI cL cZ ad g q u o) t) A) args s 0 0 A) D cl_A A 3 (wd_W cI cL cZ ad g q r o) 64 [(1, .int v1)] [] := by
    intro r v1 h
    refine sw_iload_n X 0 rfl rfl dc_M_isSaid_64 ?_
    refine sw_iconst (v := 3) X dc_M_isSaid_65 (by decide) ?_
    refine sw_cS_i (n := 2) X hA nw_okA hNs hE (fun u : st_I => wd_W cI cL cZ ad g q u o) [.int v1, .int (3 : Int32)] (ct_M_outside l D cI cL cZ ad g q o v1 (3 : Int32) r _ h) (List.mem_cons_of_mem _ wm_ml_M_87) (List.mem_cons_of_mem _ wm_st_M_outside) rfl (wg_in wm_code_M_outside) rfl rfl (List.mem_cons_of_mem _ wm_in_M) ⟨by decide, by decide, by decide +kernel⟩ ⟨Nat.le_of_ble_eq_true rfl, Nat.le_of_ble_eq_true rfl⟩ ⟨Nat.zero_le _, Nat.zero_le _⟩ rfl (Nat.le_of_ble_eq_true rfl) dc_M_isSaid_66 rfl (fun x66 u66 h => ?_)
    refine sw_if_ne (tgt := 76) X dc_M_isSaid_69 (by decide) (fun z => ?_) (fun z => ?_)
    · have h := h.1 z
      refine sw_iconst (v := 0) X dc_M_isSaid_76 (by decide) ?_
      refine sw_sub [] rfl ?_
      exact b77 u66 (0 : Int32) h
    · have h := h.2 z
      refine sw_iconst (v := 1) X dc_M_isSaid_72 (by decide) ?_
      refine sw_goto (tgt := 77) X dc_M_isSaid_73 (by decide) ?_
      refine sw_sub [] rfl ?_
      exact b77 u66 (1 : Int32) h
  have b93 : ∀ (r : st_I) (t0 : Int32), wp_M_isSaid_L93 Q r t0 → sw_J p l e { frames := 1, cells := 0, slots := 0, locals := 21 } s m args below meth c 0 0 (MQ below (va_Qi Q (fun u t => wq_E D cl_A (wd_T cI cL cZ) A (wd_W cI cL cZ ad g q u o) t) A) args s 0 0 A) D cl_A A 3 (wd_W cI cL cZ ad g q r o) 93 [] [.int t0] := by
    intro r t0 h
    exact sw_zret X hr hlk h.1 (u := r) rfl h.2 dc_M_isSaid_93
  have b107 : ∀ (r : st_I) (t0 : Int32), wp_M_isSaid_L107 Q r t0 → sw_J p l e { frames := 1, cells := 0, slots := 0, locals := 21 } s m args below meth c 0 0 (MQ below (va_Qi Q (fun u t => wq_E D cl_A (wd_T cI cL cZ) A (wd_W cI cL cZ ad g q u o) t) A) args s 0 0 A) D cl_A A 3 (wd_W cI cL cZ ad g q r o) 107 [] [.int t0] := by
    intro r t0 h
    exact sw_zret X hr hlk h.1 (u := r) rfl h.2 dc_M_isSaid_107
  have b123 : ∀ (r : st_I) (t0 : Int32), wp_M_isSaid_L123 Q r t0 → sw_J p l e { frames := 1, cells := 0, slots := 0, locals := 21 } s m args below meth c 0 0 (MQ below (va_Qi Q (fun u t => wq_E D cl_A (wd_T cI cL cZ) A (wd_W cI cL cZ ad g q u o) t) A) args s 0 0 A) D cl_A A 3 (wd_W cI cL cZ ad g q r o) 123 [] [.int t0] := by
    intro r t0 h
    exact sw_zret X hr hlk h.1 (u := r) rfl h.2 dc_M_isSaid_123
  have b118 : ∀ (r : st_I), wp_M_isSaid_L118 Q r → sw_J p l e { frames := 1, cells := 0, slots := 0, locals := 21 } s m args below meth c 0 0 (MQ below (va_Qi Q (fun u t => wq_E D cl_A (wd_T cI cL cZ) A (wd_W cI cL cZ ad g q u o) t) A) args s 0 0 A) D cl_A A 3 (wd_W cI cL cZ ad g q r o) 118 [] [] := by
    intro r h
    refine sw_iconst (v := 1) X dc_M_isSaid_118 (by decide) ?_
    refine sw_goto (tgt := 123) X dc_M_isSaid_119 (by decide) ?_
    exact b123 r (1 : Int32) h
  refine sw_iload_n X 0 rfl rfl dc_M_isSaid_0 ?_
  by_cases z0 : a1 = (0 : Int32)
  · have h := h.1 z0
    refine sw_tableIn (tgt := 64) (off := 63) X dc_M_isSaid_1 (by rw [z0]; decide) (by rw [z0]; decide) (by rw [z0]; rfl) (by decide) ?_
    refine sw_sub [1] rfl ?_
    exact b64 r a2 h
  by_cases z1 : a1 = (1 : Int32)
  · have h := h.2.1 z1
    refine sw_tableIn (tgt := 64) (off := 63) X dc_M_isSaid_1 (by rw [z1]; decide) (by rw [z1]; decide) (by rw [z1]; rfl) (by decide) ?_
    refine sw_sub [1] rfl ?_
    exact b64 r a2 h
  by_cases z2 : a1 = (2 : Int32)
  · have h := h.2.2.1 z2
    refine sw_tableIn (tgt := 124) (off := 123) X dc_M_isSaid_1 (by rw [z2]; decide) (by rw [z2]; decide) (by rw [z2]; rfl) (by decide) ?_
    refine sw_sub [0] rfl ?_
    exact b124 r a1 h
  by_cases z3 : a1 = (3 : Int32)
  · have h := h.2.2.2.1 z3
    refine sw_tableIn (tgt := 124) (off := 123) X dc_M_isSaid_1 (by rw [z3]; decide) (by rw [z3]; decide) (by rw [z3]; rfl) (by decide) ?_
    refine sw_sub [0] rfl ?_
    exact b124 r a1 h
  by_cases z4 : a1 = (4 : Int32)
  · have h := h.2.2.2.2.1 z4
    refine sw_tableIn (tgt := 124) (off := 123) X dc_M_isSaid_1 (by rw [z4]; decide) (by rw [z4]; decide) (by rw [z4]; rfl) (by decide) ?_
    refine sw_sub [0] rfl ?_
    exact b124 r a1 h
  by_cases z5 : a1 = (5 : Int32)
  · have h := h.2.2.2.2.2.1 z5
    refine sw_tableIn (tgt := 124) (off := 123) X dc_M_isSaid_1 (by rw [z5]; decide) (by rw [z5]; decide) (by rw [z5]; rfl) (by decide) ?_
    refine sw_sub [0] rfl ?_
    exact b124 r a1 h
  by_cases z6 : a1 = (6 : Int32)
  · have h := h.2.2.2.2.2.2.1 z6
    refine sw_tableIn (tgt := 124) (off := 123) X dc_M_isSaid_1 (by rw [z6]; decide) (by rw [z6]; decide) (by rw [z6]; rfl) (by decide) ?_
    refine sw_sub [0] rfl ?_
    exact b124 r a1 h
  by_cases z7 : a1 = (7 : Int32)
  · have h := h.2.2.2.2.2.2.2.1 z7
    refine sw_tableIn (tgt := 124) (off := 123) X dc_M_isSaid_1 (by rw [z7]; decide) (by rw [z7]; decide) (by rw [z7]; rfl) (by decide) ?_
    refine sw_sub [0] rfl ?_
    exact b124 r a1 h
  by_cases z8 : a1 = (8 : Int32)
  · have h := h.2.2.2.2.2.2.2.2.1 z8
    refine sw_tableIn (tgt := 124) (off := 123) X dc_M_isSaid_1 (by rw [z8]; decide) (by rw [z8]; decide) (by rw [z8]; rfl) (by decide) ?_
    refine sw_sub [0] rfl ?_
    exact b124 r a1 h
  by_cases z9 : a1 = (9 : Int32)
  · have h := h.2.2.2.2.2.2.2.2.2.1 z9
    refine sw_tableIn (tgt := 78) (off := 77) X dc_M_isSaid_1 (by rw [z9]; decide) (by rw [z9]; decide) (by rw [z9]; rfl) (by decide) ?_
    refine sw_iload_n X 2 rfl rfl dc_M_isSaid_78 ?_
    refine sw_sipush (v := 511) X dc_M_isSaid_79 (by decide) ?_
    refine sw_cS_i (n := 2) X hA nw_okA hNs hE (fun u : st_I => wd_W cI cL cZ ad g q u o) [.int a3, .int (511 : Int32)] (ct_M_outside l D cI cL cZ ad g q o a3 (511 : Int32) r _ h) (List.mem_cons_of_mem _ wm_ml_M_87) (List.mem_cons_of_mem _ wm_st_M_outside) rfl (wg_in wm_code_M_outside) rfl rfl (List.mem_cons_of_mem _ wm_in_M) ⟨by decide, by decide, by decide +kernel⟩ ⟨Nat.le_of_ble_eq_true rfl, Nat.le_of_ble_eq_true rfl⟩ ⟨Nat.zero_le _, Nat.zero_le _⟩ rfl (Nat.le_of_ble_eq_true rfl) dc_M_isSaid_82 rfl (fun x82 u82 h => ?_)
    refine sw_if_ne (tgt := 92) X dc_M_isSaid_85 (by decide) (fun z => ?_) (fun z => ?_)
    · have h := h.1 z
      refine sw_iconst (v := 0) X dc_M_isSaid_92 (by decide) ?_
      refine sw_sub [] rfl ?_
      exact b93 u82 (0 : Int32) h
    · have h := h.2 z
      refine sw_iconst (v := 1) X dc_M_isSaid_88 (by decide) ?_
      refine sw_goto (tgt := 93) X dc_M_isSaid_89 (by decide) ?_
      refine sw_sub [] rfl ?_
      exact b93 u82 (1 : Int32) h
  by_cases z10 : a1 = (10 : Int32)
  · have h := h.2.2.2.2.2.2.2.2.2.2.1 z10
    refine sw_tableIn (tgt := 94) (off := 93) X dc_M_isSaid_1 (by rw [z10]; decide) (by rw [z10]; decide) (by rw [z10]; rfl) (by decide) ?_
    refine sw_iload_n X 1 rfl rfl dc_M_isSaid_94 ?_
    refine sw_iconst (v := 5) X dc_M_isSaid_95 (by decide) ?_
    refine sw_cS_i (n := 2) X hA nw_okA hNs hE (fun u : st_I => wd_W cI cL cZ ad g q u o) [.int a2, .int (5 : Int32)] (ct_M_outside l D cI cL cZ ad g q o a2 (5 : Int32) r _ h) (List.mem_cons_of_mem _ wm_ml_M_87) (List.mem_cons_of_mem _ wm_st_M_outside) rfl (wg_in wm_code_M_outside) rfl rfl (List.mem_cons_of_mem _ wm_in_M) ⟨by decide, by decide, by decide +kernel⟩ ⟨Nat.le_of_ble_eq_true rfl, Nat.le_of_ble_eq_true rfl⟩ ⟨Nat.zero_le _, Nat.zero_le _⟩ rfl (Nat.le_of_ble_eq_true rfl) dc_M_isSaid_96 rfl (fun x96 u96 h => ?_)
    refine sw_if_ne (tgt := 106) X dc_M_isSaid_99 (by decide) (fun z => ?_) (fun z => ?_)
    · have h := h.1 z
      refine sw_iconst (v := 0) X dc_M_isSaid_106 (by decide) ?_
      refine sw_sub [] rfl ?_
      exact b107 u96 (0 : Int32) h
    · have h := h.2 z
      refine sw_iconst (v := 1) X dc_M_isSaid_102 (by decide) ?_
      refine sw_goto (tgt := 107) X dc_M_isSaid_103 (by decide) ?_
      refine sw_sub [] rfl ?_
      exact b107 u96 (1 : Int32) h
  by_cases z11 : a1 = (11 : Int32)
  · have h := h.2.2.2.2.2.2.2.2.2.2.2.1 z11
    refine sw_tableIn (tgt := 108) (off := 107) X dc_M_isSaid_1 (by rw [z11]; decide) (by rw [z11]; decide) (by rw [z11]; rfl) (by decide) ?_
    refine sw_iload_n X 1 rfl rfl dc_M_isSaid_108 ?_
    refine sw_iconst (v := 2) X dc_M_isSaid_109 (by decide) ?_
    refine sw_icmp_eq (tgt := 118) X dc_M_isSaid_110 (by decide) (fun z => ?_) (fun z => ?_)
    · have h := h.1 z
      refine sw_sub [] rfl ?_
      exact b118 r h
    · have h := h.2 z
      refine sw_iload_n X 1 rfl rfl dc_M_isSaid_113 ?_
      refine sw_iconst (v := 3) X dc_M_isSaid_114 (by decide) ?_
      refine sw_icmp_ne (tgt := 122) X dc_M_isSaid_115 (by decide) (fun z => ?_) (fun z => ?_)
      · have h := h.1 z
        refine sw_iconst (v := 0) X dc_M_isSaid_122 (by decide) ?_
        refine sw_sub [] rfl ?_
        exact b123 r (0 : Int32) h
      · have h := h.2 z
        refine sw_sub [] rfl ?_
        exact b118 r h
  have h := h.2.2.2.2.2.2.2.2.2.2.2.2 z0 z1 z2 z3 z4 z5 z6 z7 z8 z9 z10 z11
  have z0 : (a1).toInt ≠ 0 := fun e => z0 (Int32.toInt_inj.mp (e.trans (by decide)))
  have z1 : (a1).toInt ≠ 1 := fun e => z1 (Int32.toInt_inj.mp (e.trans (by decide)))
  have z2 : (a1).toInt ≠ 2 := fun e => z2 (Int32.toInt_inj.mp (e.trans (by decide)))
  have z3 : (a1).toInt ≠ 3 := fun e => z3 (Int32.toInt_inj.mp (e.trans (by decide)))
  have z4 : (a1).toInt ≠ 4 := fun e => z4 (Int32.toInt_inj.mp (e.trans (by decide)))
  have z5 : (a1).toInt ≠ 5 := fun e => z5 (Int32.toInt_inj.mp (e.trans (by decide)))
  have z6 : (a1).toInt ≠ 6 := fun e => z6 (Int32.toInt_inj.mp (e.trans (by decide)))
  have z7 : (a1).toInt ≠ 7 := fun e => z7 (Int32.toInt_inj.mp (e.trans (by decide)))
  have z8 : (a1).toInt ≠ 8 := fun e => z8 (Int32.toInt_inj.mp (e.trans (by decide)))
  have z9 : (a1).toInt ≠ 9 := fun e => z9 (Int32.toInt_inj.mp (e.trans (by decide)))
  have z10 : (a1).toInt ≠ 10 := fun e => z10 (Int32.toInt_inj.mp (e.trans (by decide)))
  have z11 : (a1).toInt ≠ 11 := fun e => z11 (Int32.toInt_inj.mp (e.trans (by decide)))
  refine sw_tableOut (tgt := 124) X dc_M_isSaid_1 (by omega) (by decide) ?_
  refine sw_sub [0] rfl ?_
  exact b124 r a1 h
def wp_M_partsOf_L56 (Q : (Int32 → st_I → Prop)) (r : st_I)  : Prop := Q (3 : Int32) r
def wp_M_partsOf_L58 (Q : (Int32 → st_I → Prop)) (r : st_I)  : Prop := Q (1 : Int32) r
def wp_M_partsOf_L77 (Q : (Int32 → st_I → Prop)) (r : st_I) (t0 : Int32) : Prop := Q t0 r
def wp_M_partsOf (a1 : Int32) (a2 : Int32) (r : st_I) (Q : (Int32 → st_I → Prop)) : Prop := (a1 = (4 : Int32) → wp_M_partsOf_L56 Q r) ∧ (a1 = (5 : Int32) → wp_M_partsOf_L56 Q r) ∧ (a1 = (6 : Int32) → wp_M_partsOf_L56 Q r) ∧ (a1 = (7 : Int32) → wp_M_partsOf_L58 Q r) ∧ (a1 = (8 : Int32) → wp_M_partsOf_L58 Q r) ∧ (a1 = (9 : Int32) → Q (13 : Int32) r) ∧ (a1 = (10 : Int32) → wp_M_parameters a2 r (fun x64 u64 => (¬ x64 = (1 : Int32) → wp_M_partsOf_L77 Q u64 (6 : Int32)) ∧ (x64 = (1 : Int32) → wp_M_partsOf_L77 Q u64 (2 : Int32)))) ∧ (a1 = (11 : Int32) → Q (6 : Int32) r) ∧ (a1 = (12 : Int32) → wp_M_partsOf_L56 Q r) ∧ (a1 = (13 : Int32) → wp_M_partsOf_L56 Q r) ∧ (¬ a1 = (4 : Int32) → ¬ a1 = (5 : Int32) → ¬ a1 = (6 : Int32) → ¬ a1 = (7 : Int32) → ¬ a1 = (8 : Int32) → ¬ a1 = (9 : Int32) → ¬ a1 = (10 : Int32) → ¬ a1 = (11 : Int32) → ¬ a1 = (12 : Int32) → ¬ a1 = (13 : Int32) → Q (0 : Int32) r)
set_option maxHeartbeats 4000000 in
set_option maxRecDepth 100000 in
theorem ct_M_partsOf (l : Launch) (D : va_G) (cI cL cZ : ClassId) (ad : Nat → Nat) (g : st_I) (q : st_L) (o : st_L) (a1 : Int32) (a2 : Int32) (r : st_I) (Q : (Int32 → st_I → Prop)) (h : wp_M_partsOf a1 a2 r Q) : ∀ sz, Met l yn_M_partsOf (Cond.code yn_M_partsOf cd_M_partsOf 2 (some .int) :: wa_A) { frames := 1, cells := 0, slots := 0, locals := 20 } (va_Pc [.int a1, .int a2] (wq_S D cl_A (wd_T cI cL cZ) nw_A (wd_W cI cL cZ ad g q r o) sz)) (va_Qi Q (fun u t => wq_E D cl_A (wd_T cI cL cZ) (va_A (wd_W cI cL cZ ad g q r o) sz) (wd_W cI cL cZ ad g q u o) t) (va_A (wd_W cI cL cZ ad g q r o) sz)) 0 0 (va_A (wd_W cI cL cZ ad g q r o) sz) := by
  refine sw_met (Qc := fun A => va_Qi Q (fun u t => wq_E D cl_A (wd_T cI cL cZ) A (wd_W cI cL cZ ad g q u o) t) A) (by decide) rfl (Nat.le_of_ble_eq_true rfl) rfl ?_
  intro p e s m args below meth c A X hA hNs hE hr hlk hnm
  have b56 : ∀ (r : st_I), wp_M_partsOf_L56 Q r → sw_J p l e { frames := 1, cells := 0, slots := 0, locals := 20 } s m args below meth c 0 0 (MQ below (va_Qi Q (fun u t => wq_E D cl_A (wd_T cI cL cZ) A (wd_W cI cL cZ ad g q u o) t) A) args s 0 0 A) D cl_A A 2 (wd_W cI cL cZ ad g q r o) 56 [] [] := by
    intro r h
    refine sw_iconst (v := 3) X dc_M_partsOf_56 (by decide) ?_
    exact sw_iret X hr hlk (u := r) rfl h dc_M_partsOf_57
  have b58 : ∀ (r : st_I), wp_M_partsOf_L58 Q r → sw_J p l e { frames := 1, cells := 0, slots := 0, locals := 20 } s m args below meth c 0 0 (MQ below (va_Qi Q (fun u t => wq_E D cl_A (wd_T cI cL cZ) A (wd_W cI cL cZ ad g q u o) t) A) args s 0 0 A) D cl_A A 2 (wd_W cI cL cZ ad g q r o) 58 [] [] := by
    intro r h
    refine sw_iconst (v := 1) X dc_M_partsOf_58 (by decide) ?_
    exact sw_iret X hr hlk (u := r) rfl h dc_M_partsOf_59
  have b77 : ∀ (r : st_I) (t0 : Int32), wp_M_partsOf_L77 Q r t0 → sw_J p l e { frames := 1, cells := 0, slots := 0, locals := 20 } s m args below meth c 0 0 (MQ below (va_Qi Q (fun u t => wq_E D cl_A (wd_T cI cL cZ) A (wd_W cI cL cZ ad g q u o) t) A) args s 0 0 A) D cl_A A 2 (wd_W cI cL cZ ad g q r o) 77 [] [.int t0] := by
    intro r t0 h
    exact sw_iret X hr hlk (u := r) rfl h dc_M_partsOf_77
  refine sw_iload_n X 0 rfl rfl dc_M_partsOf_0 ?_
  by_cases z4 : a1 = (4 : Int32)
  · have h := h.1 z4
    refine sw_tableIn (tgt := 56) (off := 55) X dc_M_partsOf_1 (by rw [z4]; decide) (by rw [z4]; decide) (by rw [z4]; rfl) (by decide) ?_
    refine sw_sub [] rfl ?_
    exact b56 r h
  by_cases z5 : a1 = (5 : Int32)
  · have h := h.2.1 z5
    refine sw_tableIn (tgt := 56) (off := 55) X dc_M_partsOf_1 (by rw [z5]; decide) (by rw [z5]; decide) (by rw [z5]; rfl) (by decide) ?_
    refine sw_sub [] rfl ?_
    exact b56 r h
  by_cases z6 : a1 = (6 : Int32)
  · have h := h.2.2.1 z6
    refine sw_tableIn (tgt := 56) (off := 55) X dc_M_partsOf_1 (by rw [z6]; decide) (by rw [z6]; decide) (by rw [z6]; rfl) (by decide) ?_
    refine sw_sub [] rfl ?_
    exact b56 r h
  by_cases z7 : a1 = (7 : Int32)
  · have h := h.2.2.2.1 z7
    refine sw_tableIn (tgt := 58) (off := 57) X dc_M_partsOf_1 (by rw [z7]; decide) (by rw [z7]; decide) (by rw [z7]; rfl) (by decide) ?_
    refine sw_sub [] rfl ?_
    exact b58 r h
  by_cases z8 : a1 = (8 : Int32)
  · have h := h.2.2.2.2.1 z8
    refine sw_tableIn (tgt := 58) (off := 57) X dc_M_partsOf_1 (by rw [z8]; decide) (by rw [z8]; decide) (by rw [z8]; rfl) (by decide) ?_
    refine sw_sub [] rfl ?_
    exact b58 r h
  by_cases z9 : a1 = (9 : Int32)
  · have h := h.2.2.2.2.2.1 z9
    refine sw_tableIn (tgt := 60) (off := 59) X dc_M_partsOf_1 (by rw [z9]; decide) (by rw [z9]; decide) (by rw [z9]; rfl) (by decide) ?_
    refine sw_bipush (v := 13) X dc_M_partsOf_60 (by decide) ?_
    exact sw_iret X hr hlk (u := r) rfl h dc_M_partsOf_62
  by_cases z10 : a1 = (10 : Int32)
  · have h := h.2.2.2.2.2.2.1 z10
    refine sw_tableIn (tgt := 63) (off := 62) X dc_M_partsOf_1 (by rw [z10]; decide) (by rw [z10]; decide) (by rw [z10]; rfl) (by decide) ?_
    refine sw_iload_n X 1 rfl rfl dc_M_partsOf_63 ?_
    refine sw_cS_i (n := 1) X hA nw_okA hNs hE (fun u : st_I => wd_W cI cL cZ ad g q u o) [.int a2] (ct_M_parameters l D cI cL cZ ad g q o a2 r _ h) (List.mem_cons_of_mem _ wm_ml_M_91) (List.mem_cons_of_mem _ wm_st_M_parameters) rfl (wg_in wm_code_M_parameters) rfl rfl (List.mem_cons_of_mem _ wm_in_M) ⟨by decide, by decide, by decide +kernel⟩ ⟨Nat.le_of_ble_eq_true rfl, Nat.le_of_ble_eq_true rfl⟩ ⟨Nat.zero_le _, Nat.zero_le _⟩ rfl (Nat.le_of_ble_eq_true rfl) dc_M_partsOf_64 rfl (fun x64 u64 h => ?_)
    refine sw_iconst (v := 1) X dc_M_partsOf_67 (by decide) ?_
    refine sw_icmp_ne (tgt := 75) X dc_M_partsOf_68 (by decide) (fun z => ?_) (fun z => ?_)
    · have h := h.1 z
      refine sw_bipush (v := 6) X dc_M_partsOf_75 (by decide) ?_
      refine sw_sub [] rfl ?_
      exact b77 u64 (6 : Int32) h
    · have h := h.2 z
      refine sw_iconst (v := 2) X dc_M_partsOf_71 (by decide) ?_
      refine sw_goto (tgt := 77) X dc_M_partsOf_72 (by decide) ?_
      refine sw_sub [] rfl ?_
      exact b77 u64 (2 : Int32) h
  by_cases z11 : a1 = (11 : Int32)
  · have h := h.2.2.2.2.2.2.2.1 z11
    refine sw_tableIn (tgt := 78) (off := 77) X dc_M_partsOf_1 (by rw [z11]; decide) (by rw [z11]; decide) (by rw [z11]; rfl) (by decide) ?_
    refine sw_bipush (v := 6) X dc_M_partsOf_78 (by decide) ?_
    exact sw_iret X hr hlk (u := r) rfl h dc_M_partsOf_80
  by_cases z12 : a1 = (12 : Int32)
  · have h := h.2.2.2.2.2.2.2.2.1 z12
    refine sw_tableIn (tgt := 56) (off := 55) X dc_M_partsOf_1 (by rw [z12]; decide) (by rw [z12]; decide) (by rw [z12]; rfl) (by decide) ?_
    refine sw_sub [] rfl ?_
    exact b56 r h
  by_cases z13 : a1 = (13 : Int32)
  · have h := h.2.2.2.2.2.2.2.2.2.1 z13
    refine sw_tableIn (tgt := 56) (off := 55) X dc_M_partsOf_1 (by rw [z13]; decide) (by rw [z13]; decide) (by rw [z13]; rfl) (by decide) ?_
    refine sw_sub [] rfl ?_
    exact b56 r h
  have h := h.2.2.2.2.2.2.2.2.2.2 z4 z5 z6 z7 z8 z9 z10 z11 z12 z13
  have z4 : (a1).toInt ≠ 4 := fun e => z4 (Int32.toInt_inj.mp (e.trans (by decide)))
  have z5 : (a1).toInt ≠ 5 := fun e => z5 (Int32.toInt_inj.mp (e.trans (by decide)))
  have z6 : (a1).toInt ≠ 6 := fun e => z6 (Int32.toInt_inj.mp (e.trans (by decide)))
  have z7 : (a1).toInt ≠ 7 := fun e => z7 (Int32.toInt_inj.mp (e.trans (by decide)))
  have z8 : (a1).toInt ≠ 8 := fun e => z8 (Int32.toInt_inj.mp (e.trans (by decide)))
  have z9 : (a1).toInt ≠ 9 := fun e => z9 (Int32.toInt_inj.mp (e.trans (by decide)))
  have z10 : (a1).toInt ≠ 10 := fun e => z10 (Int32.toInt_inj.mp (e.trans (by decide)))
  have z11 : (a1).toInt ≠ 11 := fun e => z11 (Int32.toInt_inj.mp (e.trans (by decide)))
  have z12 : (a1).toInt ≠ 12 := fun e => z12 (Int32.toInt_inj.mp (e.trans (by decide)))
  have z13 : (a1).toInt ≠ 13 := fun e => z13 (Int32.toInt_inj.mp (e.trans (by decide)))
  refine sw_tableOut (tgt := 81) X dc_M_partsOf_1 (by omega) (by decide) ?_
  refine sw_iconst (v := 0) X dc_M_partsOf_81 (by decide) ?_
  exact sw_iret X hr hlk (u := r) rfl h dc_M_partsOf_82
def wp_M_pick_L28 (Q : (Int32 → st_I → Prop)) (r : st_I) (t0 : Int32) : Prop := Q t0 r
def wp_M_pick (a1 : Int32) (a2 : Int32) (a3 : Int32) (a4 : Int32) (a5 : Int32) (r : st_I) (Q : (Int32 → st_I → Prop)) : Prop := (¬ a1 = 0 → (¬ a1 = (1 : Int32) → (¬ a1 = (2 : Int32) → wp_M_pick_L28 Q r a5) ∧ (a1 = (2 : Int32) → wp_M_pick_L28 Q r a4)) ∧ (a1 = (1 : Int32) → wp_M_pick_L28 Q r a3)) ∧ (a1 = 0 → wp_M_pick_L28 Q r a2)
set_option maxHeartbeats 4000000 in
set_option maxRecDepth 100000 in
theorem ct_M_pick (l : Launch) (D : va_G) (cI cL cZ : ClassId) (ad : Nat → Nat) (g : st_I) (q : st_L) (o : st_L) (a1 : Int32) (a2 : Int32) (a3 : Int32) (a4 : Int32) (a5 : Int32) (r : st_I) (Q : (Int32 → st_I → Prop)) (h : wp_M_pick a1 a2 a3 a4 a5 r Q) : ∀ sz, Met l yn_M_pick (Cond.code yn_M_pick cd_M_pick 5 (some .int) :: wa_A) { frames := 0, cells := 0, slots := 0, locals := 0 } (va_Pc [.int a1, .int a2, .int a3, .int a4, .int a5] (wq_S D cl_A (wd_T cI cL cZ) nw_A (wd_W cI cL cZ ad g q r o) sz)) (va_Qi Q (fun u t => wq_E D cl_A (wd_T cI cL cZ) (va_A (wd_W cI cL cZ ad g q r o) sz) (wd_W cI cL cZ ad g q u o) t) (va_A (wd_W cI cL cZ ad g q r o) sz)) 0 0 (va_A (wd_W cI cL cZ ad g q r o) sz) := by
  refine sw_met (Qc := fun A => va_Qi Q (fun u t => wq_E D cl_A (wd_T cI cL cZ) A (wd_W cI cL cZ ad g q u o) t) A) (by decide) rfl (Nat.le_of_ble_eq_true rfl) rfl ?_
  intro p e s m args below meth c A X hA hNs hE hr hlk hnm
  have b28 : ∀ (r : st_I) (t0 : Int32), wp_M_pick_L28 Q r t0 → sw_J p l e { frames := 0, cells := 0, slots := 0, locals := 0 } s m args below meth c 0 0 (MQ below (va_Qi Q (fun u t => wq_E D cl_A (wd_T cI cL cZ) A (wd_W cI cL cZ ad g q u o) t) A) args s 0 0 A) D cl_A A 5 (wd_W cI cL cZ ad g q r o) 28 [] [.int t0] := by
    intro r t0 h
    exact sw_iret X hr hlk (u := r) rfl h dc_M_pick_28
  refine sw_iload_n X 0 rfl rfl dc_M_pick_0 ?_
  refine sw_if_ne (tgt := 8) X dc_M_pick_1 (by decide) (fun z => ?_) (fun z => ?_)
  · have h := h.1 z
    refine sw_iload_n X 0 rfl rfl dc_M_pick_8 ?_
    refine sw_iconst (v := 1) X dc_M_pick_9 (by decide) ?_
    refine sw_icmp_ne (tgt := 17) X dc_M_pick_10 (by decide) (fun z => ?_) (fun z => ?_)
    · have h := h.1 z
      refine sw_iload_n X 0 rfl rfl dc_M_pick_17 ?_
      refine sw_iconst (v := 2) X dc_M_pick_18 (by decide) ?_
      refine sw_icmp_ne (tgt := 26) X dc_M_pick_19 (by decide) (fun z => ?_) (fun z => ?_)
      · have h := h.1 z
        refine sw_iload X 4 rfl dc_M_pick_26 ?_
        refine sw_sub [] rfl ?_
        exact b28 r a5 h
      · have h := h.2 z
        refine sw_iload_n X 3 rfl rfl dc_M_pick_22 ?_
        refine sw_goto (tgt := 28) X dc_M_pick_23 (by decide) ?_
        refine sw_sub [] rfl ?_
        exact b28 r a4 h
    · have h := h.2 z
      refine sw_iload_n X 2 rfl rfl dc_M_pick_13 ?_
      refine sw_goto (tgt := 28) X dc_M_pick_14 (by decide) ?_
      refine sw_sub [] rfl ?_
      exact b28 r a3 h
  · have h := h.2 z
    refine sw_iload_n X 1 rfl rfl dc_M_pick_4 ?_
    refine sw_goto (tgt := 28) X dc_M_pick_5 (by decide) ?_
    refine sw_sub [] rfl ?_
    exact b28 r a2 h
def wp_M_make_L170 (Q : (Int32 → st_I → Prop)) (r : st_I) (v1 : Int32) (v2 : Int32) (v3 : Int32) (v4 : Int32) (v5 : Int32) (v6 : Int32) (v7 : Int32) (t0 : Int32) : Prop := (t0 = 0 → vp_in (r 20 0) 90 ∧ vp_in (r 20 0) 90 ∧ vp_in (r 20 0) 90 ∧ vp_in (r 20 0) 90 ∧ vp_in (r 20 0) 90 ∧ vp_in (r 20 0) 90 ∧ vp_in (r 20 0) 90 ∧ Q (((r 20 0) + (1 : Int32)) - (1 : Int32)) (st_u (st_u (st_u (st_u (st_u (st_u (st_u (st_u (st_u r 20 35 t0) 21 ((r 20 0)).toNatClampNeg v1) 22 ((r 20 0)).toNatClampNeg v2) 23 ((r 20 0)).toNatClampNeg v3) 24 ((r 20 0)).toNatClampNeg v4) 25 ((r 20 0)).toNatClampNeg v5) 26 ((r 20 0)).toNatClampNeg v6) 27 ((r 20 0)).toNatClampNeg v7) 20 0 ((r 20 0) + (1 : Int32)))) ∧ (¬ t0 = 0 → Q (0 : Int32) (st_u r 20 35 t0))
def wp_M_make_L152 (Q : (Int32 → st_I → Prop)) (r : st_I) (v1 : Int32) (v2 : Int32) (v3 : Int32) (v4 : Int32) (v5 : Int32) (v6 : Int32) (v7 : Int32) : Prop := wp_M_make_L170 Q r v1 v2 v3 v4 v5 v6 v7 (1 : Int32)
def wp_M_make_L131 (Q : (Int32 → st_I → Prop)) (r : st_I) (v1 : Int32) (v2 : Int32) (v3 : Int32) (v4 : Int32) (v5 : Int32) (v6 : Int32) (v7 : Int32) : Prop := (¬ (r 20 35) = 0 → wp_M_make_L152 Q r v1 v2 v3 v4 v5 v6 v7) ∧ ((r 20 35) = 0 → ((5 : Int32) < v6 → wp_M_make_L152 Q r v1 v2 v3 v4 v5 v6 v7) ∧ (¬ (5 : Int32) < v6 → (v7 ≤ (60 : Int32) → (¬ (r 20 0) = (90 : Int32) → wp_M_make_L170 Q r v1 v2 v3 v4 v5 v6 v7 (0 : Int32)) ∧ ((r 20 0) = (90 : Int32) → wp_M_make_L170 Q r v1 v2 v3 v4 v5 v6 v7 (2 : Int32))) ∧ (¬ v7 ≤ (60 : Int32) → wp_M_make_L152 Q r v1 v2 v3 v4 v5 v6 v7)))
def wp_M_make_L125 (Q : (Int32 → st_I → Prop)) (H27 : st_I → Int32 → Int32 → Int32 → Int32 → Int32 → Int32 → Int32 → Int32 → Prop) (r : st_I) (v1 : Int32) (v2 : Int32) (v3 : Int32) (v4 : Int32) (v5 : Int32) (v6 : Int32) (v7 : Int32) (v8 : Int32) : Prop := H27 r v1 v2 v3 v4 v5 v6 v7 (v8 + 1)
def wp_M_make_L111 (Q : (Int32 → st_I → Prop)) (H27 : st_I → Int32 → Int32 → Int32 → Int32 → Int32 → Int32 → Int32 → Int32 → Prop) (r : st_I) (v1 : Int32) (v2 : Int32) (v3 : Int32) (v4 : Int32) (v5 : Int32) (v7 : Int32) (v8 : Int32) (v9 : Int32) (t0 : Int32) : Prop := vp_in v9 90 ∧ wp_M_make_L125 Q H27 r v1 v2 v3 v4 v5 t0 (v7 + (r 27 (v9).toNatClampNeg)) v8
def wp_M_make_L27 (Q : (Int32 → st_I → Prop)) : Nat → st_I → Int32 → Int32 → Int32 → Int32 → Int32 → Int32 → Int32 → Int32 → Prop
  | 0 => fun _ _ _ _ _ _ _ _ _ => False
  | n27 + 1 => fun r v1 v2 v3 v4 v5 v6 v7 v8 => ((4 : Int32) ≤ v8 → wp_M_make_L131 Q r v1 v2 v3 v4 v5 v6 v7) ∧ (¬ (4 : Int32) ≤ v8 → (¬ (r 20 35) = 0 → wp_M_make_L131 Q r v1 v2 v3 v4 v5 v6 v7) ∧ ((r 20 35) = 0 → wp_M_partsOf v1 v2 r (fun x42 u42 => (¬ ((x42 >>> (v8 &&& 31)) &&& (1 : Int32)) = (1 : Int32) → wp_M_make_L125 Q (wp_M_make_L27 Q n27) u42 v1 v2 v3 v4 v5 v6 v7 v8) ∧ (((x42 >>> (v8 &&& 31)) &&& (1 : Int32)) = (1 : Int32) → wp_M_pick v8 v2 v3 v4 v5 u42 (fun x62 u62 => wp_M_isPart x62 u62 (fun x70 u70 => (¬ x70 = 0 → vp_in x62 90 ∧ (((u70 26 (x62).toNatClampNeg) + (1 : Int32)) ≤ v6 → wp_M_make_L111 Q (wp_M_make_L27 Q n27) u70 v1 v2 v3 v4 v5 v7 v8 x62 v6) ∧ (¬ ((u70 26 (x62).toNatClampNeg) + (1 : Int32)) ≤ v6 → vp_in x62 90 ∧ wp_M_make_L111 Q (wp_M_make_L27 Q n27) u70 v1 v2 v3 v4 v5 v7 v8 x62 ((u70 26 (x62).toNatClampNeg) + (1 : Int32)))) ∧ (x70 = 0 → Q (0 : Int32) (st_u u70 20 35 (1 : Int32)))))))))
def wp_M_make_L15 (Q : (Int32 → st_I → Prop)) (r : st_I) (v1 : Int32) (v2 : Int32) (v3 : Int32) (v4 : Int32) (v5 : Int32) (t0 : Int32) : Prop := ∃ n27, wp_M_make_L27 Q n27 (st_u r 20 35 t0) v1 v2 v3 v4 v5 (0 : Int32) (1 : Int32) (0 : Int32)
def wp_M_make (a1 : Int32) (a2 : Int32) (a3 : Int32) (a4 : Int32) (a5 : Int32) (r : st_I) (Q : (Int32 → st_I → Prop)) : Prop := wp_M_isSaid a1 a2 a3 r (fun x4 u4 => (x4 = 0 → wp_M_make_L15 Q u4 a1 a2 a3 a4 a5 (1 : Int32)) ∧ (¬ x4 = 0 → wp_M_make_L15 Q u4 a1 a2 a3 a4 a5 (0 : Int32)))
set_option maxHeartbeats 4000000 in
set_option maxRecDepth 100000 in
theorem ct_M_make (l : Launch) (D : va_G) (cI cL cZ : ClassId) (ad : Nat → Nat) (g : st_I) (q : st_L) (o : st_L) (a1 : Int32) (a2 : Int32) (a3 : Int32) (a4 : Int32) (a5 : Int32) (r : st_I) (Q : (Int32 → st_I → Prop)) (h : wp_M_make a1 a2 a3 a4 a5 r Q) : ∀ sz, Met l yn_M_make (Cond.code yn_M_make cd_M_make 10 (some .int) :: wa_A) { frames := 2, cells := 0, slots := 0, locals := 43 } (va_Pc [.ref (ad 20), .int a1, .int a2, .int a3, .int a4, .int a5] (wq_S D cl_A (wd_T cI cL cZ) nw_A (wd_W cI cL cZ ad g q r o) sz)) (va_Qi Q (fun u t => wq_E D cl_A (wd_T cI cL cZ) (va_A (wd_W cI cL cZ ad g q r o) sz) (wd_W cI cL cZ ad g q u o) t) (va_A (wd_W cI cL cZ ad g q r o) sz)) 0 0 (va_A (wd_W cI cL cZ ad g q r o) sz) := by
  refine sw_met (Qc := fun A => va_Qi Q (fun u t => wq_E D cl_A (wd_T cI cL cZ) A (wd_W cI cL cZ ad g q u o) t) A) (by decide) rfl (Nat.le_of_ble_eq_true rfl) rfl ?_
  intro p e s m args below meth c A X hA hNs hE hr hlk hnm
  have b170 : ∀ (r : st_I) (v1 : Int32) (v2 : Int32) (v3 : Int32) (v4 : Int32) (v5 : Int32) (v6 : Int32) (v7 : Int32) (t0 : Int32), wp_M_make_L170 Q r v1 v2 v3 v4 v5 v6 v7 t0 → sw_J p l e { frames := 2, cells := 0, slots := 0, locals := 43 } s m args below meth c 0 0 (MQ below (va_Qi Q (fun u t => wq_E D cl_A (wd_T cI cL cZ) A (wd_W cI cL cZ ad g q u o) t) A) args s 0 0 A) D cl_A A 10 (wd_W cI cL cZ ad g q r o) 170 [(0, .ref (ad 20)), (1, .int v1), (2, .int v2), (3, .int v3), (4, .int v4), (5, .int v5), (6, .int v6), (7, .int v7)] [.int t0, .ref (ad 20)] := by
    intro r v1 v2 v3 v4 v5 v6 v7 t0 h
    refine sw_put (ty := .int) X (fun z hz => List.mem_cons_of_mem _ (wf_M z hz)) fy_M fo_M fn_M 20 (wd_20 cI cL cZ ad g q r o) rfl 35 (by decide) (List.mem_cons_of_mem _ wm_fl_M_80) rfl (by decide +kernel) rfl rfl (Nat.le_of_ble_eq_true rfl) (wd_W cI cL cZ ad g q (st_u r 20 35 t0) o) (ws_20_35 cI cL cZ ad g q r o t0) dc_M_make_170 ?_
    refine sw_aload_n X 0 rfl rfl dc_M_make_173 ?_
    refine sw_get (v := .int t0) X (fun z hz => List.mem_cons_of_mem _ (wf_M z hz)) 20 (wd_20 cI cL cZ ad g q (st_u r 20 35 t0) o) rfl 35 (by decide) (List.mem_cons_of_mem _ wm_fl_M_80) rfl dc_M_make_174 ?_
    refine sw_if_eq (tgt := 182) X dc_M_make_177 (by decide) (fun z => ?_) (fun z => ?_)
    · have h := h.1 z
      refine sw_aload_n X 0 rfl rfl dc_M_make_182 ?_
      refine sw_get X (fun z hz => List.mem_cons_of_mem _ (wf_M z hz)) 20 (wd_20 cI cL cZ ad g q (st_u r 20 35 t0) o) rfl 1 (by decide) (List.mem_cons_of_mem _ wm_fl_M_7) rfl dc_M_make_183 ?_
      refine sw_aload_n X 0 rfl rfl dc_M_make_186 ?_
      refine sw_get (v := .int (r 20 0)) X (fun z hz => List.mem_cons_of_mem _ (wf_M z hz)) 20 (wd_20 cI cL cZ ad g q (st_u r 20 35 t0) o) rfl 0 (by decide) (List.mem_cons_of_mem _ wm_fl_M_84) rfl dc_M_make_187 ?_
      refine sw_iload_n X 1 rfl rfl dc_M_make_190 ?_
      refine sw_iast X 21 0 (wd_21 cI cL cZ ad g q (st_u r 20 35 t0) o) rfl h.1 (wd_W cI cL cZ ad g q (st_u (st_u r 20 35 t0) 21 ((r 20 0)).toNatClampNeg v1) o) (ws_21 cI cL cZ ad g q (st_u r 20 35 t0) o ((r 20 0)).toNatClampNeg v1) dc_M_make_191 ?_
      have h := h.2
      refine sw_aload_n X 0 rfl rfl dc_M_make_192 ?_
      refine sw_get X (fun z hz => List.mem_cons_of_mem _ (wf_M z hz)) 20 (wd_20 cI cL cZ ad g q (st_u (st_u r 20 35 t0) 21 ((r 20 0)).toNatClampNeg v1) o) rfl 2 (by decide) (List.mem_cons_of_mem _ wm_fl_M_13) rfl dc_M_make_193 ?_
      refine sw_aload_n X 0 rfl rfl dc_M_make_196 ?_
      refine sw_get (v := .int (r 20 0)) X (fun z hz => List.mem_cons_of_mem _ (wf_M z hz)) 20 (wd_20 cI cL cZ ad g q (st_u (st_u r 20 35 t0) 21 ((r 20 0)).toNatClampNeg v1) o) rfl 0 (by decide) (List.mem_cons_of_mem _ wm_fl_M_84) rfl dc_M_make_197 ?_
      refine sw_iload_n X 2 rfl rfl dc_M_make_200 ?_
      refine sw_iast X 22 0 (wd_22 cI cL cZ ad g q (st_u (st_u r 20 35 t0) 21 ((r 20 0)).toNatClampNeg v1) o) rfl h.1 (wd_W cI cL cZ ad g q (st_u (st_u (st_u r 20 35 t0) 21 ((r 20 0)).toNatClampNeg v1) 22 ((r 20 0)).toNatClampNeg v2) o) (ws_22 cI cL cZ ad g q (st_u (st_u r 20 35 t0) 21 ((r 20 0)).toNatClampNeg v1) o ((r 20 0)).toNatClampNeg v2) dc_M_make_201 ?_
      have h := h.2
      refine sw_aload_n X 0 rfl rfl dc_M_make_202 ?_
      refine sw_get X (fun z hz => List.mem_cons_of_mem _ (wf_M z hz)) 20 (wd_20 cI cL cZ ad g q (st_u (st_u (st_u r 20 35 t0) 21 ((r 20 0)).toNatClampNeg v1) 22 ((r 20 0)).toNatClampNeg v2) o) rfl 3 (by decide) (List.mem_cons_of_mem _ wm_fl_M_16) rfl dc_M_make_203 ?_
      refine sw_aload_n X 0 rfl rfl dc_M_make_206 ?_
      refine sw_get (v := .int (r 20 0)) X (fun z hz => List.mem_cons_of_mem _ (wf_M z hz)) 20 (wd_20 cI cL cZ ad g q (st_u (st_u (st_u r 20 35 t0) 21 ((r 20 0)).toNatClampNeg v1) 22 ((r 20 0)).toNatClampNeg v2) o) rfl 0 (by decide) (List.mem_cons_of_mem _ wm_fl_M_84) rfl dc_M_make_207 ?_
      refine sw_iload_n X 3 rfl rfl dc_M_make_210 ?_
      refine sw_iast X 23 0 (wd_23 cI cL cZ ad g q (st_u (st_u (st_u r 20 35 t0) 21 ((r 20 0)).toNatClampNeg v1) 22 ((r 20 0)).toNatClampNeg v2) o) rfl h.1 (wd_W cI cL cZ ad g q (st_u (st_u (st_u (st_u r 20 35 t0) 21 ((r 20 0)).toNatClampNeg v1) 22 ((r 20 0)).toNatClampNeg v2) 23 ((r 20 0)).toNatClampNeg v3) o) (ws_23 cI cL cZ ad g q (st_u (st_u (st_u r 20 35 t0) 21 ((r 20 0)).toNatClampNeg v1) 22 ((r 20 0)).toNatClampNeg v2) o ((r 20 0)).toNatClampNeg v3) dc_M_make_211 ?_
      have h := h.2
      refine sw_aload_n X 0 rfl rfl dc_M_make_212 ?_
      refine sw_get X (fun z hz => List.mem_cons_of_mem _ (wf_M z hz)) 20 (wd_20 cI cL cZ ad g q (st_u (st_u (st_u (st_u r 20 35 t0) 21 ((r 20 0)).toNatClampNeg v1) 22 ((r 20 0)).toNatClampNeg v2) 23 ((r 20 0)).toNatClampNeg v3) o) rfl 4 (by decide) (List.mem_cons_of_mem _ wm_fl_M_19) rfl dc_M_make_213 ?_
      refine sw_aload_n X 0 rfl rfl dc_M_make_216 ?_
      refine sw_get (v := .int (r 20 0)) X (fun z hz => List.mem_cons_of_mem _ (wf_M z hz)) 20 (wd_20 cI cL cZ ad g q (st_u (st_u (st_u (st_u r 20 35 t0) 21 ((r 20 0)).toNatClampNeg v1) 22 ((r 20 0)).toNatClampNeg v2) 23 ((r 20 0)).toNatClampNeg v3) o) rfl 0 (by decide) (List.mem_cons_of_mem _ wm_fl_M_84) rfl dc_M_make_217 ?_
      refine sw_iload X 4 rfl dc_M_make_220 ?_
      refine sw_iast X 24 0 (wd_24 cI cL cZ ad g q (st_u (st_u (st_u (st_u r 20 35 t0) 21 ((r 20 0)).toNatClampNeg v1) 22 ((r 20 0)).toNatClampNeg v2) 23 ((r 20 0)).toNatClampNeg v3) o) rfl h.1 (wd_W cI cL cZ ad g q (st_u (st_u (st_u (st_u (st_u r 20 35 t0) 21 ((r 20 0)).toNatClampNeg v1) 22 ((r 20 0)).toNatClampNeg v2) 23 ((r 20 0)).toNatClampNeg v3) 24 ((r 20 0)).toNatClampNeg v4) o) (ws_24 cI cL cZ ad g q (st_u (st_u (st_u (st_u r 20 35 t0) 21 ((r 20 0)).toNatClampNeg v1) 22 ((r 20 0)).toNatClampNeg v2) 23 ((r 20 0)).toNatClampNeg v3) o ((r 20 0)).toNatClampNeg v4) dc_M_make_222 ?_
      have h := h.2
      refine sw_aload_n X 0 rfl rfl dc_M_make_223 ?_
      refine sw_get X (fun z hz => List.mem_cons_of_mem _ (wf_M z hz)) 20 (wd_20 cI cL cZ ad g q (st_u (st_u (st_u (st_u (st_u r 20 35 t0) 21 ((r 20 0)).toNatClampNeg v1) 22 ((r 20 0)).toNatClampNeg v2) 23 ((r 20 0)).toNatClampNeg v3) 24 ((r 20 0)).toNatClampNeg v4) o) rfl 5 (by decide) (List.mem_cons_of_mem _ wm_fl_M_22) rfl dc_M_make_224 ?_
      refine sw_aload_n X 0 rfl rfl dc_M_make_227 ?_
      refine sw_get (v := .int (r 20 0)) X (fun z hz => List.mem_cons_of_mem _ (wf_M z hz)) 20 (wd_20 cI cL cZ ad g q (st_u (st_u (st_u (st_u (st_u r 20 35 t0) 21 ((r 20 0)).toNatClampNeg v1) 22 ((r 20 0)).toNatClampNeg v2) 23 ((r 20 0)).toNatClampNeg v3) 24 ((r 20 0)).toNatClampNeg v4) o) rfl 0 (by decide) (List.mem_cons_of_mem _ wm_fl_M_84) rfl dc_M_make_228 ?_
      refine sw_iload X 5 rfl dc_M_make_231 ?_
      refine sw_iast X 25 0 (wd_25 cI cL cZ ad g q (st_u (st_u (st_u (st_u (st_u r 20 35 t0) 21 ((r 20 0)).toNatClampNeg v1) 22 ((r 20 0)).toNatClampNeg v2) 23 ((r 20 0)).toNatClampNeg v3) 24 ((r 20 0)).toNatClampNeg v4) o) rfl h.1 (wd_W cI cL cZ ad g q (st_u (st_u (st_u (st_u (st_u (st_u r 20 35 t0) 21 ((r 20 0)).toNatClampNeg v1) 22 ((r 20 0)).toNatClampNeg v2) 23 ((r 20 0)).toNatClampNeg v3) 24 ((r 20 0)).toNatClampNeg v4) 25 ((r 20 0)).toNatClampNeg v5) o) (ws_25 cI cL cZ ad g q (st_u (st_u (st_u (st_u (st_u r 20 35 t0) 21 ((r 20 0)).toNatClampNeg v1) 22 ((r 20 0)).toNatClampNeg v2) 23 ((r 20 0)).toNatClampNeg v3) 24 ((r 20 0)).toNatClampNeg v4) o ((r 20 0)).toNatClampNeg v5) dc_M_make_233 ?_
      have h := h.2
      refine sw_aload_n X 0 rfl rfl dc_M_make_234 ?_
      refine sw_get X (fun z hz => List.mem_cons_of_mem _ (wf_M z hz)) 20 (wd_20 cI cL cZ ad g q (st_u (st_u (st_u (st_u (st_u (st_u r 20 35 t0) 21 ((r 20 0)).toNatClampNeg v1) 22 ((r 20 0)).toNatClampNeg v2) 23 ((r 20 0)).toNatClampNeg v3) 24 ((r 20 0)).toNatClampNeg v4) 25 ((r 20 0)).toNatClampNeg v5) o) rfl 6 (by decide) (List.mem_cons_of_mem _ wm_fl_M_25) rfl dc_M_make_235 ?_
      refine sw_aload_n X 0 rfl rfl dc_M_make_238 ?_
      refine sw_get (v := .int (r 20 0)) X (fun z hz => List.mem_cons_of_mem _ (wf_M z hz)) 20 (wd_20 cI cL cZ ad g q (st_u (st_u (st_u (st_u (st_u (st_u r 20 35 t0) 21 ((r 20 0)).toNatClampNeg v1) 22 ((r 20 0)).toNatClampNeg v2) 23 ((r 20 0)).toNatClampNeg v3) 24 ((r 20 0)).toNatClampNeg v4) 25 ((r 20 0)).toNatClampNeg v5) o) rfl 0 (by decide) (List.mem_cons_of_mem _ wm_fl_M_84) rfl dc_M_make_239 ?_
      refine sw_iload X 6 rfl dc_M_make_242 ?_
      refine sw_iast X 26 0 (wd_26 cI cL cZ ad g q (st_u (st_u (st_u (st_u (st_u (st_u r 20 35 t0) 21 ((r 20 0)).toNatClampNeg v1) 22 ((r 20 0)).toNatClampNeg v2) 23 ((r 20 0)).toNatClampNeg v3) 24 ((r 20 0)).toNatClampNeg v4) 25 ((r 20 0)).toNatClampNeg v5) o) rfl h.1 (wd_W cI cL cZ ad g q (st_u (st_u (st_u (st_u (st_u (st_u (st_u r 20 35 t0) 21 ((r 20 0)).toNatClampNeg v1) 22 ((r 20 0)).toNatClampNeg v2) 23 ((r 20 0)).toNatClampNeg v3) 24 ((r 20 0)).toNatClampNeg v4) 25 ((r 20 0)).toNatClampNeg v5) 26 ((r 20 0)).toNatClampNeg v6) o) (ws_26 cI cL cZ ad g q (st_u (st_u (st_u (st_u (st_u (st_u r 20 35 t0) 21 ((r 20 0)).toNatClampNeg v1) 22 ((r 20 0)).toNatClampNeg v2) 23 ((r 20 0)).toNatClampNeg v3) 24 ((r 20 0)).toNatClampNeg v4) 25 ((r 20 0)).toNatClampNeg v5) o ((r 20 0)).toNatClampNeg v6) dc_M_make_244 ?_
      have h := h.2
      refine sw_aload_n X 0 rfl rfl dc_M_make_245 ?_
      refine sw_get X (fun z hz => List.mem_cons_of_mem _ (wf_M z hz)) 20 (wd_20 cI cL cZ ad g q (st_u (st_u (st_u (st_u (st_u (st_u (st_u r 20 35 t0) 21 ((r 20 0)).toNatClampNeg v1) 22 ((r 20 0)).toNatClampNeg v2) 23 ((r 20 0)).toNatClampNeg v3) 24 ((r 20 0)).toNatClampNeg v4) 25 ((r 20 0)).toNatClampNeg v5) 26 ((r 20 0)).toNatClampNeg v6) o) rfl 7 (by decide) (List.mem_cons_of_mem _ wm_fl_M_28) rfl dc_M_make_246 ?_
      refine sw_aload_n X 0 rfl rfl dc_M_make_249 ?_
      refine sw_get (v := .int (r 20 0)) X (fun z hz => List.mem_cons_of_mem _ (wf_M z hz)) 20 (wd_20 cI cL cZ ad g q (st_u (st_u (st_u (st_u (st_u (st_u (st_u r 20 35 t0) 21 ((r 20 0)).toNatClampNeg v1) 22 ((r 20 0)).toNatClampNeg v2) 23 ((r 20 0)).toNatClampNeg v3) 24 ((r 20 0)).toNatClampNeg v4) 25 ((r 20 0)).toNatClampNeg v5) 26 ((r 20 0)).toNatClampNeg v6) o) rfl 0 (by decide) (List.mem_cons_of_mem _ wm_fl_M_84) rfl dc_M_make_250 ?_
      refine sw_iload X 7 rfl dc_M_make_253 ?_
      refine sw_iast X 27 0 (wd_27 cI cL cZ ad g q (st_u (st_u (st_u (st_u (st_u (st_u (st_u r 20 35 t0) 21 ((r 20 0)).toNatClampNeg v1) 22 ((r 20 0)).toNatClampNeg v2) 23 ((r 20 0)).toNatClampNeg v3) 24 ((r 20 0)).toNatClampNeg v4) 25 ((r 20 0)).toNatClampNeg v5) 26 ((r 20 0)).toNatClampNeg v6) o) rfl h.1 (wd_W cI cL cZ ad g q (st_u (st_u (st_u (st_u (st_u (st_u (st_u (st_u r 20 35 t0) 21 ((r 20 0)).toNatClampNeg v1) 22 ((r 20 0)).toNatClampNeg v2) 23 ((r 20 0)).toNatClampNeg v3) 24 ((r 20 0)).toNatClampNeg v4) 25 ((r 20 0)).toNatClampNeg v5) 26 ((r 20 0)).toNatClampNeg v6) 27 ((r 20 0)).toNatClampNeg v7) o) (ws_27 cI cL cZ ad g q (st_u (st_u (st_u (st_u (st_u (st_u (st_u r 20 35 t0) 21 ((r 20 0)).toNatClampNeg v1) 22 ((r 20 0)).toNatClampNeg v2) 23 ((r 20 0)).toNatClampNeg v3) 24 ((r 20 0)).toNatClampNeg v4) 25 ((r 20 0)).toNatClampNeg v5) 26 ((r 20 0)).toNatClampNeg v6) o ((r 20 0)).toNatClampNeg v7) dc_M_make_255 ?_
      have h := h.2
      refine sw_aload_n X 0 rfl rfl dc_M_make_256 ?_
      refine sw_dup X dc_M_make_257 rfl ?_
      refine sw_get (v := .int (r 20 0)) X (fun z hz => List.mem_cons_of_mem _ (wf_M z hz)) 20 (wd_20 cI cL cZ ad g q (st_u (st_u (st_u (st_u (st_u (st_u (st_u (st_u r 20 35 t0) 21 ((r 20 0)).toNatClampNeg v1) 22 ((r 20 0)).toNatClampNeg v2) 23 ((r 20 0)).toNatClampNeg v3) 24 ((r 20 0)).toNatClampNeg v4) 25 ((r 20 0)).toNatClampNeg v5) 26 ((r 20 0)).toNatClampNeg v6) 27 ((r 20 0)).toNatClampNeg v7) o) rfl 0 (by decide) (List.mem_cons_of_mem _ wm_fl_M_84) rfl dc_M_make_258 ?_
      refine sw_iconst (v := 1) X dc_M_make_261 (by decide) ?_
      refine sw_iadd X dc_M_make_262 ?_
      refine sw_put (ty := .int) X (fun z hz => List.mem_cons_of_mem _ (wf_M z hz)) fy_M fo_M fn_M 20 (wd_20 cI cL cZ ad g q (st_u (st_u (st_u (st_u (st_u (st_u (st_u (st_u r 20 35 t0) 21 ((r 20 0)).toNatClampNeg v1) 22 ((r 20 0)).toNatClampNeg v2) 23 ((r 20 0)).toNatClampNeg v3) 24 ((r 20 0)).toNatClampNeg v4) 25 ((r 20 0)).toNatClampNeg v5) 26 ((r 20 0)).toNatClampNeg v6) 27 ((r 20 0)).toNatClampNeg v7) o) rfl 0 (by decide) (List.mem_cons_of_mem _ wm_fl_M_84) rfl (by decide +kernel) rfl rfl (Nat.le_of_ble_eq_true rfl) (wd_W cI cL cZ ad g q (st_u (st_u (st_u (st_u (st_u (st_u (st_u (st_u (st_u r 20 35 t0) 21 ((r 20 0)).toNatClampNeg v1) 22 ((r 20 0)).toNatClampNeg v2) 23 ((r 20 0)).toNatClampNeg v3) 24 ((r 20 0)).toNatClampNeg v4) 25 ((r 20 0)).toNatClampNeg v5) 26 ((r 20 0)).toNatClampNeg v6) 27 ((r 20 0)).toNatClampNeg v7) 20 0 ((r 20 0) + (1 : Int32))) o) (ws_20_0 cI cL cZ ad g q (st_u (st_u (st_u (st_u (st_u (st_u (st_u (st_u r 20 35 t0) 21 ((r 20 0)).toNatClampNeg v1) 22 ((r 20 0)).toNatClampNeg v2) 23 ((r 20 0)).toNatClampNeg v3) 24 ((r 20 0)).toNatClampNeg v4) 25 ((r 20 0)).toNatClampNeg v5) 26 ((r 20 0)).toNatClampNeg v6) 27 ((r 20 0)).toNatClampNeg v7) o ((r 20 0) + (1 : Int32))) dc_M_make_263 ?_
      refine sw_aload_n X 0 rfl rfl dc_M_make_266 ?_
      refine sw_get (v := .int ((r 20 0) + (1 : Int32))) X (fun z hz => List.mem_cons_of_mem _ (wf_M z hz)) 20 (wd_20 cI cL cZ ad g q (st_u (st_u (st_u (st_u (st_u (st_u (st_u (st_u (st_u r 20 35 t0) 21 ((r 20 0)).toNatClampNeg v1) 22 ((r 20 0)).toNatClampNeg v2) 23 ((r 20 0)).toNatClampNeg v3) 24 ((r 20 0)).toNatClampNeg v4) 25 ((r 20 0)).toNatClampNeg v5) 26 ((r 20 0)).toNatClampNeg v6) 27 ((r 20 0)).toNatClampNeg v7) 20 0 ((r 20 0) + (1 : Int32))) o) rfl 0 (by decide) (List.mem_cons_of_mem _ wm_fl_M_84) rfl dc_M_make_267 ?_
      refine sw_iconst (v := 1) X dc_M_make_270 (by decide) ?_
      refine sw_isub X dc_M_make_271 ?_
      exact sw_iret X hr hlk (u := (st_u (st_u (st_u (st_u (st_u (st_u (st_u (st_u (st_u r 20 35 t0) 21 ((r 20 0)).toNatClampNeg v1) 22 ((r 20 0)).toNatClampNeg v2) 23 ((r 20 0)).toNatClampNeg v3) 24 ((r 20 0)).toNatClampNeg v4) 25 ((r 20 0)).toNatClampNeg v5) 26 ((r 20 0)).toNatClampNeg v6) 27 ((r 20 0)).toNatClampNeg v7) 20 0 ((r 20 0) + (1 : Int32)))) rfl h dc_M_make_272
    · have h := h.2 z
      refine sw_iconst (v := 0) X dc_M_make_180 (by decide) ?_
      exact sw_iret X hr hlk (u := (st_u r 20 35 t0)) rfl h dc_M_make_181
  have b152 : ∀ (r : st_I) (v1 : Int32) (v2 : Int32) (v3 : Int32) (v4 : Int32) (v5 : Int32) (v6 : Int32) (v7 : Int32), wp_M_make_L152 Q r v1 v2 v3 v4 v5 v6 v7 → sw_J p l e { frames := 2, cells := 0, slots := 0, locals := 43 } s m args below meth c 0 0 (MQ below (va_Qi Q (fun u t => wq_E D cl_A (wd_T cI cL cZ) A (wd_W cI cL cZ ad g q u o) t) A) args s 0 0 A) D cl_A A 10 (wd_W cI cL cZ ad g q r o) 152 [(0, .ref (ad 20)), (1, .int v1), (2, .int v2), (3, .int v3), (4, .int v4), (5, .int v5), (6, .int v6), (7, .int v7)] [.ref (ad 20)] := by
    intro r v1 v2 v3 v4 v5 v6 v7 h
    refine sw_iconst (v := 1) X dc_M_make_152 (by decide) ?_
    refine sw_goto (tgt := 170) X dc_M_make_153 (by decide) ?_
    exact b170 r v1 v2 v3 v4 v5 v6 v7 (1 : Int32) h
  have b131 : ∀ (r : st_I) (v1 : Int32) (v2 : Int32) (v3 : Int32) (v4 : Int32) (v5 : Int32) (v6 : Int32) (v7 : Int32), wp_M_make_L131 Q r v1 v2 v3 v4 v5 v6 v7 → sw_J p l e { frames := 2, cells := 0, slots := 0, locals := 43 } s m args below meth c 0 0 (MQ below (va_Qi Q (fun u t => wq_E D cl_A (wd_T cI cL cZ) A (wd_W cI cL cZ ad g q u o) t) A) args s 0 0 A) D cl_A A 10 (wd_W cI cL cZ ad g q r o) 131 [(0, .ref (ad 20)), (1, .int v1), (2, .int v2), (3, .int v3), (4, .int v4), (5, .int v5), (6, .int v6), (7, .int v7)] [] := by
    intro r v1 v2 v3 v4 v5 v6 v7 h
    refine sw_aload_n X 0 rfl rfl dc_M_make_131 ?_
    refine sw_aload_n X 0 rfl rfl dc_M_make_132 ?_
    refine sw_get (v := .int (r 20 35)) X (fun z hz => List.mem_cons_of_mem _ (wf_M z hz)) 20 (wd_20 cI cL cZ ad g q r o) rfl 35 (by decide) (List.mem_cons_of_mem _ wm_fl_M_80) rfl dc_M_make_133 ?_
    refine sw_if_ne (tgt := 152) X dc_M_make_136 (by decide) (fun z => ?_) (fun z => ?_)
    · have h := h.1 z
      exact b152 r v1 v2 v3 v4 v5 v6 v7 h
    · have h := h.2 z
      refine sw_iload X 6 rfl dc_M_make_139 ?_
      refine sw_iconst (v := 5) X dc_M_make_141 (by decide) ?_
      refine sw_icmp_gt (tgt := 152) X dc_M_make_142 (by decide) (fun z => ?_) (fun z => ?_)
      · have h := h.1 z
        exact b152 r v1 v2 v3 v4 v5 v6 v7 h
      · have h := h.2 z
        refine sw_iload X 7 rfl dc_M_make_145 ?_
        refine sw_bipush (v := 60) X dc_M_make_147 (by decide) ?_
        refine sw_icmp_le (tgt := 156) X dc_M_make_149 (by decide) (fun z => ?_) (fun z => ?_)
        · have h := h.1 z
          refine sw_aload_n X 0 rfl rfl dc_M_make_156 ?_
          refine sw_get (v := .int (r 20 0)) X (fun z hz => List.mem_cons_of_mem _ (wf_M z hz)) 20 (wd_20 cI cL cZ ad g q r o) rfl 0 (by decide) (List.mem_cons_of_mem _ wm_fl_M_84) rfl dc_M_make_157 ?_
          refine sw_bipush (v := 90) X dc_M_make_160 (by decide) ?_
          refine sw_icmp_ne (tgt := 169) X dc_M_make_162 (by decide) (fun z => ?_) (fun z => ?_)
          · have h := h.1 z
            refine sw_iconst (v := 0) X dc_M_make_169 (by decide) ?_
            exact b170 r v1 v2 v3 v4 v5 v6 v7 (0 : Int32) h
          · have h := h.2 z
            refine sw_iconst (v := 2) X dc_M_make_165 (by decide) ?_
            refine sw_goto (tgt := 170) X dc_M_make_166 (by decide) ?_
            exact b170 r v1 v2 v3 v4 v5 v6 v7 (2 : Int32) h
        · have h := h.2 z
          exact b152 r v1 v2 v3 v4 v5 v6 v7 h
  have b125 : ∀ (H27 : st_I → Int32 → Int32 → Int32 → Int32 → Int32 → Int32 → Int32 → Int32 → Prop) (hH27 : ∀ (r : st_I) (v1 : Int32) (v2 : Int32) (v3 : Int32) (v4 : Int32) (v5 : Int32) (v6 : Int32) (v7 : Int32) (v8 : Int32), H27 r v1 v2 v3 v4 v5 v6 v7 v8 → sw_J p l e { frames := 2, cells := 0, slots := 0, locals := 43 } s m args below meth c 0 0 (MQ below (va_Qi Q (fun u t => wq_E D cl_A (wd_T cI cL cZ) A (wd_W cI cL cZ ad g q u o) t) A) args s 0 0 A) D cl_A A 10 (wd_W cI cL cZ ad g q r o) 27 [(0, .ref (ad 20)), (1, .int v1), (2, .int v2), (3, .int v3), (4, .int v4), (5, .int v5), (6, .int v6), (7, .int v7), (8, .int v8)] []) (r : st_I) (v1 : Int32) (v2 : Int32) (v3 : Int32) (v4 : Int32) (v5 : Int32) (v6 : Int32) (v7 : Int32) (v8 : Int32), wp_M_make_L125 Q H27 r v1 v2 v3 v4 v5 v6 v7 v8 → sw_J p l e { frames := 2, cells := 0, slots := 0, locals := 43 } s m args below meth c 0 0 (MQ below (va_Qi Q (fun u t => wq_E D cl_A (wd_T cI cL cZ) A (wd_W cI cL cZ ad g q u o) t) A) args s 0 0 A) D cl_A A 10 (wd_W cI cL cZ ad g q r o) 125 [(0, .ref (ad 20)), (1, .int v1), (2, .int v2), (3, .int v3), (4, .int v4), (5, .int v5), (6, .int v6), (7, .int v7), (8, .int v8)] [] := by
    intro H27 hH27 r v1 v2 v3 v4 v5 v6 v7 v8 h
    refine sw_iinc (n := 1) (v := (v8 + 1)) X 8 rfl rfl [(8, .int (v8 + 1)), (0, .ref (ad 20)), (1, .int v1), (2, .int v2), (3, .int v3), (4, .int v4), (5, .int v5), (6, .int v6), (7, .int v7)] rfl (by decide) dc_M_make_125 ?_
    refine sw_goto (tgt := 27) X dc_M_make_128 (by decide) ?_
    refine sw_sub [1, 2, 3, 4, 5, 6, 7, 8, 0] rfl ?_
    exact hH27 r v1 v2 v3 v4 v5 v6 v7 (v8 + 1) h
  have b111 : ∀ (H27 : st_I → Int32 → Int32 → Int32 → Int32 → Int32 → Int32 → Int32 → Int32 → Prop) (hH27 : ∀ (r : st_I) (v1 : Int32) (v2 : Int32) (v3 : Int32) (v4 : Int32) (v5 : Int32) (v6 : Int32) (v7 : Int32) (v8 : Int32), H27 r v1 v2 v3 v4 v5 v6 v7 v8 → sw_J p l e { frames := 2, cells := 0, slots := 0, locals := 43 } s m args below meth c 0 0 (MQ below (va_Qi Q (fun u t => wq_E D cl_A (wd_T cI cL cZ) A (wd_W cI cL cZ ad g q u o) t) A) args s 0 0 A) D cl_A A 10 (wd_W cI cL cZ ad g q r o) 27 [(0, .ref (ad 20)), (1, .int v1), (2, .int v2), (3, .int v3), (4, .int v4), (5, .int v5), (6, .int v6), (7, .int v7), (8, .int v8)] []) (r : st_I) (v1 : Int32) (v2 : Int32) (v3 : Int32) (v4 : Int32) (v5 : Int32) (v7 : Int32) (v8 : Int32) (v9 : Int32) (t0 : Int32), wp_M_make_L111 Q H27 r v1 v2 v3 v4 v5 v7 v8 v9 t0 → sw_J p l e { frames := 2, cells := 0, slots := 0, locals := 43 } s m args below meth c 0 0 (MQ below (va_Qi Q (fun u t => wq_E D cl_A (wd_T cI cL cZ) A (wd_W cI cL cZ ad g q u o) t) A) args s 0 0 A) D cl_A A 10 (wd_W cI cL cZ ad g q r o) 111 [(0, .ref (ad 20)), (1, .int v1), (2, .int v2), (3, .int v3), (4, .int v4), (5, .int v5), (7, .int v7), (8, .int v8), (9, .int v9)] [.int t0] := by
    intro H27 hH27 r v1 v2 v3 v4 v5 v7 v8 v9 t0 h
    refine sw_istore X [(6, .int t0), (0, .ref (ad 20)), (1, .int v1), (2, .int v2), (3, .int v3), (4, .int v4), (5, .int v5), (7, .int v7), (8, .int v8), (9, .int v9)] rfl (by decide) dc_M_make_111 ?_
    refine sw_iload X 7 rfl dc_M_make_113 ?_
    refine sw_aload_n X 1 rfl rfl dc_M_make_115 ?_
    refine sw_get X (fun z hz => List.mem_cons_of_mem _ (wf_M z hz)) 20 (wd_20 cI cL cZ ad g q r o) rfl 7 (by decide) (List.mem_cons_of_mem _ wm_fl_M_28) rfl dc_M_make_116 ?_
    refine sw_iload X 9 rfl dc_M_make_119 ?_
    refine sw_iald X 27 0 (wd_27 cI cL cZ ad g q r o) rfl h.1 dc_M_make_121 ?_
    have h := h.2
    refine sw_iadd X dc_M_make_122 ?_
    refine sw_istore X [(7, .int (v7 + (r 27 (v9).toNatClampNeg))), (6, .int t0), (0, .ref (ad 20)), (1, .int v1), (2, .int v2), (3, .int v3), (4, .int v4), (5, .int v5), (8, .int v8), (9, .int v9)] rfl (by decide) dc_M_make_123 ?_
    refine sw_sub [2, 3, 4, 5, 6, 7, 1, 0, 8] rfl ?_
    exact b125 H27 hH27 r v1 v2 v3 v4 v5 t0 (v7 + (r 27 (v9).toNatClampNeg)) v8 h
  have b27 : ∀ (n : Nat) (r : st_I) (v1 : Int32) (v2 : Int32) (v3 : Int32) (v4 : Int32) (v5 : Int32) (v6 : Int32) (v7 : Int32) (v8 : Int32), wp_M_make_L27 Q n r v1 v2 v3 v4 v5 v6 v7 v8 → sw_J p l e { frames := 2, cells := 0, slots := 0, locals := 43 } s m args below meth c 0 0 (MQ below (va_Qi Q (fun u t => wq_E D cl_A (wd_T cI cL cZ) A (wd_W cI cL cZ ad g q u o) t) A) args s 0 0 A) D cl_A A 10 (wd_W cI cL cZ ad g q r o) 27 [(0, .ref (ad 20)), (1, .int v1), (2, .int v2), (3, .int v3), (4, .int v4), (5, .int v5), (6, .int v6), (7, .int v7), (8, .int v8)] [] := by
    intro n27
    induction n27 with
    | zero => intro r v1 v2 v3 v4 v5 v6 v7 v8 h; exact h.elim
    | succ n27 hH27 =>
    intro r v1 v2 v3 v4 v5 v6 v7 v8 h
    refine sw_iload X 8 rfl dc_M_make_27 ?_
    refine sw_iconst (v := 4) X dc_M_make_29 (by decide) ?_
    refine sw_icmp_ge (tgt := 131) X dc_M_make_30 (by decide) (fun z => ?_) (fun z => ?_)
    · have h := h.1 z
      refine sw_sub [0, 1, 2, 3, 4, 5, 6, 7] rfl ?_
      exact b131 r v1 v2 v3 v4 v5 v6 v7 h
    · have h := h.2 z
      refine sw_aload_n X 0 rfl rfl dc_M_make_33 ?_
      refine sw_get (v := .int (r 20 35)) X (fun z hz => List.mem_cons_of_mem _ (wf_M z hz)) 20 (wd_20 cI cL cZ ad g q r o) rfl 35 (by decide) (List.mem_cons_of_mem _ wm_fl_M_80) rfl dc_M_make_34 ?_
      refine sw_if_ne (tgt := 131) X dc_M_make_37 (by decide) (fun z => ?_) (fun z => ?_)
      · have h := h.1 z
        refine sw_sub [0, 1, 2, 3, 4, 5, 6, 7] rfl ?_
        exact b131 r v1 v2 v3 v4 v5 v6 v7 h
      · have h := h.2 z
        refine sw_iload_n X 1 rfl rfl dc_M_make_40 ?_
        refine sw_iload_n X 2 rfl rfl dc_M_make_41 ?_
        refine sw_cS_i (n := 2) X hA nw_okA hNs hE (fun u : st_I => wd_W cI cL cZ ad g q u o) [.int v1, .int v2] (ct_M_partsOf l D cI cL cZ ad g q o v1 v2 r _ h) (List.mem_cons_of_mem _ wm_ml_M_99) (List.mem_cons_of_mem _ wm_st_M_partsOf) rfl (wg_in wm_code_M_partsOf) rfl rfl (List.mem_cons_of_mem _ wm_in_M) ⟨by decide, by decide, by decide +kernel⟩ ⟨Nat.le_of_ble_eq_true rfl, Nat.le_of_ble_eq_true rfl⟩ ⟨Nat.zero_le _, Nat.zero_le _⟩ rfl (Nat.le_of_ble_eq_true rfl) dc_M_make_42 rfl (fun x42 u42 h => ?_)
        refine sw_iload X 8 rfl dc_M_make_45 ?_
        refine sw_ishr X dc_M_make_47 ?_
        refine sw_iconst (v := 1) X dc_M_make_48 (by decide) ?_
        refine sw_iand X dc_M_make_49 ?_
        refine sw_iconst (v := 1) X dc_M_make_50 (by decide) ?_
        refine sw_icmp_ne (tgt := 125) X dc_M_make_51 (by decide) (fun z => ?_) (fun z => ?_)
        · have h := h.1 z
          exact b125 (wp_M_make_L27 Q n27) hH27 u42 v1 v2 v3 v4 v5 v6 v7 v8 h
        · have h := h.2 z
          refine sw_iload X 8 rfl dc_M_make_54 ?_
          refine sw_iload_n X 2 rfl rfl dc_M_make_56 ?_
          refine sw_iload_n X 3 rfl rfl dc_M_make_57 ?_
          refine sw_iload X 4 rfl dc_M_make_58 ?_
          refine sw_iload X 5 rfl dc_M_make_60 ?_
          refine sw_cS_i (n := 5) X hA nw_okA hNs hE (fun u : st_I => wd_W cI cL cZ ad g q u o) [.int v8, .int v2, .int v3, .int v4, .int v5] (ct_M_pick l D cI cL cZ ad g q o v8 v2 v3 v4 v5 u42 _ h) (List.mem_cons_of_mem _ wm_ml_M_103) (List.mem_cons_of_mem _ wm_st_M_pick) rfl (wg_in wm_code_M_pick) rfl rfl (List.mem_cons_of_mem _ wm_in_M) ⟨by decide, by decide, by decide +kernel⟩ ⟨Nat.le_of_ble_eq_true rfl, Nat.le_of_ble_eq_true rfl⟩ ⟨Nat.zero_le _, Nat.zero_le _⟩ rfl (Nat.le_of_ble_eq_true rfl) dc_M_make_62 rfl (fun x62 u62 h => ?_)
          refine sw_istore X [(9, .int x62), (0, .ref (ad 20)), (1, .int v1), (2, .int v2), (3, .int v3), (4, .int v4), (5, .int v5), (6, .int v6), (7, .int v7), (8, .int v8)] rfl (by decide) dc_M_make_65 ?_
          refine sw_aload_n X 1 rfl rfl dc_M_make_67 ?_
          refine sw_iload X 0 rfl dc_M_make_68 ?_
          refine sw_cV_i (n := 1) X hA nw_okA hNs hE (fun u : st_I => wd_W cI cL cZ ad g q u o) [.int x62] 20 (wd_20 cI cL cZ ad g q u62 o) rfl rfl (ct_M_isPart l D cI cL cZ ad g q o x62 u62 _ h) (List.mem_cons_of_mem _ wm_ml_M_107) (List.mem_cons_of_mem _ wm_im_M_isPart) (List.mem_cons_of_mem _ wm_se_M_isPart) rfl (wg_in wm_code_M_isPart) rfl rfl (List.mem_cons_of_mem _ wm_in_M) ⟨by decide, by decide, by decide +kernel⟩ ⟨Nat.le_of_ble_eq_true rfl, Nat.le_of_ble_eq_true rfl⟩ ⟨Nat.zero_le _, Nat.zero_le _⟩ rfl (Nat.le_of_ble_eq_true rfl) dc_M_make_70 rfl (fun x70 u70 h => ?_)
          refine sw_if_ne (tgt := 83) X dc_M_make_73 (by decide) (fun z => ?_) (fun z => ?_)
          · have h := h.1 z
            refine sw_aload_n X 1 rfl rfl dc_M_make_83 ?_
            refine sw_get X (fun z hz => List.mem_cons_of_mem _ (wf_M z hz)) 20 (wd_20 cI cL cZ ad g q u70 o) rfl 6 (by decide) (List.mem_cons_of_mem _ wm_fl_M_25) rfl dc_M_make_84 ?_
            refine sw_iload X 0 rfl dc_M_make_87 ?_
            refine sw_iald X 26 0 (wd_26 cI cL cZ ad g q u70 o) rfl h.1 dc_M_make_89 ?_
            have h := h.2
            refine sw_iconst (v := 1) X dc_M_make_90 (by decide) ?_
            refine sw_iadd X dc_M_make_91 ?_
            refine sw_iload X 7 rfl dc_M_make_92 ?_
            refine sw_icmp_le (tgt := 109) X dc_M_make_94 (by decide) (fun z => ?_) (fun z => ?_)
            · have h := h.1 z
              refine sw_iload X 7 rfl dc_M_make_109 ?_
              refine sw_sub [1, 2, 3, 4, 5, 6, 8, 9, 0] rfl ?_
              exact b111 (wp_M_make_L27 Q n27) hH27 u70 v1 v2 v3 v4 v5 v7 v8 x62 v6 h
            · have h := h.2 z
              refine sw_aload_n X 1 rfl rfl dc_M_make_97 ?_
              refine sw_get X (fun z hz => List.mem_cons_of_mem _ (wf_M z hz)) 20 (wd_20 cI cL cZ ad g q u70 o) rfl 6 (by decide) (List.mem_cons_of_mem _ wm_fl_M_25) rfl dc_M_make_98 ?_
              refine sw_iload X 0 rfl dc_M_make_101 ?_
              refine sw_iald X 26 0 (wd_26 cI cL cZ ad g q u70 o) rfl h.1 dc_M_make_103 ?_
              have h := h.2
              refine sw_iconst (v := 1) X dc_M_make_104 (by decide) ?_
              refine sw_iadd X dc_M_make_105 ?_
              refine sw_goto (tgt := 111) X dc_M_make_106 (by decide) ?_
              refine sw_sub [1, 2, 3, 4, 5, 6, 8, 9, 0] rfl ?_
              exact b111 (wp_M_make_L27 Q n27) hH27 u70 v1 v2 v3 v4 v5 v7 v8 x62 ((u70 26 (x62).toNatClampNeg) + (1 : Int32)) h
          · have h := h.2 z
            refine sw_aload_n X 1 rfl rfl dc_M_make_76 ?_
            refine sw_iconst (v := 1) X dc_M_make_77 (by decide) ?_
            refine sw_put (ty := .int) X (fun z hz => List.mem_cons_of_mem _ (wf_M z hz)) fy_M fo_M fn_M 20 (wd_20 cI cL cZ ad g q u70 o) rfl 35 (by decide) (List.mem_cons_of_mem _ wm_fl_M_80) rfl (by decide +kernel) rfl rfl (Nat.le_of_ble_eq_true rfl) (wd_W cI cL cZ ad g q (st_u u70 20 35 (1 : Int32)) o) (ws_20_35 cI cL cZ ad g q u70 o (1 : Int32)) dc_M_make_78 ?_
            refine sw_iconst (v := 0) X dc_M_make_81 (by decide) ?_
            exact sw_iret X hr hlk (u := (st_u u70 20 35 (1 : Int32))) rfl h dc_M_make_82
  have b15 : ∀ (r : st_I) (v1 : Int32) (v2 : Int32) (v3 : Int32) (v4 : Int32) (v5 : Int32) (t0 : Int32), wp_M_make_L15 Q r v1 v2 v3 v4 v5 t0 → sw_J p l e { frames := 2, cells := 0, slots := 0, locals := 43 } s m args below meth c 0 0 (MQ below (va_Qi Q (fun u t => wq_E D cl_A (wd_T cI cL cZ) A (wd_W cI cL cZ ad g q u o) t) A) args s 0 0 A) D cl_A A 10 (wd_W cI cL cZ ad g q r o) 15 [(0, .ref (ad 20)), (1, .int v1), (2, .int v2), (3, .int v3), (4, .int v4), (5, .int v5)] [.int t0, .ref (ad 20)] := by
    intro r v1 v2 v3 v4 v5 t0 h
    refine sw_put (ty := .int) X (fun z hz => List.mem_cons_of_mem _ (wf_M z hz)) fy_M fo_M fn_M 20 (wd_20 cI cL cZ ad g q r o) rfl 35 (by decide) (List.mem_cons_of_mem _ wm_fl_M_80) rfl (by decide +kernel) rfl rfl (Nat.le_of_ble_eq_true rfl) (wd_W cI cL cZ ad g q (st_u r 20 35 t0) o) (ws_20_35 cI cL cZ ad g q r o t0) dc_M_make_15 ?_
    refine sw_iconst (v := 0) X dc_M_make_18 (by decide) ?_
    refine sw_istore X [(6, .int (0 : Int32)), (0, .ref (ad 20)), (1, .int v1), (2, .int v2), (3, .int v3), (4, .int v4), (5, .int v5)] rfl (by decide) dc_M_make_19 ?_
    refine sw_iconst (v := 1) X dc_M_make_21 (by decide) ?_
    refine sw_istore X [(7, .int (1 : Int32)), (6, .int (0 : Int32)), (0, .ref (ad 20)), (1, .int v1), (2, .int v2), (3, .int v3), (4, .int v4), (5, .int v5)] rfl (by decide) dc_M_make_22 ?_
    refine sw_iconst (v := 0) X dc_M_make_24 (by decide) ?_
    refine sw_istore X [(8, .int (0 : Int32)), (7, .int (1 : Int32)), (6, .int (0 : Int32)), (0, .ref (ad 20)), (1, .int v1), (2, .int v2), (3, .int v3), (4, .int v4), (5, .int v5)] rfl (by decide) dc_M_make_25 ?_
    refine sw_sub [3, 4, 5, 6, 7, 8, 2, 1, 0] rfl ?_
    obtain ⟨n27, h⟩ := h
    exact b27 n27 (st_u r 20 35 t0) v1 v2 v3 v4 v5 (0 : Int32) (1 : Int32) (0 : Int32) h
  refine sw_aload_n X 0 rfl rfl dc_M_make_0 ?_
  refine sw_iload_n X 1 rfl rfl dc_M_make_1 ?_
  refine sw_iload_n X 2 rfl rfl dc_M_make_2 ?_
  refine sw_iload_n X 3 rfl rfl dc_M_make_3 ?_
  refine sw_cS_i (n := 3) X hA nw_okA hNs hE (fun u : st_I => wd_W cI cL cZ ad g q u o) [.int a1, .int a2, .int a3] (ct_M_isSaid l D cI cL cZ ad g q o a1 a2 a3 r _ h) (List.mem_cons_of_mem _ wm_ml_M_95) (List.mem_cons_of_mem _ wm_st_M_isSaid) rfl (wg_in wm_code_M_isSaid) rfl rfl (List.mem_cons_of_mem _ wm_in_M) ⟨by decide, by decide, by decide +kernel⟩ ⟨Nat.le_of_ble_eq_true rfl, Nat.le_of_ble_eq_true rfl⟩ ⟨Nat.zero_le _, Nat.zero_le _⟩ rfl (Nat.le_of_ble_eq_true rfl) dc_M_make_4 rfl (fun x4 u4 h => ?_)
  refine sw_if_eq (tgt := 14) X dc_M_make_7 (by decide) (fun z => ?_) (fun z => ?_)
  · have h := h.1 z
    refine sw_iconst (v := 1) X dc_M_make_14 (by decide) ?_
    exact b15 u4 a1 a2 a3 a4 a5 (1 : Int32) h
  · have h := h.2 z
    refine sw_iconst (v := 0) X dc_M_make_10 (by decide) ?_
    refine sw_goto (tgt := 15) X dc_M_make_11 (by decide) ?_
    exact b15 u4 a1 a2 a3 a4 a5 (0 : Int32) h
def wp_M_define_L70 (Q : (Int32 → st_I → Prop)) (H46 : st_I → Int32 → Int32 → Prop) (r : st_I) (v4 : Int32) (t0 : Int32) : Prop := H46 r t0 (v4 + 1)
def wp_M_define_L46 (Q : (Int32 → st_I → Prop)) : Nat → st_I → Int32 → Int32 → Prop
  | 0 => fun _ _ _ => False
  | n46 + 1 => fun r v3 v4 => ((6 : Int32) ≤ v4 → Q v3 r) ∧ (¬ (6 : Int32) ≤ v4 → vp_in v4 6 ∧ ((r 28 (v4).toNatClampNeg) < 0 → wp_M_define_L70 Q (wp_M_define_L46 Q n46) r v4 v3) ∧ (¬ (r 28 (v4).toNatClampNeg) < 0 → wp_M_define_L70 Q (wp_M_define_L46 Q n46) r v4 (v3 + (1 : Int32))))
def wp_M_define_L22 (Q : (Int32 → st_I → Prop)) (r : st_I) (v1 : Int32) (v2 : Int32) (t0 : Int32) : Prop := (t0 = 0 → vp_in v1 6 ∧ ∃ n46, wp_M_define_L46 Q n46 (st_u (st_u r 20 35 t0) 28 (v1).toNatClampNeg v2) (0 : Int32) (0 : Int32)) ∧ (¬ t0 = 0 → Q (0 : Int32) (st_u r 20 35 t0))
def wp_M_define_L17 (Q : (Int32 → st_I → Prop)) (r : st_I) (v1 : Int32) (v2 : Int32) : Prop := wp_M_define_L22 Q r v1 v2 (1 : Int32)
def wp_M_define (a1 : Int32) (a2 : Int32) (r : st_I) (Q : (Int32 → st_I → Prop)) : Prop := wp_M_outside a1 (5 : Int32) r (fun x3 u3 => (¬ x3 = 0 → wp_M_define_L17 Q u3 a1 a2) ∧ (x3 = 0 → wp_M_isPart a2 u3 (fun x11 u11 => (¬ x11 = 0 → wp_M_define_L22 Q u11 a1 a2 (0 : Int32)) ∧ (x11 = 0 → wp_M_define_L17 Q u11 a1 a2))))
set_option maxHeartbeats 4000000 in
set_option maxRecDepth 100000 in
theorem ct_M_define (l : Launch) (D : va_G) (cI cL cZ : ClassId) (ad : Nat → Nat) (g : st_I) (q : st_L) (o : st_L) (a1 : Int32) (a2 : Int32) (r : st_I) (Q : (Int32 → st_I → Prop)) (h : wp_M_define a1 a2 r Q) : ∀ sz, Met l yn_M_define (Cond.code yn_M_define cd_M_define 5 (some .int) :: wa_A) { frames := 1, cells := 0, slots := 0, locals := 21 } (va_Pc [.ref (ad 20), .int a1, .int a2] (wq_S D cl_A (wd_T cI cL cZ) nw_A (wd_W cI cL cZ ad g q r o) sz)) (va_Qi Q (fun u t => wq_E D cl_A (wd_T cI cL cZ) (va_A (wd_W cI cL cZ ad g q r o) sz) (wd_W cI cL cZ ad g q u o) t) (va_A (wd_W cI cL cZ ad g q r o) sz)) 0 0 (va_A (wd_W cI cL cZ ad g q r o) sz) := by
  refine sw_met (Qc := fun A => va_Qi Q (fun u t => wq_E D cl_A (wd_T cI cL cZ) A (wd_W cI cL cZ ad g q u o) t) A) (by decide) rfl (Nat.le_of_ble_eq_true rfl) rfl ?_
  intro p e s m args below meth c A X hA hNs hE hr hlk hnm
  have b70 : ∀ (H46 : st_I → Int32 → Int32 → Prop) (hH46 : ∀ (r : st_I) (v3 : Int32) (v4 : Int32), H46 r v3 v4 → sw_J p l e { frames := 1, cells := 0, slots := 0, locals := 21 } s m args below meth c 0 0 (MQ below (va_Qi Q (fun u t => wq_E D cl_A (wd_T cI cL cZ) A (wd_W cI cL cZ ad g q u o) t) A) args s 0 0 A) D cl_A A 5 (wd_W cI cL cZ ad g q r o) 46 [(0, .ref (ad 20)), (3, .int v3), (4, .int v4)] []) (r : st_I) (v4 : Int32) (t0 : Int32), wp_M_define_L70 Q H46 r v4 t0 → sw_J p l e { frames := 1, cells := 0, slots := 0, locals := 21 } s m args below meth c 0 0 (MQ below (va_Qi Q (fun u t => wq_E D cl_A (wd_T cI cL cZ) A (wd_W cI cL cZ ad g q u o) t) A) args s 0 0 A) D cl_A A 5 (wd_W cI cL cZ ad g q r o) 70 [(0, .ref (ad 20)), (4, .int v4)] [.int t0] := by
    intro H46 hH46 r v4 t0 h
    refine sw_istore_n X [(3, .int t0), (0, .ref (ad 20)), (4, .int v4)] rfl (by decide) rfl dc_M_define_70 ?_
    refine sw_iinc (n := 1) (v := (v4 + 1)) X 2 rfl rfl [(4, .int (v4 + 1)), (3, .int t0), (0, .ref (ad 20))] rfl (by decide) dc_M_define_71 ?_
    refine sw_goto (tgt := 46) X dc_M_define_74 (by decide) ?_
    refine sw_sub [2, 1, 0] rfl ?_
    exact hH46 r t0 (v4 + 1) h
  have b46 : ∀ (n : Nat) (r : st_I) (v3 : Int32) (v4 : Int32), wp_M_define_L46 Q n r v3 v4 → sw_J p l e { frames := 1, cells := 0, slots := 0, locals := 21 } s m args below meth c 0 0 (MQ below (va_Qi Q (fun u t => wq_E D cl_A (wd_T cI cL cZ) A (wd_W cI cL cZ ad g q u o) t) A) args s 0 0 A) D cl_A A 5 (wd_W cI cL cZ ad g q r o) 46 [(0, .ref (ad 20)), (3, .int v3), (4, .int v4)] [] := by
    intro n46
    induction n46 with
    | zero => intro r v3 v4 h; exact h.elim
    | succ n46 hH46 =>
    intro r v3 v4 h
    refine sw_iload X 2 rfl dc_M_define_46 ?_
    refine sw_bipush (v := 6) X dc_M_define_48 (by decide) ?_
    refine sw_icmp_ge (tgt := 77) X dc_M_define_50 (by decide) (fun z => ?_) (fun z => ?_)
    · have h := h.1 z
      refine sw_iload_n X 1 rfl rfl dc_M_define_77 ?_
      exact sw_iret X hr hlk (u := r) rfl h dc_M_define_78
    · have h := h.2 z
      refine sw_aload_n X 0 rfl rfl dc_M_define_53 ?_
      refine sw_get X (fun z hz => List.mem_cons_of_mem _ (wf_M z hz)) 20 (wd_20 cI cL cZ ad g q r o) rfl 8 (by decide) (List.mem_cons_of_mem _ wm_fl_M_31) rfl dc_M_define_54 ?_
      refine sw_iload X 2 rfl dc_M_define_57 ?_
      refine sw_iald X 28 0 (wd_28 cI cL cZ ad g q r o) rfl h.1 dc_M_define_59 ?_
      have h := h.2
      refine sw_if_lt (tgt := 69) X dc_M_define_60 (by decide) (fun z => ?_) (fun z => ?_)
      · have h := h.1 z
        refine sw_iload_n X 1 rfl rfl dc_M_define_69 ?_
        refine sw_sub [0, 2] rfl ?_
        exact b70 (wp_M_define_L46 Q n46) hH46 r v4 v3 h
      · have h := h.2 z
        refine sw_iload_n X 1 rfl rfl dc_M_define_63 ?_
        refine sw_iconst (v := 1) X dc_M_define_64 (by decide) ?_
        refine sw_iadd X dc_M_define_65 ?_
        refine sw_goto (tgt := 70) X dc_M_define_66 (by decide) ?_
        refine sw_sub [0, 2] rfl ?_
        exact b70 (wp_M_define_L46 Q n46) hH46 r v4 (v3 + (1 : Int32)) h
  have b22 : ∀ (r : st_I) (v1 : Int32) (v2 : Int32) (t0 : Int32), wp_M_define_L22 Q r v1 v2 t0 → sw_J p l e { frames := 1, cells := 0, slots := 0, locals := 21 } s m args below meth c 0 0 (MQ below (va_Qi Q (fun u t => wq_E D cl_A (wd_T cI cL cZ) A (wd_W cI cL cZ ad g q u o) t) A) args s 0 0 A) D cl_A A 5 (wd_W cI cL cZ ad g q r o) 22 [(0, .ref (ad 20)), (1, .int v1), (2, .int v2)] [.int t0, .ref (ad 20)] := by
    intro r v1 v2 t0 h
    refine sw_put (ty := .int) X (fun z hz => List.mem_cons_of_mem _ (wf_M z hz)) fy_M fo_M fn_M 20 (wd_20 cI cL cZ ad g q r o) rfl 35 (by decide) (List.mem_cons_of_mem _ wm_fl_M_80) rfl (by decide +kernel) rfl rfl (Nat.le_of_ble_eq_true rfl) (wd_W cI cL cZ ad g q (st_u r 20 35 t0) o) (ws_20_35 cI cL cZ ad g q r o t0) dc_M_define_22 ?_
    refine sw_aload_n X 0 rfl rfl dc_M_define_25 ?_
    refine sw_get (v := .int t0) X (fun z hz => List.mem_cons_of_mem _ (wf_M z hz)) 20 (wd_20 cI cL cZ ad g q (st_u r 20 35 t0) o) rfl 35 (by decide) (List.mem_cons_of_mem _ wm_fl_M_80) rfl dc_M_define_26 ?_
    refine sw_if_eq (tgt := 34) X dc_M_define_29 (by decide) (fun z => ?_) (fun z => ?_)
    · have h := h.1 z
      refine sw_aload_n X 0 rfl rfl dc_M_define_34 ?_
      refine sw_get X (fun z hz => List.mem_cons_of_mem _ (wf_M z hz)) 20 (wd_20 cI cL cZ ad g q (st_u r 20 35 t0) o) rfl 8 (by decide) (List.mem_cons_of_mem _ wm_fl_M_31) rfl dc_M_define_35 ?_
      refine sw_iload_n X 1 rfl rfl dc_M_define_38 ?_
      refine sw_iload_n X 2 rfl rfl dc_M_define_39 ?_
      refine sw_iast X 28 0 (wd_28 cI cL cZ ad g q (st_u r 20 35 t0) o) rfl h.1 (wd_W cI cL cZ ad g q (st_u (st_u r 20 35 t0) 28 (v1).toNatClampNeg v2) o) (ws_28 cI cL cZ ad g q (st_u r 20 35 t0) o (v1).toNatClampNeg v2) dc_M_define_40 ?_
      have h := h.2
      refine sw_iconst (v := 0) X dc_M_define_41 (by decide) ?_
      refine sw_istore_n X [(3, .int (0 : Int32)), (0, .ref (ad 20)), (1, .int v1), (2, .int v2)] rfl (by decide) rfl dc_M_define_42 ?_
      refine sw_iconst (v := 0) X dc_M_define_43 (by decide) ?_
      refine sw_istore X [(4, .int (0 : Int32)), (3, .int (0 : Int32)), (0, .ref (ad 20)), (1, .int v1), (2, .int v2)] rfl (by decide) dc_M_define_44 ?_
      refine sw_sub [2, 1, 0] rfl ?_
      obtain ⟨n46, h⟩ := h
      exact b46 n46 (st_u (st_u r 20 35 t0) 28 (v1).toNatClampNeg v2) (0 : Int32) (0 : Int32) h
    · have h := h.2 z
      refine sw_iconst (v := 0) X dc_M_define_32 (by decide) ?_
      exact sw_iret X hr hlk (u := (st_u r 20 35 t0)) rfl h dc_M_define_33
  have b17 : ∀ (r : st_I) (v1 : Int32) (v2 : Int32), wp_M_define_L17 Q r v1 v2 → sw_J p l e { frames := 1, cells := 0, slots := 0, locals := 21 } s m args below meth c 0 0 (MQ below (va_Qi Q (fun u t => wq_E D cl_A (wd_T cI cL cZ) A (wd_W cI cL cZ ad g q u o) t) A) args s 0 0 A) D cl_A A 5 (wd_W cI cL cZ ad g q r o) 17 [(0, .ref (ad 20)), (1, .int v1), (2, .int v2)] [.ref (ad 20)] := by
    intro r v1 v2 h
    refine sw_iconst (v := 1) X dc_M_define_17 (by decide) ?_
    refine sw_goto (tgt := 22) X dc_M_define_18 (by decide) ?_
    exact b22 r v1 v2 (1 : Int32) h
  refine sw_aload_n X 0 rfl rfl dc_M_define_0 ?_
  refine sw_iload_n X 1 rfl rfl dc_M_define_1 ?_
  refine sw_iconst (v := 5) X dc_M_define_2 (by decide) ?_
  refine sw_cS_i (n := 2) X hA nw_okA hNs hE (fun u : st_I => wd_W cI cL cZ ad g q u o) [.int a1, .int (5 : Int32)] (ct_M_outside l D cI cL cZ ad g q o a1 (5 : Int32) r _ h) (List.mem_cons_of_mem _ wm_ml_M_87) (List.mem_cons_of_mem _ wm_st_M_outside) rfl (wg_in wm_code_M_outside) rfl rfl (List.mem_cons_of_mem _ wm_in_M) ⟨by decide, by decide, by decide +kernel⟩ ⟨Nat.le_of_ble_eq_true rfl, Nat.le_of_ble_eq_true rfl⟩ ⟨Nat.zero_le _, Nat.zero_le _⟩ rfl (Nat.le_of_ble_eq_true rfl) dc_M_define_3 rfl (fun x3 u3 h => ?_)
  refine sw_if_ne (tgt := 17) X dc_M_define_6 (by decide) (fun z => ?_) (fun z => ?_)
  · have h := h.1 z
    exact b17 u3 a1 a2 h
  · have h := h.2 z
    refine sw_aload_n X 0 rfl rfl dc_M_define_9 ?_
    refine sw_iload_n X 2 rfl rfl dc_M_define_10 ?_
    refine sw_cV_i (n := 1) X hA nw_okA hNs hE (fun u : st_I => wd_W cI cL cZ ad g q u o) [.int a2] 20 (wd_20 cI cL cZ ad g q u3 o) rfl rfl (ct_M_isPart l D cI cL cZ ad g q o a2 u3 _ h) (List.mem_cons_of_mem _ wm_ml_M_107) (List.mem_cons_of_mem _ wm_im_M_isPart) (List.mem_cons_of_mem _ wm_se_M_isPart) rfl (wg_in wm_code_M_isPart) rfl rfl (List.mem_cons_of_mem _ wm_in_M) ⟨by decide, by decide, by decide +kernel⟩ ⟨Nat.le_of_ble_eq_true rfl, Nat.le_of_ble_eq_true rfl⟩ ⟨Nat.zero_le _, Nat.zero_le _⟩ rfl (Nat.le_of_ble_eq_true rfl) dc_M_define_11 rfl (fun x11 u11 h => ?_)
    refine sw_if_ne (tgt := 21) X dc_M_define_14 (by decide) (fun z => ?_) (fun z => ?_)
    · have h := h.1 z
      refine sw_iconst (v := 0) X dc_M_define_21 (by decide) ?_
      exact b22 u11 a1 a2 (0 : Int32) h
    · have h := h.2 z
      exact b17 u11 a1 a2 h
def wp_M_kindOf_L18 (Q : (Int32 → st_I → Prop)) (r : st_I) (t0 : Int32) : Prop := Q t0 r
def wp_M_kindOf (a1 : Int32) (r : st_I) (Q : (Int32 → st_I → Prop)) : Prop := (0 ≤ a1 → (¬ a1 = 0 → wp_M_kindOf_L18 Q r (6 : Int32)) ∧ (a1 = 0 → wp_M_kindOf_L18 Q r (5 : Int32))) ∧ (¬ 0 ≤ a1 → wp_M_kindOf_L18 Q r (4 : Int32))
set_option maxHeartbeats 4000000 in
set_option maxRecDepth 100000 in
theorem ct_M_kindOf (l : Launch) (D : va_G) (cI cL cZ : ClassId) (ad : Nat → Nat) (g : st_I) (q : st_L) (o : st_L) (a1 : Int32) (r : st_I) (Q : (Int32 → st_I → Prop)) (h : wp_M_kindOf a1 r Q) : ∀ sz, Met l yn_M_kindOf (Cond.code yn_M_kindOf cd_M_kindOf 1 (some .int) :: wa_A) { frames := 0, cells := 0, slots := 0, locals := 0 } (va_Pc [.int a1] (wq_S D cl_A (wd_T cI cL cZ) nw_A (wd_W cI cL cZ ad g q r o) sz)) (va_Qi Q (fun u t => wq_E D cl_A (wd_T cI cL cZ) (va_A (wd_W cI cL cZ ad g q r o) sz) (wd_W cI cL cZ ad g q u o) t) (va_A (wd_W cI cL cZ ad g q r o) sz)) 0 0 (va_A (wd_W cI cL cZ ad g q r o) sz) := by
  refine sw_met (Qc := fun A => va_Qi Q (fun u t => wq_E D cl_A (wd_T cI cL cZ) A (wd_W cI cL cZ ad g q u o) t) A) (by decide) rfl (Nat.le_of_ble_eq_true rfl) rfl ?_
  intro p e s m args below meth c A X hA hNs hE hr hlk hnm
  have b18 : ∀ (r : st_I) (t0 : Int32), wp_M_kindOf_L18 Q r t0 → sw_J p l e { frames := 0, cells := 0, slots := 0, locals := 0 } s m args below meth c 0 0 (MQ below (va_Qi Q (fun u t => wq_E D cl_A (wd_T cI cL cZ) A (wd_W cI cL cZ ad g q u o) t) A) args s 0 0 A) D cl_A A 1 (wd_W cI cL cZ ad g q r o) 18 [] [.int t0] := by
    intro r t0 h
    exact sw_iret X hr hlk (u := r) rfl h dc_M_kindOf_18
  refine sw_iload_n X 0 rfl rfl dc_M_kindOf_0 ?_
  refine sw_if_ge (tgt := 8) X dc_M_kindOf_1 (by decide) (fun z => ?_) (fun z => ?_)
  · have h := h.1 z
    refine sw_iload_n X 0 rfl rfl dc_M_kindOf_8 ?_
    refine sw_if_ne (tgt := 16) X dc_M_kindOf_9 (by decide) (fun z => ?_) (fun z => ?_)
    · have h := h.1 z
      refine sw_bipush (v := 6) X dc_M_kindOf_16 (by decide) ?_
      refine sw_sub [] rfl ?_
      exact b18 r (6 : Int32) h
    · have h := h.2 z
      refine sw_iconst (v := 5) X dc_M_kindOf_12 (by decide) ?_
      refine sw_goto (tgt := 18) X dc_M_kindOf_13 (by decide) ?_
      refine sw_sub [] rfl ?_
      exact b18 r (5 : Int32) h
  · have h := h.2 z
    refine sw_iconst (v := 4) X dc_M_kindOf_4 (by decide) ?_
    refine sw_goto (tgt := 18) X dc_M_kindOf_5 (by decide) ?_
    refine sw_sub [] rfl ?_
    exact b18 r (4 : Int32) h
def wp_M_look_L68 (Q : (st_I → Prop)) (r : st_I)  : Prop := Q (st_u r 20 13 ((r 20 13) + (1 : Int32)))
def wp_M_look_L22 (Q : (st_I → Prop)) : Nat → st_I → Int32 → Prop
  | 0 => fun _ _ => False
  | n22 + 1 => fun r v2 => ((4 : Int32) ≤ v2 → wp_M_look_L68 Q r) ∧ (¬ (4 : Int32) ≤ v2 → ((r 20 13) ≤ 0 → wp_M_look_L68 Q r) ∧ (¬ (r 20 13) ≤ 0 → vp_in (((4 : Int32) * ((r 20 13) - (1 : Int32))) + v2) 256 ∧ vp_in (((4 : Int32) * (r 20 13)) + v2) 256 ∧ (wp_M_look_L22 Q n22) (st_u r 35 ((((4 : Int32) * (r 20 13)) + v2)).toNatClampNeg (r 35 ((((4 : Int32) * ((r 20 13) - (1 : Int32))) + v2)).toNatClampNeg)) (v2 + 1)))
def wp_M_look (a1 : Int32) (r : st_I) (Q : (st_I → Prop)) : Prop := vp_in (r 20 13) 64 ∧ vp_in (r 20 13) 64 ∧ ∃ n22, wp_M_look_L22 Q n22 (st_u (st_u r 33 ((r 20 13)).toNatClampNeg a1) 34 ((r 20 13)).toNatClampNeg (0 : Int32)) (0 : Int32)
set_option maxHeartbeats 4000000 in
set_option maxRecDepth 100000 in
theorem ct_M_look (l : Launch) (D : va_G) (cI cL cZ : ClassId) (ad : Nat → Nat) (g : st_I) (q : st_L) (o : st_L) (a1 : Int32) (r : st_I) (Q : (st_I → Prop)) (h : wp_M_look a1 r Q) : ∀ sz, Met l yn_M_look (Cond.code yn_M_look cd_M_look 3 none :: wa_A) { frames := 0, cells := 0, slots := 0, locals := 0 } (va_Pc [.ref (ad 20), .int a1] (wq_S D cl_A (wd_T cI cL cZ) nw_A (wd_W cI cL cZ ad g q r o) sz)) (va_Qv Q (fun u t => wq_E D cl_A (wd_T cI cL cZ) (va_A (wd_W cI cL cZ ad g q r o) sz) (wd_W cI cL cZ ad g q u o) t) (va_A (wd_W cI cL cZ ad g q r o) sz)) 0 0 (va_A (wd_W cI cL cZ ad g q r o) sz) := by
  refine sw_met (Qc := fun A => va_Qv Q (fun u t => wq_E D cl_A (wd_T cI cL cZ) A (wd_W cI cL cZ ad g q u o) t) A) (by decide) rfl (Nat.le_of_ble_eq_true rfl) rfl ?_
  intro p e s m args below meth c A X hA hNs hE hr hlk hnm
  have b68 : ∀ (r : st_I), wp_M_look_L68 Q r → sw_J p l e { frames := 0, cells := 0, slots := 0, locals := 0 } s m args below meth c 0 0 (MQ below (va_Qv Q (fun u t => wq_E D cl_A (wd_T cI cL cZ) A (wd_W cI cL cZ ad g q u o) t) A) args s 0 0 A) D cl_A A 3 (wd_W cI cL cZ ad g q r o) 68 [(0, .ref (ad 20))] [] := by
    intro r h
    refine sw_aload_n X 0 rfl rfl dc_M_look_68 ?_
    refine sw_dup X dc_M_look_69 rfl ?_
    refine sw_get (v := .int (r 20 13)) X (fun z hz => List.mem_cons_of_mem _ (wf_M z hz)) 20 (wd_20 cI cL cZ ad g q r o) rfl 13 (by decide) (List.mem_cons_of_mem _ wm_fl_M_111) rfl dc_M_look_70 ?_
    refine sw_iconst (v := 1) X dc_M_look_73 (by decide) ?_
    refine sw_iadd X dc_M_look_74 ?_
    refine sw_put (ty := .int) X (fun z hz => List.mem_cons_of_mem _ (wf_M z hz)) fy_M fo_M fn_M 20 (wd_20 cI cL cZ ad g q r o) rfl 13 (by decide) (List.mem_cons_of_mem _ wm_fl_M_111) rfl (by decide +kernel) rfl rfl (Nat.le_of_ble_eq_true rfl) (wd_W cI cL cZ ad g q (st_u r 20 13 ((r 20 13) + (1 : Int32))) o) (ws_20_13 cI cL cZ ad g q r o ((r 20 13) + (1 : Int32))) dc_M_look_75 ?_
    exact sw_vret X hr hlk (u := (st_u r 20 13 ((r 20 13) + (1 : Int32)))) rfl h dc_M_look_78
  have b22 : ∀ (n : Nat) (r : st_I) (v2 : Int32), wp_M_look_L22 Q n r v2 → sw_J p l e { frames := 0, cells := 0, slots := 0, locals := 0 } s m args below meth c 0 0 (MQ below (va_Qv Q (fun u t => wq_E D cl_A (wd_T cI cL cZ) A (wd_W cI cL cZ ad g q u o) t) A) args s 0 0 A) D cl_A A 3 (wd_W cI cL cZ ad g q r o) 22 [(0, .ref (ad 20)), (2, .int v2)] [] := by
    intro n22
    induction n22 with
    | zero => intro r v2 h; exact h.elim
    | succ n22 hH22 =>
    intro r v2 h
    refine sw_iload_n X 1 rfl rfl dc_M_look_22 ?_
    refine sw_iconst (v := 4) X dc_M_look_23 (by decide) ?_
    refine sw_icmp_ge (tgt := 68) X dc_M_look_24 (by decide) (fun z => ?_) (fun z => ?_)
    · have h := h.1 z
      refine sw_sub [0] rfl ?_
      exact b68 r h
    · have h := h.2 z
      refine sw_aload_n X 0 rfl rfl dc_M_look_27 ?_
      refine sw_get (v := .int (r 20 13)) X (fun z hz => List.mem_cons_of_mem _ (wf_M z hz)) 20 (wd_20 cI cL cZ ad g q r o) rfl 13 (by decide) (List.mem_cons_of_mem _ wm_fl_M_111) rfl dc_M_look_28 ?_
      refine sw_if_le (tgt := 68) X dc_M_look_31 (by decide) (fun z => ?_) (fun z => ?_)
      · have h := h.1 z
        refine sw_sub [0] rfl ?_
        exact b68 r h
      · have h := h.2 z
        refine sw_aload_n X 0 rfl rfl dc_M_look_34 ?_
        refine sw_get X (fun z hz => List.mem_cons_of_mem _ (wf_M z hz)) 20 (wd_20 cI cL cZ ad g q r o) rfl 16 (by decide) (List.mem_cons_of_mem _ wm_fl_M_53) rfl dc_M_look_35 ?_
        refine sw_iconst (v := 4) X dc_M_look_38 (by decide) ?_
        refine sw_aload_n X 0 rfl rfl dc_M_look_39 ?_
        refine sw_get (v := .int (r 20 13)) X (fun z hz => List.mem_cons_of_mem _ (wf_M z hz)) 20 (wd_20 cI cL cZ ad g q r o) rfl 13 (by decide) (List.mem_cons_of_mem _ wm_fl_M_111) rfl dc_M_look_40 ?_
        refine sw_imul X dc_M_look_43 ?_
        refine sw_iload_n X 1 rfl rfl dc_M_look_44 ?_
        refine sw_iadd X dc_M_look_45 ?_
        refine sw_aload_n X 0 rfl rfl dc_M_look_46 ?_
        refine sw_get X (fun z hz => List.mem_cons_of_mem _ (wf_M z hz)) 20 (wd_20 cI cL cZ ad g q r o) rfl 16 (by decide) (List.mem_cons_of_mem _ wm_fl_M_53) rfl dc_M_look_47 ?_
        refine sw_iconst (v := 4) X dc_M_look_50 (by decide) ?_
        refine sw_aload_n X 0 rfl rfl dc_M_look_51 ?_
        refine sw_get (v := .int (r 20 13)) X (fun z hz => List.mem_cons_of_mem _ (wf_M z hz)) 20 (wd_20 cI cL cZ ad g q r o) rfl 13 (by decide) (List.mem_cons_of_mem _ wm_fl_M_111) rfl dc_M_look_52 ?_
        refine sw_iconst (v := 1) X dc_M_look_55 (by decide) ?_
        refine sw_isub X dc_M_look_56 ?_
        refine sw_imul X dc_M_look_57 ?_
        refine sw_iload_n X 1 rfl rfl dc_M_look_58 ?_
        refine sw_iadd X dc_M_look_59 ?_
        refine sw_iald X 35 0 (wd_35 cI cL cZ ad g q r o) rfl h.1 dc_M_look_60 ?_
        have h := h.2
        refine sw_iast X 35 0 (wd_35 cI cL cZ ad g q r o) rfl h.1 (wd_W cI cL cZ ad g q (st_u r 35 ((((4 : Int32) * (r 20 13)) + v2)).toNatClampNeg (r 35 ((((4 : Int32) * ((r 20 13) - (1 : Int32))) + v2)).toNatClampNeg)) o) (ws_35 cI cL cZ ad g q r o ((((4 : Int32) * (r 20 13)) + v2)).toNatClampNeg (r 35 ((((4 : Int32) * ((r 20 13) - (1 : Int32))) + v2)).toNatClampNeg)) dc_M_look_61 ?_
        have h := h.2
        refine sw_iinc (n := 1) (v := (v2 + 1)) X 1 rfl rfl [(2, .int (v2 + 1)), (0, .ref (ad 20))] rfl (by decide) dc_M_look_62 ?_
        refine sw_goto (tgt := 22) X dc_M_look_65 (by decide) ?_
        refine sw_sub [1, 0] rfl ?_
        exact hH22 (st_u r 35 ((((4 : Int32) * (r 20 13)) + v2)).toNatClampNeg (r 35 ((((4 : Int32) * ((r 20 13) - (1 : Int32))) + v2)).toNatClampNeg)) (v2 + 1) h
  refine sw_aload_n X 0 rfl rfl dc_M_look_0 ?_
  refine sw_get X (fun z hz => List.mem_cons_of_mem _ (wf_M z hz)) 20 (wd_20 cI cL cZ ad g q r o) rfl 14 (by decide) (List.mem_cons_of_mem _ wm_fl_M_47) rfl dc_M_look_1 ?_
  refine sw_aload_n X 0 rfl rfl dc_M_look_4 ?_
  refine sw_get (v := .int (r 20 13)) X (fun z hz => List.mem_cons_of_mem _ (wf_M z hz)) 20 (wd_20 cI cL cZ ad g q r o) rfl 13 (by decide) (List.mem_cons_of_mem _ wm_fl_M_111) rfl dc_M_look_5 ?_
  refine sw_iload_n X 1 rfl rfl dc_M_look_8 ?_
  refine sw_iast X 33 0 (wd_33 cI cL cZ ad g q r o) rfl h.1 (wd_W cI cL cZ ad g q (st_u r 33 ((r 20 13)).toNatClampNeg a1) o) (ws_33 cI cL cZ ad g q r o ((r 20 13)).toNatClampNeg a1) dc_M_look_9 ?_
  have h := h.2
  refine sw_aload_n X 0 rfl rfl dc_M_look_10 ?_
  refine sw_get X (fun z hz => List.mem_cons_of_mem _ (wf_M z hz)) 20 (wd_20 cI cL cZ ad g q (st_u r 33 ((r 20 13)).toNatClampNeg a1) o) rfl 15 (by decide) (List.mem_cons_of_mem _ wm_fl_M_50) rfl dc_M_look_11 ?_
  refine sw_aload_n X 0 rfl rfl dc_M_look_14 ?_
  refine sw_get (v := .int (r 20 13)) X (fun z hz => List.mem_cons_of_mem _ (wf_M z hz)) 20 (wd_20 cI cL cZ ad g q (st_u r 33 ((r 20 13)).toNatClampNeg a1) o) rfl 13 (by decide) (List.mem_cons_of_mem _ wm_fl_M_111) rfl dc_M_look_15 ?_
  refine sw_iconst (v := 0) X dc_M_look_18 (by decide) ?_
  refine sw_iast X 34 0 (wd_34 cI cL cZ ad g q (st_u r 33 ((r 20 13)).toNatClampNeg a1) o) rfl h.1 (wd_W cI cL cZ ad g q (st_u (st_u r 33 ((r 20 13)).toNatClampNeg a1) 34 ((r 20 13)).toNatClampNeg (0 : Int32)) o) (ws_34 cI cL cZ ad g q (st_u r 33 ((r 20 13)).toNatClampNeg a1) o ((r 20 13)).toNatClampNeg (0 : Int32)) dc_M_look_19 ?_
  have h := h.2
  refine sw_iconst (v := 0) X dc_M_look_20 (by decide) ?_
  refine sw_istore_n X [(2, .int (0 : Int32)), (0, .ref (ad 20)), (1, .int a1)] rfl (by decide) rfl dc_M_look_21 ?_
  refine sw_sub [1, 0] rfl ?_
  obtain ⟨n22, h⟩ := h
  exact b22 n22 (st_u (st_u r 33 ((r 20 13)).toNatClampNeg a1) 34 ((r 20 13)).toNatClampNeg (0 : Int32)) (0 : Int32) h
def wp_M_sums_L95 (Q : (Int32 → st_I → Prop)) (H5 : st_I → Int32 → Int32 → Int32 → Int32 → Int32 → Prop) (H15 : st_I → Int32 → Int32 → Int32 → Int32 → Int32 → Int32 → Prop) (r : st_I) (v0 : Int32) (v1 : Int32) (v2 : Int32) (v4 : Int32) (v5 : Int32) (t0 : Int32) (t1 : Int32) : Prop := H15 r v0 v1 v2 (t1 ||| t0) v4 (v5 + 1)
def wp_M_sums_L81 (Q : (Int32 → st_I → Prop)) (H5 : st_I → Int32 → Int32 → Int32 → Int32 → Int32 → Prop) (H15 : st_I → Int32 → Int32 → Int32 → Int32 → Int32 → Int32 → Prop) (r : st_I) (v0 : Int32) (v1 : Int32) (v2 : Int32) (v3 : Int32) (v4 : Int32) (v5 : Int32) (v6 : Int32) (t0 : Int32) : Prop := (v6 = 0 → wp_M_sums_L95 Q H5 H15 r v0 v1 v2 v4 v5 (0 : Int32) v3) ∧ (¬ v6 = 0 → wp_M_sums_L95 Q H5 H15 r v0 v1 v2 v4 v5 t0 v3)
def wp_M_sums_L79 (Q : (Int32 → st_I → Prop)) (H5 : st_I → Int32 → Int32 → Int32 → Int32 → Int32 → Prop) (H15 : st_I → Int32 → Int32 → Int32 → Int32 → Int32 → Int32 → Prop) (r : st_I) (v0 : Int32) (v1 : Int32) (v2 : Int32) (v3 : Int32) (v4 : Int32) (v5 : Int32) (v6 : Int32) : Prop := wp_M_sums_L81 Q H5 H15 r v0 v1 v2 v3 v4 v5 v6 (112 : Int32)
def wp_M_sums_L47 (Q : (Int32 → st_I → Prop)) (H5 : st_I → Int32 → Int32 → Int32 → Int32 → Int32 → Prop) (H15 : st_I → Int32 → Int32 → Int32 → Int32 → Int32 → Int32 → Prop) (r : st_I) (v0 : Int32) (v1 : Int32) (v2 : Int32) (v3 : Int32) (v4 : Int32) (v5 : Int32) (t0 : Int32) : Prop := (¬ v5 = (5 : Int32) → (v2 = 0 → wp_M_sums_L79 Q H5 H15 r v0 v1 v2 v3 v4 v5 t0) ∧ (¬ v2 = 0 → (¬ v4 = (5 : Int32) → wp_M_sums_L79 Q H5 H15 r v0 v1 v2 v3 v4 v5 t0) ∧ (v4 = (5 : Int32) → wp_M_sums_L81 Q H5 H15 r v0 v1 v2 v3 v4 v5 t0 ((1 : Int32) <<< (v5 &&& 31))))) ∧ (v5 = (5 : Int32) → wp_M_sums_L81 Q H5 H15 r v0 v1 v2 v3 v4 v5 t0 ((1 : Int32) <<< (v4 &&& 31)))
def wp_M_sums_L46 (Q : (Int32 → st_I → Prop)) (H5 : st_I → Int32 → Int32 → Int32 → Int32 → Int32 → Prop) (H15 : st_I → Int32 → Int32 → Int32 → Int32 → Int32 → Int32 → Prop) (r : st_I) (v0 : Int32) (v1 : Int32) (v2 : Int32) (v3 : Int32) (v4 : Int32) (v5 : Int32) : Prop := wp_M_sums_L47 Q H5 H15 r v0 v1 v2 v3 v4 v5 (0 : Int32)
def wp_M_sums_L15 (Q : (Int32 → st_I → Prop)) (H5 : st_I → Int32 → Int32 → Int32 → Int32 → Int32 → Prop) : Nat → st_I → Int32 → Int32 → Int32 → Int32 → Int32 → Int32 → Prop
  | 0 => fun _ _ _ _ _ _ _ => False
  | n15 + 1 => fun r v0 v1 v2 v3 v4 v5 => ((7 : Int32) ≤ v5 → H5 r v0 v1 v2 v3 (v4 + 1)) ∧ (¬ (7 : Int32) ≤ v5 → (¬ ((v0 >>> (v4 &&& 31)) &&& (1 : Int32)) = (1 : Int32) → wp_M_sums_L46 Q H5 (wp_M_sums_L15 Q H5 n15) r v0 v1 v2 v3 v4 v5) ∧ (((v0 >>> (v4 &&& 31)) &&& (1 : Int32)) = (1 : Int32) → (¬ ((v1 >>> (v5 &&& 31)) &&& (1 : Int32)) = (1 : Int32) → wp_M_sums_L46 Q H5 (wp_M_sums_L15 Q H5 n15) r v0 v1 v2 v3 v4 v5) ∧ (((v1 >>> (v5 &&& 31)) &&& (1 : Int32)) = (1 : Int32) → wp_M_sums_L47 Q H5 (wp_M_sums_L15 Q H5 n15) r v0 v1 v2 v3 v4 v5 (1 : Int32))))
def wp_M_sums_L5 (Q : (Int32 → st_I → Prop)) : Nat → st_I → Int32 → Int32 → Int32 → Int32 → Int32 → Prop
  | 0 => fun _ _ _ _ _ _ => False
  | n5 + 1 => fun r v0 v1 v2 v3 v4 => ((7 : Int32) ≤ v4 → Q v3 r) ∧ (¬ (7 : Int32) ≤ v4 → ∃ n15, wp_M_sums_L15 Q (wp_M_sums_L5 Q n5) n15 r v0 v1 v2 v3 v4 (4 : Int32))
def wp_M_sums (a1 : Int32) (a2 : Int32) (a3 : Int32) (r : st_I) (Q : (Int32 → st_I → Prop)) : Prop := ∃ n5, wp_M_sums_L5 Q n5 r a1 a2 a3 (0 : Int32) (4 : Int32)
set_option maxHeartbeats 4000000 in
set_option maxRecDepth 100000 in
theorem ct_M_sums (l : Launch) (D : va_G) (cI cL cZ : ClassId) (ad : Nat → Nat) (g : st_I) (q : st_L) (o : st_L) (a1 : Int32) (a2 : Int32) (a3 : Int32) (r : st_I) (Q : (Int32 → st_I → Prop)) (h : wp_M_sums a1 a2 a3 r Q) : ∀ sz, Met l yn_M_sums (Cond.code yn_M_sums cd_M_sums 8 (some .int) :: wa_A) { frames := 0, cells := 0, slots := 0, locals := 0 } (va_Pc [.int a1, .int a2, .int a3] (wq_S D cl_A (wd_T cI cL cZ) nw_A (wd_W cI cL cZ ad g q r o) sz)) (va_Qi Q (fun u t => wq_E D cl_A (wd_T cI cL cZ) (va_A (wd_W cI cL cZ ad g q r o) sz) (wd_W cI cL cZ ad g q u o) t) (va_A (wd_W cI cL cZ ad g q r o) sz)) 0 0 (va_A (wd_W cI cL cZ ad g q r o) sz) := by
  refine sw_met (Qc := fun A => va_Qi Q (fun u t => wq_E D cl_A (wd_T cI cL cZ) A (wd_W cI cL cZ ad g q u o) t) A) (by decide) rfl (Nat.le_of_ble_eq_true rfl) rfl ?_
  intro p e s m args below meth c A X hA hNs hE hr hlk hnm
  have b95 : ∀ (H5 : st_I → Int32 → Int32 → Int32 → Int32 → Int32 → Prop) (hH5 : ∀ (r : st_I) (v0 : Int32) (v1 : Int32) (v2 : Int32) (v3 : Int32) (v4 : Int32), H5 r v0 v1 v2 v3 v4 → sw_J p l e { frames := 0, cells := 0, slots := 0, locals := 0 } s m args below meth c 0 0 (MQ below (va_Qi Q (fun u t => wq_E D cl_A (wd_T cI cL cZ) A (wd_W cI cL cZ ad g q u o) t) A) args s 0 0 A) D cl_A A 8 (wd_W cI cL cZ ad g q r o) 5 [(0, .int v0), (1, .int v1), (2, .int v2), (3, .int v3), (4, .int v4)] []) (H15 : st_I → Int32 → Int32 → Int32 → Int32 → Int32 → Int32 → Prop) (hH15 : ∀ (r : st_I) (v0 : Int32) (v1 : Int32) (v2 : Int32) (v3 : Int32) (v4 : Int32) (v5 : Int32), H15 r v0 v1 v2 v3 v4 v5 → sw_J p l e { frames := 0, cells := 0, slots := 0, locals := 0 } s m args below meth c 0 0 (MQ below (va_Qi Q (fun u t => wq_E D cl_A (wd_T cI cL cZ) A (wd_W cI cL cZ ad g q u o) t) A) args s 0 0 A) D cl_A A 8 (wd_W cI cL cZ ad g q r o) 15 [(0, .int v0), (1, .int v1), (2, .int v2), (3, .int v3), (4, .int v4), (5, .int v5)] []) (r : st_I) (v0 : Int32) (v1 : Int32) (v2 : Int32) (v4 : Int32) (v5 : Int32) (t0 : Int32) (t1 : Int32), wp_M_sums_L95 Q H5 H15 r v0 v1 v2 v4 v5 t0 t1 → sw_J p l e { frames := 0, cells := 0, slots := 0, locals := 0 } s m args below meth c 0 0 (MQ below (va_Qi Q (fun u t => wq_E D cl_A (wd_T cI cL cZ) A (wd_W cI cL cZ ad g q u o) t) A) args s 0 0 A) D cl_A A 8 (wd_W cI cL cZ ad g q r o) 95 [(0, .int v0), (1, .int v1), (2, .int v2), (4, .int v4), (5, .int v5)] [.int t0, .int t1] := by
    intro H5 hH5 H15 hH15 r v0 v1 v2 v4 v5 t0 t1 h
    refine sw_ior X dc_M_sums_95 ?_
    refine sw_istore_n X [(3, .int (t1 ||| t0)), (0, .int v0), (1, .int v1), (2, .int v2), (4, .int v4), (5, .int v5)] rfl (by decide) rfl dc_M_sums_96 ?_
    refine sw_iinc (n := 1) (v := (v5 + 1)) X 5 rfl rfl [(5, .int (v5 + 1)), (3, .int (t1 ||| t0)), (0, .int v0), (1, .int v1), (2, .int v2), (4, .int v4)] rfl (by decide) dc_M_sums_97 ?_
    refine sw_goto (tgt := 15) X dc_M_sums_100 (by decide) ?_
    refine sw_sub [2, 3, 4, 1, 5, 0] rfl ?_
    exact hH15 r v0 v1 v2 (t1 ||| t0) v4 (v5 + 1) h
  have b81 : ∀ (H5 : st_I → Int32 → Int32 → Int32 → Int32 → Int32 → Prop) (hH5 : ∀ (r : st_I) (v0 : Int32) (v1 : Int32) (v2 : Int32) (v3 : Int32) (v4 : Int32), H5 r v0 v1 v2 v3 v4 → sw_J p l e { frames := 0, cells := 0, slots := 0, locals := 0 } s m args below meth c 0 0 (MQ below (va_Qi Q (fun u t => wq_E D cl_A (wd_T cI cL cZ) A (wd_W cI cL cZ ad g q u o) t) A) args s 0 0 A) D cl_A A 8 (wd_W cI cL cZ ad g q r o) 5 [(0, .int v0), (1, .int v1), (2, .int v2), (3, .int v3), (4, .int v4)] []) (H15 : st_I → Int32 → Int32 → Int32 → Int32 → Int32 → Int32 → Prop) (hH15 : ∀ (r : st_I) (v0 : Int32) (v1 : Int32) (v2 : Int32) (v3 : Int32) (v4 : Int32) (v5 : Int32), H15 r v0 v1 v2 v3 v4 v5 → sw_J p l e { frames := 0, cells := 0, slots := 0, locals := 0 } s m args below meth c 0 0 (MQ below (va_Qi Q (fun u t => wq_E D cl_A (wd_T cI cL cZ) A (wd_W cI cL cZ ad g q u o) t) A) args s 0 0 A) D cl_A A 8 (wd_W cI cL cZ ad g q r o) 15 [(0, .int v0), (1, .int v1), (2, .int v2), (3, .int v3), (4, .int v4), (5, .int v5)] []) (r : st_I) (v0 : Int32) (v1 : Int32) (v2 : Int32) (v3 : Int32) (v4 : Int32) (v5 : Int32) (v6 : Int32) (t0 : Int32), wp_M_sums_L81 Q H5 H15 r v0 v1 v2 v3 v4 v5 v6 t0 → sw_J p l e { frames := 0, cells := 0, slots := 0, locals := 0 } s m args below meth c 0 0 (MQ below (va_Qi Q (fun u t => wq_E D cl_A (wd_T cI cL cZ) A (wd_W cI cL cZ ad g q u o) t) A) args s 0 0 A) D cl_A A 8 (wd_W cI cL cZ ad g q r o) 81 [(0, .int v0), (1, .int v1), (2, .int v2), (3, .int v3), (4, .int v4), (5, .int v5), (6, .int v6)] [.int t0] := by
    intro H5 hH5 H15 hH15 r v0 v1 v2 v3 v4 v5 v6 t0 h
    refine sw_istore X [(7, .int t0), (0, .int v0), (1, .int v1), (2, .int v2), (3, .int v3), (4, .int v4), (5, .int v5), (6, .int v6)] rfl (by decide) dc_M_sums_81 ?_
    refine sw_iload_n X 4 rfl rfl dc_M_sums_83 ?_
    refine sw_iload X 7 rfl dc_M_sums_84 ?_
    refine sw_if_eq (tgt := 94) X dc_M_sums_86 (by decide) (fun z => ?_) (fun z => ?_)
    · have h := h.1 z
      refine sw_iconst (v := 0) X dc_M_sums_94 (by decide) ?_
      refine sw_sub [1, 2, 3, 5, 6] rfl ?_
      exact b95 H5 hH5 H15 hH15 r v0 v1 v2 v4 v5 (0 : Int32) v3 h
    · have h := h.2 z
      refine sw_iload X 0 rfl dc_M_sums_89 ?_
      refine sw_goto (tgt := 95) X dc_M_sums_91 (by decide) ?_
      refine sw_sub [1, 2, 3, 5, 6] rfl ?_
      exact b95 H5 hH5 H15 hH15 r v0 v1 v2 v4 v5 t0 v3 h
  have b79 : ∀ (H5 : st_I → Int32 → Int32 → Int32 → Int32 → Int32 → Prop) (hH5 : ∀ (r : st_I) (v0 : Int32) (v1 : Int32) (v2 : Int32) (v3 : Int32) (v4 : Int32), H5 r v0 v1 v2 v3 v4 → sw_J p l e { frames := 0, cells := 0, slots := 0, locals := 0 } s m args below meth c 0 0 (MQ below (va_Qi Q (fun u t => wq_E D cl_A (wd_T cI cL cZ) A (wd_W cI cL cZ ad g q u o) t) A) args s 0 0 A) D cl_A A 8 (wd_W cI cL cZ ad g q r o) 5 [(0, .int v0), (1, .int v1), (2, .int v2), (3, .int v3), (4, .int v4)] []) (H15 : st_I → Int32 → Int32 → Int32 → Int32 → Int32 → Int32 → Prop) (hH15 : ∀ (r : st_I) (v0 : Int32) (v1 : Int32) (v2 : Int32) (v3 : Int32) (v4 : Int32) (v5 : Int32), H15 r v0 v1 v2 v3 v4 v5 → sw_J p l e { frames := 0, cells := 0, slots := 0, locals := 0 } s m args below meth c 0 0 (MQ below (va_Qi Q (fun u t => wq_E D cl_A (wd_T cI cL cZ) A (wd_W cI cL cZ ad g q u o) t) A) args s 0 0 A) D cl_A A 8 (wd_W cI cL cZ ad g q r o) 15 [(0, .int v0), (1, .int v1), (2, .int v2), (3, .int v3), (4, .int v4), (5, .int v5)] []) (r : st_I) (v0 : Int32) (v1 : Int32) (v2 : Int32) (v3 : Int32) (v4 : Int32) (v5 : Int32) (v6 : Int32), wp_M_sums_L79 Q H5 H15 r v0 v1 v2 v3 v4 v5 v6 → sw_J p l e { frames := 0, cells := 0, slots := 0, locals := 0 } s m args below meth c 0 0 (MQ below (va_Qi Q (fun u t => wq_E D cl_A (wd_T cI cL cZ) A (wd_W cI cL cZ ad g q u o) t) A) args s 0 0 A) D cl_A A 8 (wd_W cI cL cZ ad g q r o) 79 [(0, .int v0), (1, .int v1), (2, .int v2), (3, .int v3), (4, .int v4), (5, .int v5), (6, .int v6)] [] := by
    intro H5 hH5 H15 hH15 r v0 v1 v2 v3 v4 v5 v6 h
    refine sw_bipush (v := 112) X dc_M_sums_79 (by decide) ?_
    exact b81 H5 hH5 H15 hH15 r v0 v1 v2 v3 v4 v5 v6 (112 : Int32) h
  have b47 : ∀ (H5 : st_I → Int32 → Int32 → Int32 → Int32 → Int32 → Prop) (hH5 : ∀ (r : st_I) (v0 : Int32) (v1 : Int32) (v2 : Int32) (v3 : Int32) (v4 : Int32), H5 r v0 v1 v2 v3 v4 → sw_J p l e { frames := 0, cells := 0, slots := 0, locals := 0 } s m args below meth c 0 0 (MQ below (va_Qi Q (fun u t => wq_E D cl_A (wd_T cI cL cZ) A (wd_W cI cL cZ ad g q u o) t) A) args s 0 0 A) D cl_A A 8 (wd_W cI cL cZ ad g q r o) 5 [(0, .int v0), (1, .int v1), (2, .int v2), (3, .int v3), (4, .int v4)] []) (H15 : st_I → Int32 → Int32 → Int32 → Int32 → Int32 → Int32 → Prop) (hH15 : ∀ (r : st_I) (v0 : Int32) (v1 : Int32) (v2 : Int32) (v3 : Int32) (v4 : Int32) (v5 : Int32), H15 r v0 v1 v2 v3 v4 v5 → sw_J p l e { frames := 0, cells := 0, slots := 0, locals := 0 } s m args below meth c 0 0 (MQ below (va_Qi Q (fun u t => wq_E D cl_A (wd_T cI cL cZ) A (wd_W cI cL cZ ad g q u o) t) A) args s 0 0 A) D cl_A A 8 (wd_W cI cL cZ ad g q r o) 15 [(0, .int v0), (1, .int v1), (2, .int v2), (3, .int v3), (4, .int v4), (5, .int v5)] []) (r : st_I) (v0 : Int32) (v1 : Int32) (v2 : Int32) (v3 : Int32) (v4 : Int32) (v5 : Int32) (t0 : Int32), wp_M_sums_L47 Q H5 H15 r v0 v1 v2 v3 v4 v5 t0 → sw_J p l e { frames := 0, cells := 0, slots := 0, locals := 0 } s m args below meth c 0 0 (MQ below (va_Qi Q (fun u t => wq_E D cl_A (wd_T cI cL cZ) A (wd_W cI cL cZ ad g q u o) t) A) args s 0 0 A) D cl_A A 8 (wd_W cI cL cZ ad g q r o) 47 [(0, .int v0), (1, .int v1), (2, .int v2), (3, .int v3), (4, .int v4), (5, .int v5)] [.int t0] := by
    intro H5 hH5 H15 hH15 r v0 v1 v2 v3 v4 v5 t0 h
    refine sw_istore X [(6, .int t0), (0, .int v0), (1, .int v1), (2, .int v2), (3, .int v3), (4, .int v4), (5, .int v5)] rfl (by decide) dc_M_sums_47 ?_
    refine sw_iload X 6 rfl dc_M_sums_49 ?_
    refine sw_iconst (v := 5) X dc_M_sums_51 (by decide) ?_
    refine sw_icmp_ne (tgt := 62) X dc_M_sums_52 (by decide) (fun z => ?_) (fun z => ?_)
    · have h := h.1 z
      refine sw_iload_n X 3 rfl rfl dc_M_sums_62 ?_
      refine sw_if_eq (tgt := 79) X dc_M_sums_63 (by decide) (fun z => ?_) (fun z => ?_)
      · have h := h.1 z
        refine sw_sub [1, 2, 3, 4, 5, 6, 0] rfl ?_
        exact b79 H5 hH5 H15 hH15 r v0 v1 v2 v3 v4 v5 t0 h
      · have h := h.2 z
        refine sw_iload X 5 rfl dc_M_sums_66 ?_
        refine sw_iconst (v := 5) X dc_M_sums_68 (by decide) ?_
        refine sw_icmp_ne (tgt := 79) X dc_M_sums_69 (by decide) (fun z => ?_) (fun z => ?_)
        · have h := h.1 z
          refine sw_sub [1, 2, 3, 4, 5, 6, 0] rfl ?_
          exact b79 H5 hH5 H15 hH15 r v0 v1 v2 v3 v4 v5 t0 h
        · have h := h.2 z
          refine sw_iconst (v := 1) X dc_M_sums_72 (by decide) ?_
          refine sw_iload X 6 rfl dc_M_sums_73 ?_
          refine sw_ishl X dc_M_sums_75 ?_
          refine sw_goto (tgt := 81) X dc_M_sums_76 (by decide) ?_
          refine sw_sub [1, 2, 3, 4, 5, 6, 0] rfl ?_
          exact b81 H5 hH5 H15 hH15 r v0 v1 v2 v3 v4 v5 t0 ((1 : Int32) <<< (v5 &&& 31)) h
    · have h := h.2 z
      refine sw_iconst (v := 1) X dc_M_sums_55 (by decide) ?_
      refine sw_iload X 5 rfl dc_M_sums_56 ?_
      refine sw_ishl X dc_M_sums_58 ?_
      refine sw_goto (tgt := 81) X dc_M_sums_59 (by decide) ?_
      refine sw_sub [1, 2, 3, 4, 5, 6, 0] rfl ?_
      exact b81 H5 hH5 H15 hH15 r v0 v1 v2 v3 v4 v5 t0 ((1 : Int32) <<< (v4 &&& 31)) h
  have b46 : ∀ (H5 : st_I → Int32 → Int32 → Int32 → Int32 → Int32 → Prop) (hH5 : ∀ (r : st_I) (v0 : Int32) (v1 : Int32) (v2 : Int32) (v3 : Int32) (v4 : Int32), H5 r v0 v1 v2 v3 v4 → sw_J p l e { frames := 0, cells := 0, slots := 0, locals := 0 } s m args below meth c 0 0 (MQ below (va_Qi Q (fun u t => wq_E D cl_A (wd_T cI cL cZ) A (wd_W cI cL cZ ad g q u o) t) A) args s 0 0 A) D cl_A A 8 (wd_W cI cL cZ ad g q r o) 5 [(0, .int v0), (1, .int v1), (2, .int v2), (3, .int v3), (4, .int v4)] []) (H15 : st_I → Int32 → Int32 → Int32 → Int32 → Int32 → Int32 → Prop) (hH15 : ∀ (r : st_I) (v0 : Int32) (v1 : Int32) (v2 : Int32) (v3 : Int32) (v4 : Int32) (v5 : Int32), H15 r v0 v1 v2 v3 v4 v5 → sw_J p l e { frames := 0, cells := 0, slots := 0, locals := 0 } s m args below meth c 0 0 (MQ below (va_Qi Q (fun u t => wq_E D cl_A (wd_T cI cL cZ) A (wd_W cI cL cZ ad g q u o) t) A) args s 0 0 A) D cl_A A 8 (wd_W cI cL cZ ad g q r o) 15 [(0, .int v0), (1, .int v1), (2, .int v2), (3, .int v3), (4, .int v4), (5, .int v5)] []) (r : st_I) (v0 : Int32) (v1 : Int32) (v2 : Int32) (v3 : Int32) (v4 : Int32) (v5 : Int32), wp_M_sums_L46 Q H5 H15 r v0 v1 v2 v3 v4 v5 → sw_J p l e { frames := 0, cells := 0, slots := 0, locals := 0 } s m args below meth c 0 0 (MQ below (va_Qi Q (fun u t => wq_E D cl_A (wd_T cI cL cZ) A (wd_W cI cL cZ ad g q u o) t) A) args s 0 0 A) D cl_A A 8 (wd_W cI cL cZ ad g q r o) 46 [(0, .int v0), (1, .int v1), (2, .int v2), (3, .int v3), (4, .int v4), (5, .int v5)] [] := by
    intro H5 hH5 H15 hH15 r v0 v1 v2 v3 v4 v5 h
    refine sw_iconst (v := 0) X dc_M_sums_46 (by decide) ?_
    exact b47 H5 hH5 H15 hH15 r v0 v1 v2 v3 v4 v5 (0 : Int32) h
  have b15 : ∀ (H5 : st_I → Int32 → Int32 → Int32 → Int32 → Int32 → Prop) (hH5 : ∀ (r : st_I) (v0 : Int32) (v1 : Int32) (v2 : Int32) (v3 : Int32) (v4 : Int32), H5 r v0 v1 v2 v3 v4 → sw_J p l e { frames := 0, cells := 0, slots := 0, locals := 0 } s m args below meth c 0 0 (MQ below (va_Qi Q (fun u t => wq_E D cl_A (wd_T cI cL cZ) A (wd_W cI cL cZ ad g q u o) t) A) args s 0 0 A) D cl_A A 8 (wd_W cI cL cZ ad g q r o) 5 [(0, .int v0), (1, .int v1), (2, .int v2), (3, .int v3), (4, .int v4)] []) (n : Nat) (r : st_I) (v0 : Int32) (v1 : Int32) (v2 : Int32) (v3 : Int32) (v4 : Int32) (v5 : Int32), wp_M_sums_L15 Q H5 n r v0 v1 v2 v3 v4 v5 → sw_J p l e { frames := 0, cells := 0, slots := 0, locals := 0 } s m args below meth c 0 0 (MQ below (va_Qi Q (fun u t => wq_E D cl_A (wd_T cI cL cZ) A (wd_W cI cL cZ ad g q u o) t) A) args s 0 0 A) D cl_A A 8 (wd_W cI cL cZ ad g q r o) 15 [(0, .int v0), (1, .int v1), (2, .int v2), (3, .int v3), (4, .int v4), (5, .int v5)] [] := by
    intro H5 hH5 n15
    induction n15 with
    | zero => intro r v0 v1 v2 v3 v4 v5 h; exact h.elim
    | succ n15 hH15 =>
    intro r v0 v1 v2 v3 v4 v5 h
    refine sw_iload X 5 rfl dc_M_sums_15 ?_
    refine sw_bipush (v := 7) X dc_M_sums_17 (by decide) ?_
    refine sw_icmp_ge (tgt := 103) X dc_M_sums_19 (by decide) (fun z => ?_) (fun z => ?_)
    · have h := h.1 z
      refine sw_iinc (n := 1) (v := (v4 + 1)) X 4 rfl rfl [(4, .int (v4 + 1)), (0, .int v0), (1, .int v1), (2, .int v2), (3, .int v3), (5, .int v5)] rfl (by decide) dc_M_sums_103 ?_
      refine sw_goto (tgt := 5) X dc_M_sums_106 (by decide) ?_
      refine sw_sub [1, 2, 3, 4, 0] rfl ?_
      exact hH5 r v0 v1 v2 v3 (v4 + 1) h
    · have h := h.2 z
      refine sw_iload_n X 0 rfl rfl dc_M_sums_22 ?_
      refine sw_iload X 4 rfl dc_M_sums_23 ?_
      refine sw_ishr X dc_M_sums_25 ?_
      refine sw_iconst (v := 1) X dc_M_sums_26 (by decide) ?_
      refine sw_iand X dc_M_sums_27 ?_
      refine sw_iconst (v := 1) X dc_M_sums_28 (by decide) ?_
      refine sw_icmp_ne (tgt := 46) X dc_M_sums_29 (by decide) (fun z => ?_) (fun z => ?_)
      · have h := h.1 z
        exact b46 H5 hH5 (wp_M_sums_L15 Q H5 n15) hH15 r v0 v1 v2 v3 v4 v5 h
      · have h := h.2 z
        refine sw_iload_n X 1 rfl rfl dc_M_sums_32 ?_
        refine sw_iload X 5 rfl dc_M_sums_33 ?_
        refine sw_ishr X dc_M_sums_35 ?_
        refine sw_iconst (v := 1) X dc_M_sums_36 (by decide) ?_
        refine sw_iand X dc_M_sums_37 ?_
        refine sw_iconst (v := 1) X dc_M_sums_38 (by decide) ?_
        refine sw_icmp_ne (tgt := 46) X dc_M_sums_39 (by decide) (fun z => ?_) (fun z => ?_)
        · have h := h.1 z
          exact b46 H5 hH5 (wp_M_sums_L15 Q H5 n15) hH15 r v0 v1 v2 v3 v4 v5 h
        · have h := h.2 z
          refine sw_iconst (v := 1) X dc_M_sums_42 (by decide) ?_
          refine sw_goto (tgt := 47) X dc_M_sums_43 (by decide) ?_
          exact b47 H5 hH5 (wp_M_sums_L15 Q H5 n15) hH15 r v0 v1 v2 v3 v4 v5 (1 : Int32) h
  have b5 : ∀ (n : Nat) (r : st_I) (v0 : Int32) (v1 : Int32) (v2 : Int32) (v3 : Int32) (v4 : Int32), wp_M_sums_L5 Q n r v0 v1 v2 v3 v4 → sw_J p l e { frames := 0, cells := 0, slots := 0, locals := 0 } s m args below meth c 0 0 (MQ below (va_Qi Q (fun u t => wq_E D cl_A (wd_T cI cL cZ) A (wd_W cI cL cZ ad g q u o) t) A) args s 0 0 A) D cl_A A 8 (wd_W cI cL cZ ad g q r o) 5 [(0, .int v0), (1, .int v1), (2, .int v2), (3, .int v3), (4, .int v4)] [] := by
    intro n5
    induction n5 with
    | zero => intro r v0 v1 v2 v3 v4 h; exact h.elim
    | succ n5 hH5 =>
    intro r v0 v1 v2 v3 v4 h
    refine sw_iload X 4 rfl dc_M_sums_5 ?_
    refine sw_bipush (v := 7) X dc_M_sums_7 (by decide) ?_
    refine sw_icmp_ge (tgt := 109) X dc_M_sums_9 (by decide) (fun z => ?_) (fun z => ?_)
    · have h := h.1 z
      refine sw_iload_n X 3 rfl rfl dc_M_sums_109 ?_
      exact sw_iret X hr hlk (u := r) rfl h dc_M_sums_110
    · have h := h.2 z
      refine sw_iconst (v := 4) X dc_M_sums_12 (by decide) ?_
      refine sw_istore X [(5, .int (4 : Int32)), (0, .int v0), (1, .int v1), (2, .int v2), (3, .int v3), (4, .int v4)] rfl (by decide) dc_M_sums_13 ?_
      refine sw_sub [1, 2, 3, 4, 5, 0] rfl ?_
      obtain ⟨n15, h⟩ := h
      exact b15 (wp_M_sums_L5 Q n5) hH5 n15 r v0 v1 v2 v3 v4 (4 : Int32) h
  refine sw_iconst (v := 0) X dc_M_sums_0 (by decide) ?_
  refine sw_istore_n X [(3, .int (0 : Int32)), (0, .int a1), (1, .int a2), (2, .int a3)] rfl (by decide) rfl dc_M_sums_1 ?_
  refine sw_iconst (v := 4) X dc_M_sums_2 (by decide) ?_
  refine sw_istore X [(4, .int (4 : Int32)), (3, .int (0 : Int32)), (0, .int a1), (1, .int a2), (2, .int a3)] rfl (by decide) dc_M_sums_3 ?_
  refine sw_sub [2, 3, 4, 1, 0] rfl ?_
  obtain ⟨n5, h⟩ := h
  exact b5 n5 r a1 a2 a3 (0 : Int32) (4 : Int32) h
def wp_M_called_L58 (Q : (Int32 → st_I → Prop)) (r : st_I) (t0 : Int32) : Prop := Q t0 r
def wp_M_called_L41 (Q : (Int32 → st_I → Prop)) (r : st_I) (v1 : Int32) (t0 : Int32) : Prop := (t0 = 0 → vp_in v1 6 ∧ wp_M_called_L58 Q r (r 30 (v1).toNatClampNeg)) ∧ (¬ t0 = 0 → wp_M_called_L58 Q r (0 : Int32))
def wp_M_called_L36 (Q : (Int32 → st_I → Prop)) (r : st_I) (v1 : Int32) : Prop := wp_M_called_L41 Q r v1 (1 : Int32)
def wp_M_called_L40 (Q : (Int32 → st_I → Prop)) (r : st_I) (v1 : Int32) : Prop := wp_M_called_L41 Q r v1 (0 : Int32)
def wp_M_called (a1 : Int32) (a2 : Int32) (a3 : Int32) (r : st_I) (Q : (Int32 → st_I → Prop)) : Prop := vp_in ((2 : Int32) * a1) 12 ∧ ((a2 &&& (r 29 (((2 : Int32) * a1)).toNatClampNeg)) = 0 → wp_M_called_L36 Q r a1) ∧ (¬ (a2 &&& (r 29 (((2 : Int32) * a1)).toNatClampNeg)) = 0 → wp_M_parameters a1 r (fun x14 u14 => (¬ x14 = (2 : Int32) → wp_M_called_L40 Q u14 a1) ∧ (x14 = (2 : Int32) → vp_in (((2 : Int32) * a1) + (1 : Int32)) 12 ∧ (¬ (a3 &&& (u14 29 ((((2 : Int32) * a1) + (1 : Int32))).toNatClampNeg)) = 0 → wp_M_called_L40 Q u14 a1) ∧ ((a3 &&& (u14 29 ((((2 : Int32) * a1) + (1 : Int32))).toNatClampNeg)) = 0 → wp_M_called_L36 Q u14 a1))))
set_option maxHeartbeats 4000000 in
set_option maxRecDepth 100000 in
theorem ct_M_called (l : Launch) (D : va_G) (cI cL cZ : ClassId) (ad : Nat → Nat) (g : st_I) (q : st_L) (o : st_L) (a1 : Int32) (a2 : Int32) (a3 : Int32) (r : st_I) (Q : (Int32 → st_I → Prop)) (h : wp_M_called a1 a2 a3 r Q) : ∀ sz, Met l yn_M_called (Cond.code yn_M_called cd_M_called 5 (some .int) :: wa_A) { frames := 1, cells := 0, slots := 0, locals := 20 } (va_Pc [.ref (ad 20), .int a1, .int a2, .int a3] (wq_S D cl_A (wd_T cI cL cZ) nw_A (wd_W cI cL cZ ad g q r o) sz)) (va_Qi Q (fun u t => wq_E D cl_A (wd_T cI cL cZ) (va_A (wd_W cI cL cZ ad g q r o) sz) (wd_W cI cL cZ ad g q u o) t) (va_A (wd_W cI cL cZ ad g q r o) sz)) 0 0 (va_A (wd_W cI cL cZ ad g q r o) sz) := by
  refine sw_met (Qc := fun A => va_Qi Q (fun u t => wq_E D cl_A (wd_T cI cL cZ) A (wd_W cI cL cZ ad g q u o) t) A) (by decide) rfl (Nat.le_of_ble_eq_true rfl) rfl ?_
  intro p e s m args below meth c A X hA hNs hE hr hlk hnm
  have b58 : ∀ (r : st_I) (t0 : Int32), wp_M_called_L58 Q r t0 → sw_J p l e { frames := 1, cells := 0, slots := 0, locals := 20 } s m args below meth c 0 0 (MQ below (va_Qi Q (fun u t => wq_E D cl_A (wd_T cI cL cZ) A (wd_W cI cL cZ ad g q u o) t) A) args s 0 0 A) D cl_A A 5 (wd_W cI cL cZ ad g q r o) 58 [] [.int t0] := by
    intro r t0 h
    exact sw_iret X hr hlk (u := r) rfl h dc_M_called_58
  have b41 : ∀ (r : st_I) (v1 : Int32) (t0 : Int32), wp_M_called_L41 Q r v1 t0 → sw_J p l e { frames := 1, cells := 0, slots := 0, locals := 20 } s m args below meth c 0 0 (MQ below (va_Qi Q (fun u t => wq_E D cl_A (wd_T cI cL cZ) A (wd_W cI cL cZ ad g q u o) t) A) args s 0 0 A) D cl_A A 5 (wd_W cI cL cZ ad g q r o) 41 [(0, .ref (ad 20)), (1, .int v1)] [.int t0] := by
    intro r v1 t0 h
    refine sw_istore X [(4, .int t0), (0, .ref (ad 20)), (1, .int v1)] rfl (by decide) dc_M_called_41 ?_
    refine sw_iload X 0 rfl dc_M_called_43 ?_
    refine sw_if_eq (tgt := 52) X dc_M_called_45 (by decide) (fun z => ?_) (fun z => ?_)
    · have h := h.1 z
      refine sw_aload_n X 1 rfl rfl dc_M_called_52 ?_
      refine sw_get X (fun z hz => List.mem_cons_of_mem _ (wf_M z hz)) 20 (wd_20 cI cL cZ ad g q r o) rfl 10 (by decide) (List.mem_cons_of_mem _ wm_fl_M_37) rfl dc_M_called_53 ?_
      refine sw_iload_n X 2 rfl rfl dc_M_called_56 ?_
      refine sw_iald X 30 0 (wd_30 cI cL cZ ad g q r o) rfl h.1 dc_M_called_57 ?_
      have h := h.2
      refine sw_sub [] rfl ?_
      exact b58 r (r 30 (v1).toNatClampNeg) h
    · have h := h.2 z
      refine sw_iconst (v := 0) X dc_M_called_48 (by decide) ?_
      refine sw_goto (tgt := 58) X dc_M_called_49 (by decide) ?_
      refine sw_sub [] rfl ?_
      exact b58 r (0 : Int32) h
  have b36 : ∀ (r : st_I) (v1 : Int32), wp_M_called_L36 Q r v1 → sw_J p l e { frames := 1, cells := 0, slots := 0, locals := 20 } s m args below meth c 0 0 (MQ below (va_Qi Q (fun u t => wq_E D cl_A (wd_T cI cL cZ) A (wd_W cI cL cZ ad g q u o) t) A) args s 0 0 A) D cl_A A 5 (wd_W cI cL cZ ad g q r o) 36 [(0, .ref (ad 20)), (1, .int v1)] [] := by
    intro r v1 h
    refine sw_iconst (v := 1) X dc_M_called_36 (by decide) ?_
    refine sw_goto (tgt := 41) X dc_M_called_37 (by decide) ?_
    exact b41 r v1 (1 : Int32) h
  have b40 : ∀ (r : st_I) (v1 : Int32), wp_M_called_L40 Q r v1 → sw_J p l e { frames := 1, cells := 0, slots := 0, locals := 20 } s m args below meth c 0 0 (MQ below (va_Qi Q (fun u t => wq_E D cl_A (wd_T cI cL cZ) A (wd_W cI cL cZ ad g q u o) t) A) args s 0 0 A) D cl_A A 5 (wd_W cI cL cZ ad g q r o) 40 [(0, .ref (ad 20)), (1, .int v1)] [] := by
    intro r v1 h
    refine sw_iconst (v := 0) X dc_M_called_40 (by decide) ?_
    exact b41 r v1 (0 : Int32) h
  refine sw_iload_n X 2 rfl rfl dc_M_called_0 ?_
  refine sw_aload_n X 0 rfl rfl dc_M_called_1 ?_
  refine sw_get X (fun z hz => List.mem_cons_of_mem _ (wf_M z hz)) 20 (wd_20 cI cL cZ ad g q r o) rfl 9 (by decide) (List.mem_cons_of_mem _ wm_fl_M_34) rfl dc_M_called_2 ?_
  refine sw_iconst (v := 2) X dc_M_called_5 (by decide) ?_
  refine sw_iload_n X 1 rfl rfl dc_M_called_6 ?_
  refine sw_imul X dc_M_called_7 ?_
  refine sw_iald X 29 0 (wd_29 cI cL cZ ad g q r o) rfl h.1 dc_M_called_8 ?_
  have h := h.2
  refine sw_iand X dc_M_called_9 ?_
  refine sw_if_eq (tgt := 36) X dc_M_called_10 (by decide) (fun z => ?_) (fun z => ?_)
  · have h := h.1 z
    refine sw_sub [0, 1] rfl ?_
    exact b36 r a1 h
  · have h := h.2 z
    refine sw_iload_n X 1 rfl rfl dc_M_called_13 ?_
    refine sw_cS_i (n := 1) X hA nw_okA hNs hE (fun u : st_I => wd_W cI cL cZ ad g q u o) [.int a1] (ct_M_parameters l D cI cL cZ ad g q o a1 r _ h) (List.mem_cons_of_mem _ wm_ml_M_91) (List.mem_cons_of_mem _ wm_st_M_parameters) rfl (wg_in wm_code_M_parameters) rfl rfl (List.mem_cons_of_mem _ wm_in_M) ⟨by decide, by decide, by decide +kernel⟩ ⟨Nat.le_of_ble_eq_true rfl, Nat.le_of_ble_eq_true rfl⟩ ⟨Nat.zero_le _, Nat.zero_le _⟩ rfl (Nat.le_of_ble_eq_true rfl) dc_M_called_14 rfl (fun x14 u14 h => ?_)
    refine sw_iconst (v := 2) X dc_M_called_17 (by decide) ?_
    refine sw_icmp_ne (tgt := 40) X dc_M_called_18 (by decide) (fun z => ?_) (fun z => ?_)
    · have h := h.1 z
      refine sw_sub [0, 1] rfl ?_
      exact b40 u14 a1 h
    · have h := h.2 z
      refine sw_iload_n X 3 rfl rfl dc_M_called_21 ?_
      refine sw_aload_n X 0 rfl rfl dc_M_called_22 ?_
      refine sw_get X (fun z hz => List.mem_cons_of_mem _ (wf_M z hz)) 20 (wd_20 cI cL cZ ad g q u14 o) rfl 9 (by decide) (List.mem_cons_of_mem _ wm_fl_M_34) rfl dc_M_called_23 ?_
      refine sw_iconst (v := 2) X dc_M_called_26 (by decide) ?_
      refine sw_iload_n X 1 rfl rfl dc_M_called_27 ?_
      refine sw_imul X dc_M_called_28 ?_
      refine sw_iconst (v := 1) X dc_M_called_29 (by decide) ?_
      refine sw_iadd X dc_M_called_30 ?_
      refine sw_iald X 29 0 (wd_29 cI cL cZ ad g q u14 o) rfl h.1 dc_M_called_31 ?_
      have h := h.2
      refine sw_iand X dc_M_called_32 ?_
      refine sw_if_ne (tgt := 40) X dc_M_called_33 (by decide) (fun z => ?_) (fun z => ?_)
      · have h := h.1 z
        refine sw_sub [0, 1] rfl ?_
        exact b40 u14 a1 h
      · have h := h.2 z
        refine sw_sub [0, 1] rfl ?_
        exact b36 u14 a1 h
def wp_M_together_L143 (Q : (Int32 → st_I → Prop)) (r : st_I) (v2 : Int32) (v3 : Int32) : Prop := Q (v2 ||| v3) r
def wp_M_together_L102 (Q : (Int32 → st_I → Prop)) (r : st_I) (t0 : Int32) : Prop := Q t0 r
def wp_M_together_L118 (Q : (Int32 → st_I → Prop)) (r : st_I) (t0 : Int32) : Prop := Q t0 r
def wp_M_together_L103 (Q : (Int32 → st_I → Prop)) (r : st_I) (v2 : Int32) : Prop := ((v2 &&& (256 : Int32)) = 0 → wp_M_together_L118 Q r (0 : Int32)) ∧ (¬ (v2 &&& (256 : Int32)) = 0 → wp_M_together_L118 Q r (511 : Int32))
def wp_M_together_L142 (Q : (Int32 → st_I → Prop)) (r : st_I) (t0 : Int32) : Prop := Q t0 r
def wp_M_together_L13 (Q : (Int32 → st_I → Prop)) (r : st_I) (v1 : Int32) (v2 : Int32) (v3 : Int32) (t0 : Int32) : Prop := vp_in v1 90 ∧ ((r 21 (v1).toNatClampNeg) = (4 : Int32) → wp_M_sums v2 v3 (1 : Int32) r (fun x79 u79 => Q x79 u79)) ∧ ((r 21 (v1).toNatClampNeg) = (5 : Int32) → wp_M_sums v2 v3 (0 : Int32) r (fun x86 u86 => Q x86 u86)) ∧ ((r 21 (v1).toNatClampNeg) = (6 : Int32) → (t0 = 0 → wp_M_together_L102 Q r (256 : Int32)) ∧ (¬ t0 = 0 → wp_M_together_L102 Q r (0 : Int32))) ∧ ((r 21 (v1).toNatClampNeg) = (7 : Int32) → wp_M_together_L103 Q r v2) ∧ ((r 21 (v1).toNatClampNeg) = (8 : Int32) → wp_M_together_L103 Q r v2) ∧ ((r 21 (v1).toNatClampNeg) = (9 : Int32) → wp_M_together_L143 Q r v2 v3) ∧ ((r 21 (v1).toNatClampNeg) = (10 : Int32) → vp_in v1 90 ∧ wp_M_called (r 22 (v1).toNatClampNeg) v2 v3 r (fun x128 u128 => Q x128 u128)) ∧ ((r 21 (v1).toNatClampNeg) = (11 : Int32) → wp_M_together_L143 Q r v2 v3) ∧ ((r 21 (v1).toNatClampNeg) = (12 : Int32) → wp_M_together_L143 Q r v2 v3) ∧ ((r 21 (v1).toNatClampNeg) = (13 : Int32) → (t0 = 0 → wp_M_together_L142 Q r (3 : Int32)) ∧ (¬ t0 = 0 → wp_M_together_L142 Q r (0 : Int32))) ∧ (¬ (r 21 (v1).toNatClampNeg) = (4 : Int32) → ¬ (r 21 (v1).toNatClampNeg) = (5 : Int32) → ¬ (r 21 (v1).toNatClampNeg) = (6 : Int32) → ¬ (r 21 (v1).toNatClampNeg) = (7 : Int32) → ¬ (r 21 (v1).toNatClampNeg) = (8 : Int32) → ¬ (r 21 (v1).toNatClampNeg) = (9 : Int32) → ¬ (r 21 (v1).toNatClampNeg) = (10 : Int32) → ¬ (r 21 (v1).toNatClampNeg) = (11 : Int32) → ¬ (r 21 (v1).toNatClampNeg) = (12 : Int32) → ¬ (r 21 (v1).toNatClampNeg) = (13 : Int32) → wp_M_together_L143 Q r v2 v3)
def wp_M_together_L8 (Q : (Int32 → st_I → Prop)) (r : st_I) (v1 : Int32) (v2 : Int32) (v3 : Int32) : Prop := wp_M_together_L13 Q r v1 v2 v3 (1 : Int32)
def wp_M_together (a1 : Int32) (a2 : Int32) (a3 : Int32) (r : st_I) (Q : (Int32 → st_I → Prop)) : Prop := (a2 = 0 → wp_M_together_L8 Q r a1 a2 a3) ∧ (¬ a2 = 0 → (¬ a3 = 0 → wp_M_together_L13 Q r a1 a2 a3 (0 : Int32)) ∧ (a3 = 0 → wp_M_together_L8 Q r a1 a2 a3))
set_option maxHeartbeats 4000000 in
set_option maxRecDepth 100000 in
theorem ct_M_together (l : Launch) (D : va_G) (cI cL cZ : ClassId) (ad : Nat → Nat) (g : st_I) (q : st_L) (o : st_L) (a1 : Int32) (a2 : Int32) (a3 : Int32) (r : st_I) (Q : (Int32 → st_I → Prop)) (h : wp_M_together a1 a2 a3 r Q) : ∀ sz, Met l yn_M_together (Cond.code yn_M_together cd_M_together 5 (some .int) :: wa_A) { frames := 2, cells := 0, slots := 0, locals := 44 } (va_Pc [.ref (ad 20), .int a1, .int a2, .int a3] (wq_S D cl_A (wd_T cI cL cZ) nw_A (wd_W cI cL cZ ad g q r o) sz)) (va_Qi Q (fun u t => wq_E D cl_A (wd_T cI cL cZ) (va_A (wd_W cI cL cZ ad g q r o) sz) (wd_W cI cL cZ ad g q u o) t) (va_A (wd_W cI cL cZ ad g q r o) sz)) 0 0 (va_A (wd_W cI cL cZ ad g q r o) sz) := by
  refine sw_met (Qc := fun A => va_Qi Q (fun u t => wq_E D cl_A (wd_T cI cL cZ) A (wd_W cI cL cZ ad g q u o) t) A) (by decide) rfl (Nat.le_of_ble_eq_true rfl) rfl ?_
  intro p e s m args below meth c A X hA hNs hE hr hlk hnm
  have b143 : ∀ (r : st_I) (v2 : Int32) (v3 : Int32), wp_M_together_L143 Q r v2 v3 → sw_J p l e { frames := 2, cells := 0, slots := 0, locals := 44 } s m args below meth c 0 0 (MQ below (va_Qi Q (fun u t => wq_E D cl_A (wd_T cI cL cZ) A (wd_W cI cL cZ ad g q u o) t) A) args s 0 0 A) D cl_A A 5 (wd_W cI cL cZ ad g q r o) 143 [(2, .int v2), (3, .int v3)] [] := by
    intro r v2 v3 h
    refine sw_iload_n X 0 rfl rfl dc_M_together_143 ?_
    refine sw_iload_n X 1 rfl rfl dc_M_together_144 ?_
    refine sw_ior X dc_M_together_145 ?_
    exact sw_iret X hr hlk (u := r) rfl h dc_M_together_146
  have b102 : ∀ (r : st_I) (t0 : Int32), wp_M_together_L102 Q r t0 → sw_J p l e { frames := 2, cells := 0, slots := 0, locals := 44 } s m args below meth c 0 0 (MQ below (va_Qi Q (fun u t => wq_E D cl_A (wd_T cI cL cZ) A (wd_W cI cL cZ ad g q u o) t) A) args s 0 0 A) D cl_A A 5 (wd_W cI cL cZ ad g q r o) 102 [] [.int t0] := by
    intro r t0 h
    exact sw_iret X hr hlk (u := r) rfl h dc_M_together_102
  have b118 : ∀ (r : st_I) (t0 : Int32), wp_M_together_L118 Q r t0 → sw_J p l e { frames := 2, cells := 0, slots := 0, locals := 44 } s m args below meth c 0 0 (MQ below (va_Qi Q (fun u t => wq_E D cl_A (wd_T cI cL cZ) A (wd_W cI cL cZ ad g q u o) t) A) args s 0 0 A) D cl_A A 5 (wd_W cI cL cZ ad g q r o) 118 [] [.int t0] := by
    intro r t0 h
    exact sw_iret X hr hlk (u := r) rfl h dc_M_together_118
  have b103 : ∀ (r : st_I) (v2 : Int32), wp_M_together_L103 Q r v2 → sw_J p l e { frames := 2, cells := 0, slots := 0, locals := 44 } s m args below meth c 0 0 (MQ below (va_Qi Q (fun u t => wq_E D cl_A (wd_T cI cL cZ) A (wd_W cI cL cZ ad g q u o) t) A) args s 0 0 A) D cl_A A 5 (wd_W cI cL cZ ad g q r o) 103 [(2, .int v2)] [] := by
    intro r v2 h
    refine sw_iload_n X 0 rfl rfl dc_M_together_103 ?_
    refine sw_sipush (v := 256) X dc_M_together_104 (by decide) ?_
    refine sw_iand X dc_M_together_107 ?_
    refine sw_if_eq (tgt := 117) X dc_M_together_108 (by decide) (fun z => ?_) (fun z => ?_)
    · have h := h.1 z
      refine sw_iconst (v := 0) X dc_M_together_117 (by decide) ?_
      refine sw_sub [] rfl ?_
      exact b118 r (0 : Int32) h
    · have h := h.2 z
      refine sw_sipush (v := 511) X dc_M_together_111 (by decide) ?_
      refine sw_goto (tgt := 118) X dc_M_together_114 (by decide) ?_
      refine sw_sub [] rfl ?_
      exact b118 r (511 : Int32) h
  have b142 : ∀ (r : st_I) (t0 : Int32), wp_M_together_L142 Q r t0 → sw_J p l e { frames := 2, cells := 0, slots := 0, locals := 44 } s m args below meth c 0 0 (MQ below (va_Qi Q (fun u t => wq_E D cl_A (wd_T cI cL cZ) A (wd_W cI cL cZ ad g q u o) t) A) args s 0 0 A) D cl_A A 5 (wd_W cI cL cZ ad g q r o) 142 [] [.int t0] := by
    intro r t0 h
    exact sw_iret X hr hlk (u := r) rfl h dc_M_together_142
  have b13 : ∀ (r : st_I) (v1 : Int32) (v2 : Int32) (v3 : Int32) (t0 : Int32), wp_M_together_L13 Q r v1 v2 v3 t0 → sw_J p l e { frames := 2, cells := 0, slots := 0, locals := 44 } s m args below meth c 0 0 (MQ below (va_Qi Q (fun u t => wq_E D cl_A (wd_T cI cL cZ) A (wd_W cI cL cZ ad g q u o) t) A) args s 0 0 A) D cl_A A 5 (wd_W cI cL cZ ad g q r o) 13 [(0, .ref (ad 20)), (1, .int v1), (2, .int v2), (3, .int v3)] [.int t0] := by
    intro r v1 v2 v3 t0 h
    refine sw_istore X [(4, .int t0), (0, .ref (ad 20)), (1, .int v1), (2, .int v2), (3, .int v3)] rfl (by decide) dc_M_together_13 ?_
    refine sw_aload_n X 1 rfl rfl dc_M_together_15 ?_
    refine sw_get X (fun z hz => List.mem_cons_of_mem _ (wf_M z hz)) 20 (wd_20 cI cL cZ ad g q r o) rfl 1 (by decide) (List.mem_cons_of_mem _ wm_fl_M_7) rfl dc_M_together_16 ?_
    refine sw_iload_n X 2 rfl rfl dc_M_together_19 ?_
    refine sw_iald X 21 0 (wd_21 cI cL cZ ad g q r o) rfl h.1 dc_M_together_20 ?_
    have h := h.2
    by_cases z4 : (r 21 (v1).toNatClampNeg) = (4 : Int32)
    · have h := h.1 z4
      refine sw_tableIn (tgt := 76) (off := 55) X dc_M_together_21 (by rw [z4]; decide) (by rw [z4]; decide) (by rw [z4]; rfl) (by decide) ?_
      refine sw_iload_n X 3 rfl rfl dc_M_together_76 ?_
      refine sw_iload_n X 4 rfl rfl dc_M_together_77 ?_
      refine sw_iconst (v := 1) X dc_M_together_78 (by decide) ?_
      refine sw_cS_i (n := 3) X hA nw_okA hNs hE (fun u : st_I => wd_W cI cL cZ ad g q u o) [.int v2, .int v3, .int (1 : Int32)] (ct_M_sums l D cI cL cZ ad g q o v2 v3 (1 : Int32) r _ h) (List.mem_cons_of_mem _ wm_ml_M_114) (List.mem_cons_of_mem _ wm_st_M_sums) rfl (wg_in wm_code_M_sums) rfl rfl (List.mem_cons_of_mem _ wm_in_M) ⟨by decide, by decide, by decide +kernel⟩ ⟨Nat.le_of_ble_eq_true rfl, Nat.le_of_ble_eq_true rfl⟩ ⟨Nat.zero_le _, Nat.zero_le _⟩ rfl (Nat.le_of_ble_eq_true rfl) dc_M_together_79 rfl (fun x79 u79 h => ?_)
      exact sw_iret X hr hlk (u := u79) rfl h dc_M_together_82
    by_cases z5 : (r 21 (v1).toNatClampNeg) = (5 : Int32)
    · have h := h.2.1 z5
      refine sw_tableIn (tgt := 83) (off := 62) X dc_M_together_21 (by rw [z5]; decide) (by rw [z5]; decide) (by rw [z5]; rfl) (by decide) ?_
      refine sw_iload_n X 3 rfl rfl dc_M_together_83 ?_
      refine sw_iload_n X 4 rfl rfl dc_M_together_84 ?_
      refine sw_iconst (v := 0) X dc_M_together_85 (by decide) ?_
      refine sw_cS_i (n := 3) X hA nw_okA hNs hE (fun u : st_I => wd_W cI cL cZ ad g q u o) [.int v2, .int v3, .int (0 : Int32)] (ct_M_sums l D cI cL cZ ad g q o v2 v3 (0 : Int32) r _ h) (List.mem_cons_of_mem _ wm_ml_M_114) (List.mem_cons_of_mem _ wm_st_M_sums) rfl (wg_in wm_code_M_sums) rfl rfl (List.mem_cons_of_mem _ wm_in_M) ⟨by decide, by decide, by decide +kernel⟩ ⟨Nat.le_of_ble_eq_true rfl, Nat.le_of_ble_eq_true rfl⟩ ⟨Nat.zero_le _, Nat.zero_le _⟩ rfl (Nat.le_of_ble_eq_true rfl) dc_M_together_86 rfl (fun x86 u86 h => ?_)
      exact sw_iret X hr hlk (u := u86) rfl h dc_M_together_89
    by_cases z6 : (r 21 (v1).toNatClampNeg) = (6 : Int32)
    · have h := h.2.2.1 z6
      refine sw_tableIn (tgt := 90) (off := 69) X dc_M_together_21 (by rw [z6]; decide) (by rw [z6]; decide) (by rw [z6]; rfl) (by decide) ?_
      refine sw_iload X 0 rfl dc_M_together_90 ?_
      refine sw_if_eq (tgt := 99) X dc_M_together_92 (by decide) (fun z => ?_) (fun z => ?_)
      · have h := h.1 z
        refine sw_sipush (v := 256) X dc_M_together_99 (by decide) ?_
        refine sw_sub [] rfl ?_
        exact b102 r (256 : Int32) h
      · have h := h.2 z
        refine sw_iconst (v := 0) X dc_M_together_95 (by decide) ?_
        refine sw_goto (tgt := 102) X dc_M_together_96 (by decide) ?_
        refine sw_sub [] rfl ?_
        exact b102 r (0 : Int32) h
    by_cases z7 : (r 21 (v1).toNatClampNeg) = (7 : Int32)
    · have h := h.2.2.2.1 z7
      refine sw_tableIn (tgt := 103) (off := 82) X dc_M_together_21 (by rw [z7]; decide) (by rw [z7]; decide) (by rw [z7]; rfl) (by decide) ?_
      refine sw_sub [3] rfl ?_
      exact b103 r v2 h
    by_cases z8 : (r 21 (v1).toNatClampNeg) = (8 : Int32)
    · have h := h.2.2.2.2.1 z8
      refine sw_tableIn (tgt := 103) (off := 82) X dc_M_together_21 (by rw [z8]; decide) (by rw [z8]; decide) (by rw [z8]; rfl) (by decide) ?_
      refine sw_sub [3] rfl ?_
      exact b103 r v2 h
    by_cases z9 : (r 21 (v1).toNatClampNeg) = (9 : Int32)
    · have h := h.2.2.2.2.2.1 z9
      refine sw_tableIn (tgt := 143) (off := 122) X dc_M_together_21 (by rw [z9]; decide) (by rw [z9]; decide) (by rw [z9]; rfl) (by decide) ?_
      refine sw_sub [3, 4] rfl ?_
      exact b143 r v2 v3 h
    by_cases z10 : (r 21 (v1).toNatClampNeg) = (10 : Int32)
    · have h := h.2.2.2.2.2.2.1 z10
      refine sw_tableIn (tgt := 119) (off := 98) X dc_M_together_21 (by rw [z10]; decide) (by rw [z10]; decide) (by rw [z10]; rfl) (by decide) ?_
      refine sw_aload_n X 1 rfl rfl dc_M_together_119 ?_
      refine sw_aload_n X 1 rfl rfl dc_M_together_120 ?_
      refine sw_get X (fun z hz => List.mem_cons_of_mem _ (wf_M z hz)) 20 (wd_20 cI cL cZ ad g q r o) rfl 2 (by decide) (List.mem_cons_of_mem _ wm_fl_M_13) rfl dc_M_together_121 ?_
      refine sw_iload_n X 2 rfl rfl dc_M_together_124 ?_
      refine sw_iald X 22 0 (wd_22 cI cL cZ ad g q r o) rfl h.1 dc_M_together_125 ?_
      have h := h.2
      refine sw_iload_n X 3 rfl rfl dc_M_together_126 ?_
      refine sw_iload_n X 4 rfl rfl dc_M_together_127 ?_
      refine sw_cV_i (n := 3) X hA nw_okA hNs hE (fun u : st_I => wd_W cI cL cZ ad g q u o) [.int (r 22 (v1).toNatClampNeg), .int v2, .int v3] 20 (wd_20 cI cL cZ ad g q r o) rfl rfl (ct_M_called l D cI cL cZ ad g q o (r 22 (v1).toNatClampNeg) v2 v3 r _ h) (List.mem_cons_of_mem _ wm_ml_M_118) (List.mem_cons_of_mem _ wm_im_M_called) (List.mem_cons_of_mem _ wm_se_M_called) rfl (wg_in wm_code_M_called) rfl rfl (List.mem_cons_of_mem _ wm_in_M) ⟨by decide, by decide, by decide +kernel⟩ ⟨Nat.le_of_ble_eq_true rfl, Nat.le_of_ble_eq_true rfl⟩ ⟨Nat.zero_le _, Nat.zero_le _⟩ rfl (Nat.le_of_ble_eq_true rfl) dc_M_together_128 rfl (fun x128 u128 h => ?_)
      exact sw_iret X hr hlk (u := u128) rfl h dc_M_together_131
    by_cases z11 : (r 21 (v1).toNatClampNeg) = (11 : Int32)
    · have h := h.2.2.2.2.2.2.2.1 z11
      refine sw_tableIn (tgt := 143) (off := 122) X dc_M_together_21 (by rw [z11]; decide) (by rw [z11]; decide) (by rw [z11]; rfl) (by decide) ?_
      refine sw_sub [3, 4] rfl ?_
      exact b143 r v2 v3 h
    by_cases z12 : (r 21 (v1).toNatClampNeg) = (12 : Int32)
    · have h := h.2.2.2.2.2.2.2.2.1 z12
      refine sw_tableIn (tgt := 143) (off := 122) X dc_M_together_21 (by rw [z12]; decide) (by rw [z12]; decide) (by rw [z12]; rfl) (by decide) ?_
      refine sw_sub [3, 4] rfl ?_
      exact b143 r v2 v3 h
    by_cases z13 : (r 21 (v1).toNatClampNeg) = (13 : Int32)
    · have h := h.2.2.2.2.2.2.2.2.2.1 z13
      refine sw_tableIn (tgt := 132) (off := 111) X dc_M_together_21 (by rw [z13]; decide) (by rw [z13]; decide) (by rw [z13]; rfl) (by decide) ?_
      refine sw_iload X 0 rfl dc_M_together_132 ?_
      refine sw_if_eq (tgt := 141) X dc_M_together_134 (by decide) (fun z => ?_) (fun z => ?_)
      · have h := h.1 z
        refine sw_iconst (v := 3) X dc_M_together_141 (by decide) ?_
        refine sw_sub [] rfl ?_
        exact b142 r (3 : Int32) h
      · have h := h.2 z
        refine sw_iconst (v := 0) X dc_M_together_137 (by decide) ?_
        refine sw_goto (tgt := 142) X dc_M_together_138 (by decide) ?_
        refine sw_sub [] rfl ?_
        exact b142 r (0 : Int32) h
    have h := h.2.2.2.2.2.2.2.2.2.2 z4 z5 z6 z7 z8 z9 z10 z11 z12 z13
    have z4 : ((r 21 (v1).toNatClampNeg)).toInt ≠ 4 := fun e => z4 (Int32.toInt_inj.mp (e.trans (by decide)))
    have z5 : ((r 21 (v1).toNatClampNeg)).toInt ≠ 5 := fun e => z5 (Int32.toInt_inj.mp (e.trans (by decide)))
    have z6 : ((r 21 (v1).toNatClampNeg)).toInt ≠ 6 := fun e => z6 (Int32.toInt_inj.mp (e.trans (by decide)))
    have z7 : ((r 21 (v1).toNatClampNeg)).toInt ≠ 7 := fun e => z7 (Int32.toInt_inj.mp (e.trans (by decide)))
    have z8 : ((r 21 (v1).toNatClampNeg)).toInt ≠ 8 := fun e => z8 (Int32.toInt_inj.mp (e.trans (by decide)))
    have z9 : ((r 21 (v1).toNatClampNeg)).toInt ≠ 9 := fun e => z9 (Int32.toInt_inj.mp (e.trans (by decide)))
    have z10 : ((r 21 (v1).toNatClampNeg)).toInt ≠ 10 := fun e => z10 (Int32.toInt_inj.mp (e.trans (by decide)))
    have z11 : ((r 21 (v1).toNatClampNeg)).toInt ≠ 11 := fun e => z11 (Int32.toInt_inj.mp (e.trans (by decide)))
    have z12 : ((r 21 (v1).toNatClampNeg)).toInt ≠ 12 := fun e => z12 (Int32.toInt_inj.mp (e.trans (by decide)))
    have z13 : ((r 21 (v1).toNatClampNeg)).toInt ≠ 13 := fun e => z13 (Int32.toInt_inj.mp (e.trans (by decide)))
    refine sw_tableOut (tgt := 143) X dc_M_together_21 (by omega) (by decide) ?_
    refine sw_sub [3, 4] rfl ?_
    exact b143 r v2 v3 h
  have b8 : ∀ (r : st_I) (v1 : Int32) (v2 : Int32) (v3 : Int32), wp_M_together_L8 Q r v1 v2 v3 → sw_J p l e { frames := 2, cells := 0, slots := 0, locals := 44 } s m args below meth c 0 0 (MQ below (va_Qi Q (fun u t => wq_E D cl_A (wd_T cI cL cZ) A (wd_W cI cL cZ ad g q u o) t) A) args s 0 0 A) D cl_A A 5 (wd_W cI cL cZ ad g q r o) 8 [(0, .ref (ad 20)), (1, .int v1), (2, .int v2), (3, .int v3)] [] := by
    intro r v1 v2 v3 h
    refine sw_iconst (v := 1) X dc_M_together_8 (by decide) ?_
    refine sw_goto (tgt := 13) X dc_M_together_9 (by decide) ?_
    exact b13 r v1 v2 v3 (1 : Int32) h
  refine sw_iload_n X 2 rfl rfl dc_M_together_0 ?_
  refine sw_if_eq (tgt := 8) X dc_M_together_1 (by decide) (fun z => ?_) (fun z => ?_)
  · have h := h.1 z
    exact b8 r a1 a2 a3 h
  · have h := h.2 z
    refine sw_iload_n X 3 rfl rfl dc_M_together_4 ?_
    refine sw_if_ne (tgt := 12) X dc_M_together_5 (by decide) (fun z => ?_) (fun z => ?_)
    · have h := h.1 z
      refine sw_iconst (v := 0) X dc_M_together_12 (by decide) ?_
      exact b13 r a1 a2 a3 (0 : Int32) h
    · have h := h.2 z
      exact b8 r a1 a2 a3 h
def wp_M_leaf (a1 : Int32) (a2 : Int32) (r : st_I) (Q : (Int32 → st_I → Prop)) : Prop := vp_in a1 90 ∧ ((r 21 (a1).toNatClampNeg) = (0 : Int32) → vp_in a1 90 ∧ vp_in (((4 : Int32) * a2) + (r 22 (a1).toNatClampNeg)) 256 ∧ Q (r 35 ((((4 : Int32) * a2) + (r 22 (a1).toNatClampNeg))).toNatClampNeg) r) ∧ ((r 21 (a1).toNatClampNeg) = (1 : Int32) → vp_in a1 90 ∧ Q ((1 : Int32) <<< ((r 22 (a1).toNatClampNeg) &&& 31)) r) ∧ ((r 21 (a1).toNatClampNeg) = (2 : Int32) → vp_in a1 90 ∧ wp_M_kindOf (r 22 (a1).toNatClampNeg) r (fun x68 u68 => Q ((1 : Int32) <<< (x68 &&& 31)) u68)) ∧ ((r 21 (a1).toNatClampNeg) = (3 : Int32) → Q (128 : Int32) r) ∧ (¬ (r 21 (a1).toNatClampNeg) = (0 : Int32) → ¬ (r 21 (a1).toNatClampNeg) = (1 : Int32) → ¬ (r 21 (a1).toNatClampNeg) = (2 : Int32) → ¬ (r 21 (a1).toNatClampNeg) = (3 : Int32) → Q (0 : Int32) r)
set_option maxHeartbeats 4000000 in
set_option maxRecDepth 100000 in
theorem ct_M_leaf (l : Launch) (D : va_G) (cI cL cZ : ClassId) (ad : Nat → Nat) (g : st_I) (q : st_L) (o : st_L) (a1 : Int32) (a2 : Int32) (r : st_I) (Q : (Int32 → st_I → Prop)) (h : wp_M_leaf a1 a2 r Q) : ∀ sz, Met l yn_M_leaf (Cond.code yn_M_leaf cd_M_leaf 3 (some .int) :: wa_A) { frames := 1, cells := 0, slots := 0, locals := 20 } (va_Pc [.ref (ad 20), .int a1, .int a2] (wq_S D cl_A (wd_T cI cL cZ) nw_A (wd_W cI cL cZ ad g q r o) sz)) (va_Qi Q (fun u t => wq_E D cl_A (wd_T cI cL cZ) (va_A (wd_W cI cL cZ ad g q r o) sz) (wd_W cI cL cZ ad g q u o) t) (va_A (wd_W cI cL cZ ad g q r o) sz)) 0 0 (va_A (wd_W cI cL cZ ad g q r o) sz) := by
  refine sw_met (Qc := fun A => va_Qi Q (fun u t => wq_E D cl_A (wd_T cI cL cZ) A (wd_W cI cL cZ ad g q u o) t) A) (by decide) rfl (Nat.le_of_ble_eq_true rfl) rfl ?_
  intro p e s m args below meth c A X hA hNs hE hr hlk hnm
  refine sw_aload_n X 0 rfl rfl dc_M_leaf_0 ?_
  refine sw_get X (fun z hz => List.mem_cons_of_mem _ (wf_M z hz)) 20 (wd_20 cI cL cZ ad g q r o) rfl 1 (by decide) (List.mem_cons_of_mem _ wm_fl_M_7) rfl dc_M_leaf_1 ?_
  refine sw_iload_n X 1 rfl rfl dc_M_leaf_4 ?_
  refine sw_iald X 21 0 (wd_21 cI cL cZ ad g q r o) rfl h.1 dc_M_leaf_5 ?_
  have h := h.2
  by_cases z0 : (r 21 (a1).toNatClampNeg) = (0 : Int32)
  · have h := h.1 z0
    refine sw_tableIn (tgt := 36) (off := 30) X dc_M_leaf_6 (by rw [z0]; decide) (by rw [z0]; decide) (by rw [z0]; rfl) (by decide) ?_
    refine sw_aload_n X 0 rfl rfl dc_M_leaf_36 ?_
    refine sw_get X (fun z hz => List.mem_cons_of_mem _ (wf_M z hz)) 20 (wd_20 cI cL cZ ad g q r o) rfl 16 (by decide) (List.mem_cons_of_mem _ wm_fl_M_53) rfl dc_M_leaf_37 ?_
    refine sw_iconst (v := 4) X dc_M_leaf_40 (by decide) ?_
    refine sw_iload_n X 2 rfl rfl dc_M_leaf_41 ?_
    refine sw_imul X dc_M_leaf_42 ?_
    refine sw_aload_n X 0 rfl rfl dc_M_leaf_43 ?_
    refine sw_get X (fun z hz => List.mem_cons_of_mem _ (wf_M z hz)) 20 (wd_20 cI cL cZ ad g q r o) rfl 2 (by decide) (List.mem_cons_of_mem _ wm_fl_M_13) rfl dc_M_leaf_44 ?_
    refine sw_iload_n X 1 rfl rfl dc_M_leaf_47 ?_
    refine sw_iald X 22 0 (wd_22 cI cL cZ ad g q r o) rfl h.1 dc_M_leaf_48 ?_
    have h := h.2
    refine sw_iadd X dc_M_leaf_49 ?_
    refine sw_iald X 35 0 (wd_35 cI cL cZ ad g q r o) rfl h.1 dc_M_leaf_50 ?_
    have h := h.2
    exact sw_iret X hr hlk (u := r) rfl h dc_M_leaf_51
  by_cases z1 : (r 21 (a1).toNatClampNeg) = (1 : Int32)
  · have h := h.2.1 z1
    refine sw_tableIn (tgt := 52) (off := 46) X dc_M_leaf_6 (by rw [z1]; decide) (by rw [z1]; decide) (by rw [z1]; rfl) (by decide) ?_
    refine sw_iconst (v := 1) X dc_M_leaf_52 (by decide) ?_
    refine sw_aload_n X 0 rfl rfl dc_M_leaf_53 ?_
    refine sw_get X (fun z hz => List.mem_cons_of_mem _ (wf_M z hz)) 20 (wd_20 cI cL cZ ad g q r o) rfl 2 (by decide) (List.mem_cons_of_mem _ wm_fl_M_13) rfl dc_M_leaf_54 ?_
    refine sw_iload_n X 1 rfl rfl dc_M_leaf_57 ?_
    refine sw_iald X 22 0 (wd_22 cI cL cZ ad g q r o) rfl h.1 dc_M_leaf_58 ?_
    have h := h.2
    refine sw_ishl X dc_M_leaf_59 ?_
    exact sw_iret X hr hlk (u := r) rfl h dc_M_leaf_60
  by_cases z2 : (r 21 (a1).toNatClampNeg) = (2 : Int32)
  · have h := h.2.2.1 z2
    refine sw_tableIn (tgt := 61) (off := 55) X dc_M_leaf_6 (by rw [z2]; decide) (by rw [z2]; decide) (by rw [z2]; rfl) (by decide) ?_
    refine sw_iconst (v := 1) X dc_M_leaf_61 (by decide) ?_
    refine sw_aload_n X 0 rfl rfl dc_M_leaf_62 ?_
    refine sw_get X (fun z hz => List.mem_cons_of_mem _ (wf_M z hz)) 20 (wd_20 cI cL cZ ad g q r o) rfl 2 (by decide) (List.mem_cons_of_mem _ wm_fl_M_13) rfl dc_M_leaf_63 ?_
    refine sw_iload_n X 1 rfl rfl dc_M_leaf_66 ?_
    refine sw_iald X 22 0 (wd_22 cI cL cZ ad g q r o) rfl h.1 dc_M_leaf_67 ?_
    have h := h.2
    refine sw_cS_i (n := 1) X hA nw_okA hNs hE (fun u : st_I => wd_W cI cL cZ ad g q u o) [.int (r 22 (a1).toNatClampNeg)] (ct_M_kindOf l D cI cL cZ ad g q o (r 22 (a1).toNatClampNeg) r _ h) (List.mem_cons_of_mem _ wm_ml_M_122) (List.mem_cons_of_mem _ wm_st_M_kindOf) rfl (wg_in wm_code_M_kindOf) rfl rfl (List.mem_cons_of_mem _ wm_in_M) ⟨by decide, by decide, by decide +kernel⟩ ⟨Nat.le_of_ble_eq_true rfl, Nat.le_of_ble_eq_true rfl⟩ ⟨Nat.zero_le _, Nat.zero_le _⟩ rfl (Nat.le_of_ble_eq_true rfl) dc_M_leaf_68 rfl (fun x68 u68 h => ?_)
    refine sw_ishl X dc_M_leaf_71 ?_
    exact sw_iret X hr hlk (u := u68) rfl h dc_M_leaf_72
  by_cases z3 : (r 21 (a1).toNatClampNeg) = (3 : Int32)
  · have h := h.2.2.2.1 z3
    refine sw_tableIn (tgt := 73) (off := 67) X dc_M_leaf_6 (by rw [z3]; decide) (by rw [z3]; decide) (by rw [z3]; rfl) (by decide) ?_
    refine sw_sipush (v := 128) X dc_M_leaf_73 (by decide) ?_
    exact sw_iret X hr hlk (u := r) rfl h dc_M_leaf_76
  have h := h.2.2.2.2 z0 z1 z2 z3
  have z0 : ((r 21 (a1).toNatClampNeg)).toInt ≠ 0 := fun e => z0 (Int32.toInt_inj.mp (e.trans (by decide)))
  have z1 : ((r 21 (a1).toNatClampNeg)).toInt ≠ 1 := fun e => z1 (Int32.toInt_inj.mp (e.trans (by decide)))
  have z2 : ((r 21 (a1).toNatClampNeg)).toInt ≠ 2 := fun e => z2 (Int32.toInt_inj.mp (e.trans (by decide)))
  have z3 : ((r 21 (a1).toNatClampNeg)).toInt ≠ 3 := fun e => z3 (Int32.toInt_inj.mp (e.trans (by decide)))
  refine sw_tableOut (tgt := 77) X dc_M_leaf_6 (by omega) (by decide) ?_
  refine sw_iconst (v := 0) X dc_M_leaf_77 (by decide) ?_
  exact sw_iret X hr hlk (u := r) rfl h dc_M_leaf_78
def wp_M_lookCase_L67 (Q : (st_I → Prop)) (r : st_I)  : Prop := Q r
def wp_M_lookCase (a1 : Int32) (a2 : Int32) (a3 : Int32) (a4 : Int32) (r : st_I) (Q : (st_I → Prop)) : Prop := vp_in ((2 : Int32) * a2) 128 ∧ (((r 36 (((2 : Int32) * a2)).toNatClampNeg) &&& a3) = 0 → wp_M_lookCase_L67 Q (st_u r 20 18 (0 : Int32))) ∧ (¬ ((r 36 (((2 : Int32) * a2)).toNatClampNeg) &&& a3) = 0 → wp_M_look a4 (st_u r 20 18 (0 : Int32)) (fun u21 => vp_in a1 90 ∧ vp_in (u21 22 (a1).toNatClampNeg) 90 ∧ (¬ (u21 21 ((u21 22 (a1).toNatClampNeg)).toNatClampNeg) = 0 → wp_M_lookCase_L67 Q u21) ∧ ((u21 21 ((u21 22 (a1).toNatClampNeg)).toNatClampNeg) = 0 → vp_in (u21 22 (a1).toNatClampNeg) 90 ∧ vp_in (((4 : Int32) * ((u21 20 13) - (1 : Int32))) + (u21 22 ((u21 22 (a1).toNatClampNeg)).toNatClampNeg)) 256 ∧ vp_in (((4 : Int32) * ((u21 20 13) - (1 : Int32))) + (u21 22 ((u21 22 (a1).toNatClampNeg)).toNatClampNeg)) 256 ∧ wp_M_lookCase_L67 Q (st_u u21 35 ((((4 : Int32) * ((u21 20 13) - (1 : Int32))) + (u21 22 ((u21 22 (a1).toNatClampNeg)).toNatClampNeg))).toNatClampNeg ((u21 35 ((((4 : Int32) * ((u21 20 13) - (1 : Int32))) + (u21 22 ((u21 22 (a1).toNatClampNeg)).toNatClampNeg))).toNatClampNeg) &&& a3)))))
set_option maxHeartbeats 4000000 in
set_option maxRecDepth 100000 in
theorem ct_M_lookCase (l : Launch) (D : va_G) (cI cL cZ : ClassId) (ad : Nat → Nat) (g : st_I) (q : st_L) (o : st_L) (a1 : Int32) (a2 : Int32) (a3 : Int32) (a4 : Int32) (r : st_I) (Q : (st_I → Prop)) (h : wp_M_lookCase a1 a2 a3 a4 r Q) : ∀ sz, Met l yn_M_lookCase (Cond.code yn_M_lookCase cd_M_lookCase 6 none :: wa_A) { frames := 1, cells := 0, slots := 0, locals := 22 } (va_Pc [.ref (ad 20), .int a1, .int a2, .int a3, .int a4] (wq_S D cl_A (wd_T cI cL cZ) nw_A (wd_W cI cL cZ ad g q r o) sz)) (va_Qv Q (fun u t => wq_E D cl_A (wd_T cI cL cZ) (va_A (wd_W cI cL cZ ad g q r o) sz) (wd_W cI cL cZ ad g q u o) t) (va_A (wd_W cI cL cZ ad g q r o) sz)) 0 0 (va_A (wd_W cI cL cZ ad g q r o) sz) := by
  refine sw_met (Qc := fun A => va_Qv Q (fun u t => wq_E D cl_A (wd_T cI cL cZ) A (wd_W cI cL cZ ad g q u o) t) A) (by decide) rfl (Nat.le_of_ble_eq_true rfl) rfl ?_
  intro p e s m args below meth c A X hA hNs hE hr hlk hnm
  have b67 : ∀ (r : st_I), wp_M_lookCase_L67 Q r → sw_J p l e { frames := 1, cells := 0, slots := 0, locals := 22 } s m args below meth c 0 0 (MQ below (va_Qv Q (fun u t => wq_E D cl_A (wd_T cI cL cZ) A (wd_W cI cL cZ ad g q u o) t) A) args s 0 0 A) D cl_A A 6 (wd_W cI cL cZ ad g q r o) 67 [] [] := by
    intro r h
    exact sw_vret X hr hlk (u := r) rfl h dc_M_lookCase_67
  refine sw_aload_n X 0 rfl rfl dc_M_lookCase_0 ?_
  refine sw_iconst (v := 0) X dc_M_lookCase_1 (by decide) ?_
  refine sw_put (ty := .int) X (fun z hz => List.mem_cons_of_mem _ (wf_M z hz)) fy_M fo_M fn_M 20 (wd_20 cI cL cZ ad g q r o) rfl 18 (by decide) (List.mem_cons_of_mem _ wm_fl_M_125) rfl (by decide +kernel) rfl rfl (Nat.le_of_ble_eq_true rfl) (wd_W cI cL cZ ad g q (st_u r 20 18 (0 : Int32)) o) (ws_20_18 cI cL cZ ad g q r o (0 : Int32)) dc_M_lookCase_2 ?_
  refine sw_aload_n X 0 rfl rfl dc_M_lookCase_5 ?_
  refine sw_get X (fun z hz => List.mem_cons_of_mem _ (wf_M z hz)) 20 (wd_20 cI cL cZ ad g q (st_u r 20 18 (0 : Int32)) o) rfl 17 (by decide) (List.mem_cons_of_mem _ wm_fl_M_56) rfl dc_M_lookCase_6 ?_
  refine sw_iconst (v := 2) X dc_M_lookCase_9 (by decide) ?_
  refine sw_iload_n X 2 rfl rfl dc_M_lookCase_10 ?_
  refine sw_imul X dc_M_lookCase_11 ?_
  refine sw_iald X 36 0 (wd_36 cI cL cZ ad g q (st_u r 20 18 (0 : Int32)) o) rfl h.1 dc_M_lookCase_12 ?_
  have h := h.2
  refine sw_eq (st' := [.int (r 36 (((2 : Int32) * a2)).toNatClampNeg)]) rfl rfl rfl ?_
  refine sw_iload_n X 3 rfl rfl dc_M_lookCase_13 ?_
  refine sw_iand X dc_M_lookCase_14 ?_
  refine sw_if_eq (tgt := 67) X dc_M_lookCase_15 (by decide) (fun z => ?_) (fun z => ?_)
  · have h := h.1 z
    refine sw_sub [] rfl ?_
    exact b67 (st_u r 20 18 (0 : Int32)) h
  · have h := h.2 z
    refine sw_aload_n X 0 rfl rfl dc_M_lookCase_18 ?_
    refine sw_iload X 4 rfl dc_M_lookCase_19 ?_
    refine sw_cV_v (n := 1) X hA nw_okA hNs hE (fun u : st_I => wd_W cI cL cZ ad g q u o) [.int a4] 20 (wd_20 cI cL cZ ad g q (st_u r 20 18 (0 : Int32)) o) rfl rfl (ct_M_look l D cI cL cZ ad g q o a4 (st_u r 20 18 (0 : Int32)) _ h) (List.mem_cons_of_mem _ wm_ml_M_128) (List.mem_cons_of_mem _ wm_im_M_look) (List.mem_cons_of_mem _ wm_se_M_look) rfl (wg_in wm_code_M_look) rfl rfl (List.mem_cons_of_mem _ wm_in_M) ⟨by decide, by decide, by decide +kernel⟩ ⟨Nat.le_of_ble_eq_true rfl, Nat.le_of_ble_eq_true rfl⟩ ⟨Nat.zero_le _, Nat.zero_le _⟩ rfl (Nat.le_of_ble_eq_true rfl) dc_M_lookCase_21 rfl (fun u21 h => ?_)
    refine sw_aload_n X 0 rfl rfl dc_M_lookCase_24 ?_
    refine sw_get X (fun z hz => List.mem_cons_of_mem _ (wf_M z hz)) 20 (wd_20 cI cL cZ ad g q u21 o) rfl 2 (by decide) (List.mem_cons_of_mem _ wm_fl_M_13) rfl dc_M_lookCase_25 ?_
    refine sw_iload_n X 1 rfl rfl dc_M_lookCase_28 ?_
    refine sw_iald X 22 0 (wd_22 cI cL cZ ad g q u21 o) rfl h.1 dc_M_lookCase_29 ?_
    have h := h.2
    refine sw_istore X [(5, .int (u21 22 (a1).toNatClampNeg)), (0, .ref (ad 20)), (1, .int a1), (2, .int a2), (3, .int a3), (4, .int a4)] rfl (by decide) dc_M_lookCase_30 ?_
    refine sw_aload_n X 1 rfl rfl dc_M_lookCase_32 ?_
    refine sw_get X (fun z hz => List.mem_cons_of_mem _ (wf_M z hz)) 20 (wd_20 cI cL cZ ad g q u21 o) rfl 1 (by decide) (List.mem_cons_of_mem _ wm_fl_M_7) rfl dc_M_lookCase_33 ?_
    refine sw_iload X 0 rfl dc_M_lookCase_36 ?_
    refine sw_iald X 21 0 (wd_21 cI cL cZ ad g q u21 o) rfl h.1 dc_M_lookCase_38 ?_
    have h := h.2
    refine sw_if_ne (tgt := 67) X dc_M_lookCase_39 (by decide) (fun z => ?_) (fun z => ?_)
    · have h := h.1 z
      refine sw_sub [] rfl ?_
      exact b67 u21 h
    · have h := h.2 z
      refine sw_aload_n X 1 rfl rfl dc_M_lookCase_42 ?_
      refine sw_get X (fun z hz => List.mem_cons_of_mem _ (wf_M z hz)) 20 (wd_20 cI cL cZ ad g q u21 o) rfl 16 (by decide) (List.mem_cons_of_mem _ wm_fl_M_53) rfl dc_M_lookCase_43 ?_
      refine sw_iconst (v := 4) X dc_M_lookCase_46 (by decide) ?_
      refine sw_aload_n X 1 rfl rfl dc_M_lookCase_47 ?_
      refine sw_get (v := .int (u21 20 13)) X (fun z hz => List.mem_cons_of_mem _ (wf_M z hz)) 20 (wd_20 cI cL cZ ad g q u21 o) rfl 13 (by decide) (List.mem_cons_of_mem _ wm_fl_M_111) rfl dc_M_lookCase_48 ?_
      refine sw_iconst (v := 1) X dc_M_lookCase_51 (by decide) ?_
      refine sw_isub X dc_M_lookCase_52 ?_
      refine sw_imul X dc_M_lookCase_53 ?_
      refine sw_aload_n X 1 rfl rfl dc_M_lookCase_54 ?_
      refine sw_get X (fun z hz => List.mem_cons_of_mem _ (wf_M z hz)) 20 (wd_20 cI cL cZ ad g q u21 o) rfl 2 (by decide) (List.mem_cons_of_mem _ wm_fl_M_13) rfl dc_M_lookCase_55 ?_
      refine sw_iload X 0 rfl dc_M_lookCase_58 ?_
      refine sw_iald X 22 0 (wd_22 cI cL cZ ad g q u21 o) rfl h.1 dc_M_lookCase_60 ?_
      have h := h.2
      refine sw_iadd X dc_M_lookCase_61 ?_
      refine sw_dup2 X dc_M_lookCase_62 rfl rfl ?_
      refine sw_iald X 35 0 (wd_35 cI cL cZ ad g q u21 o) rfl h.1 dc_M_lookCase_63 ?_
      have h := h.2
      refine sw_iload_n X 4 rfl rfl dc_M_lookCase_64 ?_
      refine sw_iand X dc_M_lookCase_65 ?_
      refine sw_iast X 35 0 (wd_35 cI cL cZ ad g q u21 o) rfl h.1 (wd_W cI cL cZ ad g q (st_u u21 35 ((((4 : Int32) * ((u21 20 13) - (1 : Int32))) + (u21 22 ((u21 22 (a1).toNatClampNeg)).toNatClampNeg))).toNatClampNeg ((u21 35 ((((4 : Int32) * ((u21 20 13) - (1 : Int32))) + (u21 22 ((u21 22 (a1).toNatClampNeg)).toNatClampNeg))).toNatClampNeg) &&& a3)) o) (ws_35 cI cL cZ ad g q u21 o ((((4 : Int32) * ((u21 20 13) - (1 : Int32))) + (u21 22 ((u21 22 (a1).toNatClampNeg)).toNatClampNeg))).toNatClampNeg ((u21 35 ((((4 : Int32) * ((u21 20 13) - (1 : Int32))) + (u21 22 ((u21 22 (a1).toNatClampNeg)).toNatClampNeg))).toNatClampNeg) &&& a3)) dc_M_lookCase_66 ?_
      have h := h.2
      refine sw_sub [] rfl ?_
      exact b67 (st_u u21 35 ((((4 : Int32) * ((u21 20 13) - (1 : Int32))) + (u21 22 ((u21 22 (a1).toNatClampNeg)).toNatClampNeg))).toNatClampNeg ((u21 35 ((((4 : Int32) * ((u21 20 13) - (1 : Int32))) + (u21 22 ((u21 22 (a1).toNatClampNeg)).toNatClampNeg))).toNatClampNeg) &&& a3)) h
def wp_M_close_L45 (Q : (st_I → Prop)) (r : st_I) (t0 : Int32) (t1 : Int32) : Prop := vp_in t1 90 ∧ Q (st_u r 32 (t1).toNatClampNeg (vp_nar .boolean t0))
def wp_M_close_L40 (Q : (st_I → Prop)) (r : st_I) (t0 : Int32) : Prop := wp_M_close_L45 Q r (1 : Int32) t0
def wp_M_close (a1 : Int32) (a2 : Int32) (r : st_I) (Q : (st_I → Prop)) : Prop := vp_in a1 90 ∧ vp_in a1 90 ∧ (¬ (r 32 (a1).toNatClampNeg) = 0 → wp_M_close_L40 Q (st_u (st_u (st_u r 20 18 a2) 20 13 ((r 20 13) - (1 : Int32))) 31 (a1).toNatClampNeg (vp_nar .boolean (1 : Int32))) a1) ∧ ((r 32 (a1).toNatClampNeg) = 0 → (a2 = 0 → wp_M_close_L45 Q (st_u (st_u (st_u r 20 18 a2) 20 13 ((r 20 13) - (1 : Int32))) 31 (a1).toNatClampNeg (vp_nar .boolean (1 : Int32))) (0 : Int32) a1) ∧ (¬ a2 = 0 → wp_M_close_L40 Q (st_u (st_u (st_u r 20 18 a2) 20 13 ((r 20 13) - (1 : Int32))) 31 (a1).toNatClampNeg (vp_nar .boolean (1 : Int32))) a1))
set_option maxHeartbeats 4000000 in
set_option maxRecDepth 100000 in
theorem ct_M_close (l : Launch) (D : va_G) (cI cL cZ : ClassId) (ad : Nat → Nat) (g : st_I) (q : st_L) (o : st_L) (a1 : Int32) (a2 : Int32) (r : st_I) (Q : (st_I → Prop)) (h : wp_M_close a1 a2 r Q) : ∀ sz, Met l yn_M_close (Cond.code yn_M_close cd_M_close 3 none :: wa_A) { frames := 0, cells := 0, slots := 0, locals := 0 } (va_Pc [.ref (ad 20), .int a1, .int a2] (wq_S D cl_A (wd_T cI cL cZ) nw_A (wd_W cI cL cZ ad g q r o) sz)) (va_Qv Q (fun u t => wq_E D cl_A (wd_T cI cL cZ) (va_A (wd_W cI cL cZ ad g q r o) sz) (wd_W cI cL cZ ad g q u o) t) (va_A (wd_W cI cL cZ ad g q r o) sz)) 0 0 (va_A (wd_W cI cL cZ ad g q r o) sz) := by
  refine sw_met (Qc := fun A => va_Qv Q (fun u t => wq_E D cl_A (wd_T cI cL cZ) A (wd_W cI cL cZ ad g q u o) t) A) (by decide) rfl (Nat.le_of_ble_eq_true rfl) rfl ?_
  intro p e s m args below meth c A X hA hNs hE hr hlk hnm
  have b45 : ∀ (r : st_I) (t0 : Int32) (t1 : Int32), wp_M_close_L45 Q r t0 t1 → sw_J p l e { frames := 0, cells := 0, slots := 0, locals := 0 } s m args below meth c 0 0 (MQ below (va_Qv Q (fun u t => wq_E D cl_A (wd_T cI cL cZ) A (wd_W cI cL cZ ad g q u o) t) A) args s 0 0 A) D cl_A A 3 (wd_W cI cL cZ ad g q r o) 45 [] [.int t0, .int t1, .ref (ad 32)] := by
    intro r t0 t1 h
    refine sw_zast X 32 2 (wd_32 cI cL cZ ad g q r o) rfl h.1 (wd_W cI cL cZ ad g q (st_u r 32 (t1).toNatClampNeg (vp_nar .boolean t0)) o) (ws_32 cI cL cZ ad g q r o (t1).toNatClampNeg (vp_nar .boolean t0)) dc_M_close_45 ?_
    have h := h.2
    exact sw_vret X hr hlk (u := (st_u r 32 (t1).toNatClampNeg (vp_nar .boolean t0))) rfl h dc_M_close_46
  have b40 : ∀ (r : st_I) (t0 : Int32), wp_M_close_L40 Q r t0 → sw_J p l e { frames := 0, cells := 0, slots := 0, locals := 0 } s m args below meth c 0 0 (MQ below (va_Qv Q (fun u t => wq_E D cl_A (wd_T cI cL cZ) A (wd_W cI cL cZ ad g q u o) t) A) args s 0 0 A) D cl_A A 3 (wd_W cI cL cZ ad g q r o) 40 [] [.int t0, .ref (ad 32)] := by
    intro r t0 h
    refine sw_iconst (v := 1) X dc_M_close_40 (by decide) ?_
    refine sw_goto (tgt := 45) X dc_M_close_41 (by decide) ?_
    exact b45 r (1 : Int32) t0 h
  refine sw_aload_n X 0 rfl rfl dc_M_close_0 ?_
  refine sw_iload_n X 2 rfl rfl dc_M_close_1 ?_
  refine sw_put (ty := .int) X (fun z hz => List.mem_cons_of_mem _ (wf_M z hz)) fy_M fo_M fn_M 20 (wd_20 cI cL cZ ad g q r o) rfl 18 (by decide) (List.mem_cons_of_mem _ wm_fl_M_125) rfl (by decide +kernel) rfl rfl (Nat.le_of_ble_eq_true rfl) (wd_W cI cL cZ ad g q (st_u r 20 18 a2) o) (ws_20_18 cI cL cZ ad g q r o a2) dc_M_close_2 ?_
  refine sw_aload_n X 0 rfl rfl dc_M_close_5 ?_
  refine sw_dup X dc_M_close_6 rfl ?_
  refine sw_get (v := .int (r 20 13)) X (fun z hz => List.mem_cons_of_mem _ (wf_M z hz)) 20 (wd_20 cI cL cZ ad g q (st_u r 20 18 a2) o) rfl 13 (by decide) (List.mem_cons_of_mem _ wm_fl_M_111) rfl dc_M_close_7 ?_
  refine sw_iconst (v := 1) X dc_M_close_10 (by decide) ?_
  refine sw_isub X dc_M_close_11 ?_
  refine sw_put (ty := .int) X (fun z hz => List.mem_cons_of_mem _ (wf_M z hz)) fy_M fo_M fn_M 20 (wd_20 cI cL cZ ad g q (st_u r 20 18 a2) o) rfl 13 (by decide) (List.mem_cons_of_mem _ wm_fl_M_111) rfl (by decide +kernel) rfl rfl (Nat.le_of_ble_eq_true rfl) (wd_W cI cL cZ ad g q (st_u (st_u r 20 18 a2) 20 13 ((r 20 13) - (1 : Int32))) o) (ws_20_13 cI cL cZ ad g q (st_u r 20 18 a2) o ((r 20 13) - (1 : Int32))) dc_M_close_12 ?_
  refine sw_aload_n X 0 rfl rfl dc_M_close_15 ?_
  refine sw_get X (fun z hz => List.mem_cons_of_mem _ (wf_M z hz)) 20 (wd_20 cI cL cZ ad g q (st_u (st_u r 20 18 a2) 20 13 ((r 20 13) - (1 : Int32))) o) rfl 11 (by decide) (List.mem_cons_of_mem _ wm_fl_M_40) rfl dc_M_close_16 ?_
  refine sw_iload_n X 1 rfl rfl dc_M_close_19 ?_
  refine sw_iconst (v := 1) X dc_M_close_20 (by decide) ?_
  refine sw_zast X 31 2 (wd_31 cI cL cZ ad g q (st_u (st_u r 20 18 a2) 20 13 ((r 20 13) - (1 : Int32))) o) rfl h.1 (wd_W cI cL cZ ad g q (st_u (st_u (st_u r 20 18 a2) 20 13 ((r 20 13) - (1 : Int32))) 31 (a1).toNatClampNeg (vp_nar .boolean (1 : Int32))) o) (ws_31 cI cL cZ ad g q (st_u (st_u r 20 18 a2) 20 13 ((r 20 13) - (1 : Int32))) o (a1).toNatClampNeg (vp_nar .boolean (1 : Int32))) dc_M_close_21 ?_
  have h := h.2
  refine sw_aload_n X 0 rfl rfl dc_M_close_22 ?_
  refine sw_get X (fun z hz => List.mem_cons_of_mem _ (wf_M z hz)) 20 (wd_20 cI cL cZ ad g q (st_u (st_u (st_u r 20 18 a2) 20 13 ((r 20 13) - (1 : Int32))) 31 (a1).toNatClampNeg (vp_nar .boolean (1 : Int32))) o) rfl 12 (by decide) (List.mem_cons_of_mem _ wm_fl_M_44) rfl dc_M_close_23 ?_
  refine sw_iload_n X 1 rfl rfl dc_M_close_26 ?_
  refine sw_aload_n X 0 rfl rfl dc_M_close_27 ?_
  refine sw_get X (fun z hz => List.mem_cons_of_mem _ (wf_M z hz)) 20 (wd_20 cI cL cZ ad g q (st_u (st_u (st_u r 20 18 a2) 20 13 ((r 20 13) - (1 : Int32))) 31 (a1).toNatClampNeg (vp_nar .boolean (1 : Int32))) o) rfl 12 (by decide) (List.mem_cons_of_mem _ wm_fl_M_44) rfl dc_M_close_28 ?_
  refine sw_iload_n X 1 rfl rfl dc_M_close_31 ?_
  refine sw_zald X 32 2 (wd_32 cI cL cZ ad g q (st_u (st_u (st_u r 20 18 a2) 20 13 ((r 20 13) - (1 : Int32))) 31 (a1).toNatClampNeg (vp_nar .boolean (1 : Int32))) o) rfl h.1 dc_M_close_32 ?_
  have h := h.2
  refine sw_eq (st' := [.int (r 32 (a1).toNatClampNeg), .int a1, .ref (ad 32)]) rfl rfl rfl ?_
  refine sw_if_ne (tgt := 40) X dc_M_close_33 (by decide) (fun z => ?_) (fun z => ?_)
  · have h := h.1 z
    refine sw_sub [] rfl ?_
    exact b40 (st_u (st_u (st_u r 20 18 a2) 20 13 ((r 20 13) - (1 : Int32))) 31 (a1).toNatClampNeg (vp_nar .boolean (1 : Int32))) a1 h
  · have h := h.2 z
    refine sw_iload_n X 2 rfl rfl dc_M_close_36 ?_
    refine sw_if_eq (tgt := 44) X dc_M_close_37 (by decide) (fun z => ?_) (fun z => ?_)
    · have h := h.1 z
      refine sw_iconst (v := 0) X dc_M_close_44 (by decide) ?_
      refine sw_sub [] rfl ?_
      exact b45 (st_u (st_u (st_u r 20 18 a2) 20 13 ((r 20 13) - (1 : Int32))) 31 (a1).toNatClampNeg (vp_nar .boolean (1 : Int32))) (0 : Int32) a1 h
    · have h := h.2 z
      refine sw_sub [] rfl ?_
      exact b40 (st_u (st_u (st_u r 20 18 a2) 20 13 ((r 20 13) - (1 : Int32))) 31 (a1).toNatClampNeg (vp_nar .boolean (1 : Int32))) a1 h
def wp_M_lookOn_L434 (Q : (st_I → Prop)) (r : st_I)  : Prop := Q r
def wp_M_lookOn_L406 (Q : (st_I → Prop)) (r : st_I) (v1 : Int32) (v2 : Int32) : Prop := vp_in ((2 : Int32) * v1) 128 ∧ vp_in (((2 : Int32) * v1) + (1 : Int32)) 128 ∧ wp_M_together v2 (r 36 (((2 : Int32) * v1)).toNatClampNeg) (r 36 ((((2 : Int32) * v1) + (1 : Int32))).toNatClampNeg) r (fun x428 u428 => wp_M_close v2 x428 u428 (fun u431 => wp_M_lookOn_L434 Q u431))
def wp_M_lookOn_L400 (Q : (st_I → Prop)) (r : st_I) (t0 : Int32) : Prop := wp_M_look t0 r (fun u400 => wp_M_lookOn_L434 Q u400)
def wp_M_lookOn_L336 (Q : (st_I → Prop)) (r : st_I) (v1 : Int32) (v2 : Int32) (v3 : Int32) (v4 : Int32) (v5 : Int32) : Prop := (¬ v3 = (11 : Int32) → (¬ v4 = (1 : Int32) → wp_M_lookOn_L406 Q r v1 v2) ∧ (v4 = (1 : Int32) → (v5 = (1 : Int32) → wp_M_lookOn_L406 Q r v1 v2) ∧ (¬ v5 = (1 : Int32) → (v5 = (2 : Int32) → wp_M_lookOn_L406 Q r v1 v2) ∧ (¬ v5 = (2 : Int32) → (¬ v3 = (10 : Int32) → vp_in v2 90 ∧ wp_M_lookOn_L400 Q r (r 23 (v2).toNatClampNeg)) ∧ (v3 = (10 : Int32) → vp_in v2 90 ∧ wp_M_lookOn_L400 Q r (r 24 (v2).toNatClampNeg)))))) ∧ (v3 = (11 : Int32) → vp_in (((2 : Int32) * v1) + (1 : Int32)) 128 ∧ wp_M_close v2 (r 36 ((((2 : Int32) * v1) + (1 : Int32))).toNatClampNeg) r (fun u354 => wp_M_lookOn_L434 Q u354))
def wp_M_lookOn_L243 (Q : (st_I → Prop)) (r : st_I) (v1 : Int32) (v2 : Int32) (v3 : Int32) (v4 : Int32) (v5 : Int32) : Prop := (¬ v3 = (9 : Int32) → (¬ v3 = (11 : Int32) → wp_M_lookOn_L336 Q r v1 v2 v3 v4 v5) ∧ (v3 = (11 : Int32) → (¬ v4 = (1 : Int32) → wp_M_lookOn_L336 Q r v1 v2 v3 v4 v5) ∧ (v4 = (1 : Int32) → vp_in ((2 : Int32) * v1) 128 ∧ ((r 36 (((2 : Int32) * v1)).toNatClampNeg) = 0 → wp_M_lookOn_L434 Q (st_u r 20 18 (0 : Int32))) ∧ (¬ (r 36 (((2 : Int32) * v1)).toNatClampNeg) = 0 → vp_in v2 90 ∧ wp_M_look (r 24 (v2).toNatClampNeg) (st_u r 20 18 (0 : Int32)) (fun u302 => vp_in v2 90 ∧ vp_in ((2 : Int32) * v1) 128 ∧ vp_in (((4 : Int32) * ((u302 20 13) - (1 : Int32))) + (u302 22 (v2).toNatClampNeg)) 256 ∧ wp_M_lookOn_L434 Q (st_u u302 35 ((((4 : Int32) * ((u302 20 13) - (1 : Int32))) + (u302 22 (v2).toNatClampNeg))).toNatClampNeg (u302 36 (((2 : Int32) * v1)).toNatClampNeg))))))) ∧ (v3 = (9 : Int32) → vp_in (((2 : Int32) * v1) + (1 : Int32)) 128 ∧ wp_M_close v2 (r 36 ((((2 : Int32) * v1) + (1 : Int32))).toNatClampNeg) r (fun u261 => wp_M_lookOn_L434 Q u261))
def wp_M_lookOn_L204 (Q : (st_I → Prop)) (r : st_I) (v1 : Int32) (v2 : Int32) (v3 : Int32) (v4 : Int32) (v5 : Int32) : Prop := (¬ v3 = (9 : Int32) → wp_M_lookOn_L243 Q r v1 v2 v3 v4 v5) ∧ (v3 = (9 : Int32) → (¬ v4 = (2 : Int32) → wp_M_lookOn_L243 Q r v1 v2 v3 v4 v5) ∧ (v4 = (2 : Int32) → vp_in v2 90 ∧ vp_in v2 90 ∧ wp_M_lookCase v2 v1 ((511 : Int32) &&& ((r 23 (v2).toNatClampNeg) ^^^ ((-1) : Int32))) (r 25 (v2).toNatClampNeg) r (fun u237 => wp_M_lookOn_L434 Q u237)))
def wp_M_lookOn_L165 (Q : (st_I → Prop)) (r : st_I) (t0 : Int32) : Prop := wp_M_look t0 r (fun u165 => wp_M_lookOn_L434 Q u165)
def wp_M_lookOn_L92 (Q : (st_I → Prop)) (r : st_I) (v1 : Int32) (v2 : Int32) (v3 : Int32) (v4 : Int32) : Prop := vp_in v2 90 ∧ wp_M_partsOf v3 (r 22 (v2).toNatClampNeg) r (fun x99 u99 => (¬ x99 = 0 → (¬ v4 = 0 → (¬ v3 = (9 : Int32) → wp_M_lookOn_L204 Q u99 v1 v2 v3 v4 x99) ∧ (v3 = (9 : Int32) → (¬ v4 = (1 : Int32) → wp_M_lookOn_L204 Q u99 v1 v2 v3 v4 x99) ∧ (v4 = (1 : Int32) → vp_in v2 90 ∧ vp_in v2 90 ∧ wp_M_lookCase v2 v1 (u99 23 (v2).toNatClampNeg) (u99 24 (v2).toNatClampNeg) u99 (fun u198 => wp_M_lookOn_L434 Q u198)))) ∧ (v4 = 0 → vp_in (((2 : Int32) * v1) + (1 : Int32)) 128 ∧ (¬ (x99 &&& (1 : Int32)) = (1 : Int32) → vp_in v2 90 ∧ wp_M_lookOn_L165 Q (st_u u99 36 ((((2 : Int32) * v1) + (1 : Int32))).toNatClampNeg (511 : Int32)) (u99 23 (v2).toNatClampNeg)) ∧ ((x99 &&& (1 : Int32)) = (1 : Int32) → vp_in v2 90 ∧ wp_M_lookOn_L165 Q (st_u u99 36 ((((2 : Int32) * v1) + (1 : Int32))).toNatClampNeg (511 : Int32)) (u99 22 (v2).toNatClampNeg)))) ∧ (x99 = 0 → wp_M_leaf v2 v1 u99 (fun x114 u114 => wp_M_close v2 x114 u114 (fun u117 => wp_M_lookOn_L434 Q u117))))
def wp_M_lookOn_L91 (Q : (st_I → Prop)) (r : st_I) (v1 : Int32) (v2 : Int32) (v3 : Int32) (v4 : Int32) (t0 : Int32) (t1 : Int32) : Prop := vp_in t1 128 ∧ wp_M_lookOn_L92 Q (st_u r 36 (t1).toNatClampNeg t0) v1 v2 v3 v4
def wp_M_lookOn_L62 (Q : (st_I → Prop)) (r : st_I) (v1 : Int32) (v2 : Int32) (v3 : Int32) (v4 : Int32) (t0 : Int32) (t1 : Int32) : Prop := ((3 : Int32) ≤ v4 → vp_in (((2 : Int32) * v1) + (1 : Int32)) 128 ∧ wp_M_lookOn_L91 Q r v1 v2 v3 v4 ((r 36 ((((2 : Int32) * v1) + (1 : Int32))).toNatClampNeg) ||| (r 20 18)) (t1 + t0)) ∧ (¬ (3 : Int32) ≤ v4 → wp_M_lookOn_L91 Q r v1 v2 v3 v4 (r 20 18) (t1 + t0))
def wp_M_lookOn  (r : st_I) (Q : (st_I → Prop)) : Prop := vp_in ((r 20 13) - (1 : Int32)) 64 ∧ vp_in (r 33 (((r 20 13) - (1 : Int32))).toNatClampNeg) 90 ∧ vp_in ((r 20 13) - (1 : Int32)) 64 ∧ vp_in ((r 20 13) - (1 : Int32)) 64 ∧ vp_in ((r 20 13) - (1 : Int32)) 64 ∧ ((r 34 (((r 20 13) - (1 : Int32))).toNatClampNeg) ≤ 0 → wp_M_lookOn_L92 Q (st_u r 34 (((r 20 13) - (1 : Int32))).toNatClampNeg ((r 34 (((r 20 13) - (1 : Int32))).toNatClampNeg) + (1 : Int32))) ((r 20 13) - (1 : Int32)) (r 33 (((r 20 13) - (1 : Int32))).toNatClampNeg) (r 21 ((r 33 (((r 20 13) - (1 : Int32))).toNatClampNeg)).toNatClampNeg) (r 34 (((r 20 13) - (1 : Int32))).toNatClampNeg)) ∧ (¬ (r 34 (((r 20 13) - (1 : Int32))).toNatClampNeg) ≤ 0 → (¬ (r 34 (((r 20 13) - (1 : Int32))).toNatClampNeg) = (1 : Int32) → wp_M_lookOn_L62 Q (st_u r 34 (((r 20 13) - (1 : Int32))).toNatClampNeg ((r 34 (((r 20 13) - (1 : Int32))).toNatClampNeg) + (1 : Int32))) ((r 20 13) - (1 : Int32)) (r 33 (((r 20 13) - (1 : Int32))).toNatClampNeg) (r 21 ((r 33 (((r 20 13) - (1 : Int32))).toNatClampNeg)).toNatClampNeg) (r 34 (((r 20 13) - (1 : Int32))).toNatClampNeg) (1 : Int32) ((2 : Int32) * ((r 20 13) - (1 : Int32)))) ∧ ((r 34 (((r 20 13) - (1 : Int32))).toNatClampNeg) = (1 : Int32) → wp_M_lookOn_L62 Q (st_u r 34 (((r 20 13) - (1 : Int32))).toNatClampNeg ((r 34 (((r 20 13) - (1 : Int32))).toNatClampNeg) + (1 : Int32))) ((r 20 13) - (1 : Int32)) (r 33 (((r 20 13) - (1 : Int32))).toNatClampNeg) (r 21 ((r 33 (((r 20 13) - (1 : Int32))).toNatClampNeg)).toNatClampNeg) (r 34 (((r 20 13) - (1 : Int32))).toNatClampNeg) (0 : Int32) ((2 : Int32) * ((r 20 13) - (1 : Int32)))))
set_option maxHeartbeats 4000000 in
set_option maxRecDepth 100000 in
theorem ct_M_lookOn (l : Launch) (D : va_G) (cI cL cZ : ClassId) (ad : Nat → Nat) (g : st_I) (q : st_L) (o : st_L)  (r : st_I) (Q : (st_I → Prop)) (h : wp_M_lookOn  r Q) : ∀ sz, Met l yn_M_lookOn (Cond.code yn_M_lookOn cd_M_lookOn 6 none :: wa_A) { frames := 3, cells := 0, slots := 0, locals := 68 } (va_Pc [.ref (ad 20)] (wq_S D cl_A (wd_T cI cL cZ) nw_A (wd_W cI cL cZ ad g q r o) sz)) (va_Qv Q (fun u t => wq_E D cl_A (wd_T cI cL cZ) (va_A (wd_W cI cL cZ ad g q r o) sz) (wd_W cI cL cZ ad g q u o) t) (va_A (wd_W cI cL cZ ad g q r o) sz)) 0 0 (va_A (wd_W cI cL cZ ad g q r o) sz) := by
  refine sw_met (Qc := fun A => va_Qv Q (fun u t => wq_E D cl_A (wd_T cI cL cZ) A (wd_W cI cL cZ ad g q u o) t) A) (by decide) rfl (Nat.le_of_ble_eq_true rfl) rfl ?_
  intro p e s m args below meth c A X hA hNs hE hr hlk hnm
  have b434 : ∀ (r : st_I), wp_M_lookOn_L434 Q r → sw_J p l e { frames := 3, cells := 0, slots := 0, locals := 68 } s m args below meth c 0 0 (MQ below (va_Qv Q (fun u t => wq_E D cl_A (wd_T cI cL cZ) A (wd_W cI cL cZ ad g q u o) t) A) args s 0 0 A) D cl_A A 6 (wd_W cI cL cZ ad g q r o) 434 [] [] := by
    intro r h
    exact sw_vret X hr hlk (u := r) rfl h dc_M_lookOn_434
  have b406 : ∀ (r : st_I) (v1 : Int32) (v2 : Int32), wp_M_lookOn_L406 Q r v1 v2 → sw_J p l e { frames := 3, cells := 0, slots := 0, locals := 68 } s m args below meth c 0 0 (MQ below (va_Qv Q (fun u t => wq_E D cl_A (wd_T cI cL cZ) A (wd_W cI cL cZ ad g q u o) t) A) args s 0 0 A) D cl_A A 6 (wd_W cI cL cZ ad g q r o) 406 [(0, .ref (ad 20)), (1, .int v1), (2, .int v2)] [] := by
    intro r v1 v2 h
    refine sw_aload_n X 0 rfl rfl dc_M_lookOn_406 ?_
    refine sw_iload_n X 2 rfl rfl dc_M_lookOn_407 ?_
    refine sw_aload_n X 0 rfl rfl dc_M_lookOn_408 ?_
    refine sw_iload_n X 2 rfl rfl dc_M_lookOn_409 ?_
    refine sw_aload_n X 0 rfl rfl dc_M_lookOn_410 ?_
    refine sw_get X (fun z hz => List.mem_cons_of_mem _ (wf_M z hz)) 20 (wd_20 cI cL cZ ad g q r o) rfl 17 (by decide) (List.mem_cons_of_mem _ wm_fl_M_56) rfl dc_M_lookOn_411 ?_
    refine sw_iconst (v := 2) X dc_M_lookOn_414 (by decide) ?_
    refine sw_iload_n X 1 rfl rfl dc_M_lookOn_415 ?_
    refine sw_imul X dc_M_lookOn_416 ?_
    refine sw_iald X 36 0 (wd_36 cI cL cZ ad g q r o) rfl h.1 dc_M_lookOn_417 ?_
    have h := h.2
    refine sw_aload_n X 0 rfl rfl dc_M_lookOn_418 ?_
    refine sw_get X (fun z hz => List.mem_cons_of_mem _ (wf_M z hz)) 20 (wd_20 cI cL cZ ad g q r o) rfl 17 (by decide) (List.mem_cons_of_mem _ wm_fl_M_56) rfl dc_M_lookOn_419 ?_
    refine sw_iconst (v := 2) X dc_M_lookOn_422 (by decide) ?_
    refine sw_iload_n X 1 rfl rfl dc_M_lookOn_423 ?_
    refine sw_imul X dc_M_lookOn_424 ?_
    refine sw_iconst (v := 1) X dc_M_lookOn_425 (by decide) ?_
    refine sw_iadd X dc_M_lookOn_426 ?_
    refine sw_iald X 36 0 (wd_36 cI cL cZ ad g q r o) rfl h.1 dc_M_lookOn_427 ?_
    have h := h.2
    refine sw_cV_i (n := 3) X hA nw_okA hNs hE (fun u : st_I => wd_W cI cL cZ ad g q u o) [.int v2, .int (r 36 (((2 : Int32) * v1)).toNatClampNeg), .int (r 36 ((((2 : Int32) * v1) + (1 : Int32))).toNatClampNeg)] 20 (wd_20 cI cL cZ ad g q r o) rfl rfl (ct_M_together l D cI cL cZ ad g q o v2 (r 36 (((2 : Int32) * v1)).toNatClampNeg) (r 36 ((((2 : Int32) * v1) + (1 : Int32))).toNatClampNeg) r _ h) (List.mem_cons_of_mem _ wm_ml_M_143) (List.mem_cons_of_mem _ wm_im_M_together) (List.mem_cons_of_mem _ wm_se_M_together) rfl (wg_in wm_code_M_together) rfl rfl (List.mem_cons_of_mem _ wm_in_M) ⟨by decide, by decide, by decide +kernel⟩ ⟨Nat.le_of_ble_eq_true rfl, Nat.le_of_ble_eq_true rfl⟩ ⟨Nat.zero_le _, Nat.zero_le _⟩ rfl (Nat.le_of_ble_eq_true rfl) dc_M_lookOn_428 rfl (fun x428 u428 h => ?_)
    refine sw_cV_v (n := 2) X hA nw_okA hNs hE (fun u : st_I => wd_W cI cL cZ ad g q u o) [.int v2, .int x428] 20 (wd_20 cI cL cZ ad g q u428 o) rfl rfl (ct_M_close l D cI cL cZ ad g q o v2 x428 u428 _ h) (List.mem_cons_of_mem _ wm_ml_M_135) (List.mem_cons_of_mem _ wm_im_M_close) (List.mem_cons_of_mem _ wm_se_M_close) rfl (wg_in wm_code_M_close) rfl rfl (List.mem_cons_of_mem _ wm_in_M) ⟨by decide, by decide, by decide +kernel⟩ ⟨Nat.le_of_ble_eq_true rfl, Nat.le_of_ble_eq_true rfl⟩ ⟨Nat.zero_le _, Nat.zero_le _⟩ rfl (Nat.le_of_ble_eq_true rfl) dc_M_lookOn_431 rfl (fun u431 h => ?_)
    refine sw_sub [] rfl ?_
    exact b434 u431 h
  have b400 : ∀ (r : st_I) (t0 : Int32), wp_M_lookOn_L400 Q r t0 → sw_J p l e { frames := 3, cells := 0, slots := 0, locals := 68 } s m args below meth c 0 0 (MQ below (va_Qv Q (fun u t => wq_E D cl_A (wd_T cI cL cZ) A (wd_W cI cL cZ ad g q u o) t) A) args s 0 0 A) D cl_A A 6 (wd_W cI cL cZ ad g q r o) 400 [] [.int t0, .ref (ad 20)] := by
    intro r t0 h
    refine sw_cV_v (n := 1) X hA nw_okA hNs hE (fun u : st_I => wd_W cI cL cZ ad g q u o) [.int t0] 20 (wd_20 cI cL cZ ad g q r o) rfl rfl (ct_M_look l D cI cL cZ ad g q o t0 r _ h) (List.mem_cons_of_mem _ wm_ml_M_128) (List.mem_cons_of_mem _ wm_im_M_look) (List.mem_cons_of_mem _ wm_se_M_look) rfl (wg_in wm_code_M_look) rfl rfl (List.mem_cons_of_mem _ wm_in_M) ⟨by decide, by decide, by decide +kernel⟩ ⟨Nat.le_of_ble_eq_true rfl, Nat.le_of_ble_eq_true rfl⟩ ⟨Nat.zero_le _, Nat.zero_le _⟩ rfl (Nat.le_of_ble_eq_true rfl) dc_M_lookOn_400 rfl (fun u400 h => ?_)
    refine sw_goto (tgt := 434) X dc_M_lookOn_403 (by decide) ?_
    exact b434 u400 h
  have b336 : ∀ (r : st_I) (v1 : Int32) (v2 : Int32) (v3 : Int32) (v4 : Int32) (v5 : Int32), wp_M_lookOn_L336 Q r v1 v2 v3 v4 v5 → sw_J p l e { frames := 3, cells := 0, slots := 0, locals := 68 } s m args below meth c 0 0 (MQ below (va_Qv Q (fun u t => wq_E D cl_A (wd_T cI cL cZ) A (wd_W cI cL cZ ad g q u o) t) A) args s 0 0 A) D cl_A A 6 (wd_W cI cL cZ ad g q r o) 336 [(0, .ref (ad 20)), (1, .int v1), (2, .int v2), (3, .int v3), (4, .int v4), (5, .int v5)] [] := by
    intro r v1 v2 v3 v4 v5 h
    refine sw_iload_n X 3 rfl rfl dc_M_lookOn_336 ?_
    refine sw_bipush (v := 11) X dc_M_lookOn_337 (by decide) ?_
    refine sw_icmp_ne (tgt := 360) X dc_M_lookOn_339 (by decide) (fun z => ?_) (fun z => ?_)
    · have h := h.1 z
      refine sw_iload X 4 rfl dc_M_lookOn_360 ?_
      refine sw_iconst (v := 1) X dc_M_lookOn_362 (by decide) ?_
      refine sw_icmp_ne (tgt := 406) X dc_M_lookOn_363 (by decide) (fun z => ?_) (fun z => ?_)
      · have h := h.1 z
        refine sw_sub [0, 1, 2] rfl ?_
        exact b406 r v1 v2 h
      · have h := h.2 z
        refine sw_iload X 5 rfl dc_M_lookOn_366 ?_
        refine sw_iconst (v := 1) X dc_M_lookOn_368 (by decide) ?_
        refine sw_icmp_eq (tgt := 406) X dc_M_lookOn_369 (by decide) (fun z => ?_) (fun z => ?_)
        · have h := h.1 z
          refine sw_sub [0, 1, 2] rfl ?_
          exact b406 r v1 v2 h
        · have h := h.2 z
          refine sw_iload X 5 rfl dc_M_lookOn_372 ?_
          refine sw_iconst (v := 2) X dc_M_lookOn_374 (by decide) ?_
          refine sw_icmp_eq (tgt := 406) X dc_M_lookOn_375 (by decide) (fun z => ?_) (fun z => ?_)
          · have h := h.1 z
            refine sw_sub [0, 1, 2] rfl ?_
            exact b406 r v1 v2 h
          · have h := h.2 z
            refine sw_aload_n X 0 rfl rfl dc_M_lookOn_378 ?_
            refine sw_iload_n X 3 rfl rfl dc_M_lookOn_379 ?_
            refine sw_bipush (v := 10) X dc_M_lookOn_380 (by decide) ?_
            refine sw_icmp_ne (tgt := 394) X dc_M_lookOn_382 (by decide) (fun z => ?_) (fun z => ?_)
            · have h := h.1 z
              refine sw_aload_n X 0 rfl rfl dc_M_lookOn_394 ?_
              refine sw_get X (fun z hz => List.mem_cons_of_mem _ (wf_M z hz)) 20 (wd_20 cI cL cZ ad g q r o) rfl 3 (by decide) (List.mem_cons_of_mem _ wm_fl_M_16) rfl dc_M_lookOn_395 ?_
              refine sw_iload_n X 2 rfl rfl dc_M_lookOn_398 ?_
              refine sw_iald X 23 0 (wd_23 cI cL cZ ad g q r o) rfl h.1 dc_M_lookOn_399 ?_
              have h := h.2
              refine sw_sub [] rfl ?_
              exact b400 r (r 23 (v2).toNatClampNeg) h
            · have h := h.2 z
              refine sw_aload_n X 0 rfl rfl dc_M_lookOn_385 ?_
              refine sw_get X (fun z hz => List.mem_cons_of_mem _ (wf_M z hz)) 20 (wd_20 cI cL cZ ad g q r o) rfl 4 (by decide) (List.mem_cons_of_mem _ wm_fl_M_19) rfl dc_M_lookOn_386 ?_
              refine sw_iload_n X 2 rfl rfl dc_M_lookOn_389 ?_
              refine sw_iald X 24 0 (wd_24 cI cL cZ ad g q r o) rfl h.1 dc_M_lookOn_390 ?_
              have h := h.2
              refine sw_goto (tgt := 400) X dc_M_lookOn_391 (by decide) ?_
              refine sw_sub [] rfl ?_
              exact b400 r (r 24 (v2).toNatClampNeg) h
    · have h := h.2 z
      refine sw_aload_n X 0 rfl rfl dc_M_lookOn_342 ?_
      refine sw_iload_n X 2 rfl rfl dc_M_lookOn_343 ?_
      refine sw_aload_n X 0 rfl rfl dc_M_lookOn_344 ?_
      refine sw_get X (fun z hz => List.mem_cons_of_mem _ (wf_M z hz)) 20 (wd_20 cI cL cZ ad g q r o) rfl 17 (by decide) (List.mem_cons_of_mem _ wm_fl_M_56) rfl dc_M_lookOn_345 ?_
      refine sw_iconst (v := 2) X dc_M_lookOn_348 (by decide) ?_
      refine sw_iload_n X 1 rfl rfl dc_M_lookOn_349 ?_
      refine sw_imul X dc_M_lookOn_350 ?_
      refine sw_iconst (v := 1) X dc_M_lookOn_351 (by decide) ?_
      refine sw_iadd X dc_M_lookOn_352 ?_
      refine sw_iald X 36 0 (wd_36 cI cL cZ ad g q r o) rfl h.1 dc_M_lookOn_353 ?_
      have h := h.2
      refine sw_cV_v (n := 2) X hA nw_okA hNs hE (fun u : st_I => wd_W cI cL cZ ad g q u o) [.int v2, .int (r 36 ((((2 : Int32) * v1) + (1 : Int32))).toNatClampNeg)] 20 (wd_20 cI cL cZ ad g q r o) rfl rfl (ct_M_close l D cI cL cZ ad g q o v2 (r 36 ((((2 : Int32) * v1) + (1 : Int32))).toNatClampNeg) r _ h) (List.mem_cons_of_mem _ wm_ml_M_135) (List.mem_cons_of_mem _ wm_im_M_close) (List.mem_cons_of_mem _ wm_se_M_close) rfl (wg_in wm_code_M_close) rfl rfl (List.mem_cons_of_mem _ wm_in_M) ⟨by decide, by decide, by decide +kernel⟩ ⟨Nat.le_of_ble_eq_true rfl, Nat.le_of_ble_eq_true rfl⟩ ⟨Nat.zero_le _, Nat.zero_le _⟩ rfl (Nat.le_of_ble_eq_true rfl) dc_M_lookOn_354 rfl (fun u354 h => ?_)
      refine sw_goto (tgt := 434) X dc_M_lookOn_357 (by decide) ?_
      refine sw_sub [] rfl ?_
      exact b434 u354 h
  have b243 : ∀ (r : st_I) (v1 : Int32) (v2 : Int32) (v3 : Int32) (v4 : Int32) (v5 : Int32), wp_M_lookOn_L243 Q r v1 v2 v3 v4 v5 → sw_J p l e { frames := 3, cells := 0, slots := 0, locals := 68 } s m args below meth c 0 0 (MQ below (va_Qv Q (fun u t => wq_E D cl_A (wd_T cI cL cZ) A (wd_W cI cL cZ ad g q u o) t) A) args s 0 0 A) D cl_A A 6 (wd_W cI cL cZ ad g q r o) 243 [(0, .ref (ad 20)), (1, .int v1), (2, .int v2), (3, .int v3), (4, .int v4), (5, .int v5)] [] := by
    intro r v1 v2 v3 v4 v5 h
    refine sw_iload_n X 3 rfl rfl dc_M_lookOn_243 ?_
    refine sw_bipush (v := 9) X dc_M_lookOn_244 (by decide) ?_
    refine sw_icmp_ne (tgt := 267) X dc_M_lookOn_246 (by decide) (fun z => ?_) (fun z => ?_)
    · have h := h.1 z
      refine sw_iload_n X 3 rfl rfl dc_M_lookOn_267 ?_
      refine sw_bipush (v := 11) X dc_M_lookOn_268 (by decide) ?_
      refine sw_icmp_ne (tgt := 336) X dc_M_lookOn_270 (by decide) (fun z => ?_) (fun z => ?_)
      · have h := h.1 z
        exact b336 r v1 v2 v3 v4 v5 h
      · have h := h.2 z
        refine sw_iload X 4 rfl dc_M_lookOn_273 ?_
        refine sw_iconst (v := 1) X dc_M_lookOn_275 (by decide) ?_
        refine sw_icmp_ne (tgt := 336) X dc_M_lookOn_276 (by decide) (fun z => ?_) (fun z => ?_)
        · have h := h.1 z
          exact b336 r v1 v2 v3 v4 v5 h
        · have h := h.2 z
          refine sw_aload_n X 0 rfl rfl dc_M_lookOn_279 ?_
          refine sw_iconst (v := 0) X dc_M_lookOn_280 (by decide) ?_
          refine sw_put (ty := .int) X (fun z hz => List.mem_cons_of_mem _ (wf_M z hz)) fy_M fo_M fn_M 20 (wd_20 cI cL cZ ad g q r o) rfl 18 (by decide) (List.mem_cons_of_mem _ wm_fl_M_125) rfl (by decide +kernel) rfl rfl (Nat.le_of_ble_eq_true rfl) (wd_W cI cL cZ ad g q (st_u r 20 18 (0 : Int32)) o) (ws_20_18 cI cL cZ ad g q r o (0 : Int32)) dc_M_lookOn_281 ?_
          refine sw_aload_n X 0 rfl rfl dc_M_lookOn_284 ?_
          refine sw_get X (fun z hz => List.mem_cons_of_mem _ (wf_M z hz)) 20 (wd_20 cI cL cZ ad g q (st_u r 20 18 (0 : Int32)) o) rfl 17 (by decide) (List.mem_cons_of_mem _ wm_fl_M_56) rfl dc_M_lookOn_285 ?_
          refine sw_iconst (v := 2) X dc_M_lookOn_288 (by decide) ?_
          refine sw_iload_n X 1 rfl rfl dc_M_lookOn_289 ?_
          refine sw_imul X dc_M_lookOn_290 ?_
          refine sw_iald X 36 0 (wd_36 cI cL cZ ad g q (st_u r 20 18 (0 : Int32)) o) rfl h.1 dc_M_lookOn_291 ?_
          have h := h.2
          refine sw_eq (st' := [.int (r 36 (((2 : Int32) * v1)).toNatClampNeg)]) rfl rfl rfl ?_
          refine sw_if_eq (tgt := 434) X dc_M_lookOn_292 (by decide) (fun z => ?_) (fun z => ?_)
          · have h := h.1 z
            refine sw_sub [] rfl ?_
            exact b434 (st_u r 20 18 (0 : Int32)) h
          · have h := h.2 z
            refine sw_aload_n X 0 rfl rfl dc_M_lookOn_295 ?_
            refine sw_aload_n X 0 rfl rfl dc_M_lookOn_296 ?_
            refine sw_get X (fun z hz => List.mem_cons_of_mem _ (wf_M z hz)) 20 (wd_20 cI cL cZ ad g q (st_u r 20 18 (0 : Int32)) o) rfl 4 (by decide) (List.mem_cons_of_mem _ wm_fl_M_19) rfl dc_M_lookOn_297 ?_
            refine sw_iload_n X 2 rfl rfl dc_M_lookOn_300 ?_
            refine sw_iald X 24 0 (wd_24 cI cL cZ ad g q (st_u r 20 18 (0 : Int32)) o) rfl h.1 dc_M_lookOn_301 ?_
            have h := h.2
            refine sw_eq (st' := [.int (r 24 (v2).toNatClampNeg), .ref (ad 20)]) rfl rfl rfl ?_
            refine sw_cV_v (n := 1) X hA nw_okA hNs hE (fun u : st_I => wd_W cI cL cZ ad g q u o) [.int (r 24 (v2).toNatClampNeg)] 20 (wd_20 cI cL cZ ad g q (st_u r 20 18 (0 : Int32)) o) rfl rfl (ct_M_look l D cI cL cZ ad g q o (r 24 (v2).toNatClampNeg) (st_u r 20 18 (0 : Int32)) _ h) (List.mem_cons_of_mem _ wm_ml_M_128) (List.mem_cons_of_mem _ wm_im_M_look) (List.mem_cons_of_mem _ wm_se_M_look) rfl (wg_in wm_code_M_look) rfl rfl (List.mem_cons_of_mem _ wm_in_M) ⟨by decide, by decide, by decide +kernel⟩ ⟨Nat.le_of_ble_eq_true rfl, Nat.le_of_ble_eq_true rfl⟩ ⟨Nat.zero_le _, Nat.zero_le _⟩ rfl (Nat.le_of_ble_eq_true rfl) dc_M_lookOn_302 rfl (fun u302 h => ?_)
            refine sw_aload_n X 0 rfl rfl dc_M_lookOn_305 ?_
            refine sw_get X (fun z hz => List.mem_cons_of_mem _ (wf_M z hz)) 20 (wd_20 cI cL cZ ad g q u302 o) rfl 16 (by decide) (List.mem_cons_of_mem _ wm_fl_M_53) rfl dc_M_lookOn_306 ?_
            refine sw_iconst (v := 4) X dc_M_lookOn_309 (by decide) ?_
            refine sw_aload_n X 0 rfl rfl dc_M_lookOn_310 ?_
            refine sw_get (v := .int (u302 20 13)) X (fun z hz => List.mem_cons_of_mem _ (wf_M z hz)) 20 (wd_20 cI cL cZ ad g q u302 o) rfl 13 (by decide) (List.mem_cons_of_mem _ wm_fl_M_111) rfl dc_M_lookOn_311 ?_
            refine sw_iconst (v := 1) X dc_M_lookOn_314 (by decide) ?_
            refine sw_isub X dc_M_lookOn_315 ?_
            refine sw_imul X dc_M_lookOn_316 ?_
            refine sw_aload_n X 0 rfl rfl dc_M_lookOn_317 ?_
            refine sw_get X (fun z hz => List.mem_cons_of_mem _ (wf_M z hz)) 20 (wd_20 cI cL cZ ad g q u302 o) rfl 2 (by decide) (List.mem_cons_of_mem _ wm_fl_M_13) rfl dc_M_lookOn_318 ?_
            refine sw_iload_n X 2 rfl rfl dc_M_lookOn_321 ?_
            refine sw_iald X 22 0 (wd_22 cI cL cZ ad g q u302 o) rfl h.1 dc_M_lookOn_322 ?_
            have h := h.2
            refine sw_iadd X dc_M_lookOn_323 ?_
            refine sw_aload_n X 0 rfl rfl dc_M_lookOn_324 ?_
            refine sw_get X (fun z hz => List.mem_cons_of_mem _ (wf_M z hz)) 20 (wd_20 cI cL cZ ad g q u302 o) rfl 17 (by decide) (List.mem_cons_of_mem _ wm_fl_M_56) rfl dc_M_lookOn_325 ?_
            refine sw_iconst (v := 2) X dc_M_lookOn_328 (by decide) ?_
            refine sw_iload_n X 1 rfl rfl dc_M_lookOn_329 ?_
            refine sw_imul X dc_M_lookOn_330 ?_
            refine sw_iald X 36 0 (wd_36 cI cL cZ ad g q u302 o) rfl h.1 dc_M_lookOn_331 ?_
            have h := h.2
            refine sw_iast X 35 0 (wd_35 cI cL cZ ad g q u302 o) rfl h.1 (wd_W cI cL cZ ad g q (st_u u302 35 ((((4 : Int32) * ((u302 20 13) - (1 : Int32))) + (u302 22 (v2).toNatClampNeg))).toNatClampNeg (u302 36 (((2 : Int32) * v1)).toNatClampNeg)) o) (ws_35 cI cL cZ ad g q u302 o ((((4 : Int32) * ((u302 20 13) - (1 : Int32))) + (u302 22 (v2).toNatClampNeg))).toNatClampNeg (u302 36 (((2 : Int32) * v1)).toNatClampNeg)) dc_M_lookOn_332 ?_
            have h := h.2
            refine sw_goto (tgt := 434) X dc_M_lookOn_333 (by decide) ?_
            refine sw_sub [] rfl ?_
            exact b434 (st_u u302 35 ((((4 : Int32) * ((u302 20 13) - (1 : Int32))) + (u302 22 (v2).toNatClampNeg))).toNatClampNeg (u302 36 (((2 : Int32) * v1)).toNatClampNeg)) h
    · have h := h.2 z
      refine sw_aload_n X 0 rfl rfl dc_M_lookOn_249 ?_
      refine sw_iload_n X 2 rfl rfl dc_M_lookOn_250 ?_
      refine sw_aload_n X 0 rfl rfl dc_M_lookOn_251 ?_
      refine sw_get X (fun z hz => List.mem_cons_of_mem _ (wf_M z hz)) 20 (wd_20 cI cL cZ ad g q r o) rfl 17 (by decide) (List.mem_cons_of_mem _ wm_fl_M_56) rfl dc_M_lookOn_252 ?_
      refine sw_iconst (v := 2) X dc_M_lookOn_255 (by decide) ?_
      refine sw_iload_n X 1 rfl rfl dc_M_lookOn_256 ?_
      refine sw_imul X dc_M_lookOn_257 ?_
      refine sw_iconst (v := 1) X dc_M_lookOn_258 (by decide) ?_
      refine sw_iadd X dc_M_lookOn_259 ?_
      refine sw_iald X 36 0 (wd_36 cI cL cZ ad g q r o) rfl h.1 dc_M_lookOn_260 ?_
      have h := h.2
      refine sw_cV_v (n := 2) X hA nw_okA hNs hE (fun u : st_I => wd_W cI cL cZ ad g q u o) [.int v2, .int (r 36 ((((2 : Int32) * v1) + (1 : Int32))).toNatClampNeg)] 20 (wd_20 cI cL cZ ad g q r o) rfl rfl (ct_M_close l D cI cL cZ ad g q o v2 (r 36 ((((2 : Int32) * v1) + (1 : Int32))).toNatClampNeg) r _ h) (List.mem_cons_of_mem _ wm_ml_M_135) (List.mem_cons_of_mem _ wm_im_M_close) (List.mem_cons_of_mem _ wm_se_M_close) rfl (wg_in wm_code_M_close) rfl rfl (List.mem_cons_of_mem _ wm_in_M) ⟨by decide, by decide, by decide +kernel⟩ ⟨Nat.le_of_ble_eq_true rfl, Nat.le_of_ble_eq_true rfl⟩ ⟨Nat.zero_le _, Nat.zero_le _⟩ rfl (Nat.le_of_ble_eq_true rfl) dc_M_lookOn_261 rfl (fun u261 h => ?_)
      refine sw_goto (tgt := 434) X dc_M_lookOn_264 (by decide) ?_
      refine sw_sub [] rfl ?_
      exact b434 u261 h
  have b204 : ∀ (r : st_I) (v1 : Int32) (v2 : Int32) (v3 : Int32) (v4 : Int32) (v5 : Int32), wp_M_lookOn_L204 Q r v1 v2 v3 v4 v5 → sw_J p l e { frames := 3, cells := 0, slots := 0, locals := 68 } s m args below meth c 0 0 (MQ below (va_Qv Q (fun u t => wq_E D cl_A (wd_T cI cL cZ) A (wd_W cI cL cZ ad g q u o) t) A) args s 0 0 A) D cl_A A 6 (wd_W cI cL cZ ad g q r o) 204 [(0, .ref (ad 20)), (1, .int v1), (2, .int v2), (3, .int v3), (4, .int v4), (5, .int v5)] [] := by
    intro r v1 v2 v3 v4 v5 h
    refine sw_iload_n X 3 rfl rfl dc_M_lookOn_204 ?_
    refine sw_bipush (v := 9) X dc_M_lookOn_205 (by decide) ?_
    refine sw_icmp_ne (tgt := 243) X dc_M_lookOn_207 (by decide) (fun z => ?_) (fun z => ?_)
    · have h := h.1 z
      exact b243 r v1 v2 v3 v4 v5 h
    · have h := h.2 z
      refine sw_iload X 4 rfl dc_M_lookOn_210 ?_
      refine sw_iconst (v := 2) X dc_M_lookOn_212 (by decide) ?_
      refine sw_icmp_ne (tgt := 243) X dc_M_lookOn_213 (by decide) (fun z => ?_) (fun z => ?_)
      · have h := h.1 z
        exact b243 r v1 v2 v3 v4 v5 h
      · have h := h.2 z
        refine sw_aload_n X 0 rfl rfl dc_M_lookOn_216 ?_
        refine sw_iload_n X 2 rfl rfl dc_M_lookOn_217 ?_
        refine sw_iload_n X 1 rfl rfl dc_M_lookOn_218 ?_
        refine sw_sipush (v := 511) X dc_M_lookOn_219 (by decide) ?_
        refine sw_aload_n X 0 rfl rfl dc_M_lookOn_222 ?_
        refine sw_get X (fun z hz => List.mem_cons_of_mem _ (wf_M z hz)) 20 (wd_20 cI cL cZ ad g q r o) rfl 3 (by decide) (List.mem_cons_of_mem _ wm_fl_M_16) rfl dc_M_lookOn_223 ?_
        refine sw_iload_n X 2 rfl rfl dc_M_lookOn_226 ?_
        refine sw_iald X 23 0 (wd_23 cI cL cZ ad g q r o) rfl h.1 dc_M_lookOn_227 ?_
        have h := h.2
        refine sw_iconst (v := -1) X dc_M_lookOn_228 (by decide) ?_
        refine sw_ixor X dc_M_lookOn_229 ?_
        refine sw_iand X dc_M_lookOn_230 ?_
        refine sw_aload_n X 0 rfl rfl dc_M_lookOn_231 ?_
        refine sw_get X (fun z hz => List.mem_cons_of_mem _ (wf_M z hz)) 20 (wd_20 cI cL cZ ad g q r o) rfl 5 (by decide) (List.mem_cons_of_mem _ wm_fl_M_22) rfl dc_M_lookOn_232 ?_
        refine sw_iload_n X 2 rfl rfl dc_M_lookOn_235 ?_
        refine sw_iald X 25 0 (wd_25 cI cL cZ ad g q r o) rfl h.1 dc_M_lookOn_236 ?_
        have h := h.2
        refine sw_cV_v (n := 4) X hA nw_okA hNs hE (fun u : st_I => wd_W cI cL cZ ad g q u o) [.int v2, .int v1, .int ((511 : Int32) &&& ((r 23 (v2).toNatClampNeg) ^^^ ((-1) : Int32))), .int (r 25 (v2).toNatClampNeg)] 20 (wd_20 cI cL cZ ad g q r o) rfl rfl (ct_M_lookCase l D cI cL cZ ad g q o v2 v1 ((511 : Int32) &&& ((r 23 (v2).toNatClampNeg) ^^^ ((-1) : Int32))) (r 25 (v2).toNatClampNeg) r _ h) (List.mem_cons_of_mem _ wm_ml_M_139) (List.mem_cons_of_mem _ wm_im_M_lookCase) (List.mem_cons_of_mem _ wm_se_M_lookCase) rfl (wg_in wm_code_M_lookCase) rfl rfl (List.mem_cons_of_mem _ wm_in_M) ⟨by decide, by decide, by decide +kernel⟩ ⟨Nat.le_of_ble_eq_true rfl, Nat.le_of_ble_eq_true rfl⟩ ⟨Nat.zero_le _, Nat.zero_le _⟩ rfl (Nat.le_of_ble_eq_true rfl) dc_M_lookOn_237 rfl (fun u237 h => ?_)
        refine sw_goto (tgt := 434) X dc_M_lookOn_240 (by decide) ?_
        refine sw_sub [] rfl ?_
        exact b434 u237 h
  have b165 : ∀ (r : st_I) (t0 : Int32), wp_M_lookOn_L165 Q r t0 → sw_J p l e { frames := 3, cells := 0, slots := 0, locals := 68 } s m args below meth c 0 0 (MQ below (va_Qv Q (fun u t => wq_E D cl_A (wd_T cI cL cZ) A (wd_W cI cL cZ ad g q u o) t) A) args s 0 0 A) D cl_A A 6 (wd_W cI cL cZ ad g q r o) 165 [] [.int t0, .ref (ad 20)] := by
    intro r t0 h
    refine sw_cV_v (n := 1) X hA nw_okA hNs hE (fun u : st_I => wd_W cI cL cZ ad g q u o) [.int t0] 20 (wd_20 cI cL cZ ad g q r o) rfl rfl (ct_M_look l D cI cL cZ ad g q o t0 r _ h) (List.mem_cons_of_mem _ wm_ml_M_128) (List.mem_cons_of_mem _ wm_im_M_look) (List.mem_cons_of_mem _ wm_se_M_look) rfl (wg_in wm_code_M_look) rfl rfl (List.mem_cons_of_mem _ wm_in_M) ⟨by decide, by decide, by decide +kernel⟩ ⟨Nat.le_of_ble_eq_true rfl, Nat.le_of_ble_eq_true rfl⟩ ⟨Nat.zero_le _, Nat.zero_le _⟩ rfl (Nat.le_of_ble_eq_true rfl) dc_M_lookOn_165 rfl (fun u165 h => ?_)
    refine sw_goto (tgt := 434) X dc_M_lookOn_168 (by decide) ?_
    exact b434 u165 h
  have b92 : ∀ (r : st_I) (v1 : Int32) (v2 : Int32) (v3 : Int32) (v4 : Int32), wp_M_lookOn_L92 Q r v1 v2 v3 v4 → sw_J p l e { frames := 3, cells := 0, slots := 0, locals := 68 } s m args below meth c 0 0 (MQ below (va_Qv Q (fun u t => wq_E D cl_A (wd_T cI cL cZ) A (wd_W cI cL cZ ad g q u o) t) A) args s 0 0 A) D cl_A A 6 (wd_W cI cL cZ ad g q r o) 92 [(0, .ref (ad 20)), (1, .int v1), (2, .int v2), (3, .int v3), (4, .int v4)] [] := by
    intro r v1 v2 v3 v4 h
    refine sw_iload_n X 3 rfl rfl dc_M_lookOn_92 ?_
    refine sw_aload_n X 0 rfl rfl dc_M_lookOn_93 ?_
    refine sw_get X (fun z hz => List.mem_cons_of_mem _ (wf_M z hz)) 20 (wd_20 cI cL cZ ad g q r o) rfl 2 (by decide) (List.mem_cons_of_mem _ wm_fl_M_13) rfl dc_M_lookOn_94 ?_
    refine sw_iload_n X 2 rfl rfl dc_M_lookOn_97 ?_
    refine sw_iald X 22 0 (wd_22 cI cL cZ ad g q r o) rfl h.1 dc_M_lookOn_98 ?_
    have h := h.2
    refine sw_cS_i (n := 2) X hA nw_okA hNs hE (fun u : st_I => wd_W cI cL cZ ad g q u o) [.int v3, .int (r 22 (v2).toNatClampNeg)] (ct_M_partsOf l D cI cL cZ ad g q o v3 (r 22 (v2).toNatClampNeg) r _ h) (List.mem_cons_of_mem _ wm_ml_M_99) (List.mem_cons_of_mem _ wm_st_M_partsOf) rfl (wg_in wm_code_M_partsOf) rfl rfl (List.mem_cons_of_mem _ wm_in_M) ⟨by decide, by decide, by decide +kernel⟩ ⟨Nat.le_of_ble_eq_true rfl, Nat.le_of_ble_eq_true rfl⟩ ⟨Nat.zero_le _, Nat.zero_le _⟩ rfl (Nat.le_of_ble_eq_true rfl) dc_M_lookOn_99 rfl (fun x99 u99 h => ?_)
    refine sw_istore X [(5, .int x99), (0, .ref (ad 20)), (1, .int v1), (2, .int v2), (3, .int v3), (4, .int v4)] rfl (by decide) dc_M_lookOn_102 ?_
    refine sw_iload X 0 rfl dc_M_lookOn_104 ?_
    refine sw_if_ne (tgt := 123) X dc_M_lookOn_106 (by decide) (fun z => ?_) (fun z => ?_)
    · have h := h.1 z
      refine sw_iload X 5 rfl dc_M_lookOn_123 ?_
      refine sw_if_ne (tgt := 171) X dc_M_lookOn_125 (by decide) (fun z => ?_) (fun z => ?_)
      · have h := h.1 z
        refine sw_iload_n X 4 rfl rfl dc_M_lookOn_171 ?_
        refine sw_bipush (v := 9) X dc_M_lookOn_172 (by decide) ?_
        refine sw_icmp_ne (tgt := 204) X dc_M_lookOn_174 (by decide) (fun z => ?_) (fun z => ?_)
        · have h := h.1 z
          refine sw_sub [1, 2, 3, 4, 5, 0] rfl ?_
          exact b204 u99 v1 v2 v3 v4 x99 h
        · have h := h.2 z
          refine sw_iload X 5 rfl dc_M_lookOn_177 ?_
          refine sw_iconst (v := 1) X dc_M_lookOn_179 (by decide) ?_
          refine sw_icmp_ne (tgt := 204) X dc_M_lookOn_180 (by decide) (fun z => ?_) (fun z => ?_)
          · have h := h.1 z
            refine sw_sub [1, 2, 3, 4, 5, 0] rfl ?_
            exact b204 u99 v1 v2 v3 v4 x99 h
          · have h := h.2 z
            refine sw_aload_n X 1 rfl rfl dc_M_lookOn_183 ?_
            refine sw_iload_n X 3 rfl rfl dc_M_lookOn_184 ?_
            refine sw_iload_n X 2 rfl rfl dc_M_lookOn_185 ?_
            refine sw_aload_n X 1 rfl rfl dc_M_lookOn_186 ?_
            refine sw_get X (fun z hz => List.mem_cons_of_mem _ (wf_M z hz)) 20 (wd_20 cI cL cZ ad g q u99 o) rfl 3 (by decide) (List.mem_cons_of_mem _ wm_fl_M_16) rfl dc_M_lookOn_187 ?_
            refine sw_iload_n X 3 rfl rfl dc_M_lookOn_190 ?_
            refine sw_iald X 23 0 (wd_23 cI cL cZ ad g q u99 o) rfl h.1 dc_M_lookOn_191 ?_
            have h := h.2
            refine sw_aload_n X 1 rfl rfl dc_M_lookOn_192 ?_
            refine sw_get X (fun z hz => List.mem_cons_of_mem _ (wf_M z hz)) 20 (wd_20 cI cL cZ ad g q u99 o) rfl 4 (by decide) (List.mem_cons_of_mem _ wm_fl_M_19) rfl dc_M_lookOn_193 ?_
            refine sw_iload_n X 3 rfl rfl dc_M_lookOn_196 ?_
            refine sw_iald X 24 0 (wd_24 cI cL cZ ad g q u99 o) rfl h.1 dc_M_lookOn_197 ?_
            have h := h.2
            refine sw_cV_v (n := 4) X hA nw_okA hNs hE (fun u : st_I => wd_W cI cL cZ ad g q u o) [.int v2, .int v1, .int (u99 23 (v2).toNatClampNeg), .int (u99 24 (v2).toNatClampNeg)] 20 (wd_20 cI cL cZ ad g q u99 o) rfl rfl (ct_M_lookCase l D cI cL cZ ad g q o v2 v1 (u99 23 (v2).toNatClampNeg) (u99 24 (v2).toNatClampNeg) u99 _ h) (List.mem_cons_of_mem _ wm_ml_M_139) (List.mem_cons_of_mem _ wm_im_M_lookCase) (List.mem_cons_of_mem _ wm_se_M_lookCase) rfl (wg_in wm_code_M_lookCase) rfl rfl (List.mem_cons_of_mem _ wm_in_M) ⟨by decide, by decide, by decide +kernel⟩ ⟨Nat.le_of_ble_eq_true rfl, Nat.le_of_ble_eq_true rfl⟩ ⟨Nat.zero_le _, Nat.zero_le _⟩ rfl (Nat.le_of_ble_eq_true rfl) dc_M_lookOn_198 rfl (fun u198 h => ?_)
            refine sw_goto (tgt := 434) X dc_M_lookOn_201 (by decide) ?_
            refine sw_sub [] rfl ?_
            exact b434 u198 h
      · have h := h.2 z
        refine sw_aload_n X 1 rfl rfl dc_M_lookOn_128 ?_
        refine sw_get X (fun z hz => List.mem_cons_of_mem _ (wf_M z hz)) 20 (wd_20 cI cL cZ ad g q u99 o) rfl 17 (by decide) (List.mem_cons_of_mem _ wm_fl_M_56) rfl dc_M_lookOn_129 ?_
        refine sw_iconst (v := 2) X dc_M_lookOn_132 (by decide) ?_
        refine sw_iload_n X 2 rfl rfl dc_M_lookOn_133 ?_
        refine sw_imul X dc_M_lookOn_134 ?_
        refine sw_iconst (v := 1) X dc_M_lookOn_135 (by decide) ?_
        refine sw_iadd X dc_M_lookOn_136 ?_
        refine sw_sipush (v := 511) X dc_M_lookOn_137 (by decide) ?_
        refine sw_iast X 36 0 (wd_36 cI cL cZ ad g q u99 o) rfl h.1 (wd_W cI cL cZ ad g q (st_u u99 36 ((((2 : Int32) * v1) + (1 : Int32))).toNatClampNeg (511 : Int32)) o) (ws_36 cI cL cZ ad g q u99 o ((((2 : Int32) * v1) + (1 : Int32))).toNatClampNeg (511 : Int32)) dc_M_lookOn_140 ?_
        have h := h.2
        refine sw_aload_n X 1 rfl rfl dc_M_lookOn_141 ?_
        refine sw_iload X 0 rfl dc_M_lookOn_142 ?_
        refine sw_iconst (v := 1) X dc_M_lookOn_144 (by decide) ?_
        refine sw_iand X dc_M_lookOn_145 ?_
        refine sw_iconst (v := 1) X dc_M_lookOn_146 (by decide) ?_
        refine sw_icmp_ne (tgt := 159) X dc_M_lookOn_147 (by decide) (fun z => ?_) (fun z => ?_)
        · have h := h.1 z
          refine sw_aload_n X 1 rfl rfl dc_M_lookOn_159 ?_
          refine sw_get X (fun z hz => List.mem_cons_of_mem _ (wf_M z hz)) 20 (wd_20 cI cL cZ ad g q (st_u u99 36 ((((2 : Int32) * v1) + (1 : Int32))).toNatClampNeg (511 : Int32)) o) rfl 3 (by decide) (List.mem_cons_of_mem _ wm_fl_M_16) rfl dc_M_lookOn_160 ?_
          refine sw_iload_n X 3 rfl rfl dc_M_lookOn_163 ?_
          refine sw_iald X 23 0 (wd_23 cI cL cZ ad g q (st_u u99 36 ((((2 : Int32) * v1) + (1 : Int32))).toNatClampNeg (511 : Int32)) o) rfl h.1 dc_M_lookOn_164 ?_
          have h := h.2
          refine sw_eq (st' := [.int (u99 23 (v2).toNatClampNeg), .ref (ad 20)]) rfl rfl rfl ?_
          refine sw_sub [] rfl ?_
          exact b165 (st_u u99 36 ((((2 : Int32) * v1) + (1 : Int32))).toNatClampNeg (511 : Int32)) (u99 23 (v2).toNatClampNeg) h
        · have h := h.2 z
          refine sw_aload_n X 1 rfl rfl dc_M_lookOn_150 ?_
          refine sw_get X (fun z hz => List.mem_cons_of_mem _ (wf_M z hz)) 20 (wd_20 cI cL cZ ad g q (st_u u99 36 ((((2 : Int32) * v1) + (1 : Int32))).toNatClampNeg (511 : Int32)) o) rfl 2 (by decide) (List.mem_cons_of_mem _ wm_fl_M_13) rfl dc_M_lookOn_151 ?_
          refine sw_iload_n X 3 rfl rfl dc_M_lookOn_154 ?_
          refine sw_iald X 22 0 (wd_22 cI cL cZ ad g q (st_u u99 36 ((((2 : Int32) * v1) + (1 : Int32))).toNatClampNeg (511 : Int32)) o) rfl h.1 dc_M_lookOn_155 ?_
          have h := h.2
          refine sw_eq (st' := [.int (u99 22 (v2).toNatClampNeg), .ref (ad 20)]) rfl rfl rfl ?_
          refine sw_goto (tgt := 165) X dc_M_lookOn_156 (by decide) ?_
          refine sw_sub [] rfl ?_
          exact b165 (st_u u99 36 ((((2 : Int32) * v1) + (1 : Int32))).toNatClampNeg (511 : Int32)) (u99 22 (v2).toNatClampNeg) h
    · have h := h.2 z
      refine sw_aload_n X 1 rfl rfl dc_M_lookOn_109 ?_
      refine sw_iload_n X 3 rfl rfl dc_M_lookOn_110 ?_
      refine sw_aload_n X 1 rfl rfl dc_M_lookOn_111 ?_
      refine sw_iload_n X 3 rfl rfl dc_M_lookOn_112 ?_
      refine sw_iload_n X 2 rfl rfl dc_M_lookOn_113 ?_
      refine sw_cV_i (n := 2) X hA nw_okA hNs hE (fun u : st_I => wd_W cI cL cZ ad g q u o) [.int v2, .int v1] 20 (wd_20 cI cL cZ ad g q u99 o) rfl rfl (ct_M_leaf l D cI cL cZ ad g q o v2 v1 u99 _ h) (List.mem_cons_of_mem _ wm_ml_M_132) (List.mem_cons_of_mem _ wm_im_M_leaf) (List.mem_cons_of_mem _ wm_se_M_leaf) rfl (wg_in wm_code_M_leaf) rfl rfl (List.mem_cons_of_mem _ wm_in_M) ⟨by decide, by decide, by decide +kernel⟩ ⟨Nat.le_of_ble_eq_true rfl, Nat.le_of_ble_eq_true rfl⟩ ⟨Nat.zero_le _, Nat.zero_le _⟩ rfl (Nat.le_of_ble_eq_true rfl) dc_M_lookOn_114 rfl (fun x114 u114 h => ?_)
      refine sw_cV_v (n := 2) X hA nw_okA hNs hE (fun u : st_I => wd_W cI cL cZ ad g q u o) [.int v2, .int x114] 20 (wd_20 cI cL cZ ad g q u114 o) rfl rfl (ct_M_close l D cI cL cZ ad g q o v2 x114 u114 _ h) (List.mem_cons_of_mem _ wm_ml_M_135) (List.mem_cons_of_mem _ wm_im_M_close) (List.mem_cons_of_mem _ wm_se_M_close) rfl (wg_in wm_code_M_close) rfl rfl (List.mem_cons_of_mem _ wm_in_M) ⟨by decide, by decide, by decide +kernel⟩ ⟨Nat.le_of_ble_eq_true rfl, Nat.le_of_ble_eq_true rfl⟩ ⟨Nat.zero_le _, Nat.zero_le _⟩ rfl (Nat.le_of_ble_eq_true rfl) dc_M_lookOn_117 rfl (fun u117 h => ?_)
      refine sw_goto (tgt := 434) X dc_M_lookOn_120 (by decide) ?_
      refine sw_sub [] rfl ?_
      exact b434 u117 h
  have b91 : ∀ (r : st_I) (v1 : Int32) (v2 : Int32) (v3 : Int32) (v4 : Int32) (t0 : Int32) (t1 : Int32), wp_M_lookOn_L91 Q r v1 v2 v3 v4 t0 t1 → sw_J p l e { frames := 3, cells := 0, slots := 0, locals := 68 } s m args below meth c 0 0 (MQ below (va_Qv Q (fun u t => wq_E D cl_A (wd_T cI cL cZ) A (wd_W cI cL cZ ad g q u o) t) A) args s 0 0 A) D cl_A A 6 (wd_W cI cL cZ ad g q r o) 91 [(0, .ref (ad 20)), (1, .int v1), (2, .int v2), (3, .int v3), (4, .int v4)] [.int t0, .int t1, .ref (ad 36)] := by
    intro r v1 v2 v3 v4 t0 t1 h
    refine sw_iast X 36 0 (wd_36 cI cL cZ ad g q r o) rfl h.1 (wd_W cI cL cZ ad g q (st_u r 36 (t1).toNatClampNeg t0) o) (ws_36 cI cL cZ ad g q r o (t1).toNatClampNeg t0) dc_M_lookOn_91 ?_
    have h := h.2
    exact b92 (st_u r 36 (t1).toNatClampNeg t0) v1 v2 v3 v4 h
  have b62 : ∀ (r : st_I) (v1 : Int32) (v2 : Int32) (v3 : Int32) (v4 : Int32) (t0 : Int32) (t1 : Int32), wp_M_lookOn_L62 Q r v1 v2 v3 v4 t0 t1 → sw_J p l e { frames := 3, cells := 0, slots := 0, locals := 68 } s m args below meth c 0 0 (MQ below (va_Qv Q (fun u t => wq_E D cl_A (wd_T cI cL cZ) A (wd_W cI cL cZ ad g q u o) t) A) args s 0 0 A) D cl_A A 6 (wd_W cI cL cZ ad g q r o) 62 [(0, .ref (ad 20)), (1, .int v1), (2, .int v2), (3, .int v3), (4, .int v4)] [.int t0, .int t1, .ref (ad 36)] := by
    intro r v1 v2 v3 v4 t0 t1 h
    refine sw_iadd X dc_M_lookOn_62 ?_
    refine sw_iload X 4 rfl dc_M_lookOn_63 ?_
    refine sw_iconst (v := 3) X dc_M_lookOn_65 (by decide) ?_
    refine sw_icmp_ge (tgt := 76) X dc_M_lookOn_66 (by decide) (fun z => ?_) (fun z => ?_)
    · have h := h.1 z
      refine sw_aload_n X 0 rfl rfl dc_M_lookOn_76 ?_
      refine sw_get X (fun z hz => List.mem_cons_of_mem _ (wf_M z hz)) 20 (wd_20 cI cL cZ ad g q r o) rfl 17 (by decide) (List.mem_cons_of_mem _ wm_fl_M_56) rfl dc_M_lookOn_77 ?_
      refine sw_iconst (v := 2) X dc_M_lookOn_80 (by decide) ?_
      refine sw_iload_n X 1 rfl rfl dc_M_lookOn_81 ?_
      refine sw_imul X dc_M_lookOn_82 ?_
      refine sw_iconst (v := 1) X dc_M_lookOn_83 (by decide) ?_
      refine sw_iadd X dc_M_lookOn_84 ?_
      refine sw_iald X 36 0 (wd_36 cI cL cZ ad g q r o) rfl h.1 dc_M_lookOn_85 ?_
      have h := h.2
      refine sw_aload_n X 0 rfl rfl dc_M_lookOn_86 ?_
      refine sw_get (v := .int (r 20 18)) X (fun z hz => List.mem_cons_of_mem _ (wf_M z hz)) 20 (wd_20 cI cL cZ ad g q r o) rfl 18 (by decide) (List.mem_cons_of_mem _ wm_fl_M_125) rfl dc_M_lookOn_87 ?_
      refine sw_ior X dc_M_lookOn_90 ?_
      exact b91 r v1 v2 v3 v4 ((r 36 ((((2 : Int32) * v1) + (1 : Int32))).toNatClampNeg) ||| (r 20 18)) (t1 + t0) h
    · have h := h.2 z
      refine sw_aload_n X 0 rfl rfl dc_M_lookOn_69 ?_
      refine sw_get (v := .int (r 20 18)) X (fun z hz => List.mem_cons_of_mem _ (wf_M z hz)) 20 (wd_20 cI cL cZ ad g q r o) rfl 18 (by decide) (List.mem_cons_of_mem _ wm_fl_M_125) rfl dc_M_lookOn_70 ?_
      refine sw_goto (tgt := 91) X dc_M_lookOn_73 (by decide) ?_
      exact b91 r v1 v2 v3 v4 (r 20 18) (t1 + t0) h
  refine sw_aload_n X 0 rfl rfl dc_M_lookOn_0 ?_
  refine sw_get (v := .int (r 20 13)) X (fun z hz => List.mem_cons_of_mem _ (wf_M z hz)) 20 (wd_20 cI cL cZ ad g q r o) rfl 13 (by decide) (List.mem_cons_of_mem _ wm_fl_M_111) rfl dc_M_lookOn_1 ?_
  refine sw_iconst (v := 1) X dc_M_lookOn_4 (by decide) ?_
  refine sw_isub X dc_M_lookOn_5 ?_
  refine sw_istore_n X [(1, .int ((r 20 13) - (1 : Int32))), (0, .ref (ad 20))] rfl (by decide) rfl dc_M_lookOn_6 ?_
  refine sw_aload_n X 1 rfl rfl dc_M_lookOn_7 ?_
  refine sw_get X (fun z hz => List.mem_cons_of_mem _ (wf_M z hz)) 20 (wd_20 cI cL cZ ad g q r o) rfl 14 (by decide) (List.mem_cons_of_mem _ wm_fl_M_47) rfl dc_M_lookOn_8 ?_
  refine sw_iload_n X 0 rfl rfl dc_M_lookOn_11 ?_
  refine sw_iald X 33 0 (wd_33 cI cL cZ ad g q r o) rfl h.1 dc_M_lookOn_12 ?_
  have h := h.2
  refine sw_istore_n X [(2, .int (r 33 (((r 20 13) - (1 : Int32))).toNatClampNeg)), (1, .int ((r 20 13) - (1 : Int32))), (0, .ref (ad 20))] rfl (by decide) rfl dc_M_lookOn_13 ?_
  refine sw_aload_n X 2 rfl rfl dc_M_lookOn_14 ?_
  refine sw_get X (fun z hz => List.mem_cons_of_mem _ (wf_M z hz)) 20 (wd_20 cI cL cZ ad g q r o) rfl 1 (by decide) (List.mem_cons_of_mem _ wm_fl_M_7) rfl dc_M_lookOn_15 ?_
  refine sw_iload_n X 0 rfl rfl dc_M_lookOn_18 ?_
  refine sw_iald X 21 0 (wd_21 cI cL cZ ad g q r o) rfl h.1 dc_M_lookOn_19 ?_
  have h := h.2
  refine sw_istore_n X [(3, .int (r 21 ((r 33 (((r 20 13) - (1 : Int32))).toNatClampNeg)).toNatClampNeg)), (2, .int (r 33 (((r 20 13) - (1 : Int32))).toNatClampNeg)), (1, .int ((r 20 13) - (1 : Int32))), (0, .ref (ad 20))] rfl (by decide) rfl dc_M_lookOn_20 ?_
  refine sw_aload_n X 3 rfl rfl dc_M_lookOn_21 ?_
  refine sw_get X (fun z hz => List.mem_cons_of_mem _ (wf_M z hz)) 20 (wd_20 cI cL cZ ad g q r o) rfl 15 (by decide) (List.mem_cons_of_mem _ wm_fl_M_50) rfl dc_M_lookOn_22 ?_
  refine sw_iload_n X 2 rfl rfl dc_M_lookOn_25 ?_
  refine sw_iald X 34 0 (wd_34 cI cL cZ ad g q r o) rfl h.1 dc_M_lookOn_26 ?_
  have h := h.2
  refine sw_istore X [(4, .int (r 34 (((r 20 13) - (1 : Int32))).toNatClampNeg)), (3, .int (r 21 ((r 33 (((r 20 13) - (1 : Int32))).toNatClampNeg)).toNatClampNeg)), (2, .int (r 33 (((r 20 13) - (1 : Int32))).toNatClampNeg)), (1, .int ((r 20 13) - (1 : Int32))), (0, .ref (ad 20))] rfl (by decide) dc_M_lookOn_27 ?_
  refine sw_aload_n X 4 rfl rfl dc_M_lookOn_29 ?_
  refine sw_get X (fun z hz => List.mem_cons_of_mem _ (wf_M z hz)) 20 (wd_20 cI cL cZ ad g q r o) rfl 15 (by decide) (List.mem_cons_of_mem _ wm_fl_M_50) rfl dc_M_lookOn_30 ?_
  refine sw_iload_n X 3 rfl rfl dc_M_lookOn_33 ?_
  refine sw_dup2 X dc_M_lookOn_34 rfl rfl ?_
  refine sw_iald X 34 0 (wd_34 cI cL cZ ad g q r o) rfl h.1 dc_M_lookOn_35 ?_
  have h := h.2
  refine sw_iconst (v := 1) X dc_M_lookOn_36 (by decide) ?_
  refine sw_iadd X dc_M_lookOn_37 ?_
  refine sw_iast X 34 0 (wd_34 cI cL cZ ad g q r o) rfl h.1 (wd_W cI cL cZ ad g q (st_u r 34 (((r 20 13) - (1 : Int32))).toNatClampNeg ((r 34 (((r 20 13) - (1 : Int32))).toNatClampNeg) + (1 : Int32))) o) (ws_34 cI cL cZ ad g q r o (((r 20 13) - (1 : Int32))).toNatClampNeg ((r 34 (((r 20 13) - (1 : Int32))).toNatClampNeg) + (1 : Int32))) dc_M_lookOn_38 ?_
  have h := h.2
  refine sw_iload X 0 rfl dc_M_lookOn_39 ?_
  refine sw_if_le (tgt := 92) X dc_M_lookOn_41 (by decide) (fun z => ?_) (fun z => ?_)
  · have h := h.1 z
    refine sw_sub [4, 3, 2, 1, 0] rfl ?_
    exact b92 (st_u r 34 (((r 20 13) - (1 : Int32))).toNatClampNeg ((r 34 (((r 20 13) - (1 : Int32))).toNatClampNeg) + (1 : Int32))) ((r 20 13) - (1 : Int32)) (r 33 (((r 20 13) - (1 : Int32))).toNatClampNeg) (r 21 ((r 33 (((r 20 13) - (1 : Int32))).toNatClampNeg)).toNatClampNeg) (r 34 (((r 20 13) - (1 : Int32))).toNatClampNeg) h
  · have h := h.2 z
    refine sw_aload_n X 4 rfl rfl dc_M_lookOn_44 ?_
    refine sw_get X (fun z hz => List.mem_cons_of_mem _ (wf_M z hz)) 20 (wd_20 cI cL cZ ad g q (st_u r 34 (((r 20 13) - (1 : Int32))).toNatClampNeg ((r 34 (((r 20 13) - (1 : Int32))).toNatClampNeg) + (1 : Int32))) o) rfl 17 (by decide) (List.mem_cons_of_mem _ wm_fl_M_56) rfl dc_M_lookOn_45 ?_
    refine sw_iconst (v := 2) X dc_M_lookOn_48 (by decide) ?_
    refine sw_iload_n X 3 rfl rfl dc_M_lookOn_49 ?_
    refine sw_imul X dc_M_lookOn_50 ?_
    refine sw_iload X 0 rfl dc_M_lookOn_51 ?_
    refine sw_iconst (v := 1) X dc_M_lookOn_53 (by decide) ?_
    refine sw_icmp_ne (tgt := 61) X dc_M_lookOn_54 (by decide) (fun z => ?_) (fun z => ?_)
    · have h := h.1 z
      refine sw_iconst (v := 1) X dc_M_lookOn_61 (by decide) ?_
      refine sw_sub [4, 3, 2, 1, 0] rfl ?_
      exact b62 (st_u r 34 (((r 20 13) - (1 : Int32))).toNatClampNeg ((r 34 (((r 20 13) - (1 : Int32))).toNatClampNeg) + (1 : Int32))) ((r 20 13) - (1 : Int32)) (r 33 (((r 20 13) - (1 : Int32))).toNatClampNeg) (r 21 ((r 33 (((r 20 13) - (1 : Int32))).toNatClampNeg)).toNatClampNeg) (r 34 (((r 20 13) - (1 : Int32))).toNatClampNeg) (1 : Int32) ((2 : Int32) * ((r 20 13) - (1 : Int32))) h
    · have h := h.2 z
      refine sw_iconst (v := 0) X dc_M_lookOn_57 (by decide) ?_
      refine sw_goto (tgt := 62) X dc_M_lookOn_58 (by decide) ?_
      refine sw_sub [4, 3, 2, 1, 0] rfl ?_
      exact b62 (st_u r 34 (((r 20 13) - (1 : Int32))).toNatClampNeg ((r 34 (((r 20 13) - (1 : Int32))).toNatClampNeg) + (1 : Int32))) ((r 20 13) - (1 : Int32)) (r 33 (((r 20 13) - (1 : Int32))).toNatClampNeg) (r 21 ((r 33 (((r 20 13) - (1 : Int32))).toNatClampNeg)).toNatClampNeg) (r 34 (((r 20 13) - (1 : Int32))).toNatClampNeg) (0 : Int32) ((2 : Int32) * ((r 20 13) - (1 : Int32))) h
def wp_M_looked_L55 (Q : (Int32 → st_I → Prop)) : Nat → st_I → Prop
  | 0 => fun _ => False
  | n55 + 1 => fun r => ((r 20 13) ≤ 0 → Q (r 20 18) r) ∧ (¬ (r 20 13) ≤ 0 → wp_M_lookOn  r (fun u63 => (wp_M_looked_L55 Q n55) u63))
def wp_M_looked_L40 (Q : (Int32 → st_I → Prop)) (r : st_I) (t0 : Int32) (t1 : Int32) : Prop := vp_in t1 256 ∧ vp_in (2 : Int32) 256 ∧ vp_in (3 : Int32) 256 ∧ ∃ n55, wp_M_looked_L55 Q n55 (st_u (st_u (st_u r 35 (t1).toNatClampNeg t0) 35 ((2 : Int32)).toNatClampNeg (0 : Int32)) 35 ((3 : Int32)).toNatClampNeg (0 : Int32))
def wp_M_looked (a1 : Int32) (a2 : Int32) (a3 : Int32) (r : st_I) (Q : (Int32 → st_I → Prop)) : Prop := vp_in a1 6 ∧ wp_M_look (r 28 (a1).toNatClampNeg) (st_u r 20 13 (0 : Int32)) (fun u12 => vp_in (0 : Int32) 256 ∧ wp_M_parameters a1 (st_u u12 35 ((0 : Int32)).toNatClampNeg a2) (fun x28 u28 => (¬ x28 = (1 : Int32) → wp_M_looked_L40 Q u28 a3 (1 : Int32)) ∧ (x28 = (1 : Int32) → wp_M_looked_L40 Q u28 (0 : Int32) (1 : Int32))))
set_option maxHeartbeats 4000000 in
set_option maxRecDepth 100000 in
theorem ct_M_looked (l : Launch) (D : va_G) (cI cL cZ : ClassId) (ad : Nat → Nat) (g : st_I) (q : st_L) (o : st_L) (a1 : Int32) (a2 : Int32) (a3 : Int32) (r : st_I) (Q : (Int32 → st_I → Prop)) (h : wp_M_looked a1 a2 a3 r Q) : ∀ sz, Met l yn_M_looked (Cond.code yn_M_looked cd_M_looked 4 (some .int) :: wa_A) { frames := 4, cells := 0, slots := 0, locals := 93 } (va_Pc [.ref (ad 20), .int a1, .int a2, .int a3] (wq_S D cl_A (wd_T cI cL cZ) nw_A (wd_W cI cL cZ ad g q r o) sz)) (va_Qi Q (fun u t => wq_E D cl_A (wd_T cI cL cZ) (va_A (wd_W cI cL cZ ad g q r o) sz) (wd_W cI cL cZ ad g q u o) t) (va_A (wd_W cI cL cZ ad g q r o) sz)) 0 0 (va_A (wd_W cI cL cZ ad g q r o) sz) := by
  refine sw_met (Qc := fun A => va_Qi Q (fun u t => wq_E D cl_A (wd_T cI cL cZ) A (wd_W cI cL cZ ad g q u o) t) A) (by decide) rfl (Nat.le_of_ble_eq_true rfl) rfl ?_
  intro p e s m args below meth c A X hA hNs hE hr hlk hnm
  have b55 : ∀ (n : Nat) (r : st_I), wp_M_looked_L55 Q n r → sw_J p l e { frames := 4, cells := 0, slots := 0, locals := 93 } s m args below meth c 0 0 (MQ below (va_Qi Q (fun u t => wq_E D cl_A (wd_T cI cL cZ) A (wd_W cI cL cZ ad g q u o) t) A) args s 0 0 A) D cl_A A 4 (wd_W cI cL cZ ad g q r o) 55 [(0, .ref (ad 20))] [] := by
    intro n55
    induction n55 with
    | zero => intro r h; exact h.elim
    | succ n55 hH55 =>
    intro r h
    refine sw_aload_n X 0 rfl rfl dc_M_looked_55 ?_
    refine sw_get (v := .int (r 20 13)) X (fun z hz => List.mem_cons_of_mem _ (wf_M z hz)) 20 (wd_20 cI cL cZ ad g q r o) rfl 13 (by decide) (List.mem_cons_of_mem _ wm_fl_M_111) rfl dc_M_looked_56 ?_
    refine sw_if_le (tgt := 69) X dc_M_looked_59 (by decide) (fun z => ?_) (fun z => ?_)
    · have h := h.1 z
      refine sw_aload_n X 0 rfl rfl dc_M_looked_69 ?_
      refine sw_get (v := .int (r 20 18)) X (fun z hz => List.mem_cons_of_mem _ (wf_M z hz)) 20 (wd_20 cI cL cZ ad g q r o) rfl 18 (by decide) (List.mem_cons_of_mem _ wm_fl_M_125) rfl dc_M_looked_70 ?_
      exact sw_iret X hr hlk (u := r) rfl h dc_M_looked_73
    · have h := h.2 z
      refine sw_aload_n X 0 rfl rfl dc_M_looked_62 ?_
      refine sw_cV_v (n := 0) X hA nw_okA hNs hE (fun u : st_I => wd_W cI cL cZ ad g q u o) [] 20 (wd_20 cI cL cZ ad g q r o) rfl rfl (ct_M_lookOn l D cI cL cZ ad g q o r _ h) (List.mem_cons_of_mem _ wm_ml_M_146) (List.mem_cons_of_mem _ wm_im_M_lookOn) (List.mem_cons_of_mem _ wm_se_M_lookOn) rfl (wg_in wm_code_M_lookOn) rfl rfl (List.mem_cons_of_mem _ wm_in_M) ⟨by decide, by decide, by decide +kernel⟩ ⟨Nat.le_of_ble_eq_true rfl, Nat.le_of_ble_eq_true rfl⟩ ⟨Nat.zero_le _, Nat.zero_le _⟩ rfl (Nat.le_of_ble_eq_true rfl) dc_M_looked_63 rfl (fun u63 h => ?_)
      refine sw_goto (tgt := 55) X dc_M_looked_66 (by decide) ?_
      exact hH55 u63 h
  have b40 : ∀ (r : st_I) (t0 : Int32) (t1 : Int32), wp_M_looked_L40 Q r t0 t1 → sw_J p l e { frames := 4, cells := 0, slots := 0, locals := 93 } s m args below meth c 0 0 (MQ below (va_Qi Q (fun u t => wq_E D cl_A (wd_T cI cL cZ) A (wd_W cI cL cZ ad g q u o) t) A) args s 0 0 A) D cl_A A 4 (wd_W cI cL cZ ad g q r o) 40 [(0, .ref (ad 20))] [.int t0, .int t1, .ref (ad 35)] := by
    intro r t0 t1 h
    refine sw_iast X 35 0 (wd_35 cI cL cZ ad g q r o) rfl h.1 (wd_W cI cL cZ ad g q (st_u r 35 (t1).toNatClampNeg t0) o) (ws_35 cI cL cZ ad g q r o (t1).toNatClampNeg t0) dc_M_looked_40 ?_
    have h := h.2
    refine sw_aload_n X 0 rfl rfl dc_M_looked_41 ?_
    refine sw_get X (fun z hz => List.mem_cons_of_mem _ (wf_M z hz)) 20 (wd_20 cI cL cZ ad g q (st_u r 35 (t1).toNatClampNeg t0) o) rfl 16 (by decide) (List.mem_cons_of_mem _ wm_fl_M_53) rfl dc_M_looked_42 ?_
    refine sw_iconst (v := 2) X dc_M_looked_45 (by decide) ?_
    refine sw_iconst (v := 0) X dc_M_looked_46 (by decide) ?_
    refine sw_iast X 35 0 (wd_35 cI cL cZ ad g q (st_u r 35 (t1).toNatClampNeg t0) o) rfl h.1 (wd_W cI cL cZ ad g q (st_u (st_u r 35 (t1).toNatClampNeg t0) 35 ((2 : Int32)).toNatClampNeg (0 : Int32)) o) (ws_35 cI cL cZ ad g q (st_u r 35 (t1).toNatClampNeg t0) o ((2 : Int32)).toNatClampNeg (0 : Int32)) dc_M_looked_47 ?_
    have h := h.2
    refine sw_aload_n X 0 rfl rfl dc_M_looked_48 ?_
    refine sw_get X (fun z hz => List.mem_cons_of_mem _ (wf_M z hz)) 20 (wd_20 cI cL cZ ad g q (st_u (st_u r 35 (t1).toNatClampNeg t0) 35 ((2 : Int32)).toNatClampNeg (0 : Int32)) o) rfl 16 (by decide) (List.mem_cons_of_mem _ wm_fl_M_53) rfl dc_M_looked_49 ?_
    refine sw_iconst (v := 3) X dc_M_looked_52 (by decide) ?_
    refine sw_iconst (v := 0) X dc_M_looked_53 (by decide) ?_
    refine sw_iast X 35 0 (wd_35 cI cL cZ ad g q (st_u (st_u r 35 (t1).toNatClampNeg t0) 35 ((2 : Int32)).toNatClampNeg (0 : Int32)) o) rfl h.1 (wd_W cI cL cZ ad g q (st_u (st_u (st_u r 35 (t1).toNatClampNeg t0) 35 ((2 : Int32)).toNatClampNeg (0 : Int32)) 35 ((3 : Int32)).toNatClampNeg (0 : Int32)) o) (ws_35 cI cL cZ ad g q (st_u (st_u r 35 (t1).toNatClampNeg t0) 35 ((2 : Int32)).toNatClampNeg (0 : Int32)) o ((3 : Int32)).toNatClampNeg (0 : Int32)) dc_M_looked_54 ?_
    have h := h.2
    obtain ⟨n55, h⟩ := h
    exact b55 n55 (st_u (st_u (st_u r 35 (t1).toNatClampNeg t0) 35 ((2 : Int32)).toNatClampNeg (0 : Int32)) 35 ((3 : Int32)).toNatClampNeg (0 : Int32)) h
  refine sw_aload_n X 0 rfl rfl dc_M_looked_0 ?_
  refine sw_iconst (v := 0) X dc_M_looked_1 (by decide) ?_
  refine sw_put (ty := .int) X (fun z hz => List.mem_cons_of_mem _ (wf_M z hz)) fy_M fo_M fn_M 20 (wd_20 cI cL cZ ad g q r o) rfl 13 (by decide) (List.mem_cons_of_mem _ wm_fl_M_111) rfl (by decide +kernel) rfl rfl (Nat.le_of_ble_eq_true rfl) (wd_W cI cL cZ ad g q (st_u r 20 13 (0 : Int32)) o) (ws_20_13 cI cL cZ ad g q r o (0 : Int32)) dc_M_looked_2 ?_
  refine sw_aload_n X 0 rfl rfl dc_M_looked_5 ?_
  refine sw_aload_n X 0 rfl rfl dc_M_looked_6 ?_
  refine sw_get X (fun z hz => List.mem_cons_of_mem _ (wf_M z hz)) 20 (wd_20 cI cL cZ ad g q (st_u r 20 13 (0 : Int32)) o) rfl 8 (by decide) (List.mem_cons_of_mem _ wm_fl_M_31) rfl dc_M_looked_7 ?_
  refine sw_iload_n X 1 rfl rfl dc_M_looked_10 ?_
  refine sw_iald X 28 0 (wd_28 cI cL cZ ad g q (st_u r 20 13 (0 : Int32)) o) rfl h.1 dc_M_looked_11 ?_
  have h := h.2
  refine sw_eq (st' := [.int (r 28 (a1).toNatClampNeg), .ref (ad 20)]) rfl rfl rfl ?_
  refine sw_cV_v (n := 1) X hA nw_okA hNs hE (fun u : st_I => wd_W cI cL cZ ad g q u o) [.int (r 28 (a1).toNatClampNeg)] 20 (wd_20 cI cL cZ ad g q (st_u r 20 13 (0 : Int32)) o) rfl rfl (ct_M_look l D cI cL cZ ad g q o (r 28 (a1).toNatClampNeg) (st_u r 20 13 (0 : Int32)) _ h) (List.mem_cons_of_mem _ wm_ml_M_128) (List.mem_cons_of_mem _ wm_im_M_look) (List.mem_cons_of_mem _ wm_se_M_look) rfl (wg_in wm_code_M_look) rfl rfl (List.mem_cons_of_mem _ wm_in_M) ⟨by decide, by decide, by decide +kernel⟩ ⟨Nat.le_of_ble_eq_true rfl, Nat.le_of_ble_eq_true rfl⟩ ⟨Nat.zero_le _, Nat.zero_le _⟩ rfl (Nat.le_of_ble_eq_true rfl) dc_M_looked_12 rfl (fun u12 h => ?_)
  refine sw_aload_n X 0 rfl rfl dc_M_looked_15 ?_
  refine sw_get X (fun z hz => List.mem_cons_of_mem _ (wf_M z hz)) 20 (wd_20 cI cL cZ ad g q u12 o) rfl 16 (by decide) (List.mem_cons_of_mem _ wm_fl_M_53) rfl dc_M_looked_16 ?_
  refine sw_iconst (v := 0) X dc_M_looked_19 (by decide) ?_
  refine sw_iload_n X 2 rfl rfl dc_M_looked_20 ?_
  refine sw_iast X 35 0 (wd_35 cI cL cZ ad g q u12 o) rfl h.1 (wd_W cI cL cZ ad g q (st_u u12 35 ((0 : Int32)).toNatClampNeg a2) o) (ws_35 cI cL cZ ad g q u12 o ((0 : Int32)).toNatClampNeg a2) dc_M_looked_21 ?_
  have h := h.2
  refine sw_aload_n X 0 rfl rfl dc_M_looked_22 ?_
  refine sw_get X (fun z hz => List.mem_cons_of_mem _ (wf_M z hz)) 20 (wd_20 cI cL cZ ad g q (st_u u12 35 ((0 : Int32)).toNatClampNeg a2) o) rfl 16 (by decide) (List.mem_cons_of_mem _ wm_fl_M_53) rfl dc_M_looked_23 ?_
  refine sw_iconst (v := 1) X dc_M_looked_26 (by decide) ?_
  refine sw_iload_n X 1 rfl rfl dc_M_looked_27 ?_
  refine sw_cS_i (n := 1) X hA nw_okA hNs hE (fun u : st_I => wd_W cI cL cZ ad g q u o) [.int a1] (ct_M_parameters l D cI cL cZ ad g q o a1 (st_u u12 35 ((0 : Int32)).toNatClampNeg a2) _ h) (List.mem_cons_of_mem _ wm_ml_M_91) (List.mem_cons_of_mem _ wm_st_M_parameters) rfl (wg_in wm_code_M_parameters) rfl rfl (List.mem_cons_of_mem _ wm_in_M) ⟨by decide, by decide, by decide +kernel⟩ ⟨Nat.le_of_ble_eq_true rfl, Nat.le_of_ble_eq_true rfl⟩ ⟨Nat.zero_le _, Nat.zero_le _⟩ rfl (Nat.le_of_ble_eq_true rfl) dc_M_looked_28 rfl (fun x28 u28 h => ?_)
  refine sw_iconst (v := 1) X dc_M_looked_31 (by decide) ?_
  refine sw_icmp_ne (tgt := 39) X dc_M_looked_32 (by decide) (fun z => ?_) (fun z => ?_)
  · have h := h.1 z
    refine sw_iload_n X 3 rfl rfl dc_M_looked_39 ?_
    refine sw_sub [0] rfl ?_
    exact b40 u28 a3 (1 : Int32) h
  · have h := h.2 z
    refine sw_iconst (v := 0) X dc_M_looked_35 (by decide) ?_
    refine sw_goto (tgt := 40) X dc_M_looked_36 (by decide) ?_
    refine sw_sub [0] rfl ?_
    exact b40 u28 (0 : Int32) (1 : Int32) h
def wp_M_learn_L143 (Q : (Int32 → st_I → Prop)) (H38 : st_I → Int32 → Int32 → Int32 → Prop) (r : st_I) (v1 : Int32) (v4 : Int32) (v5 : Int32) (t0 : Int32) : Prop := vp_in (((2 : Int32) * v1) + v4) 12 ∧ H38 (st_u r 29 ((((2 : Int32) * v1) + v4)).toNatClampNeg v5) v1 t0 (v4 + 1)
def wp_M_learn_L138 (Q : (Int32 → st_I → Prop)) (H38 : st_I → Int32 → Int32 → Int32 → Prop) (r : st_I) (v1 : Int32) (v4 : Int32) (v5 : Int32) : Prop := wp_M_learn_L143 Q H38 r v1 v4 v5 (1 : Int32)
def wp_M_learn_L109 (Q : (Int32 → st_I → Prop)) (H38 : st_I → Int32 → Int32 → Int32 → Prop) (H53 : st_I → Int32 → Int32 → Int32 → Int32 → Int32 → Prop) (r : st_I) (v1 : Int32) (v3 : Int32) (v4 : Int32) (v6 : Int32) (t0 : Int32) (t1 : Int32) : Prop := H53 r v1 v3 v4 (t1 ||| t0) (v6 + 1)
def wp_M_learn_L95 (Q : (Int32 → st_I → Prop)) (H38 : st_I → Int32 → Int32 → Int32 → Prop) (H53 : st_I → Int32 → Int32 → Int32 → Int32 → Int32 → Prop) (r : st_I) (v1 : Int32) (v3 : Int32) (v4 : Int32) (v6 : Int32) (t0 : Int32) (t1 : Int32) (t2 : Int32) (t4 : Int32) : Prop := wp_M_looked t2 t1 t0 r (fun x95 u95 => (x95 = 0 → wp_M_learn_L109 Q H38 H53 u95 v1 v3 v4 v6 (0 : Int32) t4) ∧ (¬ x95 = 0 → wp_M_learn_L109 Q H38 H53 u95 v1 v3 v4 v6 ((1 : Int32) <<< (v6 &&& 31)) t4))
def wp_M_learn_L79 (Q : (Int32 → st_I → Prop)) (H38 : st_I → Int32 → Int32 → Int32 → Prop) (H53 : st_I → Int32 → Int32 → Int32 → Int32 → Int32 → Prop) (r : st_I) (v1 : Int32) (v3 : Int32) (v4 : Int32) (v6 : Int32) (t0 : Int32) (t1 : Int32) (t3 : Int32) : Prop := (¬ v4 = (1 : Int32) → wp_M_learn_L95 Q H38 H53 r v1 v3 v4 v6 (511 : Int32) t0 t1 t3) ∧ (v4 = (1 : Int32) → wp_M_learn_L95 Q H38 H53 r v1 v3 v4 v6 ((1 : Int32) <<< (v6 &&& 31)) t0 t1 t3)
def wp_M_learn_L53 (Q : (Int32 → st_I → Prop)) (H38 : st_I → Int32 → Int32 → Int32 → Prop) : Nat → st_I → Int32 → Int32 → Int32 → Int32 → Int32 → Prop
  | 0 => fun _ _ _ _ _ _ => False
  | n53 + 1 => fun r v1 v3 v4 v5 v6 => ((9 : Int32) ≤ v6 → (¬ v3 = 0 → wp_M_learn_L138 Q H38 r v1 v4 v5) ∧ (v3 = 0 → vp_in (((2 : Int32) * v1) + v4) 12 ∧ (v5 = (r 29 ((((2 : Int32) * v1) + v4)).toNatClampNeg) → wp_M_learn_L143 Q H38 r v1 v4 v5 (0 : Int32)) ∧ (¬ v5 = (r 29 ((((2 : Int32) * v1) + v4)).toNatClampNeg) → wp_M_learn_L138 Q H38 r v1 v4 v5))) ∧ (¬ (9 : Int32) ≤ v6 → (¬ v4 = 0 → wp_M_learn_L79 Q H38 (wp_M_learn_L53 Q H38 n53) r v1 v3 v4 v6 (511 : Int32) v1 v5) ∧ (v4 = 0 → wp_M_learn_L79 Q H38 (wp_M_learn_L53 Q H38 n53) r v1 v3 v4 v6 ((1 : Int32) <<< (v6 &&& 31)) v1 v5))
def wp_M_learn_L38 (Q : (Int32 → st_I → Prop)) : Nat → st_I → Int32 → Int32 → Int32 → Prop
  | 0 => fun _ _ _ _ => False
  | n38 + 1 => fun r v1 v3 v4 => wp_M_parameters v1 r (fun x41 u41 => (x41 ≤ v4 → narrow .boolean (.int v3) = .int v3 ∧ Q v3 u41) ∧ (¬ x41 ≤ v4 → ∃ n53, wp_M_learn_L53 Q (wp_M_learn_L38 Q n38) n53 u41 v1 v3 v4 (0 : Int32) (0 : Int32)))
def wp_M_learn_L27 (Q : (Int32 → st_I → Prop)) (r : st_I) (v1 : Int32) (v2 : Int32) (t0 : Int32) : Prop := vp_in v1 6 ∧ ∃ n38, wp_M_learn_L38 Q n38 (st_u r 30 (v1).toNatClampNeg v2) v1 t0 (0 : Int32)
def wp_M_learn (a1 : Int32) (r : st_I) (Q : (Int32 → st_I → Prop)) : Prop := wp_M_looked a1 (511 : Int32) (511 : Int32) r (fun x8 u8 => vp_in a1 6 ∧ (x8 = (u8 30 (a1).toNatClampNeg) → wp_M_learn_L27 Q u8 a1 x8 (0 : Int32)) ∧ (¬ x8 = (u8 30 (a1).toNatClampNeg) → wp_M_learn_L27 Q u8 a1 x8 (1 : Int32)))
set_option maxHeartbeats 4000000 in
set_option maxRecDepth 100000 in
theorem ct_M_learn (l : Launch) (D : va_G) (cI cL cZ : ClassId) (ad : Nat → Nat) (g : st_I) (q : st_L) (o : st_L) (a1 : Int32) (r : st_I) (Q : (Int32 → st_I → Prop)) (h : wp_M_learn a1 r Q) : ∀ sz, Met l yn_M_learn (Cond.code yn_M_learn cd_M_learn 7 (some .boolean) :: wa_A) { frames := 5, cells := 0, slots := 0, locals := 116 } (va_Pc [.ref (ad 20), .int a1] (wq_S D cl_A (wd_T cI cL cZ) nw_A (wd_W cI cL cZ ad g q r o) sz)) (va_Qi Q (fun u t => wq_E D cl_A (wd_T cI cL cZ) (va_A (wd_W cI cL cZ ad g q r o) sz) (wd_W cI cL cZ ad g q u o) t) (va_A (wd_W cI cL cZ ad g q r o) sz)) 0 0 (va_A (wd_W cI cL cZ ad g q r o) sz) := by
  refine sw_met (Qc := fun A => va_Qi Q (fun u t => wq_E D cl_A (wd_T cI cL cZ) A (wd_W cI cL cZ ad g q u o) t) A) (by decide) rfl (Nat.le_of_ble_eq_true rfl) rfl ?_
  intro p e s m args below meth c A X hA hNs hE hr hlk hnm
  have b143 : ∀ (H38 : st_I → Int32 → Int32 → Int32 → Prop) (hH38 : ∀ (r : st_I) (v1 : Int32) (v3 : Int32) (v4 : Int32), H38 r v1 v3 v4 → sw_J p l e { frames := 5, cells := 0, slots := 0, locals := 116 } s m args below meth c 0 0 (MQ below (va_Qi Q (fun u t => wq_E D cl_A (wd_T cI cL cZ) A (wd_W cI cL cZ ad g q u o) t) A) args s 0 0 A) D cl_A A 7 (wd_W cI cL cZ ad g q r o) 38 [(0, .ref (ad 20)), (1, .int v1), (3, .int v3), (4, .int v4)] []) (r : st_I) (v1 : Int32) (v4 : Int32) (v5 : Int32) (t0 : Int32), wp_M_learn_L143 Q H38 r v1 v4 v5 t0 → sw_J p l e { frames := 5, cells := 0, slots := 0, locals := 116 } s m args below meth c 0 0 (MQ below (va_Qi Q (fun u t => wq_E D cl_A (wd_T cI cL cZ) A (wd_W cI cL cZ ad g q u o) t) A) args s 0 0 A) D cl_A A 7 (wd_W cI cL cZ ad g q r o) 143 [(0, .ref (ad 20)), (1, .int v1), (4, .int v4), (5, .int v5)] [.int t0] := by
    intro H38 hH38 r v1 v4 v5 t0 h
    refine sw_istore_n X [(3, .int t0), (0, .ref (ad 20)), (1, .int v1), (4, .int v4), (5, .int v5)] rfl (by decide) rfl dc_M_learn_143 ?_
    refine sw_aload_n X 1 rfl rfl dc_M_learn_144 ?_
    refine sw_get X (fun z hz => List.mem_cons_of_mem _ (wf_M z hz)) 20 (wd_20 cI cL cZ ad g q r o) rfl 9 (by decide) (List.mem_cons_of_mem _ wm_fl_M_34) rfl dc_M_learn_145 ?_
    refine sw_iconst (v := 2) X dc_M_learn_148 (by decide) ?_
    refine sw_iload_n X 2 rfl rfl dc_M_learn_149 ?_
    refine sw_imul X dc_M_learn_150 ?_
    refine sw_iload X 3 rfl dc_M_learn_151 ?_
    refine sw_iadd X dc_M_learn_153 ?_
    refine sw_iload X 4 rfl dc_M_learn_154 ?_
    refine sw_iast X 29 0 (wd_29 cI cL cZ ad g q r o) rfl h.1 (wd_W cI cL cZ ad g q (st_u r 29 ((((2 : Int32) * v1) + v4)).toNatClampNeg v5) o) (ws_29 cI cL cZ ad g q r o ((((2 : Int32) * v1) + v4)).toNatClampNeg v5) dc_M_learn_156 ?_
    have h := h.2
    refine sw_iinc (n := 1) (v := (v4 + 1)) X 3 rfl rfl [(4, .int (v4 + 1)), (3, .int t0), (0, .ref (ad 20)), (1, .int v1), (5, .int v5)] rfl (by decide) dc_M_learn_157 ?_
    refine sw_goto (tgt := 38) X dc_M_learn_160 (by decide) ?_
    refine sw_sub [2, 3, 1, 0] rfl ?_
    exact hH38 (st_u r 29 ((((2 : Int32) * v1) + v4)).toNatClampNeg v5) v1 t0 (v4 + 1) h
  have b138 : ∀ (H38 : st_I → Int32 → Int32 → Int32 → Prop) (hH38 : ∀ (r : st_I) (v1 : Int32) (v3 : Int32) (v4 : Int32), H38 r v1 v3 v4 → sw_J p l e { frames := 5, cells := 0, slots := 0, locals := 116 } s m args below meth c 0 0 (MQ below (va_Qi Q (fun u t => wq_E D cl_A (wd_T cI cL cZ) A (wd_W cI cL cZ ad g q u o) t) A) args s 0 0 A) D cl_A A 7 (wd_W cI cL cZ ad g q r o) 38 [(0, .ref (ad 20)), (1, .int v1), (3, .int v3), (4, .int v4)] []) (r : st_I) (v1 : Int32) (v4 : Int32) (v5 : Int32), wp_M_learn_L138 Q H38 r v1 v4 v5 → sw_J p l e { frames := 5, cells := 0, slots := 0, locals := 116 } s m args below meth c 0 0 (MQ below (va_Qi Q (fun u t => wq_E D cl_A (wd_T cI cL cZ) A (wd_W cI cL cZ ad g q u o) t) A) args s 0 0 A) D cl_A A 7 (wd_W cI cL cZ ad g q r o) 138 [(0, .ref (ad 20)), (1, .int v1), (4, .int v4), (5, .int v5)] [] := by
    intro H38 hH38 r v1 v4 v5 h
    refine sw_iconst (v := 1) X dc_M_learn_138 (by decide) ?_
    refine sw_goto (tgt := 143) X dc_M_learn_139 (by decide) ?_
    exact b143 H38 hH38 r v1 v4 v5 (1 : Int32) h
  have b109 : ∀ (H38 : st_I → Int32 → Int32 → Int32 → Prop) (hH38 : ∀ (r : st_I) (v1 : Int32) (v3 : Int32) (v4 : Int32), H38 r v1 v3 v4 → sw_J p l e { frames := 5, cells := 0, slots := 0, locals := 116 } s m args below meth c 0 0 (MQ below (va_Qi Q (fun u t => wq_E D cl_A (wd_T cI cL cZ) A (wd_W cI cL cZ ad g q u o) t) A) args s 0 0 A) D cl_A A 7 (wd_W cI cL cZ ad g q r o) 38 [(0, .ref (ad 20)), (1, .int v1), (3, .int v3), (4, .int v4)] []) (H53 : st_I → Int32 → Int32 → Int32 → Int32 → Int32 → Prop) (hH53 : ∀ (r : st_I) (v1 : Int32) (v3 : Int32) (v4 : Int32) (v5 : Int32) (v6 : Int32), H53 r v1 v3 v4 v5 v6 → sw_J p l e { frames := 5, cells := 0, slots := 0, locals := 116 } s m args below meth c 0 0 (MQ below (va_Qi Q (fun u t => wq_E D cl_A (wd_T cI cL cZ) A (wd_W cI cL cZ ad g q u o) t) A) args s 0 0 A) D cl_A A 7 (wd_W cI cL cZ ad g q r o) 53 [(0, .ref (ad 20)), (1, .int v1), (3, .int v3), (4, .int v4), (5, .int v5), (6, .int v6)] []) (r : st_I) (v1 : Int32) (v3 : Int32) (v4 : Int32) (v6 : Int32) (t0 : Int32) (t1 : Int32), wp_M_learn_L109 Q H38 H53 r v1 v3 v4 v6 t0 t1 → sw_J p l e { frames := 5, cells := 0, slots := 0, locals := 116 } s m args below meth c 0 0 (MQ below (va_Qi Q (fun u t => wq_E D cl_A (wd_T cI cL cZ) A (wd_W cI cL cZ ad g q u o) t) A) args s 0 0 A) D cl_A A 7 (wd_W cI cL cZ ad g q r o) 109 [(0, .ref (ad 20)), (1, .int v1), (3, .int v3), (4, .int v4), (6, .int v6)] [.int t0, .int t1] := by
    intro H38 hH38 H53 hH53 r v1 v3 v4 v6 t0 t1 h
    refine sw_ior X dc_M_learn_109 ?_
    refine sw_istore X [(5, .int (t1 ||| t0)), (0, .ref (ad 20)), (1, .int v1), (3, .int v3), (4, .int v4), (6, .int v6)] rfl (by decide) dc_M_learn_110 ?_
    refine sw_iinc (n := 1) (v := (v6 + 1)) X 5 rfl rfl [(6, .int (v6 + 1)), (5, .int (t1 ||| t0)), (0, .ref (ad 20)), (1, .int v1), (3, .int v3), (4, .int v4)] rfl (by decide) dc_M_learn_112 ?_
    refine sw_goto (tgt := 53) X dc_M_learn_115 (by decide) ?_
    refine sw_sub [2, 3, 4, 5, 1, 0] rfl ?_
    exact hH53 r v1 v3 v4 (t1 ||| t0) (v6 + 1) h
  have b95 : ∀ (H38 : st_I → Int32 → Int32 → Int32 → Prop) (hH38 : ∀ (r : st_I) (v1 : Int32) (v3 : Int32) (v4 : Int32), H38 r v1 v3 v4 → sw_J p l e { frames := 5, cells := 0, slots := 0, locals := 116 } s m args below meth c 0 0 (MQ below (va_Qi Q (fun u t => wq_E D cl_A (wd_T cI cL cZ) A (wd_W cI cL cZ ad g q u o) t) A) args s 0 0 A) D cl_A A 7 (wd_W cI cL cZ ad g q r o) 38 [(0, .ref (ad 20)), (1, .int v1), (3, .int v3), (4, .int v4)] []) (H53 : st_I → Int32 → Int32 → Int32 → Int32 → Int32 → Prop) (hH53 : ∀ (r : st_I) (v1 : Int32) (v3 : Int32) (v4 : Int32) (v5 : Int32) (v6 : Int32), H53 r v1 v3 v4 v5 v6 → sw_J p l e { frames := 5, cells := 0, slots := 0, locals := 116 } s m args below meth c 0 0 (MQ below (va_Qi Q (fun u t => wq_E D cl_A (wd_T cI cL cZ) A (wd_W cI cL cZ ad g q u o) t) A) args s 0 0 A) D cl_A A 7 (wd_W cI cL cZ ad g q r o) 53 [(0, .ref (ad 20)), (1, .int v1), (3, .int v3), (4, .int v4), (5, .int v5), (6, .int v6)] []) (r : st_I) (v1 : Int32) (v3 : Int32) (v4 : Int32) (v6 : Int32) (t0 : Int32) (t1 : Int32) (t2 : Int32) (t4 : Int32), wp_M_learn_L95 Q H38 H53 r v1 v3 v4 v6 t0 t1 t2 t4 → sw_J p l e { frames := 5, cells := 0, slots := 0, locals := 116 } s m args below meth c 0 0 (MQ below (va_Qi Q (fun u t => wq_E D cl_A (wd_T cI cL cZ) A (wd_W cI cL cZ ad g q u o) t) A) args s 0 0 A) D cl_A A 7 (wd_W cI cL cZ ad g q r o) 95 [(0, .ref (ad 20)), (1, .int v1), (3, .int v3), (4, .int v4), (6, .int v6)] [.int t0, .int t1, .int t2, .ref (ad 20), .int t4] := by
    intro H38 hH38 H53 hH53 r v1 v3 v4 v6 t0 t1 t2 t4 h
    refine sw_cV_i (n := 3) X hA nw_okA hNs hE (fun u : st_I => wd_W cI cL cZ ad g q u o) [.int t2, .int t1, .int t0] 20 (wd_20 cI cL cZ ad g q r o) rfl rfl (ct_M_looked l D cI cL cZ ad g q o t2 t1 t0 r _ h) (List.mem_cons_of_mem _ wm_ml_M_149) (List.mem_cons_of_mem _ wm_im_M_looked) (List.mem_cons_of_mem _ wm_se_M_looked) rfl (wg_in wm_code_M_looked) rfl rfl (List.mem_cons_of_mem _ wm_in_M) ⟨by decide, by decide, by decide +kernel⟩ ⟨Nat.le_of_ble_eq_true rfl, Nat.le_of_ble_eq_true rfl⟩ ⟨Nat.zero_le _, Nat.zero_le _⟩ rfl (Nat.le_of_ble_eq_true rfl) dc_M_learn_95 rfl (fun x95 u95 h => ?_)
    refine sw_if_eq (tgt := 108) X dc_M_learn_98 (by decide) (fun z => ?_) (fun z => ?_)
    · have h := h.1 z
      refine sw_iconst (v := 0) X dc_M_learn_108 (by decide) ?_
      exact b109 H38 hH38 H53 hH53 u95 v1 v3 v4 v6 (0 : Int32) t4 h
    · have h := h.2 z
      refine sw_iconst (v := 1) X dc_M_learn_101 (by decide) ?_
      refine sw_iload X 4 rfl dc_M_learn_102 ?_
      refine sw_ishl X dc_M_learn_104 ?_
      refine sw_goto (tgt := 109) X dc_M_learn_105 (by decide) ?_
      exact b109 H38 hH38 H53 hH53 u95 v1 v3 v4 v6 ((1 : Int32) <<< (v6 &&& 31)) t4 h
  have b79 : ∀ (H38 : st_I → Int32 → Int32 → Int32 → Prop) (hH38 : ∀ (r : st_I) (v1 : Int32) (v3 : Int32) (v4 : Int32), H38 r v1 v3 v4 → sw_J p l e { frames := 5, cells := 0, slots := 0, locals := 116 } s m args below meth c 0 0 (MQ below (va_Qi Q (fun u t => wq_E D cl_A (wd_T cI cL cZ) A (wd_W cI cL cZ ad g q u o) t) A) args s 0 0 A) D cl_A A 7 (wd_W cI cL cZ ad g q r o) 38 [(0, .ref (ad 20)), (1, .int v1), (3, .int v3), (4, .int v4)] []) (H53 : st_I → Int32 → Int32 → Int32 → Int32 → Int32 → Prop) (hH53 : ∀ (r : st_I) (v1 : Int32) (v3 : Int32) (v4 : Int32) (v5 : Int32) (v6 : Int32), H53 r v1 v3 v4 v5 v6 → sw_J p l e { frames := 5, cells := 0, slots := 0, locals := 116 } s m args below meth c 0 0 (MQ below (va_Qi Q (fun u t => wq_E D cl_A (wd_T cI cL cZ) A (wd_W cI cL cZ ad g q u o) t) A) args s 0 0 A) D cl_A A 7 (wd_W cI cL cZ ad g q r o) 53 [(0, .ref (ad 20)), (1, .int v1), (3, .int v3), (4, .int v4), (5, .int v5), (6, .int v6)] []) (r : st_I) (v1 : Int32) (v3 : Int32) (v4 : Int32) (v6 : Int32) (t0 : Int32) (t1 : Int32) (t3 : Int32), wp_M_learn_L79 Q H38 H53 r v1 v3 v4 v6 t0 t1 t3 → sw_J p l e { frames := 5, cells := 0, slots := 0, locals := 116 } s m args below meth c 0 0 (MQ below (va_Qi Q (fun u t => wq_E D cl_A (wd_T cI cL cZ) A (wd_W cI cL cZ ad g q u o) t) A) args s 0 0 A) D cl_A A 7 (wd_W cI cL cZ ad g q r o) 79 [(0, .ref (ad 20)), (1, .int v1), (3, .int v3), (4, .int v4), (6, .int v6)] [.int t0, .int t1, .ref (ad 20), .int t3] := by
    intro H38 hH38 H53 hH53 r v1 v3 v4 v6 t0 t1 t3 h
    refine sw_iload X 3 rfl dc_M_learn_79 ?_
    refine sw_iconst (v := 1) X dc_M_learn_81 (by decide) ?_
    refine sw_icmp_ne (tgt := 92) X dc_M_learn_82 (by decide) (fun z => ?_) (fun z => ?_)
    · have h := h.1 z
      refine sw_sipush (v := 511) X dc_M_learn_92 (by decide) ?_
      exact b95 H38 hH38 H53 hH53 r v1 v3 v4 v6 (511 : Int32) t0 t1 t3 h
    · have h := h.2 z
      refine sw_iconst (v := 1) X dc_M_learn_85 (by decide) ?_
      refine sw_iload X 4 rfl dc_M_learn_86 ?_
      refine sw_ishl X dc_M_learn_88 ?_
      refine sw_goto (tgt := 95) X dc_M_learn_89 (by decide) ?_
      exact b95 H38 hH38 H53 hH53 r v1 v3 v4 v6 ((1 : Int32) <<< (v6 &&& 31)) t0 t1 t3 h
  have b53 : ∀ (H38 : st_I → Int32 → Int32 → Int32 → Prop) (hH38 : ∀ (r : st_I) (v1 : Int32) (v3 : Int32) (v4 : Int32), H38 r v1 v3 v4 → sw_J p l e { frames := 5, cells := 0, slots := 0, locals := 116 } s m args below meth c 0 0 (MQ below (va_Qi Q (fun u t => wq_E D cl_A (wd_T cI cL cZ) A (wd_W cI cL cZ ad g q u o) t) A) args s 0 0 A) D cl_A A 7 (wd_W cI cL cZ ad g q r o) 38 [(0, .ref (ad 20)), (1, .int v1), (3, .int v3), (4, .int v4)] []) (n : Nat) (r : st_I) (v1 : Int32) (v3 : Int32) (v4 : Int32) (v5 : Int32) (v6 : Int32), wp_M_learn_L53 Q H38 n r v1 v3 v4 v5 v6 → sw_J p l e { frames := 5, cells := 0, slots := 0, locals := 116 } s m args below meth c 0 0 (MQ below (va_Qi Q (fun u t => wq_E D cl_A (wd_T cI cL cZ) A (wd_W cI cL cZ ad g q u o) t) A) args s 0 0 A) D cl_A A 7 (wd_W cI cL cZ ad g q r o) 53 [(0, .ref (ad 20)), (1, .int v1), (3, .int v3), (4, .int v4), (5, .int v5), (6, .int v6)] [] := by
    intro H38 hH38 n53
    induction n53 with
    | zero => intro r v1 v3 v4 v5 v6 h; exact h.elim
    | succ n53 hH53 =>
    intro r v1 v3 v4 v5 v6 h
    refine sw_iload X 5 rfl dc_M_learn_53 ?_
    refine sw_bipush (v := 9) X dc_M_learn_55 (by decide) ?_
    refine sw_icmp_ge (tgt := 118) X dc_M_learn_57 (by decide) (fun z => ?_) (fun z => ?_)
    · have h := h.1 z
      refine sw_iload_n X 2 rfl rfl dc_M_learn_118 ?_
      refine sw_if_ne (tgt := 138) X dc_M_learn_119 (by decide) (fun z => ?_) (fun z => ?_)
      · have h := h.1 z
        refine sw_sub [0, 1, 3, 4] rfl ?_
        exact b138 H38 hH38 r v1 v4 v5 h
      · have h := h.2 z
        refine sw_iload X 4 rfl dc_M_learn_122 ?_
        refine sw_aload_n X 0 rfl rfl dc_M_learn_124 ?_
        refine sw_get X (fun z hz => List.mem_cons_of_mem _ (wf_M z hz)) 20 (wd_20 cI cL cZ ad g q r o) rfl 9 (by decide) (List.mem_cons_of_mem _ wm_fl_M_34) rfl dc_M_learn_125 ?_
        refine sw_iconst (v := 2) X dc_M_learn_128 (by decide) ?_
        refine sw_iload_n X 1 rfl rfl dc_M_learn_129 ?_
        refine sw_imul X dc_M_learn_130 ?_
        refine sw_iload X 3 rfl dc_M_learn_131 ?_
        refine sw_iadd X dc_M_learn_133 ?_
        refine sw_iald X 29 0 (wd_29 cI cL cZ ad g q r o) rfl h.1 dc_M_learn_134 ?_
        have h := h.2
        refine sw_icmp_eq (tgt := 142) X dc_M_learn_135 (by decide) (fun z => ?_) (fun z => ?_)
        · have h := h.1 z
          refine sw_iconst (v := 0) X dc_M_learn_142 (by decide) ?_
          refine sw_sub [0, 1, 3, 4] rfl ?_
          exact b143 H38 hH38 r v1 v4 v5 (0 : Int32) h
        · have h := h.2 z
          refine sw_sub [0, 1, 3, 4] rfl ?_
          exact b138 H38 hH38 r v1 v4 v5 h
    · have h := h.2 z
      refine sw_iload X 4 rfl dc_M_learn_60 ?_
      refine sw_aload_n X 0 rfl rfl dc_M_learn_62 ?_
      refine sw_iload_n X 1 rfl rfl dc_M_learn_63 ?_
      refine sw_iload X 3 rfl dc_M_learn_64 ?_
      refine sw_if_ne (tgt := 76) X dc_M_learn_66 (by decide) (fun z => ?_) (fun z => ?_)
      · have h := h.1 z
        refine sw_sipush (v := 511) X dc_M_learn_76 (by decide) ?_
        refine sw_sub [0, 1, 2, 3, 5] rfl ?_
        exact b79 H38 hH38 (wp_M_learn_L53 Q H38 n53) hH53 r v1 v3 v4 v6 (511 : Int32) v1 v5 h
      · have h := h.2 z
        refine sw_iconst (v := 1) X dc_M_learn_69 (by decide) ?_
        refine sw_iload X 5 rfl dc_M_learn_70 ?_
        refine sw_ishl X dc_M_learn_72 ?_
        refine sw_goto (tgt := 79) X dc_M_learn_73 (by decide) ?_
        refine sw_sub [0, 1, 2, 3, 5] rfl ?_
        exact b79 H38 hH38 (wp_M_learn_L53 Q H38 n53) hH53 r v1 v3 v4 v6 ((1 : Int32) <<< (v6 &&& 31)) v1 v5 h
  have b38 : ∀ (n : Nat) (r : st_I) (v1 : Int32) (v3 : Int32) (v4 : Int32), wp_M_learn_L38 Q n r v1 v3 v4 → sw_J p l e { frames := 5, cells := 0, slots := 0, locals := 116 } s m args below meth c 0 0 (MQ below (va_Qi Q (fun u t => wq_E D cl_A (wd_T cI cL cZ) A (wd_W cI cL cZ ad g q u o) t) A) args s 0 0 A) D cl_A A 7 (wd_W cI cL cZ ad g q r o) 38 [(0, .ref (ad 20)), (1, .int v1), (3, .int v3), (4, .int v4)] [] := by
    intro n38
    induction n38 with
    | zero => intro r v1 v3 v4 h; exact h.elim
    | succ n38 hH38 =>
    intro r v1 v3 v4 h
    refine sw_iload X 3 rfl dc_M_learn_38 ?_
    refine sw_iload_n X 1 rfl rfl dc_M_learn_40 ?_
    refine sw_cS_i (n := 1) X hA nw_okA hNs hE (fun u : st_I => wd_W cI cL cZ ad g q u o) [.int v1] (ct_M_parameters l D cI cL cZ ad g q o v1 r _ h) (List.mem_cons_of_mem _ wm_ml_M_91) (List.mem_cons_of_mem _ wm_st_M_parameters) rfl (wg_in wm_code_M_parameters) rfl rfl (List.mem_cons_of_mem _ wm_in_M) ⟨by decide, by decide, by decide +kernel⟩ ⟨Nat.le_of_ble_eq_true rfl, Nat.le_of_ble_eq_true rfl⟩ ⟨Nat.zero_le _, Nat.zero_le _⟩ rfl (Nat.le_of_ble_eq_true rfl) dc_M_learn_41 rfl (fun x41 u41 h => ?_)
    refine sw_icmp_ge (tgt := 163) X dc_M_learn_44 (by decide) (fun z => ?_) (fun z => ?_)
    · have h := h.1 z
      refine sw_iload_n X 2 rfl rfl dc_M_learn_163 ?_
      exact sw_zret X hr hlk h.1 (u := u41) rfl h.2 dc_M_learn_164
    · have h := h.2 z
      refine sw_iconst (v := 0) X dc_M_learn_47 (by decide) ?_
      refine sw_istore X [(5, .int (0 : Int32)), (0, .ref (ad 20)), (1, .int v1), (3, .int v3), (4, .int v4)] rfl (by decide) dc_M_learn_48 ?_
      refine sw_iconst (v := 0) X dc_M_learn_50 (by decide) ?_
      refine sw_istore X [(6, .int (0 : Int32)), (5, .int (0 : Int32)), (0, .ref (ad 20)), (1, .int v1), (3, .int v3), (4, .int v4)] rfl (by decide) dc_M_learn_51 ?_
      refine sw_sub [2, 3, 4, 5, 1, 0] rfl ?_
      obtain ⟨n53, h⟩ := h
      exact b53 (wp_M_learn_L38 Q n38) hH38 n53 u41 v1 v3 v4 (0 : Int32) (0 : Int32) h
  have b27 : ∀ (r : st_I) (v1 : Int32) (v2 : Int32) (t0 : Int32), wp_M_learn_L27 Q r v1 v2 t0 → sw_J p l e { frames := 5, cells := 0, slots := 0, locals := 116 } s m args below meth c 0 0 (MQ below (va_Qi Q (fun u t => wq_E D cl_A (wd_T cI cL cZ) A (wd_W cI cL cZ ad g q u o) t) A) args s 0 0 A) D cl_A A 7 (wd_W cI cL cZ ad g q r o) 27 [(0, .ref (ad 20)), (1, .int v1), (2, .int v2)] [.int t0] := by
    intro r v1 v2 t0 h
    refine sw_istore_n X [(3, .int t0), (0, .ref (ad 20)), (1, .int v1), (2, .int v2)] rfl (by decide) rfl dc_M_learn_27 ?_
    refine sw_aload_n X 1 rfl rfl dc_M_learn_28 ?_
    refine sw_get X (fun z hz => List.mem_cons_of_mem _ (wf_M z hz)) 20 (wd_20 cI cL cZ ad g q r o) rfl 10 (by decide) (List.mem_cons_of_mem _ wm_fl_M_37) rfl dc_M_learn_29 ?_
    refine sw_iload_n X 2 rfl rfl dc_M_learn_32 ?_
    refine sw_iload_n X 3 rfl rfl dc_M_learn_33 ?_
    refine sw_iast X 30 0 (wd_30 cI cL cZ ad g q r o) rfl h.1 (wd_W cI cL cZ ad g q (st_u r 30 (v1).toNatClampNeg v2) o) (ws_30 cI cL cZ ad g q r o (v1).toNatClampNeg v2) dc_M_learn_34 ?_
    have h := h.2
    refine sw_iconst (v := 0) X dc_M_learn_35 (by decide) ?_
    refine sw_istore X [(4, .int (0 : Int32)), (3, .int t0), (0, .ref (ad 20)), (1, .int v1), (2, .int v2)] rfl (by decide) dc_M_learn_36 ?_
    refine sw_sub [2, 3, 1, 0] rfl ?_
    obtain ⟨n38, h⟩ := h
    exact b38 n38 (st_u r 30 (v1).toNatClampNeg v2) v1 t0 (0 : Int32) h
  refine sw_aload_n X 0 rfl rfl dc_M_learn_0 ?_
  refine sw_iload_n X 1 rfl rfl dc_M_learn_1 ?_
  refine sw_sipush (v := 511) X dc_M_learn_2 (by decide) ?_
  refine sw_sipush (v := 511) X dc_M_learn_5 (by decide) ?_
  refine sw_cV_i (n := 3) X hA nw_okA hNs hE (fun u : st_I => wd_W cI cL cZ ad g q u o) [.int a1, .int (511 : Int32), .int (511 : Int32)] 20 (wd_20 cI cL cZ ad g q r o) rfl rfl (ct_M_looked l D cI cL cZ ad g q o a1 (511 : Int32) (511 : Int32) r _ h) (List.mem_cons_of_mem _ wm_ml_M_149) (List.mem_cons_of_mem _ wm_im_M_looked) (List.mem_cons_of_mem _ wm_se_M_looked) rfl (wg_in wm_code_M_looked) rfl rfl (List.mem_cons_of_mem _ wm_in_M) ⟨by decide, by decide, by decide +kernel⟩ ⟨Nat.le_of_ble_eq_true rfl, Nat.le_of_ble_eq_true rfl⟩ ⟨Nat.zero_le _, Nat.zero_le _⟩ rfl (Nat.le_of_ble_eq_true rfl) dc_M_learn_8 rfl (fun x8 u8 h => ?_)
  refine sw_istore_n X [(2, .int x8), (0, .ref (ad 20)), (1, .int a1)] rfl (by decide) rfl dc_M_learn_11 ?_
  refine sw_iload_n X 0 rfl rfl dc_M_learn_12 ?_
  refine sw_aload_n X 1 rfl rfl dc_M_learn_13 ?_
  refine sw_get X (fun z hz => List.mem_cons_of_mem _ (wf_M z hz)) 20 (wd_20 cI cL cZ ad g q u8 o) rfl 10 (by decide) (List.mem_cons_of_mem _ wm_fl_M_37) rfl dc_M_learn_14 ?_
  refine sw_iload_n X 2 rfl rfl dc_M_learn_17 ?_
  refine sw_iald X 30 0 (wd_30 cI cL cZ ad g q u8 o) rfl h.1 dc_M_learn_18 ?_
  have h := h.2
  refine sw_icmp_eq (tgt := 26) X dc_M_learn_19 (by decide) (fun z => ?_) (fun z => ?_)
  · have h := h.1 z
    refine sw_iconst (v := 0) X dc_M_learn_26 (by decide) ?_
    refine sw_sub [1, 2, 0] rfl ?_
    exact b27 u8 a1 x8 (0 : Int32) h
  · have h := h.2 z
    refine sw_iconst (v := 1) X dc_M_learn_22 (by decide) ?_
    refine sw_goto (tgt := 27) X dc_M_learn_23 (by decide) ?_
    refine sw_sub [1, 2, 0] rfl ?_
    exact b27 u8 a1 x8 (1 : Int32) h
def wp_M_know_L82 (Q : (st_I → Prop)) (H32 : st_I → Int32 → Prop) (H40 : st_I → Int32 → Int32 → Prop) (r : st_I) (v2 : Int32) (t0 : Int32) : Prop := H40 r t0 (v2 + 1)
def wp_M_know_L77 (Q : (st_I → Prop)) (H32 : st_I → Int32 → Prop) (H40 : st_I → Int32 → Int32 → Prop) (r : st_I) (v2 : Int32) : Prop := wp_M_know_L82 Q H32 H40 r v2 (1 : Int32)
def wp_M_know_L68 (Q : (st_I → Prop)) (H32 : st_I → Int32 → Prop) (H40 : st_I → Int32 → Int32 → Prop) (r : st_I) (v1 : Int32) (v2 : Int32) (t0 : Int32) : Prop := (¬ v1 = 0 → wp_M_know_L77 Q H32 H40 r v2) ∧ (v1 = 0 → (t0 = 0 → wp_M_know_L82 Q H32 H40 r v2 (0 : Int32)) ∧ (¬ t0 = 0 → wp_M_know_L77 Q H32 H40 r v2))
def wp_M_know_L67 (Q : (st_I → Prop)) (H32 : st_I → Int32 → Prop) (H40 : st_I → Int32 → Int32 → Prop) (r : st_I) (v1 : Int32) (v2 : Int32) : Prop := wp_M_know_L68 Q H32 H40 r v1 v2 (0 : Int32)
def wp_M_know_L40 (Q : (st_I → Prop)) (H32 : st_I → Int32 → Prop) : Nat → st_I → Int32 → Int32 → Prop
  | 0 => fun _ _ _ => False
  | n40 + 1 => fun r v1 v2 => ((6 : Int32) ≤ v2 → H32 r v1) ∧ (¬ (6 : Int32) ≤ v2 → vp_in v2 6 ∧ ((r 28 (v2).toNatClampNeg) < 0 → wp_M_know_L67 Q H32 (wp_M_know_L40 Q H32 n40) r v1 v2) ∧ (¬ (r 28 (v2).toNatClampNeg) < 0 → wp_M_learn v2 r (fun x57 u57 => (x57 = 0 → wp_M_know_L67 Q H32 (wp_M_know_L40 Q H32 n40) u57 v1 v2) ∧ (¬ x57 = 0 → wp_M_know_L68 Q H32 (wp_M_know_L40 Q H32 n40) u57 v1 v2 (1 : Int32)))))
def wp_M_know_L32 (Q : (st_I → Prop)) : Nat → st_I → Int32 → Prop
  | 0 => fun _ _ => False
  | n32 + 1 => fun r v1 => (v1 = 0 → Q r) ∧ (¬ v1 = 0 → ∃ n40, wp_M_know_L40 Q (wp_M_know_L32 Q n32) n40 r (0 : Int32) (0 : Int32))
def wp_M_know_L2 (Q : (st_I → Prop)) : Nat → st_I → Int32 → Prop
  | 0 => fun _ _ => False
  | n2 + 1 => fun r v1 => ((12 : Int32) ≤ v1 → ∃ n32, wp_M_know_L32 Q n32 r (1 : Int32)) ∧ (¬ (12 : Int32) ≤ v1 → vp_in v1 12 ∧ vp_in (v1 / (2 : Int32)) 6 ∧ (wp_M_know_L2 Q n2) (st_u (st_u r 29 (v1).toNatClampNeg (0 : Int32)) 30 ((v1 / (2 : Int32))).toNatClampNeg (0 : Int32)) (v1 + 1))
def wp_M_know  (r : st_I) (Q : (st_I → Prop)) : Prop := ∃ n2, wp_M_know_L2 Q n2 r (0 : Int32)
set_option maxHeartbeats 4000000 in
set_option maxRecDepth 100000 in
theorem ct_M_know (l : Launch) (D : va_G) (cI cL cZ : ClassId) (ad : Nat → Nat) (g : st_I) (q : st_L) (o : st_L)  (r : st_I) (Q : (st_I → Prop)) (h : wp_M_know  r Q) : ∀ sz, Met l yn_M_know (Cond.code yn_M_know cd_M_know 4 none :: wa_A) { frames := 6, cells := 0, slots := 0, locals := 142 } (va_Pc [.ref (ad 20)] (wq_S D cl_A (wd_T cI cL cZ) nw_A (wd_W cI cL cZ ad g q r o) sz)) (va_Qv Q (fun u t => wq_E D cl_A (wd_T cI cL cZ) (va_A (wd_W cI cL cZ ad g q r o) sz) (wd_W cI cL cZ ad g q u o) t) (va_A (wd_W cI cL cZ ad g q r o) sz)) 0 0 (va_A (wd_W cI cL cZ ad g q r o) sz) := by
  refine sw_met (Qc := fun A => va_Qv Q (fun u t => wq_E D cl_A (wd_T cI cL cZ) A (wd_W cI cL cZ ad g q u o) t) A) (by decide) rfl (Nat.le_of_ble_eq_true rfl) rfl ?_
  intro p e s m args below meth c A X hA hNs hE hr hlk hnm
  have b82 : ∀ (H32 : st_I → Int32 → Prop) (hH32 : ∀ (r : st_I) (v1 : Int32), H32 r v1 → sw_J p l e { frames := 6, cells := 0, slots := 0, locals := 142 } s m args below meth c 0 0 (MQ below (va_Qv Q (fun u t => wq_E D cl_A (wd_T cI cL cZ) A (wd_W cI cL cZ ad g q u o) t) A) args s 0 0 A) D cl_A A 4 (wd_W cI cL cZ ad g q r o) 32 [(0, .ref (ad 20)), (1, .int v1)] []) (H40 : st_I → Int32 → Int32 → Prop) (hH40 : ∀ (r : st_I) (v1 : Int32) (v2 : Int32), H40 r v1 v2 → sw_J p l e { frames := 6, cells := 0, slots := 0, locals := 142 } s m args below meth c 0 0 (MQ below (va_Qv Q (fun u t => wq_E D cl_A (wd_T cI cL cZ) A (wd_W cI cL cZ ad g q u o) t) A) args s 0 0 A) D cl_A A 4 (wd_W cI cL cZ ad g q r o) 40 [(0, .ref (ad 20)), (1, .int v1), (2, .int v2)] []) (r : st_I) (v2 : Int32) (t0 : Int32), wp_M_know_L82 Q H32 H40 r v2 t0 → sw_J p l e { frames := 6, cells := 0, slots := 0, locals := 142 } s m args below meth c 0 0 (MQ below (va_Qv Q (fun u t => wq_E D cl_A (wd_T cI cL cZ) A (wd_W cI cL cZ ad g q u o) t) A) args s 0 0 A) D cl_A A 4 (wd_W cI cL cZ ad g q r o) 82 [(0, .ref (ad 20)), (2, .int v2)] [.int t0] := by
    intro H32 hH32 H40 hH40 r v2 t0 h
    refine sw_istore_n X [(1, .int t0), (0, .ref (ad 20)), (2, .int v2)] rfl (by decide) rfl dc_M_know_82 ?_
    refine sw_iinc (n := 1) (v := (v2 + 1)) X 2 rfl rfl [(2, .int (v2 + 1)), (1, .int t0), (0, .ref (ad 20))] rfl (by decide) dc_M_know_83 ?_
    refine sw_goto (tgt := 40) X dc_M_know_86 (by decide) ?_
    refine sw_sub [2, 1, 0] rfl ?_
    exact hH40 r t0 (v2 + 1) h
  have b77 : ∀ (H32 : st_I → Int32 → Prop) (hH32 : ∀ (r : st_I) (v1 : Int32), H32 r v1 → sw_J p l e { frames := 6, cells := 0, slots := 0, locals := 142 } s m args below meth c 0 0 (MQ below (va_Qv Q (fun u t => wq_E D cl_A (wd_T cI cL cZ) A (wd_W cI cL cZ ad g q u o) t) A) args s 0 0 A) D cl_A A 4 (wd_W cI cL cZ ad g q r o) 32 [(0, .ref (ad 20)), (1, .int v1)] []) (H40 : st_I → Int32 → Int32 → Prop) (hH40 : ∀ (r : st_I) (v1 : Int32) (v2 : Int32), H40 r v1 v2 → sw_J p l e { frames := 6, cells := 0, slots := 0, locals := 142 } s m args below meth c 0 0 (MQ below (va_Qv Q (fun u t => wq_E D cl_A (wd_T cI cL cZ) A (wd_W cI cL cZ ad g q u o) t) A) args s 0 0 A) D cl_A A 4 (wd_W cI cL cZ ad g q r o) 40 [(0, .ref (ad 20)), (1, .int v1), (2, .int v2)] []) (r : st_I) (v2 : Int32), wp_M_know_L77 Q H32 H40 r v2 → sw_J p l e { frames := 6, cells := 0, slots := 0, locals := 142 } s m args below meth c 0 0 (MQ below (va_Qv Q (fun u t => wq_E D cl_A (wd_T cI cL cZ) A (wd_W cI cL cZ ad g q u o) t) A) args s 0 0 A) D cl_A A 4 (wd_W cI cL cZ ad g q r o) 77 [(0, .ref (ad 20)), (2, .int v2)] [] := by
    intro H32 hH32 H40 hH40 r v2 h
    refine sw_iconst (v := 1) X dc_M_know_77 (by decide) ?_
    refine sw_goto (tgt := 82) X dc_M_know_78 (by decide) ?_
    exact b82 H32 hH32 H40 hH40 r v2 (1 : Int32) h
  have b68 : ∀ (H32 : st_I → Int32 → Prop) (hH32 : ∀ (r : st_I) (v1 : Int32), H32 r v1 → sw_J p l e { frames := 6, cells := 0, slots := 0, locals := 142 } s m args below meth c 0 0 (MQ below (va_Qv Q (fun u t => wq_E D cl_A (wd_T cI cL cZ) A (wd_W cI cL cZ ad g q u o) t) A) args s 0 0 A) D cl_A A 4 (wd_W cI cL cZ ad g q r o) 32 [(0, .ref (ad 20)), (1, .int v1)] []) (H40 : st_I → Int32 → Int32 → Prop) (hH40 : ∀ (r : st_I) (v1 : Int32) (v2 : Int32), H40 r v1 v2 → sw_J p l e { frames := 6, cells := 0, slots := 0, locals := 142 } s m args below meth c 0 0 (MQ below (va_Qv Q (fun u t => wq_E D cl_A (wd_T cI cL cZ) A (wd_W cI cL cZ ad g q u o) t) A) args s 0 0 A) D cl_A A 4 (wd_W cI cL cZ ad g q r o) 40 [(0, .ref (ad 20)), (1, .int v1), (2, .int v2)] []) (r : st_I) (v1 : Int32) (v2 : Int32) (t0 : Int32), wp_M_know_L68 Q H32 H40 r v1 v2 t0 → sw_J p l e { frames := 6, cells := 0, slots := 0, locals := 142 } s m args below meth c 0 0 (MQ below (va_Qv Q (fun u t => wq_E D cl_A (wd_T cI cL cZ) A (wd_W cI cL cZ ad g q u o) t) A) args s 0 0 A) D cl_A A 4 (wd_W cI cL cZ ad g q r o) 68 [(0, .ref (ad 20)), (1, .int v1), (2, .int v2)] [.int t0] := by
    intro H32 hH32 H40 hH40 r v1 v2 t0 h
    refine sw_istore_n X [(3, .int t0), (0, .ref (ad 20)), (1, .int v1), (2, .int v2)] rfl (by decide) rfl dc_M_know_68 ?_
    refine sw_iload_n X 2 rfl rfl dc_M_know_69 ?_
    refine sw_if_ne (tgt := 77) X dc_M_know_70 (by decide) (fun z => ?_) (fun z => ?_)
    · have h := h.1 z
      refine sw_sub [1, 3] rfl ?_
      exact b77 H32 hH32 H40 hH40 r v2 h
    · have h := h.2 z
      refine sw_iload_n X 0 rfl rfl dc_M_know_73 ?_
      refine sw_if_eq (tgt := 81) X dc_M_know_74 (by decide) (fun z => ?_) (fun z => ?_)
      · have h := h.1 z
        refine sw_iconst (v := 0) X dc_M_know_81 (by decide) ?_
        refine sw_sub [1, 3] rfl ?_
        exact b82 H32 hH32 H40 hH40 r v2 (0 : Int32) h
      · have h := h.2 z
        refine sw_sub [1, 3] rfl ?_
        exact b77 H32 hH32 H40 hH40 r v2 h
  have b67 : ∀ (H32 : st_I → Int32 → Prop) (hH32 : ∀ (r : st_I) (v1 : Int32), H32 r v1 → sw_J p l e { frames := 6, cells := 0, slots := 0, locals := 142 } s m args below meth c 0 0 (MQ below (va_Qv Q (fun u t => wq_E D cl_A (wd_T cI cL cZ) A (wd_W cI cL cZ ad g q u o) t) A) args s 0 0 A) D cl_A A 4 (wd_W cI cL cZ ad g q r o) 32 [(0, .ref (ad 20)), (1, .int v1)] []) (H40 : st_I → Int32 → Int32 → Prop) (hH40 : ∀ (r : st_I) (v1 : Int32) (v2 : Int32), H40 r v1 v2 → sw_J p l e { frames := 6, cells := 0, slots := 0, locals := 142 } s m args below meth c 0 0 (MQ below (va_Qv Q (fun u t => wq_E D cl_A (wd_T cI cL cZ) A (wd_W cI cL cZ ad g q u o) t) A) args s 0 0 A) D cl_A A 4 (wd_W cI cL cZ ad g q r o) 40 [(0, .ref (ad 20)), (1, .int v1), (2, .int v2)] []) (r : st_I) (v1 : Int32) (v2 : Int32), wp_M_know_L67 Q H32 H40 r v1 v2 → sw_J p l e { frames := 6, cells := 0, slots := 0, locals := 142 } s m args below meth c 0 0 (MQ below (va_Qv Q (fun u t => wq_E D cl_A (wd_T cI cL cZ) A (wd_W cI cL cZ ad g q u o) t) A) args s 0 0 A) D cl_A A 4 (wd_W cI cL cZ ad g q r o) 67 [(0, .ref (ad 20)), (1, .int v1), (2, .int v2)] [] := by
    intro H32 hH32 H40 hH40 r v1 v2 h
    refine sw_iconst (v := 0) X dc_M_know_67 (by decide) ?_
    exact b68 H32 hH32 H40 hH40 r v1 v2 (0 : Int32) h
  have b40 : ∀ (H32 : st_I → Int32 → Prop) (hH32 : ∀ (r : st_I) (v1 : Int32), H32 r v1 → sw_J p l e { frames := 6, cells := 0, slots := 0, locals := 142 } s m args below meth c 0 0 (MQ below (va_Qv Q (fun u t => wq_E D cl_A (wd_T cI cL cZ) A (wd_W cI cL cZ ad g q u o) t) A) args s 0 0 A) D cl_A A 4 (wd_W cI cL cZ ad g q r o) 32 [(0, .ref (ad 20)), (1, .int v1)] []) (n : Nat) (r : st_I) (v1 : Int32) (v2 : Int32), wp_M_know_L40 Q H32 n r v1 v2 → sw_J p l e { frames := 6, cells := 0, slots := 0, locals := 142 } s m args below meth c 0 0 (MQ below (va_Qv Q (fun u t => wq_E D cl_A (wd_T cI cL cZ) A (wd_W cI cL cZ ad g q u o) t) A) args s 0 0 A) D cl_A A 4 (wd_W cI cL cZ ad g q r o) 40 [(0, .ref (ad 20)), (1, .int v1), (2, .int v2)] [] := by
    intro H32 hH32 n40
    induction n40 with
    | zero => intro r v1 v2 h; exact h.elim
    | succ n40 hH40 =>
    intro r v1 v2 h
    refine sw_iload_n X 2 rfl rfl dc_M_know_40 ?_
    refine sw_bipush (v := 6) X dc_M_know_41 (by decide) ?_
    refine sw_icmp_ge (tgt := 89) X dc_M_know_43 (by decide) (fun z => ?_) (fun z => ?_)
    · have h := h.1 z
      refine sw_goto (tgt := 32) X dc_M_know_89 (by decide) ?_
      refine sw_sub [0, 1] rfl ?_
      exact hH32 r v1 h
    · have h := h.2 z
      refine sw_aload_n X 0 rfl rfl dc_M_know_46 ?_
      refine sw_get X (fun z hz => List.mem_cons_of_mem _ (wf_M z hz)) 20 (wd_20 cI cL cZ ad g q r o) rfl 8 (by decide) (List.mem_cons_of_mem _ wm_fl_M_31) rfl dc_M_know_47 ?_
      refine sw_iload_n X 2 rfl rfl dc_M_know_50 ?_
      refine sw_iald X 28 0 (wd_28 cI cL cZ ad g q r o) rfl h.1 dc_M_know_51 ?_
      have h := h.2
      refine sw_if_lt (tgt := 67) X dc_M_know_52 (by decide) (fun z => ?_) (fun z => ?_)
      · have h := h.1 z
        exact b67 H32 hH32 (wp_M_know_L40 Q H32 n40) hH40 r v1 v2 h
      · have h := h.2 z
        refine sw_aload_n X 0 rfl rfl dc_M_know_55 ?_
        refine sw_iload_n X 2 rfl rfl dc_M_know_56 ?_
        refine sw_cV_i (n := 1) X hA nw_okA hNs hE (fun u : st_I => wd_W cI cL cZ ad g q u o) [.int v2] 20 (wd_20 cI cL cZ ad g q r o) rfl rfl (ct_M_learn l D cI cL cZ ad g q o v2 r _ h) (List.mem_cons_of_mem _ wm_ml_M_152) (List.mem_cons_of_mem _ wm_im_M_learn) (List.mem_cons_of_mem _ wm_se_M_learn) rfl (wg_in wm_code_M_learn) rfl rfl (List.mem_cons_of_mem _ wm_in_M) ⟨by decide, by decide, by decide +kernel⟩ ⟨Nat.le_of_ble_eq_true rfl, Nat.le_of_ble_eq_true rfl⟩ ⟨Nat.zero_le _, Nat.zero_le _⟩ rfl (Nat.le_of_ble_eq_true rfl) dc_M_know_57 rfl (fun x57 u57 h => ?_)
        refine sw_if_eq (tgt := 67) X dc_M_know_60 (by decide) (fun z => ?_) (fun z => ?_)
        · have h := h.1 z
          exact b67 H32 hH32 (wp_M_know_L40 Q H32 n40) hH40 u57 v1 v2 h
        · have h := h.2 z
          refine sw_iconst (v := 1) X dc_M_know_63 (by decide) ?_
          refine sw_goto (tgt := 68) X dc_M_know_64 (by decide) ?_
          exact b68 H32 hH32 (wp_M_know_L40 Q H32 n40) hH40 u57 v1 v2 (1 : Int32) h
  have b32 : ∀ (n : Nat) (r : st_I) (v1 : Int32), wp_M_know_L32 Q n r v1 → sw_J p l e { frames := 6, cells := 0, slots := 0, locals := 142 } s m args below meth c 0 0 (MQ below (va_Qv Q (fun u t => wq_E D cl_A (wd_T cI cL cZ) A (wd_W cI cL cZ ad g q u o) t) A) args s 0 0 A) D cl_A A 4 (wd_W cI cL cZ ad g q r o) 32 [(0, .ref (ad 20)), (1, .int v1)] [] := by
    intro n32
    induction n32 with
    | zero => intro r v1 h; exact h.elim
    | succ n32 hH32 =>
    intro r v1 h
    refine sw_iload_n X 1 rfl rfl dc_M_know_32 ?_
    refine sw_if_eq (tgt := 92) X dc_M_know_33 (by decide) (fun z => ?_) (fun z => ?_)
    · have h := h.1 z
      exact sw_vret X hr hlk (u := r) rfl h dc_M_know_92
    · have h := h.2 z
      refine sw_iconst (v := 0) X dc_M_know_36 (by decide) ?_
      refine sw_istore_n X [(1, .int (0 : Int32)), (0, .ref (ad 20))] rfl (by decide) rfl dc_M_know_37 ?_
      refine sw_iconst (v := 0) X dc_M_know_38 (by decide) ?_
      refine sw_istore_n X [(2, .int (0 : Int32)), (1, .int (0 : Int32)), (0, .ref (ad 20))] rfl (by decide) rfl dc_M_know_39 ?_
      refine sw_sub [2, 1, 0] rfl ?_
      obtain ⟨n40, h⟩ := h
      exact b40 (wp_M_know_L32 Q n32) hH32 n40 r (0 : Int32) (0 : Int32) h
  have b2 : ∀ (n : Nat) (r : st_I) (v1 : Int32), wp_M_know_L2 Q n r v1 → sw_J p l e { frames := 6, cells := 0, slots := 0, locals := 142 } s m args below meth c 0 0 (MQ below (va_Qv Q (fun u t => wq_E D cl_A (wd_T cI cL cZ) A (wd_W cI cL cZ ad g q u o) t) A) args s 0 0 A) D cl_A A 4 (wd_W cI cL cZ ad g q r o) 2 [(0, .ref (ad 20)), (1, .int v1)] [] := by
    intro n2
    induction n2 with
    | zero => intro r v1 h; exact h.elim
    | succ n2 hH2 =>
    intro r v1 h
    refine sw_iload_n X 1 rfl rfl dc_M_know_2 ?_
    refine sw_bipush (v := 12) X dc_M_know_3 (by decide) ?_
    refine sw_icmp_ge (tgt := 30) X dc_M_know_5 (by decide) (fun z => ?_) (fun z => ?_)
    · have h := h.1 z
      refine sw_iconst (v := 1) X dc_M_know_30 (by decide) ?_
      refine sw_istore_n X [(1, .int (1 : Int32)), (0, .ref (ad 20))] rfl (by decide) rfl dc_M_know_31 ?_
      refine sw_sub [1, 0] rfl ?_
      obtain ⟨n32, h⟩ := h
      exact b32 n32 r (1 : Int32) h
    · have h := h.2 z
      refine sw_aload_n X 0 rfl rfl dc_M_know_8 ?_
      refine sw_get X (fun z hz => List.mem_cons_of_mem _ (wf_M z hz)) 20 (wd_20 cI cL cZ ad g q r o) rfl 9 (by decide) (List.mem_cons_of_mem _ wm_fl_M_34) rfl dc_M_know_9 ?_
      refine sw_iload_n X 1 rfl rfl dc_M_know_12 ?_
      refine sw_iconst (v := 0) X dc_M_know_13 (by decide) ?_
      refine sw_iast X 29 0 (wd_29 cI cL cZ ad g q r o) rfl h.1 (wd_W cI cL cZ ad g q (st_u r 29 (v1).toNatClampNeg (0 : Int32)) o) (ws_29 cI cL cZ ad g q r o (v1).toNatClampNeg (0 : Int32)) dc_M_know_14 ?_
      have h := h.2
      refine sw_aload_n X 0 rfl rfl dc_M_know_15 ?_
      refine sw_get X (fun z hz => List.mem_cons_of_mem _ (wf_M z hz)) 20 (wd_20 cI cL cZ ad g q (st_u r 29 (v1).toNatClampNeg (0 : Int32)) o) rfl 10 (by decide) (List.mem_cons_of_mem _ wm_fl_M_37) rfl dc_M_know_16 ?_
      refine sw_iload_n X 1 rfl rfl dc_M_know_19 ?_
      refine sw_iconst (v := 2) X dc_M_know_20 (by decide) ?_
      refine sw_idiv X dc_M_know_21 (by decide) ?_
      refine sw_iconst (v := 0) X dc_M_know_22 (by decide) ?_
      refine sw_iast X 30 0 (wd_30 cI cL cZ ad g q (st_u r 29 (v1).toNatClampNeg (0 : Int32)) o) rfl h.1 (wd_W cI cL cZ ad g q (st_u (st_u r 29 (v1).toNatClampNeg (0 : Int32)) 30 ((v1 / (2 : Int32))).toNatClampNeg (0 : Int32)) o) (ws_30 cI cL cZ ad g q (st_u r 29 (v1).toNatClampNeg (0 : Int32)) o ((v1 / (2 : Int32))).toNatClampNeg (0 : Int32)) dc_M_know_23 ?_
      have h := h.2
      refine sw_iinc (n := 1) (v := (v1 + 1)) X 1 rfl rfl [(1, .int (v1 + 1)), (0, .ref (ad 20))] rfl (by decide) dc_M_know_24 ?_
      refine sw_goto (tgt := 2) X dc_M_know_27 (by decide) ?_
      refine sw_sub [1, 0] rfl ?_
      exact hH2 (st_u (st_u r 29 (v1).toNatClampNeg (0 : Int32)) 30 ((v1 / (2 : Int32))).toNatClampNeg (0 : Int32)) (v1 + 1) h
  refine sw_iconst (v := 0) X dc_M_know_0 (by decide) ?_
  refine sw_istore_n X [(1, .int (0 : Int32)), (0, .ref (ad 20))] rfl (by decide) rfl dc_M_know_1 ?_
  refine sw_sub [1, 0] rfl ?_
  obtain ⟨n2, h⟩ := h
  exact b2 n2 r (0 : Int32) h
def wp_M_may_L26 (Q : (Int32 → st_I → Prop)) (r : st_I) (v1 : Int32) (v2 : Int32) (t0 : Int32) : Prop := (t0 = 0 → wp_M_know  (st_u r 20 35 t0) (fun u39 => vp_in (((2 : Int32) * v1) + v2) 12 ∧ Q (u39 29 ((((2 : Int32) * v1) + v2)).toNatClampNeg) u39)) ∧ (¬ t0 = 0 → Q (0 : Int32) (st_u r 20 35 t0))
def wp_M_may_L21 (Q : (Int32 → st_I → Prop)) (r : st_I) (v1 : Int32) (v2 : Int32) : Prop := wp_M_may_L26 Q r v1 v2 (1 : Int32)
def wp_M_may (a1 : Int32) (a2 : Int32) (r : st_I) (Q : (Int32 → st_I → Prop)) : Prop := wp_M_outside a1 (5 : Int32) r (fun x3 u3 => (¬ x3 = 0 → wp_M_may_L21 Q u3 a1 a2) ∧ (x3 = 0 → (a2 < 0 → wp_M_may_L21 Q u3 a1 a2) ∧ (¬ a2 < 0 → wp_M_parameters a1 u3 (fun x15 u15 => (a2 < x15 → wp_M_may_L26 Q u15 a1 a2 (0 : Int32)) ∧ (¬ a2 < x15 → wp_M_may_L21 Q u15 a1 a2)))))
set_option maxHeartbeats 4000000 in
set_option maxRecDepth 100000 in
theorem ct_M_may (l : Launch) (D : va_G) (cI cL cZ : ClassId) (ad : Nat → Nat) (g : st_I) (q : st_L) (o : st_L) (a1 : Int32) (a2 : Int32) (r : st_I) (Q : (Int32 → st_I → Prop)) (h : wp_M_may a1 a2 r Q) : ∀ sz, Met l yn_M_may (Cond.code yn_M_may cd_M_may 3 (some .int) :: wa_A) { frames := 7, cells := 0, slots := 0, locals := 165 } (va_Pc [.ref (ad 20), .int a1, .int a2] (wq_S D cl_A (wd_T cI cL cZ) nw_A (wd_W cI cL cZ ad g q r o) sz)) (va_Qi Q (fun u t => wq_E D cl_A (wd_T cI cL cZ) (va_A (wd_W cI cL cZ ad g q r o) sz) (wd_W cI cL cZ ad g q u o) t) (va_A (wd_W cI cL cZ ad g q r o) sz)) 0 0 (va_A (wd_W cI cL cZ ad g q r o) sz) := by
  refine sw_met (Qc := fun A => va_Qi Q (fun u t => wq_E D cl_A (wd_T cI cL cZ) A (wd_W cI cL cZ ad g q u o) t) A) (by decide) rfl (Nat.le_of_ble_eq_true rfl) rfl ?_
  intro p e s m args below meth c A X hA hNs hE hr hlk hnm
  have b26 : ∀ (r : st_I) (v1 : Int32) (v2 : Int32) (t0 : Int32), wp_M_may_L26 Q r v1 v2 t0 → sw_J p l e { frames := 7, cells := 0, slots := 0, locals := 165 } s m args below meth c 0 0 (MQ below (va_Qi Q (fun u t => wq_E D cl_A (wd_T cI cL cZ) A (wd_W cI cL cZ ad g q u o) t) A) args s 0 0 A) D cl_A A 3 (wd_W cI cL cZ ad g q r o) 26 [(0, .ref (ad 20)), (1, .int v1), (2, .int v2)] [.int t0, .ref (ad 20)] := by
    intro r v1 v2 t0 h
    refine sw_put (ty := .int) X (fun z hz => List.mem_cons_of_mem _ (wf_M z hz)) fy_M fo_M fn_M 20 (wd_20 cI cL cZ ad g q r o) rfl 35 (by decide) (List.mem_cons_of_mem _ wm_fl_M_80) rfl (by decide +kernel) rfl rfl (Nat.le_of_ble_eq_true rfl) (wd_W cI cL cZ ad g q (st_u r 20 35 t0) o) (ws_20_35 cI cL cZ ad g q r o t0) dc_M_may_26 ?_
    refine sw_aload_n X 0 rfl rfl dc_M_may_29 ?_
    refine sw_get (v := .int t0) X (fun z hz => List.mem_cons_of_mem _ (wf_M z hz)) 20 (wd_20 cI cL cZ ad g q (st_u r 20 35 t0) o) rfl 35 (by decide) (List.mem_cons_of_mem _ wm_fl_M_80) rfl dc_M_may_30 ?_
    refine sw_if_eq (tgt := 38) X dc_M_may_33 (by decide) (fun z => ?_) (fun z => ?_)
    · have h := h.1 z
      refine sw_aload_n X 0 rfl rfl dc_M_may_38 ?_
      refine sw_cV_v (n := 0) X hA nw_okA hNs hE (fun u : st_I => wd_W cI cL cZ ad g q u o) [] 20 (wd_20 cI cL cZ ad g q (st_u r 20 35 t0) o) rfl rfl (ct_M_know l D cI cL cZ ad g q o (st_u r 20 35 t0) _ h) (List.mem_cons_of_mem _ wm_ml_M_155) (List.mem_cons_of_mem _ wm_im_M_know) (List.mem_cons_of_mem _ wm_se_M_know) rfl (wg_in wm_code_M_know) rfl rfl (List.mem_cons_of_mem _ wm_in_M) ⟨by decide, by decide, by decide +kernel⟩ ⟨Nat.le_of_ble_eq_true rfl, Nat.le_of_ble_eq_true rfl⟩ ⟨Nat.zero_le _, Nat.zero_le _⟩ rfl (Nat.le_of_ble_eq_true rfl) dc_M_may_39 rfl (fun u39 h => ?_)
      refine sw_aload_n X 0 rfl rfl dc_M_may_42 ?_
      refine sw_get X (fun z hz => List.mem_cons_of_mem _ (wf_M z hz)) 20 (wd_20 cI cL cZ ad g q u39 o) rfl 9 (by decide) (List.mem_cons_of_mem _ wm_fl_M_34) rfl dc_M_may_43 ?_
      refine sw_iconst (v := 2) X dc_M_may_46 (by decide) ?_
      refine sw_iload_n X 1 rfl rfl dc_M_may_47 ?_
      refine sw_imul X dc_M_may_48 ?_
      refine sw_iload_n X 2 rfl rfl dc_M_may_49 ?_
      refine sw_iadd X dc_M_may_50 ?_
      refine sw_iald X 29 0 (wd_29 cI cL cZ ad g q u39 o) rfl h.1 dc_M_may_51 ?_
      have h := h.2
      exact sw_iret X hr hlk (u := u39) rfl h dc_M_may_52
    · have h := h.2 z
      refine sw_iconst (v := 0) X dc_M_may_36 (by decide) ?_
      exact sw_iret X hr hlk (u := (st_u r 20 35 t0)) rfl h dc_M_may_37
  have b21 : ∀ (r : st_I) (v1 : Int32) (v2 : Int32), wp_M_may_L21 Q r v1 v2 → sw_J p l e { frames := 7, cells := 0, slots := 0, locals := 165 } s m args below meth c 0 0 (MQ below (va_Qi Q (fun u t => wq_E D cl_A (wd_T cI cL cZ) A (wd_W cI cL cZ ad g q u o) t) A) args s 0 0 A) D cl_A A 3 (wd_W cI cL cZ ad g q r o) 21 [(0, .ref (ad 20)), (1, .int v1), (2, .int v2)] [.ref (ad 20)] := by
    intro r v1 v2 h
    refine sw_iconst (v := 1) X dc_M_may_21 (by decide) ?_
    refine sw_goto (tgt := 26) X dc_M_may_22 (by decide) ?_
    exact b26 r v1 v2 (1 : Int32) h
  refine sw_aload_n X 0 rfl rfl dc_M_may_0 ?_
  refine sw_iload_n X 1 rfl rfl dc_M_may_1 ?_
  refine sw_iconst (v := 5) X dc_M_may_2 (by decide) ?_
  refine sw_cS_i (n := 2) X hA nw_okA hNs hE (fun u : st_I => wd_W cI cL cZ ad g q u o) [.int a1, .int (5 : Int32)] (ct_M_outside l D cI cL cZ ad g q o a1 (5 : Int32) r _ h) (List.mem_cons_of_mem _ wm_ml_M_87) (List.mem_cons_of_mem _ wm_st_M_outside) rfl (wg_in wm_code_M_outside) rfl rfl (List.mem_cons_of_mem _ wm_in_M) ⟨by decide, by decide, by decide +kernel⟩ ⟨Nat.le_of_ble_eq_true rfl, Nat.le_of_ble_eq_true rfl⟩ ⟨Nat.zero_le _, Nat.zero_le _⟩ rfl (Nat.le_of_ble_eq_true rfl) dc_M_may_3 rfl (fun x3 u3 h => ?_)
  refine sw_if_ne (tgt := 21) X dc_M_may_6 (by decide) (fun z => ?_) (fun z => ?_)
  · have h := h.1 z
    exact b21 u3 a1 a2 h
  · have h := h.2 z
    refine sw_iload_n X 2 rfl rfl dc_M_may_9 ?_
    refine sw_if_lt (tgt := 21) X dc_M_may_10 (by decide) (fun z => ?_) (fun z => ?_)
    · have h := h.1 z
      exact b21 u3 a1 a2 h
    · have h := h.2 z
      refine sw_iload_n X 2 rfl rfl dc_M_may_13 ?_
      refine sw_iload_n X 1 rfl rfl dc_M_may_14 ?_
      refine sw_cS_i (n := 1) X hA nw_okA hNs hE (fun u : st_I => wd_W cI cL cZ ad g q u o) [.int a1] (ct_M_parameters l D cI cL cZ ad g q o a1 u3 _ h) (List.mem_cons_of_mem _ wm_ml_M_91) (List.mem_cons_of_mem _ wm_st_M_parameters) rfl (wg_in wm_code_M_parameters) rfl rfl (List.mem_cons_of_mem _ wm_in_M) ⟨by decide, by decide, by decide +kernel⟩ ⟨Nat.le_of_ble_eq_true rfl, Nat.le_of_ble_eq_true rfl⟩ ⟨Nat.zero_le _, Nat.zero_le _⟩ rfl (Nat.le_of_ble_eq_true rfl) dc_M_may_15 rfl (fun x15 u15 h => ?_)
      refine sw_icmp_lt (tgt := 25) X dc_M_may_18 (by decide) (fun z => ?_) (fun z => ?_)
      · have h := h.1 z
        refine sw_iconst (v := 0) X dc_M_may_25 (by decide) ?_
        exact b26 u15 a1 a2 (0 : Int32) h
      · have h := h.2 z
        exact b21 u15 a1 a2 h
def wp_M_gives_L14 (Q : (Int32 → st_I → Prop)) (r : st_I) (v1 : Int32) (t0 : Int32) : Prop := (t0 = 0 → wp_M_know  (st_u r 20 35 t0) (fun u27 => vp_in v1 6 ∧ Q (u27 30 (v1).toNatClampNeg) u27)) ∧ (¬ t0 = 0 → Q (0 : Int32) (st_u r 20 35 t0))
def wp_M_gives (a1 : Int32) (r : st_I) (Q : (Int32 → st_I → Prop)) : Prop := wp_M_outside a1 (5 : Int32) r (fun x3 u3 => (x3 = 0 → wp_M_gives_L14 Q u3 a1 (0 : Int32)) ∧ (¬ x3 = 0 → wp_M_gives_L14 Q u3 a1 (1 : Int32)))
set_option maxHeartbeats 4000000 in
set_option maxRecDepth 100000 in
theorem ct_M_gives (l : Launch) (D : va_G) (cI cL cZ : ClassId) (ad : Nat → Nat) (g : st_I) (q : st_L) (o : st_L) (a1 : Int32) (r : st_I) (Q : (Int32 → st_I → Prop)) (h : wp_M_gives a1 r Q) : ∀ sz, Met l yn_M_gives (Cond.code yn_M_gives cd_M_gives 2 (some .int) :: wa_A) { frames := 7, cells := 0, slots := 0, locals := 165 } (va_Pc [.ref (ad 20), .int a1] (wq_S D cl_A (wd_T cI cL cZ) nw_A (wd_W cI cL cZ ad g q r o) sz)) (va_Qi Q (fun u t => wq_E D cl_A (wd_T cI cL cZ) (va_A (wd_W cI cL cZ ad g q r o) sz) (wd_W cI cL cZ ad g q u o) t) (va_A (wd_W cI cL cZ ad g q r o) sz)) 0 0 (va_A (wd_W cI cL cZ ad g q r o) sz) := by
  refine sw_met (Qc := fun A => va_Qi Q (fun u t => wq_E D cl_A (wd_T cI cL cZ) A (wd_W cI cL cZ ad g q u o) t) A) (by decide) rfl (Nat.le_of_ble_eq_true rfl) rfl ?_
  intro p e s m args below meth c A X hA hNs hE hr hlk hnm
  have b14 : ∀ (r : st_I) (v1 : Int32) (t0 : Int32), wp_M_gives_L14 Q r v1 t0 → sw_J p l e { frames := 7, cells := 0, slots := 0, locals := 165 } s m args below meth c 0 0 (MQ below (va_Qi Q (fun u t => wq_E D cl_A (wd_T cI cL cZ) A (wd_W cI cL cZ ad g q u o) t) A) args s 0 0 A) D cl_A A 2 (wd_W cI cL cZ ad g q r o) 14 [(0, .ref (ad 20)), (1, .int v1)] [.int t0, .ref (ad 20)] := by
    intro r v1 t0 h
    refine sw_put (ty := .int) X (fun z hz => List.mem_cons_of_mem _ (wf_M z hz)) fy_M fo_M fn_M 20 (wd_20 cI cL cZ ad g q r o) rfl 35 (by decide) (List.mem_cons_of_mem _ wm_fl_M_80) rfl (by decide +kernel) rfl rfl (Nat.le_of_ble_eq_true rfl) (wd_W cI cL cZ ad g q (st_u r 20 35 t0) o) (ws_20_35 cI cL cZ ad g q r o t0) dc_M_gives_14 ?_
    refine sw_aload_n X 0 rfl rfl dc_M_gives_17 ?_
    refine sw_get (v := .int t0) X (fun z hz => List.mem_cons_of_mem _ (wf_M z hz)) 20 (wd_20 cI cL cZ ad g q (st_u r 20 35 t0) o) rfl 35 (by decide) (List.mem_cons_of_mem _ wm_fl_M_80) rfl dc_M_gives_18 ?_
    refine sw_if_eq (tgt := 26) X dc_M_gives_21 (by decide) (fun z => ?_) (fun z => ?_)
    · have h := h.1 z
      refine sw_aload_n X 0 rfl rfl dc_M_gives_26 ?_
      refine sw_cV_v (n := 0) X hA nw_okA hNs hE (fun u : st_I => wd_W cI cL cZ ad g q u o) [] 20 (wd_20 cI cL cZ ad g q (st_u r 20 35 t0) o) rfl rfl (ct_M_know l D cI cL cZ ad g q o (st_u r 20 35 t0) _ h) (List.mem_cons_of_mem _ wm_ml_M_155) (List.mem_cons_of_mem _ wm_im_M_know) (List.mem_cons_of_mem _ wm_se_M_know) rfl (wg_in wm_code_M_know) rfl rfl (List.mem_cons_of_mem _ wm_in_M) ⟨by decide, by decide, by decide +kernel⟩ ⟨Nat.le_of_ble_eq_true rfl, Nat.le_of_ble_eq_true rfl⟩ ⟨Nat.zero_le _, Nat.zero_le _⟩ rfl (Nat.le_of_ble_eq_true rfl) dc_M_gives_27 rfl (fun u27 h => ?_)
      refine sw_aload_n X 0 rfl rfl dc_M_gives_30 ?_
      refine sw_get X (fun z hz => List.mem_cons_of_mem _ (wf_M z hz)) 20 (wd_20 cI cL cZ ad g q u27 o) rfl 10 (by decide) (List.mem_cons_of_mem _ wm_fl_M_37) rfl dc_M_gives_31 ?_
      refine sw_iload_n X 1 rfl rfl dc_M_gives_34 ?_
      refine sw_iald X 30 0 (wd_30 cI cL cZ ad g q u27 o) rfl h.1 dc_M_gives_35 ?_
      have h := h.2
      exact sw_iret X hr hlk (u := u27) rfl h dc_M_gives_36
    · have h := h.2 z
      refine sw_iconst (v := 0) X dc_M_gives_24 (by decide) ?_
      exact sw_iret X hr hlk (u := (st_u r 20 35 t0)) rfl h dc_M_gives_25
  refine sw_aload_n X 0 rfl rfl dc_M_gives_0 ?_
  refine sw_iload_n X 1 rfl rfl dc_M_gives_1 ?_
  refine sw_iconst (v := 5) X dc_M_gives_2 (by decide) ?_
  refine sw_cS_i (n := 2) X hA nw_okA hNs hE (fun u : st_I => wd_W cI cL cZ ad g q u o) [.int a1, .int (5 : Int32)] (ct_M_outside l D cI cL cZ ad g q o a1 (5 : Int32) r _ h) (List.mem_cons_of_mem _ wm_ml_M_87) (List.mem_cons_of_mem _ wm_st_M_outside) rfl (wg_in wm_code_M_outside) rfl rfl (List.mem_cons_of_mem _ wm_in_M) ⟨by decide, by decide, by decide +kernel⟩ ⟨Nat.le_of_ble_eq_true rfl, Nat.le_of_ble_eq_true rfl⟩ ⟨Nat.zero_le _, Nat.zero_le _⟩ rfl (Nat.le_of_ble_eq_true rfl) dc_M_gives_3 rfl (fun x3 u3 h => ?_)
  refine sw_if_eq (tgt := 13) X dc_M_gives_6 (by decide) (fun z => ?_) (fun z => ?_)
  · have h := h.1 z
    refine sw_iconst (v := 0) X dc_M_gives_13 (by decide) ?_
    exact b14 u3 a1 (0 : Int32) h
  · have h := h.2 z
    refine sw_iconst (v := 1) X dc_M_gives_9 (by decide) ?_
    refine sw_goto (tgt := 14) X dc_M_gives_10 (by decide) ?_
    exact b14 u3 a1 (1 : Int32) h
def wp_M_walk_L53 (Q : (st_I → Prop)) (r : st_I)  : Prop := Q r
def wp_M_walk_L6 (Q : (st_I → Prop)) : Nat → st_I → Int32 → Int32 → Prop
  | 0 => fun _ _ _ => False
  | n6 + 1 => fun r v1 v2 => ((90 : Int32) ≤ v2 → vp_in v1 6 ∧ ((r 28 (v1).toNatClampNeg) < 0 → wp_M_walk_L53 Q r) ∧ (¬ (r 28 (v1).toNatClampNeg) < 0 → wp_M_looked v1 (511 : Int32) (511 : Int32) r (fun x49 u49 => wp_M_walk_L53 Q u49))) ∧ (¬ (90 : Int32) ≤ v2 → vp_in v2 90 ∧ vp_in v2 90 ∧ (wp_M_walk_L6 Q n6) (st_u (st_u r 31 (v2).toNatClampNeg (vp_nar .boolean (0 : Int32))) 32 (v2).toNatClampNeg (vp_nar .boolean (0 : Int32))) v1 (v2 + 1))
def wp_M_walk (a1 : Int32) (r : st_I) (Q : (st_I → Prop)) : Prop := wp_M_know  r (fun u1 => ∃ n6, wp_M_walk_L6 Q n6 u1 a1 (0 : Int32))
set_option maxHeartbeats 4000000 in
set_option maxRecDepth 100000 in
theorem ct_M_walk (l : Launch) (D : va_G) (cI cL cZ : ClassId) (ad : Nat → Nat) (g : st_I) (q : st_L) (o : st_L) (a1 : Int32) (r : st_I) (Q : (st_I → Prop)) (h : wp_M_walk a1 r Q) : ∀ sz, Met l yn_M_walk (Cond.code yn_M_walk cd_M_walk 3 none :: wa_A) { frames := 7, cells := 0, slots := 0, locals := 165 } (va_Pc [.ref (ad 20), .int a1] (wq_S D cl_A (wd_T cI cL cZ) nw_A (wd_W cI cL cZ ad g q r o) sz)) (va_Qv Q (fun u t => wq_E D cl_A (wd_T cI cL cZ) (va_A (wd_W cI cL cZ ad g q r o) sz) (wd_W cI cL cZ ad g q u o) t) (va_A (wd_W cI cL cZ ad g q r o) sz)) 0 0 (va_A (wd_W cI cL cZ ad g q r o) sz) := by
  refine sw_met (Qc := fun A => va_Qv Q (fun u t => wq_E D cl_A (wd_T cI cL cZ) A (wd_W cI cL cZ ad g q u o) t) A) (by decide) rfl (Nat.le_of_ble_eq_true rfl) rfl ?_
  intro p e s m args below meth c A X hA hNs hE hr hlk hnm
  have b53 : ∀ (r : st_I), wp_M_walk_L53 Q r → sw_J p l e { frames := 7, cells := 0, slots := 0, locals := 165 } s m args below meth c 0 0 (MQ below (va_Qv Q (fun u t => wq_E D cl_A (wd_T cI cL cZ) A (wd_W cI cL cZ ad g q u o) t) A) args s 0 0 A) D cl_A A 3 (wd_W cI cL cZ ad g q r o) 53 [] [] := by
    intro r h
    exact sw_vret X hr hlk (u := r) rfl h dc_M_walk_53
  have b6 : ∀ (n : Nat) (r : st_I) (v1 : Int32) (v2 : Int32), wp_M_walk_L6 Q n r v1 v2 → sw_J p l e { frames := 7, cells := 0, slots := 0, locals := 165 } s m args below meth c 0 0 (MQ below (va_Qv Q (fun u t => wq_E D cl_A (wd_T cI cL cZ) A (wd_W cI cL cZ ad g q u o) t) A) args s 0 0 A) D cl_A A 3 (wd_W cI cL cZ ad g q r o) 6 [(0, .ref (ad 20)), (1, .int v1), (2, .int v2)] [] := by
    intro n6
    induction n6 with
    | zero => intro r v1 v2 h; exact h.elim
    | succ n6 hH6 =>
    intro r v1 v2 h
    refine sw_iload_n X 2 rfl rfl dc_M_walk_6 ?_
    refine sw_bipush (v := 90) X dc_M_walk_7 (by decide) ?_
    refine sw_icmp_ge (tgt := 32) X dc_M_walk_9 (by decide) (fun z => ?_) (fun z => ?_)
    · have h := h.1 z
      refine sw_aload_n X 0 rfl rfl dc_M_walk_32 ?_
      refine sw_get X (fun z hz => List.mem_cons_of_mem _ (wf_M z hz)) 20 (wd_20 cI cL cZ ad g q r o) rfl 8 (by decide) (List.mem_cons_of_mem _ wm_fl_M_31) rfl dc_M_walk_33 ?_
      refine sw_iload_n X 1 rfl rfl dc_M_walk_36 ?_
      refine sw_iald X 28 0 (wd_28 cI cL cZ ad g q r o) rfl h.1 dc_M_walk_37 ?_
      have h := h.2
      refine sw_if_lt (tgt := 53) X dc_M_walk_38 (by decide) (fun z => ?_) (fun z => ?_)
      · have h := h.1 z
        refine sw_sub [] rfl ?_
        exact b53 r h
      · have h := h.2 z
        refine sw_aload_n X 0 rfl rfl dc_M_walk_41 ?_
        refine sw_iload_n X 1 rfl rfl dc_M_walk_42 ?_
        refine sw_sipush (v := 511) X dc_M_walk_43 (by decide) ?_
        refine sw_sipush (v := 511) X dc_M_walk_46 (by decide) ?_
        refine sw_cV_i (n := 3) X hA nw_okA hNs hE (fun u : st_I => wd_W cI cL cZ ad g q u o) [.int v1, .int (511 : Int32), .int (511 : Int32)] 20 (wd_20 cI cL cZ ad g q r o) rfl rfl (ct_M_looked l D cI cL cZ ad g q o v1 (511 : Int32) (511 : Int32) r _ h) (List.mem_cons_of_mem _ wm_ml_M_149) (List.mem_cons_of_mem _ wm_im_M_looked) (List.mem_cons_of_mem _ wm_se_M_looked) rfl (wg_in wm_code_M_looked) rfl rfl (List.mem_cons_of_mem _ wm_in_M) ⟨by decide, by decide, by decide +kernel⟩ ⟨Nat.le_of_ble_eq_true rfl, Nat.le_of_ble_eq_true rfl⟩ ⟨Nat.zero_le _, Nat.zero_le _⟩ rfl (Nat.le_of_ble_eq_true rfl) dc_M_walk_49 rfl (fun x49 u49 h => ?_)
        refine sw_istore_n X [(2, .int x49), (0, .ref (ad 20)), (1, .int v1)] rfl (by decide) rfl dc_M_walk_52 ?_
        refine sw_sub [] rfl ?_
        exact b53 u49 h
    · have h := h.2 z
      refine sw_aload_n X 0 rfl rfl dc_M_walk_12 ?_
      refine sw_get X (fun z hz => List.mem_cons_of_mem _ (wf_M z hz)) 20 (wd_20 cI cL cZ ad g q r o) rfl 11 (by decide) (List.mem_cons_of_mem _ wm_fl_M_40) rfl dc_M_walk_13 ?_
      refine sw_iload_n X 2 rfl rfl dc_M_walk_16 ?_
      refine sw_iconst (v := 0) X dc_M_walk_17 (by decide) ?_
      refine sw_zast X 31 2 (wd_31 cI cL cZ ad g q r o) rfl h.1 (wd_W cI cL cZ ad g q (st_u r 31 (v2).toNatClampNeg (vp_nar .boolean (0 : Int32))) o) (ws_31 cI cL cZ ad g q r o (v2).toNatClampNeg (vp_nar .boolean (0 : Int32))) dc_M_walk_18 ?_
      have h := h.2
      refine sw_aload_n X 0 rfl rfl dc_M_walk_19 ?_
      refine sw_get X (fun z hz => List.mem_cons_of_mem _ (wf_M z hz)) 20 (wd_20 cI cL cZ ad g q (st_u r 31 (v2).toNatClampNeg (vp_nar .boolean (0 : Int32))) o) rfl 12 (by decide) (List.mem_cons_of_mem _ wm_fl_M_44) rfl dc_M_walk_20 ?_
      refine sw_iload_n X 2 rfl rfl dc_M_walk_23 ?_
      refine sw_iconst (v := 0) X dc_M_walk_24 (by decide) ?_
      refine sw_zast X 32 2 (wd_32 cI cL cZ ad g q (st_u r 31 (v2).toNatClampNeg (vp_nar .boolean (0 : Int32))) o) rfl h.1 (wd_W cI cL cZ ad g q (st_u (st_u r 31 (v2).toNatClampNeg (vp_nar .boolean (0 : Int32))) 32 (v2).toNatClampNeg (vp_nar .boolean (0 : Int32))) o) (ws_32 cI cL cZ ad g q (st_u r 31 (v2).toNatClampNeg (vp_nar .boolean (0 : Int32))) o (v2).toNatClampNeg (vp_nar .boolean (0 : Int32))) dc_M_walk_25 ?_
      have h := h.2
      refine sw_iinc (n := 1) (v := (v2 + 1)) X 2 rfl rfl [(2, .int (v2 + 1)), (0, .ref (ad 20)), (1, .int v1)] rfl (by decide) dc_M_walk_26 ?_
      refine sw_goto (tgt := 6) X dc_M_walk_29 (by decide) ?_
      refine sw_sub [1, 2, 0] rfl ?_
      exact hH6 (st_u (st_u r 31 (v2).toNatClampNeg (vp_nar .boolean (0 : Int32))) 32 (v2).toNatClampNeg (vp_nar .boolean (0 : Int32))) v1 (v2 + 1) h
  refine sw_aload_n X 0 rfl rfl dc_M_walk_0 ?_
  refine sw_cV_v (n := 0) X hA nw_okA hNs hE (fun u : st_I => wd_W cI cL cZ ad g q u o) [] 20 (wd_20 cI cL cZ ad g q r o) rfl rfl (ct_M_know l D cI cL cZ ad g q o r _ h) (List.mem_cons_of_mem _ wm_ml_M_155) (List.mem_cons_of_mem _ wm_im_M_know) (List.mem_cons_of_mem _ wm_se_M_know) rfl (wg_in wm_code_M_know) rfl rfl (List.mem_cons_of_mem _ wm_in_M) ⟨by decide, by decide, by decide +kernel⟩ ⟨Nat.le_of_ble_eq_true rfl, Nat.le_of_ble_eq_true rfl⟩ ⟨Nat.zero_le _, Nat.zero_le _⟩ rfl (Nat.le_of_ble_eq_true rfl) dc_M_walk_1 rfl (fun u1 h => ?_)
  refine sw_iconst (v := 0) X dc_M_walk_4 (by decide) ?_
  refine sw_istore_n X [(2, .int (0 : Int32)), (0, .ref (ad 20)), (1, .int a1)] rfl (by decide) rfl dc_M_walk_5 ?_
  refine sw_sub [1, 2, 0] rfl ?_
  obtain ⟨n6, h⟩ := h
  exact b6 n6 u1 a1 (0 : Int32) h
def wp_M_hopeless_L79 (Q : (Int32 → st_I → Prop)) (H35 : st_I → Int32 → Int32 → Prop) (r : st_I) (v3 : Int32) (t0 : Int32) : Prop := H35 r t0 (v3 + 1)
def wp_M_hopeless_L78 (Q : (Int32 → st_I → Prop)) (H35 : st_I → Int32 → Int32 → Prop) (r : st_I) (v2 : Int32) (v3 : Int32) : Prop := wp_M_hopeless_L79 Q H35 r v3 v2
def wp_M_hopeless_L35 (Q : (Int32 → st_I → Prop)) : Nat → st_I → Int32 → Int32 → Prop
  | 0 => fun _ _ _ => False
  | n35 + 1 => fun r v2 v3 => ((r 20 0) ≤ v3 → Q v2 r) ∧ (¬ (r 20 0) ≤ v3 → vp_in v3 90 ∧ (¬ (r 21 (v3).toNatClampNeg) = (10 : Int32) → wp_M_hopeless_L78 Q (wp_M_hopeless_L35 Q n35) r v2 v3) ∧ ((r 21 (v3).toNatClampNeg) = (10 : Int32) → vp_in v3 90 ∧ ((r 31 (v3).toNatClampNeg) = 0 → wp_M_hopeless_L78 Q (wp_M_hopeless_L35 Q n35) r v2 v3) ∧ (¬ (r 31 (v3).toNatClampNeg) = 0 → vp_in v3 90 ∧ (¬ (r 32 (v3).toNatClampNeg) = 0 → wp_M_hopeless_L78 Q (wp_M_hopeless_L35 Q n35) r v2 v3) ∧ ((r 32 (v3).toNatClampNeg) = 0 → wp_M_hopeless_L79 Q (wp_M_hopeless_L35 Q n35) r v3 (v2 + (1 : Int32))))))
def wp_M_hopeless_L14 (Q : (Int32 → st_I → Prop)) (r : st_I) (v1 : Int32) (t0 : Int32) : Prop := (t0 = 0 → wp_M_walk v1 (st_u r 20 35 t0) (fun u28 => ∃ n35, wp_M_hopeless_L35 Q n35 u28 (0 : Int32) (0 : Int32))) ∧ (¬ t0 = 0 → Q (0 : Int32) (st_u r 20 35 t0))
def wp_M_hopeless (a1 : Int32) (r : st_I) (Q : (Int32 → st_I → Prop)) : Prop := wp_M_outside a1 (5 : Int32) r (fun x3 u3 => (x3 = 0 → wp_M_hopeless_L14 Q u3 a1 (0 : Int32)) ∧ (¬ x3 = 0 → wp_M_hopeless_L14 Q u3 a1 (1 : Int32)))
set_option maxHeartbeats 4000000 in
set_option maxRecDepth 100000 in
theorem ct_M_hopeless (l : Launch) (D : va_G) (cI cL cZ : ClassId) (ad : Nat → Nat) (g : st_I) (q : st_L) (o : st_L) (a1 : Int32) (r : st_I) (Q : (Int32 → st_I → Prop)) (h : wp_M_hopeless a1 r Q) : ∀ sz, Met l yn_M_hopeless (Cond.code yn_M_hopeless cd_M_hopeless 4 (some .int) :: wa_A) { frames := 8, cells := 0, slots := 0, locals := 187 } (va_Pc [.ref (ad 20), .int a1] (wq_S D cl_A (wd_T cI cL cZ) nw_A (wd_W cI cL cZ ad g q r o) sz)) (va_Qi Q (fun u t => wq_E D cl_A (wd_T cI cL cZ) (va_A (wd_W cI cL cZ ad g q r o) sz) (wd_W cI cL cZ ad g q u o) t) (va_A (wd_W cI cL cZ ad g q r o) sz)) 0 0 (va_A (wd_W cI cL cZ ad g q r o) sz) := by
  refine sw_met (Qc := fun A => va_Qi Q (fun u t => wq_E D cl_A (wd_T cI cL cZ) A (wd_W cI cL cZ ad g q u o) t) A) (by decide) rfl (Nat.le_of_ble_eq_true rfl) rfl ?_
  intro p e s m args below meth c A X hA hNs hE hr hlk hnm
  have b79 : ∀ (H35 : st_I → Int32 → Int32 → Prop) (hH35 : ∀ (r : st_I) (v2 : Int32) (v3 : Int32), H35 r v2 v3 → sw_J p l e { frames := 8, cells := 0, slots := 0, locals := 187 } s m args below meth c 0 0 (MQ below (va_Qi Q (fun u t => wq_E D cl_A (wd_T cI cL cZ) A (wd_W cI cL cZ ad g q u o) t) A) args s 0 0 A) D cl_A A 4 (wd_W cI cL cZ ad g q r o) 35 [(0, .ref (ad 20)), (2, .int v2), (3, .int v3)] []) (r : st_I) (v3 : Int32) (t0 : Int32), wp_M_hopeless_L79 Q H35 r v3 t0 → sw_J p l e { frames := 8, cells := 0, slots := 0, locals := 187 } s m args below meth c 0 0 (MQ below (va_Qi Q (fun u t => wq_E D cl_A (wd_T cI cL cZ) A (wd_W cI cL cZ ad g q u o) t) A) args s 0 0 A) D cl_A A 4 (wd_W cI cL cZ ad g q r o) 79 [(0, .ref (ad 20)), (3, .int v3)] [.int t0] := by
    intro H35 hH35 r v3 t0 h
    refine sw_istore_n X [(2, .int t0), (0, .ref (ad 20)), (3, .int v3)] rfl (by decide) rfl dc_M_hopeless_79 ?_
    refine sw_iinc (n := 1) (v := (v3 + 1)) X 2 rfl rfl [(3, .int (v3 + 1)), (2, .int t0), (0, .ref (ad 20))] rfl (by decide) dc_M_hopeless_80 ?_
    refine sw_goto (tgt := 35) X dc_M_hopeless_83 (by decide) ?_
    refine sw_sub [2, 1, 0] rfl ?_
    exact hH35 r t0 (v3 + 1) h
  have b78 : ∀ (H35 : st_I → Int32 → Int32 → Prop) (hH35 : ∀ (r : st_I) (v2 : Int32) (v3 : Int32), H35 r v2 v3 → sw_J p l e { frames := 8, cells := 0, slots := 0, locals := 187 } s m args below meth c 0 0 (MQ below (va_Qi Q (fun u t => wq_E D cl_A (wd_T cI cL cZ) A (wd_W cI cL cZ ad g q u o) t) A) args s 0 0 A) D cl_A A 4 (wd_W cI cL cZ ad g q r o) 35 [(0, .ref (ad 20)), (2, .int v2), (3, .int v3)] []) (r : st_I) (v2 : Int32) (v3 : Int32), wp_M_hopeless_L78 Q H35 r v2 v3 → sw_J p l e { frames := 8, cells := 0, slots := 0, locals := 187 } s m args below meth c 0 0 (MQ below (va_Qi Q (fun u t => wq_E D cl_A (wd_T cI cL cZ) A (wd_W cI cL cZ ad g q u o) t) A) args s 0 0 A) D cl_A A 4 (wd_W cI cL cZ ad g q r o) 78 [(0, .ref (ad 20)), (2, .int v2), (3, .int v3)] [] := by
    intro H35 hH35 r v2 v3 h
    refine sw_iload_n X 1 rfl rfl dc_M_hopeless_78 ?_
    refine sw_sub [0, 2] rfl ?_
    exact b79 H35 hH35 r v3 v2 h
  have b35 : ∀ (n : Nat) (r : st_I) (v2 : Int32) (v3 : Int32), wp_M_hopeless_L35 Q n r v2 v3 → sw_J p l e { frames := 8, cells := 0, slots := 0, locals := 187 } s m args below meth c 0 0 (MQ below (va_Qi Q (fun u t => wq_E D cl_A (wd_T cI cL cZ) A (wd_W cI cL cZ ad g q u o) t) A) args s 0 0 A) D cl_A A 4 (wd_W cI cL cZ ad g q r o) 35 [(0, .ref (ad 20)), (2, .int v2), (3, .int v3)] [] := by
    intro n35
    induction n35 with
    | zero => intro r v2 v3 h; exact h.elim
    | succ n35 hH35 =>
    intro r v2 v3 h
    refine sw_iload_n X 2 rfl rfl dc_M_hopeless_35 ?_
    refine sw_aload_n X 0 rfl rfl dc_M_hopeless_36 ?_
    refine sw_get (v := .int (r 20 0)) X (fun z hz => List.mem_cons_of_mem _ (wf_M z hz)) 20 (wd_20 cI cL cZ ad g q r o) rfl 0 (by decide) (List.mem_cons_of_mem _ wm_fl_M_84) rfl dc_M_hopeless_37 ?_
    refine sw_icmp_ge (tgt := 86) X dc_M_hopeless_40 (by decide) (fun z => ?_) (fun z => ?_)
    · have h := h.1 z
      refine sw_iload_n X 1 rfl rfl dc_M_hopeless_86 ?_
      exact sw_iret X hr hlk (u := r) rfl h dc_M_hopeless_87
    · have h := h.2 z
      refine sw_aload_n X 0 rfl rfl dc_M_hopeless_43 ?_
      refine sw_get X (fun z hz => List.mem_cons_of_mem _ (wf_M z hz)) 20 (wd_20 cI cL cZ ad g q r o) rfl 1 (by decide) (List.mem_cons_of_mem _ wm_fl_M_7) rfl dc_M_hopeless_44 ?_
      refine sw_iload_n X 2 rfl rfl dc_M_hopeless_47 ?_
      refine sw_iald X 21 0 (wd_21 cI cL cZ ad g q r o) rfl h.1 dc_M_hopeless_48 ?_
      have h := h.2
      refine sw_bipush (v := 10) X dc_M_hopeless_49 (by decide) ?_
      refine sw_icmp_ne (tgt := 78) X dc_M_hopeless_51 (by decide) (fun z => ?_) (fun z => ?_)
      · have h := h.1 z
        exact b78 (wp_M_hopeless_L35 Q n35) hH35 r v2 v3 h
      · have h := h.2 z
        refine sw_aload_n X 0 rfl rfl dc_M_hopeless_54 ?_
        refine sw_get X (fun z hz => List.mem_cons_of_mem _ (wf_M z hz)) 20 (wd_20 cI cL cZ ad g q r o) rfl 11 (by decide) (List.mem_cons_of_mem _ wm_fl_M_40) rfl dc_M_hopeless_55 ?_
        refine sw_iload_n X 2 rfl rfl dc_M_hopeless_58 ?_
        refine sw_zald X 31 2 (wd_31 cI cL cZ ad g q r o) rfl h.1 dc_M_hopeless_59 ?_
        have h := h.2
        refine sw_if_eq (tgt := 78) X dc_M_hopeless_60 (by decide) (fun z => ?_) (fun z => ?_)
        · have h := h.1 z
          exact b78 (wp_M_hopeless_L35 Q n35) hH35 r v2 v3 h
        · have h := h.2 z
          refine sw_aload_n X 0 rfl rfl dc_M_hopeless_63 ?_
          refine sw_get X (fun z hz => List.mem_cons_of_mem _ (wf_M z hz)) 20 (wd_20 cI cL cZ ad g q r o) rfl 12 (by decide) (List.mem_cons_of_mem _ wm_fl_M_44) rfl dc_M_hopeless_64 ?_
          refine sw_iload_n X 2 rfl rfl dc_M_hopeless_67 ?_
          refine sw_zald X 32 2 (wd_32 cI cL cZ ad g q r o) rfl h.1 dc_M_hopeless_68 ?_
          have h := h.2
          refine sw_if_ne (tgt := 78) X dc_M_hopeless_69 (by decide) (fun z => ?_) (fun z => ?_)
          · have h := h.1 z
            exact b78 (wp_M_hopeless_L35 Q n35) hH35 r v2 v3 h
          · have h := h.2 z
            refine sw_iload_n X 1 rfl rfl dc_M_hopeless_72 ?_
            refine sw_iconst (v := 1) X dc_M_hopeless_73 (by decide) ?_
            refine sw_iadd X dc_M_hopeless_74 ?_
            refine sw_goto (tgt := 79) X dc_M_hopeless_75 (by decide) ?_
            refine sw_sub [0, 2] rfl ?_
            exact b79 (wp_M_hopeless_L35 Q n35) hH35 r v3 (v2 + (1 : Int32)) h
  have b14 : ∀ (r : st_I) (v1 : Int32) (t0 : Int32), wp_M_hopeless_L14 Q r v1 t0 → sw_J p l e { frames := 8, cells := 0, slots := 0, locals := 187 } s m args below meth c 0 0 (MQ below (va_Qi Q (fun u t => wq_E D cl_A (wd_T cI cL cZ) A (wd_W cI cL cZ ad g q u o) t) A) args s 0 0 A) D cl_A A 4 (wd_W cI cL cZ ad g q r o) 14 [(0, .ref (ad 20)), (1, .int v1)] [.int t0, .ref (ad 20)] := by
    intro r v1 t0 h
    refine sw_put (ty := .int) X (fun z hz => List.mem_cons_of_mem _ (wf_M z hz)) fy_M fo_M fn_M 20 (wd_20 cI cL cZ ad g q r o) rfl 35 (by decide) (List.mem_cons_of_mem _ wm_fl_M_80) rfl (by decide +kernel) rfl rfl (Nat.le_of_ble_eq_true rfl) (wd_W cI cL cZ ad g q (st_u r 20 35 t0) o) (ws_20_35 cI cL cZ ad g q r o t0) dc_M_hopeless_14 ?_
    refine sw_aload_n X 0 rfl rfl dc_M_hopeless_17 ?_
    refine sw_get (v := .int t0) X (fun z hz => List.mem_cons_of_mem _ (wf_M z hz)) 20 (wd_20 cI cL cZ ad g q (st_u r 20 35 t0) o) rfl 35 (by decide) (List.mem_cons_of_mem _ wm_fl_M_80) rfl dc_M_hopeless_18 ?_
    refine sw_if_eq (tgt := 26) X dc_M_hopeless_21 (by decide) (fun z => ?_) (fun z => ?_)
    · have h := h.1 z
      refine sw_aload_n X 0 rfl rfl dc_M_hopeless_26 ?_
      refine sw_iload_n X 1 rfl rfl dc_M_hopeless_27 ?_
      refine sw_cV_v (n := 1) X hA nw_okA hNs hE (fun u : st_I => wd_W cI cL cZ ad g q u o) [.int v1] 20 (wd_20 cI cL cZ ad g q (st_u r 20 35 t0) o) rfl rfl (ct_M_walk l D cI cL cZ ad g q o v1 (st_u r 20 35 t0) _ h) (List.mem_cons_of_mem _ wm_ml_M_158) (List.mem_cons_of_mem _ wm_im_M_walk) (List.mem_cons_of_mem _ wm_se_M_walk) rfl (wg_in wm_code_M_walk) rfl rfl (List.mem_cons_of_mem _ wm_in_M) ⟨by decide, by decide, by decide +kernel⟩ ⟨Nat.le_of_ble_eq_true rfl, Nat.le_of_ble_eq_true rfl⟩ ⟨Nat.zero_le _, Nat.zero_le _⟩ rfl (Nat.le_of_ble_eq_true rfl) dc_M_hopeless_28 rfl (fun u28 h => ?_)
      refine sw_iconst (v := 0) X dc_M_hopeless_31 (by decide) ?_
      refine sw_istore_n X [(2, .int (0 : Int32)), (0, .ref (ad 20)), (1, .int v1)] rfl (by decide) rfl dc_M_hopeless_32 ?_
      refine sw_iconst (v := 0) X dc_M_hopeless_33 (by decide) ?_
      refine sw_istore_n X [(3, .int (0 : Int32)), (2, .int (0 : Int32)), (0, .ref (ad 20)), (1, .int v1)] rfl (by decide) rfl dc_M_hopeless_34 ?_
      refine sw_sub [2, 1, 0] rfl ?_
      obtain ⟨n35, h⟩ := h
      exact b35 n35 u28 (0 : Int32) (0 : Int32) h
    · have h := h.2 z
      refine sw_iconst (v := 0) X dc_M_hopeless_24 (by decide) ?_
      exact sw_iret X hr hlk (u := (st_u r 20 35 t0)) rfl h dc_M_hopeless_25
  refine sw_aload_n X 0 rfl rfl dc_M_hopeless_0 ?_
  refine sw_iload_n X 1 rfl rfl dc_M_hopeless_1 ?_
  refine sw_iconst (v := 5) X dc_M_hopeless_2 (by decide) ?_
  refine sw_cS_i (n := 2) X hA nw_okA hNs hE (fun u : st_I => wd_W cI cL cZ ad g q u o) [.int a1, .int (5 : Int32)] (ct_M_outside l D cI cL cZ ad g q o a1 (5 : Int32) r _ h) (List.mem_cons_of_mem _ wm_ml_M_87) (List.mem_cons_of_mem _ wm_st_M_outside) rfl (wg_in wm_code_M_outside) rfl rfl (List.mem_cons_of_mem _ wm_in_M) ⟨by decide, by decide, by decide +kernel⟩ ⟨Nat.le_of_ble_eq_true rfl, Nat.le_of_ble_eq_true rfl⟩ ⟨Nat.zero_le _, Nat.zero_le _⟩ rfl (Nat.le_of_ble_eq_true rfl) dc_M_hopeless_3 rfl (fun x3 u3 h => ?_)
  refine sw_if_eq (tgt := 13) X dc_M_hopeless_6 (by decide) (fun z => ?_) (fun z => ?_)
  · have h := h.1 z
    refine sw_iconst (v := 0) X dc_M_hopeless_13 (by decide) ?_
    exact b14 u3 a1 (0 : Int32) h
  · have h := h.2 z
    refine sw_iconst (v := 1) X dc_M_hopeless_9 (by decide) ?_
    refine sw_goto (tgt := 14) X dc_M_hopeless_10 (by decide) ?_
    exact b14 u3 a1 (1 : Int32) h
def wp_M_isHopeless_L73 (Q : (Int32 → st_I → Prop)) (r : st_I) (t0 : Int32) : Prop := narrow .boolean (.int t0) = .int t0 ∧ Q t0 r
def wp_M_isHopeless_L72 (Q : (Int32 → st_I → Prop)) (r : st_I)  : Prop := wp_M_isHopeless_L73 Q r (0 : Int32)
def wp_M_isHopeless_L22 (Q : (Int32 → st_I → Prop)) (r : st_I) (v1 : Int32) (v2 : Int32) (t0 : Int32) : Prop := (t0 = 0 → wp_M_walk v1 (st_u r 20 35 t0) (fun u36 => vp_in v2 90 ∧ (¬ (u36 21 (v2).toNatClampNeg) = (10 : Int32) → wp_M_isHopeless_L72 Q u36) ∧ ((u36 21 (v2).toNatClampNeg) = (10 : Int32) → vp_in v2 90 ∧ ((u36 31 (v2).toNatClampNeg) = 0 → wp_M_isHopeless_L72 Q u36) ∧ (¬ (u36 31 (v2).toNatClampNeg) = 0 → vp_in v2 90 ∧ (¬ (u36 32 (v2).toNatClampNeg) = 0 → wp_M_isHopeless_L72 Q u36) ∧ ((u36 32 (v2).toNatClampNeg) = 0 → wp_M_isHopeless_L73 Q u36 (1 : Int32)))))) ∧ (¬ t0 = 0 → Q (0 : Int32) (st_u r 20 35 t0))
def wp_M_isHopeless_L17 (Q : (Int32 → st_I → Prop)) (r : st_I) (v1 : Int32) (v2 : Int32) : Prop := wp_M_isHopeless_L22 Q r v1 v2 (1 : Int32)
def wp_M_isHopeless (a1 : Int32) (a2 : Int32) (r : st_I) (Q : (Int32 → st_I → Prop)) : Prop := wp_M_outside a1 (5 : Int32) r (fun x3 u3 => (¬ x3 = 0 → wp_M_isHopeless_L17 Q u3 a1 a2) ∧ (x3 = 0 → wp_M_isPart a2 u3 (fun x11 u11 => (¬ x11 = 0 → wp_M_isHopeless_L22 Q u11 a1 a2 (0 : Int32)) ∧ (x11 = 0 → wp_M_isHopeless_L17 Q u11 a1 a2))))
set_option maxHeartbeats 4000000 in
set_option maxRecDepth 100000 in
theorem ct_M_isHopeless (l : Launch) (D : va_G) (cI cL cZ : ClassId) (ad : Nat → Nat) (g : st_I) (q : st_L) (o : st_L) (a1 : Int32) (a2 : Int32) (r : st_I) (Q : (Int32 → st_I → Prop)) (h : wp_M_isHopeless a1 a2 r Q) : ∀ sz, Met l yn_M_isHopeless (Cond.code yn_M_isHopeless cd_M_isHopeless 3 (some .boolean) :: wa_A) { frames := 8, cells := 0, slots := 0, locals := 187 } (va_Pc [.ref (ad 20), .int a1, .int a2] (wq_S D cl_A (wd_T cI cL cZ) nw_A (wd_W cI cL cZ ad g q r o) sz)) (va_Qi Q (fun u t => wq_E D cl_A (wd_T cI cL cZ) (va_A (wd_W cI cL cZ ad g q r o) sz) (wd_W cI cL cZ ad g q u o) t) (va_A (wd_W cI cL cZ ad g q r o) sz)) 0 0 (va_A (wd_W cI cL cZ ad g q r o) sz) := by
  refine sw_met (Qc := fun A => va_Qi Q (fun u t => wq_E D cl_A (wd_T cI cL cZ) A (wd_W cI cL cZ ad g q u o) t) A) (by decide) rfl (Nat.le_of_ble_eq_true rfl) rfl ?_
  intro p e s m args below meth c A X hA hNs hE hr hlk hnm
  have b73 : ∀ (r : st_I) (t0 : Int32), wp_M_isHopeless_L73 Q r t0 → sw_J p l e { frames := 8, cells := 0, slots := 0, locals := 187 } s m args below meth c 0 0 (MQ below (va_Qi Q (fun u t => wq_E D cl_A (wd_T cI cL cZ) A (wd_W cI cL cZ ad g q u o) t) A) args s 0 0 A) D cl_A A 3 (wd_W cI cL cZ ad g q r o) 73 [] [.int t0] := by
    intro r t0 h
    exact sw_zret X hr hlk h.1 (u := r) rfl h.2 dc_M_isHopeless_73
  have b72 : ∀ (r : st_I), wp_M_isHopeless_L72 Q r → sw_J p l e { frames := 8, cells := 0, slots := 0, locals := 187 } s m args below meth c 0 0 (MQ below (va_Qi Q (fun u t => wq_E D cl_A (wd_T cI cL cZ) A (wd_W cI cL cZ ad g q u o) t) A) args s 0 0 A) D cl_A A 3 (wd_W cI cL cZ ad g q r o) 72 [] [] := by
    intro r h
    refine sw_iconst (v := 0) X dc_M_isHopeless_72 (by decide) ?_
    exact b73 r (0 : Int32) h
  have b22 : ∀ (r : st_I) (v1 : Int32) (v2 : Int32) (t0 : Int32), wp_M_isHopeless_L22 Q r v1 v2 t0 → sw_J p l e { frames := 8, cells := 0, slots := 0, locals := 187 } s m args below meth c 0 0 (MQ below (va_Qi Q (fun u t => wq_E D cl_A (wd_T cI cL cZ) A (wd_W cI cL cZ ad g q u o) t) A) args s 0 0 A) D cl_A A 3 (wd_W cI cL cZ ad g q r o) 22 [(0, .ref (ad 20)), (1, .int v1), (2, .int v2)] [.int t0, .ref (ad 20)] := by
    intro r v1 v2 t0 h
    refine sw_put (ty := .int) X (fun z hz => List.mem_cons_of_mem _ (wf_M z hz)) fy_M fo_M fn_M 20 (wd_20 cI cL cZ ad g q r o) rfl 35 (by decide) (List.mem_cons_of_mem _ wm_fl_M_80) rfl (by decide +kernel) rfl rfl (Nat.le_of_ble_eq_true rfl) (wd_W cI cL cZ ad g q (st_u r 20 35 t0) o) (ws_20_35 cI cL cZ ad g q r o t0) dc_M_isHopeless_22 ?_
    refine sw_aload_n X 0 rfl rfl dc_M_isHopeless_25 ?_
    refine sw_get (v := .int t0) X (fun z hz => List.mem_cons_of_mem _ (wf_M z hz)) 20 (wd_20 cI cL cZ ad g q (st_u r 20 35 t0) o) rfl 35 (by decide) (List.mem_cons_of_mem _ wm_fl_M_80) rfl dc_M_isHopeless_26 ?_
    refine sw_if_eq (tgt := 34) X dc_M_isHopeless_29 (by decide) (fun z => ?_) (fun z => ?_)
    · have h := h.1 z
      refine sw_aload_n X 0 rfl rfl dc_M_isHopeless_34 ?_
      refine sw_iload_n X 1 rfl rfl dc_M_isHopeless_35 ?_
      refine sw_cV_v (n := 1) X hA nw_okA hNs hE (fun u : st_I => wd_W cI cL cZ ad g q u o) [.int v1] 20 (wd_20 cI cL cZ ad g q (st_u r 20 35 t0) o) rfl rfl (ct_M_walk l D cI cL cZ ad g q o v1 (st_u r 20 35 t0) _ h) (List.mem_cons_of_mem _ wm_ml_M_158) (List.mem_cons_of_mem _ wm_im_M_walk) (List.mem_cons_of_mem _ wm_se_M_walk) rfl (wg_in wm_code_M_walk) rfl rfl (List.mem_cons_of_mem _ wm_in_M) ⟨by decide, by decide, by decide +kernel⟩ ⟨Nat.le_of_ble_eq_true rfl, Nat.le_of_ble_eq_true rfl⟩ ⟨Nat.zero_le _, Nat.zero_le _⟩ rfl (Nat.le_of_ble_eq_true rfl) dc_M_isHopeless_36 rfl (fun u36 h => ?_)
      refine sw_aload_n X 0 rfl rfl dc_M_isHopeless_39 ?_
      refine sw_get X (fun z hz => List.mem_cons_of_mem _ (wf_M z hz)) 20 (wd_20 cI cL cZ ad g q u36 o) rfl 1 (by decide) (List.mem_cons_of_mem _ wm_fl_M_7) rfl dc_M_isHopeless_40 ?_
      refine sw_iload_n X 2 rfl rfl dc_M_isHopeless_43 ?_
      refine sw_iald X 21 0 (wd_21 cI cL cZ ad g q u36 o) rfl h.1 dc_M_isHopeless_44 ?_
      have h := h.2
      refine sw_bipush (v := 10) X dc_M_isHopeless_45 (by decide) ?_
      refine sw_icmp_ne (tgt := 72) X dc_M_isHopeless_47 (by decide) (fun z => ?_) (fun z => ?_)
      · have h := h.1 z
        refine sw_sub [] rfl ?_
        exact b72 u36 h
      · have h := h.2 z
        refine sw_aload_n X 0 rfl rfl dc_M_isHopeless_50 ?_
        refine sw_get X (fun z hz => List.mem_cons_of_mem _ (wf_M z hz)) 20 (wd_20 cI cL cZ ad g q u36 o) rfl 11 (by decide) (List.mem_cons_of_mem _ wm_fl_M_40) rfl dc_M_isHopeless_51 ?_
        refine sw_iload_n X 2 rfl rfl dc_M_isHopeless_54 ?_
        refine sw_zald X 31 2 (wd_31 cI cL cZ ad g q u36 o) rfl h.1 dc_M_isHopeless_55 ?_
        have h := h.2
        refine sw_if_eq (tgt := 72) X dc_M_isHopeless_56 (by decide) (fun z => ?_) (fun z => ?_)
        · have h := h.1 z
          refine sw_sub [] rfl ?_
          exact b72 u36 h
        · have h := h.2 z
          refine sw_aload_n X 0 rfl rfl dc_M_isHopeless_59 ?_
          refine sw_get X (fun z hz => List.mem_cons_of_mem _ (wf_M z hz)) 20 (wd_20 cI cL cZ ad g q u36 o) rfl 12 (by decide) (List.mem_cons_of_mem _ wm_fl_M_44) rfl dc_M_isHopeless_60 ?_
          refine sw_iload_n X 2 rfl rfl dc_M_isHopeless_63 ?_
          refine sw_zald X 32 2 (wd_32 cI cL cZ ad g q u36 o) rfl h.1 dc_M_isHopeless_64 ?_
          have h := h.2
          refine sw_if_ne (tgt := 72) X dc_M_isHopeless_65 (by decide) (fun z => ?_) (fun z => ?_)
          · have h := h.1 z
            refine sw_sub [] rfl ?_
            exact b72 u36 h
          · have h := h.2 z
            refine sw_iconst (v := 1) X dc_M_isHopeless_68 (by decide) ?_
            refine sw_goto (tgt := 73) X dc_M_isHopeless_69 (by decide) ?_
            refine sw_sub [] rfl ?_
            exact b73 u36 (1 : Int32) h
    · have h := h.2 z
      refine sw_iconst (v := 0) X dc_M_isHopeless_32 (by decide) ?_
      exact sw_zret X hr hlk (by decide) (u := (st_u r 20 35 t0)) rfl h dc_M_isHopeless_33
  have b17 : ∀ (r : st_I) (v1 : Int32) (v2 : Int32), wp_M_isHopeless_L17 Q r v1 v2 → sw_J p l e { frames := 8, cells := 0, slots := 0, locals := 187 } s m args below meth c 0 0 (MQ below (va_Qi Q (fun u t => wq_E D cl_A (wd_T cI cL cZ) A (wd_W cI cL cZ ad g q u o) t) A) args s 0 0 A) D cl_A A 3 (wd_W cI cL cZ ad g q r o) 17 [(0, .ref (ad 20)), (1, .int v1), (2, .int v2)] [.ref (ad 20)] := by
    intro r v1 v2 h
    refine sw_iconst (v := 1) X dc_M_isHopeless_17 (by decide) ?_
    refine sw_goto (tgt := 22) X dc_M_isHopeless_18 (by decide) ?_
    exact b22 r v1 v2 (1 : Int32) h
  refine sw_aload_n X 0 rfl rfl dc_M_isHopeless_0 ?_
  refine sw_iload_n X 1 rfl rfl dc_M_isHopeless_1 ?_
  refine sw_iconst (v := 5) X dc_M_isHopeless_2 (by decide) ?_
  refine sw_cS_i (n := 2) X hA nw_okA hNs hE (fun u : st_I => wd_W cI cL cZ ad g q u o) [.int a1, .int (5 : Int32)] (ct_M_outside l D cI cL cZ ad g q o a1 (5 : Int32) r _ h) (List.mem_cons_of_mem _ wm_ml_M_87) (List.mem_cons_of_mem _ wm_st_M_outside) rfl (wg_in wm_code_M_outside) rfl rfl (List.mem_cons_of_mem _ wm_in_M) ⟨by decide, by decide, by decide +kernel⟩ ⟨Nat.le_of_ble_eq_true rfl, Nat.le_of_ble_eq_true rfl⟩ ⟨Nat.zero_le _, Nat.zero_le _⟩ rfl (Nat.le_of_ble_eq_true rfl) dc_M_isHopeless_3 rfl (fun x3 u3 h => ?_)
  refine sw_if_ne (tgt := 17) X dc_M_isHopeless_6 (by decide) (fun z => ?_) (fun z => ?_)
  · have h := h.1 z
    exact b17 u3 a1 a2 h
  · have h := h.2 z
    refine sw_aload_n X 0 rfl rfl dc_M_isHopeless_9 ?_
    refine sw_iload_n X 2 rfl rfl dc_M_isHopeless_10 ?_
    refine sw_cV_i (n := 1) X hA nw_okA hNs hE (fun u : st_I => wd_W cI cL cZ ad g q u o) [.int a2] 20 (wd_20 cI cL cZ ad g q u3 o) rfl rfl (ct_M_isPart l D cI cL cZ ad g q o a2 u3 _ h) (List.mem_cons_of_mem _ wm_ml_M_107) (List.mem_cons_of_mem _ wm_im_M_isPart) (List.mem_cons_of_mem _ wm_se_M_isPart) rfl (wg_in wm_code_M_isPart) rfl rfl (List.mem_cons_of_mem _ wm_in_M) ⟨by decide, by decide, by decide +kernel⟩ ⟨Nat.le_of_ble_eq_true rfl, Nat.le_of_ble_eq_true rfl⟩ ⟨Nat.zero_le _, Nat.zero_le _⟩ rfl (Nat.le_of_ble_eq_true rfl) dc_M_isHopeless_11 rfl (fun x11 u11 h => ?_)
    refine sw_if_ne (tgt := 21) X dc_M_isHopeless_14 (by decide) (fun z => ?_) (fun z => ?_)
    · have h := h.1 z
      refine sw_iconst (v := 0) X dc_M_isHopeless_21 (by decide) ?_
      exact b22 u11 a1 a2 (0 : Int32) h
    · have h := h.2 z
      exact b17 u11 a1 a2 h
