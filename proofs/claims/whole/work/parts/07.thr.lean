-- exceptions of the class: its sites, what must be known of the tables and of Throwable's statics
def xs_A : List (Nat × String) := [(38, "no such expression can be made"), (49, "there are as many expressions as there may be"), (139, "no such function"), (144, "no such expression"), (77, "no such parameter"), (104, "the run failed"), (109, "the run was cut off"), (125, "no such part")]
def xn_C : List String := ["java/lang/RuntimeException", "java/lang/Exception"]
def xq_S (ic : Nat) (cls : String) : List Cond := vx_atS rn_S ic cls xn_C
def xb_A : List Cond := [Cond.castable "java/lang/IllegalArgumentException" "java/lang/IllegalArgumentException", Cond.castable "java/lang/IllegalStateException" "java/lang/IllegalStateException", Cond.castable "java/lang/UnsupportedOperationException" "java/lang/UnsupportedOperationException", Cond.castable "java/lang/IndexOutOfBoundsException" "java/lang/IndexOutOfBoundsException", Cond.declares (Bundle.initS "java/lang/RuntimeException"), Cond.declares (Bundle.initS "java/lang/Exception"), Cond.declares (Bundle.initS "java/lang/Throwable")]
def xo_K (cls : String) (ik ic : Nat) : Prop := (∀ w ∈ (xq_S ic cls).filter goodWord, w ∈ wa_A) ∧ (∀ w ∈ (xq_S ic cls).filter (fun w => !goodWord w), w ∈ xb_A) ∧ (∀ w ∈ Cond.classLink rn_S ik cls :: Cond.initialized cls :: xq_S ic cls, vx_ot w = true) ∧ Bundle.fit cls = true ∧ Cond.classLink rn_S ik cls ∈ wa_A ∧ Cond.initialized cls ∈ wa_A
theorem xn_fit : ∀ n ∈ xn_C, Bundle.fit n = true := by decide +kernel
theorem xb_ok : ∀ z ∈ xb_A, z.onTables = true ∧ ∀ (u U : State), u.WarmedH U.vm → va_Nw z u → va_Nw z U := by
  intro z hz
  rcases List.mem_cons.mp hz with rfl | hz
  · exact ⟨rfl, fun u U hW h => va_Nw.warmC hW h⟩
  rcases List.mem_cons.mp hz with rfl | hz
  · exact ⟨rfl, fun u U hW h => va_Nw.warmC hW h⟩
  rcases List.mem_cons.mp hz with rfl | hz
  · exact ⟨rfl, fun u U hW h => va_Nw.warmC hW h⟩
  rcases List.mem_cons.mp hz with rfl | hz
  · exact ⟨rfl, fun u U hW h => va_Nw.warmC hW h⟩
  rcases List.mem_cons.mp hz with rfl | hz
  · exact ⟨rfl, fun u U hW h => va_Nw.warmD hW h⟩
  rcases List.mem_cons.mp hz with rfl | hz
  · exact ⟨rfl, fun u U hW h => va_Nw.warmD hW h⟩
  rcases List.mem_cons.mp hz with rfl | hz
  · exact ⟨rfl, fun u U hW h => va_Nw.warmD hW h⟩
  cases hz
def en_X (A : Nat → Prop) (U : State) (H : Heap) : Prop := vx_Zq Bundle.tN "UNASSIGNED_STACK" Bundle.steD A U H ∧ vx_Zq Bundle.tN "SUPPRESSED_SENTINEL" Bundle.listD A U H ∧ (∀ w ∈ xb_A, va_Nw w U) ∧ ∀ q ∈ xs_A, ∃ sa : Nat, vk_R rn_S q.1 q.2 sa U
theorem en_Xto {A B : Nat → Prop} {u U : State} {H H1 : Heap} (hW : u.WarmedH U.vm) (hq : ∀ a : Nat, a < H.size → ¬ A a → H1[a]? = H[a]?) (hAB : ∀ q, B q → A q) (h : en_X A u H) : en_X B U H1 := by
  obtain ⟨h1, h2, h3, h4⟩ := h
  exact ⟨((h1.kept hq).narrow hAB).moved hW.alike, ((h2.kept hq).narrow hAB).moved hW.alike, fun z hz => (xb_ok z hz).2 u U hW (h3 z hz), fun q hq => by
    obtain ⟨sa, h⟩ := h4 q hq
    exact ⟨sa, h.warm hW⟩⟩
theorem en_Xsame {A : Nat → Prop} {u U : State} (hv : U.vm = u.vm) (hh : U.heap = u.heap) (h : en_X A u u.heap) : en_X A U U.heap := by
  obtain ⟨h1, h2, h3, h4⟩ := h
  have hal : u.vm.Alike U.vm := by rw [hv]; exact Vm.Alike.refl _
  exact ⟨by rw [hh]; exact h1.moved hal, by rw [hh]; exact h2.moved hal, fun z hz => va_Nw.same (xb_ok z hz).1 hv.symm (h3 z hz), fun q hq => by
    obtain ⟨sa, h⟩ := h4 q hq
    exact ⟨sa, h.same hv⟩⟩
def wx_S (D : va_G) (cl : List vw_C) (tys : List (ClassId × FieldType)) (NW : List Cond) (w : va_W) (sz : Nat) (U : State) : Prop := wq_S D cl tys NW w sz U ∧ en_X (va_A w sz) U U.heap
theorem wx_blind {D : va_G} {cl : List vw_C} {tys : List (ClassId × FieldType)} {NW : List Cond} (hN : nw_ok NW) {w : va_W} {sz : Nat} {As : List Value} : FrameBlind (va_Pc As (wx_S D cl tys NW w sz)) := by
  intro a U g mk q
  obtain ⟨q0, q1, q2⟩ := q
  exact ⟨q0, (wq_blind hN a U g mk ⟨q0, q1⟩).2, en_Xsame (u := U) (U := U.calling g mk a) rfl rfl q2⟩
-- what an exception leaves behind
abbrev xc_X {S : Type} (D : va_G) (cl : List vw_C) (tys : List (ClassId × FieldType)) (F : S → va_W) (QX : String → S → Prop) (A : Nat → Prop) : String → State → State → Prop := vx_X (fun _ : S => True) (fun E u t => QX E u ∧ wq_E D cl tys A (F u) t) A
section TT
variable {p : Program} {l : Launch} {e : Env} {R : Room} {s : State} {m : MethodId} {args : Array Value} {below : List Frame} {meth : Method} {c : Code} {cells slots mc ms : Nat} {Q : State → Prop} {D : va_G} {cl : List vw_C} {A : Nat → Prop} {nL : Nat} {w : va_W} {cc : ByteArray} {pc : Nat} {lv : List (Nat × Value)} {st : List Value} {Ts : List Cond} {own : String} {tys : List (ClassId × FieldType)} {NW : List Cond} {S : Type} {F : S → va_W} {QX : String → S → Prop}
theorem wx_at (hK : va_K D cl tys s) (hA : ∀ q, s.heap.size ≤ q → A q) (hN : nw_ok NW) (hNs : ∀ z ∈ NW, va_Nw z s) (hE : en_P A s s.heap) (hX : en_X A s s.heap) {H : Heap} {locs : List Loc} (hP : va_P D cl w H) (hD : va_D A w) (hS : va_S A s.heap H locs) {As : List Value} (U : State) (hU : U.heap = H) (hW : s.WarmedH U.vm) : va_Pc As (wx_S D cl tys NW w H.size) As.toArray U :=
  ⟨rfl, (wq_at hK hA hN hNs hE hP hD hS (As := As) U hU hW).2, by rw [hU]; exact en_Xto hW hS.2.1 (wq_free hA hD hS) hX⟩
theorem sw_widen (cells' slots' : Nat) (h1 : cells ≤ cells') (h2 : slots ≤ slots') (k : sw_J p l e R s m args below meth c cells' slots' Q D cl A nL w pc lv st) : sw_J p l e R s m args below meth c cells slots Q D cl A nL w pc lv st := fun H locs ls hP hD hS hl => W.widen h1 h2 (k H locs ls hP hD hS hl)
theorem sx_iret {post : Int32 → S → Prop} (X : sw_X p m c cc nL s args Ts own D cl tys) (hr : meth.sig.returnType = some .int) (hlocks : meth.locks = false) (h1 : cells ≤ mc) (h2 : slots ≤ ms) {v : Int32} {u : S} (hw : w = F u) (h : post v u) (d : decode cc pc = .ok (.ireturn, 1)) : sw_J p l e R s m args below meth c cells slots (vx_MQ below (va_Qi post (fun u t => wq_E D cl tys A (F u) t) A) (xc_X D cl tys F QX A) args s mc ms A) D cl A nL w pc lv [.int v] :=
  fun H locs ls hP hD hS hl => W.widen h1 h2 (vx_ret (W.iret (v := v) X.1.1 X.1.2.1 hr (fun t ht hW => ⟨⟨v, u, rfl, h, by rw [ht, ← hw]; exact hP, va_K.moved hW.alike X.2, by rw [← hw]; exact hD⟩, hS.F ht⟩) hS.2.2 d hlocks))
theorem sx_zret {post : Int32 → S → Prop} (X : sw_X p m c cc nL s args Ts own D cl tys) (hr : meth.sig.returnType = some .boolean) (hlocks : meth.locks = false) (h1 : cells ≤ mc) (h2 : slots ≤ ms) {v : Int32} (hb : narrow .boolean (.int v) = .int v) {u : S} (hw : w = F u) (h : post v u) (d : decode cc pc = .ok (.ireturn, 1)) : sw_J p l e R s m args below meth c cells slots (vx_MQ below (va_Qi post (fun u t => wq_E D cl tys A (F u) t) A) (xc_X D cl tys F QX A) args s mc ms A) D cl A nL w pc lv [.int v] :=
  fun H locs ls hP hD hS hl => W.widen h1 h2 (vx_ret (W.zret (v := v) X.1.1 X.1.2.1 hr hb (fun t ht hW => ⟨⟨v, u, rfl, h, by rw [ht, ← hw]; exact hP, va_K.moved hW.alike X.2, by rw [← hw]; exact hD⟩, hS.F ht⟩) hS.2.2 d hlocks))
theorem sx_vret {post : S → Prop} (X : sw_X p m c cc nL s args Ts own D cl tys) (hr : meth.sig.returnType = none) (hlocks : meth.locks = false) (h1 : cells ≤ mc) (h2 : slots ≤ ms) {u : S} (hw : w = F u) (h : post u) (d : decode cc pc = .ok (.return_, 1)) : sw_J p l e R s m args below meth c cells slots (vx_MQ below (va_Qv post (fun u t => wq_E D cl tys A (F u) t) A) (xc_X D cl tys F QX A) args s mc ms A) D cl A nL w pc lv [] :=
  fun H locs ls hP hD hS hl => W.widen h1 h2 (vx_ret (W.vret X.1.1 X.1.2.1 hr (fun t ht hW => ⟨⟨u, rfl, h, by rw [ht, ← hw]; exact hP, va_K.moved hW.alike X.2, by rw [← hw]; exact hD⟩, hS.F ht⟩) hS.2.2 d hlocks))
theorem sx_throw {Qc : Array Value → State → Outcome → State → Prop} {y : MethodName} {yr : Option FieldType} (X : sw_X p m c cc nL s args (Cond.code y cc nL yr :: wa_A) rn_S D cl tys) (hl : l.stackTraces = false) (hX : en_X A s s.heap) {cls text : String} {ik is ic : Nat} (ho : xo_K cls ik ic) (hs : (is, text) ∈ xs_A) (d0 : decode cc pc = .ok (.new ik, 3)) (d3 : decode cc (pc + 3) = .ok (.dup, 1)) (d4 : decode cc (pc + 4) = .ok (.ldc is, 2)) (d6 : decode cc (pc + 6) = .ok (.invokespecial ic, 3)) (d9 : decode cc (pc + 9) = .ok (.athrow, 1)) (hout : ∀ x ∈ c.exceptionTable.toList, False) (hR : 5 < R.frames ∧ (st.map fun v => v.category).sum + 82 ≤ R.locals ∧ cells + 1 ≤ R.cells ∧ slots + 6 ≤ R.slots) (hlocks : meth.locks = false) (h1 : cells + 1 ≤ mc) (h2 : slots + 6 ≤ ms) {u : S} (hw : w = F u) (h : QX cls u) : sw_J p l e R s m args below meth c cells slots (vx_MQ below Qc (xc_X D cl tys F QX A) args s mc ms A) D cl A nL w pc lv st := by
  intro H locs ls hP hD hS hlv
  obtain ⟨hU, hNn, hB, hSt⟩ := hX
  obtain ⟨sa, hstr⟩ := hSt _ hs
  obtain ⟨o1, o2, o3, o4, o5, o6⟩ := ho
  have hts := X.1.2.2.2.2
  refine vx_throwS (names := xn_C) (sa := sa) (text := text) X.1.1 X.1.2.1 hl X.1.2.2.2.1 o4 xn_fit (hts _ (List.mem_cons_of_mem _ o5)) (hts _ (List.mem_cons_of_mem _ o6)) hstr
    (vx_hat (fun z hz => hts _ (List.mem_cons_of_mem _ (o1 z hz))) o2 (fun z hz => va_Nw.use (xb_ok z hz).1 (hB z hz))) o3 hU hNn hS (hlv.1.trans X.1.2.2.1.symm) d0 d3 d4 d6 d9 (fun x hx => (hout x hx).elim) hR.1 hR.2.1 hR.2.2.1 hR.2.2.2 hlocks ?_ hS.2.2 h1 h2
  intro t hal hsz heq
  refine ⟨u, trivial, ⟨h, ?_, va_K.moved hal X.2, by rw [← hw]; exact hD⟩, Nat.le_trans hS.1 hsz, fun q h1 h2 => (heq q (Nat.lt_of_lt_of_le h1 hS.1)).trans (hS.2.1 q h1 h2)⟩
  rw [← hw]
  exact hP.kept (fun k q hk => heq q.1 (hP k q hk).lt)
-- a callee that may throw, in a method without handlers: what it throws goes on
theorem sx_cS_v {Qc : Array Value → State → Outcome → State → Prop} (X : sw_X p m c cc nL s args Ts own D cl tys) (hA : ∀ q, s.heap.size ≤ q → A q) (hN : nw_ok NW) (hNs : ∀ z ∈ NW, va_Nw z s) (hE : en_P A s s.heap) (hX : en_X A s s.heap) {post : S → Prop} {y : MethodName} {wsY ws' : List Cond} {rm : Room} {bytes : ByteArray} {maxL n index k1 k2 : Nat} {ret : Option FieldType} (As : List Value)
    (hM : ∀ sz, vx_Met l y wsY rm (va_Pc As (wx_S D cl tys NW w sz)) (va_Qv post (fun u t => wq_E D cl tys (va_A w sz) (F u) t) (va_A w sz)) (xc_X D cl tys F QX (va_A w sz)) k1 k2 (va_A w sz)) (hl0 : Cond.methodLink own index y ∈ Ts) (hst : Cond.static y ∈ Ts) (hw : wsY = Cond.code y bytes maxL ret :: ws') (hG : GoodIn Ts wsY) (hrc : rm.cells = k1) (hrs : rm.slots = k2) (hini : Cond.initialized y.cls ∈ Ts) (hd : y.cls ≠ "java/lang/invoke/MethodHandle" ∧ y.cls ≠ "java/lang/invoke/VarHandle" ∧ (parseMethodDescriptor y.desc).map (fun d => d.parameters.length) = some n) (hR : rm.frames + 1 ≤ R.frames ∧ 8 + (maxL + 11) + rm.locals ≤ R.locals) (hcap : cells + k1 ≤ R.cells ∧ slots + k2 ≤ R.slots) (hn : As.length = n) (hW : (st.map fun v => v.category).sum ≤ 8) (hlocks : meth.locks = false) (hout : ∀ x ∈ c.exceptionTable.toList, False) (h1 : cells + k1 ≤ mc) (h2 : slots + k2 ≤ ms) (d : decode cc pc = .ok (.invokestatic index, 3)) {st0 : List Value} (h0 : st0 = As.reverse ++ st)
    (k : ∀ (u : S), post u → sw_J p l e R s m args below meth c (cells + k1) (slots + k2) (vx_MQ below Qc (xc_X D cl tys F QX A) args s mc ms A) D cl A nL (F u) (pc + 3) lv st) : sw_J p l e R s m args below meth c cells slots (vx_MQ below Qc (xc_X D cl tys F QX A) args s mc ms A) D cl A nL w pc lv st0 :=
  fun H locs ls hP hD hS hl => vx_callv (vx_runS (As := As) (rest := st) X.1 (hM H.size) ⟨callB_of n X.1.2.2.2.2 hG hw hrc hrs (X.1.2.2.2.2 _ hini) (X.1.2.2.2.2 _ hl0) hd hR, X.1.2.2.2.2 _ hst⟩ ⟨wx_blind hN, fun U hU hW' => wx_at X.2 hA hN hNs hE hX hP hD hS U hU hW'⟩ rfl hn hl.1 h0 (lv_room hW) d hcap) hS (fun q _ h => wq_free hA hD hS q h) (wq_free hA hD hS) (fun q _ h => wq_free hA hD hS q h)
    (fun E ce q9 u t H1 locs1 ht hvm _ hB hz hk hS1 hce hcv hcl => vx_out (fun x hx => (hout x hx).elim) hlocks hce hcv hcl (fun t' ht' hal => ⟨u, trivial, ⟨hB.1, by rw [ht', ← ht]; exact hB.2.1, va_K.moved hal X.2, hB.2.2.2.weaken (fun _ q _ h => wq_free hA hD hS q.1 h)⟩, hS1.F ht'⟩) hS1.2.2 h1 h2)
    (fun u t H1 locs1 ht hvm hp hB hz hk hS1 => k u hp H1 locs1 ls (by rw [← ht]; exact hB.1) (hB.2.2.weaken (fun _ q _ h => wq_free hA hD hS q.1 h)) hS1 hl)
theorem sx_cV_v {Qc : Array Value → State → Outcome → State → Prop} (X : sw_X p m c cc nL s args Ts own D cl tys) (hA : ∀ q, s.heap.size ≤ q → A q) (hN : nw_ok NW) (hNs : ∀ z ∈ NW, va_Nw z s) (hE : en_P A s s.heap) (hX : en_X A s s.heap) {post : S → Prop} {y : MethodName} {wsY ws' : List Cond} {rm : Room} {bytes : ByteArray} {maxL n index k1 k2 : Nat} {ret : Option FieldType} (As : List Value) (q0 : Nat) {b ci : Nat} {fs : List Value} {qc : vw_C} (he : w[q0]? = some (b, .inr (ci, fs))) (hc : cl[ci]? = some qc) (hq : qc.1 = y.cls)
    (hM : ∀ sz, vx_Met l y wsY rm (va_Pc (.ref b :: As) (wx_S D cl tys NW w sz)) (va_Qv post (fun u t => wq_E D cl tys (va_A w sz) (F u) t) (va_A w sz)) (xc_X D cl tys F QX (va_A w sz)) k1 k2 (va_A w sz)) (hl0 : Cond.methodLink own index y ∈ Ts) (hin : Cond.instanceMethod y ∈ Ts) (hsel : Cond.selects y.cls y y ∈ Ts) (hw : wsY = Cond.code y bytes maxL ret :: ws') (hG : GoodIn Ts wsY) (hrc : rm.cells = k1) (hrs : rm.slots = k2) (hini : Cond.initialized y.cls ∈ Ts) (hd : y.cls ≠ "java/lang/invoke/MethodHandle" ∧ y.cls ≠ "java/lang/invoke/VarHandle" ∧ (parseMethodDescriptor y.desc).map (fun d => d.parameters.length) = some n) (hR : rm.frames + 1 ≤ R.frames ∧ 8 + (maxL + 11) + rm.locals ≤ R.locals) (hcap : cells + k1 ≤ R.cells ∧ slots + k2 ≤ R.slots) (hn : As.length = n) (hW : (st.map fun v => v.category).sum ≤ 8) (hlocks : meth.locks = false) (hout : ∀ x ∈ c.exceptionTable.toList, False) (h1 : cells + k1 ≤ mc) (h2 : slots + k2 ≤ ms) (d : decode cc pc = .ok (.invokevirtual index, 3)) {st0 : List Value} (h0 : st0 = As.reverse ++ .ref b :: st)
    (k : ∀ (u : S), post u → sw_J p l e R s m args below meth c (cells + k1) (slots + k2) (vx_MQ below Qc (xc_X D cl tys F QX A) args s mc ms A) D cl A nL (F u) (pc + 3) lv st) : sw_J p l e R s m args below meth c cells slots (vx_MQ below Qc (xc_X D cl tys F QX A) args s mc ms A) D cl A nL w pc lv st0 :=
  fun H locs ls hP hD hS hl => vx_callv (vx_runV (As := As) (rest := st) X.1 (hM H.size) ⟨callB_of n X.1.2.2.2.2 hG hw hrc hrs (X.1.2.2.2.2 _ hini) (X.1.2.2.2.2 _ hl0) hd hR, X.1.2.2.2.2 _ hin, X.1.2.2.2.2 _ hsel⟩ ⟨wx_blind hN, hq ▸ va_recv X.2 hP hc he, fun U hU hW' => wx_at X.2 hA hN hNs hE hX hP hD hS U hU hW'⟩ rfl hn hl.1 h0 (lv_room hW) d hcap) hS (fun q _ h => wq_free hA hD hS q h) (wq_free hA hD hS) (fun q _ h => wq_free hA hD hS q h)
    (fun E ce q9 u t H1 locs1 ht hvm _ hB hz hk hS1 hce hcv hcl => vx_out (fun x hx => (hout x hx).elim) hlocks hce hcv hcl (fun t' ht' hal => ⟨u, trivial, ⟨hB.1, by rw [ht', ← ht]; exact hB.2.1, va_K.moved hal X.2, hB.2.2.2.weaken (fun _ q _ h => wq_free hA hD hS q.1 h)⟩, hS1.F ht'⟩) hS1.2.2 h1 h2)
    (fun u t H1 locs1 ht hvm hp hB hz hk hS1 => k u hp H1 locs1 ls (by rw [← ht]; exact hB.1) (hB.2.2.weaken (fun _ q _ h => wq_free hA hD hS q.1 h)) hS1 hl)
end TT
theorem sx_met {l : Launch} {y : MethodName} {wsY ws' : List Cond} {rm : Room} {cc : ByteArray} {maxL mc ms : Nat} {ret : Option FieldType} {D : va_G} {cl : List vw_C} {tys : List (ClassId × FieldType)} {NW : List Cond} {w : va_W} {As : List Value} {Qc : (Nat → Prop) → Array Value → State → Outcome → State → Prop} {XC : (Nat → Prop) → String → State → State → Prop} {lv : List (Nat × Value)}
    (hy : plainName y.cls = true) (hw : wsY = Cond.code y cc maxL ret :: ws') (hle : (lg_sl As).length ≤ maxL) (hlv : lv_args 0 As = lv)
    (body : ∀ (p : Program) (e : Env) (s : State) (m : MethodId) (args : Array Value) (below : List Frame) (meth : Method) (c : Code) (A : Nat → Prop), sw_X p m c cc maxL s args wsY y.cls D cl tys → (∀ q, s.heap.size ≤ q → A q) → (∀ z ∈ NW, va_Nw z s) → en_P A s s.heap → en_X A s s.heap → (∀ x ∈ c.exceptionTable.toList, False) → meth.sig.returnType = ret → meth.locks = false → sw_J p l e rm s m args below meth c 0 0 (vx_MQ below (Qc A) (XC A) args s mc ms A) D cl A maxL w 0 lv []) :
    ∀ sz, vx_Met l y wsY rm (va_Pc As (wx_S D cl tys NW w sz)) (Qc (va_A w sz)) (XC (va_A w sz)) mc ms (va_A w sz) := by
  intro sz
  refine vx_ofW (cc := cc) (maxL := maxL) (ret := ret) hy hw ?_
  intro p e s m args below meth c s₁ B hml hout hv
  obtain ⟨hav, ⟨hsz, hP, hK, hD0, hNs, hE⟩, hX⟩ := hv
  subst hav
  have hts := atoms_spec (ws := wsY) B.pre
  have hown : s.vm.findClass y.cls = some m.cls := findClass_of_methodNamed B.named
  subst hsz
  have hD := hD0.self (sz := s.heap.size)
  have hA : ∀ q : Nat, s.heap.size ≤ q → va_A w s.heap.size q := fun q h => Or.inr h
  have hl := lv_entry As (n := maxL) hle
  rw [lg_entry_eq]
  rw [hlv] at hl
  exact body p e s m _ below meth c _ ⟨⟨B.exec, B.bytes, hml, hown, hts⟩, hK⟩ hA hNs hE hX hout B.returns B.notSynchronized s.heap [] _ hP hD va_S.rf hl
theorem wm_xi_A : Cond.initialized "java/lang/IllegalArgumentException" ∈ wa_A := wc_0 _ (List.mem_of_getElem? (i := 11) rfl)
theorem wm_xi_S : Cond.initialized "java/lang/IllegalStateException" ∈ wa_A := wc_0 _ (List.mem_of_getElem? (i := 12) rfl)
theorem wm_xi_U : Cond.initialized "java/lang/UnsupportedOperationException" ∈ wa_A := wc_0 _ (List.mem_of_getElem? (i := 13) rfl)
theorem wm_xi_B : Cond.initialized "java/lang/IndexOutOfBoundsException" ∈ wa_A := wc_0 _ (List.mem_of_getElem? (i := 14) rfl)
set_option maxRecDepth 100000 in
theorem xo_A : xo_K "java/lang/IllegalArgumentException" 36 40 := ⟨by decide +kernel, by decide +kernel, by decide +kernel, by decide +kernel, wm_cl_S_36, wm_xi_A⟩
set_option maxRecDepth 100000 in
theorem xo_S : xo_K "java/lang/IllegalStateException" 47 51 := ⟨by decide +kernel, by decide +kernel, by decide +kernel, by decide +kernel, wm_cl_S_47, wm_xi_S⟩
set_option maxRecDepth 100000 in
theorem xo_U : xo_K "java/lang/UnsupportedOperationException" 102 106 := ⟨by decide +kernel, by decide +kernel, by decide +kernel, by decide +kernel, wm_cl_S_102, wm_xi_U⟩
set_option maxRecDepth 100000 in
theorem xo_B : xo_K "java/lang/IndexOutOfBoundsException" 123 127 := ⟨by decide +kernel, by decide +kernel, by decide +kernel, by decide +kernel, wm_cl_S_123, wm_xi_B⟩
theorem xt_38 : (38, "no such expression can be made") ∈ xs_A := List.mem_of_getElem? (i := 0) rfl
theorem xt_49 : (49, "there are as many expressions as there may be") ∈ xs_A := List.mem_of_getElem? (i := 1) rfl
theorem xt_139 : (139, "no such function") ∈ xs_A := List.mem_of_getElem? (i := 2) rfl
theorem xt_144 : (144, "no such expression") ∈ xs_A := List.mem_of_getElem? (i := 3) rfl
theorem xt_77 : (77, "no such parameter") ∈ xs_A := List.mem_of_getElem? (i := 4) rfl
theorem xt_104 : (104, "the run failed") ∈ xs_A := List.mem_of_getElem? (i := 5) rfl
theorem xt_109 : (109, "the run was cut off") ∈ xs_A := List.mem_of_getElem? (i := 6) rfl
theorem xt_125 : (125, "no such part") ∈ xs_A := List.mem_of_getElem? (i := 7) rfl
