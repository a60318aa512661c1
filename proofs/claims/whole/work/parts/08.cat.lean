-- catching: what is thrown by a callee lies over the caller's frame; a handler takes it
def sx_J (p : Program) (l : Launch) (e : Env) (R : Room) (s : State) (m : MethodId) (args : Array Value) (below : List Frame) (meth : Method) (c : Code) (cells slots : Nat) (Q : State → Prop) (D : va_G) (cl : List vw_C) (A : Nat → Prop) (nL : Nat) (w : va_W) (pc : Nat) (lv : List (Nat × Value)) (E : String) : Prop :=
  ∀ (H : Heap) (locs : List Loc) (ls : Array Slot) (q : Addr) (ce : Cell) (rest : List Value), va_P D cl w H → va_D A w → va_S A s.heap H locs → lv_has ls nL lv → H[q]? = some ce → ce.vm = .none → s.vm.findClass E = some ce.cls → vx_W p l e R s m args below meth c H locs cells slots Q (F0 m pc ls rest) q
def xk_A : List (String × String) := [("java/lang/IllegalStateException", "java/lang/IllegalArgumentException"), ("java/lang/UnsupportedOperationException", "java/lang/IllegalArgumentException"), ("java/lang/IllegalStateException", "java/lang/UnsupportedOperationException")]
def en_C (U : State) : Prop := ∀ q ∈ xk_A, va_Nc q.1 q.2 U
theorem en_Cto {u U : State} (h : u.vm.Alike U.vm) (hC : en_C u) : en_C U := fun q hq => (hC q hq).moved h
def wy_S (D : va_G) (cl : List vw_C) (tys : List (ClassId × FieldType)) (NW : List Cond) (w : va_W) (sz : Nat) (U : State) : Prop := wx_S D cl tys NW w sz U ∧ en_C U
theorem wy_blind {D : va_G} {cl : List vw_C} {tys : List (ClassId × FieldType)} {NW : List Cond} (hN : nw_ok NW) {w : va_W} {sz : Nat} {As : List Value} : FrameBlind (va_Pc As (wy_S D cl tys NW w sz)) := by
  intro a U g mk q
  obtain ⟨q0, q1, q2⟩ := q
  exact ⟨q0, (wx_blind hN a U g mk ⟨q0, q1⟩).2, en_Cto (u := U) (U := U.calling g mk a) (Vm.Alike.refl U.vm) q2⟩
section CA
variable {p : Program} {l : Launch} {e : Env} {R : Room} {s : State} {m : MethodId} {args : Array Value} {below : List Frame} {meth : Method} {c : Code} {cells slots mc ms : Nat} {Q : State → Prop} {D : va_G} {cl : List vw_C} {A : Nat → Prop} {nL : Nat} {w : va_W} {cc : ByteArray} {pc : Nat} {lv : List (Nat × Value)} {st : List Value} {Ts : List Cond} {own : String} {tys : List (ClassId × FieldType)} {NW : List Cond} {S : Type} {F : S → va_W} {QX : String → S → Prop}
theorem wy_at (hK : va_K D cl tys s) (hA : ∀ q, s.heap.size ≤ q → A q) (hN : nw_ok NW) (hNs : ∀ z ∈ NW, va_Nw z s) (hE : en_P A s s.heap) (hX : en_X A s s.heap) (hC : en_C s) {H : Heap} {locs : List Loc} (hP : va_P D cl w H) (hD : va_D A w) (hS : va_S A s.heap H locs) {As : List Value} (U : State) (hU : U.heap = H) (hW : s.WarmedH U.vm) : va_Pc As (wy_S D cl tys NW w H.size) As.toArray U :=
  ⟨rfl, (wx_at hK hA hN hNs hE hX hP hD hS (As := As) U hU hW).2, en_Cto hW.alike hC⟩
theorem sx_catch (X : sw_X p m c cc nL s args Ts own D cl tys) {E name : String} (pre : List ExceptionTableEntry) (x : ExceptionTableEntry) (suf : List ExceptionTableEntry) (hsplit : c.exceptionTable.toList = pre ++ x :: suf) (hpass : ∀ z ∈ pre, z.catchType ≠ 0 ∧ ∃ nm : String, Cond.classLink own z.catchType nm ∈ Ts ∧ va_Nc E nm s) (hx : covers x pc = true) (h0 : x.catchType ≠ 0) (hlink : Cond.classLink own x.catchType name ∈ Ts) (hcast : va_Nw (Cond.castable E name) s)
    (k : ∀ q : Nat, sw_J p l e R s m args below meth c cells slots Q D cl A nL w x.handlerPc lv [.ref q]) : sx_J p l e R s m args below meth c cells slots Q D cl A nL w pc lv E :=
  fun H locs ls q ce rest hP hD hS hl hce hcv hcl => vx_catch X.1.2.2.2.1 pre x suf hsplit (fun z hz => Or.inr ⟨(hpass z hz).1, by
    obtain ⟨nm, h1, h2⟩ := (hpass z hz).2
    exact ⟨nm, X.1.2.2.2.2 _ h1, h2⟩⟩) hx h0 (X.1.2.2.2.2 _ hlink) (va_Nw.use rfl hcast) hce hcv hcl (k q H locs ls hP hD hS hl)
theorem sx_cV_iX (X : sw_X p m c cc nL s args Ts own D cl tys) (hA : ∀ q, s.heap.size ≤ q → A q) (hN : nw_ok NW) (hNs : ∀ z ∈ NW, va_Nw z s) (hE : en_P A s s.heap) (hX : en_X A s s.heap) {post : Int32 → S → Prop} {y : MethodName} {wsY ws' : List Cond} {rm : Room} {bytes : ByteArray} {maxL n index k1 k2 : Nat} {ret : Option FieldType} (As : List Value) (q0 : Nat) {b ci : Nat} {fs : List Value} {qc : vw_C} (he : w[q0]? = some (b, .inr (ci, fs))) (hc : cl[ci]? = some qc) (hq : qc.1 = y.cls)
    (hM : ∀ sz, vx_Met l y wsY rm (va_Pc (.ref b :: As) (wx_S D cl tys NW w sz)) (va_Qi post (fun u t => wq_E D cl tys (va_A w sz) (F u) t) (va_A w sz)) (xc_X D cl tys F QX (va_A w sz)) k1 k2 (va_A w sz)) (hl0 : Cond.methodLink own index y ∈ Ts) (hin : Cond.instanceMethod y ∈ Ts) (hsel : Cond.selects y.cls y y ∈ Ts) (hw : wsY = Cond.code y bytes maxL ret :: ws') (hG : GoodIn Ts wsY) (hrc : rm.cells = k1) (hrs : rm.slots = k2) (hini : Cond.initialized y.cls ∈ Ts) (hd : y.cls ≠ "java/lang/invoke/MethodHandle" ∧ y.cls ≠ "java/lang/invoke/VarHandle" ∧ (parseMethodDescriptor y.desc).map (fun d => d.parameters.length) = some n) (hR : rm.frames + 1 ≤ R.frames ∧ 8 + (maxL + 11) + rm.locals ≤ R.locals) (hcap : cells + k1 ≤ R.cells ∧ slots + k2 ≤ R.slots) (hn : As.length = n) (hW : (st.map fun v => v.category).sum ≤ 8) (d : decode cc pc = .ok (.invokevirtual index, 3)) {st0 : List Value} (h0 : st0 = As.reverse ++ .ref b :: st)
    (k : ∀ (r : Int32) (u : S), post r u → sw_J p l e R s m args below meth c (cells + k1) (slots + k2) Q D cl A nL (F u) (pc + 3) lv (.int r :: st))
    (kx : ∀ (E : String) (u : S), QX E u → sx_J p l e R s m args below meth c (cells + k1) (slots + k2) Q D cl A nL (F u) pc lv E) : sw_J p l e R s m args below meth c cells slots Q D cl A nL w pc lv st0 :=
  fun H locs ls hP hD hS hl => vx_calli (vx_runV (As := As) (rest := st) X.1 (hM H.size) ⟨callB_of n X.1.2.2.2.2 hG hw hrc hrs (X.1.2.2.2.2 _ hini) (X.1.2.2.2.2 _ hl0) hd hR, X.1.2.2.2.2 _ hin, X.1.2.2.2.2 _ hsel⟩ ⟨wx_blind hN, hq ▸ va_recv X.2 hP hc he, fun U hU hW' => wx_at X.2 hA hN hNs hE hX hP hD hS U hU hW'⟩ rfl hn hl.1 h0 (lv_room hW) d hcap) hS (fun q _ h => wq_free hA hD hS q h) (wq_free hA hD hS) (fun q _ h => wq_free hA hD hS q h)
    (fun E ce q9 u t H1 locs1 ht hvm _ hB hz hk hS1 hce hcv hcl => kx E u hB.1 H1 locs1 ls q9 ce st (by rw [← ht]; exact hB.2.1) (hB.2.2.2.weaken (fun _ q _ h => wq_free hA hD hS q.1 h)) hS1 hl hce hcv hcl)
    (fun r u t H1 locs1 ht hvm hp hB hz hk hS1 => k r u hp H1 locs1 ls (by rw [← ht]; exact hB.1) (hB.2.2.weaken (fun _ q _ h => wq_free hA hD hS q.1 h)) hS1 hl)
end CA
theorem sy_met {l : Launch} {y : MethodName} {wsY ws' : List Cond} {rm : Room} {cc : ByteArray} {maxL mc ms : Nat} {ret : Option FieldType} {hh : List (Nat × Nat × Nat × Nat)} {D : va_G} {cl : List vw_C} {tys : List (ClassId × FieldType)} {NW : List Cond} {w : va_W} {As : List Value} {Qc : (Nat → Prop) → Array Value → State → Outcome → State → Prop} {lv : List (Nat × Value)}
    (hy : plainName y.cls = true) (hw : wsY = Cond.codeWith y cc maxL ret hh :: ws') (hle : (lg_sl As).length ≤ maxL) (hlv : lv_args 0 As = lv)
    (body : ∀ (p : Program) (e : Env) (s : State) (m : MethodId) (args : Array Value) (below : List Frame) (meth : Method) (c : Code) (A : Nat → Prop), sw_X p m c cc maxL s args wsY y.cls D cl tys → (∀ q, s.heap.size ≤ q → A q) → (∀ z ∈ NW, va_Nw z s) → en_P A s s.heap → en_X A s s.heap → en_C s → c.exceptionTable.toList = tableOf hh → meth.sig.returnType = ret → meth.locks = false → sw_J p l e rm s m args below meth c 0 0 (MQ below (Qc A) args s mc ms A) D cl A maxL w 0 lv []) :
    ∀ sz, Met l y wsY rm (va_Pc As (wy_S D cl tys NW w sz)) (Qc (va_A w sz)) mc ms (va_A w sz) := by
  intro sz
  refine va_MetW (cc := cc) (maxL := maxL) (ret := ret) (hh := hh) hy hw ?_
  intro p e s m args below meth c s₁ B hml hv
  obtain ⟨hav, ⟨⟨hsz, hP, hK, hD0, hNs, hE⟩, hX⟩, hC⟩ := hv
  subst hav
  have hts := atoms_spec (ws := wsY) B.pre
  have hown : s.vm.findClass y.cls = some m.cls := findClass_of_methodNamed B.named
  have htb : c.exceptionTable.toList = tableOf hh := vx_table (x := y) B (hts (Cond.codeWith y cc maxL ret hh) (by rw [hw]; exact List.mem_cons_self))
  subst hsz
  have hD := hD0.self (sz := s.heap.size)
  have hA : ∀ q : Nat, s.heap.size ≤ q → va_A w s.heap.size q := fun q h => Or.inr h
  have hl := lv_entry As (n := maxL) hle
  rw [lg_entry_eq]
  rw [hlv] at hl
  exact body p e s m _ below meth c _ ⟨⟨B.exec, B.bytes, hml, hown, hts⟩, hK⟩ hA hNs hE hX hC htb B.returns B.notSynchronized s.heap [] _ hP hD va_S.rf hl
theorem wg_inW {y' : MethodName} {c' : ByteArray} {n' : Nat} {r' : Option FieldType} {z : Cond} (h : Cond.code y' c' n' r' ∈ wa_A) : GoodIn (z :: wa_A) (Cond.code y' c' n' r' :: wa_A) := fun w hw => (List.mem_cons.mp hw).elim (fun e => ⟨by rw [e]; exact List.mem_cons_of_mem _ h, by rw [e]; exact Or.inl rfl⟩) (fun hw => ⟨List.mem_cons_of_mem _ hw, good_of_word (List.all_eq_true.mp wg_A w hw)⟩)
