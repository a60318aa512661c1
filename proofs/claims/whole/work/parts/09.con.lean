-- making: objects, arrays, constructors
def wk_S (D : va_G) (cl : List vw_C) (tys : List (ClassId × FieldType)) (w : va_W) (sz : Nat) (U : State) : Prop := U.heap.size = sz ∧ va_P D cl w U.heap ∧ va_K D cl tys U ∧ va_D (fun _ => True) w
theorem wk_blind {D : va_G} {cl : List vw_C} {tys : List (ClassId × FieldType)} {w : va_W} {sz : Nat} {As : List Value} : FrameBlind (va_Pc As (wk_S D cl tys w sz)) := by
  intro a U g mk q
  obtain ⟨q0, q1, qP, qK, qD⟩ := q
  exact ⟨q0, q1, qP, va_K.moved (u := U) (U := U.calling g mk a) (Vm.Alike.refl U.vm) qK, qD⟩
section CO
variable {p : Program} {l : Launch} {e : Env} {R : Room} {s : State} {m : MethodId} {args : Array Value} {below : List Frame} {meth : Method} {c : Code} {cells slots mc ms : Nat} {Q : State → Prop} {D : va_G} {cl : List vw_C} {A : Nat → Prop} {nL : Nat} {w : va_W} {cc : ByteArray} {pc : Nat} {lv : List (Nat × Value)} {st : List Value} {Ts : List Cond} {own : String} {tys : List (ClassId × FieldType)}
theorem wk_at (hK : va_K D cl tys s) {H : Heap} (hP : va_P D cl w H) (hD : va_D A w) {As : List Value} (U : State) (hU : U.heap = H) (hW : s.WarmedH U.vm) : va_Pc As (wk_S D cl tys w H.size) As.toArray U :=
  ⟨rfl, by rw [hU], by rw [hU]; exact hP, va_K.moved hW.alike hK, hD.weaken (fun _ _ _ _ => trivial)⟩
theorem sw_new (X : sw_X p m c cc nL s args Ts own D cl tys) (hA : ∀ q, s.heap.size ≤ q → A q) {C : String} {T : u_T} {N ci index : Nat} (hin : ∀ z ∈ u_ws C T N, z ∈ Ts) (ty : Nat → FieldType) (hty : ∀ k, k < N → parseFieldDescriptor (T k).2.2.1 = some (ty k)) (hcl : Cond.classLink own index C ∈ Ts) (hinst : Cond.instantiable C N ∈ Ts) (hini : Cond.initialized C ∈ Ts) (hc : cl[ci]? = some (C, T, N)) (fs : List Value) (hfs : ∀ j, j < N → defaultValue (ty j) = vp_V fs j) (hcells : cells + 1 ≤ R.cells) (hslots : slots + N ≤ R.slots) (w' : Nat → va_W) (hw : ∀ q, w ++ [(q, .inr (ci, fs))] = w' q) (d : decode cc pc = .ok (.new index, 3)) (k : ∀ q : Nat, sw_J p l e R s m args below meth c (cells + 1) (slots + N) Q D cl A nL (w' q) (pc + 3) lv (.ref q :: st)) : sw_J p l e R s m args below meth c cells slots Q D cl A nL w pc lv st :=
  fun H locs ls hP hD hS hl => va_new X.1.1 X.1.2.1 X.1.2.2.2.2 hin ty hty X.1.2.2.2.1 (X.1.2.2.2.2 _ hcl) (X.1.2.2.2.2 _ hinst) (X.1.2.2.2.2 _ hini) X.2 hP hD hS hA hc hfs hcells hslots d (fun q H1 hP1 hD1 hS1 => k q H1 locs ls (hw q ▸ hP1) (hw q ▸ hD1) hS1 hl)
theorem sw_newa (X : sw_X p m c cc nL s args Ts own D cl tys) (hA : ∀ q, s.heap.size ≤ q → A q) {atype : ArrayType} {ty : FieldType} (harr : Cond.arrayClass ty ∈ Ts) (hty : newarray.typeOf atype = ty) (t0 : Nat) {cT : ClassId} (ht : tys[t0]? = some (cT, ty)) (hob : ∀ (U : State) (z : ClassId), va_RA U z ty → U.vm.findClass ("[" ++ ty.toString) = some z) {n : Int32} {N' : Nat} (a0 : vp_A) (ha : ∀ cA : ClassId, vp_cell cA a0 = arrV cA N' (fun _ => defaultValue ty)) (hn : ¬ n < 0) (hN : n.toNatClampNeg = N') (hbytes : N' * componentBytes ty ≤ 536870912) (hcells : cells + 1 ≤ R.cells) (hslots : slots + N' ≤ R.slots) (w' : Nat → va_W) (hw : ∀ q, w ++ [(q, .inl (cT, a0))] = w' q) (d : decode cc pc = .ok (.newarray atype, 2)) (k : ∀ q : Nat, sw_J p l e R s m args below meth c (cells + 1) (slots + N') Q D cl A nL (w' q) (pc + 2) lv (.ref q :: st)) : sw_J p l e R s m args below meth c cells slots Q D cl A nL w pc lv (.int n :: st) :=
  fun H locs ls hP hD hS hl => va_newa X.1.1 X.1.2.1 (hty ▸ X.1.2.2.2.2 _ harr) hty X.2 hP hD hS hA ha hn hN hbytes hcells hslots d (fun q cA H1 hK1 hP1 hD1 hS1 => by
    have h1 := hob s cA (hK1.2 tys.length (cA, ty) (by simp)).2
    have h2 := hob s cT (X.2.2 t0 _ ht).2
    have h3 : cA = cT := Option.some.inj (h1.symm.trans h2)
    subst h3
    exact k q H1 locs ls (hw q ▸ hP1) (hw q ▸ hD1) hS1 hl)
theorem sw_putF (X : sw_X p m c cc nL s args Ts own D cl tys) {C : String} {T : u_T} {N ci index a : Nat} (hin : ∀ z ∈ u_ws C T N, z ∈ Ts) (ty0 : Nat → FieldType) (hty : ∀ k, k < N → parseFieldDescriptor (T k).2.2.1 = some (ty0 k)) (hnm : ∀ a, a < N → ∀ b, b < N → a ≠ b → (T a).2.1 ≠ (T b).2.1) (q0 : Nat) {fs : List Value} (he : w[q0]? = some (a, .inr (ci, fs))) (hc : cl[ci]? = some (C, T, N)) (k0 : Nat) (hk : k0 < N) (hlink : Cond.fieldLink own index (T k0).1 (T k0).2.1 (T k0).2.2.1 ∈ Ts) (hfin : (T k0).2.2.2 = true) (hin2 : meth.name = "<init>") (hdecl : (T k0).1 = own) {ty : FieldType} {v : Value} (hd : parseFieldDescriptor (T k0).2.2.1 = some ty) (hn : narrow ty v = v) (hfit : fits ty v = true) (hl0 : k0 < fs.length) (w' : va_W) (hw : w.set q0 (a, .inr (ci, fs.set k0 v)) = w') (d : decode cc pc = .ok (.putfield index, 3)) (k : sw_J p l e R s m args below meth c cells slots Q D cl A nL w' (pc + 3) lv st) : sw_J p l e R s m args below meth c cells slots Q D cl A nL w pc lv (v :: .ref a :: st) :=
  fun H locs ls hP hD hS hl => va_putF X.1.1 X.1.2.1 X.1.2.2.2.2 hin ty0 hty hnm X.1.2.2.2.1 X.2 hP hD hS q0 he hc k0 hk (X.1.2.2.2.2 _ hlink) (fun _ h => h) hfin hin2 hdecl hd hn hfit hl0 d (fun H1 locs1 hP1 hD1 hS1 => k H1 locs1 ls (hw ▸ hP1) (hw ▸ hD1) hS1 hl)
theorem sw_oi (X : sw_X p m c cc nL s args Ts own D cl tys) {idx a : Nat} (hl0 : Cond.methodLink own idx Lib.objectInit ∈ Ts) (hin : Cond.instanceMethod Lib.objectInit ∈ Ts) (hco : Cond.code Lib.objectInit ⟨#[0xb1]⟩ 1 none ∈ Ts) (hf : 1 ≤ R.frames) (hlo : 2 * 0 + (st.map fun v => v.category).sum + 12 ≤ R.locals) (d : decode cc pc = .ok (.invokespecial idx, 3)) (k : sw_J p l e R s m args below meth c cells slots Q D cl A nL w (pc + 3) lv st) : sw_J p l e R s m args below meth c cells slots Q D cl A nL w pc lv (.ref a :: st) :=
  fun H locs ls hP hD hS hl => W.objInit X.1.1 X.1.2.1 X.1.2.2.2.1 (X.1.2.2.2.2 _ hl0) (X.1.2.2.2.2 _ hin) (X.1.2.2.2.2 _ hco) rfl (hl.1.trans X.1.2.2.1.symm) rfl d hf hlo (W.eq (g2 := F0 m (pc + 3) ls st) rfl (k H locs ls hP hD hS hl))
theorem sw_cI (X : sw_X p m c cc nL s args Ts own D cl tys) (hA : ∀ q, s.heap.size ≤ q → A q) {S : Type} (F : S → va_W) {post : S → Prop} {y : MethodName} {wsY ws' : List Cond} {rm : Room} {bytes : ByteArray} {maxL n index k1 k2 b : Nat} (As : List Value) (hM : ∀ sz, Met l y wsY rm (va_Pc (.ref b :: As) (wk_S D cl tys w sz)) (va_Qv post (fun u t => wq_E D cl tys (va_A w sz) (F u) t) (va_A w sz)) k1 k2 (va_A w sz)) (hl0 : Cond.methodLink own index y ∈ Ts) (hin : Cond.instanceMethod y ∈ Ts) (hw : wsY = Cond.code y bytes maxL none :: ws') (hG : GoodIn Ts wsY) (hrc : rm.cells = k1) (hrs : rm.slots = k2) (hini : Cond.initialized y.cls ∈ Ts) (hy : y.name = "<init>") (hd : y.cls ≠ "java/lang/invoke/MethodHandle" ∧ y.cls ≠ "java/lang/invoke/VarHandle" ∧ (parseMethodDescriptor y.desc).map (fun d => d.parameters.length) = some n) (hR : rm.frames + 1 ≤ R.frames ∧ 8 + (maxL + 11) + rm.locals ≤ R.locals) (hcap : cells + k1 ≤ R.cells ∧ slots + k2 ≤ R.slots) (hn : As.length = n) (hW : (st.map fun v => v.category).sum ≤ 8) (d : decode cc pc = .ok (.invokespecial index, 3)) {st0 : List Value} (h0 : st0 = As.reverse ++ .ref b :: st) (k : ∀ (u : S), post u → sw_J p l e R s m args below meth c (cells + k1) (slots + k2) Q D cl A nL (F u) (pc + 3) lv st) : sw_J p l e R s m args below meth c cells slots Q D cl A nL w pc lv st0 :=
  fun H locs ls hP hD hS hl => va_callv (va_runI (As := As) (rest := st) X.1 (hM H.size) (cwI n X.1.2.2.2.2 hG hw hrc hrs (X.1.2.2.2.2 _ hini) (X.1.2.2.2.2 _ hl0) (X.1.2.2.2.2 _ hin) hy hd hR) ⟨wk_blind, fun U hU hW' => wk_at X.2 hP hD U hU hW'⟩ rfl hn hl.1 h0 (lv_room hW) d hcap) hS (fun q _ h => wq_free hA hD hS q h) (wq_free hA hD hS) (fun u t H1 locs1 ht hvm hp hB hz hk hS1 => k u hp H1 locs1 ls (by rw [← ht]; exact hB.1) (hB.2.2.weaken (fun _ q _ h => wq_free hA hD hS q.1 h)) hS1 hl)
theorem sw_cSk (X : sw_X p m c cc nL s args Ts own D cl tys) (hA : ∀ q, s.heap.size ≤ q → A q) {S : Type} (F : S → va_W) {post : S → Prop} {y : MethodName} {wsY ws' : List Cond} {rm : Room} {bytes : ByteArray} {maxL n index : Nat} {ret : Option FieldType} (As : List Value) (hM : ∀ sz, Met l y wsY rm (va_Pc As (wk_S D cl tys w sz)) (va_Qv post (fun u t => wq_E D cl tys (va_A w sz) (F u) t) (va_A w sz)) 0 0 (va_A w sz)) (hl0 : Cond.methodLink own index y ∈ Ts) (hst : Cond.static y ∈ Ts) (hw : wsY = Cond.code y bytes maxL ret :: ws') (hG : GoodIn Ts wsY) (hrc : rm.cells = 0) (hrs : rm.slots = 0) (hini : Cond.initialized y.cls ∈ Ts) (hd : y.cls ≠ "java/lang/invoke/MethodHandle" ∧ y.cls ≠ "java/lang/invoke/VarHandle" ∧ (parseMethodDescriptor y.desc).map (fun d => d.parameters.length) = some n) (hR : rm.frames + 1 ≤ R.frames ∧ 8 + (maxL + 11) + rm.locals ≤ R.locals) (hcap : cells + 0 ≤ R.cells ∧ slots + 0 ≤ R.slots) (hn : As.length = n) (hW : (st.map fun v => v.category).sum ≤ 8) (d : decode cc pc = .ok (.invokestatic index, 3)) {st0 : List Value} (h0 : st0 = As.reverse ++ st) (k : ∀ (u : S), post u → sw_J p l e R s m args below meth c cells slots Q D cl A nL (F u) (pc + 3) lv st) : sw_J p l e R s m args below meth c cells slots Q D cl A nL w pc lv st0 :=
  fun H locs ls hP hD hS hl => va_callv (va_runS (As := As) (rest := st) X.1 (hM H.size) ⟨callB_of n X.1.2.2.2.2 hG hw hrc hrs (X.1.2.2.2.2 _ hini) (X.1.2.2.2.2 _ hl0) hd hR, X.1.2.2.2.2 _ hst⟩ ⟨wk_blind, fun U hU hW' => wk_at X.2 hP hD U hU hW'⟩ rfl hn hl.1 h0 (lv_room hW) d hcap) hS (fun q _ h => wq_free hA hD hS q h) (wq_free hA hD hS) (fun u t H1 locs1 ht hvm hp hB hz hk hS1 => k u hp H1 locs1 ls (by rw [← ht]; exact hB.1) (hB.2.2.weaken (fun _ q _ h => wq_free hA hD hS q.1 h)) hS1 hl)
theorem sk_vret {S : Type} {F : S → va_W} {post : S → Prop} (X : sw_X p m c cc nL s args Ts own D cl tys) (hr : meth.sig.returnType = none) (hlocks : meth.locks = false) (h1 : cells ≤ mc) (h2 : slots ≤ ms) (u : S) (hw : w = F u) (h : post u) (d : decode cc pc = .ok (.return_, 1)) : sw_J p l e R s m args below meth c cells slots (MQ below (va_Qv post (fun u t => wq_E D cl tys A (F u) t) A) args s mc ms A) D cl A nL w pc lv [] :=
  fun H locs ls hP hD hS hl => W.widen h1 h2 (W.vret X.1.1 X.1.2.1 hr (fun t ht hW => ⟨⟨u, rfl, h, by rw [ht, ← hw]; exact hP, va_K.moved hW.alike X.2, by rw [← hw]; exact hD⟩, hS.F ht⟩) hS.2.2 d hlocks)
end CO
theorem wk_met {l : Launch} {y : MethodName} {wsY ws' : List Cond} {rm : Room} {cc : ByteArray} {maxL mc ms : Nat} {ret : Option FieldType} {D : va_G} {cl : List vw_C} {tys : List (ClassId × FieldType)} {w : va_W} {As : List Value} {Qc : (Nat → Prop) → Array Value → State → Outcome → State → Prop} {lv : List (Nat × Value)}
    (hy : plainName y.cls = true) (hw : wsY = Cond.code y cc maxL ret :: ws') (hle : (lg_sl As).length ≤ maxL) (hlv : lv_args 0 As = lv)
    (body : ∀ (p : Program) (e : Env) (s : State) (m : MethodId) (args : Array Value) (below : List Frame) (meth : Method) (c : Code) (A : Nat → Prop), sw_X p m c cc maxL s args wsY y.cls D cl tys → (∀ q, s.heap.size ≤ q → A q) → meth.sig.returnType = ret → meth.locks = false → meth.name = y.name → sw_J p l e rm s m args below meth c 0 0 (MQ below (Qc A) args s mc ms A) D cl A maxL w 0 lv []) :
    ∀ sz, Met l y wsY rm (va_Pc As (wk_S D cl tys w sz)) (Qc (va_A w sz)) mc ms (va_A w sz) := by
  intro sz
  refine Met.ofW (cc := cc) (maxL := maxL) (ret := ret) hy hw ?_
  intro p e s m args below meth c s₁ B hml hv
  obtain ⟨hav, hsz, hP, hK, hD0⟩ := hv
  subst hav
  have hts := atoms_spec (ws := wsY) B.pre
  have hown : s.vm.findClass y.cls = some m.cls := findClass_of_methodNamed B.named
  subst hsz
  have hD := hD0.self (sz := s.heap.size)
  have hA : ∀ q : Nat, s.heap.size ≤ q → va_A w s.heap.size q := fun q h => Or.inr h
  have hl := lv_entry As (n := maxL) hle
  rw [lg_entry_eq]
  rw [hlv] at hl
  exact body p e s m _ below meth c _ ⟨⟨B.exec, B.bytes, hml, hown, hts⟩, hK⟩ hA B.returns B.notSynchronized (name_of_methodNamed B.named B.method).1 s.heap [] _ hP hD va_S.rf hl
-- Arrays.fill over any world: the array lies at the place k0
def fl_I (f : Nat → Int32) (i : Nat) (v : Int32) : Nat → Int32 := fun j => if j < i then v else f j
theorem fl_0 (f : Nat → Int32) (v : Int32) : fl_I f 0 v = f := by funext j; simp [fl_I]
theorem fl_s (f : Nat → Int32) (i : Nat) (v : Int32) : upd (fl_I f i v) i v = fl_I f (i + 1) v := by
  funext j
  by_cases h : j = i
  · subst h; simp [upd, fl_I]
  · by_cases h2 : j < i
    · have h3 : j < i + 1 := by omega
      simp [upd, fl_I, h, h2, h3]
    · have h3 : ¬ j < i + 1 := by omega
      simp [upd, fl_I, h, h2, h3]
set_option maxHeartbeats 4000000 in
theorem ct_fillG (l : Launch) (D : va_G) (cI cL cZ : ClassId) (w : va_W) (k0 b n : Nat) (f : Nat → Int32) (v : Int32) (hn : n < 2 ^ 31) (he : w[k0]? = some (b, .inl (cI, n, .inl f))) : ∀ sz, Met l yn_J_fill (Cond.code yn_J_fill cd_J_fill 4 none :: wa_A) { frames := 0, cells := 0, slots := 0, locals := 0 } (va_Pc [.ref b, .int v] (wk_S D cl_A (wd_T cI cL cZ) w sz)) (va_Qv (fun _ : Unit => True) (fun _ t => wq_E D cl_A (wd_T cI cL cZ) (va_A w sz) (w.set k0 (b, .inl (cI, n, .inl (fl_I f n v)))) t) (va_A w sz)) 0 0 (va_A w sz) := by
  have hlt : k0 < w.length := (List.getElem?_eq_some_iff.mp he).1
  refine wk_met (Qc := fun A => va_Qv (fun _ : Unit => True) (fun _ t => wq_E D cl_A (wd_T cI cL cZ) A (w.set k0 (b, .inl (cI, n, .inl (fl_I f n v)))) t) A) (by decide) rfl (Nat.le_of_ble_eq_true rfl) rfl ?_
  intro p e s m args below meth c A X hA hr hlk hnm
  have hat : ∀ i, (w.set k0 (b, .inl (cI, n, .inl (fl_I f i v))))[k0]? = some (b, .inl (cI, n, .inl (fl_I f i v))) := fun i => List.getElem?_set_self hlt
  have loop : ∀ (k i : Nat), i + k = n → sw_J p l e { frames := 0, cells := 0, slots := 0, locals := 0 } s m args below meth c 0 0 (MQ below (va_Qv (fun _ : Unit => True) (fun _ t => wq_E D cl_A (wd_T cI cL cZ) A (w.set k0 (b, .inl (cI, n, .inl (fl_I f n v)))) t) A) args s 0 0 A) D cl_A A 4 (w.set k0 (b, .inl (cI, n, .inl (fl_I f i v)))) 5 [(2, .int (nI i)), (3, .int (nI n)), (0, .ref b), (1, .int v)] [] := by
    intro k
    induction k with
    | zero =>
      intro i hi
      have hi : i = n := by omega
      subst hi
      refine sw_iload_n X 0 rfl rfl dc_J_fill_5 ?_
      refine sw_iload_n X 1 rfl rfl dc_J_fill_6 ?_
      refine sw_icmp_ge (tgt := 20) X dc_J_fill_7 (by decide) (fun z => ?_) (fun z => absurd (nI_le (Nat.le_refl _) hn) z)
      exact sk_vret X hr hlk (Nat.le_refl _) (Nat.le_refl _) () rfl trivial dc_J_fill_20
    | succ k ih =>
      intro i hi
      have hin : i < n := by omega
      refine sw_iload_n X 0 rfl rfl dc_J_fill_5 ?_
      refine sw_iload_n X 1 rfl rfl dc_J_fill_6 ?_
      refine sw_icmp_ge (tgt := 20) X dc_J_fill_7 (by decide) (fun z => absurd z (nI_ge hin hn)) (fun z => ?_)
      refine sw_aload_n X 2 rfl rfl dc_J_fill_10 ?_
      refine sw_iload_n X 0 rfl rfl dc_J_fill_11 ?_
      refine sw_iload_n X 3 rfl rfl dc_J_fill_12 ?_
      refine sw_iast X k0 0 (hat i) rfl (vp_in_nI hin hn) (w.set k0 (b, .inl (cI, n, .inl (fl_I f (i + 1) v)))) (by rw [nI_clamp (by omega), fl_s, List.set_set]) dc_J_fill_13 ?_
      refine sw_iinc (n := 1) (v := nI i + 1) X 0 rfl rfl [(2, .int (nI i + 1)), (3, .int (nI n)), (0, .ref b), (1, .int v)] rfl (by decide) dc_J_fill_14 ?_
      refine sw_goto (tgt := 5) X dc_J_fill_17 (by decide) ?_
      rw [nI_1]
      exact ih (i + 1) (by omega)
  have hw0 : w = w.set k0 (b, .inl (cI, n, .inl (fl_I f 0 v))) := by
    rw [fl_0]
    apply List.ext_getElem?
    intro i
    by_cases h : i = k0
    · subst h; rw [List.getElem?_set_self hlt]; exact he
    · rw [List.getElem?_set_ne (Ne.symm h)]
  refine sw_iconst (v := 0) X dc_J_fill_0 (by decide) ?_
  refine sw_istore_n X [(2, .int 0), (0, .ref b), (1, .int v)] rfl (by decide) rfl dc_J_fill_1 ?_
  refine sw_aload_n X 1 rfl rfl dc_J_fill_2 ?_
  refine sw_alen (v := nI n) X k0 0 he rfl rfl dc_J_fill_3 ?_
  refine sw_istore_n X [(3, .int (nI n)), (2, .int 0), (0, .ref b), (1, .int v)] rfl (by decide) rfl dc_J_fill_4 ?_
  refine sw_sub [1, 0, 2, 3] rfl ?_
  exact sw_eq hw0 rfl rfl (loop n 0 (by omega))
-- a constructor of the world's last cell, the rest framed
theorem sw_cIj {p : Program} {l : Launch} {e : Env} {R : Room} {s : State} {m : MethodId} {args : Array Value} {below : List Frame} {meth : Method} {c : Code} {cells slots : Nat} {Q : State → Prop} {D : va_G} {cl : List vw_C} {A : Nat → Prop} {nL : Nat} {cc : ByteArray} {pc : Nat} {lv : List (Nat × Value)} {st : List Value} {Ts : List Cond} {own : String} {tys : List (ClassId × FieldType)} (X : sw_X p m c cc nL s args Ts own D cl tys) (hA : ∀ q, s.heap.size ≤ q → A q) {S : Type} (F : S → va_W) {post : S → Prop} {y : MethodName} {wsY ws' : List Cond} {rm : Room} {bytes : ByteArray} {maxL n index k1 k2 b : Nat} (w0 : va_W) {ee : va_E} (As : List Value) (hM : ∀ sz, Met l y wsY rm (va_Pc (.ref b :: As) (wk_S D cl tys [(b, ee)] sz)) (va_Qv post (fun u t => wq_E D cl tys (va_A [(b, ee)] sz) (F u) t) (va_A [(b, ee)] sz)) k1 k2 (va_A [(b, ee)] sz)) (hl0 : Cond.methodLink own index y ∈ Ts) (hin : Cond.instanceMethod y ∈ Ts) (hw : wsY = Cond.code y bytes maxL none :: ws') (hG : GoodIn Ts wsY) (hrc : rm.cells = k1) (hrs : rm.slots = k2) (hini : Cond.initialized y.cls ∈ Ts) (hy : y.name = "<init>") (hd : y.cls ≠ "java/lang/invoke/MethodHandle" ∧ y.cls ≠ "java/lang/invoke/VarHandle" ∧ (parseMethodDescriptor y.desc).map (fun d => d.parameters.length) = some n) (hR : rm.frames + 1 ≤ R.frames ∧ 8 + (maxL + 11) + rm.locals ≤ R.locals) (hcap : cells + k1 ≤ R.cells ∧ slots + k2 ≤ R.slots) (hn : As.length = n) (hW : (st.map fun v => v.category).sum ≤ 8) (d : decode cc pc = .ok (.invokespecial index, 3)) {st0 : List Value} (h0 : st0 = As.reverse ++ .ref b :: st) (k : ∀ (u : S), post u → sw_J p l e R s m args below meth c (cells + k1) (slots + k2) Q D cl A nL (w0 ++ F u) (pc + 3) lv st) : sw_J p l e R s m args below meth c cells slots Q D cl A nL (w0 ++ [(b, ee)]) pc lv st0 := by
  intro H locs ls hP hD hS hl
  have hlast : (w0 ++ [(b, ee)])[w0.length]? = some (b, ee) := by simp
  have hleft : ∀ (i : Nat) (q : Nat × va_E), w0[i]? = some q → i < w0.length ∧ (w0 ++ [(b, ee)])[i]? = some q := fun i q hi => by
    have hlt := (List.getElem?_eq_some_iff.mp hi).1
    exact ⟨hlt, by rw [List.getElem?_append_left hlt]; exact hi⟩
  have one : ∀ (k : Nat) (q : Nat × va_E), [(b, ee)][k]? = some q → q = (b, ee) := fun k q hk => by
    have hlt : k < 1 := (List.getElem?_eq_some_iff.mp hk).1
    rw [show k = 0 by omega] at hk
    exact (Option.some.inj hk).symm
  have hPx : va_P D cl [(b, ee)] H := fun k q hk => by rw [one k q hk]; exact hP _ _ hlast
  have hDx : va_D A [(b, ee)] := ⟨fun i j x y hi hj _ => by
    have h1 : i < 1 := (List.getElem?_eq_some_iff.mp hi).1
    have h2 : j < 1 := (List.getElem?_eq_some_iff.mp hj).1
    omega, fun k q hk => by rw [one k q hk]; exact hD.2 _ _ hlast⟩
  have hF : ∀ q, va_A [(b, ee)] H.size q → A q := wq_free hA hDx hS
  have apart : ∀ (i : Nat) (q : Nat × va_E), w0[i]? = some q → q.1 < H.size ∧ ¬ va_A [(b, ee)] H.size q.1 := fun i q hi => by
    obtain ⟨h1, h2⟩ := hleft i q hi
    have hlt := (hP i q h2).lt
    refine ⟨hlt, fun h => ?_⟩
    rcases h with ⟨k2, e2, h⟩ | h
    · have hb : q.1 = b := congrArg Prod.fst (one k2 _ h)
      have := hD.1 i w0.length q (b, ee) h2 hlast hb
      omega
    · omega
  exact va_callv (va_runI (As := As) (rest := st) X.1 (hM H.size) (cwI n X.1.2.2.2.2 hG hw hrc hrs (X.1.2.2.2.2 _ hini) (X.1.2.2.2.2 _ hl0) (X.1.2.2.2.2 _ hin) hy hd hR) ⟨wk_blind, fun U hU hW' => wk_at X.2 hPx hDx U hU hW'⟩ rfl hn hl.1 h0 (lv_room hW) d hcap) hS (fun q _ h => hF q h) hF (fun u t H1 locs1 ht hvm hp hB hz hk hS1 => k u hp H1 locs1 ls
    (va_P.app (fun i q hi => (hP i q (hleft i q hi).2).kept (hk q.1 (apart i q hi).1 (apart i q hi).2)) (by rw [← ht]; exact hB.1))
    (va_D.app ⟨fun i j x y hi hj hxy => hD.1 i j x y (hleft i x hi).2 (hleft j y hj).2 hxy, fun i q hi => hD.2 i q (hleft i q hi).2⟩ (hB.2.2.weaken (fun _ q _ h => hF q.1 h)) (fun i j x y hx hy hxy => (apart i x hx).2 (by rw [hxy]; exact hB.2.2.2 j y hy))) hS1 hl)
theorem fn_ob_int : ∀ (U : State) (z : ClassId), va_RA U z .int → U.vm.findClass ("[" ++ FieldType.int.toString) = some z := fun _ _ h => h
theorem fn_ob_long : ∀ (U : State) (z : ClassId), va_RA U z .long → U.vm.findClass ("[" ++ FieldType.long.toString) = some z := fun _ _ h => h
theorem fn_ob_boolean : ∀ (U : State) (z : ClassId), va_RA U z .boolean → U.vm.findClass ("[" ++ FieldType.boolean.toString) = some z := fun _ _ h => h
theorem fn_ar_int (n : Nat) : ∀ cA : ClassId, vp_cell cA (n, .inl (fun _ => 0)) = arrV cA n (fun _ => defaultValue .int) := fun _ => rfl
theorem fn_ar_boolean (n : Nat) : ∀ cA : ClassId, vp_cell cA (n, .inl (fun _ => 0)) = arrV cA n (fun _ => defaultValue .boolean) := fun _ => rfl
theorem fn_ar_long (n : Nat) : ∀ cA : ClassId, vp_cell cA (n, .inr (.inl (fun _ => 0))) = arrV cA n (fun _ => defaultValue .long) := fun _ => rfl
theorem wm_oi_im : Cond.instanceMethod Lib.objectInit ∈ wa_A := wc_0 _ (List.mem_of_getElem? (i := 21) rfl)
theorem wm_oi_code : Cond.code Lib.objectInit ⟨#[0xb1]⟩ 1 none ∈ wa_A := wc_0 _ (List.mem_of_getElem? (i := 22) rfl)
theorem wm_ac_int : Cond.arrayClass .int ∈ wa_A := wc_1 _ (List.mem_of_getElem? (i := 23) rfl)
theorem wm_ac_long : Cond.arrayClass .long ∈ wa_A := wc_2 _ (List.mem_of_getElem? (i := 35) rfl)
theorem wm_ac_boolean : Cond.arrayClass .boolean ∈ wa_A := wc_13 _ (List.mem_of_getElem? (i := 37) rfl)
theorem wm_ii_S : Cond.instantiable "SuccessKinds" 3 ∈ wa_A := wc_0 _ (List.mem_of_getElem? (i := 16) rfl)
theorem wm_ii_P : Cond.instantiable "SuccessKinds$Program" 9 ∈ wa_A := wc_0 _ (List.mem_of_getElem? (i := 24) rfl)
theorem wm_ii_K : Cond.instantiable "SuccessKinds$Knowledge" 5 ∈ wa_A := wc_1 _ (List.mem_of_getElem? (i := 25) rfl)
theorem wm_ii_H : Cond.instantiable "SuccessKinds$Machine" 12 ∈ wa_A := wc_2 _ (List.mem_of_getElem? (i := 2) rfl)
theorem wm_ii_M : Cond.instantiable "SuccessKindsModel" 36 ∈ wa_A := wc_11 _ (List.mem_of_getElem? (i := 39) rfl)
