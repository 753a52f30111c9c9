/-! Methods with handlers: rules, contracts, calls. -/
section XKN
variable {p : Program} {l : Launch} {e : Env} {R : Room} {s : State} {m : MethodId} {args : Array Value} {below : List Frame} {meth : Method} {c : Code} {H : Heap} {locs : List Loc} {cells slots : Nat} {Q : State → Prop}
/-- the first handler's class does not fit, the second's does -/
theorem xt_catchN {x : Addr} {pc pcH ct1 ct : Nat} {ls : Array Slot} {rest : List Value} {own C1 C : String} (hown : s.vm.findClass own = some m.cls) (hlink1 : (Cond.classLink own ct1 C1).before args s = true) (hlink : (Cond.classLink own ct C).before args s = true)
    {ent1 ent : ExceptionTableEntry} {post : List ExceptionTableEntry} (hsplit : c.exceptionTable.toList = ent1 :: ent :: post) (hcov1 : covers ent1 pc = true) (hct1 : ent1.catchType = ct1) (h01 : ct1 ≠ 0) (hcov : covers ent pc = true) (hct : ent.catchType = ct) (h0 : ct ≠ 0) (hpc : ent.handlerPc = pcH)
    {cell : Cell} (hcell : H[x]? = some cell) (hobj : cell.vm.isStatics = false) {cT1 cT : ClassId} (hcT1 : s.vm.findClass C1 = some cT1) (hna : s.vm.assignable cell.cls cT1 = false) (hcT : s.vm.findClass C = some cT) (hasg : s.vm.assignable cell.cls cT = true)
    (k : W p l e R s m args below meth c H locs cells slots Q (F0 m pcH ls [.ref x])) : xt_X p l e R s m args below meth c H locs cells slots Q (F0 m pc ls rest) x := by
  intro T hT X
  subst hct
  subst hct1
  have hpl : e.platform.magicAccessors = ({} : Platform).magicAccessors := by rw [X.admits.platform]
  obtain ⟨c1', hc1', hcl1⟩ := Cond.classLink_spec hown hlink1 e.platform hpl
  cases hcT1.symm.trans hc1'
  obtain ⟨c', hc', hcl⟩ := Cond.classLink_spec hown hlink e.platform hpl
  cases hcT.symm.trans hc'
  obtain ⟨ks, hks⟩ : ∃ k, s.vm.classes[cell.cls]? = some k := Vm.classAt_of_assignable hasg (by obtain ⟨_, _, _, kt, _, _, _, _, _, hkt, _, _⟩ := hcl.here; exact ⟨_, hkt⟩)
  obtain ⟨dk1, _, _, kt1, hd1, _, _, _, _, hkt1, _, hopen1⟩ := hcl1.here
  have hcl10 := X.warmed.classLinks hcl1
  have hW1 : s.WarmedH (T.vm.noted m.cls ent1.catchType (.cls cT1)) := X.warmed.noted hd1 hopen1 (State.rightAt_cls hcl1)
  have hsz1 : (T.vm.noted m.cls ent1.catchType (.cls cT1)).classes.size ≤ T.vm.classes.size := by simp [Vm.noted]
  have hgiv1 : (Jvm.resolveClass m.cls ent1.catchType).Gives e.toSetting T.vm (.ok cT1) (T.vm.noted m.cls ent1.catchType (.cls cT1)) := resolveClass_links e.toSetting hcl10
  have hrdy1 : (T.vm.noted m.cls ent1.catchType (.cls cT1)).classReady m.cls ent1.catchType cT1 := hcl10.ready
  generalize T.vm.noted m.cls ent1.catchType (.cls cT1) = vm1 at hW1 hsz1 hgiv1 hrdy1
  obtain ⟨dk, _, _, kt, hd, _, _, _, _, hkt, _, hopen⟩ := hcl.here
  have hcl₀ := hW1.classLinks hcl
  have hW' : s.WarmedH (vm1.noted m.cls ent.catchType (.cls cT)) := hW1.noted hd hopen (State.rightAt_cls hcl)
  have hsz : (vm1.noted m.cls ent.catchType (.cls cT)).classes.size ≤ vm1.classes.size := by simp [Vm.noted]
  have hgiv : (Jvm.resolveClass m.cls ent.catchType).Gives e.toSetting vm1 (.ok cT) (vm1.noted m.cls ent.catchType (.cls cT)) := resolveClass_links e.toSetting hcl₀
  have hrdy : (vm1.noted m.cls ent.catchType (.cls cT)).classReady m.cls ent.catchType cT := hcl₀.ready
  generalize vm1.noted m.cls ent.catchType (.cls cT) = vm' at hW' hsz hgiv hrdy
  obtain ⟨ks1, hks1, -⟩ := hW1.alike.2.2 _ _ hks
  obtain ⟨kt1', hkt1', -⟩ := hW1.alike.2.2 _ _ hkt1
  obtain ⟨ks', hks', -⟩ := hW'.alike.2.2 _ _ hks
  obtain ⟨kt', hkt', -⟩ := hW'.alike.2.2 _ _ hkt
  obtain ⟨t, a1, b1⟩ := k (T.setVm vm') hT (X.noted hW')
  refine ⟨t, ?_, b1⟩
  have h : At T (F0 m pc ls rest).method c below := X.here
  obtain ⟨hgo, hw⟩ := h.throwing x
  refine Steps.head hgo hw ?_
  have hfind : ∀ (Q : Handler → Pre) (E : CtlPost) (d : Bool) (acts : List Action), wp (findHandler (F0 m pc ls rest) x) Q E e d acts ((T.setTop (F0 m pc ls rest)).pushFrame (.throwing x)) ↔ Q (.found pcH) d acts (((T.setTop (F0 m pc ls rest)).pushFrame (.throwing x)).setVm vm') := by
    intro Q E d acts
    have hv : ((T.setTop (F0 m pc ls rest)).pushFrame (.throwing x)).vm = T.vm := Stand.throwing_vm T _ x
    have hh : ((T.setTop (F0 m pc ls rest)).pushFrame (.throwing x)).heap = T.heap := Stand.throwing_heap T _ x
    rw [W.findHandler_eq (meth := meth) (code := c) (by rw [hv]; exact X.method') X.code, hsplit]
    rw [xt_go (cT := cT1) (vm' := vm1) hcov1 h01 (by rw [hv]; exact hgiv1) hrdy1 (by rw [hv]; exact hsz1)]
    rw [W.findHandler_go_class (c := cT1) (cell := cell) hcov1 h01 hrdy1 (by show (State.heap _)[x]? = _; exact (congrArg (·[x]?) (hh.trans hT)).trans hcell) (VmData.ne_statics_of hobj) ⟨_, hks1⟩ ⟨_, hkt1'⟩,
      if_neg (by show ¬ vm1.assignable _ _ = true; rw [hW1.alike.assignable, hna]; exact Bool.false_ne_true)]
    rw [xt_go (cT := cT) (vm' := vm') hcov h0 hgiv hrdy hsz]
    rw [W.findHandler_go_class (c := cT) (cell := cell) hcov h0 hrdy (by show (State.heap _)[x]? = _; exact (congrArg (·[x]?) (hh.trans hT)).trans hcell) (VmData.ne_statics_of hobj) ⟨_, hks'⟩ ⟨_, hkt'⟩,
      if_pos (by show vm'.assignable _ _ = true; rw [hW'.alike.assignable]; exact hasg), hpc]
    exact Iff.rfl
  rw [stepThread_throwing (frames_entered h.top _), (xt_step (s := (T.setTop (F0 m pc ls rest)).pushFrame (.throwing x)) hfind).1]
  obtain ⟨g₀, hr⟩ := X.frames_eq
  have hr' : (T.setVm vm').frames = .java g₀ :: below := hr
  have e1 : ((((T.setTop (F0 m pc ls rest)).pushFrame (.throwing x)).setVm vm').setFrames (.java { F0 m pc ls rest with pc := pcH, stack := [.ref x] } :: T.frames.tail)) = (T.setVm vm').setTop (F0 m pcH ls [.ref x]) := by
    rw [State.setTop_of_frames _ hr', X.tail, State.pushFrame, State.setTop_of_frames _ hr]
    show ((T.setFrames _).setFrames _ |>.setFrames _).setVm vm' = _
    rw [State.setFrames_setFrames, State.setFrames_setFrames]
    rfl
  rw [e1]
  exact a1
end XKN
section XTH
variable {p : Program} {l : Launch} {e : Env} {R : Room} {s : State} {m : MethodId} {args : Array Value} {below : List Frame} {meth : Method} {c : Code} {T : State} {H : Heap} {locs : List Loc} {cells slots : Nat} {Q : State → Prop} {hs : List (Nat × Nat × Nat × Nat)}
theorem xt_ofWH {y : MethodName} {ws ws' : List Cond} {rm : Room} {Pc : Array Value → State → Prop} {Qc : Array Value → State → Outcome → State → Prop} {mc ms : Nat} {free : Addr → Prop} {cc : ByteArray} {maxL : Nat} {ret : Option FieldType}
    (hy : plainName y.cls = true) (hw : ws = Cond.codeWith y cc maxL ret hs :: ws')
    (body : ∀ p e s m args below meth c s₁, BodyLoose p l y (headSpec ws rm) cc maxL ret e s m args below meth c s₁ → c.maxLocals = maxL → c.exceptionTable.toList.map (fun h => (h.startPc, h.endPc, h.handlerPc, h.catchType)) = hs → Pc args s →
      W p l e (headSpec ws rm).room s m args below meth c s.heap [] 0 0 (xt_MQ below Qc args s mc ms free) (entryFrame m args maxL)) : xt_Met l y ws rm Pc Qc mc ms free := by
  refine MetFree.of_bodyS (code := cc) (maxLocals := maxL) (ret := ret) hy ?_ ?_
  · intro args s m h hn
    obtain ⟨m', meth, c, hn', h1, h2, h3, h4, -, h5, h6, -⟩ := Cond.codeWith_spec (atoms_spec (ws := ws) h _ (by rw [hw]; exact List.mem_cons_self))
    cases hn.symm.trans hn'
    exact ⟨meth, c, h1, h2, h3, h4, h5, h6⟩
  · intro p e s m args below meth c s₁ B hml hP _
    have hh0 : s₁.heap = s.heap := by rw [B.state]; rfl
    obtain ⟨m', meth', c', hn', h1, h2, -, -, h7, -⟩ := Cond.codeWith_spec (atoms_spec (ws := ws) B.pre _ (by rw [hw]; exact List.mem_cons_self))
    have X₀ := Stand.of_body (l := l) B
    cases B.named.symm.trans hn'
    cases X₀.method.symm.trans h1
    cases X₀.code.symm.trans h2
    obtain ⟨t, a1, o, b1, b2, b3⟩ := body p e s m args below meth c s₁ B hml h7 hP s₁ hh0 X₀
    exact ⟨t, o, a1, b1, b2, b3⟩
end XTH
section XCH
variable {p : Program} {l : Launch} {e : Env} {R : Room} {s : State} {m : MethodId} {args : Array Value} {below : List Frame} {meth : Method} {c : Code} {T : State} {H : Heap} {locs : List Loc} {cells slots : Nat} {Q : State → Prop}
variable {y : MethodName} {ws : List Cond} {rm : Room} {Pc : Array Value → State → Prop} {Qc : Array Value → State → Outcome → State → Prop} {mc ms : Nat} {free : Addr → Prop} {bytes : ByteArray} {maxL : Nat} {ret : Option FieldType} {hs : List (Nat × Nat × Nat × Nat)}
theorem xt_backH (X : Stand p l e R s m args below meth c T locs cells slots) {g : JFrame} (hg : g.method = m) (hsize : g.locals.size = c.maxLocals) {ig : Instr} {len : Nat} (hdg : decode c.code g.pc = .ok (ig, len))
    {mk : MethodId} {a : Array Value} (hM : xt_Met l y ws rm Pc Qc mc ms free) (hn : T.methodNamed? y = some mk) (hpre : ∀ w ∈ ws, w.before a T = true) (hcode : (Cond.codeWith y bytes maxL ret hs).before a T = true) (hini : (Cond.initialized y.cls).before a T = true)
    (hrc : rm.cells = mc) (hrs : rm.slots = ms) (hframes : rm.frames + 1 ≤ R.frames) (hlocals : 2 * g.monitorRoom + (g.stack.map fun v => v.category).sum + (maxL + 11) + rm.locals ≤ R.locals) (hcells : cells + mc ≤ R.cells) (hslots : slots + ms ≤ R.slots)
    (hP : Pc a (T.calling g mk a)) :
    ∃ (o : Outcome) (t T' : State) (L : List Loc), Stand p l e R s m args below meth c T' (locs ++ L) (cells + mc) (slots + ms) ∧ T'.heap = t.heap ∧ T'.vm = t.vm ∧ (∀ q ∈ L, free q.base) ∧ Qc a (T.calling g mk a) o t ∧
      Steps p.tables e below (doInvoke e (T.setTop g) [] mk a).1 t ∧
      (∀ v, o = .returned v → t = T'.setTop { g with pc := g.pc + len, stack := v.toList ++ g.stack }) ∧ (∀ x, o = .threw x → t = (T'.setTop g).pushFrame (.throwing x)) := by
  obtain ⟨mY', methY, cY, hnY', hmY, hcY, -, hlY, -⟩ := Cond.codeWith_spec hcode
  cases hn.symm.trans hnY'
  obtain ⟨kY, hkY, -⟩ := className_of_methodNamed hn
  have hinitY : kY.init = .initialized := Cond.initialized_spec (findClass_of_methodNamed hn) hkY hini
  have h : At T g.method c below := by rw [hg]; exact X.here
  have happ : (headSpec ws rm).appliesLoose y e.platform (T.calling g mk a) = true :=
    Spec.appliesLoose_calling (g := g) h hdg hn hkY hinitY
      (X.room_calling (g := g) (R' := rm) hsize hmY hcY hframes (by rw [hlY]; exact hlocals) (by rw [hrc]; exact hcells) (by rw [hrs]; exact hslots)) (atoms_intro hpre)
  obtain ⟨mid, hmid⟩ := h.above
  have hfr : (T.setTop g).frames = (.java g :: mid) ++ below := by rw [State.frames_setTop' g h.top, hmid]; rfl
  obtain ⟨o, t, hsteps, -, hend, hq, L, ⟨hW, hsame⟩, hL⟩ := Steps.callFree hM p X.admits X.cas X.clock (acts := []) hfr happ hP trivial
  rw [State.frames_setTop' g h.top, X.tail] at hend
  have hq' : Qc a (T.calling g mk a) o t := hq
  cases o with
  | returned v =>
    obtain ⟨T', X', -, -, ht⟩ := X.outOf hg hdg (mk := mk) (a := a) hend hW hsame
    refine ⟨.returned v, t, T', L, X', ?_, ?_, hL, hq', hsteps, ?_, fun x h => by cases h⟩
    · rw [ht]; simp [State.setTop, State.modifyTopJava]
    · rw [ht]; simp [State.setTop, State.modifyTopJava]
    · intro v2 h2
      cases h2
      exact ht
  | threw x =>
    obtain ⟨T', X', -, -, ht⟩ := X.outOfThrown hg (mk := mk) (a := a) hend hW hsame
    refine ⟨.threw x, t, T', L, X', ?_, ?_, hL, hq', hsteps, (fun x h => by cases h), ?_⟩
    · rw [ht]; exact (Stand.throwing_heap T' g x).symm
    · rw [ht]; exact (Stand.throwing_vm T' g x).symm
    · intro v2 h2
      cases h2
      exact ht
end XCH
section XSH
variable {p : Program} {l : Launch} {e : Env} {R : Room} {s : State} {m : MethodId} {args : Array Value} {below : List Frame} {meth : Method} {c : Code} {H : Heap} {locs : List Loc} {cells slots : Nat} {Q : State → Prop}
variable {y : MethodName} {bytes cc : ByteArray} {maxL nL mc ms n index : Nat} {ret : Option FieldType} {ws : List Cond} {rm : Room} {Pc : Array Value → State → Prop} {Qc : Array Value → State → Outcome → State → Prop} {free : Addr → Prop} {Ts : List Cond} {own C : String} {b : Addr} {As rest : List Value} {pc : Nat} {ls : Array Slot} {hs : List (Nat × Nat × Nat × Nat)}
theorem xt_callSH (S : CallFix p m c cc nL s args Ts own) (hM : xt_Met l y ws rm Pc Qc mc ms free) (hrc : rm.cells = mc) (hrs : rm.slots = ms) (hfr : rm.frames + 1 ≤ R.frames) (hlo : 8 + (maxL + 11) + rm.locals ≤ R.locals) (hws : ∀ w ∈ ws, ∀ (a' : Array Value) (U : State), s.WarmedH U.vm → w.before a' U = true) (hcw : Cond.codeWith y bytes maxL ret hs ∈ ws) (hcode : (Cond.codeWith y bytes maxL ret hs).before args s = true) (hini : (Cond.initialized y.cls).before args s = true) (hy : y.cls ≠ "java/lang/invoke/MethodHandle" ∧ y.cls ≠ "java/lang/invoke/VarHandle") (hlen : ∀ sig, parseMethodDescriptor y.desc = some sig → n = sig.parameters.length) (hl : (Cond.methodLink own index y).before args s = true) (hst0 : (Cond.static y).before args s = true) (hp : PreS s H Pc As)
    (hn : As.length = n) (hsize : ls.size = nL) (hW : (rest.map fun v => v.category).sum ≤ 8) (hdg : decode cc pc = .ok (.invokestatic index, 3)) (hf : cells + mc ≤ R.cells ∧ slots + ms ≤ R.slots)
    (kr : ∀ (v : Option Value) (st t : State) (L : List Loc), st.heap = H → s.vm.Alike t.vm → (∀ q ∈ L, free q.base) → Qc As.toArray st (.returned v) t → W p l e R s m args below meth c t.heap (locs ++ L) (cells + mc) (slots + ms) Q (F0 m (pc + 3) ls (v.toList ++ rest)))
    (kx : ∀ (x : Addr) (st t : State) (L : List Loc), st.heap = H → s.vm.Alike t.vm → (∀ q ∈ L, free q.base) → Qc As.toArray st (.threw x) t → xt_X p l e R s m args below meth c t.heap (locs ++ L) (cells + mc) (slots + ms) Q (F0 m pc ls rest) x) :
    W p l e R s m args below meth c H locs cells slots Q (F0 m pc ls (As.reverse ++ rest)) := by
  obtain ⟨hx, hb, hml, ho, -⟩ := S
  obtain ⟨hbl, hPc⟩ := hp
  intro T hT X
  obtain ⟨mk, methM, cM, hnamed, hmethM, -, -, -, -, -, -, hsigM⟩ := Cond.codeWith_spec hcode
  have hstatic : methM.isStatic = true := Cond.static_spec hnamed hmethM hst0
  obtain ⟨kP, hkP, -⟩ := className_of_methodNamed hnamed
  have hinitP : kP.init = .initialized := Cond.initialized_spec (findClass_of_methodNamed hnamed) hkP hini
  obtain ⟨vm₁, X₁, hstep₁⟩ := X.invokestatic hx ho hl hnamed hmethM hstatic hkP hinitP hy (g := F0 m pc ls (As.reverse ++ rest)) rfl (argsL := As) (rest := rest) (hn.trans (hlen _ hsigM)) rfl (by rw [hb]; exact hdg)
  obtain ⟨o, t, T', L, X', e1, e2, hL, hq, hst, hr, hth⟩ := xt_backH X₁ (g := F0 m pc ls rest) rfl (hsize.trans hml.symm) (by rw [hb]; exact hdg) hM (X₁.named hnamed) (fun w hw => hws w hw _ _ X₁.warmed) (hws _ hcw _ _ X₁.warmed)
    (word_at X₁.warmed (Or.inl (by first | rfl | simp [Cond.onTables, Cond.keeps, Cond.steady])) hini) hrc hrs hfr (by show 2 * 0 + (rest.map fun v => v.category).sum + (maxL + 11) + rm.locals ≤ R.locals; omega) hf.1 hf.2 (hbl _ _ _ _ (hPc (T.setVm vm₁) hT X₁.warmed))
  have hal : s.vm.Alike t.vm := by rw [← e2]; exact X'.warmed.alike
  cases o with
  | returned v =>
    obtain ⟨t2, a1, b1⟩ := kr v _ t L (by show T.heap = H; exact hT) hal hL hq T' e1 X'
    have h1 := hr v rfl
    exact ⟨t2, hstep₁ _ (fun acts => by rw [doInvoke_state]; exact hst.trans (by rw [h1]; exact a1)), b1⟩
  | threw x =>
    obtain ⟨t2, a1, b1⟩ := kx x _ t L (by show T.heap = H; exact hT) hal hL hq T' e1 X'
    have h1 := hth x rfl
    exact ⟨t2, hstep₁ _ (fun acts => by rw [doInvoke_state]; exact hst.trans (by rw [h1]; exact a1)), b1⟩
end XSH
def CxH (p : Program) (R : Room) (s : State) (m : MethodId) (args : Array Value) (meth : Method) (c : Code) (cc : ByteArray) (own : String) (nL : Nat) (ret : Option FieldType) (hs : List (Nat × Nat × Nat × Nat)) (D : va_G) (z0 : Nat) (E : State → Prop) (mc ms : Nat) : Prop :=
  p.tables.exec = Jvm.exec ∧ c.code = cc ∧ c.maxLocals = nL ∧ s.vm.findClass own = some m.cls ∧ (∀ w ∈ lw_g, w.before args s = true) ∧ va_K D CL (TY D) s ∧ meth.locks = false ∧ z0 ≤ s.heap.size ∧ E s ∧ Stb z0 E ∧ meth.sig.returnType = ret ∧ c.exceptionTable.toList.map (fun h => (h.startPc, h.endPc, h.handlerPc, h.catchType)) = hs ∧ R.cells = mc ∧ R.slots = ms
def CtrH (l : Launch) (y : MethodName) (cc : ByteArray) (maxL : Nat) (ret : Option FieldType) (hs : List (Nat × Nat × Nat × Nat)) (rm : Room) (D : va_G) (z0 : Nat) (E : State → Prop) (pre : List Value → hp → Prop) (post : List Value → hp → Outcome → hp → Prop) : Prop :=
  ∀ (as : List Value) (h : hp), pre as h → xt_Met l y (Cond.codeWith y cc maxL ret hs :: lw_g) rm (fun a U => a = as.toArray ∧ World z0 D E h U) (QcO z0 D E (post as h)) rm.cells rm.slots (AA z0)
theorem ctrH_of {l : Launch} {y : MethodName} {cc : ByteArray} {maxL : Nat} {ret : Option FieldType} {hs : List (Nat × Nat × Nat × Nat)} {rm : Room} {D : va_G} {z0 : Nat} {E : State → Prop} {pre : List Value → hp → Prop} {post : List Value → hp → Outcome → hp → Prop} (hSt : Stb z0 E) (hy : plainName y.cls = true) (hsz : ∀ as h, pre as h → (lg_sl as).length ≤ maxL)
    (body : ∀ (as : List Value) (h : hp), pre as h → ∀ (p : Program) (e : Env) (s : State) (m : MethodId) (args : Array Value) (below : List Frame) (meth : Method) (c : Code), CxH p rm s m args meth c cc y.cls maxL ret hs D z0 E rm.cells rm.slots →
      G p l e rm s m args below meth c maxL D z0 E (post as h) rm.cells rm.slots 0 (lv_args 0 as) [] h rm.cells rm.slots) : CtrH l y cc maxL ret hs rm D z0 E pre post := by
  intro as h hpre
  refine xt_ofWH (cc := cc) (maxL := maxL) (ret := ret) (hs := hs) hy rfl ?_
  intro p e s m args below meth c s₁ B hml htb hv
  obtain ⟨rfl, hW⟩ := hv
  have hts := atoms_spec (ws := Cond.codeWith y cc maxL ret hs :: lw_g) B.pre
  have cx : CxH p rm s m as.toArray meth c cc y.cls maxL ret hs D z0 E rm.cells rm.slots :=
    ⟨B.exec, B.bytes, hml, findClass_of_methodNamed B.named, fun w h => hts w (List.mem_cons_of_mem _ h), hW.2.1, B.notSynchronized, hW.2.2.1, hW.2.2.2, hSt, B.returns, htb, rfl, rfl⟩
  rw [lg_entry_eq]
  exact body as h hpre p e s m as.toArray below meth c cx _ s.heap [] 0 0 (lv_entry as (hsz as h hpre)) hW.1 va_S.rf (by omega) (by omega)
theorem goodH {y : MethodName} {cc : ByteArray} {maxL : Nat} {ret : Option FieldType} {hs : List (Nat × Nat × Nat × Nat)} (w5 : Cond.codeWith y cc maxL ret hs ∈ lw_g) : GoodIn lw_g (Cond.codeWith y cc maxL ret hs :: lw_g) := by
  intro w hw
  have hm : w ∈ lw_g := by
    rcases List.mem_cons.mp hw with rfl | hw
    · exact w5
    · exact hw
  exact ⟨hm, lw_g_good w hm⟩
section GH
variable {p : Program} {l : Launch} {e : Env} {R : Room} {s : State} {m : MethodId} {args : Array Value} {below : List Frame} {meth : Method} {c : Code} {cc : ByteArray} {own : String} {nL : Nat} {ret : Option FieldType} {D : va_G} {z0 : Nat} {E : State → Prop} {Qp : Outcome → hp → Prop} {mc ms pc : Nat} {lv lv' : List (Nat × Value)} {st rest : List Value} {h : hp} {rc rs : Nat} {hs : List (Nat × Nat × Nat × Nat)}
theorem CxH.world (C : CxH p R s m args meth c cc own nL ret hs D z0 E mc ms) {H : Heap} {locs : List Loc} (h2 : Wd z0 D h H) (h3 : va_S (AA z0) s.heap H locs) (t : State) (ht : t.heap = H) (hW : s.WarmedH t.vm) : World z0 D E h t ∧ Fr z0 s t := by
  obtain ⟨-, -, -, -, -, hK, -, hz, hE, hSt, -⟩ := C
  have hF : Fr z0 s t := ⟨by rw [ht]; exact h3.1, fun q hq => by rw [ht]; exact h3.2.1 q (Nat.lt_of_lt_of_le hq hz) (Nat.not_le.mpr hq)⟩
  exact ⟨⟨by rw [ht]; exact h2, va_K.moved hW.alike hK, Nat.le_trans hz hF.1, hSt s t hW hF.1 hF.2 hE⟩, hF⟩
theorem h_iconst (C : CxH p R s m args meth c cc own nL ret hs D z0 E mc ms) {n : Int} {v : Int32} (hd : decode cc pc = .ok (.iconst n, 1)) (hv : Int32.ofInt n = v) (k : G p l e R s m args below meth c nL D z0 E Qp mc ms (pc + 1) lv (.int v :: rest) h rc rs) : G p l e R s m args below meth c nL D z0 E Qp mc ms pc lv (rest) h rc rs := fun ls H locs cells slots h1 h2 h3 h4 h5 => lv_iconst C.1 C.2.1 hd hv (k ls H locs cells slots h1 h2 h3 h4 h5)
theorem h_i2l (C : CxH p R s m args meth c cc own nL ret hs D z0 E mc ms) {x : Int32} (hd : decode cc pc = .ok (.i2l, 1))  (k : G p l e R s m args below meth c nL D z0 E Qp mc ms (pc + 1) lv (.long x.toInt64 :: rest) h rc rs) : G p l e R s m args below meth c nL D z0 E Qp mc ms pc lv (.int x :: rest) h rc rs := fun ls H locs cells slots h1 h2 h3 h4 h5 => lv_i2l C.1 C.2.1 hd rfl (k ls H locs cells slots h1 h2 h3 h4 h5)
theorem h_aload_n (C : CxH p R s m args meth c cc own nL ret hs D z0 E mc ms) {i : Nat} {x : Nat} {j : Fin 4} (q : Nat) (hd : decode cc pc = .ok (.aload_n j, 1)) (hi : (j : Nat) = i) (hl : lv[q]? = some (i, .ref x)) (k : G p l e R s m args below meth c nL D z0 E Qp mc ms (pc + 1) lv (.ref x :: rest) h rc rs) : G p l e R s m args below meth c nL D z0 E Qp mc ms pc lv rest h rc rs := fun ls H locs cells slots h1 h2 h3 h4 h5 => lv_aload_n C.1 C.2.1 hd hi (lv_at h1 q hl) (k ls H locs cells slots h1 h2 h3 h4 h5)
theorem h_iload_n (C : CxH p R s m args meth c cc own nL ret hs D z0 E mc ms) {i : Nat} {x : Int32} {j : Fin 4} (q : Nat) (hd : decode cc pc = .ok (.iload_n j, 1)) (hi : (j : Nat) = i) (hl : lv[q]? = some (i, .int x)) (k : G p l e R s m args below meth c nL D z0 E Qp mc ms (pc + 1) lv (.int x :: rest) h rc rs) : G p l e R s m args below meth c nL D z0 E Qp mc ms pc lv rest h rc rs := fun ls H locs cells slots h1 h2 h3 h4 h5 => lv_iload_n C.1 C.2.1 hd hi (lv_at h1 q hl) (k ls H locs cells slots h1 h2 h3 h4 h5)
theorem h_astore_n (C : CxH p R s m args meth c cc own nL ret hs D z0 E mc ms) {i : Nat} {x : Nat} {j : Fin 4} (hd : decode cc pc = .ok (.astore_n j, 1)) (hi : (j : Nat) = i) (hn : i < nL) (hl : (i, Value.ref x) :: lv.filter (fun q => !(q.1 == i) && !(q.1 + 1 == i && q.2.category == 2)) = lv') (k : G p l e R s m args below meth c nL D z0 E Qp mc ms (pc + 1) lv' rest h rc rs) : G p l e R s m args below meth c nL D z0 E Qp mc ms pc lv (.ref x :: rest) h rc rs := fun ls H locs cells slots h1 h2 h3 h4 h5 => lv_astore_n C.1 C.2.1 hd hi h1 hn hl (fun ls' h1' => k ls' H locs cells slots h1' h2 h3 h4 h5)
theorem h_goto (C : CxH p R s m args meth c cc own nL ret hs D z0 E mc ms) {off : Int} {tgt : Nat} (hd : decode cc pc = .ok (.goto off, 3)) (ht : (pc : Int) + off = (tgt : Int)) (k : G p l e R s m args below meth c nL D z0 E Qp mc ms tgt lv st h rc rs) : G p l e R s m args below meth c nL D z0 E Qp mc ms pc lv st h rc rs := fun ls H locs cells slots h1 h2 h3 h4 h5 => lv_goto C.1 C.2.1 hd ht (k ls H locs cells slots h1 h2 h3 h4 h5)
theorem h_iret (C : CxH p R s m args meth c cc own nL ret hs D z0 E mc ms) {v : Int32} {ty : FieldType} (hd : decode cc pc = .ok (.ireturn, 1)) (hr : ret = some ty) (hn : narrow ty (.int v) = .int v) (hq : Qp (.returned (some (.int v))) h) : G p l e R s m args below meth c nL D z0 E Qp mc ms pc lv [.int v] h rc rs := by
  intro ls H locs cells slots h1 h2 h3 h4 h5
  refine W.widen (k := mc) (n := ms) (by omega) (by omega) ?_
  refine xt_mono xt_ofMQ (W.zret C.1 C.2.1 (C.2.2.2.2.2.2.2.2.2.2.1.trans hr) hn (fun t ht hW => ?_) h3.2.2 hd C.2.2.2.2.2.2.1)
  obtain ⟨w1, w2⟩ := C.world h2 h3 t ht hW
  exact ⟨h, hq, w1, w2⟩
theorem h_last (C : CxH p R s m args meth c cc own nL ret hs D z0 E mc ms) {a n : Nat} {f : Nat → Int64} {i : Int32} {x : Int64} (hd : decode cc pc = .ok (.lastore, 1)) (ha : a ∈ h.1) (hF : h.2 a = .inl (D.1 102, n, .inr (.inl f))) (hin : vp_in i n) (kk : G p l e R s m args below meth c nL D z0 E Qp mc ms (pc + 1) lv rest (h.1, va_up h.2 a (.inl (D.1 102, n, .inr (.inl (vp_updL f i.toNatClampNeg x))))) rc rs) : G p l e R s m args below meth c nL D z0 E Qp mc ms pc lv (.long x :: .int i :: .ref a :: rest) h rc rs := by
  intro ls H locs cells slots h1 h2 h3 h4 h5
  obtain ⟨q0, hq0⟩ := pl_at ha
  have hq1 := hq0
  rw [hF] at hq0
  refine va_last C.1 C.2.1 C.2.2.2.2.2.1 h2.1 h2.2 h3 q0 2 hq0 rfl hin hd (fun H1 locs1 hP1 hD1 hS1 => ?_)
  rw [pl_set h2.2 ha hq1] at hP1 hD1
  exact kk ls H1 locs1 cells slots h1 ⟨hP1, hD1⟩ hS1 h4 h5
theorem rcH_of (C : CxH p R s m args meth c cc own nL ret hs D z0 E mc ms) {H : Heap} {a ci : Nat} {fs : List Value} {r : vw_C} (h2 : Wd z0 D h H) (hc : CL[ci]? = some r) (ha : a ∈ h.1) (hF : h.2 a = .inr (ci, fs)) : ∃ cell : Cell, H[a]? = some cell ∧ cell.vm.isStatics = false ∧ s.vm.findClass r.1 = some cell.cls := by
  obtain ⟨q0, hq0⟩ := pl_at ha
  rw [hF] at hq0
  exact va_recv C.2.2.2.2.2.1 h2.1 hc hq0
theorem h_callV (C : CxH p R s m args meth c cc own nL ret hs D z0 E mc ms) {idx n maxL' : Nat} {y : MethodName} {cc' : ByteArray} {ret' : Option FieldType} {rm' : Room} {pre : List Value → hp → Prop} {post : List Value → hp → Outcome → hp → Prop} {As : List Value} {a : Nat} (hc : Ctr l y cc' maxL' ret' rm' D z0 E pre post) (hd : decode cc pc = .ok (.invokevirtual idx, 3)) (w1 : Cond.methodLink own idx y ∈ lw_g) (w2 : Cond.instanceMethod y ∈ lw_g) (w3 : Cond.selects y.cls y y ∈ lw_g) (w4 : Cond.initialized y.cls ∈ lw_g) (w5 : Cond.code y cc' maxL' ret' ∈ lw_g) (hy : y.cls ≠ "java/lang/invoke/MethodHandle" ∧ y.cls ≠ "java/lang/invoke/VarHandle" ∧ (parseMethodDescriptor y.desc).map (fun d => d.parameters.length) = some n) (hn : As.length = n) {ci N : Nat} {T : u_T} {fs : List Value} (hci : CL[ci]? = some (y.cls, T, N)) (ha : a ∈ h.1) (hF : h.2 a = .inr (ci, fs)) (hpre : pre (.ref a :: As) h) (hR : rm'.frames + 1 ≤ R.frames ∧ 8 + (maxL' + 11) + rm'.locals ≤ R.locals) (hW : (rest.map fun v => v.category).sum ≤ 8) (hcost : rm'.cells ≤ rc ∧ rm'.slots ≤ rs)
    (kr : ∀ (v : Option Value) (h' : hp), post (.ref a :: As) h (.returned v) h' → G p l e R s m args below meth c nL D z0 E Qp mc ms (pc + 3) lv (v.toList ++ rest) h' (rc - rm'.cells) (rs - rm'.slots)) (kx : ∀ (x : Addr) (h' : hp), post (.ref a :: As) h (.threw x) h' → ∀ (ls : Array Slot) (H : Heap) (locs : List Loc) (cells slots : Nat), lv_has ls nL lv → Wd z0 D h' H → va_S (AA z0) s.heap H locs → cells + (rc - rm'.cells) ≤ mc → slots + (rs - rm'.slots) ≤ ms → xt_X p l e R s m args below meth c H locs cells slots (xt_MQ below (QcO z0 D E Qp) args s mc ms (AA z0)) (F0 m pc ls rest) x) : G p l e R s m args below meth c nL D z0 E Qp mc ms pc lv (As.reverse ++ .ref a :: rest) h rc rs := by
  intro ls H locs cells slots h1 h2 h3 h4 h5
  have hb9 : FrameBlind (fun a9 U => a9 = (.ref a :: As).toArray ∧ World z0 D E h U) := fun a9 U g mk q => ⟨q.1, World.blind C.2.2.2.2.2.2.2.2.2.1 q.2⟩
  have hw9 : ∀ U : State, U.heap = H → s.WarmedH U.vm → World z0 D E h U := fun U hU hWm => (C.world h2 h3 U hU hWm).1
  obtain ⟨q0, hq0⟩ := pl_at ha
  rw [hF] at hq0
  have hr9 := va_recv C.2.2.2.2.2.1 h2.1 hci hq0
  refine xt_callV (As := As) (rest := rest) ⟨C.1, C.2.1, C.2.2.1, C.2.2.2.1, C.2.2.2.2.1⟩ (hc (.ref a :: As) h hpre) (cwV (C := y.cls) n C.2.2.2.2.1 (goodV w1 w2 w3 w4 w5) rfl rfl rfl ⟨rfl, hy⟩ hR) ⟨hb9, hr9, fun U hU hWm => ⟨rfl, hw9 U hU hWm⟩⟩ hn h1.1 hW hd ⟨by have := C.2.2.2.2.2.2.2.2.2.2.2.2.1; omega, by have := C.2.2.2.2.2.2.2.2.2.2.2.2.2; omega⟩ ?_ ?_
  · intro v st t L hst hal hL hq
    obtain ⟨h', hp', ⟨w1', -, -, -⟩, hF'⟩ := hq
    exact kr v h' hp' ls t.heap (locs ++ L) _ _ h1 w1' (va_S.call C.2.2.2.2.2.2.2.1 h3 hst hL hF') (by omega) (by omega)
  · intro x st t L hst hal hL hq
    obtain ⟨h', hp', ⟨w1', -, -, -⟩, hF'⟩ := hq
    exact kx x h' hp' ls t.heap (locs ++ L) _ _ h1 w1' (va_S.call C.2.2.2.2.2.2.2.1 h3 hst hL hF') (by omega) (by omega)
theorem g_callSH (C : Cx p R s m args meth c cc own nL ret D z0 E mc ms) {idx n maxL' : Nat} {y : MethodName} {cc' : ByteArray} {ret' : Option FieldType} {rm' : Room} {pre : List Value → hp → Prop} {post : List Value → hp → Outcome → hp → Prop} {As : List Value} (hc : CtrH l y cc' maxL' ret' hs rm' D z0 E pre post) (hd : decode cc pc = .ok (.invokestatic idx, 3)) (w1 : Cond.methodLink own idx y ∈ lw_g) (w2 : Cond.static y ∈ lw_g) (w4 : Cond.initialized y.cls ∈ lw_g) (w5 : Cond.codeWith y cc' maxL' ret' hs ∈ lw_g) (hy : y.cls ≠ "java/lang/invoke/MethodHandle" ∧ y.cls ≠ "java/lang/invoke/VarHandle" ∧ (parseMethodDescriptor y.desc).map (fun d => d.parameters.length) = some n) (hn : As.length = n) (hpre : pre As h) (hR : rm'.frames + 1 ≤ R.frames ∧ 8 + (maxL' + 11) + rm'.locals ≤ R.locals) (hW : (rest.map fun v => v.category).sum ≤ 8) (hcost : rm'.cells ≤ rc ∧ rm'.slots ≤ rs)
    (kr : ∀ (v : Option Value) (h' : hp), post As h (.returned v) h' → G p l e R s m args below meth c nL D z0 E Qp mc ms (pc + 3) lv (v.toList ++ rest) h' (rc - rm'.cells) (rs - rm'.slots)) (kx : ∀ (x : Addr) (h' : hp), post As h (.threw x) h' → Qp (.threw x) h') : G p l e R s m args below meth c nL D z0 E Qp mc ms pc lv (As.reverse ++ rest) h rc rs := by
  intro ls H locs cells slots h1 h2 h3 h4 h5
  have hb9 : FrameBlind (fun a9 U => a9 = As.toArray ∧ World z0 D E h U) := fun a9 U g mk q => ⟨q.1, World.blind C.2.2.2.2.2.2.2.2.2.1 q.2⟩
  have hw9 : ∀ U : State, U.heap = H → s.WarmedH U.vm → World z0 D E h U := fun U hU hWm => (C.world h2 h3 U hU hWm).1
  refine xt_callSH (As := As) (rest := rest) ⟨C.1, C.2.1, C.2.2.1, C.2.2.2.1, C.2.2.2.2.1⟩ (hc As h hpre) rfl rfl hR.1 hR.2 (pay_in C.2.2.2.2.1 (goodH w5)) List.mem_cons_self (C.2.2.2.2.1 _ w5) (C.2.2.2.2.1 _ w4) ⟨hy.1, hy.2.1⟩ (fun sig hq => by have h9 := hy.2.2; rw [hq] at h9; exact (Option.some.inj h9).symm) (C.2.2.2.2.1 _ w1) (C.2.2.2.2.1 _ w2) ⟨hb9, fun U hU hWm => ⟨rfl, hw9 U hU hWm⟩⟩ hn h1.1 hW hd ⟨by have := C.2.2.2.2.2.2.2.2.2.2.2.2.1; omega, by have := C.2.2.2.2.2.2.2.2.2.2.2.2.2; omega⟩ ?_ ?_
  · intro v st t L hst hal hL hq
    obtain ⟨h', hp', ⟨w1', -, -, -⟩, hF'⟩ := hq
    exact kr v h' hp' ls t.heap (locs ++ L) _ _ h1 w1' (va_S.call C.2.2.2.2.2.2.2.1 h3 hst hL hF') (by omega) (by omega)
  · intro x st t L hst hal hL hq
    obtain ⟨h', hp', ⟨w1', -, -, -⟩, hF'⟩ := hq
    have hS' := va_S.call C.2.2.2.2.2.2.2.1 h3 hst hL hF'
    refine xt_Xwiden (k := mc) (n := ms) (by omega) (by omega) ?_
    refine xt_out rfl rfl rfl (fun z hz => absurd (C.2.2.2.2.2.2.2.2.2.2.2.1 z hz) id) C.2.2.2.2.2.2.1 (fun t' ht' hW' => ?_) hS'.2.2
    obtain ⟨u1, u2⟩ := C.world w1' hS' t' ht' hW'
    exact ⟨h', kx x h' hp', u1, u2⟩
end GH
