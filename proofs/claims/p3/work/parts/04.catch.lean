/-! A handler whose class may not be resolved yet; 'throw new X()' with nothing else changed. -/
section XH
variable {E : CtlPost} {e : Env} {d : Bool} {acts : List Action} {s : State} {f : JFrame} {a : Addr} {Q : Handler → Pre}
theorem xt_go {x : ExceptionTableEntry} {t : List ExceptionTableEntry} {cT : ClassId} {vm' : Vm} (hx : covers x f.pc = true) (h0 : x.catchType ≠ 0)
    (hg : (Jvm.resolveClass f.method.cls x.catchType).Gives e.toSetting s.vm (.ok cT) vm') (hr : vm'.classReady f.method.cls x.catchType cT) (hsz : vm'.classes.size ≤ s.vm.classes.size) :
    wp (findHandler.go f a (x :: t)) Q E e d acts s ↔ wp (findHandler.go f a (x :: t)) Q E e d acts (s.setVm vm') := by
  obtain ⟨ha, ht⟩ := hg.op (op := VmOp.resolveClass f.method.cls x.catchType) rfl
  simp only [covers] at hx
  obtain ⟨k, hkd, hres⟩ := hr
  simp [findHandler.go, hx, h0, ha, ht, hsz, resolveClass_memo e hkd hres, VmOp.dirties, VmOp.acts]
  exact Iff.rfl
theorem xt_step {r : List Frame} {pc : Nat} {vm' : Vm} (hfind : ∀ (Q : Handler → Pre) (E : CtlPost) (d : Bool) (acts : List Action), wp (findHandler f a) Q E e d acts s ↔ Q (.found pc) d acts (s.setVm vm')) :
    (stepThrowing e s a (.java f :: r)).Is ((s.setVm vm').setFrames (.java { f with pc := pc, stack := [.ref a] } :: r)) [] := by
  simp only [stepThrowing, searchFrame, vmDo]
  generalize hr : Sem.go _ e false [] s = res
  obtain ⟨as, rfl, ha⟩ := Sem.eq_ok_of hr (a := Handler.found pc) (s' := s.setVm vm') (acts' := []) (by simp [hfind _ _ _ _])
  exact ⟨rfl, ha⟩
end XH
section XK
variable {p : Program} {l : Launch} {e : Env} {R : Room} {s : State} {m : MethodId} {args : Array Value} {below : List Frame} {meth : Method} {c : Code} {H : Heap} {locs : List Loc} {cells slots : Nat} {Q : State → Prop}
/-- the exception's class fits the handler's: the walk goes on there -/
theorem xt_catch {x : Addr} {pc pcH ct : Nat} {ls : Array Slot} {rest : List Value} {own C : String} (hown : s.vm.findClass own = some m.cls) (hlink : (Cond.classLink own ct C).before args s = true)
    {ent : ExceptionTableEntry} {post : List ExceptionTableEntry} (pre : List ExceptionTableEntry) (hsplit : c.exceptionTable.toList = pre ++ ent :: post) (hskip : ∀ z ∈ pre, covers z pc = false) (hcov : covers ent pc = true) (hct : ent.catchType = ct) (h0 : ct ≠ 0) (hpc : ent.handlerPc = pcH)
    {cell : Cell} (hcell : H[x]? = some cell) (hobj : cell.vm.isStatics = false) {cT : ClassId} (hcT : s.vm.findClass C = some cT) (hasg : s.vm.assignable cell.cls cT = true)
    (k : W p l e R s m args below meth c H locs cells slots Q (F0 m pcH ls [.ref x])) : xt_X p l e R s m args below meth c H locs cells slots Q (F0 m pc ls rest) x := by
  intro T hT X
  subst hct
  have hpl : e.platform.magicAccessors = ({} : Platform).magicAccessors := by rw [X.admits.platform]
  obtain ⟨c', hc', hcl⟩ := Cond.classLink_spec hown hlink e.platform hpl
  cases hcT.symm.trans hc'
  obtain ⟨dk, _, _, kt, hd, _, _, _, _, hkt, _, hopen⟩ := hcl.here
  have hcl₀ := X.warmed.classLinks hcl
  have hW' : s.WarmedH (T.vm.noted m.cls ent.catchType (.cls cT)) := X.warmed.noted hd hopen (State.rightAt_cls hcl)
  have hTal : T.vm.Alike (T.vm.noted m.cls ent.catchType (.cls cT)) := alike_of X.warmed hW'
  obtain ⟨ks, hks⟩ : ∃ k, s.vm.classes[cell.cls]? = some k := Vm.classAt_of_assignable hasg ⟨_, hkt⟩
  obtain ⟨ks', hks', -⟩ := hW'.alike.2.2 _ _ hks
  obtain ⟨kt', hkt', -⟩ := hW'.alike.2.2 _ _ hkt
  generalize hvm' : T.vm.noted m.cls ent.catchType (.cls cT) = vm' at hW' hTal hks' hkt'
  have hgiv : (Jvm.resolveClass m.cls ent.catchType).Gives e.toSetting T.vm (.ok cT) vm' := by rw [← hvm']; exact resolveClass_links e.toSetting hcl₀
  have hrdy : vm'.classReady m.cls ent.catchType cT := by rw [← hvm']; exact hcl₀.ready
  have hsz : vm'.classes.size ≤ T.vm.classes.size := by rw [← hvm']; simp [Vm.noted]
  obtain ⟨t, a1, b1⟩ := k (T.setVm vm') hT (X.noted hW')
  refine ⟨t, ?_, b1⟩
  have h : At T (F0 m pc ls rest).method c below := X.here
  obtain ⟨hgo, hw⟩ := h.throwing x
  refine Steps.head hgo hw ?_
  have hfind : ∀ (Q : Handler → Pre) (E : CtlPost) (d : Bool) (acts : List Action), wp (findHandler (F0 m pc ls rest) x) Q E e d acts ((T.setTop (F0 m pc ls rest)).pushFrame (.throwing x)) ↔ Q (.found pcH) d acts (((T.setTop (F0 m pc ls rest)).pushFrame (.throwing x)).setVm vm') := by
    intro Q E d acts
    have hv : ((T.setTop (F0 m pc ls rest)).pushFrame (.throwing x)).vm = T.vm := Stand.throwing_vm T _ x
    have hh : ((T.setTop (F0 m pc ls rest)).pushFrame (.throwing x)).heap = T.heap := Stand.throwing_heap T _ x
    rw [W.findHandler_eq (meth := meth) (code := c) (by rw [hv]; exact X.method') X.code, hsplit]
    clear hsplit
    induction pre with
    | nil =>
      show wp (findHandler.go _ x (ent :: post)) Q E e d acts _ ↔ _
      rw [xt_go (cT := cT) (vm' := vm') hcov h0 (by rw [hv]; exact hgiv) hrdy (by rw [hv]; exact hsz)]
      rw [W.findHandler_go_class (c := cT) (cell := cell) hcov h0 hrdy (by show (State.heap _)[x]? = _; exact (congrArg (·[x]?) (hh.trans hT)).trans hcell) (VmData.ne_statics_of hobj) ⟨_, hks'⟩ ⟨_, hkt'⟩,
        if_pos (by show vm'.assignable _ _ = true; rw [hW'.alike.assignable]; exact hasg), hpc]
    | cons z zs ih =>
      rw [List.cons_append, W.findHandler_go_skip (hskip z List.mem_cons_self)]
      exact ih (fun y hy => hskip y (List.mem_cons_of_mem _ hy))
  rw [stepThread_throwing (frames_entered h.top _), (xt_step (s := (T.setTop (F0 m pc ls rest)).pushFrame (.throwing x)) hfind).1]
  obtain ⟨g₀, hr⟩ := X.frames_eq
  have hr' : (T.setVm vm').frames = .java g₀ :: below := hr
  have e1 : ((((T.setTop (F0 m pc ls rest)).pushFrame (.throwing x)).setVm vm').setFrames (.java { F0 m pc ls rest with pc := pcH, stack := [.ref x] } :: T.frames.tail)) = (T.setVm vm').setTop (F0 m pcH ls [.ref x]) := by
    rw [State.setTop_of_frames _ hr', X.tail, State.pushFrame, State.setTop_of_frames _ hr]
    show ((T.setFrames _).setFrames _ |>.setFrames _).setVm vm' = _
    rw [State.setFrames_setFrames, State.setFrames_setFrames]
    rfl
  rw [e1]
  exact a1
end XK
