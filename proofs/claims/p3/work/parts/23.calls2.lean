/-! Calls of the superclass's own methods, of inherited and overriding ones, of private ones on an object of a subclass. -/
section XU
variable {p : Program} {l : Launch} {e : Env} {R : Room} {s : State} {m : MethodId} {args : Array Value} {below : List Frame} {meth : Method} {c : Code} {H : Heap} {locs : List Loc} {cells slots : Nat} {Q : State → Prop}
variable {x y : MethodName} {bytes cc : ByteArray} {maxL nL mc ms n index : Nat} {ret : Option FieldType} {ws : List Cond} {rm : Room} {Pc : Array Value → State → Prop} {Qc : Array Value → State → Outcome → State → Prop} {free : Addr → Prop} {Ts : List Cond} {own C : String} {b : Addr} {As rest : List Value} {pc : Nat} {ls : Array Slot}
theorem xt_callSU (S : CallFix p m c cc nL s args Ts own) (hM : xt_Met l y ws rm Pc Qc mc ms free) (cw : rm.cells = mc ∧ rm.slots = ms ∧ rm.frames + 1 ≤ R.frames ∧ 8 + (maxL + 11) + rm.locals ≤ R.locals ∧ (∀ w ∈ ws, ∀ (a' : Array Value) (U : State), s.WarmedH U.vm → w.before a' U = true) ∧ Cond.code y bytes maxL ret ∈ ws) (hcode : (Cond.code y bytes maxL ret).before args s = true) (hini : (Cond.initialized y.cls).before args s = true) (hin : (Cond.instanceMethod y).before args s = true) {cC : ClassId} (hat : ClassAt s C cC) (hl1 : (Cond.methodLink own index y).before args s = true) (hl2 : (Cond.sameMethod y.cls y.cls y.name y.desc).before args s = true) (hl3 : (Cond.superclass own y.cls).before args s = true) (hno : y.name ≠ "<init>") (hlen : ∀ sig, parseMethodDescriptor y.desc = some sig → n = sig.parameters.length) (hp : PreV s H C b Pc As)
    (hn : As.length = n) (hsize : ls.size = nL) (hW : (rest.map fun v => v.category).sum ≤ 8) (hdg : decode cc pc = .ok (.invokespecial index, 3)) (hf : cells + mc ≤ R.cells ∧ slots + ms ≤ R.slots)
    (kr : ∀ (v : Option Value) (st t : State) (L : List Loc), st.heap = H → s.vm.Alike t.vm → (∀ q ∈ L, free q.base) → Qc (Value.ref b :: As).toArray st (.returned v) t → W p l e R s m args below meth c t.heap (locs ++ L) (cells + mc) (slots + ms) Q (F0 m (pc + 3) ls (v.toList ++ rest)))
    (kx : ∀ (x : Addr) (st t : State) (L : List Loc), st.heap = H → s.vm.Alike t.vm → (∀ q ∈ L, free q.base) → Qc (Value.ref b :: As).toArray st (.threw x) t → xt_X p l e R s m args below meth c t.heap (locs ++ L) (cells + mc) (slots + ms) Q (F0 m pc ls rest) x) :
    W p l e R s m args below meth c H locs cells slots Q (F0 m pc ls (As.reverse ++ .ref b :: rest)) := by
  obtain ⟨hrc, hrs, hfr, hlo, hws, hcw⟩ := cw
  obtain ⟨hx, hb, hml, ho, -⟩ := S
  obtain ⟨hbl, ⟨cellB, hcB, hoB, hclB⟩, hPc⟩ := hp
  intro T hT X
  obtain ⟨mk, methM, hnamed, hmethM, hstM, habM⟩ := Cond.instanceMethod_spec hin
  obtain ⟨methM', cM, hmethM', -, -, -, -, -, -, hsigM⟩ := Cond.code_spec hnamed hcode
  cases hmethM.symm.trans hmethM'
  obtain ⟨hfc, kB, hkB, -⟩ := hat
  cases hfc.symm.trans hclB
  obtain ⟨ps, dk, kp, hps, hdk, hkp, hsuper, -, -, hnid⟩ := Cond.superclass_spec ho hl3
  have hn0 : s.methodNamed? ⟨y.cls, y.name, y.desc⟩ = some mk := hnamed
  have hpm : ps = mk.cls := Option.some.inj (hps.symm.trans (findClass_of_methodNamed hnamed))
  have hsub : s.vm.isSubclass ps mk.cls = true := by rw [hpm]; simp [Vm.isSubclass, Vm.isSubclassAux]
  obtain ⟨vm₁, X₁, hstep₁⟩ := X.invokespecialUp hx ho hl1 hl2 hn0 hmethM hstM habM hno hdk hnid hps hsuper hsub (a := b) (cell := cellB) (by rw [hT]; exact hcB)
    (fun z h => by rw [h] at hoB; cases hoB) hkB (g := F0 m pc ls (As.reverse ++ .ref b :: rest)) rfl (argsL := As) (rest := rest) (hn.trans (hlen _ hsigM)) rfl (by rw [hb]; exact hdg)
  obtain ⟨o, t, T', L, X', e1, e2, hL, hq, hst, hr, hth⟩ := xt_back X₁ (g := F0 m pc ls rest) rfl (hsize.trans hml.symm) (by rw [hb]; exact hdg) hM (X₁.named hnamed) (fun w hw => hws w hw _ _ X₁.warmed) (hws _ hcw _ _ X₁.warmed)
    (word_at X₁.warmed (Or.inl (by first | rfl | simp [Cond.onTables, Cond.keeps, Cond.steady])) hini) hrc hrs hfr (by show 2 * 0 + (rest.map fun v => v.category).sum + (maxL + 11) + rm.locals ≤ R.locals; omega) hf.1 hf.2 (hbl _ _ _ _ (hPc (T.setVm vm₁) hT X₁.warmed))
  have hal : s.vm.Alike t.vm := by rw [← e2]; exact X'.warmed.alike
  cases o with
  | returned v =>
    obtain ⟨t2, a1, b1⟩ := kr v _ t L (by show T.heap = H; exact hT) hal hL hq T' e1 X'
    have h1 := hr v rfl
    exact ⟨t2, hstep₁ _ (by rw [doInvoke_state]; exact hst.trans (by rw [h1]; exact a1)), b1⟩
  | threw x =>
    obtain ⟨t2, a1, b1⟩ := kx x _ t L (by show T.heap = H; exact hT) hal hL hq T' e1 X'
    have h1 := hth x rfl
    exact ⟨t2, hstep₁ _ (by rw [doInvoke_state]; exact hst.trans (by rw [h1]; exact a1)), b1⟩
theorem xt_callU {owner : String} (S : CallFix p m c cc nL s args Ts own) (hM : xt_Met l y ws rm Pc Qc mc ms free) (cw : rm.cells = mc ∧ rm.slots = ms ∧ rm.frames + 1 ≤ R.frames ∧ 8 + (maxL + 11) + rm.locals ≤ R.locals ∧ (∀ w ∈ ws, ∀ (a' : Array Value) (U : State), s.WarmedH U.vm → w.before a' U = true) ∧ Cond.code y bytes maxL ret ∈ ws) (hcode : (Cond.code y bytes maxL ret).before args s = true) (hini : (Cond.initialized y.cls).before args s = true) (hin : (Cond.instanceMethod y).before args s = true) (hl1 : (Cond.methodLink own index x).before args s = true) (hl2 : (Cond.sameMethod x.cls owner x.name x.desc).before args s = true) (hd0 : va_Decl s ⟨owner, x.name, x.desc⟩) (howner : owner ≠ "java/lang/invoke/MethodHandle" ∧ owner ≠ "java/lang/invoke/VarHandle") (hse : (Cond.selects C x y).before args s = true) (hlen : ∀ sig, parseMethodDescriptor x.desc = some sig → n = sig.parameters.length) (hp : PreV s H C b Pc As)
    (hn : As.length = n) (hsize : ls.size = nL) (hW : (rest.map fun v => v.category).sum ≤ 8) (hdg : decode cc pc = .ok (.invokevirtual index, 3)) (hf : cells + mc ≤ R.cells ∧ slots + ms ≤ R.slots)
    (kr : ∀ (v : Option Value) (st t : State) (L : List Loc), st.heap = H → s.vm.Alike t.vm → (∀ q ∈ L, free q.base) → Qc (Value.ref b :: As).toArray st (.returned v) t → W p l e R s m args below meth c t.heap (locs ++ L) (cells + mc) (slots + ms) Q (F0 m (pc + 3) ls (v.toList ++ rest)))
    (kx : ∀ (x : Addr) (st t : State) (L : List Loc), st.heap = H → s.vm.Alike t.vm → (∀ q ∈ L, free q.base) → Qc (Value.ref b :: As).toArray st (.threw x) t → xt_X p l e R s m args below meth c t.heap (locs ++ L) (cells + mc) (slots + ms) Q (F0 m pc ls rest) x) :
    W p l e R s m args below meth c H locs cells slots Q (F0 m pc ls (As.reverse ++ .ref b :: rest)) := by
  obtain ⟨hrc, hrs, hfr, hlo, hws, hcw⟩ := cw
  obtain ⟨hx, hb, hml, ho, -⟩ := S
  obtain ⟨hbl, ⟨cellB, hcB, hoB, hclB⟩, hPc⟩ := hp
  intro T hT X
  obtain ⟨mk, methM, hnamed, hmethM, hstM, habM⟩ := Cond.instanceMethod_spec hin
  obtain ⟨methM', cM, hmethM', -, -, -, -, -, -, hsigM⟩ := Cond.code_spec hnamed hcode
  cases hmethM.symm.trans hmethM'
  obtain ⟨r0, r, hn0, hrm, hstR, hsigR⟩ := hd0
  obtain ⟨cn, ck, r1, hcn, hck, hni, hf0, hn1⟩ := Cond.sameMethod_found hl2
  cases hn0.symm.trans hn1
  obtain ⟨c2, r2, m2, q1, q2, q3, q4, kP, hkP, hkPi⟩ := Cond.selects_spec hse
  cases hclB.symm.trans q1
  cases hf0.symm.trans q2
  cases hnamed.symm.trans q3
  have hselP : selectMethod e.platform s.vm cellB.cls r0 = .method mk := by rw [Launch.admits_selectMethod X.admits]; exact q4
  obtain ⟨vm₁, X₁, hstep₁⟩ := X.invokevirtualUp hx ho hl1 hl2 howner hn0 hrm hstR (a := b) (cell := cellB) (by rw [hT]; exact hcB)
    (fun z h => by rw [h] at hoB; cases hoB) hselP hmethM habM hkP hkPi (g := F0 m pc ls (As.reverse ++ .ref b :: rest)) rfl (argsL := As) (rest := rest) (hn.trans (hlen _ hsigR)) rfl (by rw [hb]; exact hdg)
  obtain ⟨o, t, T', L, X', e1, e2, hL, hq, hst, hr, hth⟩ := xt_back X₁ (g := F0 m pc ls rest) rfl (hsize.trans hml.symm) (by rw [hb]; exact hdg) hM (X₁.named hnamed) (fun w hw => hws w hw _ _ X₁.warmed) (hws _ hcw _ _ X₁.warmed)
    (word_at X₁.warmed (Or.inl (by first | rfl | simp [Cond.onTables, Cond.keeps, Cond.steady])) hini) hrc hrs hfr (by show 2 * 0 + (rest.map fun v => v.category).sum + (maxL + 11) + rm.locals ≤ R.locals; omega) hf.1 hf.2 (hbl _ _ _ _ (hPc (T.setVm vm₁) hT X₁.warmed))
  have hal : s.vm.Alike t.vm := by rw [← e2]; exact X'.warmed.alike
  cases o with
  | returned v =>
    obtain ⟨t2, a1, b1⟩ := kr v _ t L (by show T.heap = H; exact hT) hal hL hq T' e1 X'
    have h1 := hr v rfl
    exact ⟨t2, hstep₁ _ (fun acts => by rw [doInvoke_state]; exact hst.trans (by rw [h1]; exact a1)), b1⟩
  | threw x =>
    obtain ⟨t2, a1, b1⟩ := kx x _ t L (by show T.heap = H; exact hT) hal hL hq T' e1 X'
    have h1 := hth x rfl
    exact ⟨t2, hstep₁ _ (fun acts => by rw [doInvoke_state]; exact hst.trans (by rw [h1]; exact a1)), b1⟩
theorem xt_callP (S : CallFix p m c cc nL s args Ts own) (hM : xt_Met l y ws rm Pc Qc mc ms free) (cw : rm.cells = mc ∧ rm.slots = ms ∧ rm.frames + 1 ≤ R.frames ∧ 8 + (maxL + 11) + rm.locals ≤ R.locals ∧ (∀ w ∈ ws, ∀ (a' : Array Value) (U : State), s.WarmedH U.vm → w.before a' U = true) ∧ Cond.code y bytes maxL ret ∈ ws) (hcode : (Cond.code y bytes maxL ret).before args s = true) (hini : (Cond.initialized y.cls).before args s = true) (hin : (Cond.instanceMethod y).before args s = true) (hl1 : (Cond.methodLink own index y).before args s = true) (hl2 : (Cond.sameMethod y.cls y.cls y.name y.desc).before args s = true) (hy : y.cls ≠ "java/lang/invoke/MethodHandle" ∧ y.cls ≠ "java/lang/invoke/VarHandle") (hpriv : (Cond.privateMethod y).before args s = true) (hlen : ∀ sig, parseMethodDescriptor y.desc = some sig → n = sig.parameters.length) (hp : PreV s H C b Pc As)
    (hn : As.length = n) (hsize : ls.size = nL) (hW : (rest.map fun v => v.category).sum ≤ 8) (hdg : decode cc pc = .ok (.invokevirtual index, 3)) (hf : cells + mc ≤ R.cells ∧ slots + ms ≤ R.slots)
    (kr : ∀ (v : Option Value) (st t : State) (L : List Loc), st.heap = H → s.vm.Alike t.vm → (∀ q ∈ L, free q.base) → Qc (Value.ref b :: As).toArray st (.returned v) t → W p l e R s m args below meth c t.heap (locs ++ L) (cells + mc) (slots + ms) Q (F0 m (pc + 3) ls (v.toList ++ rest)))
    (kx : ∀ (x : Addr) (st t : State) (L : List Loc), st.heap = H → s.vm.Alike t.vm → (∀ q ∈ L, free q.base) → Qc (Value.ref b :: As).toArray st (.threw x) t → xt_X p l e R s m args below meth c t.heap (locs ++ L) (cells + mc) (slots + ms) Q (F0 m pc ls rest) x) :
    W p l e R s m args below meth c H locs cells slots Q (F0 m pc ls (As.reverse ++ .ref b :: rest)) := by
  obtain ⟨hrc, hrs, hfr, hlo, hws, hcw⟩ := cw
  obtain ⟨hx, hb, hml, ho, -⟩ := S
  obtain ⟨hbl, ⟨cellB, hcB, hoB, hclB⟩, hPc⟩ := hp
  intro T hT X
  obtain ⟨mk, methM, hnamed, hmethM, hstM, habM⟩ := Cond.instanceMethod_spec hin
  obtain ⟨methM', cM, hmethM', -, -, -, -, -, -, hsigM⟩ := Cond.code_spec hnamed hcode
  cases hmethM.symm.trans hmethM'
  obtain ⟨kP, hkP, -⟩ := className_of_methodNamed hnamed
  have hkPi : kP.init = .initialized := Cond.initialized_spec (findClass_of_methodNamed hnamed) hkP hini
  obtain ⟨cn, ck, r1, hcn, hck, hni, -, -⟩ := Cond.sameMethod_found hl2
  have e9 : cn = mk.cls := Option.some.inj (hcn.symm.trans (findClass_of_methodNamed hnamed))
  subst e9
  cases hck.symm.trans hkP
  have hselP : selectMethod e.platform s.vm cellB.cls mk = .method mk := selectMethod_private hmethM (Cond.privateMethod_at hpriv mk methM hnamed hmethM)
  obtain ⟨vm₁, X₁, hstep₁⟩ := X.invokevirtual hx ho hl1 hnamed hmethM hstM hkP hni hy (a := b) (cell := cellB) (by rw [hT]; exact hcB)
    (fun z h => by rw [h] at hoB; cases hoB) hselP hmethM habM hkP hni (g := F0 m pc ls (As.reverse ++ .ref b :: rest)) rfl (argsL := As) (rest := rest) (hn.trans (hlen _ hsigM)) rfl (by rw [hb]; exact hdg)
  obtain ⟨o, t, T', L, X', e1, e2, hL, hq, hst, hr, hth⟩ := xt_back X₁ (g := F0 m pc ls rest) rfl (hsize.trans hml.symm) (by rw [hb]; exact hdg) hM (X₁.named hnamed) (fun w hw => hws w hw _ _ X₁.warmed) (hws _ hcw _ _ X₁.warmed)
    (word_at X₁.warmed (Or.inl (by first | rfl | simp [Cond.onTables, Cond.keeps, Cond.steady])) hini) hrc hrs hfr (by show 2 * 0 + (rest.map fun v => v.category).sum + (maxL + 11) + rm.locals ≤ R.locals; omega) hf.1 hf.2 (hbl _ _ _ _ (hPc (T.setVm vm₁) hT X₁.warmed))
  have hal : s.vm.Alike t.vm := by rw [← e2]; exact X'.warmed.alike
  cases o with
  | returned v =>
    obtain ⟨t2, a1, b1⟩ := kr v _ t L (by show T.heap = H; exact hT) hal hL hq T' e1 X'
    have h1 := hr v rfl
    exact ⟨t2, hstep₁ _ (fun acts => by rw [doInvoke_state]; exact hst.trans (by rw [h1]; exact a1)), b1⟩
  | threw x =>
    obtain ⟨t2, a1, b1⟩ := kx x _ t L (by show T.heap = H; exact hT) hal hL hq T' e1 X'
    have h1 := hth x rfl
    exact ⟨t2, hstep₁ _ (fun acts => by rw [doInvoke_state]; exact hst.trans (by rw [h1]; exact a1)), b1⟩
end XU
section GU
variable {p : Program} {l : Launch} {e : Env} {R : Room} {s : State} {m : MethodId} {args : Array Value} {below : List Frame} {meth : Method} {c : Code} {cc : ByteArray} {own : String} {nL : Nat} {ret : Option FieldType} {D : va_G} {z0 : Nat} {E : State → Prop} {Qp : Outcome → hp → Prop} {mc ms pc : Nat} {lv lv' : List (Nat × Value)} {st rest : List Value} {h : hp} {rc rs : Nat}
theorem len_of {d : String} {n : Nat} (h : (parseMethodDescriptor d).map (fun d => d.parameters.length) = some n) : ∀ sig, parseMethodDescriptor d = some sig → n = sig.parameters.length := by
  intro sig h2
  rw [h2] at h
  exact (Option.some.inj h).symm
theorem g_callSU (C : Cx p R s m args meth c cc own nL ret D z0 E mc ms) {idx n maxL' : Nat} {y : MethodName} {cc' : ByteArray} {ret' : Option FieldType} {rm' : Room} {pre : List Value → hp → Prop} {post : List Value → hp → Outcome → hp → Prop} {As : List Value} {a : Nat} {C0 : String} (hc : Ctr l y cc' maxL' ret' rm' D z0 E pre post) (hd : decode cc pc = .ok (.invokespecial idx, 3)) (w2 : Cond.instanceMethod y ∈ lw_g) (w4 : Cond.initialized y.cls ∈ lw_g) (w5 : Cond.code y cc' maxL' ret' ∈ lw_g) (w1 : Cond.methodLink own idx y ∈ lw_g) (w6 : Cond.sameMethod y.cls y.cls y.name y.desc ∈ lw_g) (w7 : Cond.superclass own y.cls ∈ lw_g) (hy : y.name ≠ "<init>") (hpn : (parseMethodDescriptor y.desc).map (fun d => d.parameters.length) = some n) (hn : As.length = n) {ci N : Nat} {T : u_T} {fs : List Value} (hci : CL[ci]? = some (C0, T, N)) (ha : a ∈ h.1) (hF : h.2 a = .inr (ci, fs)) (hpre : pre (.ref a :: As) h) (hR : rm'.frames + 1 ≤ R.frames ∧ 8 + (maxL' + 11) + rm'.locals ≤ R.locals) (hW : (rest.map fun v => v.category).sum ≤ 8) (hcost : rm'.cells ≤ rc ∧ rm'.slots ≤ rs)
    (kr : ∀ (v : Option Value) (h' : hp), post (.ref a :: As) h (.returned v) h' → G p l e R s m args below meth c nL D z0 E Qp mc ms (pc + 3) lv (v.toList ++ rest) h' (rc - rm'.cells) (rs - rm'.slots)) (kx : ∀ (x : Addr) (h' : hp), post (.ref a :: As) h (.threw x) h' → Qp (.threw x) h') : G p l e R s m args below meth c nL D z0 E Qp mc ms pc lv (As.reverse ++ .ref a :: rest) h rc rs := by
  intro ls H locs cells slots h1 h2 h3 h4 h5
  have hb9 : FrameBlind (fun a9 U => a9 = (.ref a :: As).toArray ∧ World z0 D E h U) := fun a9 U g mk q => ⟨q.1, World.blind C.2.2.2.2.2.2.2.2.2.1 q.2⟩
  have hw9 : ∀ U : State, U.heap = H → s.WarmedH U.vm → World z0 D E h U := fun U hU hWm => (C.world h2 h3 U hU hWm).1
  have hr9 := rc_of C h2 hci ha hF
  have cw9 : rm'.cells = rm'.cells ∧ rm'.slots = rm'.slots ∧ rm'.frames + 1 ≤ R.frames ∧ 8 + (maxL' + 11) + rm'.locals ≤ R.locals ∧ (∀ w ∈ (Cond.code y cc' maxL' ret' :: lw_g), ∀ (a' : Array Value) (U : State), s.WarmedH U.vm → w.before a' U = true) ∧ Cond.code y cc' maxL' ret' ∈ (Cond.code y cc' maxL' ret' :: lw_g) := ⟨rfl, rfl, hR.1, hR.2, pay_in C.2.2.2.2.1 (goodC w5), List.mem_cons_self⟩
  refine xt_callSU (C := C0) (As := As) (rest := rest) (bytes := cc') (maxL := maxL') (ret := ret') ⟨C.1, C.2.1, C.2.2.1, C.2.2.2.1, C.2.2.2.2.1⟩ (hc (.ref a :: As) h hpre) cw9 (C.2.2.2.2.1 _ w5) (C.2.2.2.2.1 _ w4) (C.2.2.2.2.1 _ w2) (C.2.2.2.2.2.1.1 ci _ hci).2 (C.2.2.2.2.1 _ w1) (C.2.2.2.2.1 _ w6) (C.2.2.2.2.1 _ w7) hy (len_of hpn) ⟨hb9, hr9, fun U hU hWm => ⟨rfl, hw9 U hU hWm⟩⟩ hn h1.1 hW hd ⟨by have := C.2.2.2.2.2.2.2.2.2.2.2.2.1; omega, by have := C.2.2.2.2.2.2.2.2.2.2.2.2.2; omega⟩ ?_ ?_
  · intro v st t L hst hal hL hq
    obtain ⟨h', hp', ⟨w1', -, -, -⟩, hF'⟩ := hq
    exact kr v h' hp' ls t.heap (locs ++ L) _ _ h1 w1' (va_S.call C.2.2.2.2.2.2.2.1 h3 hst hL hF') (by omega) (by omega)
  · intro x st t L hst hal hL hq
    obtain ⟨h', hp', ⟨w1', -, -, -⟩, hF'⟩ := hq
    have hS' := va_S.call C.2.2.2.2.2.2.2.1 h3 hst hL hF'
    refine xt_Xwiden (k := mc) (n := ms) (by omega) (by omega) ?_
    refine xt_out rfl rfl rfl (fun z hz => absurd (C.2.2.2.2.2.2.2.2.2.2.2.1 z hz) id) C.2.2.2.2.2.2.1 (fun t' ht' hW' => ?_) hS'.2.2
    obtain ⟨u1, u2⟩ := C.world w1' hS' t' ht' hW'
    exact ⟨h', kx x h' hp', u1, u2⟩
theorem g_callU (C : Cx p R s m args meth c cc own nL ret D z0 E mc ms) {idx n maxL' : Nat} {y : MethodName} {cc' : ByteArray} {ret' : Option FieldType} {rm' : Room} {pre : List Value → hp → Prop} {post : List Value → hp → Outcome → hp → Prop} {As : List Value} {a : Nat} {C0 : String} (hc : Ctr l y cc' maxL' ret' rm' D z0 E pre post) (hd : decode cc pc = .ok (.invokevirtual idx, 3)) (w2 : Cond.instanceMethod y ∈ lw_g) (w4 : Cond.initialized y.cls ∈ lw_g) (w5 : Cond.code y cc' maxL' ret' ∈ lw_g) {x : MethodName} {owner : String} {b0 : ByteArray} {m0 : Nat} {r0 : Option FieldType} (w1 : Cond.methodLink own idx x ∈ lw_g) (w6 : Cond.sameMethod x.cls owner x.name x.desc ∈ lw_g) (w7 : Cond.instanceMethod ⟨owner, x.name, x.desc⟩ ∈ lw_g) (w8 : Cond.code ⟨owner, x.name, x.desc⟩ b0 m0 r0 ∈ lw_g) (w3 : Cond.selects C0 x y ∈ lw_g) (hy : owner ≠ "java/lang/invoke/MethodHandle" ∧ owner ≠ "java/lang/invoke/VarHandle") (hpn : (parseMethodDescriptor x.desc).map (fun d => d.parameters.length) = some n) (hn : As.length = n) {ci N : Nat} {T : u_T} {fs : List Value} (hci : CL[ci]? = some (C0, T, N)) (ha : a ∈ h.1) (hF : h.2 a = .inr (ci, fs)) (hpre : pre (.ref a :: As) h) (hR : rm'.frames + 1 ≤ R.frames ∧ 8 + (maxL' + 11) + rm'.locals ≤ R.locals) (hW : (rest.map fun v => v.category).sum ≤ 8) (hcost : rm'.cells ≤ rc ∧ rm'.slots ≤ rs)
    (kr : ∀ (v : Option Value) (h' : hp), post (.ref a :: As) h (.returned v) h' → G p l e R s m args below meth c nL D z0 E Qp mc ms (pc + 3) lv (v.toList ++ rest) h' (rc - rm'.cells) (rs - rm'.slots)) (kx : ∀ (x : Addr) (h' : hp), post (.ref a :: As) h (.threw x) h' → Qp (.threw x) h') : G p l e R s m args below meth c nL D z0 E Qp mc ms pc lv (As.reverse ++ .ref a :: rest) h rc rs := by
  intro ls H locs cells slots h1 h2 h3 h4 h5
  have hb9 : FrameBlind (fun a9 U => a9 = (.ref a :: As).toArray ∧ World z0 D E h U) := fun a9 U g mk q => ⟨q.1, World.blind C.2.2.2.2.2.2.2.2.2.1 q.2⟩
  have hw9 : ∀ U : State, U.heap = H → s.WarmedH U.vm → World z0 D E h U := fun U hU hWm => (C.world h2 h3 U hU hWm).1
  have hr9 := rc_of C h2 hci ha hF
  have cw9 : rm'.cells = rm'.cells ∧ rm'.slots = rm'.slots ∧ rm'.frames + 1 ≤ R.frames ∧ 8 + (maxL' + 11) + rm'.locals ≤ R.locals ∧ (∀ w ∈ (Cond.code y cc' maxL' ret' :: lw_g), ∀ (a' : Array Value) (U : State), s.WarmedH U.vm → w.before a' U = true) ∧ Cond.code y cc' maxL' ret' ∈ (Cond.code y cc' maxL' ret' :: lw_g) := ⟨rfl, rfl, hR.1, hR.2, pay_in C.2.2.2.2.1 (goodC w5), List.mem_cons_self⟩
  refine xt_callU (C := C0) (As := As) (rest := rest) (bytes := cc') (maxL := maxL') (ret := ret') ⟨C.1, C.2.1, C.2.2.1, C.2.2.2.1, C.2.2.2.2.1⟩ (hc (.ref a :: As) h hpre) cw9 (C.2.2.2.2.1 _ w5) (C.2.2.2.2.1 _ w4) (C.2.2.2.2.1 _ w2) (C.2.2.2.2.1 _ w1) (C.2.2.2.2.1 _ w6) (va_Decl.of (C.2.2.2.2.1 _ w7) (C.2.2.2.2.1 _ w8)) hy (C.2.2.2.2.1 _ w3) (len_of hpn) ⟨hb9, hr9, fun U hU hWm => ⟨rfl, hw9 U hU hWm⟩⟩ hn h1.1 hW hd ⟨by have := C.2.2.2.2.2.2.2.2.2.2.2.2.1; omega, by have := C.2.2.2.2.2.2.2.2.2.2.2.2.2; omega⟩ ?_ ?_
  · intro v st t L hst hal hL hq
    obtain ⟨h', hp', ⟨w1', -, -, -⟩, hF'⟩ := hq
    exact kr v h' hp' ls t.heap (locs ++ L) _ _ h1 w1' (va_S.call C.2.2.2.2.2.2.2.1 h3 hst hL hF') (by omega) (by omega)
  · intro x st t L hst hal hL hq
    obtain ⟨h', hp', ⟨w1', -, -, -⟩, hF'⟩ := hq
    have hS' := va_S.call C.2.2.2.2.2.2.2.1 h3 hst hL hF'
    refine xt_Xwiden (k := mc) (n := ms) (by omega) (by omega) ?_
    refine xt_out rfl rfl rfl (fun z hz => absurd (C.2.2.2.2.2.2.2.2.2.2.2.1 z hz) id) C.2.2.2.2.2.2.1 (fun t' ht' hW' => ?_) hS'.2.2
    obtain ⟨u1, u2⟩ := C.world w1' hS' t' ht' hW'
    exact ⟨h', kx x h' hp', u1, u2⟩
theorem g_callP (C : Cx p R s m args meth c cc own nL ret D z0 E mc ms) {idx n maxL' : Nat} {y : MethodName} {cc' : ByteArray} {ret' : Option FieldType} {rm' : Room} {pre : List Value → hp → Prop} {post : List Value → hp → Outcome → hp → Prop} {As : List Value} {a : Nat} {C0 : String} (hc : Ctr l y cc' maxL' ret' rm' D z0 E pre post) (hd : decode cc pc = .ok (.invokevirtual idx, 3)) (w2 : Cond.instanceMethod y ∈ lw_g) (w4 : Cond.initialized y.cls ∈ lw_g) (w5 : Cond.code y cc' maxL' ret' ∈ lw_g) (w1 : Cond.methodLink own idx y ∈ lw_g) (w6 : Cond.sameMethod y.cls y.cls y.name y.desc ∈ lw_g) (hy : y.cls ≠ "java/lang/invoke/MethodHandle" ∧ y.cls ≠ "java/lang/invoke/VarHandle") (hpriv : va_Nw (.privateMethod y) s) (hpn : (parseMethodDescriptor y.desc).map (fun d => d.parameters.length) = some n) (hn : As.length = n) {ci N : Nat} {T : u_T} {fs : List Value} (hci : CL[ci]? = some (C0, T, N)) (ha : a ∈ h.1) (hF : h.2 a = .inr (ci, fs)) (hpre : pre (.ref a :: As) h) (hR : rm'.frames + 1 ≤ R.frames ∧ 8 + (maxL' + 11) + rm'.locals ≤ R.locals) (hW : (rest.map fun v => v.category).sum ≤ 8) (hcost : rm'.cells ≤ rc ∧ rm'.slots ≤ rs)
    (kr : ∀ (v : Option Value) (h' : hp), post (.ref a :: As) h (.returned v) h' → G p l e R s m args below meth c nL D z0 E Qp mc ms (pc + 3) lv (v.toList ++ rest) h' (rc - rm'.cells) (rs - rm'.slots)) (kx : ∀ (x : Addr) (h' : hp), post (.ref a :: As) h (.threw x) h' → Qp (.threw x) h') : G p l e R s m args below meth c nL D z0 E Qp mc ms pc lv (As.reverse ++ .ref a :: rest) h rc rs := by
  intro ls H locs cells slots h1 h2 h3 h4 h5
  have hb9 : FrameBlind (fun a9 U => a9 = (.ref a :: As).toArray ∧ World z0 D E h U) := fun a9 U g mk q => ⟨q.1, World.blind C.2.2.2.2.2.2.2.2.2.1 q.2⟩
  have hw9 : ∀ U : State, U.heap = H → s.WarmedH U.vm → World z0 D E h U := fun U hU hWm => (C.world h2 h3 U hU hWm).1
  have hr9 := rc_of C h2 hci ha hF
  have cw9 : rm'.cells = rm'.cells ∧ rm'.slots = rm'.slots ∧ rm'.frames + 1 ≤ R.frames ∧ 8 + (maxL' + 11) + rm'.locals ≤ R.locals ∧ (∀ w ∈ (Cond.code y cc' maxL' ret' :: lw_g), ∀ (a' : Array Value) (U : State), s.WarmedH U.vm → w.before a' U = true) ∧ Cond.code y cc' maxL' ret' ∈ (Cond.code y cc' maxL' ret' :: lw_g) := ⟨rfl, rfl, hR.1, hR.2, pay_in C.2.2.2.2.1 (goodC w5), List.mem_cons_self⟩
  refine xt_callP (C := C0) (As := As) (rest := rest) (bytes := cc') (maxL := maxL') (ret := ret') ⟨C.1, C.2.1, C.2.2.1, C.2.2.2.1, C.2.2.2.2.1⟩ (hc (.ref a :: As) h hpre) cw9 (C.2.2.2.2.1 _ w5) (C.2.2.2.2.1 _ w4) (C.2.2.2.2.1 _ w2) (C.2.2.2.2.1 _ w1) (C.2.2.2.2.1 _ w6) hy (va_Nw.use rfl hpriv) (len_of hpn) ⟨hb9, hr9, fun U hU hWm => ⟨rfl, hw9 U hU hWm⟩⟩ hn h1.1 hW hd ⟨by have := C.2.2.2.2.2.2.2.2.2.2.2.2.1; omega, by have := C.2.2.2.2.2.2.2.2.2.2.2.2.2; omega⟩ ?_ ?_
  · intro v st t L hst hal hL hq
    obtain ⟨h', hp', ⟨w1', -, -, -⟩, hF'⟩ := hq
    exact kr v h' hp' ls t.heap (locs ++ L) _ _ h1 w1' (va_S.call C.2.2.2.2.2.2.2.1 h3 hst hL hF') (by omega) (by omega)
  · intro x st t L hst hal hL hq
    obtain ⟨h', hp', ⟨w1', -, -, -⟩, hF'⟩ := hq
    have hS' := va_S.call C.2.2.2.2.2.2.2.1 h3 hst hL hF'
    refine xt_Xwiden (k := mc) (n := ms) (by omega) (by omega) ?_
    refine xt_out rfl rfl rfl (fun z hz => absurd (C.2.2.2.2.2.2.2.2.2.2.2.1 z hz) id) C.2.2.2.2.2.2.1 (fun t' ht' hW' => ?_) hS'.2.2
    obtain ⟨u1, u2⟩ := C.world w1' hS' t' ht' hW'
    exact ⟨h', kx x h' hp', u1, u2⟩
theorem g_getC (C : Cx p R s m args meth c cc own nL ret D z0 E mc ms) {idx a n mi : Nat} {f : Nat → Option Nat} (hd : decode cc pc = .ok (.invokevirtual idx, 3)) (w1 : Cond.methodLink own idx ⟨"java/lang/Object", "getClass", "()Ljava/lang/Class;"⟩ ∈ lw_g) (w2 : Cond.selects "[Ljava/lang/Object;" ⟨"java/lang/Object", "getClass", "()Ljava/lang/Class;"⟩ ⟨"java/lang/Object", "getClass", "()Ljava/lang/Class;"⟩ ∈ lw_g) (w3 : Cond.instanceMethod ⟨"java/lang/Object", "getClass", "()Ljava/lang/Class;"⟩ ∈ lw_g) (w4 : Cond.native ⟨"java/lang/Object", "getClass", "()Ljava/lang/Class;"⟩ ∈ lw_g) (hDc : va_Dc s) (hM : va_Mi "[Ljava/lang/Object;" mi s) (ha : a ∈ h.1) (hF : h.2 a = .inl (D.1 105, n, .inr (.inr (.inr (.inr f))))) (hR : 1 ≤ R.frames ∧ 60 ≤ R.locals) (hW : (rest.map fun v => v.category).sum ≤ 8) (kk : G p l e R s m args below meth c nL D z0 E Qp mc ms (pc + 3) lv (.ref mi :: rest) h rc rs) : G p l e R s m args below meth c nL D z0 E Qp mc ms pc lv (.ref a :: rest) h rc rs := by
  intro ls H locs cells slots h1 h2 h3 h4 h5
  obtain ⟨q0, hq0⟩ := pl_at ha
  rw [hF] at hq0
  have hz : va_at D CL (a, .inl (D.1 105, n, .inr (.inr (.inr (.inr f))))) H := h2.1 q0 _ hq0
  have hnm : s.vm.findClass "[Ljava/lang/Object;" = some (D.1 105) := va_nmO (C.tyq 5 (q := (D.1 105, .object "java/lang/Object")) rfl) (by decide)
  exact va_getC C.1 C.2.1 (C.2.2.1.trans h1.1.symm) C.2.2.2.1 (C.2.2.2.2.1 _ w1) hDc.use (C.2.2.2.2.1 _ w2) (C.2.2.2.2.1 _ w3) (C.2.2.2.2.1 _ w4) hM ⟨_, hz, rfl, hnm⟩ hR.1 (by omega) hd (kk ls H locs cells slots h1 h2 h3 h4 h5)
theorem g_lookup (C : Cx p R s m args meth c cc own nL ret D z0 E mc ms) {dflt : Int} {ps : Array (Int × Int)} {len : Nat} {x : Int32} {off : Int} {tgt : Nat} (hd : decode cc pc = .ok (.lookupswitch dflt ps, len)) (hp : (ps.toList.zip (ps.toList.drop 1)).all (fun (a, next) => a.1 < next.1) = true) (ho : Op.lookupswitch.offset ps.toList dflt x.toInt = off) (ht : (pc : Int) + off = (tgt : Int)) (kk : G p l e R s m args below meth c nL D z0 E Qp mc ms tgt lv rest h rc rs) : G p l e R s m args below meth c nL D z0 E Qp mc ms pc lv (.int x :: rest) h rc rs := fun ls H locs cells slots h1 h2 h3 h4 h5 => lv_lookup C.1 C.2.1 hd hp ho ht (kk ls H locs cells slots h1 h2 h3 h4 h5)
theorem g_tableOut (C : Cx p R s m args meth c cc own nL ret D z0 E mc ms) {dflt lo hi : Int} {offs : Array Int} {len : Nat} {x : Int32} {tgt : Nat} (hd : decode cc pc = .ok (.tableswitch dflt lo hi offs, len)) (hx : x.toInt < lo ∨ hi < x.toInt) (ht : (pc : Int) + dflt = (tgt : Int)) (kk : G p l e R s m args below meth c nL D z0 E Qp mc ms tgt lv rest h rc rs) : G p l e R s m args below meth c nL D z0 E Qp mc ms pc lv (.int x :: rest) h rc rs := fun ls H locs cells slots h1 h2 h3 h4 h5 => lv_tableOut C.1 C.2.1 hd hx ht (kk ls H locs cells slots h1 h2 h3 h4 h5)
theorem g_tableIn (C : Cx p R s m args meth c cc own nL ret D z0 E mc ms) {dflt lo hi : Int} {offs : Array Int} {len : Nat} {x : Int32} {off : Int} {tgt : Nat} (hd : decode cc pc = .ok (.tableswitch dflt lo hi offs, len)) (hx1 : ¬ x.toInt < lo) (hx2 : ¬ hi < x.toInt) (ho : offs[(x.toInt - lo).toNat]? = some off) (ht : (pc : Int) + off = (tgt : Int)) (kk : G p l e R s m args below meth c nL D z0 E Qp mc ms tgt lv rest h rc rs) : G p l e R s m args below meth c nL D z0 E Qp mc ms pc lv (.int x :: rest) h rc rs := fun ls H locs cells slots h1 h2 h3 h4 h5 => lv_tableIn C.1 C.2.1 hd hx1 hx2 ho ht (kk ls H locs cells slots h1 h2 h3 h4 h5)
end GU
