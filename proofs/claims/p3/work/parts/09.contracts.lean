/-! Contracts over the pool; calls; fields and arrays of the pool. -/
def Ctr (l : Launch) (y : MethodName) (cc : ByteArray) (maxL : Nat) (ret : Option FieldType) (rm : Room) (D : va_G) (z0 : Nat) (E : State → Prop) (pre : List Value → hp → Prop) (post : List Value → hp → Outcome → hp → Prop) : Prop :=
  ∀ (as : List Value) (h : hp), pre as h → xt_Met l y (Cond.code y cc maxL ret :: lw_g) rm (fun a U => a = as.toArray ∧ World z0 D E h U) (QcO z0 D E (post as h)) rm.cells rm.slots (AA z0)
theorem ctr_of {l : Launch} {y : MethodName} {cc : ByteArray} {maxL : Nat} {ret : Option FieldType} {rm : Room} {D : va_G} {z0 : Nat} {E : State → Prop} {pre : List Value → hp → Prop} {post : List Value → hp → Outcome → hp → Prop} (hSt : Stb z0 E) (hy : plainName y.cls = true) (hsz : ∀ as h, pre as h → (lg_sl as).length ≤ maxL)
    (body : ∀ (as : List Value) (h : hp), pre as h → ∀ (p : Program) (e : Env) (s : State) (m : MethodId) (args : Array Value) (below : List Frame) (meth : Method) (c : Code), Cx p rm s m args meth c cc y.cls maxL ret D z0 E rm.cells rm.slots →
      G p l e rm s m args below meth c maxL D z0 E (post as h) rm.cells rm.slots 0 (lv_args 0 as) [] h rm.cells rm.slots) : Ctr l y cc maxL ret rm D z0 E pre post := by
  intro as h hpre
  refine xt_ofW (cc := cc) (maxL := maxL) (ret := ret) hy rfl ?_
  intro p e s m args below meth c s₁ B hml hv
  obtain ⟨rfl, hW⟩ := hv
  have hts := atoms_spec (ws := Cond.code y cc maxL ret :: lw_g) B.pre
  have hno := BodyLoose.noHandlers B (hts _ List.mem_cons_self)
  have hno2 : ∀ z ∈ c.exceptionTable.toList, False := by
    intro z hz
    have h0 : c.exceptionTable = #[] := Array.isEmpty_iff.mp hno
    rw [h0] at hz
    cases hz
  have cx : Cx p rm s m as.toArray meth c cc y.cls maxL ret D z0 E rm.cells rm.slots :=
    ⟨B.exec, B.bytes, hml, findClass_of_methodNamed B.named, fun w h => hts w (List.mem_cons_of_mem _ h), hW.2.1, B.notSynchronized, hW.2.2.1, hW.2.2.2, hSt, B.returns, hno2, rfl, rfl⟩
  rw [lg_entry_eq]
  exact body as h hpre p e s m as.toArray below meth c cx _ s.heap [] 0 0 (lv_entry as (hsz as h hpre)) hW.1 va_S.rf (by omega) (by omega)
theorem pl_at {h : hp} {a : Nat} (ha : a ∈ h.1) : ∃ k : Nat, (va_pl h.1 h.2)[k]? = some (a, h.2 a) := by
  obtain ⟨k, hk⟩ := va_pl_get (X := []) (f := h.2) ha
  exact ⟨k, hk⟩
theorem pl_set {A : Nat → Prop} {h : hp} {a k : Nat} {e : va_E} (hD : va_D A (va_pl h.1 h.2)) (ha : a ∈ h.1) (hk : (va_pl h.1 h.2)[k]? = some (a, h.2 a)) : (va_pl h.1 h.2).set k (a, e) = va_pl h.1 (va_up h.2 a e) := va_pl_set (X := []) hD ha hk
theorem goodV {own : String} {idx : Nat} {y : MethodName} {cc : ByteArray} {maxL : Nat} {ret : Option FieldType} (w1 : Cond.methodLink own idx y ∈ lw_g) (w2 : Cond.instanceMethod y ∈ lw_g) (w3 : Cond.selects y.cls y y ∈ lw_g) (w4 : Cond.initialized y.cls ∈ lw_g) (w5 : Cond.code y cc maxL ret ∈ lw_g) : GoodIn lw_g (wsV own idx y.cls y (Cond.code y cc maxL ret :: lw_g)) := by
  intro w hw
  have hm : w ∈ lw_g := by
    simp only [wsV, List.mem_append, List.mem_cons, List.not_mem_nil, or_false] at hw
    rcases hw with (rfl | rfl | rfl | rfl) | (rfl | hw)
    · exact w1
    · exact w2
    · exact w3
    · exact w4
    · exact w5
    · exact hw
  exact ⟨hm, lw_g_good w hm⟩
theorem goodC {y : MethodName} {cc : ByteArray} {maxL : Nat} {ret : Option FieldType} (w5 : Cond.code y cc maxL ret ∈ lw_g) : GoodIn lw_g (Cond.code y cc maxL ret :: lw_g) := by
  intro w hw
  have hm : w ∈ lw_g := by
    rcases List.mem_cons.mp hw with rfl | hw
    · exact w5
    · exact hw
  exact ⟨hm, lw_g_good w hm⟩
section XS
variable {p : Program} {l : Launch} {e : Env} {R : Room} {s : State} {m : MethodId} {args : Array Value} {below : List Frame} {meth : Method} {c : Code} {H : Heap} {locs : List Loc} {cells slots : Nat} {Q : State → Prop}
variable {y : MethodName} {bytes cc : ByteArray} {maxL nL mc ms n index : Nat} {ret : Option FieldType} {ws : List Cond} {rm : Room} {Pc : Array Value → State → Prop} {Qc : Array Value → State → Outcome → State → Prop} {free : Addr → Prop} {Ts : List Cond} {own C : String} {b : Addr} {As rest : List Value} {pc : Nat} {ls : Array Slot}
theorem xt_Xwiden {g : JFrame} {x : Addr} {k n : Nat} (h1 : cells ≤ k) (h2 : slots ≤ n) (kk : xt_X p l e R s m args below meth c H locs k n Q g x) : xt_X p l e R s m args below meth c H locs cells slots Q g x := fun T hT X => kk T hT (stand_widen X h1 h2)
theorem xt_callS (S : CallFix p m c cc nL s args Ts own) (hM : xt_Met l y ws rm Pc Qc mc ms free) (cw : CallB R s args own index y bytes maxL ret ws rm mc ms n ∧ (Cond.static y).before args s = true) (hp : PreS s H Pc As)
    (hn : As.length = n) (hsize : ls.size = nL) (hW : (rest.map fun v => v.category).sum ≤ 8) (hdg : decode cc pc = .ok (.invokestatic index, 3)) (hf : cells + mc ≤ R.cells ∧ slots + ms ≤ R.slots)
    (kr : ∀ (v : Option Value) (st t : State) (L : List Loc), st.heap = H → s.vm.Alike t.vm → (∀ q ∈ L, free q.base) → Qc As.toArray st (.returned v) t → W p l e R s m args below meth c t.heap (locs ++ L) (cells + mc) (slots + ms) Q (F0 m (pc + 3) ls (v.toList ++ rest)))
    (kx : ∀ (x : Addr) (st t : State) (L : List Loc), st.heap = H → s.vm.Alike t.vm → (∀ q ∈ L, free q.base) → Qc As.toArray st (.threw x) t → xt_X p l e R s m args below meth c t.heap (locs ++ L) (cells + mc) (slots + ms) Q (F0 m pc ls rest) x) :
    W p l e R s m args below meth c H locs cells slots Q (F0 m pc ls (As.reverse ++ rest)) := by
  obtain ⟨⟨hrc, hrs, hfr, hlo, hws, hcw, hcode, hini, hy, hlen, hl⟩, hst0⟩ := cw
  obtain ⟨hx, hb, hml, ho, -⟩ := S
  obtain ⟨hbl, hPc⟩ := hp
  intro T hT X
  obtain ⟨mk, hnamed⟩ := Cond.code_named hcode
  obtain ⟨methM, cM, hmethM, -, -, -, -, -, -, hsigM⟩ := Cond.code_spec hnamed hcode
  have hstatic : methM.isStatic = true := Cond.static_spec hnamed hmethM hst0
  obtain ⟨kP, hkP, -⟩ := className_of_methodNamed hnamed
  have hinitP : kP.init = .initialized := Cond.initialized_spec (findClass_of_methodNamed hnamed) hkP hini
  obtain ⟨vm₁, X₁, hstep₁⟩ := X.invokestatic hx ho hl hnamed hmethM hstatic hkP hinitP hy (g := F0 m pc ls (As.reverse ++ rest)) rfl (argsL := As) (rest := rest) (hn.trans (hlen _ hsigM)) rfl (by rw [hb]; exact hdg)
  obtain ⟨o, t, T', L, X', e1, e2, hL, hq, hst, hr, hth⟩ := xt_back X₁ (g := F0 m pc ls rest) rfl (hsize.trans hml.symm) (by rw [hb]; exact hdg) hM (X₁.named hnamed) (fun w hw => hws w hw _ _ X₁.warmed) (hws _ hcw _ _ X₁.warmed)
    (word_at X₁.warmed (Or.inl (by first | rfl | simp [Cond.onTables, Cond.keeps, Cond.steady])) hini) hrc hrs hfr (by show 2 * 0 + (rest.map fun v => v.category).sum + (maxL + 11) + rm.locals ≤ R.locals; omega) hf.1 hf.2 (hbl _ _ _ _ (hPc (T.setVm vm₁) hT X₁.warmed))
  have hal : s.vm.Alike t.vm := by rw [← e2]; exact X'.warmed.alike
  cases o with
  | returned v =>
    obtain ⟨t2, a1, b1⟩ := kr v _ t L (by show T.heap = H; exact hT) hal hL hq T' e1 X'
    have h1 := hr v rfl
    exact ⟨t2, hstep₁ _ (fun acts => by rw [doInvoke_state]; exact hst.trans (by rw [h1]; exact a1)), b1⟩
  | threw x =>
    obtain ⟨t2, a1, b1⟩ := kx x _ t L (by show T.heap = H; exact hT) hal hL hq T' e1 X'
    have h1 := hth x rfl
    exact ⟨t2, hstep₁ _ (fun acts => by rw [doInvoke_state]; exact hst.trans (by rw [h1]; exact a1)), b1⟩
theorem xt_callI (S : CallFix p m c cc nL s args Ts own) (hM : xt_Met l y ws rm Pc Qc mc ms free) (cw : CallB R s args own index y bytes maxL none ws rm mc ms n ∧ y.name = "<init>" ∧ (Cond.instanceMethod y).before args s = true) (hp : PreS s H Pc (.ref b :: As))
    (hn : As.length = n) (hsize : ls.size = nL) (hW : (rest.map fun v => v.category).sum ≤ 8) (hdg : decode cc pc = .ok (.invokespecial index, 3)) (hf : cells + mc ≤ R.cells ∧ slots + ms ≤ R.slots)
    (kr : ∀ (v : Option Value) (st t : State) (L : List Loc), st.heap = H → s.vm.Alike t.vm → (∀ q ∈ L, free q.base) → Qc (Value.ref b :: As).toArray st (.returned v) t → W p l e R s m args below meth c t.heap (locs ++ L) (cells + mc) (slots + ms) Q (F0 m (pc + 3) ls (v.toList ++ rest)))
    (kx : ∀ (x : Addr) (st t : State) (L : List Loc), st.heap = H → s.vm.Alike t.vm → (∀ q ∈ L, free q.base) → Qc (Value.ref b :: As).toArray st (.threw x) t → xt_X p l e R s m args below meth c t.heap (locs ++ L) (cells + mc) (slots + ms) Q (F0 m pc ls rest) x) :
    W p l e R s m args below meth c H locs cells slots Q (F0 m pc ls (As.reverse ++ .ref b :: rest)) := by
  obtain ⟨⟨hrc, hrs, hfr, hlo, hws, hcw, hcode, hini, hy, hlen, hl⟩, hy1, hin⟩ := cw
  obtain ⟨hx, hb, hml, ho, -⟩ := S
  obtain ⟨hbl, hPc⟩ := hp
  intro T hT X
  have hpl : e.platform.magicAccessors = ({} : Platform).magicAccessors := by rw [X.admits.platform]
  obtain ⟨mk, methM, cM, kP, vm₁, hnamed, hmethM, hcodeM, -, hlocalsM, -, hkP, -, hW₁, hstep₁⟩ := Steps.initColdArgs (e := e) X.here hx X.warmed hpl ho hy1 hy hl hin hcode (f := F0 m pc ls (As.reverse ++ .ref b :: rest)) rfl (argsL := As) (rest := rest) (fun sig h => hn.trans (hlen sig h)) rfl (by rw [hb]; exact hdg)
  have X₁ := X.noted hW₁
  obtain ⟨o, t, T', L, X', e1, e2, hL, hq, hst, hr, hth⟩ := xt_back X₁ (g := F0 m pc ls rest) rfl (hsize.trans hml.symm) (by rw [hb]; exact hdg) hM (X₁.named hnamed) (fun w hw => hws w hw _ _ X₁.warmed) (hws _ hcw _ _ X₁.warmed)
    (word_at X₁.warmed (Or.inl (by first | rfl | simp [Cond.onTables, Cond.keeps, Cond.steady])) hini) hrc hrs hfr (by show 2 * 0 + (rest.map fun v => v.category).sum + (maxL + 11) + rm.locals ≤ R.locals; omega) hf.1 hf.2 (hbl _ _ _ _ (hPc (T.setVm vm₁) hT X₁.warmed))
  have hal : s.vm.Alike t.vm := by rw [← e2]; exact X'.warmed.alike
  cases o with
  | returned v =>
    obtain ⟨t2, a1, b1⟩ := kr v _ t L (by show T.heap = H; exact hT) hal hL hq T' e1 X'
    have h1 := hr v rfl
    exact ⟨t2, hstep₁ _ (fun acts => by rw [doInvoke_state]; exact hst.trans (by rw [h1]; exact a1)), b1⟩
  | threw x =>
    obtain ⟨t2, a1, b1⟩ := kx x _ t L (by show T.heap = H; exact hT) hal hL hq T' e1 X'
    have h1 := hth x rfl
    exact ⟨t2, hstep₁ _ (fun acts => by rw [doInvoke_state]; exact hst.trans (by rw [h1]; exact a1)), b1⟩
end XS
section GC
variable {p : Program} {l : Launch} {e : Env} {R : Room} {s : State} {m : MethodId} {args : Array Value} {below : List Frame} {meth : Method} {c : Code} {cc : ByteArray} {own : String} {nL : Nat} {ret : Option FieldType} {D : va_G} {z0 : Nat} {E : State → Prop} {Qp : Outcome → hp → Prop} {mc ms pc : Nat} {lv lv' : List (Nat × Value)} {st rest : List Value} {h : hp} {rc rs : Nat}
theorem World.blind {U : State} {g : JFrame} {mk : MethodId} {a : Array Value} (hSt : Stb z0 E) (hW : World z0 D E h U) : World z0 D E h (U.calling g mk a) :=
  ⟨hW.1, va_K.moved (u := U) (U := U.calling g mk a) (Vm.Alike.refl U.vm) hW.2.1, hW.2.2.1, hSt U (U.calling g mk a) (State.WarmedH.refl U) (Nat.le_refl _) (fun _ _ => rfl) hW.2.2.2⟩
theorem va_S.call {H : Heap} {locs L : List Loc} {st t : State} (hz : z0 ≤ s.heap.size) (h3 : va_S (AA z0) s.heap H locs) (hst : st.heap = H) (hL : ∀ q ∈ L, AA z0 q.base) (hF : Fr z0 st t) : va_S (AA z0) s.heap t.heap (locs ++ L) := by
  obtain ⟨f1, f2⟩ := hF
  rw [hst] at f1 f2
  refine ⟨Nat.le_trans h3.1 f1, fun q hq hA => ?_, fun q hq => ?_⟩
  · rw [f2 q (Nat.not_le.mp hA)]
    exact h3.2.1 q hq hA
  · rcases List.mem_append.mp hq with h | h
    · exact h3.2.2 q h
    · exact hL q h
theorem g_callV (C : Cx p R s m args meth c cc own nL ret D z0 E mc ms) {idx n maxL' : Nat} {y : MethodName} {cc' : ByteArray} {ret' : Option FieldType} {rm' : Room} {pre : List Value → hp → Prop} {post : List Value → hp → Outcome → hp → Prop} {As : List Value} {a : Nat} (hc : Ctr l y cc' maxL' ret' rm' D z0 E pre post) (hd : decode cc pc = .ok (.invokevirtual idx, 3)) (w1 : Cond.methodLink own idx y ∈ lw_g) (w2 : Cond.instanceMethod y ∈ lw_g) (w3 : Cond.selects y.cls y y ∈ lw_g) (w4 : Cond.initialized y.cls ∈ lw_g) (w5 : Cond.code y cc' maxL' ret' ∈ lw_g) (hy : y.cls ≠ "java/lang/invoke/MethodHandle" ∧ y.cls ≠ "java/lang/invoke/VarHandle" ∧ (parseMethodDescriptor y.desc).map (fun d => d.parameters.length) = some n) (hn : As.length = n) {ci N : Nat} {T : u_T} {fs : List Value} (hci : CL[ci]? = some (y.cls, T, N)) (ha : a ∈ h.1) (hF : h.2 a = .inr (ci, fs)) (hpre : pre (.ref a :: As) h) (hR : rm'.frames + 1 ≤ R.frames ∧ 8 + (maxL' + 11) + rm'.locals ≤ R.locals) (hW : (rest.map fun v => v.category).sum ≤ 8) (hcost : rm'.cells ≤ rc ∧ rm'.slots ≤ rs)
    (kr : ∀ (v : Option Value) (h' : hp), post (.ref a :: As) h (.returned v) h' → G p l e R s m args below meth c nL D z0 E Qp mc ms (pc + 3) lv (v.toList ++ rest) h' (rc - rm'.cells) (rs - rm'.slots)) (kx : ∀ (x : Addr) (h' : hp), post (.ref a :: As) h (.threw x) h' → Qp (.threw x) h') : G p l e R s m args below meth c nL D z0 E Qp mc ms pc lv (As.reverse ++ .ref a :: rest) h rc rs := by
  intro ls H locs cells slots h1 h2 h3 h4 h5
  have hb9 : FrameBlind (fun a9 U => a9 = (.ref a :: As).toArray ∧ World z0 D E h U) := fun a9 U g mk q => ⟨q.1, World.blind C.2.2.2.2.2.2.2.2.2.1 q.2⟩
  have hw9 : ∀ U : State, U.heap = H → s.WarmedH U.vm → World z0 D E h U := fun U hU hWm => (C.world h2 h3 U hU hWm).1
  obtain ⟨q0, hq0⟩ := pl_at ha
  rw [hF] at hq0
  have hr9 := va_recv C.2.2.2.2.2.1 h2.1 hci hq0
  refine xt_callV (As := As) (rest := rest) ⟨C.1, C.2.1, C.2.2.1, C.2.2.2.1, C.2.2.2.2.1⟩ (hc (.ref a :: As) h hpre) (cwV (C := y.cls) n C.2.2.2.2.1 (goodV w1 w2 w3 w4 w5) rfl rfl rfl ⟨rfl, hy⟩ hR) ⟨hb9, hr9, fun U hU hWm => ⟨rfl, hw9 U hU hWm⟩⟩ hn h1.1 hW hd ⟨by have := C.2.2.2.2.2.2.2.2.2.2.2.2.1; omega, by have := C.2.2.2.2.2.2.2.2.2.2.2.2.2; omega⟩ ?_ ?_
  · intro v st t L hst hal hL hq
    obtain ⟨h', hp', ⟨w1', -, -, -⟩, hF'⟩ := hq
    exact kr v h' hp' ls t.heap (locs ++ L) _ _ h1 w1' (va_S.call C.2.2.2.2.2.2.2.1 h3 hst hL hF') (by omega) (by omega)
  · intro x st t L hst hal hL hq
    obtain ⟨h', hp', ⟨w1', -, -, -⟩, hF'⟩ := hq
    have hS' := va_S.call C.2.2.2.2.2.2.2.1 h3 hst hL hF'
    refine xt_Xwiden (k := mc) (n := ms) (by omega) (by omega) ?_
    refine xt_out rfl rfl rfl (fun z hz => absurd (C.2.2.2.2.2.2.2.2.2.2.2.1 z hz) id) C.2.2.2.2.2.2.1 (fun t' ht' hW' => ?_) hS'.2.2
    obtain ⟨u1, u2⟩ := C.world w1' hS' t' ht' hW'
    exact ⟨h', kx x h' hp', u1, u2⟩
theorem g_callS (C : Cx p R s m args meth c cc own nL ret D z0 E mc ms) {idx n maxL' : Nat} {y : MethodName} {cc' : ByteArray} {ret' : Option FieldType} {rm' : Room} {pre : List Value → hp → Prop} {post : List Value → hp → Outcome → hp → Prop} {As : List Value} (hc : Ctr l y cc' maxL' ret' rm' D z0 E pre post) (hd : decode cc pc = .ok (.invokestatic idx, 3)) (w1 : Cond.methodLink own idx y ∈ lw_g) (w2 : Cond.static y ∈ lw_g) (w4 : Cond.initialized y.cls ∈ lw_g) (w5 : Cond.code y cc' maxL' ret' ∈ lw_g) (hy : y.cls ≠ "java/lang/invoke/MethodHandle" ∧ y.cls ≠ "java/lang/invoke/VarHandle" ∧ (parseMethodDescriptor y.desc).map (fun d => d.parameters.length) = some n) (hn : As.length = n) (hpre : pre As h) (hR : rm'.frames + 1 ≤ R.frames ∧ 8 + (maxL' + 11) + rm'.locals ≤ R.locals) (hW : (rest.map fun v => v.category).sum ≤ 8) (hcost : rm'.cells ≤ rc ∧ rm'.slots ≤ rs)
    (kr : ∀ (v : Option Value) (h' : hp), post As h (.returned v) h' → G p l e R s m args below meth c nL D z0 E Qp mc ms (pc + 3) lv (v.toList ++ rest) h' (rc - rm'.cells) (rs - rm'.slots)) (kx : ∀ (x : Addr) (h' : hp), post As h (.threw x) h' → Qp (.threw x) h') : G p l e R s m args below meth c nL D z0 E Qp mc ms pc lv (As.reverse ++ rest) h rc rs := by
  intro ls H locs cells slots h1 h2 h3 h4 h5
  have hb9 : FrameBlind (fun a9 U => a9 = As.toArray ∧ World z0 D E h U) := fun a9 U g mk q => ⟨q.1, World.blind C.2.2.2.2.2.2.2.2.2.1 q.2⟩
  have hw9 : ∀ U : State, U.heap = H → s.WarmedH U.vm → World z0 D E h U := fun U hU hWm => (C.world h2 h3 U hU hWm).1
  refine xt_callS (As := As) (rest := rest) ⟨C.1, C.2.1, C.2.2.1, C.2.2.2.1, C.2.2.2.2.1⟩ (hc As h hpre) ⟨callB_of n C.2.2.2.2.1 (goodC w5) rfl rfl rfl (C.2.2.2.2.1 _ w4) (C.2.2.2.2.1 _ w1) hy hR, C.2.2.2.2.1 _ w2⟩ ⟨hb9, fun U hU hWm => ⟨rfl, hw9 U hU hWm⟩⟩ hn h1.1 hW hd ⟨by have := C.2.2.2.2.2.2.2.2.2.2.2.2.1; omega, by have := C.2.2.2.2.2.2.2.2.2.2.2.2.2; omega⟩ ?_ ?_
  · intro v st t L hst hal hL hq
    obtain ⟨h', hp', ⟨w1', -, -, -⟩, hF'⟩ := hq
    exact kr v h' hp' ls t.heap (locs ++ L) _ _ h1 w1' (va_S.call C.2.2.2.2.2.2.2.1 h3 hst hL hF') (by omega) (by omega)
  · intro x st t L hst hal hL hq
    obtain ⟨h', hp', ⟨w1', -, -, -⟩, hF'⟩ := hq
    have hS' := va_S.call C.2.2.2.2.2.2.2.1 h3 hst hL hF'
    refine xt_Xwiden (k := mc) (n := ms) (by omega) (by omega) ?_
    refine xt_out rfl rfl rfl (fun z hz => absurd (C.2.2.2.2.2.2.2.2.2.2.2.1 z hz) id) C.2.2.2.2.2.2.1 (fun t' ht' hW' => ?_) hS'.2.2
    obtain ⟨u1, u2⟩ := C.world w1' hS' t' ht' hW'
    exact ⟨h', kx x h' hp', u1, u2⟩
theorem g_callI (C : Cx p R s m args meth c cc own nL ret D z0 E mc ms) {idx n maxL' : Nat} {y : MethodName} {cc' : ByteArray} {ret' : Option FieldType} {rm' : Room} {pre : List Value → hp → Prop} {post : List Value → hp → Outcome → hp → Prop} {As : List Value} {a : Nat} (hc : Ctr l y cc' maxL' none rm' D z0 E pre post) (hd : decode cc pc = .ok (.invokespecial idx, 3)) (w1 : Cond.methodLink own idx y ∈ lw_g) (w2 : Cond.instanceMethod y ∈ lw_g) (w4 : Cond.initialized y.cls ∈ lw_g) (w5 : Cond.code y cc' maxL' none ∈ lw_g) (hy1 : y.name = "<init>") (hy : y.cls ≠ "java/lang/invoke/MethodHandle" ∧ y.cls ≠ "java/lang/invoke/VarHandle" ∧ (parseMethodDescriptor y.desc).map (fun d => d.parameters.length) = some n) (hn : As.length = n) (hpre : pre (.ref a :: As) h) (hR : rm'.frames + 1 ≤ R.frames ∧ 8 + (maxL' + 11) + rm'.locals ≤ R.locals) (hW : (rest.map fun v => v.category).sum ≤ 8) (hcost : rm'.cells ≤ rc ∧ rm'.slots ≤ rs)
    (kr : ∀ (v : Option Value) (h' : hp), post (.ref a :: As) h (.returned v) h' → G p l e R s m args below meth c nL D z0 E Qp mc ms (pc + 3) lv (v.toList ++ rest) h' (rc - rm'.cells) (rs - rm'.slots)) (kx : ∀ (x : Addr) (h' : hp), post (.ref a :: As) h (.threw x) h' → Qp (.threw x) h') : G p l e R s m args below meth c nL D z0 E Qp mc ms pc lv (As.reverse ++ .ref a :: rest) h rc rs := by
  intro ls H locs cells slots h1 h2 h3 h4 h5
  have hb9 : FrameBlind (fun a9 U => a9 = (.ref a :: As).toArray ∧ World z0 D E h U) := fun a9 U g mk q => ⟨q.1, World.blind C.2.2.2.2.2.2.2.2.2.1 q.2⟩
  have hw9 : ∀ U : State, U.heap = H → s.WarmedH U.vm → World z0 D E h U := fun U hU hWm => (C.world h2 h3 U hU hWm).1
  refine xt_callI (As := As) (rest := rest) ⟨C.1, C.2.1, C.2.2.1, C.2.2.2.1, C.2.2.2.2.1⟩ (hc (.ref a :: As) h hpre) ⟨callB_of n C.2.2.2.2.1 (goodC w5) rfl rfl rfl (C.2.2.2.2.1 _ w4) (C.2.2.2.2.1 _ w1) hy hR, hy1, C.2.2.2.2.1 _ w2⟩ ⟨hb9, fun U hU hWm => ⟨rfl, hw9 U hU hWm⟩⟩ hn h1.1 hW hd ⟨by have := C.2.2.2.2.2.2.2.2.2.2.2.2.1; omega, by have := C.2.2.2.2.2.2.2.2.2.2.2.2.2; omega⟩ ?_ ?_
  · intro v st t L hst hal hL hq
    obtain ⟨h', hp', ⟨w1', -, -, -⟩, hF'⟩ := hq
    exact kr v h' hp' ls t.heap (locs ++ L) _ _ h1 w1' (va_S.call C.2.2.2.2.2.2.2.1 h3 hst hL hF') (by omega) (by omega)
  · intro x st t L hst hal hL hq
    obtain ⟨h', hp', ⟨w1', -, -, -⟩, hF'⟩ := hq
    have hS' := va_S.call C.2.2.2.2.2.2.2.1 h3 hst hL hF'
    refine xt_Xwiden (k := mc) (n := ms) (by omega) (by omega) ?_
    refine xt_out rfl rfl rfl (fun z hz => absurd (C.2.2.2.2.2.2.2.2.2.2.2.1 z hz) id) C.2.2.2.2.2.2.1 (fun t' ht' hW' => ?_) hS'.2.2
    obtain ⟨u1, u2⟩ := C.world w1' hS' t' ht' hW'
    exact ⟨h', kx x h' hp', u1, u2⟩
theorem g_getf (C : Cx p R s m args meth c cc own nL ret D z0 E mc ms) {a idx ci k N : Nat} {cls ref : String} {T : u_T} {fs : List Value} {v : Value} (hd : decode cc pc = .ok (.getfield idx, 3)) (hin : ∀ w ∈ u_ws cls T N, w ∈ lw_g) (hci : CL[ci]? = some (cls, T, N)) (hk : k < N) (hw : Cond.fieldLink own idx ref (T k).2.1 (T k).2.2.1 ∈ lw_g) (hsm : ref = (T k).1 ∨ Cond.sameField ref (T k).1 (T k).2.1 (T k).2.2.1 ∈ lw_g) (ha : a ∈ h.1) (hF : h.2 a = .inr (ci, fs)) (hv : fs[k]? = some v) (kk : G p l e R s m args below meth c nL D z0 E Qp mc ms (pc + 3) lv (v :: rest) h rc rs) : G p l e R s m args below meth c nL D z0 E Qp mc ms pc lv (.ref a :: rest) h rc rs := by
  intro ls H locs cells slots h1 h2 h3 h4 h5
  obtain ⟨q0, hq0⟩ := pl_at ha
  rw [hF] at hq0
  refine va_get C.1 C.2.1 C.2.2.2.2.1 hin C.2.2.2.1 C.2.2.2.2.2.1 h2.1 q0 hq0 hci k hk (C.2.2.2.2.1 _ hw) (fun x hx => ?_) hv hd (kk ls H locs cells slots h1 h2 h3 h4 h5)
  rcases hsm with rfl | hs
  · exact hx
  · exact u_same (C.2.2.2.2.1 _ hs) x hx
theorem g_putf (C : Cx p R s m args meth c cc own nL ret D z0 E mc ms) {a idx ci k N : Nat} {cls ref : String} {T : u_T} {ty0 : Nat → FieldType} {ty : FieldType} {fs : List Value} {v : Value} (hd : decode cc pc = .ok (.putfield idx, 3)) (hin : ∀ w ∈ u_ws cls T N, w ∈ lw_g) (hty : ∀ k, k < N → parseFieldDescriptor (T k).2.2.1 = some (ty0 k)) (hnm : ∀ a, a < N → ∀ b, b < N → a ≠ b → (T a).2.1 ≠ (T b).2.1) (hci : CL[ci]? = some (cls, T, N)) (hk : k < N) (hw : Cond.fieldLink own idx ref (T k).2.1 (T k).2.2.1 ∈ lw_g) (hsm : ref = (T k).1 ∨ Cond.sameField ref (T k).1 (T k).2.1 (T k).2.2.1 ∈ lw_g) (hfin : (T k).2.2.2 = false) (hdt : parseFieldDescriptor (T k).2.2.1 = some ty) (hn : narrow ty v = v) (hfit : fits ty v = true) (ha : a ∈ h.1) (hF : h.2 a = .inr (ci, fs)) (hl : k < fs.length) (kk : G p l e R s m args below meth c nL D z0 E Qp mc ms (pc + 3) lv rest (h.1, va_up h.2 a (.inr (ci, fs.set k v))) rc rs) : G p l e R s m args below meth c nL D z0 E Qp mc ms pc lv (v :: .ref a :: rest) h rc rs := by
  intro ls H locs cells slots h1 h2 h3 h4 h5
  obtain ⟨q0, hq0⟩ := pl_at ha
  have hq1 := hq0
  rw [hF] at hq0
  refine va_put C.1 C.2.1 C.2.2.2.2.1 hin ty0 hty hnm C.2.2.2.1 C.2.2.2.2.2.1 h2.1 h2.2 h3 q0 hq0 hci k hk (C.2.2.2.2.1 _ hw) (fun x hx => ?_) hfin hdt hn hfit hl hd (fun H1 locs1 hP1 hD1 hS1 => ?_)
  · rcases hsm with rfl | hs
    · exact hx
    · exact u_same (C.2.2.2.2.1 _ hs) x hx
  · rw [pl_set h2.2 ha hq1] at hP1 hD1
    exact kk ls H1 locs1 cells slots h1 ⟨hP1, hD1⟩ hS1 h4 h5
theorem g_putF (C : Cx p R s m args meth c cc own nL ret D z0 E mc ms) {a idx ci k N : Nat} {cls : String} {T : u_T} {ty0 : Nat → FieldType} {ty : FieldType} {fs : List Value} {v : Value} (hini : meth.name = "<init>") (hd : decode cc pc = .ok (.putfield idx, 3)) (hin : ∀ w ∈ u_ws cls T N, w ∈ lw_g) (hty : ∀ k, k < N → parseFieldDescriptor (T k).2.2.1 = some (ty0 k)) (hnm : ∀ a, a < N → ∀ b, b < N → a ≠ b → (T a).2.1 ≠ (T b).2.1) (hci : CL[ci]? = some (cls, T, N)) (hk : k < N) (hw : Cond.fieldLink own idx (T k).1 (T k).2.1 (T k).2.2.1 ∈ lw_g) (hfin : (T k).2.2.2 = true) (hdec : (T k).1 = own) (hdt : parseFieldDescriptor (T k).2.2.1 = some ty) (hn : narrow ty v = v) (hfit : fits ty v = true) (ha : a ∈ h.1) (hF : h.2 a = .inr (ci, fs)) (hl : k < fs.length) (kk : G p l e R s m args below meth c nL D z0 E Qp mc ms (pc + 3) lv rest (h.1, va_up h.2 a (.inr (ci, fs.set k v))) rc rs) : G p l e R s m args below meth c nL D z0 E Qp mc ms pc lv (v :: .ref a :: rest) h rc rs := by
  intro ls H locs cells slots h1 h2 h3 h4 h5
  obtain ⟨q0, hq0⟩ := pl_at ha
  have hq1 := hq0
  rw [hF] at hq0
  refine va_putF C.1 C.2.1 C.2.2.2.2.1 hin ty0 hty hnm C.2.2.2.1 C.2.2.2.2.2.1 h2.1 h2.2 h3 q0 hq0 hci k hk (C.2.2.2.2.1 _ hw) (fun x hx => hx) hfin hini hdec hdt hn hfit hl hd (fun H1 locs1 hP1 hD1 hS1 => ?_)
  rw [pl_set h2.2 ha hq1] at hP1 hD1
  exact kk ls H1 locs1 cells slots h1 ⟨hP1, hD1⟩ hS1 h4 h5
theorem g_iald (C : Cx p R s m args meth c cc own nL ret D z0 E mc ms) {a n : Nat} {f : Nat → Int32} {i : Int32} (hd : decode cc pc = .ok (.iaload, 1)) (ha : a ∈ h.1) (hF : h.2 a = .inl (D.1 100, n, .inl f)) (hin : vp_in i n) (kk : G p l e R s m args below meth c nL D z0 E Qp mc ms (pc + 1) lv (.int (f i.toNatClampNeg) :: rest) h rc rs) : G p l e R s m args below meth c nL D z0 E Qp mc ms pc lv (.int i :: .ref a :: rest) h rc rs := by
  intro ls H locs cells slots h1 h2 h3 h4 h5
  obtain ⟨q0, hq0⟩ := pl_at ha
  rw [hF] at hq0
  exact va_iald C.1 C.2.1 C.2.2.2.2.2.1 h2.1 q0 0 hq0 rfl hin hd (kk ls H locs cells slots h1 h2 h3 h4 h5)
theorem g_cald (C : Cx p R s m args meth c cc own nL ret D z0 E mc ms) {a n : Nat} {f : Nat → Int32} {i : Int32} (hd : decode cc pc = .ok (.caload, 1)) (ha : a ∈ h.1) (hF : h.2 a = .inl (D.1 101, n, .inl f)) (hin : vp_in i n) (kk : G p l e R s m args below meth c nL D z0 E Qp mc ms (pc + 1) lv (.int (f i.toNatClampNeg) :: rest) h rc rs) : G p l e R s m args below meth c nL D z0 E Qp mc ms pc lv (.int i :: .ref a :: rest) h rc rs := by
  intro ls H locs cells slots h1 h2 h3 h4 h5
  obtain ⟨q0, hq0⟩ := pl_at ha
  rw [hF] at hq0
  exact va_cald C.1 C.2.1 C.2.2.2.2.2.1 h2.1 q0 1 hq0 rfl hin hd (kk ls H locs cells slots h1 h2 h3 h4 h5)
theorem g_lald (C : Cx p R s m args meth c cc own nL ret D z0 E mc ms) {a n : Nat} {f : Nat → Int64} {i : Int32} (hd : decode cc pc = .ok (.laload, 1)) (ha : a ∈ h.1) (hF : h.2 a = .inl (D.1 102, n, .inr (.inl f))) (hin : vp_in i n) (kk : G p l e R s m args below meth c nL D z0 E Qp mc ms (pc + 1) lv (.long (f i.toNatClampNeg) :: rest) h rc rs) : G p l e R s m args below meth c nL D z0 E Qp mc ms pc lv (.int i :: .ref a :: rest) h rc rs := by
  intro ls H locs cells slots h1 h2 h3 h4 h5
  obtain ⟨q0, hq0⟩ := pl_at ha
  rw [hF] at hq0
  exact va_lald C.1 C.2.1 C.2.2.2.2.2.1 h2.1 q0 2 hq0 rfl hin hd (kk ls H locs cells slots h1 h2 h3 h4 h5)
theorem g_zald (C : Cx p R s m args meth c cc own nL ret D z0 E mc ms) {a n : Nat} {f : Nat → Int32} {i : Int32} (hd : decode cc pc = .ok (.baload, 1)) (ha : a ∈ h.1) (hF : h.2 a = .inl (D.1 103, n, .inl f)) (hin : vp_in i n) (kk : G p l e R s m args below meth c nL D z0 E Qp mc ms (pc + 1) lv (.int (f i.toNatClampNeg) :: rest) h rc rs) : G p l e R s m args below meth c nL D z0 E Qp mc ms pc lv (.int i :: .ref a :: rest) h rc rs := by
  intro ls H locs cells slots h1 h2 h3 h4 h5
  obtain ⟨q0, hq0⟩ := pl_at ha
  rw [hF] at hq0
  exact va_zald C.1 C.2.1 C.2.2.2.2.2.1 h2.1 q0 3 hq0 rfl hin hd (kk ls H locs cells slots h1 h2 h3 h4 h5)
theorem g_bald (C : Cx p R s m args meth c cc own nL ret D z0 E mc ms) {a n : Nat} {f : Nat → Int32} {i : Int32} (hd : decode cc pc = .ok (.baload, 1)) (ha : a ∈ h.1) (hF : h.2 a = .inl (D.1 104, n, .inl f)) (hin : vp_in i n) (kk : G p l e R s m args below meth c nL D z0 E Qp mc ms (pc + 1) lv (.int (f i.toNatClampNeg) :: rest) h rc rs) : G p l e R s m args below meth c nL D z0 E Qp mc ms pc lv (.int i :: .ref a :: rest) h rc rs := by
  intro ls H locs cells slots h1 h2 h3 h4 h5
  obtain ⟨q0, hq0⟩ := pl_at ha
  rw [hF] at hq0
  exact va_bald C.1 C.2.1 C.2.2.2.2.2.1 h2.1 q0 4 hq0 rfl hin hd (kk ls H locs cells slots h1 h2 h3 h4 h5)
theorem g_iast (C : Cx p R s m args meth c cc own nL ret D z0 E mc ms) {a n : Nat} {f : Nat → Int32} {i : Int32} {x : Int32} (hd : decode cc pc = .ok (.iastore, 1)) (ha : a ∈ h.1) (hF : h.2 a = .inl (D.1 100, n, .inl f)) (hin : vp_in i n) (kk : G p l e R s m args below meth c nL D z0 E Qp mc ms (pc + 1) lv rest (h.1, va_up h.2 a (.inl (D.1 100, n, .inl (upd f i.toNatClampNeg x)))) rc rs) : G p l e R s m args below meth c nL D z0 E Qp mc ms pc lv (.int x :: .int i :: .ref a :: rest) h rc rs := by
  intro ls H locs cells slots h1 h2 h3 h4 h5
  obtain ⟨q0, hq0⟩ := pl_at ha
  have hq1 := hq0
  rw [hF] at hq0
  refine va_iast C.1 C.2.1 C.2.2.2.2.2.1 h2.1 h2.2 h3 q0 0 hq0 rfl hin hd (fun H1 locs1 hP1 hD1 hS1 => ?_)
  rw [pl_set h2.2 ha hq1] at hP1 hD1
  exact kk ls H1 locs1 cells slots h1 ⟨hP1, hD1⟩ hS1 h4 h5
theorem g_cast (C : Cx p R s m args meth c cc own nL ret D z0 E mc ms) {a n : Nat} {f : Nat → Int32} {i : Int32} {x : Int32} (hd : decode cc pc = .ok (.castore, 1)) (ha : a ∈ h.1) (hF : h.2 a = .inl (D.1 101, n, .inl f)) (hin : vp_in i n) (kk : G p l e R s m args below meth c nL D z0 E Qp mc ms (pc + 1) lv rest (h.1, va_up h.2 a (.inl (D.1 101, n, .inl (upd f i.toNatClampNeg (vp_nar .char x))))) rc rs) : G p l e R s m args below meth c nL D z0 E Qp mc ms pc lv (.int x :: .int i :: .ref a :: rest) h rc rs := by
  intro ls H locs cells slots h1 h2 h3 h4 h5
  obtain ⟨q0, hq0⟩ := pl_at ha
  have hq1 := hq0
  rw [hF] at hq0
  refine va_cast C.1 C.2.1 C.2.2.2.2.2.1 h2.1 h2.2 h3 q0 1 hq0 rfl hin hd (fun H1 locs1 hP1 hD1 hS1 => ?_)
  rw [pl_set h2.2 ha hq1] at hP1 hD1
  exact kk ls H1 locs1 cells slots h1 ⟨hP1, hD1⟩ hS1 h4 h5
theorem g_last (C : Cx p R s m args meth c cc own nL ret D z0 E mc ms) {a n : Nat} {f : Nat → Int64} {i : Int32} {x : Int64} (hd : decode cc pc = .ok (.lastore, 1)) (ha : a ∈ h.1) (hF : h.2 a = .inl (D.1 102, n, .inr (.inl f))) (hin : vp_in i n) (kk : G p l e R s m args below meth c nL D z0 E Qp mc ms (pc + 1) lv rest (h.1, va_up h.2 a (.inl (D.1 102, n, .inr (.inl (vp_updL f i.toNatClampNeg x))))) rc rs) : G p l e R s m args below meth c nL D z0 E Qp mc ms pc lv (.long x :: .int i :: .ref a :: rest) h rc rs := by
  intro ls H locs cells slots h1 h2 h3 h4 h5
  obtain ⟨q0, hq0⟩ := pl_at ha
  have hq1 := hq0
  rw [hF] at hq0
  refine va_last C.1 C.2.1 C.2.2.2.2.2.1 h2.1 h2.2 h3 q0 2 hq0 rfl hin hd (fun H1 locs1 hP1 hD1 hS1 => ?_)
  rw [pl_set h2.2 ha hq1] at hP1 hD1
  exact kk ls H1 locs1 cells slots h1 ⟨hP1, hD1⟩ hS1 h4 h5
theorem g_zast (C : Cx p R s m args meth c cc own nL ret D z0 E mc ms) {a n : Nat} {f : Nat → Int32} {i : Int32} {x : Int32} (hd : decode cc pc = .ok (.bastore, 1)) (ha : a ∈ h.1) (hF : h.2 a = .inl (D.1 103, n, .inl f)) (hin : vp_in i n) (kk : G p l e R s m args below meth c nL D z0 E Qp mc ms (pc + 1) lv rest (h.1, va_up h.2 a (.inl (D.1 103, n, .inl (upd f i.toNatClampNeg (vp_nar .boolean x))))) rc rs) : G p l e R s m args below meth c nL D z0 E Qp mc ms pc lv (.int x :: .int i :: .ref a :: rest) h rc rs := by
  intro ls H locs cells slots h1 h2 h3 h4 h5
  obtain ⟨q0, hq0⟩ := pl_at ha
  have hq1 := hq0
  rw [hF] at hq0
  refine va_zast C.1 C.2.1 C.2.2.2.2.2.1 h2.1 h2.2 h3 q0 3 hq0 rfl hin hd (fun H1 locs1 hP1 hD1 hS1 => ?_)
  rw [pl_set h2.2 ha hq1] at hP1 hD1
  exact kk ls H1 locs1 cells slots h1 ⟨hP1, hD1⟩ hS1 h4 h5
theorem g_bast (C : Cx p R s m args meth c cc own nL ret D z0 E mc ms) {a n : Nat} {f : Nat → Int32} {i : Int32} {x : Int32} (hd : decode cc pc = .ok (.bastore, 1)) (ha : a ∈ h.1) (hF : h.2 a = .inl (D.1 104, n, .inl f)) (hin : vp_in i n) (kk : G p l e R s m args below meth c nL D z0 E Qp mc ms (pc + 1) lv rest (h.1, va_up h.2 a (.inl (D.1 104, n, .inl (upd f i.toNatClampNeg (vp_nar .byte x))))) rc rs) : G p l e R s m args below meth c nL D z0 E Qp mc ms pc lv (.int x :: .int i :: .ref a :: rest) h rc rs := by
  intro ls H locs cells slots h1 h2 h3 h4 h5
  obtain ⟨q0, hq0⟩ := pl_at ha
  have hq1 := hq0
  rw [hF] at hq0
  refine va_bast C.1 C.2.1 C.2.2.2.2.2.1 h2.1 h2.2 h3 q0 4 hq0 rfl hin hd (fun H1 locs1 hP1 hD1 hS1 => ?_)
  rw [pl_set h2.2 ha hq1] at hP1 hD1
  exact kk ls H1 locs1 cells slots h1 ⟨hP1, hD1⟩ hS1 h4 h5
end GC
