/-! More rules over the pool: new cells, statics, references, copies, calls of inherited methods, throws. -/
/-- closed under what may come: the tables grow warmer, cells from z0 on change -/
def Cl (z0 : Nat) (E0 : State → Prop) (U : State) : Prop := ∀ V : State, U.WarmedH V.vm → U.heap.size ≤ V.heap.size → (∀ q : Nat, q < z0 → V.heap[q]? = U.heap[q]?) → E0 V
theorem Cl.stb {z0 : Nat} {E0 : State → Prop} : Stb z0 (Cl z0 E0) := fun u U hW hz hq h V hW2 hz2 hq2 => h V (State.WarmedH.trans hW hW2) (Nat.le_trans hz hz2) (fun q hl => (hq2 q hl).trans (hq q hl))
theorem Cl.here {z0 : Nat} {E0 : State → Prop} {U : State} (h : Cl z0 E0 U) : E0 U := h U (State.WarmedH.refl U) (Nat.le_refl _) (fun _ _ => rfl)
theorem ctrN_of {l : Launch} {y : MethodName} {cc : ByteArray} {maxL : Nat} {ret : Option FieldType} {rm : Room} {D : va_G} {z0 : Nat} {E : State → Prop} {pre : List Value → hp → Prop} {post : List Value → hp → Outcome → hp → Prop} (hSt : Stb z0 E) (hy : plainName y.cls = true) (hsz : ∀ as h, pre as h → (lg_sl as).length ≤ maxL)
    (body : ∀ (as : List Value) (h : hp), pre as h → ∀ (p : Program) (e : Env) (s : State) (m : MethodId) (args : Array Value) (below : List Frame) (meth : Method) (c : Code), Cx p rm s m args meth c cc y.cls maxL ret D z0 E rm.cells rm.slots → meth.name = y.name →
      G p l e rm s m args below meth c maxL D z0 E (post as h) rm.cells rm.slots 0 (lv_args 0 as) [] h rm.cells rm.slots) : Ctr l y cc maxL ret rm D z0 E pre post := by
  intro as h hpre
  refine xt_ofW (cc := cc) (maxL := maxL) (ret := ret) hy rfl ?_
  intro p e s m args below meth c s₁ B hml hv
  obtain ⟨rfl, hW⟩ := hv
  have hts := atoms_spec (ws := Cond.code y cc maxL ret :: lw_g) B.pre
  have hno := BodyLoose.noHandlers B (hts _ List.mem_cons_self)
  have hno2 : ∀ z ∈ c.exceptionTable.toList, False := by
    intro z hz
    have h0 : c.exceptionTable = #[] := Array.isEmpty_iff.mp hno
    rw [h0] at hz
    cases hz
  have cx : Cx p rm s m as.toArray meth c cc y.cls maxL ret D z0 E rm.cells rm.slots :=
    ⟨B.exec, B.bytes, hml, findClass_of_methodNamed B.named, fun w h => hts w (List.mem_cons_of_mem _ h), hW.2.1, B.notSynchronized, hW.2.2.1, hW.2.2.2, hSt, B.returns, hno2, rfl, rfl⟩
  rw [lg_entry_eq]
  exact body as h hpre p e s m as.toArray below meth c cx (name_of_methodNamed B.named B.method).1 _ s.heap [] 0 0 (lv_entry as (hsz as h hpre)) hW.1 va_S.rf (by omega) (by omega)
theorem pl_in {h : hp} {k : Nat} {q : Nat × va_E} (hk : (va_pl h.1 h.2)[k]? = some q) : q.1 ∈ h.1 ∧ q.2 = h.2 q.1 := by
  obtain ⟨a, ha, rfl⟩ := List.mem_map.mp (List.mem_of_getElem? hk)
  exact ⟨ha, rfl⟩
theorem fresh_of {A : Nat → Prop} {h : hp} {q : Nat} {e : va_E} (hD : va_D A (va_pl h.1 h.2 ++ [(q, e)])) : q ∉ h.1 := by
  intro hq
  obtain ⟨k, hk⟩ := pl_at hq
  have hl : k < (va_pl h.1 h.2).length := (List.getElem?_eq_some_iff.mp hk).1
  have h1 := hD.1 k (va_pl h.1 h.2).length (q, h.2 q) (q, e) (by rw [List.getElem?_append_left hl]; exact hk) (by simp) rfl
  omega
theorem up_z {A : Nat → Prop} {h : hp} {q : Nat} {e : va_E} (hD : va_D A (va_pl h.1 h.2 ++ [(q, e)])) : A q := hD.2 (va_pl h.1 h.2).length (q, e) (by simp)
theorem Wd.push {z0 : Nat} {D : va_G} {h : hp} {q : Nat} {e : va_E} {H1 : Heap} (hP : va_P D CL (va_pl h.1 h.2 ++ [(q, e)]) H1) (hD : va_D (AA z0) (va_pl h.1 h.2 ++ [(q, e)])) : Wd z0 D (h.1 ++ [q], va_up h.2 q e) H1 := by
  have e1 := va_pl_push (f := h.2) (e := e) (fresh_of hD)
  rw [e1] at hP hD
  exact ⟨hP, hD⟩
section GN
variable {p : Program} {l : Launch} {e : Env} {R : Room} {s : State} {m : MethodId} {args : Array Value} {below : List Frame} {meth : Method} {c : Code} {cc : ByteArray} {own : String} {nL : Nat} {ret : Option FieldType} {D : va_G} {z0 : Nat} {E : State → Prop} {Qp : Outcome → hp → Prop} {mc ms pc : Nat} {lv lv' : List (Nat × Value)} {st rest : List Value} {h : hp} {rc rs : Nat}
theorem Cx.free (C : Cx p R s m args meth c cc own nL ret D z0 E mc ms) : ∀ q, s.heap.size ≤ q → AA z0 q := fun _ hq => Nat.le_trans C.2.2.2.2.2.2.2.1 hq
theorem Cx.tyq (C : Cx p R s m args meth c cc own nL ret D z0 E mc ms) (k : Nat) {q : ClassId × FieldType} (hq : (TY D)[k]? = some q) : va_RA s q.1 q.2 := (C.2.2.2.2.2.1.2 k q hq).2
theorem g_newarr (C : Cx p R s m args meth c cc own nL ret D z0 E mc ms) {at0 : ArrayType} {ty : FieldType} {k n : Nat} {i : Int32} {cA : ClassId} {a0 : vp_A} (hd : decode cc pc = .ok (.newarray at0, 2)) (hty : newarray.typeOf at0 = ty) (hw : Cond.arrayClass ty ∈ lw_g) (hk : (TY D)[k]? = some (cA, ty)) (hnr : va_RA s cA ty = (s.vm.findClass ("[" ++ ty.toString) = some cA)) (hi : i = nI n) (hn : n < 2 ^ 20) (hb : componentBytes ty ≤ 8) (ha : ∀ cA : ClassId, vp_cell cA a0 = arrV cA n (fun _ => defaultValue ty)) (hc : 1 ≤ rc ∧ n ≤ rs) (kk : ∀ q : Nat, q ∉ h.1 → z0 ≤ q → G p l e R s m args below meth c nL D z0 E Qp mc ms (pc + 2) lv (.ref q :: rest) (h.1 ++ [q], va_up h.2 q (.inl (cA, a0))) (rc - 1) (rs - n)) : G p l e R s m args below meth c nL D z0 E Qp mc ms pc lv (.int i :: rest) h rc rs := by
  intro ls H locs cells slots h1 h2 h3 h4 h5
  subst hi
  subst hty
  have hcl := C.2.2.2.2.2.2.2.2.2.2.2.2.1
  have hsl := C.2.2.2.2.2.2.2.2.2.2.2.2.2
  refine va_newa C.1 C.2.1 (C.2.2.2.2.1 _ hw) rfl C.2.2.2.2.2.1 h2.1 h2.2 h3 C.free ha (nI_pos (by omega)) (nI_clamp (by omega)) ?_ (by omega) (by omega) hd (fun q cB H1 hK1 hP1 hD1 hS1 => ?_)
  · exact Nat.le_trans (Nat.mul_le_mul (Nat.le_of_lt hn) hb) (by decide)
  · have e0 : cB = cA := by
      have hx : va_RA s cB (newarray.typeOf at0) := (hK1.2 (TY D).length (cB, newarray.typeOf at0) (by simp)).2
      have hy := C.tyq k hk
      have e3 : s.vm.findClass ("[" ++ (newarray.typeOf at0).toString) = some cB := by
        clear hy hnr
        cases at0 <;> exact hx
      rw [hnr] at hy
      exact Option.some.inj (e3.symm.trans hy)
    subst e0
    exact kk q (fresh_of hD1) (up_z hD1) ls H1 locs (cells + 1) (slots + n) h1 (Wd.push hP1 hD1) hS1 (by omega) (by omega)
theorem g_anew (C : Cx p R s m args meth c cc own nL ret D z0 E mc ms) {n : Nat} {i : Int32} {idx : Nat} (hd : decode cc pc = .ok (.anewarray idx, 3)) (hw : Cond.classLink own idx "java/lang/Object" ∈ lw_g) (hov : va_AO "java/lang/Object" s) (hi : i = nI n) (hn : n < 2 ^ 20) (hc : 1 ≤ rc ∧ n ≤ rs) (kk : ∀ q : Nat, q ∉ h.1 → z0 ≤ q → G p l e R s m args below meth c nL D z0 E Qp mc ms (pc + 3) lv (.ref q :: rest) (h.1 ++ [q], va_up h.2 q (.inl (D.1 105, n, .inr (.inr (.inr (.inr (fun _ => none))))))) (rc - 1) (rs - n)) : G p l e R s m args below meth c nL D z0 E Qp mc ms pc lv (.int i :: rest) h rc rs := by
  intro ls H locs cells slots h1 h2 h3 h4 h5
  subst hi
  have hcl := C.2.2.2.2.2.2.2.2.2.2.2.2.1
  have hsl := C.2.2.2.2.2.2.2.2.2.2.2.2.2
  refine va_newq C.1 C.2.1 C.2.2.2.1 (C.2.2.2.2.1 _ hw) hov C.2.2.2.2.2.1 h2.1 h2.2 h3 C.free (nI_pos (by omega)) (nI_clamp (by omega)) (by omega) (by omega) (by omega) hd (fun q cB H1 hK1 hP1 hD1 hS1 => ?_)
  have e0 : cB = D.1 105 := by
    obtain ⟨-, -, -, -, -, hx⟩ : va_RA s cB (.object "java/lang/Object") := (hK1.2 (TY D).length (cB, .object "java/lang/Object") (by simp)).2
    obtain ⟨-, -, -, -, -, hy⟩ := C.tyq 5 (q := (D.1 105, .object "java/lang/Object")) rfl
    exact Option.some.inj (hx.symm.trans hy)
  subst e0
  exact kk q (fresh_of hD1) (up_z hD1) ls H1 locs (cells + 1) (slots + n) h1 (Wd.push hP1 hD1) hS1 (by omega) (by omega)
theorem g_new (C : Cx p R s m args meth c cc own nL ret D z0 E mc ms) {idx ci N : Nat} {C0 : String} {T : u_T} {ty0 : Nat → FieldType} {fs : List Value} (hd : decode cc pc = .ok (.new idx, 3)) (hin : ∀ w ∈ u_ws C0 T N, w ∈ lw_g) (hty : ∀ k, k < N → parseFieldDescriptor (T k).2.2.1 = some (ty0 k)) (w1 : Cond.classLink own idx C0 ∈ lw_g) (w2 : Cond.instantiable C0 N ∈ lw_g) (w3 : Cond.initialized C0 ∈ lw_g) (hci : CL[ci]? = some (C0, T, N)) (hfs : ∀ j, j < N → defaultValue (ty0 j) = vp_V fs j) (hc : 1 ≤ rc ∧ N ≤ rs) (kk : ∀ q : Nat, q ∉ h.1 → z0 ≤ q → G p l e R s m args below meth c nL D z0 E Qp mc ms (pc + 3) lv (.ref q :: rest) (h.1 ++ [q], va_up h.2 q (.inr (ci, fs))) (rc - 1) (rs - N)) : G p l e R s m args below meth c nL D z0 E Qp mc ms pc lv rest h rc rs := by
  intro ls H locs cells slots h1 h2 h3 h4 h5
  have hcl := C.2.2.2.2.2.2.2.2.2.2.2.2.1
  have hsl := C.2.2.2.2.2.2.2.2.2.2.2.2.2
  refine va_new C.1 C.2.1 C.2.2.2.2.1 hin ty0 hty C.2.2.2.1 (C.2.2.2.2.1 _ w1) (C.2.2.2.2.1 _ w2) (C.2.2.2.2.1 _ w3) C.2.2.2.2.2.1 h2.1 h2.2 h3 C.free hci hfs (by omega) (by omega) hd (fun q H1 hP1 hD1 hS1 => ?_)
  exact kk q (fresh_of hD1) (up_z hD1) ls H1 locs (cells + 1) (slots + N) h1 (Wd.push hP1 hD1) hS1 (by omega) (by omega)
theorem g_objInit (C : Cx p R s m args meth c cc own nL ret D z0 E mc ms) {idx a : Nat} (hd : decode cc pc = .ok (.invokespecial idx, 3)) (w1 : Cond.methodLink own idx Lib.objectInit ∈ lw_g) (w2 : Cond.instanceMethod Lib.objectInit ∈ lw_g) (w3 : Cond.code Lib.objectInit ⟨#[0xb1]⟩ 1 none ∈ lw_g) (hR : 1 ≤ R.frames ∧ 20 ≤ R.locals) (hW : (rest.map fun v => v.category).sum ≤ 8) (kk : G p l e R s m args below meth c nL D z0 E Qp mc ms (pc + 3) lv rest h rc rs) : G p l e R s m args below meth c nL D z0 E Qp mc ms pc lv (.ref a :: rest) h rc rs := fun ls H locs cells slots h1 h2 h3 h4 h5 => W.objInit C.1 C.2.1 C.2.2.2.1 (C.2.2.2.2.1 _ w1) (C.2.2.2.2.1 _ w2) (C.2.2.2.2.1 _ w3) rfl (h1.1.trans C.2.2.1.symm) rfl hd hR.1 (by show 2 * 0 + _ + 12 ≤ _; omega) (kk ls H locs cells slots h1 h2 h3 h4 h5)
theorem g_alen (C : Cx p R s m args meth c cc own nL ret D z0 E mc ms) {a k : Nat} {cA : ClassId} {x : vp_A} {ty : FieldType} (hd : decode cc pc = .ok (.arraylength, 1)) (ha : a ∈ h.1) (hF : h.2 a = .inl (cA, x)) (hk : (TY D)[k]? = some (cA, ty)) (kk : G p l e R s m args below meth c nL D z0 E Qp mc ms (pc + 1) lv (.int (nI x.1) :: rest) h rc rs) : G p l e R s m args below meth c nL D z0 E Qp mc ms pc lv (.ref a :: rest) h rc rs := by
  intro ls H locs cells slots h1 h2 h3 h4 h5
  obtain ⟨q0, hq0⟩ := pl_at ha
  rw [hF] at hq0
  exact va_alen C.1 C.2.1 C.2.2.2.2.2.1 h2.1 q0 k hq0 hk rfl hd (kk ls H locs cells slots h1 h2 h3 h4 h5)
theorem g_aald (C : Cx p R s m args meth c cc own nL ret D z0 E mc ms) {a n : Nat} {f : Nat → Option Nat} {i : Int32} (hd : decode cc pc = .ok (.aaload, 1)) (ha : a ∈ h.1) (hF : h.2 a = .inl (D.1 105, n, .inr (.inr (.inr (.inr f))))) (hin : vp_in i n) (kk : G p l e R s m args below meth c nL D z0 E Qp mc ms (pc + 1) lv (va_rf (f i.toNatClampNeg) :: rest) h rc rs) : G p l e R s m args below meth c nL D z0 E Qp mc ms pc lv (.int i :: .ref a :: rest) h rc rs := by
  intro ls H locs cells slots h1 h2 h3 h4 h5
  obtain ⟨q0, hq0⟩ := pl_at ha
  rw [hF] at hq0
  exact va_aldq C.1 C.2.1 C.2.2.2.2.2.1 h2.1 q0 5 hq0 rfl hin hd (kk ls H locs cells slots h1 h2 h3 h4 h5)
theorem any_of (C : Cx p R s m args meth c cc own nL ret D z0 E mc ms) {H : Heap} {ci v : Nat} {vs : List Value} {r : vw_C} (h2 : Wd z0 D h H) (hc : CL[ci]? = some r) (hca : va_Nw (.castable r.1 "java/lang/Object") s) (hv : v ∈ h.1) (hV : h.2 v = .inr (ci, vs)) : va_Any "java/lang/Object" s H v := by
  obtain ⟨q1, hq1⟩ := pl_at hv
  rw [hV] at hq1
  exact va_rAny C.2.2.2.2.2.1 h2.1 hq1 hc (fun comp c0 e1 e2 => vb_asgC hca comp c0 e1 e2)
theorem g_aast (C : Cx p R s m args meth c cc own nL ret D z0 E mc ms) {a n v ci : Nat} {vs : List Value} {r : vw_C} {f : Nat → Option Nat} {i : Int32} (hd : decode cc pc = .ok (.aastore, 1)) (ha : a ∈ h.1) (hF : h.2 a = .inl (D.1 105, n, .inr (.inr (.inr (.inr f))))) (hin : vp_in i n) (hc : CL[ci]? = some r) (hca : va_Nw (.castable r.1 "java/lang/Object") s) (hv : v ∈ h.1) (hV : h.2 v = .inr (ci, vs)) (kk : G p l e R s m args below meth c nL D z0 E Qp mc ms (pc + 1) lv rest (h.1, va_up h.2 a (.inl (D.1 105, n, .inr (.inr (.inr (.inr (va_up f i.toNatClampNeg (some v)))))))) rc rs) : G p l e R s m args below meth c nL D z0 E Qp mc ms pc lv (.ref v :: .int i :: .ref a :: rest) h rc rs := by
  intro ls H locs cells slots h1 h2 h3 h4 h5
  obtain ⟨q0, hq0⟩ := pl_at ha
  have hq1 := hq0
  rw [hF] at hq0
  refine va_astqM C.1 C.2.1 C.2.2.2.2.2.1 h2.1 h2.2 h3 q0 5 hq0 rfl (any_of C h2 hc hca hv hV) hin hd (fun H1 locs1 hP1 hD1 hS1 => ?_)
  rw [pl_set h2.2 ha hq1] at hP1 hD1
  exact kk ls H1 locs1 cells slots h1 ⟨hP1, hD1⟩ hS1 h4 h5
theorem g_copyb (C : Cx p R s m args meth c cc own nL ret D z0 E mc ms) {idx a b n0 n1 sp dp n : Nat} {f g : Nat → Int32} {i0 i1 i2 : Int32} (hd : decode cc pc = .ok (.invokestatic idx, 3)) (w1 : Cond.methodLink own idx arraycopyName ∈ lw_g) (w2 : Cond.native arraycopyName ∈ lw_g) (w3 : Cond.static arraycopyName ∈ lw_g) (w4 : Cond.initialized "java/lang/System" ∈ lw_g) (ha : a ∈ h.1) (hF : h.2 a = .inl (D.1 104, n0, .inl f)) (hb : b ∈ h.1) (hG : h.2 b = .inl (D.1 104, n1, .inl g)) (hsp : i0 = nI sp) (hdp : i1 = nI dp) (hnn : i2 = nI n) (hl0 : sp + n ≤ n0 ∧ n0 < 2 ^ 31) (hl1 : dp + n ≤ n1 ∧ n1 < 2 ^ 31) (hfit : sb_Fit f) (hR : 1 ≤ R.frames ∧ 60 ≤ R.locals) (hW : (rest.map fun v => v.category).sum ≤ 8) (kk : G p l e R s m args below meth c nL D z0 E Qp mc ms (pc + 3) lv rest (h.1, va_up h.2 b (.inl (D.1 104, n1, .inl (va_cpy f g sp dp n)))) rc rs) : G p l e R s m args below meth c nL D z0 E Qp mc ms pc lv (.int i2 :: .int i1 :: .ref b :: .int i0 :: .ref a :: rest) h rc rs := by
  intro ls H locs cells slots h1 h2 h3 h4 h5
  subst hsp hdp hnn
  obtain ⟨q0, hq0⟩ := pl_at ha
  obtain ⟨q1, hq1⟩ := pl_at hb
  have hq2 := hq1
  rw [hF] at hq0
  rw [hG] at hq1
  have c0 : (nI sp).toNatClampNeg = sp := nI_clamp (by omega)
  have c1 : (nI dp).toNatClampNeg = dp := nI_clamp (by omega)
  have c2 : (nI n).toNatClampNeg = n := nI_clamp (by omega)
  have hw9 : nativeFrameWords "java/lang/System" "arraycopy" 5 ≤ 20 := by decide
  refine va_copyi C.1 C.2.1 (C.2.2.1.trans h1.1.symm) C.2.2.2.1 (C.2.2.2.2.1 _ w1) (C.2.2.2.2.1 _ w2) (C.2.2.2.2.1 _ w3) (C.2.2.2.2.1 _ w4) C.2.2.2.2.2.1 h2.1 h2.2 h3 q0 q1 4 4 hq0 hq1 rfl rfl rfl (nI_pos (by omega)) (nI_pos (by omega)) (nI_pos (by omega)) (by rw [c0, c2]; exact hl0.1) (by rw [c1, c2]; exact hl1.1) (fun i _ => hfit _) hR.1 (by omega) hd (fun H1 locs1 hP1 hD1 hS1 => ?_)
  rw [c0, c1, c2, pl_set h2.2 hb hq2] at hP1 hD1
  exact kk ls H1 locs1 cells slots h1 ⟨hP1, hD1⟩ hS1 h4 h5
theorem g_copyq (C : Cx p R s m args meth c cc own nL ret D z0 E mc ms) {idx a b n0 n1 sp dp n : Nat} {f g : Nat → Option Nat} {i0 i1 i2 : Int32} (hd : decode cc pc = .ok (.invokestatic idx, 3)) (w1 : Cond.methodLink own idx arraycopyName ∈ lw_g) (w2 : Cond.native arraycopyName ∈ lw_g) (w3 : Cond.static arraycopyName ∈ lw_g) (w4 : Cond.initialized "java/lang/System" ∈ lw_g) (ha : a ∈ h.1) (hF : h.2 a = .inl (D.1 105, n0, .inr (.inr (.inr (.inr f))))) (hb : b ∈ h.1) (hG : h.2 b = .inl (D.1 105, n1, .inr (.inr (.inr (.inr g))))) (hsp : i0 = nI sp) (hdp : i1 = nI dp) (hnn : i2 = nI n) (hl0 : sp + n ≤ n0 ∧ n0 < 2 ^ 31) (hl1 : dp + n ≤ n1 ∧ n1 < 2 ^ 31) (hel : ∀ j y, f j = some y → ∃ ci vs r, y ∈ h.1 ∧ h.2 y = .inr (ci, vs) ∧ CL[ci]? = some r ∧ va_Nw (.castable r.1 "java/lang/Object") s) (hR : 1 ≤ R.frames ∧ 60 ≤ R.locals) (hW : (rest.map fun v => v.category).sum ≤ 8) (kk : G p l e R s m args below meth c nL D z0 E Qp mc ms (pc + 3) lv rest (h.1, va_up h.2 b (.inl (D.1 105, n1, .inr (.inr (.inr (.inr (va_cpy f g sp dp n))))))) rc rs) : G p l e R s m args below meth c nL D z0 E Qp mc ms pc lv (.int i2 :: .int i1 :: .ref b :: .int i0 :: .ref a :: rest) h rc rs := by
  intro ls H locs cells slots h1 h2 h3 h4 h5
  subst hsp hdp hnn
  obtain ⟨q0, hq0⟩ := pl_at ha
  obtain ⟨q1, hq1⟩ := pl_at hb
  have hq2 := hq1
  rw [hF] at hq0
  rw [hG] at hq1
  have c0 : (nI sp).toNatClampNeg = sp := nI_clamp (by omega)
  have c1 : (nI dp).toNatClampNeg = dp := nI_clamp (by omega)
  have c2 : (nI n).toNatClampNeg = n := nI_clamp (by omega)
  have hw9 : nativeFrameWords "java/lang/System" "arraycopy" 5 ≤ 20 := by decide
  refine va_copyM C.1 C.2.1 (C.2.2.1.trans h1.1.symm) C.2.2.2.1 (C.2.2.2.2.1 _ w1) (C.2.2.2.2.1 _ w2) (C.2.2.2.2.1 _ w3) (C.2.2.2.2.1 _ w4) C.2.2.2.2.2.1 h2.1 h2.2 h3 q0 q1 5 5 hq0 hq1 rfl rfl (nI_pos (by omega)) (nI_pos (by omega)) (nI_pos (by omega)) (by rw [c0, c2]; exact hl0.1) (by rw [c1, c2]; exact hl1.1) (fun i _ y hy => by
    obtain ⟨ci, vs, r, x1, x2, x3, x4⟩ := hel _ y hy
    exact any_of C h2 x3 x4 x1 x2) hR.1 (by omega) hd (fun H1 locs1 hP1 hD1 hS1 => ?_)
  rw [c0, c1, c2, pl_set h2.2 hb hq2] at hP1 hD1
  exact kk ls H1 locs1 cells slots h1 ⟨hP1, hD1⟩ hS1 h4 h5
theorem g_clone (C : Cx p R s m args meth c cc own nL ret D z0 E mc ms) {idx a n : Nat} {f : Nat → Int32} (hd : decode cc pc = .ok (.invokevirtual idx, 3)) (w1 : Cond.methodLink own idx ⟨"[B", "clone", "()Ljava/lang/Object;"⟩ ∈ lw_g) (w2 : Cond.sameMethod "[B" "java/lang/Object" "clone" "()Ljava/lang/Object;" ∈ lw_g) (w3 : Cond.native ⟨"java/lang/Object", "clone", "()Ljava/lang/Object;"⟩ ∈ lw_g) (w4 : Cond.instanceMethod ⟨"java/lang/Object", "clone", "()Ljava/lang/Object;"⟩ ∈ lw_g) (w5 : Cond.selects "[B" ⟨"[B", "clone", "()Ljava/lang/Object;"⟩ ⟨"java/lang/Object", "clone", "()Ljava/lang/Object;"⟩ ∈ lw_g) (hca : va_Nw (.castable "[B" "java/lang/Cloneable") s) (ha : a ∈ h.1) (hF : h.2 a = .inl (D.1 104, n, .inl f)) (hfit : sb_Fit f) (hR : 1 ≤ R.frames ∧ 60 ≤ R.locals) (hW : (rest.map fun v => v.category).sum ≤ 8) (hc : 1 ≤ rc ∧ n ≤ rs) (kk : ∀ q : Nat, q ∉ h.1 → z0 ≤ q → G p l e R s m args below meth c nL D z0 E Qp mc ms (pc + 3) lv (.ref q :: rest) (h.1 ++ [q], va_up h.2 q (.inl (D.1 104, n, .inl f))) (rc - 1) (rs - n)) : G p l e R s m args below meth c nL D z0 E Qp mc ms pc lv (.ref a :: rest) h rc rs := by
  intro ls H locs cells slots h1 h2 h3 h4 h5
  have hcl := C.2.2.2.2.2.2.2.2.2.2.2.2.1
  have hsl := C.2.2.2.2.2.2.2.2.2.2.2.2.2
  obtain ⟨q0, hq0⟩ := pl_at ha
  rw [hF] at hq0
  have hy := C.tyq 4 (q := (D.1 104, .byte)) rfl
  have hnm : s.vm.findClass "[B" = some (D.1 104) := hy
  refine va_clone C.1 C.2.1 (C.2.2.1.trans h1.1.symm) C.2.2.2.1 (C.2.2.2.2.1 _ w1) (C.2.2.2.2.1 _ w2) (C.2.2.2.2.1 _ w3) (C.2.2.2.2.1 _ w4) (C.2.2.2.2.1 _ w5) hca C.2.2.2.2.2.1 h2.1 h2.2 h3 C.free q0 4 hq0 rfl hnm ?_ hR.1 (by omega) (by omega) (by show slots + n ≤ _; omega) hd (fun q H1 hK1 hP1 hD1 hS1 => ?_)
  · intro i v hv
    rw [vp_cell_i] at hv
    by_cases hl : i < n
    · rw [arrV_read _ _ hl] at hv
      cases hv
      exact hfit i
    · have hz : (arrV (D.1 104) n (fun j => .int (f j))).slots.size ≤ i := by rw [arrV_size]; omega
      rw [Array.getElem?_eq_none hz] at hv
      cases hv
  · exact kk q (fresh_of hD1) (up_z hD1) ls H1 locs (cells + 1) (slots + n) h1 (Wd.push hP1 hD1) hS1 (by omega) (by show slots + n + _ ≤ _; omega)
theorem g_gets (C : Cx p R s m args meth c cc own nL ret D z0 E mc ms) {idx : Nat} {ref n d : String} {v : Value} (hd : decode cc pc = .ok (.getstatic idx, 3)) (hw : Cond.fieldLink own idx ref n d ∈ lw_g) (hZ : va_Z ref n d v (AA z0) s s.heap) (kk : G p l e R s m args below meth c nL D z0 E Qp mc ms (pc + 3) lv (v :: rest) h rc rs) : G p l e R s m args below meth c nL D z0 E Qp mc ms pc lv rest h rc rs := fun ls H locs cells slots h1 h2 h3 h4 h5 => va_gets C.1 C.2.1 hZ h3 C.2.2.2.1 (C.2.2.2.2.1 _ hw) (fun x hx => hx) hd (kk ls H locs cells slots h1 h2 h3 h4 h5)
theorem g_ldc (C : Cx p R s m args meth c cc own nL ret D z0 E mc ms) {idx : Nat} {v : Int32} (hd : decode cc pc = .ok (.ldc idx, 2)) (hw : Cond.constant own idx v ∈ lw_g) (kk : G p l e R s m args below meth c nL D z0 E Qp mc ms (pc + 2) lv (.int v :: rest) h rc rs) : G p l e R s m args below meth c nL D z0 E Qp mc ms pc lv rest h rc rs := fun ls H locs cells slots h1 h2 h3 h4 h5 => lv_ldc C.1 C.2.1 C.2.2.2.1 (C.2.2.2.2.1 _ hw) hd (kk ls H locs cells slots h1 h2 h3 h4 h5)
theorem g_ldcS (C : Cx p R s m args meth c cc own nL ret D z0 E mc ms) {idx q : Nat} {tx : String} (hd : decode cc pc = .ok (.ldc idx, 2)) (hZ : vk_R own idx tx q s) (kk : G p l e R s m args below meth c nL D z0 E Qp mc ms (pc + 2) lv (.ref q :: rest) h rc rs) : G p l e R s m args below meth c nL D z0 E Qp mc ms pc lv rest h rc rs := fun ls H locs cells slots h1 h2 h3 h4 h5 => va_ldcS C.1 C.2.1 C.2.2.2.1 hZ hd (kk ls H locs cells slots h1 h2 h3 h4 h5)
theorem g_ldcM (C : Cx p R s m args meth c cc own nL ret D z0 E mc ms) {idx q : Nat} {nm : String} (hd : decode cc pc = .ok (.ldc idx, 2)) (hw : Cond.classLink own idx nm ∈ lw_g) (hM : va_Mi nm q s) (kk : G p l e R s m args below meth c nL D z0 E Qp mc ms (pc + 2) lv (.ref q :: rest) h rc rs) : G p l e R s m args below meth c nL D z0 E Qp mc ms pc lv rest h rc rs := fun ls H locs cells slots h1 h2 h3 h4 h5 => va_ldcM C.1 C.2.1 C.2.2.2.1 (C.2.2.2.2.1 _ hw) hM hd (kk ls H locs cells slots h1 h2 h3 h4 h5)
theorem g_ifnull (C : Cx p R s m args meth c cc own nL ret D z0 E mc ms) {x : Nat} {off : Int} (hd : decode cc pc = .ok (.ifnull off, 3)) (kk : G p l e R s m args below meth c nL D z0 E Qp mc ms (pc + 3) lv rest h rc rs) : G p l e R s m args below meth c nL D z0 E Qp mc ms pc lv (.ref x :: rest) h rc rs := fun ls H locs cells slots h1 h2 h3 h4 h5 => lv_ifnull C.1 C.2.1 hd (kk ls H locs cells slots h1 h2 h3 h4 h5)
theorem g_ifnullN (C : Cx p R s m args meth c cc own nL ret D z0 E mc ms) {off : Int} {tgt : Nat} (hd : decode cc pc = .ok (.ifnull off, 3)) (ht : (pc : Int) + off = (tgt : Int)) (kk : G p l e R s m args below meth c nL D z0 E Qp mc ms tgt lv rest h rc rs) : G p l e R s m args below meth c nL D z0 E Qp mc ms pc lv (.null :: rest) h rc rs := fun ls H locs cells slots h1 h2 h3 h4 h5 => lv_ifnullN C.1 C.2.1 hd ht (kk ls H locs cells slots h1 h2 h3 h4 h5)
theorem g_ifnonnull (C : Cx p R s m args meth c cc own nL ret D z0 E mc ms) {x : Nat} {off : Int} {tgt : Nat} (hd : decode cc pc = .ok (.ifnonnull off, 3)) (ht : (pc : Int) + off = (tgt : Int)) (kk : G p l e R s m args below meth c nL D z0 E Qp mc ms tgt lv rest h rc rs) : G p l e R s m args below meth c nL D z0 E Qp mc ms pc lv (.ref x :: rest) h rc rs := fun ls H locs cells slots h1 h2 h3 h4 h5 => lv_ifnonnull C.1 C.2.1 hd ht (kk ls H locs cells slots h1 h2 h3 h4 h5)
theorem g_ifnonnullN (C : Cx p R s m args meth c cc own nL ret D z0 E mc ms) {off : Int} (hd : decode cc pc = .ok (.ifnonnull off, 3)) (kk : G p l e R s m args below meth c nL D z0 E Qp mc ms (pc + 3) lv rest h rc rs) : G p l e R s m args below meth c nL D z0 E Qp mc ms pc lv (.null :: rest) h rc rs := fun ls H locs cells slots h1 h2 h3 h4 h5 => lv_ifnonnullN C.1 C.2.1 hd (kk ls H locs cells slots h1 h2 h3 h4 h5)
theorem g_acmp_eq (C : Cx p R s m args meth c cc own nL ret D z0 E mc ms) {rx ry : Option Nat} {off : Int} {tgt : Nat} (hd : decode cc pc = .ok (.if_acmp .eq off, 3)) (ht : (pc : Int) + off = (tgt : Int)) (kt : rx = ry → G p l e R s m args below meth c nL D z0 E Qp mc ms tgt lv rest h rc rs) (kf : ¬ rx = ry → G p l e R s m args below meth c nL D z0 E Qp mc ms (pc + 3) lv rest h rc rs) : G p l e R s m args below meth c nL D z0 E Qp mc ms pc lv (va_rf ry :: va_rf rx :: rest) h rc rs := fun ls H locs cells slots h1 h2 h3 h4 h5 => lv_acmp_eq C.1 C.2.1 hd ht (fun z => kt z ls H locs cells slots h1 h2 h3 h4 h5) (fun z => kf z ls H locs cells slots h1 h2 h3 h4 h5)
theorem g_acmp_ne (C : Cx p R s m args meth c cc own nL ret D z0 E mc ms) {rx ry : Option Nat} {off : Int} {tgt : Nat} (hd : decode cc pc = .ok (.if_acmp .ne off, 3)) (ht : (pc : Int) + off = (tgt : Int)) (kt : ¬ rx = ry → G p l e R s m args below meth c nL D z0 E Qp mc ms tgt lv rest h rc rs) (kf : rx = ry → G p l e R s m args below meth c nL D z0 E Qp mc ms (pc + 3) lv rest h rc rs) : G p l e R s m args below meth c nL D z0 E Qp mc ms pc lv (va_rf ry :: va_rf rx :: rest) h rc rs := fun ls H locs cells slots h1 h2 h3 h4 h5 => lv_acmp_ne C.1 C.2.1 hd ht (fun z => kt z ls H locs cells slots h1 h2 h3 h4 h5) (fun z => kf z ls H locs cells slots h1 h2 h3 h4 h5)
theorem g_aloadN (C : Cx p R s m args meth c cc own nL ret D z0 E mc ms) {i : Nat} (q : Nat) (hd : decode cc pc = .ok (.aload i, 2)) (hk : lv[q]? = some (i, .null)) (kk : G p l e R s m args below meth c nL D z0 E Qp mc ms (pc + 2) lv (.null :: rest) h rc rs) : G p l e R s m args below meth c nL D z0 E Qp mc ms pc lv rest h rc rs := fun ls H locs cells slots h1 h2 h3 h4 h5 => lv_aloadN C.1 C.2.1 hd (lv_at h1 q hk) (kk ls H locs cells slots h1 h2 h3 h4 h5)
theorem g_astore_nN (C : Cx p R s m args meth c cc own nL ret D z0 E mc ms) {i : Nat} {j : Fin 4} (hd : decode cc pc = .ok (.astore_n j, 1)) (hi : (j : Nat) = i) (hn : i < nL) (hl : (i, Value.null) :: lv.filter (fun q => !(q.1 == i) && !(q.1 + 1 == i && q.2.category == 2)) = lv') (kk : G p l e R s m args below meth c nL D z0 E Qp mc ms (pc + 1) lv' rest h rc rs) : G p l e R s m args below meth c nL D z0 E Qp mc ms pc lv (.null :: rest) h rc rs := fun ls H locs cells slots h1 h2 h3 h4 h5 => lv_astore_nN C.1 C.2.1 hd hi h1 hn hl (fun ls' h1' => kk ls' H locs cells slots h1' h2 h3 h4 h5)
theorem g_astoreN (C : Cx p R s m args meth c cc own nL ret D z0 E mc ms) {i : Nat} (hd : decode cc pc = .ok (.astore i, 2)) (hn : i < nL) (hl : (i, Value.null) :: lv.filter (fun q => !(q.1 == i) && !(q.1 + 1 == i && q.2.category == 2)) = lv') (kk : G p l e R s m args below meth c nL D z0 E Qp mc ms (pc + 2) lv' rest h rc rs) : G p l e R s m args below meth c nL D z0 E Qp mc ms pc lv (.null :: rest) h rc rs := fun ls H locs cells slots h1 h2 h3 h4 h5 => lv_astoreN C.1 C.2.1 hd h1 hn hl (fun ls' h1' => kk ls' H locs cells slots h1' h2 h3 h4 h5)
theorem rc_of (C : Cx p R s m args meth c cc own nL ret D z0 E mc ms) {H : Heap} {a ci : Nat} {fs : List Value} {r : vw_C} (h2 : Wd z0 D h H) (hc : CL[ci]? = some r) (ha : a ∈ h.1) (hF : h.2 a = .inr (ci, fs)) : ∃ cell : Cell, H[a]? = some cell ∧ cell.vm.isStatics = false ∧ s.vm.findClass r.1 = some cell.cls := by
  obtain ⟨q0, hq0⟩ := pl_at ha
  rw [hF] at hq0
  exact va_recv C.2.2.2.2.2.1 h2.1 hc hq0
theorem g_ccast (C : Cx p R s m args meth c cc own nL ret D z0 E mc ms) {idx a ci N : Nat} {nm : String} {T : u_T} {fs : List Value} (hd : decode cc pc = .ok (.checkcast idx, 3)) (hw : Cond.classLink own idx nm ∈ lw_g) (hc : CL[ci]? = some (nm, T, N)) (ha : a ∈ h.1) (hF : h.2 a = .inr (ci, fs)) (kk : G p l e R s m args below meth c nL D z0 E Qp mc ms (pc + 3) lv (.ref a :: rest) h rc rs) : G p l e R s m args below meth c nL D z0 E Qp mc ms pc lv (.ref a :: rest) h rc rs := fun ls H locs cells slots h1 h2 h3 h4 h5 => va_castE C.1 C.2.1 C.2.2.2.1 (C.2.2.2.2.1 _ hw) (rc_of C h2 hc ha hF) hd (kk ls H locs cells slots h1 h2 h3 h4 h5)
theorem g_castB (C : Cx p R s m args meth c cc own nL ret D z0 E mc ms) {idx a n : Nat} {x : (Nat → Int32) ⊕ ((Nat → Int64) ⊕ ((Nat → UInt32) ⊕ ((Nat → UInt64) ⊕ (Nat → Option Nat))))} (hd : decode cc pc = .ok (.checkcast idx, 3)) (hw : Cond.classLink own idx "[B" ∈ lw_g) (ha : a ∈ h.1) (hF : h.2 a = .inl (D.1 104, n, x)) (kk : G p l e R s m args below meth c nL D z0 E Qp mc ms (pc + 3) lv (.ref a :: rest) h rc rs) : G p l e R s m args below meth c nL D z0 E Qp mc ms pc lv (.ref a :: rest) h rc rs := by
  intro ls H locs cells slots h1 h2 h3 h4 h5
  obtain ⟨q0, hq0⟩ := pl_at ha
  rw [hF] at hq0
  have hy : s.vm.findClass "[B" = some (D.1 104) := C.tyq 4 (q := (D.1 104, .byte)) rfl
  have hz : va_at D CL (a, .inl (D.1 104, n, x)) H := h2.1 q0 _ hq0
  refine va_castE C.1 C.2.1 C.2.2.2.1 (C.2.2.2.2.1 _ hw) ⟨vp_cell (D.1 104) (n, x), hz, ?_, ?_⟩ hd (kk ls H locs cells slots h1 h2 h3 h4 h5)
  · rcases x with x | x | x | x | x <;> rfl
  · rw [hy]
    rcases x with x | x | x | x | x <;> rfl
end GN
section GT
variable {p : Program} {l : Launch} {e : Env} {R : Room} {s : State} {m : MethodId} {args : Array Value} {below : List Frame} {meth : Method} {c : Code} {cc : ByteArray} {own : String} {nL : Nat} {ret : Option FieldType} {D : va_G} {z0 : Nat} {E : State → Prop} {Qp : Outcome → hp → Prop} {mc ms pc : Nat} {lv lv' : List (Nat × Value)} {st rest : List Value} {h : hp} {rc rs : Nat}
theorem g_throw (C : Cx p R s m args meth c cc own nL ret D z0 E mc ms) (htr : l.stackTraces = false) {cls : String} {names : List String} {ix ic ci : Nat} (hci : CL[ci]? = some (cls, TX, 0)) (hcls : Bundle.fit cls = true) (hnames : ∀ n ∈ names, Bundle.fit n = true) (w1 : Cond.classLink own ix cls ∈ lw_g) (w2 : Cond.instantiable cls 6 ∈ lw_g) (w3 : Cond.initialized cls ∈ lw_g) (hE0 : ∀ U : State, E U → ∀ a ∈ Bundle.ownAtoms0 own ic cls names, ∀ A, a.before A U = true) (d0 : decode cc pc = .ok (.new ix, 3)) (d3 : decode cc (pc + 3) = .ok (.dup, 1)) (d4 : decode cc (pc + 4) = .ok (.invokespecial ic, 3)) (d7 : decode cc (pc + 7) = .ok (.athrow, 1)) (hR : names.length + 4 ≤ R.frames ∧ 13 * (names.length + 1) + 50 ≤ R.locals) (hW : (rest.map fun v => v.category).sum ≤ 8) (hc : 1 ≤ rc ∧ 6 ≤ rs) (hq : ∀ x : Nat, x ∉ h.1 → z0 ≤ x → Qp (.threw x) (h.1 ++ [x], va_up h.2 x (.inr (ci, [])))) : G p l e R s m args below meth c nL D z0 E Qp mc ms pc lv rest h rc rs := by
  intro ls H locs cells slots h1 h2 h3 h4 h5
  have hcl := C.2.2.2.2.2.2.2.2.2.2.2.2.1
  have hsl := C.2.2.2.2.2.2.2.2.2.2.2.2.2
  have hz := C.2.2.2.2.2.2.2.1
  refine W.widen (k := mc - 1) (n := ms - 6) (by omega) (by omega) ?_
  have e1 : mc - 1 + 1 = mc := by omega
  have e2 : ms - 6 + 6 = ms := by omega
  have key := xt_throw (p := p) (l := l) (e := e) (R := R) (s := s) (m := m) (args := args) (below := below) (meth := meth) (c := c) (H := H) (locs := locs) (cells := mc - 1) (slots := ms - 6) (Qc := QcO z0 D E Qp) (free := AA z0) (rest := rest) (ls := ls) (pc := pc) C.1 C.2.1 htr C.2.2.2.1 hcls hnames (C.2.2.2.2.1 _ w1) (C.2.2.2.2.1 _ w2) (C.2.2.2.2.1 _ w3)
    (fun a ha U hU hWm => hE0 U (C.world h2 h3 U hU hWm).1.2.2.2 a ha args) (h1.1.trans C.2.2.1.symm) d0 d3 d4 d7 (fun z hz => absurd (C.2.2.2.2.2.2.2.2.2.2.2.1 z hz) id) C.2.2.2.2.2.2.1 (by omega) (by omega) hR.1 (by omega) ?_ h3.2.2
  · rw [e1, e2] at key
    exact key
  · intro U hWm hkeep hce
    obtain ⟨ce, hc1, hc2, hc3⟩ := hce
    have hszU : H.size < U.heap.size := (Array.getElem?_eq_some_iff.mp hc1).1
    have hHz : z0 ≤ H.size := Nat.le_trans hz h3.1
    have hk2 : ∀ q : Nat, q < H.size → U.heap[q]? = H[q]? := by
      intro q hq
      obtain ⟨cq, hcq⟩ : ∃ cq, H[q]? = some cq := ⟨H[q], Array.getElem?_eq_getElem hq⟩
      rw [hkeep q cq hcq, hcq]
    have hkp : ∀ (k : Nat) (x : Nat × va_E), (va_pl h.1 h.2)[k]? = some x → U.heap[x.1]? = H[x.1]? := fun k x hx => hk2 x.1 ((h2.1 k x hx).lt)
    have hP1 : va_P D CL (va_pl h.1 h.2 ++ [(H.size, .inr (ci, []))]) U.heap := by
      refine (h2.1.kept hkp).app (fun k x hx => ?_)
      have hz1 : k < 1 := (List.getElem?_eq_some_iff.mp hx).1
      rw [show k = 0 by omega] at hx
      cases hx
      have hcA := (C.2.2.2.2.2.1.1 ci _ hci).2.1
      refine ⟨_, hci, ce, hc1, Option.some.inj (hc2.symm.trans hcA), hc3, fun k hk => absurd hk (Nat.not_lt_zero _)⟩
    have hD1 : va_D (AA z0) (va_pl h.1 h.2 ++ [(H.size, .inr (ci, []))]) := h2.2.push h2.1 rfl hHz
    refine ⟨(h.1 ++ [H.size], va_up h.2 H.size (.inr (ci, []))), hq H.size (fresh_of hD1) hHz, ⟨Wd.push hP1 hD1, va_K.moved hWm.alike C.2.2.2.2.2.1, Nat.le_trans hHz (Nat.le_of_lt hszU), ?_⟩, ?_⟩
    · refine C.2.2.2.2.2.2.2.2.2.1 s U hWm (Nat.le_trans h3.1 (Nat.le_of_lt hszU)) (fun q hq => ?_) C.2.2.2.2.2.2.2.2.1
      rw [hk2 q (Nat.lt_of_lt_of_le hq hHz)]
      exact h3.2.1 q (Nat.lt_of_lt_of_le hq hz) (Nat.not_le.mpr hq)
    · refine ⟨Nat.le_trans h3.1 (Nat.le_of_lt hszU), fun q hq => ?_⟩
      rw [hk2 q (Nat.lt_of_lt_of_le hq hHz)]
      exact h3.2.1 q (Nat.lt_of_lt_of_le hq hz) (Nat.not_le.mpr hq)
end GT
