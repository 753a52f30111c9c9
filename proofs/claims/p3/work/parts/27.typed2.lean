/-! Pure contracts (the pool stays as it is) and typed ones; throws of the class; writes that keep the kinds. -/
def rmT (lev c s : Nat) : Room := { frames := lev, locals := 60 * lev, cells := c, slots := s }
def PQ (h : hp) (Rel : Option Value → Prop) : Outcome → hp → Prop := fun o h' => h' = h ∧ ∃ v, o = .returned v ∧ Rel v
def PC (l : Launch) (y : MethodName) (cc : ByteArray) (maxL : Nat) (ret : Option FieldType) (lev : Nat) (D : va_G) (z0 : Nat) (k : Nat → Nat) (as : List Value) (Pre : hp → Prop) (Rel : Option Value → Prop) : Prop := Ctr l y cc maxL ret (rmT lev 0 0) D z0 (EE z0 k) (fun a h => a = as ∧ Pre h) (fun _ h o h' => PQ h Rel o h')
def TQ (D : va_G) (z0 : Nat) (k : Nat → Nat) (K : KM) (h : hp) (B T : Nat) (X : Nat → Prop) (Rel : Outcome → KM → hp → Prop) : Outcome → hp → Prop := fun o h' => ∃ K', TP D z0 k K' B T h' ∧ Ev k X K h K' h' ∧ Rel o K' h'
def TC (l : Launch) (y : MethodName) (cc : ByteArray) (maxL : Nat) (ret : Option FieldType) (rm : Room) (D : va_G) (z0 : Nat) (k : Nat → Nat) (as : List Value) (K : KM) (B T : Nat) (Pre : hp → Prop) (B' T' : Nat) (X : Nat → Prop) (Rel : Outcome → KM → hp → Prop) : Prop := Ctr l y cc maxL ret rm D z0 (EE z0 k) (fun a h => a = as ∧ TP D z0 k K B T h ∧ Pre h) (fun _ h o h' => TQ D z0 k K h B' T' X Rel o h')
theorem pc_of {l : Launch} {y : MethodName} {cc : ByteArray} {maxL : Nat} {ret : Option FieldType} {lev : Nat} {D : va_G} {z0 : Nat} {k : Nat → Nat} {as : List Value} {Pre : hp → Prop} {Rel : Option Value → Prop} (hy : plainName y.cls = true) (hsz : (lg_sl as).length ≤ maxL)
    (body : ∀ (h : hp), Pre h → ∀ (p : Program) (e : Env) (s : State) (m : MethodId) (args : Array Value) (below : List Frame) (meth : Method) (c : Code), Cx p (rmT lev 0 0) s m args meth c cc y.cls maxL ret D z0 (EE z0 k) 0 0 →
      G p l e (rmT lev 0 0) s m args below meth c maxL D z0 (EE z0 k) (PQ h Rel) 0 0 0 (lv_args 0 as) [] h 0 0) : PC l y cc maxL ret lev D z0 k as Pre Rel := by
  refine ctr_of Cl.stb hy (fun as h q => by rw [q.1]; exact hsz) ?_
  intro as h q p e s m args below meth c cx
  obtain ⟨rfl, hm⟩ := q
  exact body h hm p e s m args below meth c cx
theorem tc_of {l : Launch} {y : MethodName} {cc : ByteArray} {maxL : Nat} {ret : Option FieldType} {rm : Room} {D : va_G} {z0 : Nat} {k : Nat → Nat} {as : List Value} {K : KM} {B T B' T' : Nat} {Pre : hp → Prop} {X : Nat → Prop} {Rel : Outcome → KM → hp → Prop} (hy : plainName y.cls = true) (hsz : (lg_sl as).length ≤ maxL)
    (body : ∀ (h : hp), TP D z0 k K B T h → Pre h → ∀ (p : Program) (e : Env) (s : State) (m : MethodId) (args : Array Value) (below : List Frame) (meth : Method) (c : Code), Cx p rm s m args meth c cc y.cls maxL ret D z0 (EE z0 k) rm.cells rm.slots → meth.name = y.name →
      G p l e rm s m args below meth c maxL D z0 (EE z0 k) (TQ D z0 k K h B' T' X Rel) rm.cells rm.slots 0 (lv_args 0 as) [] h rm.cells rm.slots) : TC l y cc maxL ret rm D z0 k as K B T Pre B' T' X Rel := by
  refine ctrN_of Cl.stb hy (fun as h q => by rw [q.1]; exact hsz) ?_
  intro as h q p e s m args below meth c cx hnm
  obtain ⟨rfl, hT, hm⟩ := q
  exact body h hT hm p e s m args below meth c cx hnm
theorem up_oldn {α : Type} {f : Nat → α} {L : List Nat} {q v : Nat} {e : α} (hq : q ∉ L) (hv : v ∈ L) : va_up f q e v = f v := by
  have hne : v ≠ q := fun z => hq (z ▸ hv)
  exact va_up_ne _ _ hne
section GP
variable {p : Program} {l : Launch} {e : Env} {R : Room} {s : State} {m : MethodId} {args : Array Value} {below : List Frame} {meth : Method} {c : Code} {cc : ByteArray} {own : String} {nL : Nat} {ret : Option FieldType} {D : va_G} {z0 : Nat} {Qp : Outcome → hp → Prop} {mc ms pc : Nat} {lv lv' : List (Nat × Value)} {st rest : List Value} {h : hp} {rc rs : Nat}
variable {k : Nat → Nat} {K K' : KM} {B T : Nat} {h0 : hp}
theorem g_pcV (C : Cx p R s m args meth c cc own nL ret D z0 (EE z0 k) mc ms) {idx n maxL' lev' : Nat} {y : MethodName} {cc' : ByteArray} {ret' : Option FieldType} {Pre : hp → Prop} {Rel : Option Value → Prop} {As : List Value} {a : Nat} (hc : PC l y cc' maxL' ret' lev' D z0 k (.ref a :: As) Pre Rel) (hd : decode cc pc = .ok (.invokevirtual idx, 3)) (w1 : Cond.methodLink own idx y ∈ lw_g) (w2 : Cond.instanceMethod y ∈ lw_g) (w3 : Cond.selects y.cls y y ∈ lw_g) (w4 : Cond.initialized y.cls ∈ lw_g) (w5 : Cond.code y cc' maxL' ret' ∈ lw_g) (hy : y.cls ≠ "java/lang/invoke/MethodHandle" ∧ y.cls ≠ "java/lang/invoke/VarHandle" ∧ (parseMethodDescriptor y.desc).map (fun d => d.parameters.length) = some n) (hn : As.length = n) {ci N : Nat} {T : u_T} {fs : List Value} (hci : CL[ci]? = some (y.cls, T, N)) (ha : a ∈ h.1) (hF : h.2 a = .inr (ci, fs)) (hpre : Pre h) (hR : lev' + 1 ≤ R.frames ∧ 8 + (maxL' + 11) + 60 * lev' ≤ R.locals) (hW : (rest.map fun v => v.category).sum ≤ 8) (kr : ∀ v : Option Value, Rel v → G p l e R s m args below meth c nL D z0 (EE z0 k) Qp mc ms (pc + 3) lv (v.toList ++ rest) h rc rs) : G p l e R s m args below meth c nL D z0 (EE z0 k) Qp mc ms pc lv (As.reverse ++ .ref a :: rest) h rc rs :=
  g_callV C hc hd w1 w2 w3 w4 w5 hy hn hci ha hF ⟨rfl, hpre⟩ hR hW ⟨Nat.zero_le _, Nat.zero_le _⟩ (fun v h' q => by
    obtain ⟨rfl, v', e', rel⟩ := q
    cases e'
    exact kr v rel) (fun x h' q => by
    obtain ⟨-, v', e', -⟩ := q
    cases e')
theorem g_pcVS (C : Cx p R s m args meth c cc own nL ret D z0 (EE z0 k) mc ms) {idx n maxL' lev' : Nat} {y : MethodName} {cc' : ByteArray} {ret' : Option FieldType} {Pre : hp → Prop} {Rel : Option Value → Prop} {As : List Value} {a v0 n0 : Nat} (hc : PC l y cc' maxL' ret' lev' D z0 k (.ref a :: As) Pre Rel) (hd : decode cc pc = .ok (.invokevirtual idx, 3)) (w1 : Cond.methodLink own idx y ∈ lw_g) (w2 : Cond.instanceMethod y ∈ lw_g) (w3 : Cond.selects y.cls y y ∈ lw_g) (w4 : Cond.initialized y.cls ∈ lw_g) (w5 : Cond.code y cc' maxL' ret' ∈ lw_g) (hy0 : y.cls = "java/lang/String") (hpn : (parseMethodDescriptor y.desc).map (fun d => d.parameters.length) = some n) (hn : As.length = n) (hs : StrP D k h a v0 n0) (hpre : Pre h) (hR : lev' + 1 ≤ R.frames ∧ 8 + (maxL' + 11) + 60 * lev' ≤ R.locals) (hW : (rest.map fun v => v.category).sum ≤ 8) (kr : ∀ v : Option Value, Rel v → G p l e R s m args below meth c nL D z0 (EE z0 k) Qp mc ms (pc + 3) lv (v.toList ++ rest) h rc rs) : G p l e R s m args below meth c nL D z0 (EE z0 k) Qp mc ms pc lv (As.reverse ++ .ref a :: rest) h rc rs :=
  g_callVS C hc hd w1 w2 w3 w4 w5 hy0 hpn hn hs ⟨rfl, hpre⟩ hR hW ⟨Nat.zero_le _, Nat.zero_le _⟩ (fun v h' q => by
    obtain ⟨rfl, v', e', rel⟩ := q
    cases e'
    exact kr v rel) (fun x h' q => by
    obtain ⟨-, v', e', -⟩ := q
    cases e')
theorem g_pcS (C : Cx p R s m args meth c cc own nL ret D z0 (EE z0 k) mc ms) {idx n maxL' lev' : Nat} {y : MethodName} {cc' : ByteArray} {ret' : Option FieldType} {Pre : hp → Prop} {Rel : Option Value → Prop} {As : List Value} (hc : PC l y cc' maxL' ret' lev' D z0 k As Pre Rel) (hd : decode cc pc = .ok (.invokestatic idx, 3)) (w1 : Cond.methodLink own idx y ∈ lw_g) (w2 : Cond.static y ∈ lw_g) (w4 : Cond.initialized y.cls ∈ lw_g) (w5 : Cond.code y cc' maxL' ret' ∈ lw_g) (hy : y.cls ≠ "java/lang/invoke/MethodHandle" ∧ y.cls ≠ "java/lang/invoke/VarHandle" ∧ (parseMethodDescriptor y.desc).map (fun d => d.parameters.length) = some n) (hn : As.length = n) (hpre : Pre h) (hR : lev' + 1 ≤ R.frames ∧ 8 + (maxL' + 11) + 60 * lev' ≤ R.locals) (hW : (rest.map fun v => v.category).sum ≤ 8) (kr : ∀ v : Option Value, Rel v → G p l e R s m args below meth c nL D z0 (EE z0 k) Qp mc ms (pc + 3) lv (v.toList ++ rest) h rc rs) : G p l e R s m args below meth c nL D z0 (EE z0 k) Qp mc ms pc lv (As.reverse ++ rest) h rc rs :=
  g_callS C hc hd w1 w2 w4 w5 hy hn ⟨rfl, hpre⟩ hR hW ⟨Nat.zero_le _, Nat.zero_le _⟩ (fun v h' q => by
    obtain ⟨rfl, v', e', rel⟩ := q
    cases e'
    exact kr v rel) (fun x h' q => by
    obtain ⟨-, v', e', -⟩ := q
    cases e')
theorem t_raw {a : Nat} {e0 : va_E} (hT : TP D z0 k K B T h) (hq : a ∉ h.1) (hz : z0 ≤ a) (kk : ∀ (K' : KM) (h' : hp), TP D z0 k K' B T h' → Ev k X0 K h K' h' → K' a = (0, 0, 0) → a ∈ h'.1 → h'.2 a = e0 → (∀ b, b ∈ h.1 → b ∈ h'.1 ∧ K' b = K b ∧ h'.2 b = h.2 b) → G p l e R s m args below meth c nL D z0 (EE z0 k) Qp mc ms pc lv st h' rc rs) : G p l e R s m args below meth c nL D z0 (EE z0 k) Qp mc ms pc lv st (h.1 ++ [a], va_up h.2 a e0) rc rs := kk _ _ (hT.raw hq hz) (Ev.push hT hq hz) (va_up_self _ _ _) (List.mem_append_right _ (List.mem_singleton.mpr rfl)) (va_up_self _ _ _) (fun b hb => ⟨List.mem_append_left _ hb, up_oldn hq hb, up_oldn hq hb⟩)
theorem t_push {a : Nat} {q : Nat × Nat × Nat} {e0 : va_E} (hT : TP D z0 k K B T h) (hq : a ∉ h.1) (hz : z0 ≤ a) (c0 : okc D k (va_up K a q) (h.1 ++ [a]) B T q e0) (kk : ∀ (K' : KM) (h' : hp), TP D z0 k K' B T h' → Ev k X0 K h K' h' → K' a = q → a ∈ h'.1 → h'.2 a = e0 → (∀ b, b ∈ h.1 → b ∈ h'.1 ∧ K' b = K b ∧ h'.2 b = h.2 b) → G p l e R s m args below meth c nL D z0 (EE z0 k) Qp mc ms pc lv st h' rc rs) : G p l e R s m args below meth c nL D z0 (EE z0 k) Qp mc ms pc lv st (h.1 ++ [a], va_up h.2 a e0) rc rs := kk _ _ (hT.push hq hz c0) (Ev.push hT hq hz) (va_up_self _ _ _) (List.mem_append_right _ (List.mem_singleton.mpr rfl)) (va_up_self _ _ _) (fun b hb => ⟨List.mem_append_left _ hb, up_oldn hq hb, up_oldn hq hb⟩)
/-- a written cell of a kind that is known -/
theorem t_put {a κ : Nat} {e0 : va_E} (hT : TP D z0 k K B T h) (ha : Ty K h κ a) (c0 : okc D k K h.1 B T (K a) e0) (kk : ∀ h' : hp, TP D z0 k K B T h' → Ev k (fun z => z = a) K h K h' → h'.2 a = e0 → G p l e R s m args below meth c nL D z0 (EE z0 k) Qp mc ms pc lv st h' rc rs) : G p l e R s m args below meth c nL D z0 (EE z0 k) Qp mc ms pc lv st (h.1, va_up h.2 a e0) rc rs := kk _ (hT.putS ha.1 c0) (Ev.putS hT ha.1) (va_up_self _ _ _)
theorem t_putK {a κ : Nat} {q : Nat × Nat × Nat} {e0 : va_E} (hT : TP D z0 k K B T h) (ha : Ty K h κ a) (hq : KLe (K a) q) (c0 : okc D k (va_up K a q) h.1 B T q e0) (kk : ∀ (K' : KM) (h' : hp), TP D z0 k K' B T h' → Ev k (fun z => z = a) K h K' h' → K' a = q → h'.2 a = e0 → (∀ b, b ≠ a → K' b = K b ∧ h'.2 b = h.2 b) → G p l e R s m args below meth c nL D z0 (EE z0 k) Qp mc ms pc lv st h' rc rs) : G p l e R s m args below meth c nL D z0 (EE z0 k) Qp mc ms pc lv st (h.1, va_up h.2 a e0) rc rs := kk _ _ (hT.put ha.1 (fun _ => hq) c0) (Ev.put hT ha.1 (fun _ => hq)) (va_up_self _ _ _) (va_up_self _ _ _) (fun b hb => ⟨va_up_ne _ _ hb, va_up_ne _ _ hb⟩)
/-- a cell whose kind is not told yet, or whose holder knows it better -/
theorem t_putR {a : Nat} {e0 : va_E} (hT : TP D z0 k K B T h) (ha : a ∈ h.1) (hk : (K a).1 = 0 ∨ (K a).1 = 99) (kk : ∀ h' : hp, TP D z0 k K B T h' → Ev k (fun z => z = a) K h K h' → a ∈ h'.1 → h'.2 a = e0 → (∀ b, b ≠ a → h'.2 b = h.2 b) → h'.1 = h.1 → G p l e R s m args below meth c nL D z0 (EE z0 k) Qp mc ms pc lv st h' rc rs) : G p l e R s m args below meth c nL D z0 (EE z0 k) Qp mc ms pc lv st (h.1, va_up h.2 a e0) rc rs := by
  have c0 : okc D k K h.1 B T (K a) e0 := by
    refine ⟨fun x => absurd x.1 (by omega), fun x => absurd x.1 (by omega), ?_⟩
    unfold oko
    split <;> first | (exact trivial) | omega
  have ev := Ev.put (q := K a) (e := e0) hT ha (fun _ => KLe.rf)
  rw [up_same] at ev
  exact kk _ (hT.putS ha c0) ev ha (va_up_self _ _ _) (fun b hb => va_up_ne _ _ hb) rfl
/-- the kind becomes known -/
theorem t_kind {a : Nat} {q : Nat × Nat × Nat} {e0 : va_E} (hT : TP D z0 k K B T h) (ha : a ∈ h.1) (h0 : (K a).1 = 0) (he : h.2 a = e0) (c0 : okc D k (va_up K a q) h.1 B T q e0) : TP D z0 k (va_up K a q) B T h ∧ Ev k (fun z => z = a) K h (va_up K a q) h := by
  have e1 : va_up h.2 a e0 = h.2 := by rw [← he]; exact up_same
  have x := TP.put (q := q) (e := e0) hT ha (fun z => absurd h0 z) c0
  have y := Ev.put (q := q) (e := e0) hT ha (fun z => absurd h0 z)
  rw [e1] at x y
  exact ⟨x, y⟩
end GP
def RetI : Outcome → KM → hp → Prop := fun o _ _ => ∃ v : Int32, o = .returned (some (.int v))
def Thr (S : Nat → Prop) : Outcome → KM → hp → Prop := fun o _ h' => ∃ x ci : Nat, o = .threw x ∧ x ∈ h'.1 ∧ S ci ∧ h'.2 x = .inr (ci, [])
def RT (S : Nat → Prop) : Outcome → KM → hp → Prop := fun o K h => RetI o K h ∨ Thr S o K h
abbrev S1 : Nat → Prop := fun ci => ci = 10 ∨ ci = 11
abbrev S2 : Nat → Prop := fun ci => ci = 10 ∨ ci = 12
theorem thr {D : va_G} {z0 : Nat} {k : Nat → Nat} {K0 K : KM} {h0 h : hp} {B T x ci : Nat} {S : Nat → Prop} (hS : S ci) (hT : TP D z0 k K B T h) (hE : Ev k X0 K0 h0 K h) (hx : x ∉ h.1) (hz : z0 ≤ x) : TQ D z0 k K0 h0 B T X0 (RT S) (.threw x) (h.1 ++ [x], va_up h.2 x (.inr (ci, []))) :=
  ⟨_, hT.frz hx hz, hE.tr (Ev.push hT hx hz), Or.inr ⟨x, ci, rfl, List.mem_append_right _ (List.mem_singleton.mpr rfl), hS, va_up_self _ _ _⟩⟩
theorem thrOut {D : va_G} {z0 : Nat} {k : Nat → Nat} {K0 K K1 : KM} {h0 h h1 : hp} {B T B' T' x : Nat} {S : Nat → Prop} (hB : B' ≤ B) (hTT : T' ≤ T) (hE : Ev k X0 K0 h0 K h) (q : TQ D z0 k K h B' T' X0 (RT S) (.threw x) h1) : TQ D z0 k K0 h0 B T X0 (RT S) (.threw x) h1 := by
  obtain ⟨K2, t, ev, r⟩ := q
  exact ⟨K2, t.mono hB hTT, hE.tr ev, r⟩
section GTH
variable {p : Program} {l : Launch} {e : Env} {R : Room} {s : State} {m : MethodId} {args : Array Value} {below : List Frame} {meth : Method} {c : Code} {cc : ByteArray} {nL : Nat} {ret : Option FieldType} {D : va_G} {z0 : Nat} {Qp : Outcome → hp → Prop} {mc ms pc : Nat} {lv lv' : List (Nat × Value)} {st rest : List Value} {h : hp} {rc rs : Nat}
variable {k : Nat → Nat}
theorem at_iae : ∀ a ∈ Bundle.ownAtoms0 "RealmDesk" 77 "java/lang/IllegalArgumentException" ["java/lang/RuntimeException", "java/lang/Exception"], a ∈ wE := by decide +kernel
theorem t_iae (C : Cx p R s m args meth c cc "RealmDesk" nL ret D z0 (EE z0 k) mc ms) (htr : l.stackTraces = false) (d0 : decode cc pc = .ok (.new 75, 3)) (d3 : decode cc (pc + 3) = .ok (.dup, 1)) (d4 : decode cc (pc + 4) = .ok (.invokespecial 77, 3)) (d7 : decode cc (pc + 7) = .ok (.athrow, 1)) (hR : 6 ≤ R.frames ∧ 100 ≤ R.locals) (hW : (rest.map fun v => v.category).sum ≤ 8) (hc : 1 ≤ rc ∧ 6 ≤ rs) (hq : ∀ x : Nat, x ∉ h.1 → z0 ≤ x → Qp (.threw x) (h.1 ++ [x], va_up h.2 x (.inr (10, [])))) : G p l e R s m args below meth c nL D z0 (EE z0 k) Qp mc ms pc lv rest h rc rs :=
  g_throw C htr (names := ["java/lang/RuntimeException", "java/lang/Exception"]) (ci := 10) rfl (by decide +kernel) (by decide +kernel) t_622 t_299 t_19 (fun U hU a ha A => (Cl.here hU).1 a (at_iae a ha) A) d0 d3 d4 d7 ⟨hR.1, by have := hR.2; exact Nat.le_trans (by decide) this⟩ hW hc hq
theorem at_ise : ∀ a ∈ Bundle.ownAtoms0 "RealmDesk" 194 "java/lang/IllegalStateException" ["java/lang/RuntimeException", "java/lang/Exception"], a ∈ wE := by decide +kernel
theorem t_ise (C : Cx p R s m args meth c cc "RealmDesk" nL ret D z0 (EE z0 k) mc ms) (htr : l.stackTraces = false) (d0 : decode cc pc = .ok (.new 192, 3)) (d3 : decode cc (pc + 3) = .ok (.dup, 1)) (d4 : decode cc (pc + 4) = .ok (.invokespecial 194, 3)) (d7 : decode cc (pc + 7) = .ok (.athrow, 1)) (hR : 6 ≤ R.frames ∧ 100 ≤ R.locals) (hW : (rest.map fun v => v.category).sum ≤ 8) (hc : 1 ≤ rc ∧ 6 ≤ rs) (hq : ∀ x : Nat, x ∉ h.1 → z0 ≤ x → Qp (.threw x) (h.1 ++ [x], va_up h.2 x (.inr (11, [])))) : G p l e R s m args below meth c nL D z0 (EE z0 k) Qp mc ms pc lv rest h rc rs :=
  g_throw C htr (names := ["java/lang/RuntimeException", "java/lang/Exception"]) (ci := 11) rfl (by decide +kernel) (by decide +kernel) t_641 t_642 t_23 (fun U hU a ha A => (Cl.here hU).1 a (at_ise a ha) A) d0 d3 d4 d7 ⟨hR.1, by have := hR.2; exact Nat.le_trans (by decide) this⟩ hW hc hq
theorem at_nse : ∀ a ∈ Bundle.ownAtoms0 "RealmDesk" 94 "java/util/NoSuchElementException" ["java/lang/RuntimeException", "java/lang/Exception"], a ∈ wE := by decide +kernel
theorem t_nse (C : Cx p R s m args meth c cc "RealmDesk" nL ret D z0 (EE z0 k) mc ms) (htr : l.stackTraces = false) (d0 : decode cc pc = .ok (.new 92, 3)) (d3 : decode cc (pc + 3) = .ok (.dup, 1)) (d4 : decode cc (pc + 4) = .ok (.invokespecial 94, 3)) (d7 : decode cc (pc + 7) = .ok (.athrow, 1)) (hR : 6 ≤ R.frames ∧ 100 ≤ R.locals) (hW : (rest.map fun v => v.category).sum ≤ 8) (hc : 1 ≤ rc ∧ 6 ≤ rs) (hq : ∀ x : Nat, x ∉ h.1 → z0 ≤ x → Qp (.threw x) (h.1 ++ [x], va_up h.2 x (.inr (12, [])))) : G p l e R s m args below meth c nL D z0 (EE z0 k) Qp mc ms pc lv rest h rc rs :=
  g_throw C htr (names := ["java/lang/RuntimeException", "java/lang/Exception"]) (ci := 12) rfl (by decide +kernel) (by decide +kernel) t_877 t_878 t_28 (fun U hU a ha A => (Cl.here hU).1 a (at_nse a ha) A) d0 d3 d4 d7 ⟨hR.1, by have := hR.2; exact Nat.le_trans (by decide) this⟩ hW hc hq
end GTH
