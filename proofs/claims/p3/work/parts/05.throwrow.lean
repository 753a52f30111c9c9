section XN
variable {p : Program} {l : Launch} {e : Env} {R : Room} {s : State} {m : MethodId} {args : Array Value} {below : List Frame} {meth : Method} {c : Code} {H : Heap} {locs : List Loc} {cells slots : Nat} {Q : State → Prop}
set_option maxHeartbeats 4000000 in
/-- 'throw new X()' where no handler of the method covers it: the method ends by it; one cell of six slots is new, every other one is as it was -/
theorem xt_throw {cc : ByteArray} {Qc : Array Value → State → Outcome → State → Prop} {free : Addr → Prop} (hexec : p.tables.exec = Jvm.exec) (hb : c.code = cc) (htr : l.stackTraces = false) {own cls : String} {names : List String} {ix ic pc : Nat} {ls : Array Slot} {rest : List Value}
    (hown : s.vm.findClass own = some m.cls) (hcls : Bundle.fit cls = true) (hnames : ∀ n ∈ names, Bundle.fit n = true)
    (hlink : (Cond.classLink own ix cls).before args s = true) (hins : (Cond.instantiable cls 6).before args s = true) (hinit : (Cond.initialized cls).before args s = true)
    (hw : ∀ a ∈ Bundle.ownAtoms0 own ic cls names, ∀ U : State, U.heap = H → s.WarmedH U.vm → a.before args U = true)
    (hsize : ls.size = c.maxLocals) (d0 : decode cc pc = .ok (.new ix, 3)) (d3 : decode cc (pc + 3) = .ok (.dup, 1)) (d4 : decode cc (pc + 4) = .ok (.invokespecial ic, 3)) (d7 : decode cc (pc + 7) = .ok (.athrow, 1))
    (hout : ∀ z ∈ c.exceptionTable.toList, covers z (pc + 7) = false) (hlocks : meth.locks = false)
    (hcells : cells + 1 ≤ R.cells) (hslots : slots + 6 ≤ R.slots) (hfr : names.length + 4 ≤ R.frames) (hlo : (rest.map fun v => v.category).sum + 1 + (13 * (names.length + 1) + 41) ≤ R.locals)
    (hq : ∀ (U : State), s.WarmedH U.vm → (∀ (q : Nat) (cq : Cell), H[q]? = some cq → U.heap[q]? = some cq) → (∃ ce : Cell, U.heap[H.size]? = some ce ∧ s.vm.findClass cls = some ce.cls ∧ ce.vm = .none) → Qc args s (.threw H.size) U)
    (hf : ∀ q ∈ locs, free q.base) : W p l e R s m args below meth c H locs cells slots (xt_MQ below Qc args s (cells + 1) (slots + 6) free) (F0 m pc ls rest) := by
  intro T hT X
  subst hT
  have Y := xt_here X (R' := { frames := R.frames, locals := R.locals, cells := 1, slots := 6 }) (Nat.le_refl _) (Nat.le_refl _) hcells hslots
  have hown' : (T.setFrames (.invoking m args :: below)).vm.findClass own = some m.cls := (X.warmed.alike.findClass own _).trans hown
  have htab : ∀ w : Cond, (w.onTables && w.keeps) = true → w.before args s = true → w.before args (T.setFrames (.invoking m args :: below)) = true := fun w h1 h2 => word_at (U := T.setFrames (.invoking m args :: below)) X.warmed (Or.inl h1) h2
  have key : W p l e { frames := R.frames, locals := R.locals, cells := 1, slots := 6 } (T.setFrames (.invoking m args :: below)) m args below meth c T.heap [] 0 0
      (fun U => U.status = .running ∧ Ended U below (.threw T.heap.size) ∧ T.WarmedH U.vm ∧ T.sameButNew ({ U with vm := T.vm } : State) [] 1 6 ∧ ∃ ce : Cell, U.heap[T.heap.size]? = some ce ∧ T.vm.findClass cls = some ce.cls ∧ ce.vm = .none) (F0 m pc ls rest) := by
    refine W.newc hexec hb hown' (htab _ rfl hlink) (htab _ rfl hins) (htab _ rfl hinit) rfl d0 (Nat.le_refl _) (Nat.le_refl _) (fun cC kC h1 h2 h3 h4 => ?_)
    refine lv_dup hexec hb d3 rfl ?_
    intro T2 hT2 X2
    subst hb
    obtain ⟨U, st, hrun, hend, hW, hsame, ce, hce, hoc⟩ := X2.ctorThrow0 hexec (by rw [X2.admits.platform]; exact htr) hown' hcls hnames (fun a ha => hw a ha _ rfl X.warmed) (fun x h => by cases h) h1 h2 (a := T.heap.size)
      (by rw [hT2]; simp) (Nat.le_refl _) (g := F0 m (pc + 3 + 1) ls (.ref T.heap.size :: .ref T.heap.size :: rest)) rfl hsize rfl rfl rfl d4 d7 hout
      (by show names.length + 3 < R.frames; omega) (by show 2 * 0 + ((Value.ref T.heap.size :: rest).map fun v => v.category).sum + (13 * (names.length + 1) + 41) ≤ R.locals; have h9 : ((Value.ref T.heap.size :: rest).map fun v => v.category).sum = 1 + (rest.map fun v => v.category).sum := rfl; omega) hlocks
    refine ⟨U, st, hrun, hend, hW, ⟨?_, hsame.2⟩, ce, hce, hoc.cls, hoc.vm⟩
    have h1 := hsame.1
    rw [State.setFrames_setFrames] at h1
    exact h1
  obtain ⟨t, a1, hrun, hend, hW, hsame, hce⟩ := key T rfl Y
  have hWs : s.WarmedH t.vm := State.WarmedH.trans X.warmed hW
  have hall := X.same.trans (hsame.setVm s.vm)
  rw [List.append_nil] at hall
  refine ⟨t, a1, .threw T.heap.size, hrun, hend, hq t hWs ?_ ?_, locs, ⟨hWs, hall⟩, hf⟩
  · intro q cq h
    obtain ⟨c', h1, h2, h3, h4⟩ := hsame.2.2.2.2.2 q cq h
    have h5 : c'.slots = cq.slots := Array.ext_getElem? (fun i => h4 i (by simp))
    rw [h5] at h2
    rw [h2] at h1
    exact h1
  · obtain ⟨ce, h1, h2, h3⟩ := hce
    exact ⟨ce, h1, by rw [← X.warmed.alike.findClass]; exact h2, h3⟩
end XN
