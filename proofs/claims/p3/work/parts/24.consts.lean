/-! What stays true of the cells below z0; strings of the pool and constant ones alike. -/
/-- the characters of a text in one number, the first lowest -/
def chr (c j : Nat) : Nat := c / 128 ^ j % 128
def kc : Nat → Nat := fun i => [0, 448285552212321, 213610734, 29487559410, 211318764, 4015471243504, 4016565925609, 230422886, 31381566694, 215692019].getD i 0
def ln : Nat → Nat := fun i => [0, 7, 4, 5, 4, 6, 6, 4, 5, 4].getD i 0
def notStr : Cond → Bool
  | .stringRef .. => false
  | _ => true
def wE : List Cond := tables_1.filter notStr ++ [.isRef (.static "java/lang/Throwable" "UNASSIGNED_STACK" "[Ljava/lang/StackTraceElement;"), .isRef (.static "java/lang/Throwable" "SUPPRESSED_SENTINEL" "Ljava/util/List;"), .not (.castable "java/lang/IllegalStateException" "java/lang/IllegalArgumentException")]
def ConS (z0 : Nat) (k : Nat → Nat) (U : State) (i : Nat) : Prop := va_O "java/lang/String" (k (10 + i)) (AA z0) U U.heap ∧ va_OF "java/lang/String" "coder" "B" (.int 0) (k (10 + i)) (AA z0) U U.heap ∧ va_OF "java/lang/String" "value" "[B" (.ref (k (30 + i))) (k (10 + i)) (AA z0) U U.heap ∧ ∃ f : Nat → Int32, va_T .byte (k (30 + i)) (ln i) (fun j => .int (f j)) (AA z0) U U.heap ∧ ∀ j, j < ln i → f j = nI (chr (kc i) j)
def E0 (z0 : Nat) (k : Nat → Nat) (U : State) : Prop :=
  (∀ w ∈ wE, ∀ A, w.before A U = true) ∧ va_Z "java/lang/String" "COMPACT_STRINGS" "Z" (.int 1) (AA z0) U U.heap ∧ va_Z "java/util/ArrayList" "DEFAULTCAPACITY_EMPTY_ELEMENTDATA" "[Ljava/lang/Object;" (.ref (k 1)) (AA z0) U U.heap ∧ va_T (.object "java/lang/Object") (k 1) 0 (fun _ => .null) (AA z0) U U.heap ∧ va_Zq "jdk/internal/util/Preconditions" "SIOOBE_FORMATTER" "Ljava/util/function/BiFunction;" (AA z0) U U.heap ∧ va_Mi "[Ljava/lang/Object;" (k 2) U ∧ (∀ i, i < 10 → ConS z0 k U i) ∧ k 1 < z0 ∧ vk_R "java/lang/StringLatin1" 151 "" (k 10) U ∧ vk_R "RealmDesk" 156 "archive" (k 11) U ∧ vk_R "RealmDesk" 161 "name" (k 12) U ∧ vk_R "RealmDesk" 166 "realm" (k 13) U ∧ vk_R "RealmDesk" 171 "load" (k 14) U ∧ vk_R "RealmDesk" 176 "parent" (k 15) U ∧ vk_R "RealmDesk" 181 "import" (k 16) U ∧ vk_R "RealmDesk" 183 "from" (k 17) U ∧ vk_R "RealmDesk" 235 "first" (k 18) U ∧ vk_R "RealmDesk" 237 "self" (k 19) U
abbrev EE (z0 : Nat) (k : Nat → Nat) : State → Prop := Cl z0 (E0 z0 k)
theorem wE_t (i : Nat) {w : Cond} (h : tables_1[i]? = some w) (g : notStr w = true) : w ∈ wE := List.mem_append_left _ (List.mem_filter.mpr ⟨List.mem_of_getElem? h, g⟩)
def StrP (D : va_G) (k : Nat → Nat) (h : hp) (a v n : Nat) : Prop := (∃ (x y : Int32) (f : Nat → Int32), a ∈ h.1 ∧ h.2 a = .inr (3, [.ref v, .int 0, .int x, .int y]) ∧ v ∈ h.1 ∧ h.2 v = .inl (D.1 104, n, .inl f) ∧ sb_Fit f ∧ n ≤ 30) ∨ (∃ i, i < 10 ∧ a = k (10 + i) ∧ v = k (30 + i) ∧ n = ln i)
def BaP (D : va_G) (k : Nat → Nat) (h : hp) (v n : Nat) : Prop := (∃ f : Nat → Int32, v ∈ h.1 ∧ h.2 v = .inl (D.1 104, n, .inl f) ∧ n ≤ 30) ∨ (∃ i, i < 10 ∧ v = k (30 + i) ∧ n = ln i)
theorem ln_le : ∀ i, i < 10 → ln i ≤ 30 := by decide
theorem StrP.ba {D : va_G} {k : Nat → Nat} {h : hp} {a v n : Nat} (q : StrP D k h a v n) : BaP D k h v n := by
  rcases q with ⟨x, y, f, -, -, h1, h2, -, h3⟩ | ⟨i, hi, -, hv, hn⟩
  · exact Or.inl ⟨f, h1, h2, h3⟩
  · exact Or.inr ⟨i, hi, hv, hn⟩
theorem BaP.le {D : va_G} {k : Nat → Nat} {h : hp} {v n : Nat} (q : BaP D k h v n) : n ≤ 30 := by
  rcases q with ⟨f, -, -, h3⟩ | ⟨i, hi, -, rfl⟩
  · exact h3
  · exact ln_le i hi
section GS
variable {p : Program} {l : Launch} {e : Env} {R : Room} {s : State} {m : MethodId} {args : Array Value} {below : List Frame} {meth : Method} {c : Code} {cc : ByteArray} {own : String} {nL : Nat} {ret : Option FieldType} {D : va_G} {z0 : Nat} {Qp : Outcome → hp → Prop} {mc ms pc : Nat} {lv lv' : List (Nat × Value)} {st rest : List Value} {h : hp} {rc rs : Nat}
variable {k : Nat → Nat}
theorem Cx.ee (C : Cx p R s m args meth c cc own nL ret D z0 (EE z0 k) mc ms) : E0 z0 k s := Cl.here C.2.2.2.2.2.2.2.2.1
theorem Cx.nw (C : Cx p R s m args meth c cc own nL ret D z0 (EE z0 k) mc ms) {w : Cond} (hw : w ∈ wE) : va_Nw w s := C.ee.1 w hw #[]
theorem g_gvS (C : Cx p R s m args meth c cc own nL ret D z0 (EE z0 k) mc ms) {idx a v n : Nat} (hd : decode cc pc = .ok (.getfield idx, 3)) (hw : Cond.fieldLink own idx "java/lang/String" "value" "[B" ∈ lw_g) (hs : StrP D k h a v n) (kk : G p l e R s m args below meth c nL D z0 (EE z0 k) Qp mc ms (pc + 3) lv (.ref v :: rest) h rc rs) : G p l e R s m args below meth c nL D z0 (EE z0 k) Qp mc ms pc lv (.ref a :: rest) h rc rs := by
  rcases hs with ⟨x, y, f, h1, h2, -⟩ | ⟨i, hi, rfl, rfl, -⟩
  · exact g_getf C (k := 0) hd in3 rfl (by decide) hw (Or.inl rfl) h1 h2 rfl kk
  · intro ls H locs cells slots h1 h2 h3 h4 h5
    exact vk_getf C.1 C.2.1 (C.ee.2.2.2.2.2.2.1 i hi).2.2.1 h3 C.2.2.2.1 (C.2.2.2.2.1 _ hw) (fun x hx => hx) hd (kk ls H locs cells slots h1 h2 h3 h4 h5)
theorem g_gcS (C : Cx p R s m args meth c cc own nL ret D z0 (EE z0 k) mc ms) {idx a v n : Nat} (hd : decode cc pc = .ok (.getfield idx, 3)) (hw : Cond.fieldLink own idx "java/lang/String" "coder" "B" ∈ lw_g) (hs : StrP D k h a v n) (kk : G p l e R s m args below meth c nL D z0 (EE z0 k) Qp mc ms (pc + 3) lv (.int 0 :: rest) h rc rs) : G p l e R s m args below meth c nL D z0 (EE z0 k) Qp mc ms pc lv (.ref a :: rest) h rc rs := by
  rcases hs with ⟨x, y, f, h1, h2, -⟩ | ⟨i, hi, rfl, rfl, -⟩
  · exact g_getf C (k := 1) hd in3 rfl (by decide) hw (Or.inl rfl) h1 h2 rfl kk
  · intro ls H locs cells slots h1 h2 h3 h4 h5
    exact vk_getf C.1 C.2.1 (C.ee.2.2.2.2.2.2.1 i hi).2.1 h3 C.2.2.2.1 (C.2.2.2.2.1 _ hw) (fun x hx => hx) hd (kk ls H locs cells slots h1 h2 h3 h4 h5)
theorem g_alenB (C : Cx p R s m args meth c cc own nL ret D z0 (EE z0 k) mc ms) {v n : Nat} (hd : decode cc pc = .ok (.arraylength, 1)) (hs : BaP D k h v n) (kk : G p l e R s m args below meth c nL D z0 (EE z0 k) Qp mc ms (pc + 1) lv (.int (nI n) :: rest) h rc rs) : G p l e R s m args below meth c nL D z0 (EE z0 k) Qp mc ms pc lv (.ref v :: rest) h rc rs := by
  rcases hs with ⟨f, h1, h2, -⟩ | ⟨i, hi, rfl, rfl⟩
  · exact g_alen C (k := 4) hd h1 h2 rfl kk
  · intro ls H locs cells slots h1 h2 h3 h4 h5
    obtain ⟨f, hT, -⟩ := (C.ee.2.2.2.2.2.2.1 i hi).2.2.2
    obtain ⟨cell, g1, g2, g3, g4, g5, g6, g7⟩ := hT.kept h3.2.1
    exact W.alen C.1 C.2.1 g1 g2 g5 rfl rfl hd (kk ls H locs cells slots h1 h2 h3 h4 h5)
theorem g_baldB (C : Cx p R s m args meth c cc own nL ret D z0 (EE z0 k) mc ms) {v n j : Nat} {i : Int32} (hd : decode cc pc = .ok (.baload, 1)) (hs : BaP D k h v n) (hi : i = nI j) (hj : j < n) (kk : ∀ b : Int32, G p l e R s m args below meth c nL D z0 (EE z0 k) Qp mc ms (pc + 1) lv (.int b :: rest) h rc rs) : G p l e R s m args below meth c nL D z0 (EE z0 k) Qp mc ms pc lv (.int i :: .ref v :: rest) h rc rs := by
  subst hi
  have hle := hs.le
  rcases hs with ⟨f, h1, h2, -⟩ | ⟨i, hi, rfl, rfl⟩
  · exact g_bald C hd h1 h2 (vp_in_nI hj (by omega)) (kk _)
  · intro ls H locs cells slots h1 h2 h3 h4 h5
    obtain ⟨f, hT, -⟩ := (C.ee.2.2.2.2.2.2.1 i hi).2.2.2
    exact va_tb C.1 C.2.1 hT h3 (vp_in_nI hj (by omega)) rfl hd (kk _ ls H locs cells slots h1 h2 h3 h4 h5)
def BaF (D : va_G) (k : Nat → Nat) (h : hp) (v n c : Nat) : Prop := (∃ f : Nat → Int32, v ∈ h.1 ∧ h.2 v = .inl (D.1 104, n, .inl f) ∧ n ≤ 30 ∧ ∀ j, j < n → f j = nI (chr c j)) ∨ (∃ i, i < 10 ∧ v = k (30 + i) ∧ n = ln i ∧ c = kc i)
theorem BaF.ba {D : va_G} {k : Nat → Nat} {h : hp} {v n c : Nat} (q : BaF D k h v n c) : BaP D k h v n := by
  rcases q with ⟨f, h1, h2, h3, -⟩ | ⟨i, hi, hv, hn, -⟩
  · exact Or.inl ⟨f, h1, h2, h3⟩
  · exact Or.inr ⟨i, hi, hv, hn⟩
theorem g_baldF (C : Cx p R s m args meth c cc own nL ret D z0 (EE z0 k) mc ms) {v n j cd : Nat} {i : Int32} (hd : decode cc pc = .ok (.baload, 1)) (hs : BaF D k h v n cd) (hi : i = nI j) (hj : j < n) (kk : G p l e R s m args below meth c nL D z0 (EE z0 k) Qp mc ms (pc + 1) lv (.int (nI (chr cd j)) :: rest) h rc rs) : G p l e R s m args below meth c nL D z0 (EE z0 k) Qp mc ms pc lv (.int i :: .ref v :: rest) h rc rs := by
  subst hi
  have hle := hs.ba.le
  rcases hs with ⟨f, h1, h2, -, h4⟩ | ⟨i, hi, rfl, rfl, rfl⟩
  · refine g_bald C hd h1 h2 (vp_in_nI hj (by omega)) ?_
    rw [nI_clamp (by omega), h4 j hj]
    exact kk
  · intro ls H locs cells slots h1 h2 h3 h4 h5
    obtain ⟨f, hT, hf⟩ := (C.ee.2.2.2.2.2.2.1 i hi).2.2.2
    refine va_tb C.1 C.2.1 hT h3 (vp_in_nI hj (by omega)) rfl hd ?_
    rw [nI_clamp (by omega), hf j hj]
    exact kk ls H locs cells slots h1 h2 h3 h4 h5
theorem StrP.recv (C : Cx p R s m args meth c cc own nL ret D z0 (EE z0 k) mc ms) {H : Heap} {locs : List Loc} {a v n : Nat} (h2 : Wd z0 D h H) (h3 : va_S (AA z0) s.heap H locs) (hs : StrP D k h a v n) : ∃ cell : Cell, H[a]? = some cell ∧ cell.vm.isStatics = false ∧ s.vm.findClass "java/lang/String" = some cell.cls := by
  rcases hs with ⟨x, y, f, g1, g2, -⟩ | ⟨i, hi, rfl, rfl, -⟩
  · exact rc_of C (ci := 3) h2 rfl g1 g2
  · obtain ⟨cell, g1, g2, g3, -⟩ := (C.ee.2.2.2.2.2.2.1 i hi).1.kept h3.2.1
    exact ⟨cell, g1, g2, g3⟩
theorem g_instS (C : Cx p R s m args meth c cc own nL ret D z0 (EE z0 k) mc ms) {idx a v n : Nat} (hd : decode cc pc = .ok (.instanceof idx, 3)) (hw : Cond.classLink own idx "java/lang/String" ∈ lw_g) (hs : StrP D k h a v n) (kk : G p l e R s m args below meth c nL D z0 (EE z0 k) Qp mc ms (pc + 3) lv (.int 1 :: rest) h rc rs) : G p l e R s m args below meth c nL D z0 (EE z0 k) Qp mc ms pc lv (.ref a :: rest) h rc rs := fun ls H locs cells slots h1 h2 h3 h4 h5 => va_instE C.1 C.2.1 C.2.2.2.1 (C.2.2.2.2.1 _ hw) (StrP.recv C h2 h3 hs) hd (kk ls H locs cells slots h1 h2 h3 h4 h5)
theorem g_castS (C : Cx p R s m args meth c cc own nL ret D z0 (EE z0 k) mc ms) {idx a v n : Nat} (hd : decode cc pc = .ok (.checkcast idx, 3)) (hw : Cond.classLink own idx "java/lang/String" ∈ lw_g) (hs : StrP D k h a v n) (kk : G p l e R s m args below meth c nL D z0 (EE z0 k) Qp mc ms (pc + 3) lv (.ref a :: rest) h rc rs) : G p l e R s m args below meth c nL D z0 (EE z0 k) Qp mc ms pc lv (.ref a :: rest) h rc rs := fun ls H locs cells slots h1 h2 h3 h4 h5 => va_castE C.1 C.2.1 C.2.2.2.1 (C.2.2.2.2.1 _ hw) (StrP.recv C h2 h3 hs) hd (kk ls H locs cells slots h1 h2 h3 h4 h5)
theorem g_callVS (C : Cx p R s m args meth c cc own nL ret D z0 (EE z0 k) mc ms) {idx n maxL' : Nat} {y : MethodName} {cc' : ByteArray} {ret' : Option FieldType} {rm' : Room} {pre : List Value → hp → Prop} {post : List Value → hp → Outcome → hp → Prop} {As : List Value} {a v0 n0 : Nat} (hc : Ctr l y cc' maxL' ret' rm' D z0 (EE z0 k) pre post) (hd : decode cc pc = .ok (.invokevirtual idx, 3)) (w1 : Cond.methodLink own idx y ∈ lw_g) (w2 : Cond.instanceMethod y ∈ lw_g) (w3 : Cond.selects y.cls y y ∈ lw_g) (w4 : Cond.initialized y.cls ∈ lw_g) (w5 : Cond.code y cc' maxL' ret' ∈ lw_g) (hy0 : y.cls = "java/lang/String") (hpn : (parseMethodDescriptor y.desc).map (fun d => d.parameters.length) = some n) (hn : As.length = n) (hs : StrP D k h a v0 n0) (hpre : pre (.ref a :: As) h) (hR : rm'.frames + 1 ≤ R.frames ∧ 8 + (maxL' + 11) + rm'.locals ≤ R.locals) (hW : (rest.map fun v => v.category).sum ≤ 8) (hcost : rm'.cells ≤ rc ∧ rm'.slots ≤ rs)
    (kr : ∀ (v : Option Value) (h' : hp), post (.ref a :: As) h (.returned v) h' → G p l e R s m args below meth c nL D z0 (EE z0 k) Qp mc ms (pc + 3) lv (v.toList ++ rest) h' (rc - rm'.cells) (rs - rm'.slots)) (kx : ∀ (x : Addr) (h' : hp), post (.ref a :: As) h (.threw x) h' → Qp (.threw x) h') : G p l e R s m args below meth c nL D z0 (EE z0 k) Qp mc ms pc lv (As.reverse ++ .ref a :: rest) h rc rs := by
  intro ls H locs cells slots h1 h2 h3 h4 h5
  have hb9 : FrameBlind (fun a9 U => a9 = (.ref a :: As).toArray ∧ World z0 D (EE z0 k) h U) := fun a9 U g mk q => ⟨q.1, World.blind C.2.2.2.2.2.2.2.2.2.1 q.2⟩
  have hw9 : ∀ U : State, U.heap = H → s.WarmedH U.vm → World z0 D (EE z0 k) h U := fun U hU hWm => (C.world h2 h3 U hU hWm).1
  have hr9 := StrP.recv C h2 h3 hs
  rw [← hy0] at hr9
  refine xt_callV (As := As) (rest := rest) ⟨C.1, C.2.1, C.2.2.1, C.2.2.2.1, C.2.2.2.2.1⟩ (hc (.ref a :: As) h hpre) (cwV (C := y.cls) n C.2.2.2.2.1 (goodV w1 w2 w3 w4 w5) rfl rfl rfl ⟨rfl, by rw [hy0]; decide, by rw [hy0]; decide, hpn⟩ hR) ⟨hb9, hr9, fun U hU hWm => ⟨rfl, hw9 U hU hWm⟩⟩ hn h1.1 hW hd ⟨by have := C.2.2.2.2.2.2.2.2.2.2.2.2.1; omega, by have := C.2.2.2.2.2.2.2.2.2.2.2.2.2; omega⟩ ?_ ?_
  · intro v st t L hst hal hL hq
    obtain ⟨h', hp', ⟨w1', -, -, -⟩, hF'⟩ := hq
    exact kr v h' hp' ls t.heap (locs ++ L) _ _ h1 w1' (va_S.call C.2.2.2.2.2.2.2.1 h3 hst hL hF') (by omega) (by omega)
  · intro x st t L hst hal hL hq
    obtain ⟨h', hp', ⟨w1', -, -, -⟩, hF'⟩ := hq
    have hS' := va_S.call C.2.2.2.2.2.2.2.1 h3 hst hL hF'
    refine xt_Xwiden (k := mc) (n := ms) (by omega) (by omega) ?_
    refine xt_out rfl rfl rfl (fun z hz => absurd (C.2.2.2.2.2.2.2.2.2.2.2.1 z hz) id) C.2.2.2.2.2.2.1 (fun t' ht' hW' => ?_) hS'.2.2
    obtain ⟨u1, u2⟩ := C.world w1' hS' t' ht' hW'
    exact ⟨h', kx x h' hp', u1, u2⟩
end GS
