/-! The law's line and look: what the class throws is caught. -/
def OU (D : va_G) (K : KM) (h : hp) (S : Nat → Prop) (ou : Nat) : Prop := S ou ∧ (K ou).1 = 99 ∧ ∃ f : Nat → Int64, h.2 ou = .inl (D.1 102, 1, .inr (.inl f))
theorem tbl2 {α β : Type} {f : α → β} {l : List α} {a b : β} (h : l.map f = [a, b]) : ∃ e1 e2, l = [e1, e2] ∧ f e1 = a ∧ f e2 = b := by
  match l, h with
  | [e1, e2], h =>
    simp only [List.map_cons, List.map_nil, List.cons.injEq, and_true] at h
    exact ⟨e1, e2, rfl, h.1, h.2⟩
theorem as_self (vm : Vm) (c : ClassId) : vm.assignable c c = true := Vm.assignable_self vm c
abbrev XO (Pk : Nat → Prop) (ab ou : Nat) (K : KM) : Nat → Prop := XP (fun z => z = ab ∨ z = ou) Pk K
section LW1
variable {l : Launch} {D : va_G} {z0 : Nat} {k : Nat → Nat} {K : KM} {B T : Nat}
set_option maxHeartbeats 4000000 in
theorem hl_line {S : Nat → Prop} {a ab v c0 cap cd ou B' T' : Nat} {rm : Room} {Pk : Nat → Prop} {Pr : hp → Prop} {Rl : Outcome → KM → hp → Prop} {Φ : KM → hp → Prop} (hP9 : ¬ Pk 99) (hRl : ∀ o K' h', Rl o K' h' → RL D S S1 ab o K' h' ∧ Φ K' h') (hΦ : ∀ (K : KM) (h h' : hp), Ev k (fun z => z = ou) K h K h' → (K ou).1 = 99 → Φ K h → Φ K h') (hc : TC l y_100 prog_1_method_3_code 2 (Option.some Jvm.ClassFile.FieldType.int) rm D z0 k [.ref a] K B T Pr B' T' (XP (fun z => z = ab) Pk K) Rl) : CtrH l y_99 method_3_code 3 (Option.some Jvm.ClassFile.FieldType.int) ([((0 : Nat), (8 : Nat), (11 : Nat), (13 : Nat)), ((0 : Nat), (8 : Nat), (14 : Nat), (15 : Nat))]) { frames := rm.frames + 1, locals := rm.locals + 40, cells := rm.cells, slots := rm.slots } D z0 (EE z0 k) (fun as h => as = [.ref a, .ref ou] ∧ TP D z0 k K B T h ∧ Ty K h 1 a ∧ (K a).2.1 = ab ∧ BK D K h S ab v c0 cap cd ∧ OU D K h S ou ∧ Pr h) (fun _ h o h' => TQ D z0 k K h B' T' (XO Pk ab ou K) (fun o K' h' => RetI o K' h' ∧ (∃ v' cap', BK D K' h' S ab v' 0 cap' 0) ∧ (∃ f : Nat → Int64, h'.2 ou = .inl (D.1 102, 1, .inr (.inl f))) ∧ Φ K' h') o h') := by
  refine ctrH_of Cl.stb (by decide) (fun as h q => by rw [q.1]; exact Nat.le_of_ble_eq_true rfl) ?_
  intro as h q p e s m args below meth c C
  obtain ⟨rfl, hT, ha, hab0, hbk, hou, hpr⟩ := q
  obtain ⟨la9, lr9, tr9, tn9, hed, -⟩ := TP.desk hT ha hab0
  have houm : ou ∈ h.1 := hbk.2.2.2.1 ou hou.1
  have hnab : ¬ ou = ab := fun z => hbk.2.2.2.2.1 (z ▸ hou.1)
  have hnX : ¬ XP (fun z => z = ab) Pk K ou := fun z => z.elim hnab (fun w => hP9 (by have w2 : Pk (K ou).1 := w; rw [hou.2.1] at w2; exact w2))
  refine h_aload_n C 1 d_method_3_0 rfl rfl ?_
  refine h_iconst C (v := 0) d_method_3_1 (by decide) ?_
  refine h_aload_n C 0 d_method_3_2 rfl rfl ?_
  refine h_callV C (As := []) (n := 0) hc d_method_3_3 t_512 t_513 t_514 t_1 t_515 ⟨by decide, by decide, by decide +kernel⟩ rfl (ci := 0) rfl ha.1 hed ⟨rfl, hT, hpr⟩ ⟨Nat.le_refl _, by show 8 + (2 + 11) + rm.locals ≤ rm.locals + 40; omega⟩ (Nat.le_of_ble_eq_true rfl) ⟨Nat.le_refl _, Nat.le_refl _⟩ ?_ ?_
  · intro vr h' r
    obtain ⟨K', hT', ev, hrl⟩ := r
    obtain ⟨⟨rt, v2, cap2, hbk2⟩, hph⟩ := hRl _ _ _ hrl
    obtain ⟨x, rfl⟩ := rt_int rt
    obtain ⟨f, hf⟩ := hou.2.2
    have hoc := (ev.1 ou houm).2.2 hnX
    refine h_i2l C d_method_3_6 ?_
    refine h_last C d_method_3_7 (ev.1 ou houm).1 (hoc.2.trans hf) (vp_in_nI (n := 0) (N := 1) (by decide) (by decide)) ?_
    refine t_putR hT' (ev.1 ou houm).1 (Or.inr (by rw [hoc.1]; exact hou.2.1)) (fun h2 hT2 ev2 hm2 he2 hot2 hL2 => ?_)
    refine h_goto C d_method_3_8 rfl ?_
    refine h_iconst C (v := 0) d_method_3_17 (by decide) ?_
    have evT : Ev k (XO Pk ab ou K) K h K' h2 := Ev.trX (fun _ _ z => z.elim (fun w => Or.inl (Or.inl w)) Or.inr) (fun z _ y => Or.inl (Or.inr y)) ev ev2
    have hb3 : BK D K' h2 S ab v2 0 cap2 0 := by
      obtain ⟨b1, b2, b3, b4, b5, b6⟩ := hbk2
      obtain ⟨c1, c2, c3⟩ := Bd.kept b1 ev2 b2 b3 (fun z => hnab z.symm) (fun z => b6 (z ▸ hou.1))
      exact ⟨c1, c2, c3, fun z hz => (ev2.1 z (b4 z hz)).1, b5, b6⟩
    exact h_iret C d_method_3_18 rfl rfl ⟨K', hT2, evT, ⟨_, rfl⟩, ⟨v2, cap2, hb3⟩, ⟨_, he2⟩, hΦ _ _ _ ev2 (by rw [hoc.1]; exact hou.2.1) hph⟩
  · intro x h' r ls H locs cells slots h1 h2 h3 h4 h5
    obtain ⟨K', hT', ev, hrl⟩ := r
    obtain ⟨⟨rt, v2, cap2, hbk2⟩, hph⟩ := hRl _ _ _ hrl
    obtain ⟨x9, ci, e9, hx, hS, hcell⟩ : Thr S1 (.threw x) K' h' := rt.resolve_left (fun z => by obtain ⟨v9, e9⟩ := z; cases e9)
    cases e9
    obtain ⟨f, hf⟩ := hou.2.2
    have hoc := (ev.1 ou houm).2.2 hnX
    have evT : Ev k (XO Pk ab ou K) K h K' h' := ev.wk (fun _ _ z => z.elim (fun w => Or.inl (Or.inl w)) Or.inr)
    have fin : ∀ u : Int32, TQ D z0 k K h B' T' (XO Pk ab ou K) (fun o K' h' => RetI o K' h' ∧ (∃ v' cap', BK D K' h' S ab v' 0 cap' 0) ∧ (∃ f : Nat → Int64, h'.2 ou = .inl (D.1 102, 1, .inr (.inl f))) ∧ Φ K' h') (.returned (some (.int u))) h' := fun u => ⟨K', hT', evT, ⟨_, rfl⟩, ⟨v2, cap2, hbk2⟩, ⟨f, hoc.2.trans hf⟩, hph⟩
    obtain ⟨en1, en2, hl, q1, q2⟩ := tbl2 C.2.2.2.2.2.2.2.2.2.2.2.1
    have hsp : c.exceptionTable.toList = en1 :: en2 :: [] := hl
    simp only [Prod.mk.injEq] at q1 q2
    obtain ⟨cT1, hcT1, -⟩ := Cond.classLink_spec C.2.2.2.1 (C.2.2.2.2.1 _ t_510) {} rfl
    have k1 := h_astore_n (l := l) (e := e) (below := below) (Qp := fun o h'' => TQ D z0 k K h B' T' (XO Pk ab ou K) (fun o K' h' => RetI o K' h' ∧ (∃ v' cap', BK D K' h' S ab v' 0 cap' 0) ∧ (∃ f : Nat → Int64, h'.2 ou = .inl (D.1 102, 1, .inr (.inl f))) ∧ Φ K' h') o h'') (lv := lv_args 0 [.ref a, .ref ou]) (rest := []) (h := h') (rc := rm.cells - rm.cells) (rs := rm.slots - rm.slots) C (x := x) (lv' := [(2, .ref x), (0, .ref a), (1, .ref ou)]) d_method_3_11 rfl (by decide) rfl (h_iconst C (v := 1) d_method_3_12 (by decide) (h_iret C d_method_3_13 rfl rfl (fin 1)))
    have k2 := h_astore_n (l := l) (e := e) (below := below) (Qp := fun o h'' => TQ D z0 k K h B' T' (XO Pk ab ou K) (fun o K' h' => RetI o K' h' ∧ (∃ v' cap', BK D K' h' S ab v' 0 cap' 0) ∧ (∃ f : Nat → Int64, h'.2 ou = .inl (D.1 102, 1, .inr (.inl f))) ∧ Φ K' h') o h'') (lv := lv_args 0 [.ref a, .ref ou]) (rest := []) (h := h') (rc := rm.cells - rm.cells) (rs := rm.slots - rm.slots) C (x := x) (lv' := [(2, .ref x), (0, .ref a), (1, .ref ou)]) d_method_3_14 rfl (by decide) rfl (h_iconst C (v := 2) d_method_3_15 (by decide) (h_iret C d_method_3_16 rfl rfl (fin 2)))
    obtain ⟨cell, hc1, hc2, hc3⟩ : ∃ cell : Cell, H[x]? = some cell ∧ cell.vm.isStatics = false ∧ (s.vm.findClass "java/lang/IllegalArgumentException" = some cell.cls ∨ s.vm.findClass "java/lang/IllegalStateException" = some cell.cls) := by
      rcases hS with rfl | rfl
      · obtain ⟨cell, g1, g2, g3⟩ := rcH_of C (ci := 10) h2 rfl hx hcell
        exact ⟨cell, g1, g2, Or.inl g3⟩
      · obtain ⟨cell, g1, g2, g3⟩ := rcH_of C (ci := 11) h2 rfl hx hcell
        exact ⟨cell, g1, g2, Or.inr g3⟩
    by_cases hasg : s.vm.assignable cell.cls cT1 = true
    · exact xt_catch C.2.2.2.1 (C.2.2.2.2.1 _ t_510) [] hsp (fun z hz => absurd hz List.not_mem_nil) (by simp [covers, q1.1, q1.2.1]) q1.2.2.2 (by decide) q1.2.2.1 hc1 hc2 hcT1 hasg (k1 ls H locs cells slots h1 h2 h3 h4 h5)
    · have hc4 : s.vm.findClass "java/lang/IllegalStateException" = some cell.cls := by
        rcases hc3 with g | g
        · cases hcT1.symm.trans g
          exact absurd (as_self _ _) hasg
        · exact g
      exact xt_catchN C.2.2.2.1 (C.2.2.2.2.1 _ t_510) (C.2.2.2.2.1 _ t_511) hsp (by simp [covers, q1.1, q1.2.1]) q1.2.2.2 (by decide) (by simp [covers, q2.1, q2.2.1]) q2.2.2.2 (by decide) q2.2.2.1 hc1 hc2 hcT1 (Bool.eq_false_iff.mpr hasg) hc4 (as_self _ _) (k2 ls H locs cells slots h1 h2 h3 h4 h5)
set_option maxHeartbeats 4000000 in
theorem hl_look {S : Nat → Prop} {a ab v c0 cap cd ou B' T' : Nat} {v0 : Int32} {rm : Room} {Pk : Nat → Prop} {Pr : hp → Prop} {Rl : Outcome → KM → hp → Prop} {Φ : KM → hp → Prop} (hP9 : ¬ Pk 99) (hRl : ∀ o K' h', Rl o K' h' → RL D S S2 ab o K' h' ∧ Φ K' h') (hΦ : ∀ (K : KM) (h h' : hp), Ev k (fun z => z = ou) K h K h' → (K ou).1 = 99 → Φ K h → Φ K h') (hc : TC l y_144 prog_1_method_4_code 4 (Option.some Jvm.ClassFile.FieldType.int) rm D z0 k [.ref a, .int v0] K B T Pr B' T' (XP (fun z => z = ab) Pk K) Rl) : CtrH l y_143 method_4_code 4 (Option.some Jvm.ClassFile.FieldType.int) ([((0 : Nat), (9 : Nat), (12 : Nat), (13 : Nat)), ((0 : Nat), (9 : Nat), (15 : Nat), (21 : Nat))]) { frames := rm.frames + 1, locals := rm.locals + 40, cells := rm.cells, slots := rm.slots } D z0 (EE z0 k) (fun as h => as = [.ref a, .int v0, .ref ou] ∧ TP D z0 k K B T h ∧ Ty K h 1 a ∧ (K a).2.1 = ab ∧ BK D K h S ab v c0 cap cd ∧ OU D K h S ou ∧ Pr h) (fun _ h o h' => TQ D z0 k K h B' T' (XO Pk ab ou K) (fun o K' h' => RetI o K' h' ∧ (∃ v' cap', BK D K' h' S ab v' 0 cap' 0) ∧ (∃ f : Nat → Int64, h'.2 ou = .inl (D.1 102, 1, .inr (.inl f))) ∧ Φ K' h') o h') := by
  refine ctrH_of Cl.stb (by decide) (fun as h q => by rw [q.1]; exact Nat.le_of_ble_eq_true rfl) ?_
  intro as h q p e s m args below meth c C
  obtain ⟨rfl, hT, ha, hab0, hbk, hou, hpr⟩ := q
  obtain ⟨la9, lr9, tr9, tn9, hed, -⟩ := TP.desk hT ha hab0
  have houm : ou ∈ h.1 := hbk.2.2.2.1 ou hou.1
  have hnab : ¬ ou = ab := fun z => hbk.2.2.2.2.1 (z ▸ hou.1)
  have hnX : ¬ XP (fun z => z = ab) Pk K ou := fun z => z.elim hnab (fun w => hP9 (by have w2 : Pk (K ou).1 := w; rw [hou.2.1] at w2; exact w2))
  refine h_aload_n C 2 d_method_4_0 rfl rfl ?_
  refine h_iconst C (v := 0) d_method_4_1 (by decide) ?_
  refine h_aload_n C 0 d_method_4_2 rfl rfl ?_
  refine h_iload_n C 1 d_method_4_3 rfl rfl ?_
  refine h_callV C (As := [.int v0]) (n := 1) hc d_method_4_4 t_826 t_827 t_828 t_1 t_829 ⟨by decide, by decide, by decide +kernel⟩ rfl (ci := 0) rfl ha.1 hed ⟨rfl, hT, hpr⟩ ⟨Nat.le_refl _, by show 8 + (4 + 11) + rm.locals ≤ rm.locals + 40; omega⟩ (Nat.le_of_ble_eq_true rfl) ⟨Nat.le_refl _, Nat.le_refl _⟩ ?_ ?_
  · intro vr h' r
    obtain ⟨K', hT', ev, hrl⟩ := r
    obtain ⟨⟨rt, v2, cap2, hbk2⟩, hph⟩ := hRl _ _ _ hrl
    obtain ⟨x, rfl⟩ := rt_int rt
    obtain ⟨f, hf⟩ := hou.2.2
    have hoc := (ev.1 ou houm).2.2 hnX
    refine h_i2l C d_method_4_7 ?_
    refine h_last C d_method_4_8 (ev.1 ou houm).1 (hoc.2.trans hf) (vp_in_nI (n := 0) (N := 1) (by decide) (by decide)) ?_
    refine t_putR hT' (ev.1 ou houm).1 (Or.inr (by rw [hoc.1]; exact hou.2.1)) (fun h2 hT2 ev2 hm2 he2 hot2 hL2 => ?_)
    refine h_goto C d_method_4_9 rfl ?_
    refine h_iconst C (v := 0) d_method_4_18 (by decide) ?_
    have evT : Ev k (XO Pk ab ou K) K h K' h2 := Ev.trX (fun _ _ z => z.elim (fun w => Or.inl (Or.inl w)) Or.inr) (fun z _ y => Or.inl (Or.inr y)) ev ev2
    have hb3 : BK D K' h2 S ab v2 0 cap2 0 := by
      obtain ⟨b1, b2, b3, b4, b5, b6⟩ := hbk2
      obtain ⟨c1, c2, c3⟩ := Bd.kept b1 ev2 b2 b3 (fun z => hnab z.symm) (fun z => b6 (z ▸ hou.1))
      exact ⟨c1, c2, c3, fun z hz => (ev2.1 z (b4 z hz)).1, b5, b6⟩
    exact h_iret C d_method_4_19 rfl rfl ⟨K', hT2, evT, ⟨_, rfl⟩, ⟨v2, cap2, hb3⟩, ⟨_, he2⟩, hΦ _ _ _ ev2 (by rw [hoc.1]; exact hou.2.1) hph⟩
  · intro x h' r ls H locs cells slots h1 h2 h3 h4 h5
    obtain ⟨K', hT', ev, hrl⟩ := r
    obtain ⟨⟨rt, v2, cap2, hbk2⟩, hph⟩ := hRl _ _ _ hrl
    obtain ⟨x9, ci, e9, hx, hS, hcell⟩ : Thr S2 (.threw x) K' h' := rt.resolve_left (fun z => by obtain ⟨v9, e9⟩ := z; cases e9)
    cases e9
    obtain ⟨f, hf⟩ := hou.2.2
    have hoc := (ev.1 ou houm).2.2 hnX
    have evT : Ev k (XO Pk ab ou K) K h K' h' := ev.wk (fun _ _ z => z.elim (fun w => Or.inl (Or.inl w)) Or.inr)
    have fin : ∀ u : Int32, TQ D z0 k K h B' T' (XO Pk ab ou K) (fun o K' h' => RetI o K' h' ∧ (∃ v' cap', BK D K' h' S ab v' 0 cap' 0) ∧ (∃ f : Nat → Int64, h'.2 ou = .inl (D.1 102, 1, .inr (.inl f))) ∧ Φ K' h') (.returned (some (.int u))) h' := fun u => ⟨K', hT', evT, ⟨_, rfl⟩, ⟨v2, cap2, hbk2⟩, ⟨f, hoc.2.trans hf⟩, hph⟩
    obtain ⟨en1, en2, hl, q1, q2⟩ := tbl2 C.2.2.2.2.2.2.2.2.2.2.2.1
    have hsp : c.exceptionTable.toList = en1 :: en2 :: [] := hl
    simp only [Prod.mk.injEq] at q1 q2
    obtain ⟨cT1, hcT1, -⟩ := Cond.classLink_spec C.2.2.2.1 (C.2.2.2.2.1 _ t_510) {} rfl
    have k1 := h_astore_n (l := l) (e := e) (below := below) (Qp := fun o h'' => TQ D z0 k K h B' T' (XO Pk ab ou K) (fun o K' h' => RetI o K' h' ∧ (∃ v' cap', BK D K' h' S ab v' 0 cap' 0) ∧ (∃ f : Nat → Int64, h'.2 ou = .inl (D.1 102, 1, .inr (.inl f))) ∧ Φ K' h') o h'') (lv := lv_args 0 [.ref a, .int v0, .ref ou]) (rest := []) (h := h') (rc := rm.cells - rm.cells) (rs := rm.slots - rm.slots) C (x := x) (lv' := [(3, .ref x), (0, .ref a), (1, .int v0), (2, .ref ou)]) d_method_4_12 rfl (by decide) rfl (h_iconst C (v := 1) d_method_4_13 (by decide) (h_iret C d_method_4_14 rfl rfl (fin 1)))
    have k2 := h_astore_n (l := l) (e := e) (below := below) (Qp := fun o h'' => TQ D z0 k K h B' T' (XO Pk ab ou K) (fun o K' h' => RetI o K' h' ∧ (∃ v' cap', BK D K' h' S ab v' 0 cap' 0) ∧ (∃ f : Nat → Int64, h'.2 ou = .inl (D.1 102, 1, .inr (.inl f))) ∧ Φ K' h') o h'') (lv := lv_args 0 [.ref a, .int v0, .ref ou]) (rest := []) (h := h') (rc := rm.cells - rm.cells) (rs := rm.slots - rm.slots) C (x := x) (lv' := [(3, .ref x), (0, .ref a), (1, .int v0), (2, .ref ou)]) d_method_4_15 rfl (by decide) rfl (h_iconst C (v := 2) d_method_4_16 (by decide) (h_iret C d_method_4_17 rfl rfl (fin 2)))
    obtain ⟨cell, hc1, hc2, hc3⟩ : ∃ cell : Cell, H[x]? = some cell ∧ cell.vm.isStatics = false ∧ (s.vm.findClass "java/lang/IllegalArgumentException" = some cell.cls ∨ s.vm.findClass "java/util/NoSuchElementException" = some cell.cls) := by
      rcases hS with rfl | rfl
      · obtain ⟨cell, g1, g2, g3⟩ := rcH_of C (ci := 10) h2 rfl hx hcell
        exact ⟨cell, g1, g2, Or.inl g3⟩
      · obtain ⟨cell, g1, g2, g3⟩ := rcH_of C (ci := 12) h2 rfl hx hcell
        exact ⟨cell, g1, g2, Or.inr g3⟩
    by_cases hasg : s.vm.assignable cell.cls cT1 = true
    · exact xt_catch C.2.2.2.1 (C.2.2.2.2.1 _ t_510) [] hsp (fun z hz => absurd hz List.not_mem_nil) (by simp [covers, q1.1, q1.2.1]) q1.2.2.2 (by decide) q1.2.2.1 hc1 hc2 hcT1 hasg (k1 ls H locs cells slots h1 h2 h3 h4 h5)
    · have hc4 : s.vm.findClass "java/util/NoSuchElementException" = some cell.cls := by
        rcases hc3 with g | g
        · cases hcT1.symm.trans g
          exact absurd (as_self _ _) hasg
        · exact g
      exact xt_catchN C.2.2.2.1 (C.2.2.2.2.1 _ t_510) (C.2.2.2.2.1 _ t_825) hsp (by simp [covers, q1.1, q1.2.1]) q1.2.2.2 (by decide) (by simp [covers, q2.1, q2.2.1]) q2.2.2.2 (by decide) q2.2.2.1 hc1 hc2 hcT1 (Bool.eq_false_iff.mpr hasg) hc4 (as_self _ _) (k2 ls H locs cells slots h1 h2 h3 h4 h5)
end LW1
