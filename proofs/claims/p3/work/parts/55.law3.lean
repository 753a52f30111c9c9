/-! The law's line: its answer, and which exception it caught. -/
theorem wE_nc : (Cond.not (.castable "java/lang/IllegalStateException" "java/lang/IllegalArgumentException")) ∈ wE := List.mem_append_right _ (List.mem_cons_of_mem _ (List.mem_cons_of_mem _ List.mem_cons_self))
/-- k and out[0] as an tells -/
def KA (an u : Int32) (f : Nat → Int64) : Prop := (¬ an < 0 ∧ u = 0 ∧ f 0 = an.toInt64) ∨ (an = -1 ∧ u = 1) ∨ (an = -2 ∧ u = 2)
def RX (D : va_G) (k : Nat → Nat) (Sb : Nat → Prop) (ab ou lr : Nat) (Do : Int32 → SL → Prop) : Outcome → KM → hp → Prop := fun o K' h' => ∃ (an u : Int32) (S' : SL) (rz' az' nt' : Nat → Nat) (f : Nat → Int64), o = .returned (some (.int u)) ∧ (∃ v' cap', BK D K' h' Sb ab v' 0 cap' 0) ∧ h'.2 ou = .inl (D.1 102, 1, .inr (.inl f)) ∧ KA an u f ∧ Do an S' ∧ CQ D k K' h' lr S' rz' az' nt'
section LW3
variable {l : Launch} {D : va_G} {z0 : Nat} {k : Nat → Nat} {K : KM} {B T : Nat}
set_option maxHeartbeats 4000000 in
theorem hl_lineX {Sb : Nat → Prop} {a ab v c0 cap cd ou lr : Nat} {rm : Room} {Pr : hp → Prop} {Do : Int32 → SL → Prop} (hc : TC l y_100 prog_1_method_3_code 2 (Option.some Jvm.ClassFile.FieldType.int) rm D z0 k [.ref a] K B T Pr B T (XP (fun z => z = ab) PK K) (RLA D k Sb ab lr Do)) : CtrH l y_99 method_3_code 3 (Option.some Jvm.ClassFile.FieldType.int) ([((0 : Nat), (8 : Nat), (11 : Nat), (13 : Nat)), ((0 : Nat), (8 : Nat), (14 : Nat), (15 : Nat))]) { frames := rm.frames + 1, locals := rm.locals + 40, cells := rm.cells, slots := rm.slots } D z0 (EE z0 k) (fun as h => as = [.ref a, .ref ou] ∧ TP D z0 k K B T h ∧ Ty K h 1 a ∧ (K a).2.1 = ab ∧ BK D K h Sb ab v c0 cap cd ∧ OU D K h Sb ou ∧ Pr h) (fun _ h o h' => TQ D z0 k K h B T (XO PK ab ou K) (RX D k Sb ab ou lr Do) o h') := by
  refine ctrH_of Cl.stb (by decide) (fun as h q => by rw [q.1]; exact Nat.le_of_ble_eq_true rfl) ?_
  intro as h q p e s m args below meth c C
  obtain ⟨rfl, hT, ha, hab0, hbk, hou, hpr⟩ := q
  obtain ⟨la9, lr9, tr9, tn9, hed, -⟩ := TP.desk hT ha hab0
  have houm : ou ∈ h.1 := hbk.2.2.2.1 ou hou.1
  have hnab : ¬ ou = ab := fun z => hbk.2.2.2.2.1 (z ▸ hou.1)
  have hnX : ¬ XP (fun z => z = ab) PK K ou := fun z => z.elim hnab (fun w => w.2 hou.2.1)
  refine h_aload_n C 1 d_method_3_0 rfl rfl ?_
  refine h_iconst C (v := 0) d_method_3_1 (by decide) ?_
  refine h_aload_n C 0 d_method_3_2 rfl rfl ?_
  refine h_callV C (As := []) (n := 0) hc d_method_3_3 t_512 t_513 t_514 t_1 t_515 ⟨by decide, by decide, by decide +kernel⟩ rfl (ci := 0) rfl ha.1 hed ⟨rfl, hT, hpr⟩ ⟨Nat.le_refl _, by show 8 + (2 + 11) + rm.locals ≤ rm.locals + 40; omega⟩ (Nat.le_of_ble_eq_true rfl) ⟨Nat.le_refl _, Nat.le_refl _⟩ ?_ ?_
  · intro vr h' r
    obtain ⟨K', hT', ev, ⟨v2, cap2, hbk2⟩, an, S', rz', az', nt', hoa, hdo, hQ⟩ := r
    obtain ⟨han, rfl⟩ : ¬ an < 0 ∧ vr = some (.int an) := by
      rcases hoa with ⟨g1, g2⟩ | ⟨-, x9, c9, g2, -⟩ | ⟨-, x9, c9, g2, -⟩
      · cases g2
        exact ⟨g1, rfl⟩
      · cases g2
      · cases g2
    obtain ⟨f, hf⟩ := hou.2.2
    have hoc := (ev.1 ou houm).2.2 hnX
    have h99 : (K' ou).1 = 99 := by rw [hoc.1]; exact hou.2.1
    refine h_i2l C d_method_3_6 ?_
    refine h_last C d_method_3_7 (ev.1 ou houm).1 (hoc.2.trans hf) (vp_in_nI (n := 0) (N := 1) (by decide) (by decide)) ?_
    refine t_putR hT' (ev.1 ou houm).1 (Or.inr h99) (fun h2 hT2 ev2 hm2 he2 hot2 hL2 => ?_)
    refine h_goto C d_method_3_8 rfl ?_
    refine h_iconst C (v := 0) d_method_3_17 (by decide) ?_
    have evT : Ev k (XO PK ab ou K) K h K' h2 := Ev.trX (fun _ _ z => z.elim (fun w => Or.inl (Or.inl w)) Or.inr) (fun z _ y => Or.inl (Or.inr y)) ev ev2
    have hb3 : BK D K' h2 Sb ab v2 0 cap2 0 := by
      obtain ⟨b1, b2, b3, b4, b5, b6⟩ := hbk2
      obtain ⟨c1, c2, c3⟩ := Bd.kept b1 ev2 b2 b3 (fun z => hnab z.symm) (fun z => b6 (z ▸ hou.1))
      exact ⟨c1, c2, c3, fun z hz => (ev2.1 z (b4 z hz)).1, b5, b6⟩
    exact h_iret C d_method_3_18 rfl rfl ⟨K', hT2, evT, an, 0, S', rz', az', nt', _, rfl, ⟨v2, cap2, hb3⟩, he2, Or.inl ⟨han, rfl, by show vp_updL f _ _ 0 = _; exact if_pos rfl⟩, hdo, hQ.ev ev2 (x1Q h99)⟩
  · intro x h' r ls H locs cells slots h1 h2 h3 h4 h5
    obtain ⟨K', hT', ev, ⟨v2, cap2, hbk2⟩, an, S', rz', az', nt', hoa, hdo, hQ⟩ := r
    obtain ⟨f, hf⟩ := hou.2.2
    have hoc := (ev.1 ou houm).2.2 hnX
    have evT : Ev k (XO PK ab ou K) K h K' h' := ev.wk (fun _ _ z => z.elim (fun w => Or.inl (Or.inl w)) Or.inr)
    have fin : ∀ u : Int32, KA an u f → TQ D z0 k K h B T (XO PK ab ou K) (RX D k Sb ab ou lr Do) (.returned (some (.int u))) h' := fun u hka => ⟨K', hT', evT, an, u, S', rz', az', nt', f, rfl, ⟨v2, cap2, hbk2⟩, hoc.2.trans hf, hka, hdo, hQ⟩
    obtain ⟨en1, en2, hl, q1, q2⟩ := tbl2 C.2.2.2.2.2.2.2.2.2.2.2.1
    have hsp : c.exceptionTable.toList = en1 :: en2 :: [] := hl
    simp only [Prod.mk.injEq] at q1 q2
    obtain ⟨cT1, hcT1, -⟩ := Cond.classLink_spec C.2.2.2.1 (C.2.2.2.2.1 _ t_510) {} rfl
    have k1 := fun hka : KA an 1 f => h_astore_n (l := l) (e := e) (below := below) (Qp := fun o h'' => TQ D z0 k K h B T (XO PK ab ou K) (RX D k Sb ab ou lr Do) o h'') (lv := lv_args 0 [.ref a, .ref ou]) (rest := []) (h := h') (rc := rm.cells - rm.cells) (rs := rm.slots - rm.slots) C (x := x) (lv' := [(2, .ref x), (0, .ref a), (1, .ref ou)]) d_method_3_11 rfl (by decide) rfl (h_iconst C (v := 1) d_method_3_12 (by decide) (h_iret C d_method_3_13 rfl rfl (fin 1 hka)))
    have k2 := fun hka : KA an 2 f => h_astore_n (l := l) (e := e) (below := below) (Qp := fun o h'' => TQ D z0 k K h B T (XO PK ab ou K) (RX D k Sb ab ou lr Do) o h'') (lv := lv_args 0 [.ref a, .ref ou]) (rest := []) (h := h') (rc := rm.cells - rm.cells) (rs := rm.slots - rm.slots) C (x := x) (lv' := [(2, .ref x), (0, .ref a), (1, .ref ou)]) d_method_3_14 rfl (by decide) rfl (h_iconst C (v := 2) d_method_3_15 (by decide) (h_iret C d_method_3_16 rfl rfl (fin 2 hka)))
    rcases hoa with ⟨-, g2⟩ | ⟨han, x9, ci, e9, hx, hS, hcell⟩ | ⟨han, x9, ci, e9, hx, hS, hcell⟩
    · cases g2
    · cases e9
      subst hS
      obtain ⟨cell, hc1, hc2, hc3⟩ := rcH_of C (ci := 10) h2 rfl hx hcell
      cases hcT1.symm.trans hc3
      exact xt_catch C.2.2.2.1 (C.2.2.2.2.1 _ t_510) [] hsp (fun z hz => absurd hz List.not_mem_nil) (by simp [covers, q1.1, q1.2.1]) q1.2.2.2 (by decide) q1.2.2.1 hc1 hc2 hcT1 (as_self _ _) (k1 (Or.inr (Or.inl ⟨han, rfl⟩)) ls H locs cells slots h1 h2 h3 h4 h5)
    · cases e9
      subst hS
      obtain ⟨cell, hc1, hc2, hc3⟩ := rcH_of C (ci := 11) h2 rfl hx hcell
      obtain ⟨cS, cI, g1, g2, g3⟩ := Cond.notCastable_spec ((Cl.here C.2.2.2.2.2.2.2.2.1).1 _ wE_nc #[])
      cases hcT1.symm.trans g2
      cases g1.symm.trans hc3
      exact xt_catchN C.2.2.2.1 (C.2.2.2.2.1 _ t_510) (C.2.2.2.2.1 _ t_511) hsp (by simp [covers, q1.1, q1.2.1]) q1.2.2.2 (by decide) (by simp [covers, q2.1, q2.2.1]) q2.2.2.2 (by decide) q2.2.2.1 hc1 hc2 hcT1 g3 hc3 (as_self _ _) (k2 (Or.inr (Or.inr ⟨han, rfl⟩)) ls H locs cells slots h1 h2 h3 h4 h5)
end LW3
