/-! The state at the start. -/
theorem arr_k {args : Array Value} {s : State} {ty : FieldType} (h : (Cond.arrayClass ty).before args s = true) : ∃ cA, ArrOfT s cA ty ∧ s.vm.findClass ("[" ++ ty.toString) = some cA := by
  obtain ⟨cA, kA, comp, h1, h2, h3⟩ := Cond.arrayClass_spec h
  exact ⟨cA, fun n z => ⟨fun k h => (by cases h), kA, h2, comp, h3⟩, h1⟩
theorem arr_o {args : Array Value} {s : State} {n : String} (h : (Cond.arrayOver (.object n)).before args s = true) : ∃ cA, ArrOfT s cA (.object n) ∧ va_RA s cA (.object n) := by
  obtain ⟨comp, c, k, h1, h2, h3, h4, h5⟩ := Cond.arrayOver_spec h
  exact ⟨c, fun n z => ⟨fun k h => (by cases h), k, h3, comp, h4⟩, k, comp, h3, h4, h1, h5⟩
theorem lay_at {args A' : Array Value} {s V : State} {C n d : String} (hal : s.vm.Alike V.vm) (hq : ∀ q : Nat, q < s.heap.size → V.heap[q]? = s.heap[q]?) (h : (Cond.laysStatic C n d).before args s = true) : (Cond.laysStatic C n d).before A' V = true := by
  obtain ⟨c, k, i, f, a, cell, hc, hi, hst, ha, hcell, hs, hcls, hlt, hty⟩ := Cond.laysStatic_spec h
  obtain ⟨k', hi', hek⟩ := State.fieldFound?_setVm hal hi
  exact Cond.laysStatic_of (s := V) (by rw [hal.findClass]; exact hc) hi' hst (by rw [hek]; exact ha) (by rw [hq a (Array.getElem?_eq_some_iff.mp hcell).1]; exact hcell) hs hcls hlt (by rw [hek]; exact hty)
theorem isr_at {A' : Array Value} {V : State} {C n d : String} {A : Nat → Prop} (h : va_Zq C n d A V V.heap) : (Cond.isRef (.static C n d)).before A' V = true := by
  rcases h with h | ⟨t, h⟩
  · obtain ⟨cf, kf, fi, f, a, cell, h1, h2, h3, h4, h5, h6, h7, h8⟩ := h
    have e : (Term.static C n d).eval A' V none [] V = some .null := Term.static_eval h1 h2 h4 h5 h6 h7
    simp [Cond.before, Cond.holds, Cond.value, e]
  · obtain ⟨cf, kf, fi, f, a, cell, h1, h2, h3, h4, h5, h6, h7, h8⟩ := h
    have e : (Term.static C n d).eval A' V none [] V = some (.ref t) := Term.static_eval h1 h2 h4 h5 h6 h7
    simp [Cond.before, Cond.holds, Cond.value, e]
theorem ov_at {args args' : Array Value} {s U : State} {n : String} (hal : s.vm.Alike U.vm) (h : (Cond.arrayOver (.object n)).before args s = true) : (Cond.arrayOver (.object n)).before args' U = true := by
  obtain ⟨comp, c, k, hcomp, hidx, hk, hkind, hname⟩ := Cond.arrayOver_spec h
  obtain ⟨k', hk', hek'⟩ := hal.2.2 _ _ hk
  have hkind' : k'.kind = .array comp (.object n) := by rw [hek']; exact hkind
  have hname' : U.vm.findClass ("[" ++ (FieldType.object n).toString) = some c := by rw [hal.findClass]; exact hname
  have hcomp' : U.vm.findClass n = some comp := by rw [hal.findClass]; exact hcomp
  simp only [Cond.before, Cond.holds, Cond.value, hcomp', Option.bind_some, beq_iff_eq]
  rw [Option.bind_eq_some_iff]
  refine ⟨c, (hal.findIdx?_eqK _ (fun _ => rfl)).trans hidx, ?_⟩
  simp [hk', hkind', hname']
theorem str_of {args : Array Value} {s : State} {tm : Term} {n cdd : Nat} {byt : List Int32} {A : Nat → Prop} (hn : n < 2 ^ 31) (hb : ∀ j : Nat, j < n → byt.getD j 0 = nI (chr cdd j)) (hex : (Cond.exactly tm "java/lang/String").before args s = true) (hco : (Cond.eq (.field tm "java/lang/String" "coder" "B") (.int 0)).before args s = true)
    (har : (Cond.arrayOf (.field tm "java/lang/String" "value" "[B") .byte).before args s = true) (hle : (Cond.eq (.length (.field tm "java/lang/String" "value" "[B")) (.int (Int32.ofNat n))).before args s = true)
    (hel : ∀ j : Nat, j < n → (Cond.eq (.elem (.field tm "java/lang/String" "value" "[B") (.int (Int32.ofNat j))) (.int (byt.getD j 0))).before args s = true) (hA : ∀ a : Nat, a < s.heap.size → ¬ A a) :
    ∃ a v : Nat, tm.eval args s none [] s = some (.ref a) ∧ va_O "java/lang/String" a A s s.heap ∧ va_OF "java/lang/String" "coder" "B" (.int 0) a A s s.heap ∧ va_OF "java/lang/String" "value" "[B" (.ref v) a A s s.heap ∧ ∃ f : Nat → Int32, va_T .byte v n (fun j => .int (f j)) A s s.heap ∧ ∀ j, j < n → f j = nI (chr cdd j) := by
  obtain ⟨a, c, cA, kA, q1, q2, q3, q4, q5, q6, -⟩ := Cond.exactly_spec (args := args) (first := s) (o := none) (s := s) (idx := []) (t := tm) (cls := "java/lang/String") hex
  obtain ⟨t, ht, hT⟩ := va_Tof (f := fun j => .int (byt.getD j 0)) (A := A) hn har (va_eqt hle) (fun j hj => va_eqt (hel j hj)) hA
  exact ⟨a, t, q1, ⟨cA, q3, q5, by rw [q6]; exact q2, hA a (Array.getElem?_eq_some_iff.mp q3).1⟩, vk_OFof q1 (va_eqt hco) hA, vk_OFof q1 ht hA, _, hT, hb⟩
def kindOk : Cond → Bool
  | .laysStatic .. => true
  | .arrayOver (.object _) => true
  | .stringRef .. => true
  | .declares _ => true
  | .privateMethod _ => true
  | .castable .. => true
  | w => goodWord w
theorem kind_spec {w : Cond} (h : kindOk w = true) : goodWord w = true ∨ (∃ C n d, w = .laysStatic C n d) ∨ (∃ n, w = .arrayOver (.object n)) ∨ (∃ a b c, w = .stringRef a b c) ∨ (∃ x, w = .declares x) ∨ (∃ x, w = .privateMethod x) ∨ ∃ a b, w = .castable a b := by
  unfold kindOk at h
  split at h
  · exact Or.inr (Or.inl ⟨_, _, _, rfl⟩)
  · exact Or.inr (Or.inr (Or.inl ⟨_, rfl⟩))
  · exact Or.inr (Or.inr (Or.inr (Or.inl ⟨_, _, _, rfl⟩)))
  · exact Or.inr (Or.inr (Or.inr (Or.inr (Or.inl ⟨_, rfl⟩))))
  · exact Or.inr (Or.inr (Or.inr (Or.inr (Or.inr (Or.inl ⟨_, rfl⟩)))))
  · exact Or.inr (Or.inr (Or.inr (Or.inr (Or.inr (Or.inr ⟨_, _, rfl⟩)))))
  · exact Or.inl h
theorem tab_at {w : Cond} {args A' : Array Value} {s V : State} (hon : w.onTables = true) (he : w.before args (s.setVm V.vm) = w.before args s) (h : w.before args s = true) : w.before A' V = true := by
  have e : w.before A' (V.setVm V.vm) = w.before args (s.setVm V.vm) := Cond.onTables_vm V.vm w hon
  have e2 : V.setVm V.vm = V := rfl
  rw [e2] at e
  rw [e, he]
  exact h
theorem nc_at {C T : String} {args A' : Array Value} {s V : State} (hal : s.vm.Alike V.vm) (h : (Cond.not (.castable C T)).before args s = true) : (Cond.not (.castable C T)).before A' V = true := Cond.notCastable_moved (T := V) hal h
theorem kinds_ok : tables_1.all kindOk = true := by decide +kernel
theorem tb_t (i : Nat) {w : Cond} (h : tables_1[i]? = some w) : w ∈ lw_tbl := List.mem_append_right _ (List.mem_of_getElem? h)
section STD
variable {args : Array Value} {s : State}
theorem st_D (hts : ∀ w ∈ lw_tbl, w.before args s = true) : ∃ D, va_K D CL (TY D) s := by
  have hg : ∀ w ∈ lw_g, w.before args s = true := fun w hw => hts w (lw_g_in w hw)
  obtain ⟨c0, i0, k0⟩ := u_known (n := 5) hg in0 (hg _ t_30)
  obtain ⟨c1, i1, k1⟩ := u_known (n := 4) hg in1 (hg _ t_38)
  obtain ⟨c2, i2, k2⟩ := u_known (n := 3) hg in2 (hg _ t_71)
  obtain ⟨c3, i3, k3⟩ := u_known (n := 4) hg in3 (hg _ t_274)
  obtain ⟨c4, i4, k4⟩ := u_known (n := 1) hg in4 (hg _ t_536)
  obtain ⟨c5, i5, k5⟩ := u_known (n := 4) hg in5 (hg _ t_672)
  obtain ⟨c6, i6, k6⟩ := u_known (n := 9) hg in6 (hg _ t_721)
  obtain ⟨c7, i7, k7⟩ := u_known (n := 2) hg in7 (hg _ t_792)
  obtain ⟨c8, i8, k8⟩ := u_known (n := 2) hg in8 (hg _ t_863)
  obtain ⟨c9, i9, k9⟩ := u_known (n := 29) hg in9 (hg _ t_893)
  obtain ⟨c10, i10, k10⟩ := u_known (C := "java/lang/IllegalArgumentException") (T := TX) (N := 0) (n := 6) hg (fun w h => absurd h (by simp [u_ws])) (hg _ t_299)
  obtain ⟨c11, i11, k11⟩ := u_known (C := "java/lang/IllegalStateException") (T := TX) (N := 0) (n := 6) hg (fun w h => absurd h (by simp [u_ws])) (hg _ t_642)
  obtain ⟨c12, i12, k12⟩ := u_known (C := "java/util/NoSuchElementException") (T := TX) (N := 0) (n := 6) hg (fun w h => absurd h (by simp [u_ws])) (hg _ t_878)
  obtain ⟨a0, h0a, h0b⟩ := arr_k (hg _ t_112)
  obtain ⟨a1, h1a, h1b⟩ := arr_k (hg _ t_986)
  obtain ⟨a2, h2a, h2b⟩ := arr_k (hg _ t_987)
  obtain ⟨a3, h3a, h3b⟩ := arr_k (hg _ t_988)
  obtain ⟨a4, h4a, h4b⟩ := arr_k (hg _ t_69)
  obtain ⟨a5, h5a, h5b⟩ := arr_o (n := "java/lang/Object") (hts _ (tb_t 612 (by decide +kernel)))
  refine ⟨(fun n => match n with | 0 => c0 | 1 => c1 | 2 => c2 | 3 => c3 | 4 => c4 | 5 => c5 | 6 => c6 | 7 => c7 | 8 => c8 | 9 => c9 | 10 => c10 | 11 => c11 | 12 => c12 | 100 => a0 | 101 => a1 | 102 => a2 | 103 => a3 | 104 => a4 | _ => a5, fun n => match n with | 0 => i0 | 1 => i1 | 2 => i2 | 3 => i3 | 4 => i4 | 5 => i5 | 6 => i6 | 7 => i7 | 8 => i8 | 9 => i9 | 10 => i10 | 11 => i11 | 12 => i12 | _ => fun _ => 0), fun c q hq => ?_, fun c q hq => ?_⟩
  · match c, hq with
    | 0, hq => cases hq; exact k0
    | 1, hq => cases hq; exact k1
    | 2, hq => cases hq; exact k2
    | 3, hq => cases hq; exact k3
    | 4, hq => cases hq; exact k4
    | 5, hq => cases hq; exact k5
    | 6, hq => cases hq; exact k6
    | 7, hq => cases hq; exact k7
    | 8, hq => cases hq; exact k8
    | 9, hq => cases hq; exact k9
    | 10, hq => cases hq; exact k10
    | 11, hq => cases hq; exact k11
    | 12, hq => cases hq; exact k12
    | z + 13, hq => exact absurd hq (by simp)
  · match c, hq with
    | 0, hq => cases hq; exact ⟨h0a, h0b⟩
    | 1, hq => cases hq; exact ⟨h1a, h1b⟩
    | 2, hq => cases hq; exact ⟨h2a, h2b⟩
    | 3, hq => cases hq; exact ⟨h3a, h3b⟩
    | 4, hq => cases hq; exact ⟨h4a, h4b⟩
    | 5, hq => cases hq; exact ⟨h5a, h5b⟩
    | z + 6, hq => exact absurd hq (by simp)
end STD
theorem sn_zc : (.eq (.static "java/lang/String" "COMPACT_STRINGS" "Z") (.int 1) : Cond) ∈ flatC (Jvm.Cond.and given_1 narrow_1) := by decide +kernel
theorem sn_zd1 : (.arrayOf (.static "java/util/ArrayList" "DEFAULTCAPACITY_EMPTY_ELEMENTDATA" "[Ljava/lang/Object;") (.object "java/lang/Object") : Cond) ∈ flatC (Jvm.Cond.and given_1 narrow_1) := by decide +kernel
theorem sn_zd2 : (.eq (.length (.static "java/util/ArrayList" "DEFAULTCAPACITY_EMPTY_ELEMENTDATA" "[Ljava/lang/Object;")) (.int 0) : Cond) ∈ flatC (Jvm.Cond.and given_1 narrow_1) := by decide +kernel
theorem sn_zs : (.isRef (.static "jdk/internal/util/Preconditions" "SIOOBE_FORMATTER" "Ljava/util/function/BiFunction;") : Cond) ∈ flatC (Jvm.Cond.and given_1 narrow_1) := by decide +kernel
theorem sn_zu : (.isRef (.static "java/lang/Throwable" "UNASSIGNED_STACK" "[Ljava/lang/StackTraceElement;") : Cond) ∈ flatC (Jvm.Cond.and given_1 narrow_1) := by decide +kernel
theorem sn_zp : (.isRef (.static "java/lang/Throwable" "SUPPRESSED_SENTINEL" "Ljava/util/List;") : Cond) ∈ flatC (Jvm.Cond.and given_1 narrow_1) := by decide +kernel
theorem sn_mi : (.isRef (.mirror "[Ljava/lang/Object;") : Cond) ∈ flatC (Jvm.Cond.and given_1 narrow_1) := by decide +kernel
theorem sn_nc : (.not (.castable "java/lang/IllegalStateException" "java/lang/IllegalArgumentException") : Cond) ∈ flatC (Jvm.Cond.and given_1 narrow_1) := by decide +kernel
theorem sn_x0 : (.exactly (.string "java/lang/StringLatin1" 151) "java/lang/String" : Cond) ∈ flatC (Jvm.Cond.and given_1 narrow_1) := by decide +kernel
theorem sn_c0 : (.eq (.field (.string "java/lang/StringLatin1" 151) "java/lang/String" "coder" "B") (.int 0) : Cond) ∈ flatC (Jvm.Cond.and given_1 narrow_1) := by decide +kernel
theorem sn_a0 : (.arrayOf (.field (.string "java/lang/StringLatin1" 151) "java/lang/String" "value" "[B") .byte : Cond) ∈ flatC (Jvm.Cond.and given_1 narrow_1) := by decide +kernel
theorem sn_l0 : (.eq (.length (.field (.string "java/lang/StringLatin1" 151) "java/lang/String" "value" "[B")) (.int 0) : Cond) ∈ flatC (Jvm.Cond.and given_1 narrow_1) := by decide +kernel
theorem sn_x1 : (.exactly (.string "RealmDesk" 156) "java/lang/String" : Cond) ∈ flatC (Jvm.Cond.and given_1 narrow_1) := by decide +kernel
theorem sn_c1 : (.eq (.field (.string "RealmDesk" 156) "java/lang/String" "coder" "B") (.int 0) : Cond) ∈ flatC (Jvm.Cond.and given_1 narrow_1) := by decide +kernel
theorem sn_a1 : (.arrayOf (.field (.string "RealmDesk" 156) "java/lang/String" "value" "[B") .byte : Cond) ∈ flatC (Jvm.Cond.and given_1 narrow_1) := by decide +kernel
theorem sn_l1 : (.eq (.length (.field (.string "RealmDesk" 156) "java/lang/String" "value" "[B")) (.int 7) : Cond) ∈ flatC (Jvm.Cond.and given_1 narrow_1) := by decide +kernel
theorem sn_e1_0 : (.eq (.elem (.field (.string "RealmDesk" 156) "java/lang/String" "value" "[B") (.int 0)) (.int 97) : Cond) ∈ flatC (Jvm.Cond.and given_1 narrow_1) := by decide +kernel
theorem sn_e1_1 : (.eq (.elem (.field (.string "RealmDesk" 156) "java/lang/String" "value" "[B") (.int 1)) (.int 114) : Cond) ∈ flatC (Jvm.Cond.and given_1 narrow_1) := by decide +kernel
theorem sn_e1_2 : (.eq (.elem (.field (.string "RealmDesk" 156) "java/lang/String" "value" "[B") (.int 2)) (.int 99) : Cond) ∈ flatC (Jvm.Cond.and given_1 narrow_1) := by decide +kernel
theorem sn_e1_3 : (.eq (.elem (.field (.string "RealmDesk" 156) "java/lang/String" "value" "[B") (.int 3)) (.int 104) : Cond) ∈ flatC (Jvm.Cond.and given_1 narrow_1) := by decide +kernel
theorem sn_e1_4 : (.eq (.elem (.field (.string "RealmDesk" 156) "java/lang/String" "value" "[B") (.int 4)) (.int 105) : Cond) ∈ flatC (Jvm.Cond.and given_1 narrow_1) := by decide +kernel
theorem sn_e1_5 : (.eq (.elem (.field (.string "RealmDesk" 156) "java/lang/String" "value" "[B") (.int 5)) (.int 118) : Cond) ∈ flatC (Jvm.Cond.and given_1 narrow_1) := by decide +kernel
theorem sn_e1_6 : (.eq (.elem (.field (.string "RealmDesk" 156) "java/lang/String" "value" "[B") (.int 6)) (.int 101) : Cond) ∈ flatC (Jvm.Cond.and given_1 narrow_1) := by decide +kernel
theorem sn_x2 : (.exactly (.string "RealmDesk" 161) "java/lang/String" : Cond) ∈ flatC (Jvm.Cond.and given_1 narrow_1) := by decide +kernel
theorem sn_c2 : (.eq (.field (.string "RealmDesk" 161) "java/lang/String" "coder" "B") (.int 0) : Cond) ∈ flatC (Jvm.Cond.and given_1 narrow_1) := by decide +kernel
theorem sn_a2 : (.arrayOf (.field (.string "RealmDesk" 161) "java/lang/String" "value" "[B") .byte : Cond) ∈ flatC (Jvm.Cond.and given_1 narrow_1) := by decide +kernel
theorem sn_l2 : (.eq (.length (.field (.string "RealmDesk" 161) "java/lang/String" "value" "[B")) (.int 4) : Cond) ∈ flatC (Jvm.Cond.and given_1 narrow_1) := by decide +kernel
theorem sn_e2_0 : (.eq (.elem (.field (.string "RealmDesk" 161) "java/lang/String" "value" "[B") (.int 0)) (.int 110) : Cond) ∈ flatC (Jvm.Cond.and given_1 narrow_1) := by decide +kernel
theorem sn_e2_1 : (.eq (.elem (.field (.string "RealmDesk" 161) "java/lang/String" "value" "[B") (.int 1)) (.int 97) : Cond) ∈ flatC (Jvm.Cond.and given_1 narrow_1) := by decide +kernel
theorem sn_e2_2 : (.eq (.elem (.field (.string "RealmDesk" 161) "java/lang/String" "value" "[B") (.int 2)) (.int 109) : Cond) ∈ flatC (Jvm.Cond.and given_1 narrow_1) := by decide +kernel
theorem sn_e2_3 : (.eq (.elem (.field (.string "RealmDesk" 161) "java/lang/String" "value" "[B") (.int 3)) (.int 101) : Cond) ∈ flatC (Jvm.Cond.and given_1 narrow_1) := by decide +kernel
theorem sn_x3 : (.exactly (.string "RealmDesk" 166) "java/lang/String" : Cond) ∈ flatC (Jvm.Cond.and given_1 narrow_1) := by decide +kernel
theorem sn_c3 : (.eq (.field (.string "RealmDesk" 166) "java/lang/String" "coder" "B") (.int 0) : Cond) ∈ flatC (Jvm.Cond.and given_1 narrow_1) := by decide +kernel
theorem sn_a3 : (.arrayOf (.field (.string "RealmDesk" 166) "java/lang/String" "value" "[B") .byte : Cond) ∈ flatC (Jvm.Cond.and given_1 narrow_1) := by decide +kernel
theorem sn_l3 : (.eq (.length (.field (.string "RealmDesk" 166) "java/lang/String" "value" "[B")) (.int 5) : Cond) ∈ flatC (Jvm.Cond.and given_1 narrow_1) := by decide +kernel
theorem sn_e3_0 : (.eq (.elem (.field (.string "RealmDesk" 166) "java/lang/String" "value" "[B") (.int 0)) (.int 114) : Cond) ∈ flatC (Jvm.Cond.and given_1 narrow_1) := by decide +kernel
theorem sn_e3_1 : (.eq (.elem (.field (.string "RealmDesk" 166) "java/lang/String" "value" "[B") (.int 1)) (.int 101) : Cond) ∈ flatC (Jvm.Cond.and given_1 narrow_1) := by decide +kernel
theorem sn_e3_2 : (.eq (.elem (.field (.string "RealmDesk" 166) "java/lang/String" "value" "[B") (.int 2)) (.int 97) : Cond) ∈ flatC (Jvm.Cond.and given_1 narrow_1) := by decide +kernel
theorem sn_e3_3 : (.eq (.elem (.field (.string "RealmDesk" 166) "java/lang/String" "value" "[B") (.int 3)) (.int 108) : Cond) ∈ flatC (Jvm.Cond.and given_1 narrow_1) := by decide +kernel
theorem sn_e3_4 : (.eq (.elem (.field (.string "RealmDesk" 166) "java/lang/String" "value" "[B") (.int 4)) (.int 109) : Cond) ∈ flatC (Jvm.Cond.and given_1 narrow_1) := by decide +kernel
theorem sn_x4 : (.exactly (.string "RealmDesk" 171) "java/lang/String" : Cond) ∈ flatC (Jvm.Cond.and given_1 narrow_1) := by decide +kernel
theorem sn_c4 : (.eq (.field (.string "RealmDesk" 171) "java/lang/String" "coder" "B") (.int 0) : Cond) ∈ flatC (Jvm.Cond.and given_1 narrow_1) := by decide +kernel
theorem sn_a4 : (.arrayOf (.field (.string "RealmDesk" 171) "java/lang/String" "value" "[B") .byte : Cond) ∈ flatC (Jvm.Cond.and given_1 narrow_1) := by decide +kernel
theorem sn_l4 : (.eq (.length (.field (.string "RealmDesk" 171) "java/lang/String" "value" "[B")) (.int 4) : Cond) ∈ flatC (Jvm.Cond.and given_1 narrow_1) := by decide +kernel
theorem sn_e4_0 : (.eq (.elem (.field (.string "RealmDesk" 171) "java/lang/String" "value" "[B") (.int 0)) (.int 108) : Cond) ∈ flatC (Jvm.Cond.and given_1 narrow_1) := by decide +kernel
theorem sn_e4_1 : (.eq (.elem (.field (.string "RealmDesk" 171) "java/lang/String" "value" "[B") (.int 1)) (.int 111) : Cond) ∈ flatC (Jvm.Cond.and given_1 narrow_1) := by decide +kernel
theorem sn_e4_2 : (.eq (.elem (.field (.string "RealmDesk" 171) "java/lang/String" "value" "[B") (.int 2)) (.int 97) : Cond) ∈ flatC (Jvm.Cond.and given_1 narrow_1) := by decide +kernel
theorem sn_e4_3 : (.eq (.elem (.field (.string "RealmDesk" 171) "java/lang/String" "value" "[B") (.int 3)) (.int 100) : Cond) ∈ flatC (Jvm.Cond.and given_1 narrow_1) := by decide +kernel
theorem sn_x5 : (.exactly (.string "RealmDesk" 176) "java/lang/String" : Cond) ∈ flatC (Jvm.Cond.and given_1 narrow_1) := by decide +kernel
theorem sn_c5 : (.eq (.field (.string "RealmDesk" 176) "java/lang/String" "coder" "B") (.int 0) : Cond) ∈ flatC (Jvm.Cond.and given_1 narrow_1) := by decide +kernel
theorem sn_a5 : (.arrayOf (.field (.string "RealmDesk" 176) "java/lang/String" "value" "[B") .byte : Cond) ∈ flatC (Jvm.Cond.and given_1 narrow_1) := by decide +kernel
theorem sn_l5 : (.eq (.length (.field (.string "RealmDesk" 176) "java/lang/String" "value" "[B")) (.int 6) : Cond) ∈ flatC (Jvm.Cond.and given_1 narrow_1) := by decide +kernel
theorem sn_e5_0 : (.eq (.elem (.field (.string "RealmDesk" 176) "java/lang/String" "value" "[B") (.int 0)) (.int 112) : Cond) ∈ flatC (Jvm.Cond.and given_1 narrow_1) := by decide +kernel
theorem sn_e5_1 : (.eq (.elem (.field (.string "RealmDesk" 176) "java/lang/String" "value" "[B") (.int 1)) (.int 97) : Cond) ∈ flatC (Jvm.Cond.and given_1 narrow_1) := by decide +kernel
theorem sn_e5_2 : (.eq (.elem (.field (.string "RealmDesk" 176) "java/lang/String" "value" "[B") (.int 2)) (.int 114) : Cond) ∈ flatC (Jvm.Cond.and given_1 narrow_1) := by decide +kernel
theorem sn_e5_3 : (.eq (.elem (.field (.string "RealmDesk" 176) "java/lang/String" "value" "[B") (.int 3)) (.int 101) : Cond) ∈ flatC (Jvm.Cond.and given_1 narrow_1) := by decide +kernel
theorem sn_e5_4 : (.eq (.elem (.field (.string "RealmDesk" 176) "java/lang/String" "value" "[B") (.int 4)) (.int 110) : Cond) ∈ flatC (Jvm.Cond.and given_1 narrow_1) := by decide +kernel
theorem sn_e5_5 : (.eq (.elem (.field (.string "RealmDesk" 176) "java/lang/String" "value" "[B") (.int 5)) (.int 116) : Cond) ∈ flatC (Jvm.Cond.and given_1 narrow_1) := by decide +kernel
theorem sn_x6 : (.exactly (.string "RealmDesk" 181) "java/lang/String" : Cond) ∈ flatC (Jvm.Cond.and given_1 narrow_1) := by decide +kernel
theorem sn_c6 : (.eq (.field (.string "RealmDesk" 181) "java/lang/String" "coder" "B") (.int 0) : Cond) ∈ flatC (Jvm.Cond.and given_1 narrow_1) := by decide +kernel
theorem sn_a6 : (.arrayOf (.field (.string "RealmDesk" 181) "java/lang/String" "value" "[B") .byte : Cond) ∈ flatC (Jvm.Cond.and given_1 narrow_1) := by decide +kernel
theorem sn_l6 : (.eq (.length (.field (.string "RealmDesk" 181) "java/lang/String" "value" "[B")) (.int 6) : Cond) ∈ flatC (Jvm.Cond.and given_1 narrow_1) := by decide +kernel
theorem sn_e6_0 : (.eq (.elem (.field (.string "RealmDesk" 181) "java/lang/String" "value" "[B") (.int 0)) (.int 105) : Cond) ∈ flatC (Jvm.Cond.and given_1 narrow_1) := by decide +kernel
theorem sn_e6_1 : (.eq (.elem (.field (.string "RealmDesk" 181) "java/lang/String" "value" "[B") (.int 1)) (.int 109) : Cond) ∈ flatC (Jvm.Cond.and given_1 narrow_1) := by decide +kernel
theorem sn_e6_2 : (.eq (.elem (.field (.string "RealmDesk" 181) "java/lang/String" "value" "[B") (.int 2)) (.int 112) : Cond) ∈ flatC (Jvm.Cond.and given_1 narrow_1) := by decide +kernel
theorem sn_e6_3 : (.eq (.elem (.field (.string "RealmDesk" 181) "java/lang/String" "value" "[B") (.int 3)) (.int 111) : Cond) ∈ flatC (Jvm.Cond.and given_1 narrow_1) := by decide +kernel
theorem sn_e6_4 : (.eq (.elem (.field (.string "RealmDesk" 181) "java/lang/String" "value" "[B") (.int 4)) (.int 114) : Cond) ∈ flatC (Jvm.Cond.and given_1 narrow_1) := by decide +kernel
theorem sn_e6_5 : (.eq (.elem (.field (.string "RealmDesk" 181) "java/lang/String" "value" "[B") (.int 5)) (.int 116) : Cond) ∈ flatC (Jvm.Cond.and given_1 narrow_1) := by decide +kernel
theorem sn_x7 : (.exactly (.string "RealmDesk" 183) "java/lang/String" : Cond) ∈ flatC (Jvm.Cond.and given_1 narrow_1) := by decide +kernel
theorem sn_c7 : (.eq (.field (.string "RealmDesk" 183) "java/lang/String" "coder" "B") (.int 0) : Cond) ∈ flatC (Jvm.Cond.and given_1 narrow_1) := by decide +kernel
theorem sn_a7 : (.arrayOf (.field (.string "RealmDesk" 183) "java/lang/String" "value" "[B") .byte : Cond) ∈ flatC (Jvm.Cond.and given_1 narrow_1) := by decide +kernel
theorem sn_l7 : (.eq (.length (.field (.string "RealmDesk" 183) "java/lang/String" "value" "[B")) (.int 4) : Cond) ∈ flatC (Jvm.Cond.and given_1 narrow_1) := by decide +kernel
theorem sn_e7_0 : (.eq (.elem (.field (.string "RealmDesk" 183) "java/lang/String" "value" "[B") (.int 0)) (.int 102) : Cond) ∈ flatC (Jvm.Cond.and given_1 narrow_1) := by decide +kernel
theorem sn_e7_1 : (.eq (.elem (.field (.string "RealmDesk" 183) "java/lang/String" "value" "[B") (.int 1)) (.int 114) : Cond) ∈ flatC (Jvm.Cond.and given_1 narrow_1) := by decide +kernel
theorem sn_e7_2 : (.eq (.elem (.field (.string "RealmDesk" 183) "java/lang/String" "value" "[B") (.int 2)) (.int 111) : Cond) ∈ flatC (Jvm.Cond.and given_1 narrow_1) := by decide +kernel
theorem sn_e7_3 : (.eq (.elem (.field (.string "RealmDesk" 183) "java/lang/String" "value" "[B") (.int 3)) (.int 109) : Cond) ∈ flatC (Jvm.Cond.and given_1 narrow_1) := by decide +kernel
theorem sn_x8 : (.exactly (.string "RealmDesk" 235) "java/lang/String" : Cond) ∈ flatC (Jvm.Cond.and given_1 narrow_1) := by decide +kernel
theorem sn_c8 : (.eq (.field (.string "RealmDesk" 235) "java/lang/String" "coder" "B") (.int 0) : Cond) ∈ flatC (Jvm.Cond.and given_1 narrow_1) := by decide +kernel
theorem sn_a8 : (.arrayOf (.field (.string "RealmDesk" 235) "java/lang/String" "value" "[B") .byte : Cond) ∈ flatC (Jvm.Cond.and given_1 narrow_1) := by decide +kernel
theorem sn_l8 : (.eq (.length (.field (.string "RealmDesk" 235) "java/lang/String" "value" "[B")) (.int 5) : Cond) ∈ flatC (Jvm.Cond.and given_1 narrow_1) := by decide +kernel
theorem sn_e8_0 : (.eq (.elem (.field (.string "RealmDesk" 235) "java/lang/String" "value" "[B") (.int 0)) (.int 102) : Cond) ∈ flatC (Jvm.Cond.and given_1 narrow_1) := by decide +kernel
theorem sn_e8_1 : (.eq (.elem (.field (.string "RealmDesk" 235) "java/lang/String" "value" "[B") (.int 1)) (.int 105) : Cond) ∈ flatC (Jvm.Cond.and given_1 narrow_1) := by decide +kernel
theorem sn_e8_2 : (.eq (.elem (.field (.string "RealmDesk" 235) "java/lang/String" "value" "[B") (.int 2)) (.int 114) : Cond) ∈ flatC (Jvm.Cond.and given_1 narrow_1) := by decide +kernel
theorem sn_e8_3 : (.eq (.elem (.field (.string "RealmDesk" 235) "java/lang/String" "value" "[B") (.int 3)) (.int 115) : Cond) ∈ flatC (Jvm.Cond.and given_1 narrow_1) := by decide +kernel
theorem sn_e8_4 : (.eq (.elem (.field (.string "RealmDesk" 235) "java/lang/String" "value" "[B") (.int 4)) (.int 116) : Cond) ∈ flatC (Jvm.Cond.and given_1 narrow_1) := by decide +kernel
theorem sn_x9 : (.exactly (.string "RealmDesk" 237) "java/lang/String" : Cond) ∈ flatC (Jvm.Cond.and given_1 narrow_1) := by decide +kernel
theorem sn_c9 : (.eq (.field (.string "RealmDesk" 237) "java/lang/String" "coder" "B") (.int 0) : Cond) ∈ flatC (Jvm.Cond.and given_1 narrow_1) := by decide +kernel
theorem sn_a9 : (.arrayOf (.field (.string "RealmDesk" 237) "java/lang/String" "value" "[B") .byte : Cond) ∈ flatC (Jvm.Cond.and given_1 narrow_1) := by decide +kernel
theorem sn_l9 : (.eq (.length (.field (.string "RealmDesk" 237) "java/lang/String" "value" "[B")) (.int 4) : Cond) ∈ flatC (Jvm.Cond.and given_1 narrow_1) := by decide +kernel
theorem sn_e9_0 : (.eq (.elem (.field (.string "RealmDesk" 237) "java/lang/String" "value" "[B") (.int 0)) (.int 115) : Cond) ∈ flatC (Jvm.Cond.and given_1 narrow_1) := by decide +kernel
theorem sn_e9_1 : (.eq (.elem (.field (.string "RealmDesk" 237) "java/lang/String" "value" "[B") (.int 1)) (.int 101) : Cond) ∈ flatC (Jvm.Cond.and given_1 narrow_1) := by decide +kernel
theorem sn_e9_2 : (.eq (.elem (.field (.string "RealmDesk" 237) "java/lang/String" "value" "[B") (.int 2)) (.int 108) : Cond) ∈ flatC (Jvm.Cond.and given_1 narrow_1) := by decide +kernel
theorem sn_e9_3 : (.eq (.elem (.field (.string "RealmDesk" 237) "java/lang/String" "value" "[B") (.int 3)) (.int 102) : Cond) ∈ flatC (Jvm.Cond.and given_1 narrow_1) := by decide +kernel
section STE
variable {args : Array Value} {s : State} {A : Nat → Prop}
theorem ss_0 (hn : ∀ w ∈ flatC (Jvm.Cond.and given_1 narrow_1), w.before args s = true) (hA : ∀ a : Nat, a < s.heap.size → ¬ A a) : ∃ a v : Nat, (Term.string "java/lang/StringLatin1" 151).eval args s none [] s = some (.ref a) ∧ va_O "java/lang/String" a A s s.heap ∧ va_OF "java/lang/String" "coder" "B" (.int 0) a A s s.heap ∧ va_OF "java/lang/String" "value" "[B" (.ref v) a A s s.heap ∧ ∃ f : Nat → Int32, va_T .byte v 0 (fun j => .int (f j)) A s s.heap ∧ ∀ j, j < 0 → f j = nI (chr (kc 0) j) := by
  refine str_of (byt := []) (cdd := kc 0) (by decide) (by decide +kernel) (hn _ sn_x0) (hn _ sn_c0) (hn _ sn_a0) (hn _ sn_l0) (fun j hj => ?_) hA
  exact absurd hj (Nat.not_lt_zero _)
theorem ss_1 (hn : ∀ w ∈ flatC (Jvm.Cond.and given_1 narrow_1), w.before args s = true) (hA : ∀ a : Nat, a < s.heap.size → ¬ A a) : ∃ a v : Nat, (Term.string "RealmDesk" 156).eval args s none [] s = some (.ref a) ∧ va_O "java/lang/String" a A s s.heap ∧ va_OF "java/lang/String" "coder" "B" (.int 0) a A s s.heap ∧ va_OF "java/lang/String" "value" "[B" (.ref v) a A s s.heap ∧ ∃ f : Nat → Int32, va_T .byte v 7 (fun j => .int (f j)) A s s.heap ∧ ∀ j, j < 7 → f j = nI (chr (kc 1) j) := by
  refine str_of (byt := [97, 114, 99, 104, 105, 118, 101]) (cdd := kc 1) (by decide) (by decide +kernel) (hn _ sn_x1) (hn _ sn_c1) (hn _ sn_a1) (hn _ sn_l1) (fun j hj => ?_) hA
  match j, hj with
  | 0, _ => exact hn _ sn_e1_0
  | 1, _ => exact hn _ sn_e1_1
  | 2, _ => exact hn _ sn_e1_2
  | 3, _ => exact hn _ sn_e1_3
  | 4, _ => exact hn _ sn_e1_4
  | 5, _ => exact hn _ sn_e1_5
  | 6, _ => exact hn _ sn_e1_6
  | z + 7, hz => exact absurd hz (by omega)
theorem ss_2 (hn : ∀ w ∈ flatC (Jvm.Cond.and given_1 narrow_1), w.before args s = true) (hA : ∀ a : Nat, a < s.heap.size → ¬ A a) : ∃ a v : Nat, (Term.string "RealmDesk" 161).eval args s none [] s = some (.ref a) ∧ va_O "java/lang/String" a A s s.heap ∧ va_OF "java/lang/String" "coder" "B" (.int 0) a A s s.heap ∧ va_OF "java/lang/String" "value" "[B" (.ref v) a A s s.heap ∧ ∃ f : Nat → Int32, va_T .byte v 4 (fun j => .int (f j)) A s s.heap ∧ ∀ j, j < 4 → f j = nI (chr (kc 2) j) := by
  refine str_of (byt := [110, 97, 109, 101]) (cdd := kc 2) (by decide) (by decide +kernel) (hn _ sn_x2) (hn _ sn_c2) (hn _ sn_a2) (hn _ sn_l2) (fun j hj => ?_) hA
  match j, hj with
  | 0, _ => exact hn _ sn_e2_0
  | 1, _ => exact hn _ sn_e2_1
  | 2, _ => exact hn _ sn_e2_2
  | 3, _ => exact hn _ sn_e2_3
  | z + 4, hz => exact absurd hz (by omega)
theorem ss_3 (hn : ∀ w ∈ flatC (Jvm.Cond.and given_1 narrow_1), w.before args s = true) (hA : ∀ a : Nat, a < s.heap.size → ¬ A a) : ∃ a v : Nat, (Term.string "RealmDesk" 166).eval args s none [] s = some (.ref a) ∧ va_O "java/lang/String" a A s s.heap ∧ va_OF "java/lang/String" "coder" "B" (.int 0) a A s s.heap ∧ va_OF "java/lang/String" "value" "[B" (.ref v) a A s s.heap ∧ ∃ f : Nat → Int32, va_T .byte v 5 (fun j => .int (f j)) A s s.heap ∧ ∀ j, j < 5 → f j = nI (chr (kc 3) j) := by
  refine str_of (byt := [114, 101, 97, 108, 109]) (cdd := kc 3) (by decide) (by decide +kernel) (hn _ sn_x3) (hn _ sn_c3) (hn _ sn_a3) (hn _ sn_l3) (fun j hj => ?_) hA
  match j, hj with
  | 0, _ => exact hn _ sn_e3_0
  | 1, _ => exact hn _ sn_e3_1
  | 2, _ => exact hn _ sn_e3_2
  | 3, _ => exact hn _ sn_e3_3
  | 4, _ => exact hn _ sn_e3_4
  | z + 5, hz => exact absurd hz (by omega)
theorem ss_4 (hn : ∀ w ∈ flatC (Jvm.Cond.and given_1 narrow_1), w.before args s = true) (hA : ∀ a : Nat, a < s.heap.size → ¬ A a) : ∃ a v : Nat, (Term.string "RealmDesk" 171).eval args s none [] s = some (.ref a) ∧ va_O "java/lang/String" a A s s.heap ∧ va_OF "java/lang/String" "coder" "B" (.int 0) a A s s.heap ∧ va_OF "java/lang/String" "value" "[B" (.ref v) a A s s.heap ∧ ∃ f : Nat → Int32, va_T .byte v 4 (fun j => .int (f j)) A s s.heap ∧ ∀ j, j < 4 → f j = nI (chr (kc 4) j) := by
  refine str_of (byt := [108, 111, 97, 100]) (cdd := kc 4) (by decide) (by decide +kernel) (hn _ sn_x4) (hn _ sn_c4) (hn _ sn_a4) (hn _ sn_l4) (fun j hj => ?_) hA
  match j, hj with
  | 0, _ => exact hn _ sn_e4_0
  | 1, _ => exact hn _ sn_e4_1
  | 2, _ => exact hn _ sn_e4_2
  | 3, _ => exact hn _ sn_e4_3
  | z + 4, hz => exact absurd hz (by omega)
theorem ss_5 (hn : ∀ w ∈ flatC (Jvm.Cond.and given_1 narrow_1), w.before args s = true) (hA : ∀ a : Nat, a < s.heap.size → ¬ A a) : ∃ a v : Nat, (Term.string "RealmDesk" 176).eval args s none [] s = some (.ref a) ∧ va_O "java/lang/String" a A s s.heap ∧ va_OF "java/lang/String" "coder" "B" (.int 0) a A s s.heap ∧ va_OF "java/lang/String" "value" "[B" (.ref v) a A s s.heap ∧ ∃ f : Nat → Int32, va_T .byte v 6 (fun j => .int (f j)) A s s.heap ∧ ∀ j, j < 6 → f j = nI (chr (kc 5) j) := by
  refine str_of (byt := [112, 97, 114, 101, 110, 116]) (cdd := kc 5) (by decide) (by decide +kernel) (hn _ sn_x5) (hn _ sn_c5) (hn _ sn_a5) (hn _ sn_l5) (fun j hj => ?_) hA
  match j, hj with
  | 0, _ => exact hn _ sn_e5_0
  | 1, _ => exact hn _ sn_e5_1
  | 2, _ => exact hn _ sn_e5_2
  | 3, _ => exact hn _ sn_e5_3
  | 4, _ => exact hn _ sn_e5_4
  | 5, _ => exact hn _ sn_e5_5
  | z + 6, hz => exact absurd hz (by omega)
theorem ss_6 (hn : ∀ w ∈ flatC (Jvm.Cond.and given_1 narrow_1), w.before args s = true) (hA : ∀ a : Nat, a < s.heap.size → ¬ A a) : ∃ a v : Nat, (Term.string "RealmDesk" 181).eval args s none [] s = some (.ref a) ∧ va_O "java/lang/String" a A s s.heap ∧ va_OF "java/lang/String" "coder" "B" (.int 0) a A s s.heap ∧ va_OF "java/lang/String" "value" "[B" (.ref v) a A s s.heap ∧ ∃ f : Nat → Int32, va_T .byte v 6 (fun j => .int (f j)) A s s.heap ∧ ∀ j, j < 6 → f j = nI (chr (kc 6) j) := by
  refine str_of (byt := [105, 109, 112, 111, 114, 116]) (cdd := kc 6) (by decide) (by decide +kernel) (hn _ sn_x6) (hn _ sn_c6) (hn _ sn_a6) (hn _ sn_l6) (fun j hj => ?_) hA
  match j, hj with
  | 0, _ => exact hn _ sn_e6_0
  | 1, _ => exact hn _ sn_e6_1
  | 2, _ => exact hn _ sn_e6_2
  | 3, _ => exact hn _ sn_e6_3
  | 4, _ => exact hn _ sn_e6_4
  | 5, _ => exact hn _ sn_e6_5
  | z + 6, hz => exact absurd hz (by omega)
theorem ss_7 (hn : ∀ w ∈ flatC (Jvm.Cond.and given_1 narrow_1), w.before args s = true) (hA : ∀ a : Nat, a < s.heap.size → ¬ A a) : ∃ a v : Nat, (Term.string "RealmDesk" 183).eval args s none [] s = some (.ref a) ∧ va_O "java/lang/String" a A s s.heap ∧ va_OF "java/lang/String" "coder" "B" (.int 0) a A s s.heap ∧ va_OF "java/lang/String" "value" "[B" (.ref v) a A s s.heap ∧ ∃ f : Nat → Int32, va_T .byte v 4 (fun j => .int (f j)) A s s.heap ∧ ∀ j, j < 4 → f j = nI (chr (kc 7) j) := by
  refine str_of (byt := [102, 114, 111, 109]) (cdd := kc 7) (by decide) (by decide +kernel) (hn _ sn_x7) (hn _ sn_c7) (hn _ sn_a7) (hn _ sn_l7) (fun j hj => ?_) hA
  match j, hj with
  | 0, _ => exact hn _ sn_e7_0
  | 1, _ => exact hn _ sn_e7_1
  | 2, _ => exact hn _ sn_e7_2
  | 3, _ => exact hn _ sn_e7_3
  | z + 4, hz => exact absurd hz (by omega)
theorem ss_8 (hn : ∀ w ∈ flatC (Jvm.Cond.and given_1 narrow_1), w.before args s = true) (hA : ∀ a : Nat, a < s.heap.size → ¬ A a) : ∃ a v : Nat, (Term.string "RealmDesk" 235).eval args s none [] s = some (.ref a) ∧ va_O "java/lang/String" a A s s.heap ∧ va_OF "java/lang/String" "coder" "B" (.int 0) a A s s.heap ∧ va_OF "java/lang/String" "value" "[B" (.ref v) a A s s.heap ∧ ∃ f : Nat → Int32, va_T .byte v 5 (fun j => .int (f j)) A s s.heap ∧ ∀ j, j < 5 → f j = nI (chr (kc 8) j) := by
  refine str_of (byt := [102, 105, 114, 115, 116]) (cdd := kc 8) (by decide) (by decide +kernel) (hn _ sn_x8) (hn _ sn_c8) (hn _ sn_a8) (hn _ sn_l8) (fun j hj => ?_) hA
  match j, hj with
  | 0, _ => exact hn _ sn_e8_0
  | 1, _ => exact hn _ sn_e8_1
  | 2, _ => exact hn _ sn_e8_2
  | 3, _ => exact hn _ sn_e8_3
  | 4, _ => exact hn _ sn_e8_4
  | z + 5, hz => exact absurd hz (by omega)
theorem ss_9 (hn : ∀ w ∈ flatC (Jvm.Cond.and given_1 narrow_1), w.before args s = true) (hA : ∀ a : Nat, a < s.heap.size → ¬ A a) : ∃ a v : Nat, (Term.string "RealmDesk" 237).eval args s none [] s = some (.ref a) ∧ va_O "java/lang/String" a A s s.heap ∧ va_OF "java/lang/String" "coder" "B" (.int 0) a A s s.heap ∧ va_OF "java/lang/String" "value" "[B" (.ref v) a A s s.heap ∧ ∃ f : Nat → Int32, va_T .byte v 4 (fun j => .int (f j)) A s s.heap ∧ ∀ j, j < 4 → f j = nI (chr (kc 9) j) := by
  refine str_of (byt := [115, 101, 108, 102]) (cdd := kc 9) (by decide) (by decide +kernel) (hn _ sn_x9) (hn _ sn_c9) (hn _ sn_a9) (hn _ sn_l9) (fun j hj => ?_) hA
  match j, hj with
  | 0, _ => exact hn _ sn_e9_0
  | 1, _ => exact hn _ sn_e9_1
  | 2, _ => exact hn _ sn_e9_2
  | 3, _ => exact hn _ sn_e9_3
  | z + 4, hz => exact absurd hz (by omega)
end STE
theorem st_E {s : State} {b : Nat} (hts : ∀ w ∈ lw_tbl, w.before #[Value.ref b] s = true) (hgv : (Jvm.Cond.and given_1 narrow_1).before #[Value.ref b] s = true) : ∃ k : Nat → Nat, EE s.heap.size k s ∧ k 10 < s.heap.size ∧ k 1 < s.heap.size := by
  have hn : ∀ w ∈ flatC (Jvm.Cond.and given_1 narrow_1), w.before #[Value.ref b] s = true := flat_of_before _ hgv
  have hA : ∀ a : Nat, a < s.heap.size → ¬ AA s.heap.size a := fun a ha => Nat.not_le.mpr ha
  have zc := va_Zof (hts _ (tb_t 47 (by decide +kernel))) (hts _ (tb_t 4 (by decide +kernel))) (va_eqi (hn _ sn_zc)) hA
  obtain ⟨t1, zd1, zdT⟩ := va_Tof (N := 0) (f := fun _ => .null) (by decide) (hn _ sn_zd1) (va_eqt (hn _ sn_zd2)) (fun j hj => absurd hj (Nat.not_lt_zero _)) hA
  have zd := va_Zref (hts _ (tb_t 83 (by decide +kernel))) (hts _ (tb_t 8 (by decide +kernel))) zd1 hA
  have zs := va_Zqof (hts _ (tb_t 194 (by decide +kernel))) (hts _ (tb_t 15 (by decide +kernel))) (hn _ sn_zs) hA
  have zu := va_Zqof (hts _ (tb_t 325 (by decide +kernel))) (hts _ (tb_t 16 (by decide +kernel))) (hn _ sn_zu) hA
  have zp := va_Zqof (hts _ (tb_t 327 (by decide +kernel))) (hts _ (tb_t 16 (by decide +kernel))) (hn _ sn_zp) hA
  obtain ⟨mi, hmi⟩ := va_Mi.of (hn _ sn_mi)
  obtain ⟨a0, v0, e0, o0, f0, g0, F0, T0, N0⟩ := ss_0 hn hA
  obtain ⟨a1, v1, e1, o1, f1, g1, F1, T1, N1⟩ := ss_1 hn hA
  obtain ⟨a2, v2, e2, o2, f2, g2, F2, T2, N2⟩ := ss_2 hn hA
  obtain ⟨a3, v3, e3, o3, f3, g3, F3, T3, N3⟩ := ss_3 hn hA
  obtain ⟨a4, v4, e4, o4, f4, g4, F4, T4, N4⟩ := ss_4 hn hA
  obtain ⟨a5, v5, e5, o5, f5, g5, F5, T5, N5⟩ := ss_5 hn hA
  obtain ⟨a6, v6, e6, o6, f6, g6, F6, T6, N6⟩ := ss_6 hn hA
  obtain ⟨a7, v7, e7, o7, f7, g7, F7, T7, N7⟩ := ss_7 hn hA
  obtain ⟨a8, v8, e8, o8, f8, g8, F8, T8, N8⟩ := ss_8 hn hA
  obtain ⟨a9, v9, e9, o9, f9, g9, F9, T9, N9⟩ := ss_9 hn hA
  have r0 := vk_R.of (hts (.stringRef "java/lang/StringLatin1" 151 "") (tb_t 546 (by decide +kernel))) e0
  have r1 := vk_R.of (hts (.stringRef "RealmDesk" 156 "archive") (tb_t 660 (by decide +kernel))) e1
  have r2 := vk_R.of (hts (.stringRef "RealmDesk" 161 "name") (tb_t 696 (by decide +kernel))) e2
  have r3 := vk_R.of (hts (.stringRef "RealmDesk" 166 "realm") (tb_t 716 (by decide +kernel))) e3
  have r4 := vk_R.of (hts (.stringRef "RealmDesk" 171 "load") (tb_t 765 (by decide +kernel))) e4
  have r5 := vk_R.of (hts (.stringRef "RealmDesk" 176 "parent") (tb_t 776 (by decide +kernel))) e5
  have r6 := vk_R.of (hts (.stringRef "RealmDesk" 181 "import") (tb_t 785 (by decide +kernel))) e6
  have r7 := vk_R.of (hts (.stringRef "RealmDesk" 183 "from") (tb_t 786 (by decide +kernel))) e7
  have r8 := vk_R.of (hts (.stringRef "RealmDesk" 235 "first") (tb_t 620 (by decide +kernel))) e8
  have r9 := vk_R.of (hts (.stringRef "RealmDesk" 237 "self") (tb_t 621 (by decide +kernel))) e9
  have ht1 : t1 < s.heap.size := by obtain ⟨cell, z, _⟩ := zdT; exact (Array.getElem?_eq_some_iff.mp z).1
  refine ⟨fun n => match n with | 1 => t1 | 2 => mi | 10 => a0 | 11 => a1 | 12 => a2 | 13 => a3 | 14 => a4 | 15 => a5 | 16 => a6 | 17 => a7 | 18 => a8 | 19 => a9 | 30 => v0 | 31 => v1 | 32 => v2 | 33 => v3 | 34 => v4 | 35 => v5 | 36 => v6 | 37 => v7 | 38 => v8 | 39 => v9 | _ => 0, fun V hW hz hq => ?_, o0.lt, ht1⟩
  have hal : s.vm.Alike V.vm := hW.alike
  have hq' : ∀ a : Nat, a < s.heap.size → ¬ AA s.heap.size a → V.heap[a]? = s.heap[a]? := fun a ha _ => hq a ha
  refine ⟨fun w hw A => ?_, (zc.kept hq').moved hal, (zd.kept hq').moved hal, (zdT.kept hq').moved hal, (zs.kept hq').moved hal, hmi.moved hal, fun i hi => ?_, ht1, r0.warm hW, r1.warm hW, r2.warm hW, r3.warm hW, r4.warm hW, r5.warm hW, r6.warm hW, r7.warm hW, r8.warm hW, r9.warm hW⟩
  · rcases List.mem_append.mp hw with hw | hw
    · obtain ⟨hm, hns⟩ := List.mem_filter.mp hw
      have hb := hts w (List.mem_append_right _ hm)
      rcases kind_spec (List.all_eq_true.mp kinds_ok w hm) with hg | ⟨C, n, d, rfl⟩ | ⟨n, rfl⟩ | ⟨x1, x2, x3, rfl⟩ | ⟨x1, rfl⟩ | ⟨x1, rfl⟩ | ⟨x1, x2, rfl⟩
      · exact word_at hW (good_of_word hg) hb
      · exact lay_at hal hq hb
      · exact ov_at hal hb
      · exact absurd hns (by simp [notStr])
      · exact tab_at rfl (Cond.declares_setVm hal _) hb
      · exact tab_at rfl (Cond.privateMethod_setVm hal _) hb
      · exact tab_at rfl (Cond.castable_setVm hal _ _) hb
    · rcases List.mem_cons.mp hw with rfl | hw
      · exact isr_at ((zu.kept hq').moved hal)
      · rcases List.mem_cons.mp hw with rfl | hw
        · exact isr_at ((zp.kept hq').moved hal)
        · rcases List.mem_cons.mp hw with rfl | hw
          · exact nc_at hal (hn _ sn_nc)
          · exact absurd hw List.not_mem_nil
  · match i, hi with
    | 0, _ => exact ⟨(o0.kept hq').moved hal, (f0.kept hq').moved hal, (g0.kept hq').moved hal, F0, (T0.kept hq').moved hal, N0⟩
    | 1, _ => exact ⟨(o1.kept hq').moved hal, (f1.kept hq').moved hal, (g1.kept hq').moved hal, F1, (T1.kept hq').moved hal, N1⟩
    | 2, _ => exact ⟨(o2.kept hq').moved hal, (f2.kept hq').moved hal, (g2.kept hq').moved hal, F2, (T2.kept hq').moved hal, N2⟩
    | 3, _ => exact ⟨(o3.kept hq').moved hal, (f3.kept hq').moved hal, (g3.kept hq').moved hal, F3, (T3.kept hq').moved hal, N3⟩
    | 4, _ => exact ⟨(o4.kept hq').moved hal, (f4.kept hq').moved hal, (g4.kept hq').moved hal, F4, (T4.kept hq').moved hal, N4⟩
    | 5, _ => exact ⟨(o5.kept hq').moved hal, (f5.kept hq').moved hal, (g5.kept hq').moved hal, F5, (T5.kept hq').moved hal, N5⟩
    | 6, _ => exact ⟨(o6.kept hq').moved hal, (f6.kept hq').moved hal, (g6.kept hq').moved hal, F6, (T6.kept hq').moved hal, N6⟩
    | 7, _ => exact ⟨(o7.kept hq').moved hal, (f7.kept hq').moved hal, (g7.kept hq').moved hal, F7, (T7.kept hq').moved hal, N7⟩
    | 8, _ => exact ⟨(o8.kept hq').moved hal, (f8.kept hq').moved hal, (g8.kept hq').moved hal, F8, (T8.kept hq').moved hal, N8⟩
    | 9, _ => exact ⟨(o9.kept hq').moved hal, (f9.kept hq').moved hal, (g9.kept hq').moved hal, F9, (T9.kept hq').moved hal, N9⟩
    | z + 10, hz => exact absurd hz (by omega)
