/-! Lists. -/
def Lst (h : hp) (a n : Nat) : Prop := ∃ (ea : Nat) (mo : Int32), a ∈ h.1 ∧ h.2 a = .inr (2, [.ref ea, .int (nI n), .int mo])
theorem TP.lst {D : va_G} {z0 : Nat} {k : Nat → Nat} {K : KM} {B T : Nat} {h : hp} {κ a : Nat} (t : TP D z0 k K B T h) (ha : Ty K h κ a) (hk : 23 ≤ κ ∧ κ ≤ 29) : Lst h a (K a).2.2 ∧ (K a).2.2 ≤ bd κ B := by
  obtain ⟨ea, mo, h1, h2, -⟩ := t.l ha hk
  exact ⟨⟨ea, mo, ha.1, h1⟩, h2⟩
theorem TP.cls {D : va_G} {z0 : Nat} {k : Nat → Nat} {K : KM} {B T : Nat} {h : hp} {ce v : Nat} (t : TP D z0 k K B T h) (hv : Ty K h ce v) (hc : 4 ≤ ce ∧ ce ≤ 8) : ∃ vs, h.2 v = .inr (ce, vs) := by
  have o := t.o hv
  obtain rfl | rfl | rfl | rfl | rfl : ce = 4 ∨ ce = 5 ∨ ce = 6 ∨ ce = 7 ∨ ce = 8 := by omega
  · obtain ⟨w, e1, -⟩ := o
    exact ⟨_, e1⟩
  · obtain ⟨n, t, w, l, e1, -⟩ := o
    exact ⟨_, e1⟩
  · obtain ⟨n, b1, b2, b3, w, lo, im, fi, pa, e1, -⟩ := o
    exact ⟨_, e1⟩
  · obtain ⟨w, r, e1, -⟩ := o
    exact ⟨_, e1⟩
  · obtain ⟨w, pl, e1, -⟩ := o
    exact ⟨_, e1⟩
theorem cl_cast (ce : Nat) (hc : 4 ≤ ce ∧ ce ≤ 8) : ∃ r : vw_C, CL[ce]? = some r ∧ Cond.castable r.1 "java/lang/Object" ∈ wE := by
  obtain rfl | rfl | rfl | rfl | rfl : ce = 4 ∨ ce = 5 ∨ ce = 6 ∨ ce = 7 ∨ ce = 8 := by omega
  · exact ⟨_, rfl, wE_t 1185 (by decide +kernel) rfl⟩
  · exact ⟨_, rfl, wE_t 1186 (by decide +kernel) rfl⟩
  · exact ⟨_, rfl, wE_t 1187 (by decide +kernel) rfl⟩
  · exact ⟨_, rfl, wE_t 1188 (by decide +kernel) rfl⟩
  · exact ⟨_, rfl, wE_t 1189 (by decide +kernel) rfl⟩
theorem bd_lt {κ B N : Nat} (hN : 41 ≤ N) (hB : B < N) : bd κ B < N := by
  unfold bd
  repeat' split
  all_goals omega
theorem bd_le {ce B : Nat} (hc : 3 ≤ ce ∧ ce ≤ 9) (hB : 40 ≤ B) : bd (ce + 20) B ≤ B := by
  unfold bd
  repeat' split
  all_goals omega
theorem shr1 {n : Nat} (hn : n < 2 ^ 31) : nI n >>> ((1 : Int32) &&& 31) = nI (n / 2) := by
  have q := pk_shrN (n := n) (by omega) ((1 : Int32) &&& 31) 1 (by decide)
  rw [Nat.pow_one] at q
  exact q
theorem sb_cpyQ {f g : Nat → Option Nat} {n j : Nat} (h : j < n) : va_cpy f g 0 0 n j = f j := by
  rw [pk_cpy_in (Nat.zero_le _) (by omega)]
  simp
section J5
variable {l : Launch} {D : va_G} {z0 : Nat} {k : Nat → Nat} {K : KM} {B T : Nat}
section J5E
variable {p : Program} {e : Env} {R : Room} {s : State} {m : MethodId} {args : Array Value} {below : List Frame} {meth : Method} {c : Code} {cc : ByteArray} {own : String} {nL : Nat} {ret : Option FieldType} {Qp : Outcome → hp → Prop} {mc ms pc : Nat} {lv lv' : List (Nat × Value)} {st rest : List Value} {h : hp} {rc rs : Nat}
theorem g_alenE (C : Cx p R s m args meth c cc own nL ret D z0 (EE z0 k) mc ms) (hd : decode cc pc = .ok (.arraylength, 1)) (kk : G p l e R s m args below meth c nL D z0 (EE z0 k) Qp mc ms (pc + 1) lv (.int (nI 0) :: rest) h rc rs) : G p l e R s m args below meth c nL D z0 (EE z0 k) Qp mc ms pc lv (.ref (k 1) :: rest) h rc rs := by
  intro ls H locs cells slots h1 h2 h3 h4 h5
  obtain ⟨cell, g1, g2, g3, g4, g5, g6, g7⟩ := C.ee.2.2.2.1.kept h3.2.1
  exact W.alen C.1 C.2.1 g1 g2 g5 rfl rfl hd (kk ls H locs cells slots h1 h2 h3 h4 h5)
end J5E
set_option maxHeartbeats 4000000 in
theorem pj_acInit {q : Nat} : PC l y_8 prog_25_method_1_code 1 (Option.none) 1 D z0 k [.ref q] (fun h => True) (fun v => v = none) := by
  refine pc_of (by decide) (Nat.le_of_ble_eq_true rfl) ?_
  intro h hp p e s m args below meth c cx
  refine g_aload_n cx 0 d_25_1_0 rfl rfl ?_
  refine g_objInit cx d_25_1_1 t_81 t_35 t_36 ⟨Nat.le_of_ble_eq_true rfl, Nat.le_of_ble_eq_true rfl⟩ (Nat.le_of_ble_eq_true rfl) ?_
  exact g_vret cx d_25_1_4 rfl ⟨rfl, _, rfl, rfl⟩
set_option maxHeartbeats 8000000 in
theorem tj_alInit0 {q : Nat} : TC l y_7 prog_26_method_1_code 1 (Option.none) (rmT 3 0 0) D z0 k [.ref q] K (B) (T) (fun h => (K q = (0, 0, 0) ∧ q ∈ h.1 ∧ h.2 q = .inr (2, [.null, .int 0, .int 0]))) (B) (T) (fun z => z = q) (fun o K' h' => o = .returned none ∧ K' q = (0, 0, 0) ∧ q ∈ h'.1 ∧ h'.2 q = .inr (2, [.null, .int 0, .int 0])) := by
  refine tc_of (by decide) (Nat.le_of_ble_eq_true rfl) ?_
  intro h hT hp p e s m args below meth c cx hnm
  have hE : Ev k (fun z => z = q) K h K h := Ev.rf
  obtain ⟨hr, hm, he⟩ := hp
  refine g_aload_n cx 0 d_26_1_0 rfl rfl ?_
  refine g_callI cx (ret' := none) (As := []) (n := 0) (pj_acInit) d_26_1_1 t_78 t_79 t_6 t_80 rfl ⟨by decide, by decide, by decide +kernel⟩ rfl ⟨rfl, trivial⟩ ⟨Nat.le_of_ble_eq_true rfl, Nat.le_of_ble_eq_true rfl⟩ (Nat.le_of_ble_eq_true rfl) ⟨Nat.zero_le _, Nat.zero_le _⟩ (fun v1 h r1 => ?_) (fun x1 h r1 => by obtain ⟨-, v9, e9, -⟩ := r1; cases e9)
  obtain ⟨rfl, w1, e1, r1⟩ := r1
  cases e1
  subst r1
  refine g_aload_n cx 0 d_26_1_4 rfl rfl ?_
  refine g_iconst cx (v := 0) d_26_1_5 (by decide) ?_
  refine g_putf cx d_26_1_6 in2 ty2_ok nm2 rfl (k := 2) (by decide) t_86 (Or.inl rfl) rfl (ty2_ok 2 (by decide)) rfl rfl hm he (Nat.le_of_ble_eq_true rfl) ?_
  refine t_putR hT hm (Or.inl (congrArg Prod.fst hr)) (fun h hT ev hm he hot6 hL6 => ?_)
  replace hE := Ev.trS hE ev
  exact g_vret cx d_26_1_9 rfl ⟨K, hT, hE, rfl, hr, hm, he⟩
set_option maxHeartbeats 8000000 in
theorem tj_listInit {q κ tg : Nat} (hk : 23 ≤ κ ∧ κ ≤ 29) : TC l y_6 prog_27_method_2_code 1 (Option.none) (rmT 4 0 0) D z0 k [.ref q] K (B) (T) (fun h => (K q = (0, 0, 0) ∧ q ∈ h.1 ∧ h.2 q = .inr (2, [.null, .int 0, .int 0]))) (B) (T) (fun z => z = q) (fun o K' h' => o = .returned none ∧ Ty K' h' κ q ∧ (K' q).2.2 = 0 ∧ (K' q).2.1 = tg) := by
  refine tc_of (by decide) (Nat.le_of_ble_eq_true rfl) ?_
  intro h hT hp p e s m args below meth c cx hnm
  have hE : Ev k (fun z => z = q) K h K h := Ev.rf
  obtain ⟨hr, hm, he⟩ := hp
  refine g_aload_n cx 0 d_27_2_0 rfl rfl ?_
  refine g_callI cx (ret' := none) (As := []) (n := 0) (tj_alInit0) d_27_2_1 t_75 t_76 t_7 t_77 rfl ⟨by decide, by decide, by decide +kernel⟩ rfl ⟨rfl, hT, ⟨hr, hm, he⟩⟩ ⟨Nat.le_of_ble_eq_true rfl, Nat.le_of_ble_eq_true rfl⟩ (Nat.le_of_ble_eq_true rfl) ⟨Nat.le_of_ble_eq_true rfl, Nat.le_of_ble_eq_true rfl⟩ (fun v1 h r1 => ?_) (fun x1 h r1 => by obtain ⟨K9, -, -, e9⟩ := r1; cases e9.1)
  obtain ⟨K, hT, ev, rel1⟩ := r1
  obtain ⟨e1, hr, hm, he⟩ := rel1
  cases e1
  replace hE := Ev.trS hE ev
  refine g_aload_n cx 0 d_27_2_4 rfl rfl ?_
  refine g_gets cx d_27_2_5 t_82 cx.ee.2.2.1 ?_
  refine g_putf cx d_27_2_8 in2 ty2_ok nm2 rfl (k := 0) (by decide) t_84 (Or.inl rfl) rfl (ty2_ok 0 (by decide)) rfl rfl hm he (Nat.le_of_ble_eq_true rfl) ?_
  refine t_putR hT hm (Or.inl (congrArg Prod.fst hr)) (fun h hT ev hm he hot8 hL8 => ?_)
  replace hE := Ev.trS hE ev
  obtain ⟨t9, v9⟩ := t_kind (q := (κ, tg, 0)) hT hm (congrArg Prod.fst hr) he ⟨fun _ => ⟨k 1, 0, rfl, Nat.zero_le _, Or.inl ⟨rfl, rfl⟩⟩, fun x => absurd x.1 (by show ¬ 33 ≤ κ; omega), oko.none (Or.inl hk)⟩
  exact g_vret cx d_27_2_11 rfl ⟨_, t9, Ev.trS hE v9, rfl, ⟨hm, by rw [va_up_self]⟩, by rw [va_up_self], by rw [va_up_self]⟩
set_option maxHeartbeats 4000000 in
theorem pj_size {a n : Nat} : PC l y_42 prog_27_method_8_code 1 (Option.some Jvm.ClassFile.FieldType.int) 0 D z0 k [.ref a] (fun h => Lst h a n) (fun v => v = some (.int (nI n))) := by
  refine pc_of (by decide) (Nat.le_of_ble_eq_true rfl) ?_
  intro h hp p e s m args below meth c cx
  obtain ⟨ea, mo, hm, he⟩ := hp
  refine g_aload_n cx 0 d_27_8_0 rfl rfl ?_
  refine g_getf cx (k := 1) d_27_8_1 in2 rfl (by decide) t_85 (Or.inl rfl) hm he rfl ?_
  exact g_iret cx d_27_8_4 rfl rfl ⟨rfl, _, rfl, rfl⟩
set_option maxHeartbeats 4000000 in
theorem pj_isEmpty {a n : Nat} (hn : n < 2 ^ 31) : PC l y_121 prog_27_method_9_code 1 (Option.some Jvm.ClassFile.FieldType.boolean) 0 D z0 k [.ref a] (fun h => Lst h a n) (fun v => (n = 0 ∧ v = some (.int 1)) ∨ (0 < n ∧ v = some (.int 0))) := by
  refine pc_of (by decide) (Nat.le_of_ble_eq_true rfl) ?_
  intro h hp p e s m args below meth c cx
  obtain ⟨ea, mo, hm, he⟩ := hp
  refine g_aload_n cx 0 d_27_9_0 rfl rfl ?_
  refine g_getf cx (k := 1) d_27_9_1 in2 rfl (by decide) t_85 (Or.inl rfl) hm he rfl ?_
  refine g_if_ne cx d_27_9_4 rfl (fun c4 => ?_) (fun c4 => ?_)
  · skip
    refine g_iconst cx (v := 0) d_27_9_11 (by decide) ?_
    exact g_iret cx d_27_9_12 rfl rfl ⟨rfl, _, rfl, Or.inr ⟨Nat.pos_of_ne_zero (fun z => c4 (by rw [z]; rfl)), rfl⟩⟩
  · skip
    refine g_iconst cx (v := 1) d_27_9_7 (by decide) ?_
    refine g_goto cx d_27_9_8 rfl ?_
    exact g_iret cx d_27_9_12 rfl rfl ⟨rfl, _, rfl, Or.inl ⟨(nI_eq hn (by decide)).mp c4, rfl⟩⟩
set_option maxHeartbeats 4000000 in
theorem pj_rangeAdd {a n j : Nat} (hj : j ≤ n) (hn : n < 2 ^ 31) : PC l y_142 prog_27_method_45_code 2 (Option.none) 0 D z0 k [.ref a, .int (nI j)] (fun h => Lst h a n) (fun v => v = none) := by
  refine pc_of (by decide) (Nat.le_of_ble_eq_true rfl) ?_
  intro h hp p e s m args below meth c cx
  obtain ⟨ea, mo, hm, he⟩ := hp
  refine g_iload_n cx 1 d_27_45_0 rfl rfl ?_
  refine g_aload_n cx 0 d_27_45_1 rfl rfl ?_
  refine g_getf cx (k := 1) d_27_45_2 in2 rfl (by decide) t_85 (Or.inl rfl) hm he rfl ?_
  refine g_icmp_gt cx d_27_45_5 rfl (fun c5 => absurd c5 (nI_nlt hj hn)) (fun c5 => ?_)
  refine g_iload_n cx 1 d_27_45_8 rfl rfl ?_
  refine g_if_ge cx d_27_45_9 rfl (fun c9 => ?_) (fun c9 => absurd (nI_pos' (by omega)) c9)
  exact g_vret cx d_27_45_25 rfl ⟨rfl, _, rfl, rfl⟩
theorem gj_elem {a ce j : Nat} (hc : 3 ≤ ce ∧ ce ≤ 9) (hB : B < 2 ^ 20) : Ctr l y_45 prog_27_method_18_code 2 (Option.some (Jvm.ClassFile.FieldType.object "java/lang/Object")) (rmT 0 0 0) D z0 (EE z0 k) (fun as h => as = [.ref a, .int (nI j)] ∧ TP D z0 k K B T h ∧ Ty K h (ce + 20) a ∧ j < (K a).2.2) (fun _ h o h' => h' = h ∧ ∃ y, o = .returned (some (.ref y)) ∧ Ty K h (ec ce) y) := by
  refine ctr_of Cl.stb (by decide) (fun as h q => by rw [q.1]; exact Nat.le_of_ble_eq_true rfl) ?_
  intro as h q p e s m args below meth c cx
  obtain ⟨rfl, hT, ha, hj⟩ := q
  obtain ⟨ea, mo, he, hbd, hx⟩ := TP.l hT ha (by omega)
  have hm := ha.1
  obtain ⟨hea, hn⟩ : Ty K h (ce + 30) ea ∧ (K a).2.2 ≤ (K ea).2.2 := by
    rcases hx with ⟨-, z⟩ | ⟨z1, z2, z3⟩
    · have z' : (K a).2.2 = 0 := z
      omega
    · exact ⟨⟨z1, z2⟩, z3⟩
  obtain ⟨f, hf, hle, hcap, hel, hnn⟩ := TP.ar hT hea (by omega)
  have hle2 : (K ea).2.2 ≤ (K ea).2.1 := hle
  have hcap2 : (K ea).2.1 < 2 ^ 20 := hcap
  have hb0 : bd (ce + 20) B < 2 ^ 20 := bd_lt (by decide) hB
  have hbd2 : (K a).2.2 ≤ bd (ce + 20) B := hbd
  refine g_aload_n cx 0 d_27_18_0 rfl rfl ?_
  refine g_getf cx (k := 0) d_27_18_1 in2 rfl (by decide) t_84 (Or.inl rfl) hm he rfl ?_
  refine g_iload_n cx 1 d_27_18_4 rfl rfl ?_
  refine g_aald cx d_27_18_5 hea.1 hf (vp_in_nI (by show j < (K ea).2.1; omega) (by show (K ea).2.1 < 2 ^ 31; omega)) ?_
  rw [nI_clamp (by omega)]
  obtain ⟨y, hy⟩ : ∃ y, f j = some y := Option.ne_none_iff_exists'.mp (hnn j (by show j < (K ea).2.2; omega))
  rw [hy]
  obtain ⟨hy1, hy2⟩ := hel j y hy
  have hy2 : (K y).1 = ec ce := hy2.trans (ec_sub (ce := ce))
  exact g_aret cx d_27_18_6 rfl (Or.inl ⟨_, rfl⟩) (Or.inr ⟨_, rfl⟩) ⟨rfl, y, rfl, hy1, hy2⟩
theorem gj_get {a ce j : Nat} (hc : 3 ≤ ce ∧ ce ≤ 9) (hB : B < 2 ^ 20) : Ctr l y_43 prog_27_method_20_code 2 (Option.some (Jvm.ClassFile.FieldType.object "java/lang/Object")) (rmT 5 0 0) D z0 (EE z0 k) (fun as h => as = [.ref a, .int (nI j)] ∧ TP D z0 k K B T h ∧ Ty K h (ce + 20) a ∧ j < (K a).2.2) (fun _ h o h' => h' = h ∧ ∃ y, o = .returned (some (.ref y)) ∧ Ty K h (ec ce) y) := by
  refine ctr_of Cl.stb (by decide) (fun as h q => by rw [q.1]; exact Nat.le_of_ble_eq_true rfl) ?_
  intro as h q p e s m args below meth c cx
  obtain ⟨rfl, hT, ha, hj⟩ := q
  obtain ⟨ea, mo, he, hbd, hx⟩ := TP.l hT ha (by omega)
  have hm := ha.1
  obtain ⟨hea, hn⟩ : Ty K h (ce + 30) ea ∧ (K a).2.2 ≤ (K ea).2.2 := by
    rcases hx with ⟨-, z⟩ | ⟨z1, z2, z3⟩
    · have z' : (K a).2.2 = 0 := z
      omega
    · exact ⟨⟨z1, z2⟩, z3⟩
  obtain ⟨f, hf, hle, hcap, hel, hnn⟩ := TP.ar hT hea (by omega)
  have hle2 : (K ea).2.2 ≤ (K ea).2.1 := hle
  have hcap2 : (K ea).2.1 < 2 ^ 20 := hcap
  have hb0 : bd (ce + 20) B < 2 ^ 20 := bd_lt (by decide) hB
  have hbd2 : (K a).2.2 ≤ bd (ce + 20) B := hbd
  refine g_iload_n cx 1 d_27_20_0 rfl rfl ?_
  refine g_aload_n cx 0 d_27_20_1 rfl rfl ?_
  refine g_getf cx (k := 1) d_27_20_2 in2 rfl (by decide) t_85 (Or.inl rfl) hm he rfl ?_
  refine g_pcS cx (As := [.int (nI j), .int (nI (K a).2.2)]) (n := 2) (pj_objCheck hj (by omega)) d_27_20_5 t_243 t_244 t_22 t_245 ⟨by decide, by decide, by decide +kernel⟩ rfl trivial ⟨Nat.le_of_ble_eq_true rfl, Nat.le_of_ble_eq_true rfl⟩ (Nat.le_of_ble_eq_true rfl) (fun v5 r5 => ?_)
  subst r5
  refine g_pop cx d_27_20_8 rfl ?_
  refine g_aload_n cx 0 d_27_20_9 rfl rfl ?_
  refine g_iload_n cx 1 d_27_20_10 rfl rfl ?_
  refine g_callV cx (As := [.int (nI j)]) (n := 1) (gj_elem (K := K) (B := B) (T := T) hc hB) d_27_20_11 t_247 t_248 t_249 t_8 t_250 ⟨by decide, by decide, by decide +kernel⟩ rfl (ci := 2) rfl hm he ⟨rfl, hT, ha, hj⟩ ⟨Nat.le_of_ble_eq_true rfl, Nat.le_of_ble_eq_true rfl⟩ (Nat.le_of_ble_eq_true rfl) ⟨Nat.zero_le _, Nat.zero_le _⟩ (fun v11 h r11 => ?_) (fun x11 h r11 => by obtain ⟨-, y9, e9, -⟩ := r11; cases e9)
  obtain ⟨rfl, y, e11, hy⟩ := r11
  cases e11
  exact g_aret cx d_27_20_14 rfl (Or.inl ⟨_, rfl⟩) (Or.inr ⟨_, rfl⟩) ⟨rfl, y, rfl, hy⟩
set_option maxHeartbeats 8000000 in
theorem tj_copyOf3 {ea ce cap n2 g la : Nat} {e0 : va_E} (hc : 3 ≤ ce ∧ ce ≤ 9) (hcn : cap ≤ n2) (hn2 : n2 < 2 ^ 20) (hg : n2 ≤ g) : TC l y_117 prog_28_method_120_code 4 (Option.some (Jvm.ClassFile.FieldType.array (Jvm.ClassFile.FieldType.object "java/lang/Object"))) (rmT 2 1 g) D z0 k [.ref ea, .int (nI n2), .ref (k 2)] K (B) (T) (fun h => Ty K h (ce + 30) ea ∧ (K ea).2.1 = cap ∧ Ty K h (ce + 20) la ∧ h.2 la = e0) (B) (T) (X0) (fun o K' h' => ∃ q : Nat, o = .returned (some (.ref q)) ∧ Ty K' h' (ce + 30) q ∧ (K' q).2.1 = n2 ∧ (K' q).2.2 = (K ea).2.2 ∧ K' la = K la ∧ h'.2 la = e0) := by
  refine tc_of (by decide) (Nat.le_of_ble_eq_true rfl) ?_
  intro h hT hp p e s m args below meth c cx hnm
  have hE : Ev k (X0) K h K h := Ev.rf
  obtain ⟨hea, hcp, hla, hela⟩ := hp
  obtain ⟨f, hf, hle, hcap, hel, hnn⟩ := TP.ar hT hea (by omega)
  have hle2 : (K ea).2.2 ≤ (K ea).2.1 := hle
  rw [show ((ce + 30, (K ea).2).2.1 : Nat) = cap from hcp] at hf
  refine g_aload_n cx 2 d_28_120_0 rfl rfl ?_
  refine g_ldcM cx d_28_120_1 t_611 cx.ee.2.2.2.2.2.1 ?_
  refine g_acmp_ne cx (rx := some (k 2)) (ry := some (k 2)) d_28_120_3 rfl (fun c3 => absurd rfl c3) (fun c3 => ?_)
  refine g_iload_n cx 1 d_28_120_6 rfl rfl ?_
  refine g_anew cx (n := n2) d_28_120_7 t_613 (cx.nw (wE_t 612 (by decide +kernel) rfl)) rfl hn2 ⟨Nat.le_refl _, hg⟩ (fun q hq hz => ?_)
  have hN9 := Ev.nin hE hq
  refine t_push (q := (ce + 30, n2, 0)) hT hq hz ⟨fun x => absurd x.2 (by show ¬ ce + 30 ≤ 29; omega), fun _ => ⟨fun _ => none, rfl, Nat.zero_le _, hn2, fun j y hy => (by cases hy), fun j hj => absurd hj (Nat.not_lt_zero _)⟩, oko.none (Or.inr (by show 33 ≤ ce + 30 ∧ ce + 30 ≤ 39; omega))⟩ (fun K h hT ev hkq hmq heq hol => ?_)
  have hqe : ea ≠ q := fun z => hq (z ▸ hea.1)
  have hnn0 := congrArg (fun z => z.2.2) (hol ea hea.1).2.1
  have hla1 := (hol la hla.1).2
  have hqla : la ≠ q := fun z => hq (z ▸ hla.1)
  replace hla := Ev.ty ev hla
  replace hela := hla1.2.trans hela
  replace hf := (hol ea hea.1).2.2.trans hf
  replace hea := Ev.ty ev hea
  replace hE := hE.tr ev
  refine g_goto cx d_28_120_10 rfl ?_
  refine g_astore_n cx (lv' := [(3, .ref q), (0, .ref ea), (1, .int (nI n2)), (2, .ref (k 2))]) d_28_120_24 rfl (by decide) rfl ?_
  refine g_aload_n cx 1 d_28_120_25 rfl rfl ?_
  refine g_iconst cx (v := 0) d_28_120_26 (by decide) ?_
  refine g_aload_n cx 0 d_28_120_27 rfl rfl ?_
  refine g_iconst cx (v := 0) d_28_120_28 (by decide) ?_
  refine g_aload_n cx 1 d_28_120_29 rfl rfl ?_
  refine g_alen cx (k := 5) d_28_120_30 hea.1 hf rfl ?_
  refine g_iload_n cx 2 d_28_120_31 rfl rfl ?_
  refine g_min cx (a := cap) (b := n2) d_28_120_32 t_160 t_161 t_11 t_162 (by omega) (by omega) ⟨Nat.le_of_ble_eq_true rfl, Nat.le_of_ble_eq_true rfl⟩ (Nat.le_of_ble_eq_true rfl) ?_
  obtain ⟨f2, hf2, hle3, hcap3, hel3, hnn3⟩ := TP.ar hT hea (by omega)
  have hle4 : (K ea).2.2 ≤ (K ea).2.1 := hle3
  obtain ⟨rfl, hce⟩ : f2 = f ∧ (K ea).2.1 = cap := by
    have z : (.inl (D.1 105, (K ea).2.1, .inr (.inr (.inr (.inr f2)))) : va_E) = .inl (D.1 105, cap, .inr (.inr (.inr (.inr f)))) := hf2.symm.trans hf
    injection z with z
    injection z with z1 z2
    injection z2 with z3 z4
    injection z4 with z5
    injection z5 with z6
    injection z6 with z7
    injection z7 with z8
    exact ⟨z8, z3⟩
  refine g_copyq cx (sp := 0) (dp := 0) (n := cap) d_28_120_35 t_163 t_165 t_164 t_13 hea.1 hf hmq heq rfl rfl (by rw [Nat.min_eq_left hcn]) ⟨by omega, by omega⟩ ⟨by omega, by omega⟩ (fun j y hy => by
      obtain ⟨y1, y2⟩ := hel3 j y hy
      have y3 : (K y).1 = ec ce := y2.trans (ec_sub (ce := ce))
      obtain ⟨vs, hvs⟩ := TP.cls hT ⟨y1, y3⟩ (ec_in hc)
      obtain ⟨r, hr1, hr2⟩ := cl_cast (ec ce) (ec_in hc)
      exact ⟨ec ce, vs, r, y1, hvs, hr1, cx.nw hr2⟩) ⟨Nat.le_of_ble_eq_true rfl, Nat.le_of_ble_eq_true rfl⟩ (Nat.le_of_ble_eq_true rfl) ?_
  refine t_putK (q := (ce + 30, n2, (K ea).2.2)) hT (⟨hmq, congrArg Prod.fst hkq⟩ : Ty K h (ce + 30) q) (by rw [hkq]; exact ⟨rfl, rfl, Nat.zero_le _, fun hg => absurd (show Gk (ce + 30) by unfold Gk; omega) hg⟩) ⟨fun x => absurd x.2 (by show ¬ ce + 30 ≤ 29; omega), fun _ => ⟨_, rfl, by show (K ea).2.2 ≤ n2; omega, hn2, fun j y hy => ?_, fun j hj => ?_⟩, oko.none (Or.inr (by show 33 ≤ ce + 30 ∧ ce + 30 ≤ 39; omega))⟩ (fun K2 h2 hT2 ev2 hkq2 heq2 hoth2 => ?_)
  · skip
    have hyy : f2 j = some y := by
      by_cases hj : j < cap
      · rw [← hy]; exact (sb_cpyQ hj).symm
      · rw [pk_cpy_out (Or.inr (by omega))] at hy; cases hy
    obtain ⟨y1, y2⟩ := hel3 j y hyy
    refine ⟨y1, ?_⟩
    by_cases hyq : y = q
    · subst hyq; rw [va_up_self]; have y3 : (K y).1 = ec ce := y2.trans (ec_sub (ce := ce)); rw [hkq] at y3; have y4 : ce + 30 = ec ce := y3; have := ec_le (c := ce); omega
    · rw [va_up_ne _ _ hyq]; exact y2
  · skip
    have hj2 : j < (K ea).2.2 := hj
    rw [sb_cpyQ (show j < cap by omega)]
    exact hnn3 j hj2
  replace hE := hE.trN hN9 ev2
  refine g_aload_n cx 0 d_28_120_38 rfl rfl ?_
  exact g_aret cx d_28_120_39 rfl (Or.inr ⟨_, rfl⟩) (Or.inr ⟨_, rfl⟩) ⟨K2, hT2, hE, q, rfl, Ev.ty ev2 (⟨hmq, congrArg Prod.fst hkq⟩ : Ty K h (ce + 30) q), by rw [hkq2], by rw [hkq2]; exact hnn0, (hoth2 _ hqla).1.trans hla1.1, (hoth2 _ hqla).2.trans hela⟩
end J5
