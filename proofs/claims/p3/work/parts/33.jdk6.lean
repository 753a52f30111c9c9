/-! Lists that grow. -/
theorem okc_list {D : va_G} {k : Nat → Nat} {K : KM} {L : List Nat} {B T ce la n ea : Nat} {mo : Int32} (hc : 3 ≤ ce ∧ ce ≤ 9) (h1 : (K la).1 = ce + 20) (h2 : (K la).2.2 = n) (hb : n ≤ bd (ce + 20) B) (hx : (ea = k 1 ∧ n = 0) ∨ (ea ∈ L ∧ (K ea).1 = ce + 30 ∧ n ≤ (K ea).2.2)) : okc D k K L B T (K la) (.inr (2, [.ref ea, .int (nI n), .int mo])) := by
  subst h2
  refine ⟨fun _ => ⟨ea, mo, rfl, by rw [h1]; exact hb, hx.imp id (fun z => ⟨z.1, by rw [h1]; exact z.2.1, z.2.2⟩)⟩, fun z => absurd z.1 (by rw [h1]; omega), oko.none (Or.inl (by rw [h1]; omega))⟩
theorem ev_tyv {k : Nat → Nat} {X : Nat → Prop} {K K' : KM} {h h' : hp} {ce v : Nat} (ev : Ev k X K h K' h') (hv : Ty K h ce v) (hc : 4 ≤ ce ∧ ce ≤ 8) : Ty K' h' ce v := by
  obtain ⟨c1, rfl⟩ : ∃ c1, ce = c1 + 1 := ⟨ce - 1, by omega⟩
  exact Ev.ty ev hv
section J6
variable {l : Launch} {D : va_G} {z0 : Nat} {k : Nat → Nat} {K : KM} {B T : Nat}
set_option maxHeartbeats 8000000 in
theorem tj_copyOf2 {ea ce cap n2 g la : Nat} {e0 : va_E} (hc : 3 ≤ ce ∧ ce ≤ 9) (hcn : cap ≤ n2) (hn2 : n2 < 2 ^ 20) (hg : n2 ≤ g) : TC l y_115 prog_28_method_119_code 2 (Option.some (Jvm.ClassFile.FieldType.array (Jvm.ClassFile.FieldType.object "java/lang/Object"))) (rmT 4 1 g) D z0 k [.ref ea, .int (nI n2)] K (B) (T) (fun h => Ty K h (ce + 30) ea ∧ (K ea).2.1 = cap ∧ Ty K h (ce + 20) la ∧ h.2 la = e0) (B) (T) (X0) (fun o K' h' => ∃ q : Nat, o = .returned (some (.ref q)) ∧ Ty K' h' (ce + 30) q ∧ (K' q).2.1 = n2 ∧ (K' q).2.2 = (K ea).2.2 ∧ K' la = K la ∧ h'.2 la = e0) := by
  refine tc_of (by decide) (Nat.le_of_ble_eq_true rfl) ?_
  intro h hT hp p e s m args below meth c cx hnm
  have hE : Ev k (X0) K h K h := Ev.rf
  refine g_aload_n cx 0 d_28_119_0 rfl rfl ?_
  refine g_iload_n cx 1 d_28_119_1 rfl rfl ?_
  refine g_aload_n cx 0 d_28_119_2 rfl rfl ?_
  obtain ⟨f, hf, -⟩ := TP.ar hT hp.1 (by omega)
  refine g_getC cx d_28_119_3 t_591 t_1180 t_592 t_607 (cx.nw (wE_t 1181 (by decide +kernel) rfl)) cx.ee.2.2.2.2.2.1 hp.1.1 hf ⟨Nat.le_of_ble_eq_true rfl, Nat.le_of_ble_eq_true rfl⟩ (Nat.le_of_ble_eq_true rfl) ?_
  refine g_callS cx (As := [.ref ea, .int (nI n2), .ref (k 2)]) (n := 3) (tj_copyOf3 (e0 := e0) (la := la) (g := g) hc hcn hn2 hg) d_28_119_6 t_608 t_609 t_12 t_610 ⟨by decide, by decide, by decide +kernel⟩ rfl ⟨rfl, hT, hp⟩ ⟨Nat.le_of_ble_eq_true rfl, Nat.le_of_ble_eq_true rfl⟩ (Nat.le_of_ble_eq_true rfl) ⟨Nat.le_refl _, Nat.le_refl _⟩ (fun v6 h r6 => ?_) (fun x6 h r6 => by obtain ⟨K9, -, -, z9, e9, -⟩ := r6; cases e9)
  obtain ⟨K2, hT2, ev2, q, e6, r6⟩ := r6
  cases e6
  replace hE := hE.tr ev2
  exact g_aret cx d_28_119_9 rfl (Or.inr ⟨_, rfl⟩) (Or.inr ⟨_, rfl⟩) ⟨K2, hT2, hE, q, rfl, r6⟩
set_option maxHeartbeats 8000000 in
theorem tj_grow1 {la ea ce n g : Nat} {mo : Int32} (hc : 3 ≤ ce ∧ ce ≤ 9) (hn : n < 2 ^ 18) (hg : n + n / 2 + 12 ≤ g) : TC l y_114 prog_27_method_6_code 4 (Option.some (Jvm.ClassFile.FieldType.array (Jvm.ClassFile.FieldType.object "java/lang/Object"))) (rmT 6 1 g) D z0 k [.ref la, .int (nI (n + 1))] K B T (fun h => Ty K h (ce + 20) la ∧ h.2 la = .inr (2, [.ref ea, .int (nI n), .int mo]) ∧ (K la).2.2 = n ∧ n ≤ bd (ce + 20) B ∧ ((ea = k 1 ∧ n = 0) ∨ (Ty K h (ce + 30) ea ∧ (K ea).2.1 = n ∧ n ≤ (K ea).2.2))) B T (fun z => z = la) (fun o K' h' => ∃ q : Nat, o = .returned (some (.ref q)) ∧ Ty K' h' (ce + 30) q ∧ n < (K' q).2.1 ∧ n ≤ (K' q).2.2 ∧ K' la = K la ∧ h'.2 la = .inr (2, [.ref q, .int (nI n), .int mo])) := by
  refine tc_of (by decide) (Nat.le_of_ble_eq_true rfl) ?_
  intro h hT hp p e s m args below meth c cx hnm
  have hE : Ev k (fun z => z = la) K h K h := Ev.rf
  obtain ⟨hla, hela, hkn, hbn, ⟨rfl, rfl⟩ | ⟨hea, hcap, hnn⟩⟩ := hp
  · skip
    refine g_aload_n cx 0 d_27_6_0 rfl rfl ?_
    refine g_getf cx (k := 0) d_27_6_1 in2 rfl (by decide) t_84 (Or.inl rfl) hla.1 hela rfl ?_
    refine g_alenE cx d_27_6_4 ?_
    refine g_istore_n cx (lv' := [(2, .int (nI 0)), (0, .ref la), (1, .int (nI (0 + 1)))]) d_27_6_5 rfl (by decide) rfl ?_
    refine g_iload_n cx 0 d_27_6_6 rfl rfl ?_
    refine g_if_gt cx d_27_6_7 rfl (fun c7 => absurd c7 (by decide)) (fun c7 => ?_)
    refine g_aload_n cx 1 d_27_6_10 rfl rfl ?_
    refine g_getf cx (k := 0) d_27_6_11 in2 rfl (by decide) t_84 (Or.inl rfl) hla.1 hela rfl ?_
    refine g_gets cx d_27_6_14 t_82 cx.ee.2.2.1 ?_
    refine g_acmp_eq cx (rx := some (k 1)) (ry := some (k 1)) d_27_6_17 rfl (fun c17 => ?_) (fun c17 => absurd rfl c17)
    refine g_aload_n cx 1 d_27_6_45 rfl rfl ?_
    refine g_bipush cx (v := 10) d_27_6_46 (by decide) ?_
    refine g_iload_n cx 2 d_27_6_48 rfl rfl ?_
    refine g_max cx (a := 10) (b := 0 + 1) d_27_6_49 t_614 t_143 t_11 t_144 (by omega) (by omega) ⟨Nat.le_of_ble_eq_true rfl, Nat.le_of_ble_eq_true rfl⟩ (Nat.le_of_ble_eq_true rfl) ?_
    refine g_anew cx (n := max 10 (0 + 1)) d_27_6_52 t_615 (cx.nw (wE_t 612 (by decide +kernel) rfl)) rfl (by decide) ⟨Nat.le_refl _, by show 10 ≤ g; omega⟩ (fun q hq hz => ?_)
    refine t_push (q := (ce + 30, max 10 (0 + 1), 0)) hT hq hz ⟨fun x => absurd x.2 (by show ¬ ce + 30 ≤ 29; omega), fun _ => ⟨fun _ => none, rfl, Nat.zero_le _, by show 10 < 2 ^ 20; decide, fun j y hy => (by cases hy), fun j hj => absurd hj (Nat.not_lt_zero _)⟩, oko.none (Or.inr (by show 33 ≤ ce + 30 ∧ ce + 30 ≤ 39; omega))⟩ (fun K h hT ev hkq hmq heq hol => ?_)
    have hKla := (hol la hla.1).2.1
    have hq9 : Ty K h (ce + 30) q := ⟨hmq, congrArg Prod.fst hkq⟩
    replace hela := (hol la hla.1).2.2.trans hela
    replace hkn : (K la).2.2 = 0 := by rw [hKla]; exact hkn
    replace hla := Ev.ty ev hla
    replace hE := hE.tr ev
    refine g_dup_x1 cx d_27_6_55 rfl rfl ?_
    refine g_putf cx d_27_6_56 in2 ty2_ok nm2 rfl (k := 0) (by decide) t_84 (Or.inl rfl) rfl (ty2_ok 0 (by decide)) rfl rfl hla.1 hela (Nat.le_of_ble_eq_true rfl) ?_
    refine t_put hT hla (okc_list hc hla.2 hkn hbn (Or.inr ⟨hq9.1, hq9.2, Nat.zero_le _⟩)) (fun h hT ev hela2 => ?_)
    replace hE := Ev.trS hE ev
    exact g_aret cx d_27_6_59 rfl (Or.inr ⟨_, rfl⟩) (Or.inr ⟨_, rfl⟩) ⟨K, hT, hE, q, rfl, Ev.ty ev hq9, by rw [hkq]; show 0 < 10; decide, Nat.zero_le _, hKla, hela2⟩
  · skip
    obtain ⟨f, hf, -⟩ := TP.ar hT hea (by omega)
    rw [show ((ce + 30, (K ea).2).2.1 : Nat) = n from hcap] at hf
    refine g_aload_n cx 0 d_27_6_0 rfl rfl ?_
    refine g_getf cx (k := 0) d_27_6_1 in2 rfl (by decide) t_84 (Or.inl rfl) hla.1 hela rfl ?_
    refine g_alen cx (k := 5) d_27_6_4 hea.1 hf rfl ?_
    refine g_istore_n cx (lv' := [(2, .int (nI n)), (0, .ref la), (1, .int (nI (n + 1)))]) d_27_6_5 rfl (by decide) rfl ?_
    refine g_iload_n cx 0 d_27_6_6 rfl rfl ?_
    refine g_if_gt cx d_27_6_7 rfl (fun c7 => ?_) (fun c7 => ?_)
    · skip
      refine g_iload_n cx 0 d_27_6_20 rfl rfl ?_
      refine g_iload_n cx 2 d_27_6_21 rfl rfl ?_
      refine g_iload_n cx 0 d_27_6_22 rfl rfl ?_
      refine g_isub cx d_27_6_23 ?_
      refine g_topi (fun m23 em23 => ?_)
      obtain rfl : m23 = nI 1 := em23.trans (by rw [pk_sub (by omega)]; congr 1; omega)
      refine g_iload_n cx 0 d_27_6_24 rfl rfl ?_
      refine g_iconst cx (v := 1) d_27_6_25 (by decide) ?_
      refine g_ishr cx d_27_6_26 ?_
      refine g_topi (fun m26 em26 => ?_)
      obtain rfl : m26 = nI (n / 2) := em26.trans (shr1 (by omega))
      refine g_pcS cx (As := [.int (nI n), .int (nI 1), .int (nI (n / 2))]) (n := 3) (pj_newLength (a := n) (b := 1) (g := n / 2) (by omega) (by omega)) d_27_6_27 t_587 t_140 t_10 t_141 ⟨by decide, by decide, by decide +kernel⟩ rfl trivial ⟨Nat.le_of_ble_eq_true rfl, Nat.le_of_ble_eq_true rfl⟩ (Nat.le_of_ble_eq_true rfl) (fun v27 r27 => ?_)
      subst r27
      refine g_istore_n cx (lv' := [(3, .int (nI (n + max (1) (n / 2)))), (2, .int (nI n)), (0, .ref la), (1, .int (nI (n + 1)))]) d_27_6_30 rfl (by decide) rfl ?_
      refine g_aload_n cx 2 d_27_6_31 rfl rfl ?_
      refine g_aload_n cx 2 d_27_6_32 rfl rfl ?_
      refine g_getf cx (k := 0) d_27_6_33 in2 rfl (by decide) t_84 (Or.inl rfl) hla.1 hela rfl ?_
      refine g_iload_n cx 0 d_27_6_36 rfl rfl ?_
      refine g_callS cx (As := [.ref ea, .int (nI (n + max 1 (n / 2)))]) (n := 2) (tj_copyOf2 (ce := ce) (cap := n) (la := la) (e0 := .inr (2, [.ref ea, .int (nI n), .int mo])) (g := g) hc (by omega) (by omega) (by omega)) d_27_6_37 t_588 t_589 t_12 t_590 ⟨by decide, by decide, by decide +kernel⟩ rfl ⟨rfl, hT, hea, hcap, hla, hela⟩ ⟨Nat.le_of_ble_eq_true rfl, Nat.le_of_ble_eq_true rfl⟩ (Nat.le_of_ble_eq_true rfl) ⟨Nat.le_refl _, Nat.le_refl _⟩ (fun v37 h r37 => ?_) (fun x37 h r37 => by obtain ⟨K9, -, -, z9, e9, -⟩ := r37; cases e9)
      obtain ⟨K, hT, ev, q, e37, hq9, hq1, hq2, hKla, hela⟩ := r37
      cases e37
      replace hkn : (K la).2.2 = n := by rw [hKla]; exact hkn
      replace hla := Ev.ty ev hla
      replace hE := hE.tr ev
      refine g_dup_x1 cx d_27_6_40 rfl rfl ?_
      refine g_putf cx d_27_6_41 in2 ty2_ok nm2 rfl (k := 0) (by decide) t_84 (Or.inl rfl) rfl (ty2_ok 0 (by decide)) rfl rfl hla.1 hela (Nat.le_of_ble_eq_true rfl) ?_
      refine t_put hT hla (okc_list hc hla.2 hkn hbn (Or.inr ⟨hq9.1, hq9.2, (by rw [hq2]; exact hnn)⟩)) (fun h hT ev hela2 => ?_)
      replace hE := Ev.trS hE ev
      exact g_aret cx d_27_6_44 rfl (Or.inr ⟨_, rfl⟩) (Or.inr ⟨_, rfl⟩) ⟨K, hT, hE, q, rfl, Ev.ty ev hq9, by rw [hq1]; omega, by rw [hq2]; exact hnn, hKla, hela2⟩
    · skip
      refine g_aload_n cx 1 d_27_6_10 rfl rfl ?_
      refine g_getf cx (k := 0) d_27_6_11 in2 rfl (by decide) t_84 (Or.inl rfl) hla.1 hela rfl ?_
      refine g_gets cx d_27_6_14 t_82 cx.ee.2.2.1 ?_
      refine g_acmp_eq cx (rx := some ea) (ry := some (k 1)) d_27_6_17 rfl (fun c17 => absurd hea.1 (by cases c17; exact hT.nk1)) (fun c17 => ?_)
      refine g_iload_n cx 0 d_27_6_20 rfl rfl ?_
      refine g_iload_n cx 2 d_27_6_21 rfl rfl ?_
      refine g_iload_n cx 0 d_27_6_22 rfl rfl ?_
      refine g_isub cx d_27_6_23 ?_
      refine g_topi (fun m23 em23 => ?_)
      obtain rfl : m23 = nI 1 := em23.trans (by rw [pk_sub (by omega)]; congr 1; omega)
      refine g_iload_n cx 0 d_27_6_24 rfl rfl ?_
      refine g_iconst cx (v := 1) d_27_6_25 (by decide) ?_
      refine g_ishr cx d_27_6_26 ?_
      refine g_topi (fun m26 em26 => ?_)
      obtain rfl : m26 = nI (n / 2) := em26.trans (shr1 (by omega))
      refine g_pcS cx (As := [.int (nI n), .int (nI 1), .int (nI (n / 2))]) (n := 3) (pj_newLength (a := n) (b := 1) (g := n / 2) (by omega) (by omega)) d_27_6_27 t_587 t_140 t_10 t_141 ⟨by decide, by decide, by decide +kernel⟩ rfl trivial ⟨Nat.le_of_ble_eq_true rfl, Nat.le_of_ble_eq_true rfl⟩ (Nat.le_of_ble_eq_true rfl) (fun v27 r27 => ?_)
      subst r27
      refine g_istore_n cx (lv' := [(3, .int (nI (n + max (1) (n / 2)))), (2, .int (nI n)), (0, .ref la), (1, .int (nI (n + 1)))]) d_27_6_30 rfl (by decide) rfl ?_
      refine g_aload_n cx 2 d_27_6_31 rfl rfl ?_
      refine g_aload_n cx 2 d_27_6_32 rfl rfl ?_
      refine g_getf cx (k := 0) d_27_6_33 in2 rfl (by decide) t_84 (Or.inl rfl) hla.1 hela rfl ?_
      refine g_iload_n cx 0 d_27_6_36 rfl rfl ?_
      refine g_callS cx (As := [.ref ea, .int (nI (n + max 1 (n / 2)))]) (n := 2) (tj_copyOf2 (ce := ce) (cap := n) (la := la) (e0 := .inr (2, [.ref ea, .int (nI n), .int mo])) (g := g) hc (by omega) (by omega) (by omega)) d_27_6_37 t_588 t_589 t_12 t_590 ⟨by decide, by decide, by decide +kernel⟩ rfl ⟨rfl, hT, hea, hcap, hla, hela⟩ ⟨Nat.le_of_ble_eq_true rfl, Nat.le_of_ble_eq_true rfl⟩ (Nat.le_of_ble_eq_true rfl) ⟨Nat.le_refl _, Nat.le_refl _⟩ (fun v37 h r37 => ?_) (fun x37 h r37 => by obtain ⟨K9, -, -, z9, e9, -⟩ := r37; cases e9)
      obtain ⟨K, hT, ev, q, e37, hq9, hq1, hq2, hKla, hela⟩ := r37
      cases e37
      replace hkn : (K la).2.2 = n := by rw [hKla]; exact hkn
      replace hla := Ev.ty ev hla
      replace hE := hE.tr ev
      refine g_dup_x1 cx d_27_6_40 rfl rfl ?_
      refine g_putf cx d_27_6_41 in2 ty2_ok nm2 rfl (k := 0) (by decide) t_84 (Or.inl rfl) rfl (ty2_ok 0 (by decide)) rfl rfl hla.1 hela (Nat.le_of_ble_eq_true rfl) ?_
      refine t_put hT hla (okc_list hc hla.2 hkn hbn (Or.inr ⟨hq9.1, hq9.2, (by rw [hq2]; exact hnn)⟩)) (fun h hT ev hela2 => ?_)
      replace hE := Ev.trS hE ev
      exact g_aret cx d_27_6_44 rfl (Or.inr ⟨_, rfl⟩) (Or.inr ⟨_, rfl⟩) ⟨K, hT, hE, q, rfl, Ev.ty ev hq9, by rw [hq1]; omega, by rw [hq2]; exact hnn, hKla, hela2⟩
set_option maxHeartbeats 8000000 in
theorem tj_grow0 {la ea ce n g : Nat} {mo : Int32} (hc : 3 ≤ ce ∧ ce ≤ 9) (hn : n < 2 ^ 18) (hg : n + n / 2 + 12 ≤ g) : TC l y_113 prog_27_method_7_code 1 (Option.some (Jvm.ClassFile.FieldType.array (Jvm.ClassFile.FieldType.object "java/lang/Object"))) (rmT 7 1 g) D z0 k [.ref la] K (B) (T) (fun h => Ty K h (ce + 20) la ∧ h.2 la = .inr (2, [.ref ea, .int (nI n), .int mo]) ∧ (K la).2.2 = n ∧ n ≤ bd (ce + 20) B ∧ ((ea = k 1 ∧ n = 0) ∨ (Ty K h (ce + 30) ea ∧ (K ea).2.1 = n ∧ n ≤ (K ea).2.2))) (B) (T) (fun z => z = la) (fun o K' h' => ∃ q : Nat, o = .returned (some (.ref q)) ∧ Ty K' h' (ce + 30) q ∧ n < (K' q).2.1 ∧ n ≤ (K' q).2.2 ∧ K' la = K la ∧ h'.2 la = .inr (2, [.ref q, .int (nI n), .int mo])) := by
  refine tc_of (by decide) (Nat.le_of_ble_eq_true rfl) ?_
  intro h hT hp p e s m args below meth c cx hnm
  have hE : Ev k (fun z => z = la) K h K h := Ev.rf
  refine g_aload_n cx 0 d_27_7_0 rfl rfl ?_
  refine g_aload_n cx 0 d_27_7_1 rfl rfl ?_
  refine g_getf cx (k := 1) d_27_7_2 in2 rfl (by decide) t_85 (Or.inl rfl) hp.1.1 hp.2.1 rfl ?_
  refine g_iconst cx (v := 1) d_27_7_5 (by decide) ?_
  refine g_iadd cx d_27_7_6 ?_
  refine g_topi (fun m6 em6 => ?_)
  obtain rfl : m6 = nI (n + 1) := em6.trans (nI_1 n)
  refine g_callV cx (As := [.int (nI (n + 1))]) (n := 1) (tj_grow1 (n := n) (ea := ea) (mo := mo) (g := g) hc hn hg) d_27_7_7 t_583 t_585 ts_7 t_8 t_586 ⟨by decide, by decide, by decide +kernel⟩ rfl (ci := 2) rfl hp.1.1 hp.2.1 ⟨rfl, hT, hp⟩ ⟨Nat.le_of_ble_eq_true rfl, Nat.le_of_ble_eq_true rfl⟩ (Nat.le_of_ble_eq_true rfl) ⟨Nat.le_refl _, Nat.le_refl _⟩ (fun v7 h r7 => ?_) (fun x7 h r7 => by obtain ⟨K9, -, -, z9, e9, -⟩ := r7; cases e9)
  obtain ⟨K2, hT2, ev2, q, e7, r7⟩ := r7
  cases e7
  replace hE := Ev.trS hE ev2
  exact g_aret cx d_27_7_10 rfl (Or.inr ⟨_, rfl⟩) (Or.inr ⟨_, rfl⟩) ⟨K2, hT2, hE, q, rfl, r7⟩
set_option maxHeartbeats 8000000 in
theorem tj_add3 {la v ea ce n g : Nat} {mo : Int32} (hc : 3 ≤ ce ∧ ce ≤ 9) (hn : n < 2 ^ 18) (hg : n + n / 2 + 12 ≤ g) (hbn : n + 1 ≤ bd (ce + 20) B) : TC l y_112 prog_27_method_24_code 4 (Option.none) (rmT 8 1 g) D z0 k [.ref la, .ref v, .ref ea, .int (nI n)] K B T (fun h => Ty K h (ce + 20) la ∧ Ty K h (ec ce) v ∧ h.2 la = .inr (2, [.ref ea, .int (nI n), .int mo]) ∧ (K la).2.2 = n ∧ ((ea = k 1 ∧ n = 0) ∨ (Ty K h (ce + 30) ea ∧ n ≤ (K ea).2.2))) B T (XP (fun z => z = la) (fun κ => κ = ce + 30) K) (fun o K' h' => o = .returned none ∧ (K' la).2.2 = n + 1) := by
  refine tc_of (by decide) (Nat.le_of_ble_eq_true rfl) ?_
  intro h hT hpp p e s m args below meth c cx hnm
  have hE : Ev k (XP (fun z => z = la) (fun κ => κ = ce + 30) K) K h K h := Ev.rf
  have fin : ∀ (K2 : KM) (h2 : hp) (q rc rs : Nat), TP D z0 k K2 B T h2 → Ev k (XP (fun z => z = la) (fun κ => κ = ce + 30) K) K h K2 h2 → Ty K2 h2 (ce + 20) la → h2.2 la = .inr (2, [.ref q, .int (nI n), .int mo]) → (K2 la).2.2 = n → Ty K2 h2 (ec ce) v → Ty K2 h2 (ce + 30) q → n < (K2 q).2.1 → n ≤ (K2 q).2.2 → G p l e (rmT 8 1 g) s m args below meth c 4 D z0 (EE z0 k) (TQ D z0 k K h B T (XP (fun z => z = la) (fun κ => κ = ce + 30) K) (fun o K' h' => o = .returned none ∧ (K' la).2.2 = n + 1)) 1 g 11 [(2, .ref q), (0, .ref la), (1, .ref v), (3, .int (nI n))] [] h2 rc rs := by
    clear hT hE hpp
    intro K h q rc rs hT hE hla hela hkn hv hq hq1 hq2
    refine g_aload_n cx 0 d_27_24_11 rfl rfl ?_
    refine g_iload_n cx 3 d_27_24_12 rfl rfl ?_
    refine g_aload_n cx 2 d_27_24_13 rfl rfl ?_
    obtain ⟨f, hf, hle, hcp, hel, hnn⟩ := TP.ar hT hq (by omega)
    have hle2 : (K q).2.2 ≤ (K q).2.1 := hle
    have hcp2 : (K q).2.1 < 2 ^ 20 := hcp
    obtain ⟨vs, hvs⟩ := TP.cls hT hv (ec_in hc)
    obtain ⟨r, hr1, hr2⟩ := cl_cast (ec ce) (ec_in hc)
    refine g_aast cx d_27_24_14 hq.1 hf (vp_in_nI (by show n < (K q).2.1; omega) (by show (K q).2.1 < 2 ^ 31; omega)) hr1 (cx.nw hr2) hv.1 hvs ?_
    rw [nI_clamp (by omega)]
    refine t_putK (q := (ce + 30, (K q).2.1, max (K q).2.2 (n + 1))) hT hq (⟨hq.2.symm, rfl, Nat.le_max_left _ _, fun hg => absurd (by rw [hq.2]; unfold Gk; omega) hg⟩) ⟨fun x => absurd x.2 (by show ¬ ce + 30 ≤ 29; omega), fun _ => ⟨_, rfl, by show max (K q).2.2 (n + 1) ≤ (K q).2.1; omega, hcp2, fun j9 y hy => ?_, fun j9 hj9 => ?_⟩, oko.none (Or.inr (by show 33 ≤ ce + 30 ∧ ce + 30 ≤ 39; omega))⟩ (fun K2 h2 hT2 ev2 hkq2 heq2 hoth2 => ?_)
    · skip
      have hyy : y ∈ h.1 ∧ (K y).1 = ec (ce + 30 - 30) := by
        by_cases hj : j9 = n
        · subst hj; rw [va_up_self] at hy; cases hy; exact ⟨hv.1, hv.2.trans (ec_sub (ce := ce)).symm⟩
        · rw [va_up_ne _ _ hj] at hy; exact hel j9 y hy
      obtain ⟨y1, y2⟩ := hyy
      refine ⟨y1, ?_⟩
      have hyq : y ≠ q := fun z => by have y3 := y2.trans (ec_sub (ce := ce)); rw [z, hq.2] at y3; have := ec_le (c := ce); omega
      rw [va_up_ne _ _ hyq]
      exact y2
    · skip
      by_cases hj : j9 = n
      · subst hj; rw [va_up_self]; exact Option.some_ne_none _
      · rw [va_up_ne _ _ hj]; exact hnn j9 (by have : j9 < max (K q).2.2 (n + 1) := hj9; show j9 < (K q).2.2; omega)
    have hlq : la ≠ q := fun z => by have := hla.2; rw [z, hq.2] at this; omega
    have hKla2 := (hoth2 _ hlq).1
    replace hela := (hoth2 _ hlq).2.trans hela
    replace hla := Ev.ty ev2 hla
    replace hE := Ev.tr1 hE (Or.inr hq.2) ev2
    replace hq := Ev.ty ev2 hq
    refine g_aload_n cx 1 d_27_24_15 rfl rfl ?_
    refine g_iload_n cx 3 d_27_24_16 rfl rfl ?_
    refine g_iconst cx (v := 1) d_27_24_17 (by decide) ?_
    refine g_iadd cx d_27_24_18 ?_
    refine g_topi (fun m18 em18 => ?_)
    obtain rfl : m18 = nI (n + 1) := em18.trans (nI_1 n)
    refine g_putf cx d_27_24_19 in2 ty2_ok nm2 rfl (k := 1) (by decide) t_85 (Or.inl rfl) rfl (ty2_ok 1 (by decide)) rfl rfl hla.1 hela (Nat.le_of_ble_eq_true rfl) ?_
    refine t_putK (q := (ce + 20, (K2 la).2.1, n + 1)) hT2 hla (⟨hla.2.symm, rfl, by rw [hKla2, hkn]; exact Nat.le_succ _, fun hg => absurd (by rw [hla.2]; unfold Gk; omega) hg⟩) ⟨fun _ => ⟨q, mo, rfl, hbn, Or.inr ⟨hq.1, by show (va_up K2 la _ q).1 = ce + 20 + 10; rw [va_up_ne _ _ (Ne.symm hlq), hq.2], by show n + 1 ≤ _; rw [va_up_ne _ _ (Ne.symm hlq), hkq2]; exact Nat.le_max_right _ _⟩⟩, fun x => absurd x.1 (by show ¬ 33 ≤ ce + 20; omega), oko.none (Or.inl (by show 23 ≤ ce + 20 ∧ ce + 20 ≤ 29; omega))⟩ (fun K3 h3 hT3 ev3 hkl3 hel3 hoth3 => ?_)
    replace hE := Ev.tr1 hE (Or.inl rfl) ev3
    exact g_vret cx d_27_24_22 rfl ⟨K3, hT3, hE, rfl, by rw [hkl3]⟩
  obtain ⟨hla, hv, hela, hkn, hx⟩ := hpp
  rcases hx with ⟨rfl, rfl⟩ | ⟨hea, hnn⟩
  · skip
    refine g_iload_n cx 3 d_27_24_0 rfl rfl ?_
    refine g_aload_n cx 2 d_27_24_1 rfl rfl ?_
    refine g_alenE cx d_27_24_2 ?_
    refine g_icmp_ne cx d_27_24_3 rfl (fun c3 => absurd rfl c3) (fun c3 => ?_)
    refine g_aload_n cx 0 d_27_24_6 rfl rfl ?_
    refine g_callV cx (As := []) (n := 0) (tj_grow0 (n := 0) (ea := k 1) (mo := mo) (ce := ce) (g := g) hc hn hg) d_27_24_7 t_579 t_581 ts_6 t_8 t_582 ⟨by decide, by decide, by decide +kernel⟩ rfl (ci := 2) rfl hla.1 hela ⟨rfl, hT, hla, hela, hkn, by omega, Or.inl ⟨rfl, rfl⟩⟩ ⟨Nat.le_of_ble_eq_true rfl, Nat.le_of_ble_eq_true rfl⟩ (Nat.le_of_ble_eq_true rfl) ⟨Nat.le_refl _, Nat.le_refl _⟩ (fun v7 h r7 => ?_) (fun x7 h r7 => by obtain ⟨K9, -, -, z9, e9, -⟩ := r7; cases e9)
    obtain ⟨K2, hT2, ev2, q, e7, hq, hq1, hq2, hKl, hel2⟩ := r7
    cases e7
    refine g_astore_n cx (lv' := [(2, .ref q), (0, .ref la), (1, .ref v), (3, .int (nI 0))]) d_27_24_10 rfl (by decide) rfl ?_
    exact fin K2 h q _ _ hT2 (Ev.tr1 hE (Or.inl rfl) ev2) (Ev.ty ev2 hla) hel2 (by rw [hKl]; exact hkn) (ev_tyv ev2 hv (ec_in hc)) hq hq1 hq2
  · skip
    obtain ⟨f, hf, hle, hcp, -⟩ := TP.ar hT hea (by omega)
    have hle2 : (K ea).2.2 ≤ (K ea).2.1 := hle
    have hcp2 : (K ea).2.1 < 2 ^ 20 := hcp
    refine g_iload_n cx 3 d_27_24_0 rfl rfl ?_
    refine g_aload_n cx 2 d_27_24_1 rfl rfl ?_
    refine g_alen cx (k := 5) d_27_24_2 hea.1 hf rfl ?_
    refine g_icmp_ne cx d_27_24_3 rfl (fun c3 => ?_) (fun c3 => ?_)
    · skip
      have hlt : n < (K ea).2.1 := by
        have : n ≠ (K ea).2.1 := fun z => c3 (congrArg nI z)
        omega
      exact g_loc [2, 0, 1, 3] rfl (fin K h ea _ _ hT hE hla hela hkn hv hea hlt hnn)
      done
    · skip
      have hnc : (K ea).2.1 = n := ((nI_eq (by omega) (by omega)).mp c3).symm
      refine g_aload_n cx 0 d_27_24_6 rfl rfl ?_
      refine g_callV cx (As := []) (n := 0) (tj_grow0 (n := n) (ea := ea) (mo := mo) (ce := ce) (g := g) hc hn hg) d_27_24_7 t_579 t_581 ts_6 t_8 t_582 ⟨by decide, by decide, by decide +kernel⟩ rfl (ci := 2) rfl hla.1 hela ⟨rfl, hT, hla, hela, hkn, by omega, Or.inr ⟨hea, hnc, hnn⟩⟩ ⟨Nat.le_of_ble_eq_true rfl, Nat.le_of_ble_eq_true rfl⟩ (Nat.le_of_ble_eq_true rfl) ⟨Nat.le_refl _, Nat.le_refl _⟩ (fun v7 h r7 => ?_) (fun x7 h r7 => by obtain ⟨K9, -, -, z9, e9, -⟩ := r7; cases e9)
      obtain ⟨K2, hT2, ev2, q, e7, hq, hq1, hq2, hKl, hel2⟩ := r7
      cases e7
      refine g_astore_n cx (lv' := [(2, .ref q), (0, .ref la), (1, .ref v), (3, .int (nI n))]) d_27_24_10 rfl (by decide) rfl ?_
      exact fin K2 h q _ _ hT2 (Ev.tr1 hE (Or.inl rfl) ev2) (Ev.ty ev2 hla) hel2 (by rw [hKl]; exact hkn) (ev_tyv ev2 hv (ec_in hc)) hq hq1 hq2
set_option maxHeartbeats 8000000 in
theorem tj_add {la v ce n g : Nat} (hc : 3 ≤ ce ∧ ce ≤ 9) (hB : bd (ce + 20) B < 2 ^ 18) (hg : n + n / 2 + 12 ≤ g) (hbn : n + 1 ≤ bd (ce + 20) B) : TC l y_111 prog_27_method_25_code 2 (Option.some Jvm.ClassFile.FieldType.boolean) (rmT 9 1 g) D z0 k [.ref la, .ref v] K (B) (T) (fun h => Ty K h (ce + 20) la ∧ Ty K h (ec ce) v ∧ (K la).2.2 = n) (B) (T) (XP (fun z => z = la) (fun κ => κ = ce + 30) K) (fun o K' h' => o = .returned (some (.int 1)) ∧ (K' la).2.2 = n + 1) := by
  refine tc_of (by decide) (Nat.le_of_ble_eq_true rfl) ?_
  intro h hT hp p e s m args below meth c cx hnm
  have hE : Ev k (XP (fun z => z = la) (fun κ => κ = ce + 30) K) K h K h := Ev.rf
  obtain ⟨hla, hv, hkn⟩ := hp
  obtain ⟨ea, mo, hela, -, hx⟩ := TP.l hT hla (by omega)
  rw [show ((ce + 20, (K la).2).2.2 : Nat) = n from hkn] at hela hx
  replace hx : (ea = k 1 ∧ n = 0) ∨ (Ty K h (ce + 30) ea ∧ n ≤ (K ea).2.2) := hx.imp id (fun z => ⟨⟨z.1, z.2.1⟩, z.2.2⟩)
  refine g_aload_n cx 0 d_27_25_0 rfl rfl ?_
  refine g_dup cx d_27_25_1 rfl ?_
  refine g_getf cx (k := 2) d_27_25_2 in2 rfl (by decide) t_87 (Or.inr t_88) hla.1 hela rfl ?_
  refine g_iconst cx (v := 1) d_27_25_5 (by decide) ?_
  refine g_iadd cx d_27_25_6 ?_
  refine g_putf cx d_27_25_7 in2 ty2_ok nm2 rfl (k := 2) (by decide) t_87 (Or.inr t_88) rfl (ty2_ok 2 (by decide)) rfl rfl hla.1 hela (Nat.le_of_ble_eq_true rfl) ?_
  refine t_put hT hla (okc_list hc hla.2 hkn (by omega) (hx.imp id (fun z => ⟨z.1.1, z.1.2, z.2⟩))) (fun h hT ev hela => ?_)
  replace hx : (ea = k 1 ∧ n = 0) ∨ (Ty K h (ce + 30) ea ∧ n ≤ (K ea).2.2) := hx.imp id (fun z => ⟨Ev.ty ev z.1, z.2⟩)
  replace hla := Ev.ty ev hla
  replace hv := ev_tyv ev hv (ec_in hc)
  replace hE := Ev.tr1 hE (Or.inl rfl) ev
  refine g_aload_n cx 0 d_27_25_10 rfl rfl ?_
  refine g_aload_n cx 1 d_27_25_11 rfl rfl ?_
  refine g_aload_n cx 0 d_27_25_12 rfl rfl ?_
  refine g_getf cx (k := 0) d_27_25_13 in2 rfl (by decide) t_84 (Or.inl rfl) hla.1 hela rfl ?_
  refine g_aload_n cx 0 d_27_25_16 rfl rfl ?_
  refine g_getf cx (k := 1) d_27_25_17 in2 rfl (by decide) t_85 (Or.inl rfl) hla.1 hela rfl ?_
  refine g_callV cx (As := [.ref v, .ref ea, .int (nI n)]) (n := 3) (tj_add3 (n := n) (ea := ea) (ce := ce) (mo := mo + 1) (g := g) hc (by omega) hg hbn) d_27_25_20 t_575 t_577 ts_5 t_8 t_578 ⟨by decide, by decide, by decide +kernel⟩ rfl (ci := 2) rfl hla.1 hela ⟨rfl, hT, hla, hv, hela, hkn, hx⟩ ⟨Nat.le_of_ble_eq_true rfl, Nat.le_of_ble_eq_true rfl⟩ (Nat.le_of_ble_eq_true rfl) ⟨Nat.le_refl _, Nat.le_refl _⟩ (fun v20 h r20 => ?_) (fun x20 h r20 => by obtain ⟨K9, -, -, e9, -⟩ := r20; cases e9)
  obtain ⟨K, hT, ev, e20, hkn⟩ := r20
  cases e20
  replace hla := Ev.ty ev hla
  replace hE := Ev.trP hE ev
  refine g_iconst cx (v := 1) d_27_25_23 (by decide) ?_
  exact g_iret cx d_27_25_24 rfl rfl ⟨K, hT, hE, rfl, hkn⟩
set_option maxHeartbeats 8000000 in
theorem tj_addAt {la v ce n j g : Nat} (hc : 3 ≤ ce ∧ ce ≤ 9) (hB : bd (ce + 20) B < 2 ^ 18) (hg : n + n / 2 + 12 ≤ g) (hbn : n + 1 ≤ bd (ce + 20) B) (hj : j ≤ n) : TC l y_141 prog_27_method_26_code 5 (Option.none) (rmT 9 1 g) D z0 k [.ref la, .int (nI j), .ref v] K B T (fun h => Ty K h (ce + 20) la ∧ Ty K h (ec ce) v ∧ (K la).2.2 = n) B T (XP (fun z => z = la) (fun κ => κ = ce + 30) K) (fun o K' h' => o = .returned none ∧ (K' la).2.2 = n + 1) := by
  refine tc_of (by decide) (Nat.le_of_ble_eq_true rfl) ?_
  intro h hT hpp p e s m args below meth c cx hnm
  have hE : Ev k (XP (fun z => z = la) (fun κ => κ = ce + 30) K) K h K h := Ev.rf
  have fin : ∀ (K2 : KM) (h2 : hp) (q rc rs : Nat) (mo : Int32), TP D z0 k K2 B T h2 → Ev k (XP (fun z => z = la) (fun κ => κ = ce + 30) K) K h K2 h2 → Ty K2 h2 (ce + 20) la → h2.2 la = .inr (2, [.ref q, .int (nI n), .int mo]) → (K2 la).2.2 = n → Ty K2 h2 (ec ce) v → Ty K2 h2 (ce + 30) q → n < (K2 q).2.1 → n ≤ (K2 q).2.2 → G p l e (rmT 9 1 g) s m args below meth c 5 D z0 (EE z0 k) (TQ D z0 k K h B T (XP (fun z => z = la) (fun κ => κ = ce + 30) K) (fun o K' h' => o = .returned none ∧ (K' la).2.2 = n + 1)) 1 g 38 [(4, .ref q), (3, .int (nI n)), (0, .ref la), (1, .int (nI j)), (2, .ref v)] [] h2 rc rs := by
    clear hT hE hpp
    intro K h q rc rs mo hT hE hla hela hkn hv hq hq1 hq2
    refine g_aload cx 0 d_27_26_38 rfl ?_
    refine g_iload_n cx 3 d_27_26_40 rfl rfl ?_
    refine g_aload cx 0 d_27_26_41 rfl ?_
    refine g_iload_n cx 3 d_27_26_43 rfl rfl ?_
    refine g_iconst cx (v := 1) d_27_26_44 (by decide) ?_
    refine g_iadd cx d_27_26_45 ?_
    refine g_topi (fun m45 em45 => ?_)
    obtain rfl : m45 = nI (j + 1) := em45.trans (nI_1 j)
    refine g_iload_n cx 1 d_27_26_46 rfl rfl ?_
    refine g_iload_n cx 3 d_27_26_47 rfl rfl ?_
    refine g_isub cx d_27_26_48 ?_
    refine g_topi (fun m48 em48 => ?_)
    obtain rfl : m48 = nI (n - j) := em48.trans (pk_sub hj)
    obtain ⟨f, hf, hle, hcp, hel, hnn⟩ := TP.ar hT hq (by omega)
    have hle2 : (K q).2.2 ≤ (K q).2.1 := hle
    have hcp2 : (K q).2.1 < 2 ^ 20 := hcp
    obtain ⟨vs, hvs⟩ := TP.cls hT hv (ec_in hc)
    obtain ⟨r, hr1, hr2⟩ := cl_cast (ec ce) (ec_in hc)
    refine g_copyq cx (sp := j) (dp := j + 1) (n := n - j) d_27_26_49 t_821 t_165 t_164 t_13 hq.1 hf hq.1 hf rfl rfl rfl ⟨by show j + (n - j) ≤ (K q).2.1; omega, by show (K q).2.1 < 2 ^ 31; omega⟩ ⟨by show j + 1 + (n - j) ≤ (K q).2.1; omega, by show (K q).2.1 < 2 ^ 31; omega⟩ (fun j y hy => by obtain ⟨y1, y2⟩ := hel j y hy; have y3 : (K y).1 = ec ce := y2.trans (ec_sub (ce := ce)); obtain ⟨vs, hvs⟩ := TP.cls hT ⟨y1, y3⟩ (ec_in hc); obtain ⟨r, hr1, hr2⟩ := cl_cast (ec ce) (ec_in hc); exact ⟨ec ce, vs, r, y1, hvs, hr1, cx.nw hr2⟩) ⟨Nat.le_of_ble_eq_true rfl, Nat.le_of_ble_eq_true rfl⟩ (Nat.le_of_ble_eq_true rfl) ?_
    refine g_aload cx 0 d_27_26_52 rfl ?_
    refine g_iload_n cx 3 d_27_26_54 rfl rfl ?_
    refine g_aload_n cx 4 d_27_26_55 rfl rfl ?_
    have hvq : v ≠ q := fun z => by have := hv.2; rw [z, hq.2] at this; have := ec_le (c := ce); omega
    refine g_aast cx d_27_26_56 hq.1 (va_up_self _ _ _) (vp_in_nI (by show j < (K q).2.1; omega) (by show (K q).2.1 < 2 ^ 31; omega)) hr1 (cx.nw hr2) hv.1 ((va_up_ne _ _ hvq).trans hvs) ?_
    rw [nI_clamp (by omega)]
    simp only [up_up]
    refine t_putK (q := (ce + 30, (K q).2.1, max (K q).2.2 (n + 1))) hT hq (⟨hq.2.symm, rfl, Nat.le_max_left _ _, fun hg => absurd (by rw [hq.2]; unfold Gk; omega) hg⟩) ⟨fun x => absurd x.2 (by show ¬ ce + 30 ≤ 29; omega), fun _ => ⟨_, rfl, by show max (K q).2.2 (n + 1) ≤ (K q).2.1; omega, hcp2, fun j9 y hy => ?_, fun j9 hj9 => ?_⟩, oko.none (Or.inr (by show 33 ≤ ce + 30 ∧ ce + 30 ≤ 39; omega))⟩ (fun K2 h2 hT2 ev2 hkq2 heq2 hoth2 => ?_)
    · skip
      have hyy : y ∈ h.1 ∧ (K y).1 = ec (ce + 30 - 30) := by
        by_cases hj2 : j9 = j
        · subst hj2; rw [va_up_self] at hy; cases hy; exact ⟨hv.1, hv.2.trans (ec_sub (ce := ce)).symm⟩
        · rw [va_up_ne _ _ hj2] at hy
          by_cases hj3 : j + 1 ≤ j9 ∧ j9 < j + 1 + (n - j)
          · rw [pk_cpy_in hj3.1 hj3.2] at hy; exact hel _ y hy
          · rw [pk_cpy_out (by omega)] at hy; exact hel j9 y hy
      obtain ⟨y1, y2⟩ := hyy
      refine ⟨y1, ?_⟩
      have hyq : y ≠ q := fun z => by have y3 := y2.trans (ec_sub (ce := ce)); rw [z, hq.2] at y3; have := ec_le (c := ce); omega
      rw [va_up_ne _ _ hyq]
      exact y2
    · skip
      have hj8 : j9 < max (K q).2.2 (n + 1) := hj9
      by_cases hj2 : j9 = j
      · subst hj2; rw [va_up_self]; exact Option.some_ne_none _
      · rw [va_up_ne _ _ hj2]
        by_cases hj3 : j + 1 ≤ j9 ∧ j9 < j + 1 + (n - j)
        · rw [pk_cpy_in hj3.1 hj3.2]; exact hnn _ (by show j + (j9 - (j + 1)) < (K q).2.2; omega)
        · rw [pk_cpy_out (by omega)]; exact hnn j9 (by show j9 < (K q).2.2; omega)
    have hlq : la ≠ q := fun z => by have := hla.2; rw [z, hq.2] at this; omega
    have hKla2 := (hoth2 _ hlq).1
    replace hela := (hoth2 _ hlq).2.trans hela
    replace hla := Ev.ty ev2 hla
    replace hE := Ev.tr1 hE (Or.inr hq.2) ev2
    replace hq := Ev.ty ev2 hq
    refine g_aload_n cx 2 d_27_26_57 rfl rfl ?_
    refine g_iload_n cx 1 d_27_26_58 rfl rfl ?_
    refine g_iconst cx (v := 1) d_27_26_59 (by decide) ?_
    refine g_iadd cx d_27_26_60 ?_
    refine g_topi (fun m60 em60 => ?_)
    obtain rfl : m60 = nI (n + 1) := em60.trans (nI_1 n)
    refine g_putf cx d_27_26_61 in2 ty2_ok nm2 rfl (k := 1) (by decide) t_85 (Or.inl rfl) rfl (ty2_ok 1 (by decide)) rfl rfl hla.1 hela (Nat.le_of_ble_eq_true rfl) ?_
    refine t_putK (q := (ce + 20, (K2 la).2.1, n + 1)) hT2 hla (⟨hla.2.symm, rfl, by rw [hKla2, hkn]; exact Nat.le_succ _, fun hg => absurd (by rw [hla.2]; unfold Gk; omega) hg⟩) ⟨fun _ => ⟨q, mo, rfl, hbn, Or.inr ⟨hq.1, by show (va_up K2 la _ q).1 = ce + 20 + 10; rw [va_up_ne _ _ (Ne.symm hlq), hq.2], by show n + 1 ≤ _; rw [va_up_ne _ _ (Ne.symm hlq), hkq2]; exact Nat.le_max_right _ _⟩⟩, fun x => absurd x.1 (by show ¬ 33 ≤ ce + 20; omega), oko.none (Or.inl (by show 23 ≤ ce + 20 ∧ ce + 20 ≤ 29; omega))⟩ (fun K3 h3 hT3 ev3 hkl3 hel3 hoth3 => ?_)
    replace hE := Ev.tr1 hE (Or.inl rfl) ev3
    exact g_vret cx d_27_26_64 rfl ⟨K3, hT3, hE, rfl, by rw [hkl3]⟩
  have hp := hpp
  obtain ⟨hla, hv, hkn⟩ := hp
  obtain ⟨ea, mo, hela, -, hx⟩ := TP.l hT hla (by omega)
  rw [show ((ce + 20, (K la).2).2.2 : Nat) = n from hkn] at hela hx
  replace hx : (ea = k 1 ∧ n = 0) ∨ (Ty K h (ce + 30) ea ∧ n ≤ (K ea).2.2) := hx.imp id (fun z => ⟨⟨z.1, z.2.1⟩, z.2.2⟩)
  refine g_aload_n cx 0 d_27_26_0 rfl rfl ?_
  refine g_iload_n cx 1 d_27_26_1 rfl rfl ?_
  refine g_pcV cx (As := [.int (nI j)]) (n := 1) (pj_rangeAdd (n := n) hj (by omega)) d_27_26_2 t_817 t_819 ts_20 t_8 t_820 ⟨by decide, by decide, by decide +kernel⟩ rfl (ci := 2) rfl hla.1 hela ⟨ea, mo, hla.1, hela⟩ ⟨Nat.le_of_ble_eq_true rfl, Nat.le_of_ble_eq_true rfl⟩ (Nat.le_of_ble_eq_true rfl) (fun v2 r2 => ?_)
  subst r2
  refine g_aload_n cx 0 d_27_26_5 rfl rfl ?_
  refine g_dup cx d_27_26_6 rfl ?_
  refine g_getf cx (k := 2) d_27_26_7 in2 rfl (by decide) t_87 (Or.inr t_88) hla.1 hela rfl ?_
  refine g_iconst cx (v := 1) d_27_26_10 (by decide) ?_
  refine g_iadd cx d_27_26_11 ?_
  refine g_putf cx d_27_26_12 in2 ty2_ok nm2 rfl (k := 2) (by decide) t_87 (Or.inr t_88) rfl (ty2_ok 2 (by decide)) rfl rfl hla.1 hela (Nat.le_of_ble_eq_true rfl) ?_
  refine t_put hT hla (okc_list hc hla.2 hkn (by omega) (hx.imp id (fun z => ⟨z.1.1, z.1.2, z.2⟩))) (fun h hT ev hela => ?_)
  replace hx : (ea = k 1 ∧ n = 0) ∨ (Ty K h (ce + 30) ea ∧ n ≤ (K ea).2.2) := hx.imp id (fun z => ⟨Ev.ty ev z.1, z.2⟩)
  replace hla := Ev.ty ev hla
  replace hv := ev_tyv ev hv (ec_in hc)
  replace hE := Ev.tr1 hE (Or.inl rfl) ev
  refine g_aload_n cx 0 d_27_26_15 rfl rfl ?_
  refine g_getf cx (k := 1) d_27_26_16 in2 rfl (by decide) t_85 (Or.inl rfl) hla.1 hela rfl ?_
  refine g_dup cx d_27_26_19 rfl ?_
  refine g_istore_n cx (lv' := [(3, .int (nI n)), (0, .ref la), (1, .int (nI j)), (2, .ref v)]) d_27_26_20 rfl (by decide) rfl ?_
  refine g_aload_n cx 1 d_27_26_21 rfl rfl ?_
  refine g_getf cx (k := 0) d_27_26_22 in2 rfl (by decide) t_84 (Or.inl rfl) hla.1 hela rfl ?_
  refine g_dup cx d_27_26_25 rfl ?_
  refine g_astore cx (lv' := [(4, .ref ea), (3, .int (nI n)), (0, .ref la), (1, .int (nI j)), (2, .ref v)]) d_27_26_26 (by decide) rfl ?_
  rcases hx with ⟨hx1, hx2⟩ | ⟨hea, hnn⟩
  · skip
    subst hx1 hx2
    refine g_alenE cx d_27_26_28 ?_
    refine g_icmp_ne cx d_27_26_29 rfl (fun c29 => absurd rfl c29) (fun c29 => ?_)
    refine g_aload_n cx 2 d_27_26_32 rfl rfl ?_
    refine g_callV cx (As := []) (n := 0) (tj_grow0 (n := 0) (ea := k 1) (mo := mo + 1) (ce := ce) (g := g) hc (by omega) hg) d_27_26_33 t_579 t_581 ts_6 t_8 t_582 ⟨by decide, by decide, by decide +kernel⟩ rfl (ci := 2) rfl hla.1 hela ⟨rfl, hT, hla, hela, hkn, by omega, Or.inl ⟨rfl, rfl⟩⟩ ⟨Nat.le_of_ble_eq_true rfl, Nat.le_of_ble_eq_true rfl⟩ (Nat.le_of_ble_eq_true rfl) ⟨Nat.le_refl _, Nat.le_refl _⟩ (fun v33 h r33 => ?_) (fun x33 h r33 => by obtain ⟨K9, -, -, z9, e9, -⟩ := r33; cases e9)
    obtain ⟨K2, hT2, ev2, q, e33, hq, hq1, hq2, hKl, hel2⟩ := r33
    cases e33
    refine g_astore cx (lv' := [(4, .ref q), (3, .int (nI 0)), (0, .ref la), (1, .int (nI j)), (2, .ref v)]) d_27_26_36 (by decide) rfl ?_
    exact fin K2 h q _ _ (mo + 1) hT2 (Ev.tr1 hE (Or.inl rfl) ev2) (Ev.ty ev2 hla) hel2 (by rw [hKl]; exact hkn) (ev_tyv ev2 hv (ec_in hc)) hq hq1 hq2
  · skip
    obtain ⟨f, hf, hle, hcp, -⟩ := TP.ar hT hea (by omega)
    have hle2 : (K ea).2.2 ≤ (K ea).2.1 := hle
    have hcp2 : (K ea).2.1 < 2 ^ 20 := hcp
    refine g_alen cx (k := 5) d_27_26_28 hea.1 hf rfl ?_
    refine g_icmp_ne cx d_27_26_29 rfl (fun c29 => ?_) (fun c29 => ?_)
    · skip
      have hlt : n < (K ea).2.1 := by
        have : n ≠ (K ea).2.1 := fun z => c29 (congrArg nI z)
        omega
      exact fin K h ea _ _ (mo + 1) hT hE hla hela hkn hv hea hlt hnn
      done
    · skip
      have hnc : (K ea).2.1 = n := ((nI_eq (by omega) (by omega)).mp c29).symm
      refine g_aload_n cx 2 d_27_26_32 rfl rfl ?_
      refine g_callV cx (As := []) (n := 0) (tj_grow0 (n := n) (ea := ea) (mo := mo + 1) (ce := ce) (g := g) hc (by omega) hg) d_27_26_33 t_579 t_581 ts_6 t_8 t_582 ⟨by decide, by decide, by decide +kernel⟩ rfl (ci := 2) rfl hla.1 hela ⟨rfl, hT, hla, hela, hkn, by omega, Or.inr ⟨hea, hnc, hnn⟩⟩ ⟨Nat.le_of_ble_eq_true rfl, Nat.le_of_ble_eq_true rfl⟩ (Nat.le_of_ble_eq_true rfl) ⟨Nat.le_refl _, Nat.le_refl _⟩ (fun v33 h r33 => ?_) (fun x33 h r33 => by obtain ⟨K9, -, -, z9, e9, -⟩ := r33; cases e9)
      obtain ⟨K2, hT2, ev2, q, e33, hq, hq1, hq2, hKl, hel2⟩ := r33
      cases e33
      refine g_astore cx (lv' := [(4, .ref q), (3, .int (nI n)), (0, .ref la), (1, .int (nI j)), (2, .ref v)]) d_27_26_36 (by decide) rfl ?_
      exact fin K2 h q _ _ (mo + 1) hT2 (Ev.tr1 hE (Or.inl rfl) ev2) (Ev.ty ev2 hla) hel2 (by rw [hKl]; exact hkn) (ev_tyv ev2 hv (ec_in hc)) hq hq1 hq2
end J6
