/-! The class: what its users call. -/
theorem sw3 {x : Int32} (h0 : ¬ x = 0) (h1 : ¬ x = 1) (h2 : ¬ x = 2) : x.toInt < 0 ∨ 2 < x.toInt := by
  have e0 : x.toInt ≠ 0 := fun z => h0 (Int32.toInt_inj.mp (z.trans (by decide)))
  have e1 : x.toInt ≠ 1 := fun z => h1 (Int32.toInt_inj.mp (z.trans (by decide)))
  have e2 : x.toInt ≠ 2 := fun z => h2 (Int32.toInt_inj.mp (z.trans (by decide)))
  omega
theorem chr_of {x : Int32} (h1 : ¬ x < 32) (h2 : ¬ 126 < x) : ∃ xc : Nat, x = nI xc ∧ 32 ≤ xc ∧ xc ≤ 126 := by
  obtain ⟨j, hj, rfl⟩ := nI_of (x := x) (fun z => h1 (Int32.lt_trans z (by decide)))
  exact ⟨j, rfl, Nat.le_of_not_lt (fun z => h1 (nI_lt (b := 32) z (by decide))), Nat.le_of_not_lt (fun z => h2 (nI_lt (a := 126) z hj))⟩
section C4
variable {l : Launch} {D : va_G} {z0 : Nat} {k : Nat → Nat} {K : KM} {B T : Nat}
set_option maxHeartbeats 8000000 in
theorem pt_many {a : Nat} : PU l y_38 prog_1_method_5_code 1 (Option.some Jvm.ClassFile.FieldType.int) 0 D z0 k [.ref a] K B T (fun h => Ty K h 1 a) (fun v _ => ∃ x : Int32, v = some (.int x)) := by
  refine pu_of (by decide) (Nat.le_of_ble_eq_true rfl) ?_
  intro h hT hp p e s m args below meth c cx
  have ha := hp
  refine g_aload_n cx 0 d_1_5_0 rfl rfl ?_
  obtain ⟨la1, lr1, tr1, tn1, he1, hla1, hlr1, htr1, htn1, hlq1, hlaq1⟩ := TP.o (κ := 1) hT ha
  refine g_getf cx (k := 4) d_1_5_1 in0 rfl (by decide) t_100 (Or.inl rfl) ha.1 he1 rfl ?_
  exact g_iret cx d_1_5_4 rfl rfl ⟨rfl, _, rfl, _, rfl⟩
set_option maxHeartbeats 8000000 in
theorem pt_asked {a : Nat} {v0 : Int32} : PU l y_39 prog_1_method_6_code 2 (Option.some Jvm.ClassFile.FieldType.int) 0 D z0 k [.ref a, .int v0] K B T (fun h => Ty K h 1 a) (fun v _ => ∃ x : Int32, v = some (.int x)) := by
  refine pu_of (by decide) (Nat.le_of_ble_eq_true rfl) ?_
  intro h hT hp p e s m args below meth c cx
  have ha := hp
  refine g_iload_n cx 1 d_1_6_0 rfl rfl ?_
  refine g_if_lt cx d_1_6_1 rfl (fun c1 => ?_) (fun c1 => ?_)
  · skip
    refine g_iconst cx (v := (-1)) d_1_6_27 (by decide) ?_
    exact g_iret cx d_1_6_28 rfl rfl ⟨rfl, _, rfl, _, rfl⟩
  · skip
    obtain ⟨j, hj31, hv0⟩ := nI_of c1
    refine g_iload_n cx 1 d_1_6_4 rfl rfl ?_
    refine g_aload_n cx 0 d_1_6_5 rfl rfl ?_
    obtain ⟨la6, lr6, tr6, tn6, he6, hla6, hlr6, htr6, htn6, hlq6, hlaq6⟩ := TP.o (κ := 1) hT ha
    refine g_getf cx (k := 4) d_1_6_6 in0 rfl (by decide) t_100 (Or.inl rfl) ha.1 he6 rfl ?_
    refine g_icmp_ge cx d_1_6_9 rfl (fun c9 => ?_) (fun c9 => ?_)
    · skip
      refine g_iconst cx (v := (-1)) d_1_6_27 (by decide) ?_
      exact g_iret cx d_1_6_28 rfl rfl ⟨rfl, _, rfl, _, rfl⟩
    · skip
      refine g_iload_n cx 1 d_1_6_12 rfl rfl ?_
      refine g_bipush cx (v := 20) d_1_6_13 (by decide) ?_
      refine g_icmp_ge cx d_1_6_15 rfl (fun c15 => ?_) (fun c15 => ?_)
      · skip
        refine g_iconst cx (v := (-1)) d_1_6_27 (by decide) ?_
        exact g_iret cx d_1_6_28 rfl rfl ⟨rfl, _, rfl, _, rfl⟩
      · skip
        have hj20 : j < 20 := Nat.lt_of_not_le (fun q => c15 (by rw [hv0]; exact nI_le (a := 20) q hj31))
        refine g_aload_n cx 0 d_1_6_18 rfl rfl ?_
        refine g_getf cx (k := 3) d_1_6_19 in0 rfl (by decide) t_99 (Or.inl rfl) ha.1 he6 rfl ?_
        refine g_iload_n cx 1 d_1_6_22 rfl rfl ?_
        obtain ⟨f23, hf23⟩ : ∃ f : Nat → Int32, h.2 tr6 = .inl (D.1 100, 20, .inl f) := TP.o (κ := 50) hT htr6
        refine g_iald cx d_1_6_23 htr6.1 hf23 (by rw [hv0]; exact vp_in_nI hj20 (by decide)) ?_
        refine g_topi (fun x23 ex23 => ?_)
        refine g_goto cx d_1_6_24 rfl ?_
        exact g_iret cx d_1_6_28 rfl rfl ⟨rfl, _, rfl, _, rfl⟩
set_option maxHeartbeats 8000000 in
theorem pt_keptN {a : Nat} {v0 : Int32} (hB : B < 2 ^ 20) : PU l y_40 prog_1_method_7_code 2 (Option.some Jvm.ClassFile.FieldType.int) 7 D z0 k [.ref a, .int v0] K B T (fun h => Ty K h 1 a) (fun v _ => ∃ x : Int32, v = some (.int x)) := by
  refine pu_of (by decide) (Nat.le_of_ble_eq_true rfl) ?_
  intro h hT hp p e s m args below meth c cx
  have ha := hp
  refine g_aload_n cx 0 d_1_7_0 rfl rfl ?_
  refine g_iload_n cx 1 d_1_7_1 rfl rfl ?_
  obtain ⟨la2, lr2, tr2, tn2, he2, hla2, hlr2, htr2, htn2, hlq2, hlaq2⟩ := TP.o (κ := 1) hT ha
  refine g_callV cx (As := [.int v0]) (n := 1) (pt_isThere (K := K) (B := B) (T := T) (ab := (K a).2.1) (la := la2) (lr := lr2) (tr := tr2) (t := tn2) (v0 := v0) hB) d_1_7_2 t_231 t_233 ts_0 t_1 t_234 ⟨by decide, by decide, by decide +kernel⟩ rfl (ci := 0) rfl ha.1 he2 ⟨rfl, hT, ha.1, he2, hla2, hlr2, htr2⟩ ⟨Nat.le_of_ble_eq_true rfl, Nat.le_of_ble_eq_true rfl⟩ (Nat.le_of_ble_eq_true rfl) ⟨Nat.zero_le _, Nat.zero_le _⟩ (fun v2 h r2 => ?_) (fun x2 h r2 => by obtain ⟨-, v9, e9, -⟩ := r2; cases e9)
  obtain ⟨rfl, wo2, e2, r2⟩ := r2
  cases e2
  obtain ⟨x2, rfl, xj2⟩ := r2
  refine g_if_eq cx d_1_7_5 rfl (fun c5 => ?_) (fun c5 => ?_)
  · skip
    refine g_iconst cx (v := (-1)) d_1_7_28 (by decide) ?_
    exact g_iret cx d_1_7_29 rfl rfl ⟨rfl, _, rfl, _, rfl⟩
  · skip
    obtain ⟨j, hv0, hj⟩ : ∃ j : Nat, v0 = nI j ∧ j < (K lr2).2.2 := xj2.elim (fun z => absurd z c5) (fun z => z.2)
    subst hv0
    refine g_aload_n cx 0 d_1_7_8 rfl rfl ?_
    refine g_getf cx (k := 2) d_1_7_9 in0 rfl (by decide) t_98 (Or.inl rfl) ha.1 he2 rfl ?_
    refine g_iload_n cx 1 d_1_7_12 rfl rfl ?_
    obtain ⟨⟨ea13, mo13, hm13, hl13⟩, hb13⟩ := TP.n26 hT hlr2
    refine g_callV cx (As := [.int (nI j)]) (n := 1) (gj_get (K := K) (B := B) (T := T) (ce := 6) (j := j) (by decide) hB) d_1_7_13 t_239 t_240 t_241 t_8 t_242 ⟨by decide, by decide, by decide +kernel⟩ rfl (ci := 2) rfl hm13 hl13 ⟨rfl, hT, hlr2, hj⟩ ⟨Nat.le_of_ble_eq_true rfl, Nat.le_of_ble_eq_true rfl⟩ (Nat.le_of_ble_eq_true rfl) ⟨Nat.zero_le _, Nat.zero_le _⟩ (fun v13 h r13 => ?_) (fun x13 h r13 => by obtain ⟨-, y9, e9, -⟩ := r13; cases e9)
    obtain ⟨rfl, y13, e13, hy13⟩ := r13
    cases e13
    replace hy13 : Ty K h 6 y13 := hy13
    obtain ⟨n16, b116, b216, b316, w16, lo16, im16, fi16, pa16, he16, hw16, hlo16, him16, hfi16, hpa16, hwq16⟩ := TP.o (κ := 6) hT hy13
    obtain ⟨nw16, hw16⟩ : ∃ n, Tw k K h w16 n := ⟨_, Tx.tx hw16⟩
    refine g_ccast cx (ci := 6) d_1_7_16 t_251 rfl hy13.1 he16 ?_
    refine g_getf cx (k := 4) d_1_7_19 in6 rfl (by decide) t_737 (Or.inl rfl) hy13.1 he16 rfl ?_
    obtain ⟨⟨ea22, mo22, hm22, hl22⟩, hb22⟩ := TP.n28 hT hfi16
    refine g_pcV cx (As := []) (n := 0) (pj_size (n := (K fi16).2.2)) d_1_7_22 t_235 t_236 t_237 t_8 t_238 ⟨by decide, by decide, by decide +kernel⟩ rfl (ci := 2) rfl hm22 hl22 ⟨ea22, mo22, hm22, hl22⟩ ⟨Nat.le_of_ble_eq_true rfl, Nat.le_of_ble_eq_true rfl⟩ (Nat.le_of_ble_eq_true rfl) (fun v22 r22 => ?_)
    subst r22
    refine g_goto cx d_1_7_25 rfl ?_
    exact g_iret cx d_1_7_29 rfl rfl ⟨rfl, _, rfl, _, rfl⟩
set_option maxHeartbeats 8000000 in
theorem pt_used {a : Nat} {v0 : Int32} (hB : B < 2 ^ 20) : PU l y_46 prog_1_method_8_code 2 (Option.some Jvm.ClassFile.FieldType.int) 6 D z0 k [.ref a, .int v0] K B T (fun h => Ty K h 1 a) (fun v _ => ∃ x : Int32, v = some (.int x)) := by
  refine pu_of (by decide) (Nat.le_of_ble_eq_true rfl) ?_
  intro h hT hp p e s m args below meth c cx
  have ha := hp
  refine g_iload_n cx 1 d_1_8_0 rfl rfl ?_
  refine g_if_lt cx d_1_8_1 rfl (fun c1 => ?_) (fun c1 => ?_)
  · skip
    refine g_iconst cx (v := (-1)) d_1_8_32 (by decide) ?_
    exact g_iret cx d_1_8_33 rfl rfl ⟨rfl, _, rfl, _, rfl⟩
  · skip
    obtain ⟨j, hj31, hv0⟩ := nI_of c1
    refine g_iload_n cx 1 d_1_8_4 rfl rfl ?_
    refine g_aload_n cx 0 d_1_8_5 rfl rfl ?_
    obtain ⟨la6, lr6, tr6, tn6, he6, hla6, hlr6, htr6, htn6, hlq6, hlaq6⟩ := TP.o (κ := 1) hT ha
    refine g_getf cx (k := 1) d_1_8_6 in0 rfl (by decide) t_97 (Or.inl rfl) ha.1 he6 rfl ?_
    obtain ⟨⟨ea9, mo9, hm9, hl9⟩, hb9⟩ := TP.n25 hT hla6
    refine g_pcV cx (As := []) (n := 0) (pj_size (n := (K la6).2.2)) d_1_8_9 t_235 t_236 t_237 t_8 t_238 ⟨by decide, by decide, by decide +kernel⟩ rfl (ci := 2) rfl hm9 hl9 ⟨ea9, mo9, hm9, hl9⟩ ⟨Nat.le_of_ble_eq_true rfl, Nat.le_of_ble_eq_true rfl⟩ (Nat.le_of_ble_eq_true rfl) (fun v9 r9 => ?_)
    subst r9
    refine g_icmp_ge cx d_1_8_12 rfl (fun c12 => ?_) (fun c12 => ?_)
    · skip
      refine g_iconst cx (v := (-1)) d_1_8_32 (by decide) ?_
      exact g_iret cx d_1_8_33 rfl rfl ⟨rfl, _, rfl, _, rfl⟩
    · skip
      have hj : j < (K la6).2.2 := Nat.lt_of_not_le (fun q => c12 (by rw [hv0]; exact nI_le q hj31))
      subst hv0
      refine g_aload_n cx 0 d_1_8_15 rfl rfl ?_
      refine g_getf cx (k := 1) d_1_8_16 in0 rfl (by decide) t_97 (Or.inl rfl) ha.1 he6 rfl ?_
      refine g_iload_n cx 1 d_1_8_19 rfl rfl ?_
      obtain ⟨⟨ea20, mo20, hm20, hl20⟩, hb20⟩ := TP.n25 hT hla6
      refine g_callV cx (As := [.int (nI j)]) (n := 1) (gj_get (K := K) (B := B) (T := T) (ce := 5) (j := j) (by decide) hB) d_1_8_20 t_239 t_240 t_241 t_8 t_242 ⟨by decide, by decide, by decide +kernel⟩ rfl (ci := 2) rfl hm20 hl20 ⟨rfl, hT, hla6, hj⟩ ⟨Nat.le_of_ble_eq_true rfl, Nat.le_of_ble_eq_true rfl⟩ (Nat.le_of_ble_eq_true rfl) ⟨Nat.zero_le _, Nat.zero_le _⟩ (fun v20 h r20 => ?_) (fun x20 h r20 => by obtain ⟨-, y9, e9, -⟩ := r20; cases e9)
      obtain ⟨rfl, y20, e20, hy20⟩ := r20
      cases e20
      replace hy20 : Ty K h 5 y20 := hy20
      obtain ⟨n23, t23, w23, l23, he23, hw23, hl23, hwq23⟩ := TP.o (κ := 5) hT hy20
      obtain ⟨nw23, hw23⟩ : ∃ n, Tw k K h w23 n := ⟨_, Tx.tx hw23⟩
      refine g_ccast cx (ci := 5) d_1_8_23 t_256 rfl hy20.1 he23 ?_
      refine g_getf cx (k := 3) d_1_8_26 in5 rfl (by decide) t_686 (Or.inl rfl) hy20.1 he23 rfl ?_
      refine g_goto cx d_1_8_29 rfl ?_
      exact g_iret cx d_1_8_33 rfl rfl ⟨rfl, _, rfl, _, rfl⟩
set_option maxHeartbeats 8000000 in
theorem pt_count {a : Nat} {v0 : Int32} (hB : B < 2 ^ 20) : PU l y_97 prog_1_method_11_code 2 (Option.some Jvm.ClassFile.FieldType.int) 7 D z0 k [.ref a, .int v0] K B T (fun h => Ty K h 1 a) (fun v _ => ∃ x : Int32, v = some (.int x)) := by
  refine pu_of (by decide) (Nat.le_of_ble_eq_true rfl) ?_
  intro h hT hp p e s m args below meth c cx
  have ha := hp
  refine g_iload_n cx 1 d_1_11_0 rfl rfl ?_
  by_cases s0 : v0 = 0
  · skip
    refine g_tableIn cx (off := 27) (tgt := 28) d_1_11_1 (by rw [s0]; decide +kernel) (by rw [s0]; decide +kernel) (by rw [s0]; decide +kernel) rfl ?_
    refine g_aload_n cx 0 d_1_11_28 rfl rfl ?_
    obtain ⟨la29, lr29, tr29, tn29, he29, hla29, hlr29, htr29, htn29, hlq29, hlaq29⟩ := TP.o (κ := 1) hT ha
    refine g_getf cx (k := 1) d_1_11_29 in0 rfl (by decide) t_97 (Or.inl rfl) ha.1 he29 rfl ?_
    obtain ⟨⟨ea32, mo32, hm32, hl32⟩, hb32⟩ := TP.n25 hT hla29
    refine g_pcV cx (As := []) (n := 0) (pj_size (n := (K la29).2.2)) d_1_11_32 t_235 t_236 t_237 t_8 t_238 ⟨by decide, by decide, by decide +kernel⟩ rfl (ci := 2) rfl hm32 hl32 ⟨ea32, mo32, hm32, hl32⟩ ⟨Nat.le_of_ble_eq_true rfl, Nat.le_of_ble_eq_true rfl⟩ (Nat.le_of_ble_eq_true rfl) (fun v32 r32 => ?_)
    subst r32
    exact g_iret cx d_1_11_35 rfl rfl ⟨rfl, _, rfl, _, rfl⟩
  by_cases s1 : v0 = 1
  · skip
    refine g_tableIn cx (off := 35) (tgt := 36) d_1_11_1 (by rw [s1]; decide +kernel) (by rw [s1]; decide +kernel) (by rw [s1]; decide +kernel) rfl ?_
    refine g_aload_n cx 0 d_1_11_36 rfl rfl ?_
    obtain ⟨la37, lr37, tr37, tn37, he37, hla37, hlr37, htr37, htn37, hlq37, hlaq37⟩ := TP.o (κ := 1) hT ha
    refine g_getf cx (k := 2) d_1_11_37 in0 rfl (by decide) t_98 (Or.inl rfl) ha.1 he37 rfl ?_
    obtain ⟨⟨ea40, mo40, hm40, hl40⟩, hb40⟩ := TP.n26 hT hlr37
    refine g_pcV cx (As := []) (n := 0) (pj_size (n := (K lr37).2.2)) d_1_11_40 t_235 t_236 t_237 t_8 t_238 ⟨by decide, by decide, by decide +kernel⟩ rfl (ci := 2) rfl hm40 hl40 ⟨ea40, mo40, hm40, hl40⟩ ⟨Nat.le_of_ble_eq_true rfl, Nat.le_of_ble_eq_true rfl⟩ (Nat.le_of_ble_eq_true rfl) (fun v40 r40 => ?_)
    subst r40
    exact g_iret cx d_1_11_43 rfl rfl ⟨rfl, _, rfl, _, rfl⟩
  by_cases s2 : v0 = 2
  · skip
    refine g_tableIn cx (off := 43) (tgt := 44) d_1_11_1 (by rw [s2]; decide +kernel) (by rw [s2]; decide +kernel) (by rw [s2]; decide +kernel) rfl ?_
    refine g_aload_n cx 0 d_1_11_44 rfl rfl ?_
    obtain ⟨la45, lr45, tr45, tn45, he45, hla45, hlr45, htr45, htn45, hlq45, hlaq45⟩ := TP.o (κ := 1) hT ha
    refine g_callV cx (As := []) (n := 0) (pt_realmsThere (K := K) (B := B) (T := T) hB) d_1_11_45 t_503 t_505 ts_4 t_1 t_506 ⟨by decide, by decide, by decide +kernel⟩ rfl (ci := 0) rfl ha.1 he45 ⟨rfl, hT, ha⟩ ⟨Nat.le_of_ble_eq_true rfl, Nat.le_of_ble_eq_true rfl⟩ (Nat.le_of_ble_eq_true rfl) ⟨Nat.zero_le _, Nat.zero_le _⟩ (fun v45 h r45 => ?_) (fun x45 h r45 => by obtain ⟨-, v9, e9, -⟩ := r45; cases e9)
    obtain ⟨rfl, wo45, e45, r45⟩ := r45
    cases e45
    obtain ⟨x45, rfl⟩ := r45
    exact g_iret cx d_1_11_48 rfl rfl ⟨rfl, _, rfl, _, rfl⟩
  refine g_tableOut cx (tgt := 49) d_1_11_1 (sw3 s0 s1 s2) rfl ?_
  refine g_iconst cx (v := (-1)) d_1_11_49 (by decide) ?_
  exact g_iret cx d_1_11_50 rfl rfl ⟨rfl, _, rfl, _, rfl⟩
set_option maxHeartbeats 8000000 in
theorem tc_realmQ {S : Nat → Prop} {a ab v c0 cap cd : Nat} (hB : B < 2 ^ 20) : TC l y_48 prog_1_method_10_code 2 (Option.some Jvm.ClassFile.FieldType.int) (rmT 12 3 254) D z0 k [.ref a] K (B) (T) (fun h => Ty K h 1 a ∧ (K a).2.1 = ab ∧ BK D K h S ab v c0 cap cd) (B) (T) (XP (fun z => z = ab) PN K) (fun o K' h' => RetI o K' h' ∧ ∃ v' cap', BK D K' h' S ab v' 0 cap' 0) := by
  refine tc_of (by decide) (Nat.le_of_ble_eq_true rfl) ?_
  intro h hT hp p e s m args below meth c cx hnm
  have hE : Ev k (XP (fun z => z = ab) PN K) K h K h := Ev.rf
  obtain ⟨ha, hab0, hbk⟩ := hp
  refine g_aload_n cx 0 d_1_10_0 rfl rfl ?_
  refine g_aload_n cx 0 d_1_10_1 rfl rfl ?_
  obtain ⟨la9, lr9, tr9, tn9, hed, -⟩ := TP.desk hT ha hab0
  refine g_callV cx (As := []) (n := 0) (tc_takeWritten (S := S) (ab := ab) (c0 := c0) (v := v) (cap := cap)) d_1_10_2 t_265 t_267 ts_1 t_1 t_268 ⟨by decide, by decide, by decide +kernel⟩ rfl (ci := 0) rfl ha.1 hed ⟨rfl, hT, ha, hab0, hbk⟩ ⟨Nat.le_of_ble_eq_true rfl, Nat.le_of_ble_eq_true rfl⟩ (Nat.le_of_ble_eq_true rfl) ⟨Nat.le_of_ble_eq_true rfl, Nat.le_of_ble_eq_true rfl⟩ (fun v2 h r2 => ?_) (fun x2 h r2 => by obtain ⟨K9, -, -, r9, v9, c9, e9, -⟩ := r2; cases e9)
  obtain ⟨K, hT, ev, rel2⟩ := r2
  obtain ⟨z2, v2, cap2, e2, hx2, hbk⟩ := rel2
  cases e2
  have hxt2 := hx2.1
  replace hab0 := Ev.ab ev ha hab0
  replace ha := Ev.ty ev ha
  replace hE := xab (P := PN) ev
  obtain ⟨la5, lr5, tr5, tn5, he5, hla5, hlr5, htr5, htn5, hlq5, hlaq5⟩ := TP.desk hT ha hab0
  refine g_callV cx (As := [.ref z2]) (n := 1) (pt_realmWith (K := K) (B := B) (T := T) (n := c0) hB) d_1_10_5 t_487 t_489 ts_3 t_1 t_490 ⟨by decide, by decide, by decide +kernel⟩ rfl (ci := 0) rfl ha.1 he5 ⟨rfl, hT, ha, hxt2⟩ ⟨Nat.le_of_ble_eq_true rfl, Nat.le_of_ble_eq_true rfl⟩ (Nat.le_of_ble_eq_true rfl) ⟨Nat.zero_le _, Nat.zero_le _⟩ (fun v5 h r5 => ?_) (fun x5 h r5 => by obtain ⟨-, v9, e9, -⟩ := r5; cases e9)
  obtain ⟨rfl, wo5, e5, r5⟩ := r5
  cases e5
  rcases r5 with rfl | ⟨y5, rfl, hy5⟩
  · skip
    refine g_astore_nN cx (lv' := [(1, .null), (0, .ref a)]) d_1_10_8 rfl (by decide) rfl ?_
    refine g_aload_nN cx 0 d_1_10_9 rfl rfl ?_
    refine g_ifnonnullN cx d_1_10_10 ?_
    refine g_iconst cx (v := (-1)) d_1_10_13 (by decide) ?_
    refine g_goto cx d_1_10_14 rfl ?_
    exact g_iret cx d_1_10_21 rfl rfl ⟨K, hT, hE, ⟨_, rfl⟩, v2, cap2, hbk⟩
  · skip
    refine g_astore_n cx (lv' := [(1, .ref y5), (0, .ref a)]) d_1_10_8 rfl (by decide) rfl ?_
    refine g_aload_n cx 0 d_1_10_9 rfl rfl ?_
    refine g_ifnonnull cx d_1_10_10 rfl ?_
    refine g_aload_n cx 0 d_1_10_17 rfl rfl ?_
    obtain ⟨n18, b118, b218, b318, w18, lo18, im18, fi18, pa18, he18, hw18, hlo18, him18, hfi18, hpa18, hwq18⟩ := TP.o (κ := 6) hT hy5
    obtain ⟨nw18, hw18⟩ : ∃ n, Tw k K h w18 n := ⟨_, Tx.tx hw18⟩
    refine g_getf cx (k := 0) d_1_10_18 in6 rfl (by decide) t_729 (Or.inl rfl) hy5.1 he18 rfl ?_
    exact g_iret cx d_1_10_21 rfl rfl ⟨K, hT, hE, ⟨_, rfl⟩, v2, cap2, hbk⟩
set_option maxHeartbeats 8000000 in
theorem tc_write {S : Nat → Prop} {a ab v c0 cap cd : Nat} {x : Int32} : TC l y_9 prog_1_method_2_code 2 (Option.some Jvm.ClassFile.FieldType.boolean) (rmT 10 1 210) D z0 k [.ref a, .int x] K (B) (T) (fun h => Ty K h 1 a ∧ (K a).2.1 = ab ∧ BK D K h S ab v c0 cap cd) (B) (T) (fun z => z = ab ∨ z = v) (fun o K' h' => ∃ (r : Int32) (c1 v' cap' cd1 : Nat), o = .returned (some (.int r)) ∧ BK D K' h' S ab v' c1 cap' cd1 ∧ ((r = 0 ∧ c1 = c0 ∧ cd1 = cd ∧ (x < 32 ∨ 126 < x ∨ 30 ≤ c0)) ∨ (r = 1 ∧ c1 = c0 + 1 ∧ (∃ xc : Nat, x = nI xc ∧ 32 ≤ xc ∧ xc ≤ 126 ∧ cd1 = cd + 128 ^ c0 * xc) ∧ ¬ x < 32 ∧ ¬ 126 < x ∧ c0 < 30))) := by
  refine tc_of (by decide) (Nat.le_of_ble_eq_true rfl) ?_
  intro h hT hp p e s m args below meth c cx hnm
  have hE : Ev k (fun z => z = ab ∨ z = v) K h K h := Ev.rf
  obtain ⟨ha, hab0, hbk⟩ := hp
  refine g_iload_n cx 1 d_1_2_0 rfl rfl ?_
  refine g_bipush cx (v := 32) d_1_2_1 (by decide) ?_
  refine g_icmp_lt cx d_1_2_3 rfl (fun c3 => ?_) (fun c3 => ?_)
  · skip
    refine g_iconst cx (v := 0) d_1_2_24 (by decide) ?_
    exact g_iret cx d_1_2_25 rfl rfl ⟨K, hT, hE, 0, c0, v, cap, cd, rfl, hbk, Or.inl ⟨rfl, rfl, rfl, by first | exact Or.inl c3 | exact Or.inr (Or.inl c9) | exact Or.inr (Or.inr hge)⟩⟩
  · skip
    refine g_iload_n cx 1 d_1_2_6 rfl rfl ?_
    refine g_bipush cx (v := 126) d_1_2_7 (by decide) ?_
    refine g_icmp_gt cx d_1_2_9 rfl (fun c9 => ?_) (fun c9 => ?_)
    · skip
      refine g_iconst cx (v := 0) d_1_2_24 (by decide) ?_
      exact g_iret cx d_1_2_25 rfl rfl ⟨K, hT, hE, 0, c0, v, cap, cd, rfl, hbk, Or.inl ⟨rfl, rfl, rfl, by first | exact Or.inl c3 | exact Or.inr (Or.inl c9) | exact Or.inr (Or.inr hge)⟩⟩
    · skip
      refine g_aload_n cx 0 d_1_2_12 rfl rfl ?_
      obtain ⟨la13, lr13, tr13, tn13, he13, hla13, hlr13, htr13, htn13, hlq13, hlaq13⟩ := TP.desk hT ha hab0
      refine g_getf cx (k := 0) d_1_2_13 in0 rfl (by decide) t_96 (Or.inl rfl) ha.1 he13 rfl ?_
      obtain ⟨mb, f, hab, heb, -⟩ := id hbk.1
      refine g_callV cx (As := []) (n := 0) (pj_sbLen (c0 := c0) (v := v) (cap := cap)) d_1_2_16 t_117 t_118 t_119 t_3 t_120 ⟨by decide, by decide, by decide +kernel⟩ rfl (ci := 1) rfl hab heb ⟨rfl, hbk.1⟩ ⟨Nat.le_of_ble_eq_true rfl, Nat.le_of_ble_eq_true rfl⟩ (Nat.le_of_ble_eq_true rfl) ⟨Nat.zero_le _, Nat.zero_le _⟩ (fun v16 h r16 => ?_) (fun x16 h r16 => by obtain ⟨-, v9, e9, -⟩ := r16; cases e9)
      obtain ⟨rfl, w16, e16, r16⟩ := r16
      cases e16
      subst r16
      refine g_bipush cx (v := 30) d_1_2_19 (by decide) ?_
      refine g_icmp_lt cx d_1_2_21 rfl (fun c21 => ?_) (fun c21 => ?_)
      · skip
        have hlt : c0 < 30 := (nI_ltI (b := 30) (by have := hbk.1; obtain ⟨_, _, _, _, _, _, _, _, q, _⟩ := this; omega) (by decide)).mp c21
        obtain ⟨xc, hxr, hxa, hxb⟩ := chr_of c3 c9
        subst hxr
        refine g_aload_n cx 0 d_1_2_26 rfl rfl ?_
        refine g_getf cx (k := 0) d_1_2_27 in0 rfl (by decide) t_96 (Or.inl rfl) ha.1 he13 rfl ?_
        refine g_iload_n cx 1 d_1_2_30 rfl rfl ?_
        refine g_callV cx (As := [.int (nI xc)]) (n := 1) (tj_sbAppend (S := S) (c0 := c0) (v := v) (cap := cap) (by omega) hlt) d_1_2_31 t_124 t_125 t_126 t_3 t_127 ⟨by decide, by decide, by decide +kernel⟩ rfl (ci := 1) rfl hab heb ⟨rfl, hT, hbk⟩ ⟨Nat.le_of_ble_eq_true rfl, Nat.le_of_ble_eq_true rfl⟩ (Nat.le_of_ble_eq_true rfl) ⟨Nat.le_of_ble_eq_true rfl, Nat.le_of_ble_eq_true rfl⟩ (fun v31 h r31 => ?_) (fun x31 h r31 => by obtain ⟨K9, -, -, r9, v9, c9, e9, -⟩ := r31; cases e9)
        obtain ⟨K, hT, ev, z31, v2, cap2, e31, hbk⟩ := r31
        cases e31
        replace hE := Ev.trS hE ev
        refine g_pop cx d_1_2_34 rfl ?_
        refine g_iconst cx (v := 1) d_1_2_35 (by decide) ?_
        exact g_iret cx d_1_2_36 rfl rfl ⟨K, hT, hE, 1, c0 + 1, v2, cap2, _, rfl, hbk, Or.inr ⟨rfl, rfl, ⟨xc, rfl, hxa, hxb, rfl⟩, c3, c9, hlt⟩⟩
      · skip
        have hge : 30 ≤ c0 := Nat.le_of_not_lt (fun q => c21 (nI_lt (b := 30) q (by decide)))
        refine g_iconst cx (v := 0) d_1_2_24 (by decide) ?_
        exact g_iret cx d_1_2_25 rfl rfl ⟨K, hT, hE, 0, c0, v, cap, cd, rfl, hbk, Or.inl ⟨rfl, rfl, rfl, by first | exact Or.inl c3 | exact Or.inr (Or.inl c9) | exact Or.inr (Or.inr hge)⟩⟩
set_option maxHeartbeats 8000000 in
theorem tc_desk {q : Nat} : TC l y_0 prog_1_method_1_code 1 (Option.none) (rmT 5 5 46) D z0 k [.ref q] K (B) (T) (fun h => K q = (0, 0, 0) ∧ q ∈ h.1 ∧ h.2 q = .inr (0, [.null, .null, .null, .null, .int 0])) (B) (T) (fun z => z = q) (fun o K' h' => o = .returned none ∧ Ty K' h' 1 q ∧ ∃ ab v : Nat, (K' q).2.1 = ab ∧ BK D K' h' (fun _ => False) ab v 0 16 0 ∧ (K' (K' q).2.2).2.2 = 0 ∧ (K' (K' (K' q).2.2).2.1).2.2 = 0) := by
  refine tc_of (by decide) (Nat.le_of_ble_eq_true rfl) ?_
  intro h hT hp p e s m args below meth c cx hnm
  have hE : Ev k (fun z => z = q) K h K h := Ev.rf
  obtain ⟨hr, hm, he⟩ := hp
  refine g_aload_n cx 0 d_1_1_0 rfl rfl ?_
  refine g_objInit cx d_1_1_1 t_34 t_35 t_36 ⟨Nat.le_of_ble_eq_true rfl, Nat.le_of_ble_eq_true rfl⟩ (Nat.le_of_ble_eq_true rfl) ?_
  refine g_aload_n cx 0 d_1_1_4 rfl rfl ?_
  refine g_new cx (ci := 1) (fs := [.null, .int 0, .int 0, .int 0]) d_1_1_5 in1 ty1_ok t_37 t_38 t_3 rfl (by decide) ⟨Nat.le_of_ble_eq_true rfl, Nat.le_of_ble_eq_true rfl⟩ (fun q5 hq5 hz5 => ?_)
  have hN5 := Ev.nin hE hq5
  have ne_5_q : ¬ q = q5 := fun z => hq5 (z ▸ hm)
  refine t_raw hT hq5 hz5 (fun K h hT ev hr5 hm5 he5 hol5 => ?_)
  first | replace hbk := BK.mv hbk ev (fun _ _ => id) | skip
  first | replace htg31 := Ev.ab ev hn31 htg31 | skip
  obtain ⟨hr, hm, he⟩ := Ev.rawm ev hr hm he
  replace hE := hE.tr ev
  refine g_dup cx d_1_1_8 rfl ?_
  refine g_callI cx (ret' := none) (As := []) (n := 0) (tj_sbInit) d_1_1_9 t_39 t_40 t_3 t_41 rfl ⟨by decide, by decide, by decide +kernel⟩ rfl ⟨rfl, hT, ⟨hr5, hm5, he5⟩⟩ ⟨Nat.le_of_ble_eq_true rfl, Nat.le_of_ble_eq_true rfl⟩ (Nat.le_of_ble_eq_true rfl) ⟨Nat.le_of_ble_eq_true rfl, Nat.le_of_ble_eq_true rfl⟩ (fun v9 h r9 => ?_) (fun x9 h r9 => by obtain ⟨K9, -, -, e9, -⟩ := r9; cases e9)
  obtain ⟨K, hT, ev, rel9⟩ := r9
  obtain ⟨e9, hk5, vb, hvb, hbd⟩ := rel9
  cases e9
  obtain ⟨hr, hm, he⟩ := Ev.rawm ev hr hm he ne_5_q
  replace hE := hE.trN hN5 ev
  obtain ⟨hT, ev⟩ := t_kind (q := (99, 0, 0)) hT (by obtain ⟨_, _, z, _⟩ := id hbd; exact z) (congrArg Prod.fst hk5) rfl ⟨fun x => absurd x.2 (by decide), fun x => absurd x.2 (by decide), trivial⟩
  have hvq : vb ≠ q5 := Bd.ne hbd
  have hbk : BK D (va_up K q5 (99, 0, 0)) h (fun _ => False) q5 vb 0 16 0 := ⟨hbd, by rw [va_up_self], by rw [va_up_ne _ _ hvq]; exact hvb, fun z hz => hz.elim, id, id⟩
  obtain ⟨hr, hm, he⟩ := Ev.rawm ev hr hm he ne_5_q
  replace hE := hE.trN hN5 ev
  generalize va_up K q5 (99, 0, 0) = K at *
  refine g_putF cx hnm d_1_1_12 in0 ty0_ok nm0 rfl (k := 0) (by decide) t_96 rfl rfl (ty0_ok 0 (by decide)) rfl rfl hm he (Nat.le_of_ble_eq_true rfl) ?_
  refine t_putR hT hm (Or.inl (congrArg Prod.fst hr)) (fun h hT ev hm he hot12 hL12 => ?_)
  first | replace hbk := BK.mv hbk ev (fun z hz y => by have y2 : z = q := y; rw [y2, hr] at hz; exact absurd hz (by decide)) | skip
  first | replace htg31 := Ev.ab ev hn31 htg31 | skip
  replace hE := Ev.trS hE ev
  refine g_aload_n cx 0 d_1_1_15 rfl rfl ?_
  refine g_new cx (ci := 2) (fs := [.null, .int 0, .int 0]) d_1_1_16 in2 ty2_ok t_70 t_71 t_8 rfl (by decide) ⟨Nat.le_of_ble_eq_true rfl, Nat.le_of_ble_eq_true rfl⟩ (fun q16 hq16 hz16 => ?_)
  have hN16 := Ev.nin hE hq16
  have ne_16_q : ¬ q = q16 := fun z => hq16 (z ▸ hm)
  refine t_raw hT hq16 hz16 (fun K h hT ev hr16 hm16 he16 hol16 => ?_)
  first | replace hbk := BK.mv hbk ev (fun _ _ => id) | skip
  first | replace htg31 := Ev.ab ev hn31 htg31 | skip
  obtain ⟨hr, hm, he⟩ := Ev.rawm ev hr hm he
  replace hE := hE.tr ev
  refine g_dup cx d_1_1_19 rfl ?_
  refine g_callI cx (ret' := none) (As := []) (n := 0) (tj_listInit (κ := 25) (tg := 0) (by decide)) d_1_1_20 t_72 t_73 t_8 t_74 rfl ⟨by decide, by decide, by decide +kernel⟩ rfl ⟨rfl, hT, ⟨hr16, hm16, he16⟩⟩ ⟨Nat.le_of_ble_eq_true rfl, Nat.le_of_ble_eq_true rfl⟩ (Nat.le_of_ble_eq_true rfl) ⟨Nat.le_of_ble_eq_true rfl, Nat.le_of_ble_eq_true rfl⟩ (fun v20 h r20 => ?_) (fun x20 h r20 => by obtain ⟨K9, -, -, e9⟩ := r20; cases e9.1)
  obtain ⟨K, hT, ev, rel20⟩ := r20
  obtain ⟨e20, hn20, hz020, htg20⟩ := rel20
  cases e20
  first | replace hbk := BK.mv hbk ev (fun z hz y => by have y2 : z = q16 := y; rw [y2, hr16] at hz; exact absurd hz (by decide)) | skip
  obtain ⟨hr, hm, he⟩ := Ev.rawm ev hr hm he ne_16_q
  replace hE := hE.trN hN16 ev
  refine g_putF cx hnm d_1_1_23 in0 ty0_ok nm0 rfl (k := 1) (by decide) t_97 rfl rfl (ty0_ok 1 (by decide)) rfl rfl hm he (Nat.le_of_ble_eq_true rfl) ?_
  refine t_putR hT hm (Or.inl (congrArg Prod.fst hr)) (fun h hT ev hm he hot23 hL23 => ?_)
  first | replace hbk := BK.mv hbk ev (fun z hz y => by have y2 : z = q := y; rw [y2, hr] at hz; exact absurd hz (by decide)) | skip
  first | replace htg31 := Ev.ab ev hn31 htg31 | skip
  replace hz020 := (congrArg (fun z => z.2.2) ((ev.1 q16 hn20.1).2.2 (fun z => ne_16_q z.symm)).1).trans hz020
  have hn20 := Ev.ty ev hn20
  replace hE := Ev.trS hE ev
  refine g_aload_n cx 0 d_1_1_26 rfl rfl ?_
  refine g_new cx (ci := 2) (fs := [.null, .int 0, .int 0]) d_1_1_27 in2 ty2_ok t_70 t_71 t_8 rfl (by decide) ⟨Nat.le_of_ble_eq_true rfl, Nat.le_of_ble_eq_true rfl⟩ (fun q27 hq27 hz27 => ?_)
  have hN27 := Ev.nin hE hq27
  have ne_27_q : ¬ q = q27 := fun z => hq27 (z ▸ hm)
  have ne_27_q16 : ¬ q16 = q27 := fun z => hq27 (z ▸ hn20.1)
  refine t_raw hT hq27 hz27 (fun K h hT ev hr27 hm27 he27 hol27 => ?_)
  first | replace hbk := BK.mv hbk ev (fun _ _ => id) | skip
  first | replace htg31 := Ev.ab ev hn31 htg31 | skip
  replace hz020 := (congrArg (fun z => z.2.2) ((ev.1 q16 hn20.1).2.2 id).1).trans hz020
  have hn20 := Ev.ty ev hn20
  obtain ⟨hr, hm, he⟩ := Ev.rawm ev hr hm he
  replace hE := hE.tr ev
  refine g_dup cx d_1_1_30 rfl ?_
  refine g_callI cx (ret' := none) (As := []) (n := 0) (tj_listInit (κ := 26) (tg := q16) (by decide)) d_1_1_31 t_72 t_73 t_8 t_74 rfl ⟨by decide, by decide, by decide +kernel⟩ rfl ⟨rfl, hT, ⟨hr27, hm27, he27⟩⟩ ⟨Nat.le_of_ble_eq_true rfl, Nat.le_of_ble_eq_true rfl⟩ (Nat.le_of_ble_eq_true rfl) ⟨Nat.le_of_ble_eq_true rfl, Nat.le_of_ble_eq_true rfl⟩ (fun v31 h r31 => ?_) (fun x31 h r31 => by obtain ⟨K9, -, -, e9⟩ := r31; cases e9.1)
  obtain ⟨K, hT, ev, rel31⟩ := r31
  obtain ⟨e31, hn31, hz031, htg31⟩ := rel31
  cases e31
  first | replace hbk := BK.mv hbk ev (fun z hz y => by have y2 : z = q27 := y; rw [y2, hr27] at hz; exact absurd hz (by decide)) | skip
  replace hz020 := (congrArg (fun z => z.2.2) ((ev.1 q16 hn20.1).2.2 ne_27_q16).1).trans hz020
  have hn20 := Ev.ty ev hn20
  obtain ⟨hr, hm, he⟩ := Ev.rawm ev hr hm he ne_27_q
  replace hE := hE.trN hN27 ev
  refine g_putF cx hnm d_1_1_34 in0 ty0_ok nm0 rfl (k := 2) (by decide) t_98 rfl rfl (ty0_ok 2 (by decide)) rfl rfl hm he (Nat.le_of_ble_eq_true rfl) ?_
  refine t_putR hT hm (Or.inl (congrArg Prod.fst hr)) (fun h hT ev hm he hot34 hL34 => ?_)
  first | replace hbk := BK.mv hbk ev (fun z hz y => by have y2 : z = q := y; rw [y2, hr] at hz; exact absurd hz (by decide)) | skip
  first | replace htg31 := Ev.ab ev hn31 htg31 | skip
  replace hz031 := (congrArg (fun z => z.2.2) ((ev.1 q27 hn31.1).2.2 (fun z => ne_27_q z.symm)).1).trans hz031
  replace hz020 := (congrArg (fun z => z.2.2) ((ev.1 q16 hn20.1).2.2 (fun z => ne_16_q z.symm)).1).trans hz020
  have hn31 := Ev.ty ev hn31
  have hn20 := Ev.ty ev hn20
  replace hE := Ev.trS hE ev
  refine g_aload_n cx 0 d_1_1_37 rfl rfl ?_
  refine g_bipush cx (v := 20) d_1_1_38 (by decide) ?_
  refine g_newarr cx (k := 0) (n := 20) (a0 := (20, .inl (fun _ => 0))) d_1_1_40 rfl t_112 rfl rfl rfl (by decide) (by decide) (fun cA => rfl) ⟨Nat.le_of_ble_eq_true rfl, Nat.le_of_ble_eq_true rfl⟩ (fun q40 hq40 hz40 => ?_)
  refine t_push (q := (50, 20, 0)) hT hq40 hz40 (okc.ob (by show ¬ (23 ≤ 50 ∧ 50 ≤ 29); decide) (by show ¬ (33 ≤ 50 ∧ 50 ≤ 39); decide) ⟨_, rfl⟩) (fun K h hT ev hk40 hm40 he40 hol40 => ?_)
  first | replace hbk := BK.mv hbk ev (fun _ _ => id) | skip
  first | replace htg31 := Ev.ab ev hn31 htg31 | skip
  replace hz020 := (congrArg (fun z => z.2.2) ((ev.1 q16 hn20.1).2.2 id).1).trans hz020
  replace hz031 := (congrArg (fun z => z.2.2) ((ev.1 q27 hn31.1).2.2 id).1).trans hz031
  have hn20 := Ev.ty ev hn20
  have hn31 := Ev.ty ev hn31
  obtain ⟨hr, hm, he⟩ := Ev.rawm ev hr hm he
  replace hE := hE.tr ev
  have hn40 : Ty K h 50 q40 := ⟨hm40, congrArg Prod.fst hk40⟩
  refine g_putF cx hnm d_1_1_42 in0 ty0_ok nm0 rfl (k := 3) (by decide) t_99 rfl rfl (ty0_ok 3 (by decide)) rfl rfl hm he (Nat.le_of_ble_eq_true rfl) ?_
  refine t_putR hT hm (Or.inl (congrArg Prod.fst hr)) (fun h hT ev hm he hot42 hL42 => ?_)
  first | replace hbk := BK.mv hbk ev (fun z hz y => by have y2 : z = q := y; rw [y2, hr] at hz; exact absurd hz (by decide)) | skip
  first | replace htg31 := Ev.ab ev hn31 htg31 | skip
  replace hz020 := (congrArg (fun z => z.2.2) ((ev.1 q16 hn20.1).2.2 (fun z => ne_16_q z.symm)).1).trans hz020
  replace hz031 := (congrArg (fun z => z.2.2) ((ev.1 q27 hn31.1).2.2 (fun z => ne_27_q z.symm)).1).trans hz031
  have hn40 := Ev.ty ev hn40
  have hn20 := Ev.ty ev hn20
  have hn31 := Ev.ty ev hn31
  replace hE := Ev.trS hE ev
  refine g_aload_n cx 0 d_1_1_45 rfl rfl ?_
  refine g_iconst cx (v := 0) d_1_1_46 (by decide) ?_
  refine g_putf cx d_1_1_47 in0 ty0_ok nm0 rfl (k := 4) (by decide) t_100 (Or.inl rfl) rfl (ty0_ok 4 (by decide)) rfl rfl hm he (Nat.le_of_ble_eq_true rfl) ?_
  refine t_putR hT hm (Or.inl (congrArg Prod.fst hr)) (fun h hT ev hm he hot47 hL47 => ?_)
  first | replace hbk := BK.mv hbk ev (fun z hz y => by have y2 : z = q := y; rw [y2, hr] at hz; exact absurd hz (by decide)) | skip
  first | replace htg31 := Ev.ab ev hn31 htg31 | skip
  replace hz020 := (congrArg (fun z => z.2.2) ((ev.1 q16 hn20.1).2.2 (fun z => ne_16_q z.symm)).1).trans hz020
  replace hz031 := (congrArg (fun z => z.2.2) ((ev.1 q27 hn31.1).2.2 (fun z => ne_27_q z.symm)).1).trans hz031
  have hn20 := Ev.ty ev hn20
  have hn31 := Ev.ty ev hn31
  have hn40 := Ev.ty ev hn40
  replace hE := Ev.trS hE ev
  obtain ⟨t9, v9⟩ := t_kind (q := (1, q5, q27)) hT hm (congrArg Prod.fst hr) he (okc.ob (by show ¬ (23 ≤ 1 ∧ 1 ≤ 29); decide) (by show ¬ (33 ≤ 1 ∧ 1 ≤ 39); decide) ⟨q16, q27, q40, 0, rfl, ty_up hn20 (congrArg Prod.fst hr), ty_up hn31 (congrArg Prod.fst hr), ty_up hn40 (congrArg Prod.fst hr), Nat.zero_le _, rfl, by rw [va_up_ne _ _ (fun z => ne_27_q z.symm)]; exact htg31.symm⟩)
  exact g_vret cx d_1_1_50 rfl ⟨_, t9, Ev.trS hE v9, rfl, ⟨hm, by rw [va_up_self]⟩, q5, vb, by rw [va_up_self], BK.mv hbk v9 (fun z hz y => by have y2 : z = q := y; rw [y2, hr] at hz; exact absurd hz (by decide)), by rw [va_up_self]; show (va_up K q (1, q5, q27) q27).2.2 = 0; rw [va_up_ne _ _ (fun z => ne_27_q z.symm)]; exact hz031, by rw [va_up_self]; show (va_up K q (1, q5, q27) (va_up K q (1, q5, q27) q27).2.1).2.2 = 0; rw [va_up_ne _ _ (show q27 ≠ q from fun z => ne_27_q z.symm), htg31, va_up_ne _ _ (show q16 ≠ q from fun z => ne_16_q z.symm)]; exact hz020⟩
end C4
