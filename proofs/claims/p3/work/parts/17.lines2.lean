/-! newName, loads, newImport of the reference. -/
theorem INm.add {x : MS} {nm : Nat → Nat} {b0 : Nat} {V : Int64} {v : Int32} (h : INm x nm) (hn : nm b0 < 6) (hv : v = nI (nm b0 + 1)) : INm (seta (setl x 10 (6 * b0 + nm b0) V) 8 b0 v) (fun i => if i = b0 then nm b0 + 1 else nm i) := by
  intro i hi
  show upd (x.2.1 8) b0 v i = nI (if i = b0 then nm b0 + 1 else nm i) ∧ (if i = b0 then nm b0 + 1 else nm i) ≤ 6
  by_cases hib : i = b0
  · rw [if_pos hib, hib]; exact ⟨pk_us.trans hv, by omega⟩
  · rw [if_neg hib, pk_un hib]; exact h i hi
theorem IKp.add {x : MS} {nm kp : Nat → Nat} {b0 : Nat} {V : Int64} {v : Int32} (h : IKp x nm kp) (hN : INm x nm) (hb : b0 < 6) (hn : nm b0 < 6) : IKp (seta (setl x 10 (6 * b0 + nm b0) V) 8 b0 v) (fun i => if i = b0 then nm b0 + 1 else nm i) kp := by
  intro i hi
  obtain ⟨h1, h2, h3⟩ := h i hi
  refine ⟨h1, fun j hj => ⟨(h2 j hj).1, ?_⟩, h3⟩
  obtain ⟨b, t, hb', ht, e⟩ := (h2 j hj).2
  have htl := (hN b hb').2
  refine ⟨b, t, hb', ?_, ?_⟩
  · show t < (if b = b0 then nm b0 + 1 else nm b)
    by_cases q : b = b0
    · rw [if_pos q]; rw [q] at ht; omega
    · rw [if_neg q]; exact ht
  · show x.2.2 21 (36 * i + j) = vp_updL (x.2.2 10) (6 * b0 + nm b0) V (6 * b + t)
    rw [pk_uLn (fun q => ?_)]
    · exact e
    · have : b = b0 := by omega
      subst this
      omega
section M6
variable {l : Launch} {D : va_G} {z0 : Nat} {E : State → Prop} {am : Nat} {ad : Nat → Nat}
set_option maxHeartbeats 4000000 in
theorem mc_newName (hSt : Stb z0 E) (hA : Ad am ad) (x : MS) (pn : Nat) (bg en : Nat → Nat) (a r : Nat) (nm ld im kp : Nat → Nat) (mn : Nat) (hpt : PT x pn bg en) (hM : MI x a r nm ld im kp mn) : MC l y_167 prog_8_method_16_code 4 (Option.some Jvm.ClassFile.FieldType.int) 1 D z0 E am ad [] x (fun r x' => (∃ v, r = some (.int v)) ∧ MIx x' ∧ x'.1 2 = x.1 2) := by
  refine mc_of hSt rfl (Nat.le_of_ble_eq_true rfl) ?_
  intro h0 h p e s m args below meth c cx hm hs
  obtain ⟨hIA, hIR, hNm, hLd, hLo, hIm, hFr, hPa, hKp, hMn⟩ := id hM
  have hMx : MIx x := MIx.of hM
  have hal := hIA.2
  have hrl := hIR.2
  have c18z : ∀ (V : Int64) (ha0 : a = 0) (h : hp) (hm : Mo D am ad x h) (hs : Sm am ad h0 h), G p l e (rmL 1) s m args below meth c 4 D z0 E (MQp D am ad h0 (fun r x' => (∃ v, r = some (.int v)) ∧ MIx x' ∧ x'.1 2 = x.1 2)) 0 0 18 [(1, .long V), (0, .ref am)] [] h 0 0 := by
    intro V ha0 h hm hs
    refine g_aload_n cx 1 d_8_16_18 rfl rfl ?_
    refine m_get cx (k := 6) d_8_16_19 t_904 ⟨by decide, rfl⟩ hm rfl ?_
    refine g_iconst cx (v := 1) d_8_16_22 (by decide) ?_
    refine g_isub cx d_8_16_23 ?_
    refine g_topi (fun a1 ea1 => ?_)
    obtain rfl : a1 = -1 := ea1.trans (by show x.1 6 - 1 = -1; rw [hIA.1, ha0]; rfl)
    refine g_istore_n cx (lv' := [(3, .int (-1)), (1, .long V), (0, .ref am)]) d_8_16_24 rfl (by decide) rfl ?_
    refine g_lload_n cx 1 d_8_16_25 rfl rfl ?_
    refine g_lconst cx (v := 0) d_8_16_26 (by decide) ?_
    refine g_lcmp cx d_8_16_27 ?_
    refine g_if_eq cx d_8_16_28 rfl (fun c28 => ?_) (fun c28 => ?_)
    · skip
      refine g_iconst cx (v := (-1)) d_8_16_44 (by decide) ?_
      exact m_iret cx d_8_16_45 rfl rfl hm hs ⟨⟨_, rfl⟩, hMx, rfl⟩
    · skip
      refine g_iload_n cx 0 d_8_16_31 rfl rfl ?_
      refine g_if_lt cx d_8_16_32 rfl (fun c32 => ?_) (fun c32 => absurd (by decide) c32)
      refine g_iload_n cx 0 d_8_16_46 rfl rfl ?_
      refine g_if_lt cx d_8_16_47 rfl (fun c47 => ?_) (fun c47 => absurd (by decide) c47)
      refine g_bipush cx (v := (-2)) d_8_16_61 (by decide) ?_
      exact m_iret cx d_8_16_63 rfl rfl hm hs ⟨⟨_, rfl⟩, hMx, rfl⟩
  have c18p : ∀ (V : Int64) (ha0 : 0 < a) (h : hp) (hm : Mo D am ad x h) (hs : Sm am ad h0 h), G p l e (rmL 1) s m args below meth c 4 D z0 E (MQp D am ad h0 (fun r x' => (∃ v, r = some (.int v)) ∧ MIx x' ∧ x'.1 2 = x.1 2)) 0 0 18 [(1, .long V), (0, .ref am)] [] h 0 0 := by
    intro V ha0 h hm hs
    refine g_aload_n cx 1 d_8_16_18 rfl rfl ?_
    refine m_get cx (k := 6) d_8_16_19 t_904 ⟨by decide, rfl⟩ hm rfl ?_
    refine g_iconst cx (v := 1) d_8_16_22 (by decide) ?_
    refine g_isub cx d_8_16_23 ?_
    refine g_topi (fun a1 ea1 => ?_)
    obtain rfl : a1 = nI (a - 1) := ea1.trans (by show x.1 6 - 1 = _; rw [hIA.1]; exact pk_sub (b := 1) ha0)
    refine g_istore_n cx (lv' := [(3, .int (nI (a - 1))), (1, .long V), (0, .ref am)]) d_8_16_24 rfl (by decide) rfl ?_
    refine g_lload_n cx 1 d_8_16_25 rfl rfl ?_
    refine g_lconst cx (v := 0) d_8_16_26 (by decide) ?_
    refine g_lcmp cx d_8_16_27 ?_
    refine g_if_eq cx d_8_16_28 rfl (fun c28 => ?_) (fun c28 => ?_)
    · skip
      refine g_iconst cx (v := (-1)) d_8_16_44 (by decide) ?_
      exact m_iret cx d_8_16_45 rfl rfl hm hs ⟨⟨_, rfl⟩, hMx, rfl⟩
    · skip
      refine g_iload_n cx 0 d_8_16_31 rfl rfl ?_
      refine g_if_lt cx d_8_16_32 rfl (fun c32 => absurd c32 (nI_pos (by omega))) (fun c32 => ?_)
      refine g_aload_n cx 2 d_8_16_35 rfl rfl ?_
      refine g_iload_n cx 0 d_8_16_36 rfl rfl ?_
      refine g_lload_n cx 1 d_8_16_37 rfl rfl ?_
      refine m_call 1 cx (As := [.int (nI (a - 1)), .long V]) (n := 2) (mc_isIn hSt hA x (a - 1) (nm (a - 1)) V (by omega) (hNm (a - 1) (by omega)).1 (hNm (a - 1) (by omega)).2) d_8_16_38 t_1038 t_1040 ts_35 t_1041 rfl ⟨rfl, by decide +kernel⟩ rfl ⟨by decide, by decide⟩ (Nat.le_of_ble_eq_true rfl) hm hs (fun v38 x38 h hm hs r38 => ?_)
      obtain ⟨e38, r38⟩ := r38
      rw [e38] at hm
      rcases r38 with rfl | ⟨rfl, -⟩
      · skip
        refine g_if_eq cx d_8_16_41 rfl (fun c41 => ?_) (fun c41 => absurd rfl c41)
        refine g_iload_n cx 0 d_8_16_46 rfl rfl ?_
        refine g_if_lt cx d_8_16_47 rfl (fun c47 => absurd c47 (nI_pos (by omega))) (fun c47 => ?_)
        refine g_aload_n cx 2 d_8_16_50 rfl rfl ?_
        refine m_get cx (k := 8) d_8_16_51 t_906 ⟨by decide, rfl⟩ hm rfl ?_
        refine g_iload_n cx 0 d_8_16_54 rfl rfl ?_
        refine m_ld1 cx d_8_16_55 (by decide) hm rfl ⟨(show a - 1 < 6 by omega), by decide⟩ ?_
        refine g_bipush cx (v := 6) d_8_16_56 (by decide) ?_
        refine g_icmp_ne cx d_8_16_58 rfl (fun c58 => ?_) (fun c58 => ?_)
        · skip
          have hb1 := hNm (a - 1) (by omega)
          have hn6 : nm (a - 1) < 6 := by
            rcases Nat.lt_or_ge (nm (a - 1)) 6 with q | q
            · exact q
            · exact absurd (by rw [hb1.1, show nm (a - 1) = 6 by omega]; rfl) c58
          refine g_aload_n cx 2 d_8_16_64 rfl rfl ?_
          refine m_get cx (k := 10) d_8_16_65 t_908 ⟨by decide, rfl⟩ hm rfl ?_
          refine g_bipush cx (v := 6) d_8_16_68 (by decide) ?_
          refine g_iload_n cx 0 d_8_16_70 rfl rfl ?_
          refine g_imul cx d_8_16_71 ?_
          refine g_aload_n cx 2 d_8_16_72 rfl rfl ?_
          refine m_get cx (k := 8) d_8_16_73 t_906 ⟨by decide, rfl⟩ hm rfl ?_
          refine g_iload_n cx 0 d_8_16_76 rfl rfl ?_
          refine m_ld1 cx d_8_16_77 (by decide) hm rfl ⟨(show a - 1 < 6 by omega), by decide⟩ ?_
          refine g_iadd cx d_8_16_78 ?_
          refine g_lload_n cx 1 d_8_16_79 rfl rfl ?_
          refine m_st3 cx hA d_8_16_80 (by decide) hm hs (show 6 * nI (a - 1) + x.2.1 8 (a - 1) = nI (6 * (a - 1) + nm (a - 1)) by rw [hb1.1, show (6 : Int32) = nI 6 from rfl, pk_mul, nI_add]) ⟨(show 6 * (a - 1) + nm (a - 1) < 36 by omega), by decide⟩ (fun h hm hs => ?_)
          refine g_aload_n cx 2 d_8_16_81 rfl rfl ?_
          refine m_get cx (k := 8) d_8_16_82 t_906 ⟨by decide, rfl⟩ hm rfl ?_
          refine g_iload_n cx 0 d_8_16_85 rfl rfl ?_
          refine g_dup2_11 cx d_8_16_86 rfl rfl ?_
          refine m_ld1 cx d_8_16_87 (by decide) hm rfl ⟨(show a - 1 < 6 by omega), by decide⟩ ?_
          refine g_iconst cx (v := 1) d_8_16_88 (by decide) ?_
          refine g_iadd cx d_8_16_89 ?_
          refine m_st1 cx hA d_8_16_90 (by decide) hm hs rfl ⟨(show a - 1 < 6 by omega), by decide⟩ (fun h hm hs => ?_)
          refine g_iconst cx (v := 2) d_8_16_91 (by decide) ?_
          exact m_iret cx d_8_16_92 rfl rfl hm hs ⟨⟨_, rfl⟩, ⟨a, r, _, ld, im, kp, mn, hIA, hIR, INm.add hNm hn6 (by show x.2.1 8 (a - 1) + 1 = _; rw [hb1.1, nI_1]), hLd, hLo, hIm, hFr, hPa, IKp.add hKp hNm (by omega) hn6, hMn⟩, rfl⟩
        · skip
          refine g_bipush cx (v := (-2)) d_8_16_61 (by decide) ?_
          exact m_iret cx d_8_16_63 rfl rfl hm hs ⟨⟨_, rfl⟩, hMx, rfl⟩
      · skip
        refine g_if_eq cx d_8_16_41 rfl (fun c41 => absurd c41 (by decide)) (fun c41 => ?_)
        refine g_iconst cx (v := (-1)) d_8_16_44 (by decide) ?_
        exact m_iret cx d_8_16_45 rfl rfl hm hs ⟨⟨_, rfl⟩, hMx, rfl⟩
  refine g_aload_n cx 0 d_8_16_0 rfl rfl ?_
  refine m_get cx (k := 3) d_8_16_1 t_901 ⟨by decide, rfl⟩ hm rfl ?_
  refine g_iconst cx (v := 2) d_8_16_4 (by decide) ?_
  refine g_icmp_ne cx d_8_16_5 rfl (fun c5 => ?_) (fun c5 => ?_)
  · skip
    refine g_lconst cx (v := 0) d_8_16_16 (by decide) ?_
    refine g_topl (fun V eV => ?_)
    refine g_lstore_n cx (lv' := [(1, .long V), (0, .ref am)]) d_8_16_17 rfl (by decide) rfl ?_
    rcases Nat.eq_zero_or_pos a with ha0 | ha0
    · exact c18z V ha0 h hm hs
    · exact c18p V ha0 h hm hs
  · skip
    refine g_aload_n cx 0 d_8_16_8 rfl rfl ?_
    refine g_iconst cx (v := 1) d_8_16_9 (by decide) ?_
    refine m_call 1 cx (As := [.int (nI 1)]) (n := 1) (mc_nameOf hSt hA x 1 pn bg en hpt (by decide)) d_8_16_10 t_1025 t_1027 ts_32 t_1028 rfl ⟨rfl, by decide +kernel⟩ rfl ⟨by decide, by decide⟩ (Nat.le_of_ble_eq_true rfl) hm hs (fun v10 x10 h hm hs r10 => ?_)
    obtain ⟨e10, V10, rfl⟩ := r10
    rw [e10] at hm
    refine g_goto cx d_8_16_13 rfl ?_
    refine g_topl (fun V eV => ?_)
    refine g_lstore_n cx (lv' := [(1, .long V), (0, .ref am)]) d_8_16_17 rfl (by decide) rfl ?_
    rcases Nat.eq_zero_or_pos a with ha0 | ha0
    · exact c18z V ha0 h hm hs
    · exact c18p V ha0 h hm hs
set_option maxHeartbeats 4000000 in
theorem mc_loads (hSt : Stb z0 E) (hA : Ad am ad) (x : MS) (pn : Nat) (bg en : Nat → Nat) (a r : Nat) (nm ld im kp : Nat → Nat) (mn : Nat) (hpt : PT x pn bg en) (hM : MI x a r nm ld im kp mn) : MC l y_171 prog_8_method_19_code 6 (Option.some Jvm.ClassFile.FieldType.int) 2 D z0 E am ad [] x (fun r x' => (∃ v, r = some (.int v)) ∧ MIx x' ∧ x'.1 2 = x.1 2) := by
  refine mc_of hSt rfl (Nat.le_of_ble_eq_true rfl) ?_
  intro h0 h p e s m args below meth c cx hm hs
  obtain ⟨hIA, hIR, hNm, hLd, hLo, hIm, hFr, hPa, hKp, hMn⟩ := id hM
  have hMx : MIx x := MIx.of hM
  have hal := hIA.2
  have hrl := hIR.2
  have c32z : ∀ (a2 w1 : Int32) (hr0 : r = 0) (h : hp) (hm : Mo D am ad x h) (hs : Sm am ad h0 h), G p l e (rmL 2) s m args below meth c 6 D z0 E (MQp D am ad h0 (fun r x' => (∃ v, r = some (.int v)) ∧ MIx x' ∧ x'.1 2 = x.1 2)) 0 0 32 [(2, .int a2), (1, .int w1), (0, .ref am)] [] h 0 0 := by
    intro a2 w1 hr0 h hm hs
    refine g_aload_n cx 2 d_8_19_32 rfl rfl ?_
    refine m_get cx (k := 11) d_8_19_33 t_909 ⟨by decide, rfl⟩ hm rfl ?_
    refine g_iconst cx (v := 1) d_8_19_36 (by decide) ?_
    refine g_isub cx d_8_19_37 ?_
    refine g_topi (fun r1 er1 => ?_)
    obtain rfl : r1 = -1 := er1.trans (by show x.1 11 - 1 = -1; rw [hIR.1, hr0]; rfl)
    refine g_istore_n cx (lv' := [(3, .int (-1)), (2, .int a2), (1, .int w1), (0, .ref am)]) d_8_19_38 rfl (by decide) rfl ?_
    refine g_iconst cx (v := 0) d_8_19_39 (by decide) ?_
    refine g_topi (fun z4 ez4 => ?_)
    refine g_istore cx (lv' := [(4, .int z4), (3, .int (-1)), (2, .int a2), (1, .int w1), (0, .ref am)]) d_8_19_40 (by decide) rfl ?_
    refine g_iconst cx (v := 4) d_8_19_42 (by decide) ?_
    refine g_iload_n cx 1 d_8_19_43 rfl rfl ?_
    refine g_imul cx d_8_19_44 ?_
    refine g_topi (fun k5 ek5 => ?_)
    refine g_istore cx (lv' := [(5, .int k5), (4, .int z4), (3, .int (-1)), (2, .int a2), (1, .int w1), (0, .ref am)]) d_8_19_45 (by decide) rfl ?_
    refine g_iload_n cx 2 d_8_19_47 rfl rfl ?_
    refine g_if_lt cx d_8_19_48 rfl (fun c48 => ?_) (fun c48 => absurd (by decide) c48)
    refine g_iload_n cx 3 d_8_19_95 rfl rfl ?_
    refine g_if_lt cx d_8_19_96 rfl (fun c96 => ?_) (fun c96 => ?_)
    · skip
      refine g_iconst cx (v := (-1)) d_8_19_104 (by decide) ?_
      exact m_iret cx d_8_19_105 rfl rfl hm hs ⟨⟨_, rfl⟩, hMx, rfl⟩
    · skip
      refine g_iload cx 1 d_8_19_99 rfl ?_
      refine g_if_eq cx d_8_19_101 rfl (fun c101 => ?_) (fun c101 => ?_)
      · skip
        refine g_aload_n cx 5 d_8_19_106 rfl rfl ?_
        refine m_call 2 cx (As := []) (n := 0) (mc_isShut hSt hA x r hIR.1 hIR.2) d_8_19_107 t_1054 t_1056 ts_39 t_1057 rfl ⟨rfl, by decide +kernel⟩ rfl ⟨by decide, by decide⟩ (Nat.le_of_ble_eq_true rfl) hm hs (fun v107 x107 h hm hs r107 => ?_)
        obtain ⟨e9, r9⟩ := r107
        rw [e9] at hm
        rcases r9 with rfl | ⟨rfl, hr1, -⟩
        · skip
          refine g_if_ne cx d_8_19_110 rfl (fun c110 => ?_) (fun c110 => absurd c110 (by decide))
          refine g_bipush cx (v := (-2)) d_8_19_123 (by decide) ?_
          exact m_iret cx d_8_19_125 rfl rfl hm hs ⟨⟨_, rfl⟩, hMx, rfl⟩
        · skip
          exact absurd hr1 (by omega)
      · skip
        refine g_iconst cx (v := (-1)) d_8_19_104 (by decide) ?_
        exact m_iret cx d_8_19_105 rfl rfl hm hs ⟨⟨_, rfl⟩, hMx, rfl⟩
  have c95 : ∀ (k : Nat) (z a2 w1 : Int32) (hr0 : 0 < r) (ho : a2 = -1 ∨ ∃ g, g < a ∧ a2 = nI g) (h : hp) (hm : Mo D am ad x h) (hs : Sm am ad h0 h), G p l e (rmL 2) s m args below meth c 6 D z0 E (MQp D am ad h0 (fun r x' => (∃ v, r = some (.int v)) ∧ MIx x' ∧ x'.1 2 = x.1 2)) 0 0 95 [(5, .int (nI k)), (4, .int z), (3, .int (nI (r - 1))), (2, .int a2), (1, .int w1), (0, .ref am)] [] h 0 0 := by
    intro k z a2 w1 hr0 ho h hm hs
    refine g_iload_n cx 3 d_8_19_95 rfl rfl ?_
    refine g_if_lt cx d_8_19_96 rfl (fun c96 => ?_) (fun c96 => ?_)
    · skip
      refine g_iconst cx (v := (-1)) d_8_19_104 (by decide) ?_
      exact m_iret cx d_8_19_105 rfl rfl hm hs ⟨⟨_, rfl⟩, hMx, rfl⟩
    · skip
      refine g_iload cx 1 d_8_19_99 rfl ?_
      refine g_if_eq cx d_8_19_101 rfl (fun c101 => ?_) (fun c101 => ?_)
      · skip
        refine g_aload_n cx 5 d_8_19_106 rfl rfl ?_
        refine m_call 2 cx (As := []) (n := 0) (mc_isShut hSt hA x r hIR.1 hIR.2) d_8_19_107 t_1054 t_1056 ts_39 t_1057 rfl ⟨rfl, by decide +kernel⟩ rfl ⟨by decide, by decide⟩ (Nat.le_of_ble_eq_true rfl) hm hs (fun v107 x107 h hm hs r107 => ?_)
        obtain ⟨e9, r9⟩ := r107
        rw [e9] at hm
        rcases r9 with rfl | ⟨rfl, hr1, -⟩
        · skip
          refine g_if_ne cx d_8_19_110 rfl (fun c110 => ?_) (fun c110 => absurd c110 (by decide))
          refine g_bipush cx (v := (-2)) d_8_19_123 (by decide) ?_
          exact m_iret cx d_8_19_125 rfl rfl hm hs ⟨⟨_, rfl⟩, hMx, rfl⟩
        · skip
          refine g_if_ne cx d_8_19_110 rfl (fun c110 => absurd rfl c110) (fun c110 => ?_)
          refine g_aload_n cx 5 d_8_19_113 rfl rfl ?_
          refine m_get cx (k := 13) d_8_19_114 t_911 ⟨by decide, rfl⟩ hm rfl ?_
          refine g_iload_n cx 2 d_8_19_117 rfl rfl ?_
          refine m_ld1 cx d_8_19_118 (by decide) hm rfl ⟨(show r - 1 < 8 by omega), by decide⟩ ?_
          refine g_iconst cx (v := 4) d_8_19_119 (by decide) ?_
          refine g_icmp_ne cx d_8_19_120 rfl (fun c120 => ?_) (fun c120 => ?_)
          · skip
            obtain ⟨g, hg, eg⟩ : ∃ g, g < a ∧ a2 = nI g := ho.resolve_left (fun q => c96 (by rw [q]; decide))
            have hb1 := hLd (r - 1) (by omega)
            have hn4 : ld (r - 1) < 4 := by
              rcases Nat.lt_or_ge (ld (r - 1)) 4 with q | q
              · exact q
              · exact absurd (by rw [hb1.1, show ld (r - 1) = 4 by omega]; rfl) c120
            refine g_aload_n cx 5 d_8_19_126 rfl rfl ?_
            refine m_get cx (k := 14) d_8_19_127 t_912 ⟨by decide, rfl⟩ hm rfl ?_
            refine g_iconst cx (v := 4) d_8_19_130 (by decide) ?_
            refine g_iload_n cx 2 d_8_19_131 rfl rfl ?_
            refine g_imul cx d_8_19_132 ?_
            refine g_aload_n cx 5 d_8_19_133 rfl rfl ?_
            refine m_get cx (k := 13) d_8_19_134 t_911 ⟨by decide, rfl⟩ hm rfl ?_
            refine g_iload_n cx 2 d_8_19_137 rfl rfl ?_
            refine m_ld1 cx d_8_19_138 (by decide) hm rfl ⟨(show r - 1 < 8 by omega), by decide⟩ ?_
            refine g_iadd cx d_8_19_139 ?_
            refine g_iload_n cx 3 d_8_19_140 rfl rfl ?_
            refine m_st1 cx hA d_8_19_141 (by decide) hm hs (show 4 * nI (r - 1) + x.2.1 13 (r - 1) = nI (4 * (r - 1) + ld (r - 1)) by rw [hb1.1, show (4 : Int32) = nI 4 from rfl, pk_mul, nI_add]) ⟨(show 4 * (r - 1) + ld (r - 1) < 32 by omega), by decide⟩ (fun h hm hs => ?_)
            refine g_aload_n cx 5 d_8_19_142 rfl rfl ?_
            refine m_get cx (k := 13) d_8_19_143 t_911 ⟨by decide, rfl⟩ hm rfl ?_
            refine g_iload_n cx 2 d_8_19_146 rfl rfl ?_
            refine g_dup2_11 cx d_8_19_147 rfl rfl ?_
            refine m_ld1 cx d_8_19_148 (by decide) hm rfl ⟨(show r - 1 < 8 by omega), by decide⟩ ?_
            refine g_iconst cx (v := 1) d_8_19_149 (by decide) ?_
            refine g_iadd cx d_8_19_150 ?_
            refine m_st1 cx hA d_8_19_151 (by decide) hm hs rfl ⟨(show r - 1 < 8 by omega), by decide⟩ (fun h hm hs => ?_)
            refine g_iconst cx (v := 4) d_8_19_152 (by decide) ?_
            exact m_iret cx d_8_19_153 rfl rfl hm hs ⟨⟨_, rfl⟩, ⟨a, r, nm, (fun i => if i = r - 1 then ld (r - 1) + 1 else ld i), im, kp, mn, hIA, hIR, hNm, (fun i hi => by
    show upd (x.2.1 13) (r - 1) (x.2.1 13 (r - 1) + 1) i = nI (if i = r - 1 then ld (r - 1) + 1 else ld i) ∧ (if i = r - 1 then ld (r - 1) + 1 else ld i) ≤ 4
    by_cases q : i = r - 1
    · rw [if_pos q, q]; exact ⟨pk_us.trans (by rw [hb1.1, nI_1]), by omega⟩
    · rw [if_neg q, pk_un q]; exact hLd i hi), (fun k9 hk9 => by
    show ∃ g, g < 6 ∧ upd (x.2.1 14) (4 * (r - 1) + ld (r - 1)) a2 k9 = nI g
    by_cases q : k9 = 4 * (r - 1) + ld (r - 1)
    · rw [q]; exact ⟨g, by omega, pk_us.trans eg⟩
    · rw [pk_un q]; exact hLo k9 hk9), hIm, hFr, hPa, hKp, hMn⟩, rfl⟩
          · skip
            refine g_bipush cx (v := (-2)) d_8_19_123 (by decide) ?_
            exact m_iret cx d_8_19_125 rfl rfl hm hs ⟨⟨_, rfl⟩, hMx, rfl⟩
      · skip
        refine g_iconst cx (v := (-1)) d_8_19_104 (by decide) ?_
        exact m_iret cx d_8_19_105 rfl rfl hm hs ⟨⟨_, rfl⟩, hMx, rfl⟩
  have c32p : ∀ (a2 w1 : Int32) (hr0 : 0 < r) (ho : a2 = -1 ∨ ∃ g, g < a ∧ a2 = nI g) (h : hp) (hm : Mo D am ad x h) (hs : Sm am ad h0 h), G p l e (rmL 2) s m args below meth c 6 D z0 E (MQp D am ad h0 (fun r x' => (∃ v, r = some (.int v)) ∧ MIx x' ∧ x'.1 2 = x.1 2)) 0 0 32 [(2, .int a2), (1, .int w1), (0, .ref am)] [] h 0 0 := by
    intro a2 w1 hr0 ho h hm hs
    have hb1 := hLd (r - 1) (by omega)
    have hb : 4 * nI (r - 1) + x.2.1 13 (r - 1) = nI (4 * (r - 1) + ld (r - 1)) := by rw [hb1.1, show (4 : Int32) = nI 4 from rfl, pk_mul, nI_add]
    have hb2 := hb1.2
    have lp : ∀ (n : Nat) (k : Nat) (z : Int32), 4 * (r - 1) ≤ k → k ≤ 4 * (r - 1) + ld (r - 1) → 4 * (r - 1) + ld (r - 1) - k < n → G p l e (rmL 2) s m args below meth c 6 D z0 E (MQp D am ad h0 (fun r x' => (∃ v, r = some (.int v)) ∧ MIx x' ∧ x'.1 2 = x.1 2)) 0 0 47 [(5, .int (nI k)), (4, .int z), (3, .int (nI (r - 1))), (2, .int a2), (1, .int w1), (0, .ref am)] [] h 0 0 := by
      intro n
      induction n with
      | zero => intro k z hk0 hk1 hn; exact absurd hn (Nat.not_lt_zero _)
      | succ n ih =>
        intro k z hk0 hk1 hn
        refine g_iload_n cx 2 d_8_19_47 rfl rfl ?_
        refine g_if_lt cx d_8_19_48 rfl (fun c48 => absurd c48 (nI_pos (by omega))) (fun c48 => ?_)
        refine g_iload cx 0 d_8_19_51 rfl ?_
        refine g_iconst cx (v := 4) d_8_19_53 (by decide) ?_
        refine g_iload_n cx 2 d_8_19_54 rfl rfl ?_
        refine g_imul cx d_8_19_55 ?_
        refine g_aload_n cx 5 d_8_19_56 rfl rfl ?_
        refine m_get cx (k := 13) d_8_19_57 t_911 ⟨by decide, rfl⟩ hm rfl ?_
        refine g_iload_n cx 2 d_8_19_60 rfl rfl ?_
        refine m_ld1 cx d_8_19_61 (by decide) hm rfl ⟨(show r - 1 < 8 by omega), by decide⟩ ?_
        refine g_iadd cx d_8_19_62 ?_
        refine g_icmp_ge cx d_8_19_63 rfl (fun c63 => ?_) (fun c63 => ?_)
        · skip
          exact c95 k z a2 w1 hr0 ho h hm hs
        · skip
          have hk : k < 4 * (r - 1) + ld (r - 1) := Nat.lt_of_not_le (fun y => c63 (by rw [hb]; exact nI_le y (by omega)))
          refine g_iload cx 1 d_8_19_66 rfl ?_
          refine g_if_ne cx d_8_19_68 rfl (fun c68 => ?_) (fun c68 => ?_)
          · skip
            refine g_iconst cx (v := 1) d_8_19_82 (by decide) ?_
            refine g_goto cx d_8_19_83 rfl ?_
            refine g_topi (fun z1 ez1 => ?_)
            refine g_istore cx (lv' := [(4, .int z1), (5, .int (nI k)), (3, .int (nI (r - 1))), (2, .int a2), (1, .int w1), (0, .ref am)]) d_8_19_87 (by decide) rfl ?_
            refine g_iinc cx 1 (lv' := [(5, .int (nI (k + 1))), (4, .int z1), (3, .int (nI (r - 1))), (2, .int a2), (1, .int w1), (0, .ref am)]) d_8_19_89 rfl (inc1 k) (by decide) rfl ?_
            refine g_goto cx d_8_19_92 rfl ?_
            exact ih (k + 1) z1 (by omega) (by omega) (by omega)
          · skip
            refine g_aload_n cx 5 d_8_19_71 rfl rfl ?_
            refine m_get cx (k := 14) d_8_19_72 t_912 ⟨by decide, rfl⟩ hm rfl ?_
            refine g_iload cx 0 d_8_19_75 rfl ?_
            refine m_ld1 cx d_8_19_77 (by decide) hm rfl ⟨(show k < 32 by omega), by decide⟩ ?_
            refine g_iload_n cx 3 d_8_19_78 rfl rfl ?_
            refine g_icmp_ne cx d_8_19_79 rfl (fun c79 => ?_) (fun c79 => ?_)
            · skip
              refine g_iconst cx (v := 0) d_8_19_86 (by decide) ?_
              refine g_topi (fun z1 ez1 => ?_)
              refine g_istore cx (lv' := [(4, .int z1), (5, .int (nI k)), (3, .int (nI (r - 1))), (2, .int a2), (1, .int w1), (0, .ref am)]) d_8_19_87 (by decide) rfl ?_
              refine g_iinc cx 1 (lv' := [(5, .int (nI (k + 1))), (4, .int z1), (3, .int (nI (r - 1))), (2, .int a2), (1, .int w1), (0, .ref am)]) d_8_19_89 rfl (inc1 k) (by decide) rfl ?_
              refine g_goto cx d_8_19_92 rfl ?_
              exact ih (k + 1) z1 (by omega) (by omega) (by omega)
            · skip
              refine g_iconst cx (v := 1) d_8_19_82 (by decide) ?_
              refine g_goto cx d_8_19_83 rfl ?_
              refine g_topi (fun z1 ez1 => ?_)
              refine g_istore cx (lv' := [(4, .int z1), (5, .int (nI k)), (3, .int (nI (r - 1))), (2, .int a2), (1, .int w1), (0, .ref am)]) d_8_19_87 (by decide) rfl ?_
              refine g_iinc cx 1 (lv' := [(5, .int (nI (k + 1))), (4, .int z1), (3, .int (nI (r - 1))), (2, .int a2), (1, .int w1), (0, .ref am)]) d_8_19_89 rfl (inc1 k) (by decide) rfl ?_
              refine g_goto cx d_8_19_92 rfl ?_
              exact ih (k + 1) z1 (by omega) (by omega) (by omega)
    refine g_aload_n cx 2 d_8_19_32 rfl rfl ?_
    refine m_get cx (k := 11) d_8_19_33 t_909 ⟨by decide, rfl⟩ hm rfl ?_
    refine g_iconst cx (v := 1) d_8_19_36 (by decide) ?_
    refine g_isub cx d_8_19_37 ?_
    refine g_topi (fun r1 er1 => ?_)
    obtain rfl : r1 = nI (r - 1) := er1.trans (by show x.1 11 - 1 = _; rw [hIR.1]; exact pk_sub (b := 1) hr0)
    refine g_istore_n cx (lv' := [(3, .int (nI (r - 1))), (2, .int a2), (1, .int w1), (0, .ref am)]) d_8_19_38 rfl (by decide) rfl ?_
    refine g_iconst cx (v := 0) d_8_19_39 (by decide) ?_
    refine g_topi (fun z4 ez4 => ?_)
    refine g_istore cx (lv' := [(4, .int z4), (3, .int (nI (r - 1))), (2, .int a2), (1, .int w1), (0, .ref am)]) d_8_19_40 (by decide) rfl ?_
    refine g_iconst cx (v := 4) d_8_19_42 (by decide) ?_
    refine g_iload_n cx 1 d_8_19_43 rfl rfl ?_
    refine g_imul cx d_8_19_44 ?_
    refine g_topi (fun k5 ek5 => ?_)
    obtain rfl : k5 = nI (4 * (r - 1)) := by rw [ek5]; exact pk_mul 4 (r - 1)
    refine g_istore cx (lv' := [(5, .int (nI (4 * (r - 1)))), (4, .int z4), (3, .int (nI (r - 1))), (2, .int a2), (1, .int w1), (0, .ref am)]) d_8_19_45 (by decide) rfl ?_
    exact lp (ld (r - 1) + 1) (4 * (r - 1)) z4 (by omega) (by omega) (by omega)
  have c32 : ∀ (a2 w1 : Int32) (ho : a2 = -1 ∨ ∃ g, g < a ∧ a2 = nI g) (h : hp) (hm : Mo D am ad x h) (hs : Sm am ad h0 h), G p l e (rmL 2) s m args below meth c 6 D z0 E (MQp D am ad h0 (fun r x' => (∃ v, r = some (.int v)) ∧ MIx x' ∧ x'.1 2 = x.1 2)) 0 0 32 [(2, .int a2), (1, .int w1), (0, .ref am)] [] h 0 0 := by
    intro a2 w1 ho h hm hs
    rcases Nat.eq_zero_or_pos r with hr0 | hr0
    · exact c32z a2 w1 hr0 h hm hs
    · exact c32p a2 w1 hr0 ho h hm hs
  have c18 : ∀ (w1 : Int32) (h : hp) (hm : Mo D am ad x h) (hs : Sm am ad h0 h), G p l e (rmL 2) s m args below meth c 6 D z0 E (MQp D am ad h0 (fun r x' => (∃ v, r = some (.int v)) ∧ MIx x' ∧ x'.1 2 = x.1 2)) 0 0 18 [(1, .int w1), (0, .ref am)] [] h 0 0 := by
    intro w1 h hm hs
    refine g_iload_n cx 0 d_8_19_18 rfl rfl ?_
    refine g_if_ne cx d_8_19_19 rfl (fun c19 => ?_) (fun c19 => ?_)
    · skip
      refine g_aload_n cx 1 d_8_19_26 rfl rfl ?_
      refine g_iload_n cx 0 d_8_19_27 rfl rfl ?_
      refine m_call 2 cx (As := [.int w1]) (n := 1) (mc_archiveOf hSt hA x w1 a hIA.1 hIA.2) d_8_19_28 t_1030 t_1032 ts_33 t_1033 rfl ⟨rfl, by decide +kernel⟩ rfl ⟨by decide, by decide⟩ (Nat.le_of_ble_eq_true rfl) hm hs (fun v28 x28 h hm hs r28 => ?_)
      obtain ⟨e28, r28⟩ := r28
      rw [e28] at hm
      rcases r28 with ⟨j, hj, rfl⟩ | rfl
      · skip
        refine g_topi (fun a2 ea2 => ?_)
        refine g_istore_n cx (lv' := [(2, .int a2), (1, .int w1), (0, .ref am)]) d_8_19_31 rfl (by decide) rfl ?_
        exact c32 a2 w1 (Or.inr ⟨j, hj, ea2⟩) h hm hs
      · skip
        refine g_topi (fun a2 ea2 => ?_)
        refine g_istore_n cx (lv' := [(2, .int a2), (1, .int w1), (0, .ref am)]) d_8_19_31 rfl (by decide) rfl ?_
        exact c32 a2 w1 (Or.inl ea2) h hm hs
    · skip
      refine g_iconst cx (v := (-1)) d_8_19_22 (by decide) ?_
      refine g_goto cx d_8_19_23 rfl ?_
      refine g_topi (fun a2 ea2 => ?_)
      refine g_istore_n cx (lv' := [(2, .int a2), (1, .int w1), (0, .ref am)]) d_8_19_31 rfl (by decide) rfl ?_
      exact c32 a2 w1 (Or.inl ea2) h hm hs
  refine g_aload_n cx 0 d_8_19_0 rfl rfl ?_
  refine m_get cx (k := 3) d_8_19_1 t_901 ⟨by decide, rfl⟩ hm rfl ?_
  refine g_iconst cx (v := 2) d_8_19_4 (by decide) ?_
  refine g_icmp_ne cx d_8_19_5 rfl (fun c5 => ?_) (fun c5 => ?_)
  · skip
    refine g_iconst cx (v := 0) d_8_19_16 (by decide) ?_
    refine g_topi (fun w1 ew1 => ?_)
    refine g_istore_n cx (lv' := [(1, .int w1), (0, .ref am)]) d_8_19_17 rfl (by decide) rfl ?_
    exact c18 w1 h hm hs
  · skip
    refine g_aload_n cx 0 d_8_19_8 rfl rfl ?_
    refine g_iconst cx (v := 1) d_8_19_9 (by decide) ?_
    refine m_call 2 cx (As := [.int (nI 1)]) (n := 1) (mc_wordOf hSt hA x 1 pn bg en hpt (by decide)) d_8_19_10 t_1021 t_1023 ts_31 t_1024 rfl ⟨rfl, by decide +kernel⟩ rfl ⟨by decide, by decide⟩ (Nat.le_of_ble_eq_true rfl) hm hs (fun v10 x10 h hm hs r10 => ?_)
    obtain ⟨e10, V10, rfl⟩ := r10
    rw [e10] at hm
    refine g_goto cx d_8_19_13 rfl ?_
    refine g_topi (fun w1 ew1 => ?_)
    refine g_istore_n cx (lv' := [(1, .int w1), (0, .ref am)]) d_8_19_17 rfl (by decide) rfl ?_
    exact c18 w1 h hm hs
set_option maxHeartbeats 4000000 in
theorem mc_newImport (hSt : Stb z0 E) (hA : Ad am ad) (x : MS) (pn : Nat) (bg en : Nat → Nat) (a r : Nat) (nm ld im kp : Nat → Nat) (mn : Nat) (hpt : PT x pn bg en) (hM : MI x a r nm ld im kp mn) : MC l y_173 prog_8_method_20_code 6 (Option.some Jvm.ClassFile.FieldType.int) 2 D z0 E am ad [] x (fun r x' => (∃ v, r = some (.int v)) ∧ MIx x' ∧ x'.1 2 = x.1 2) := by
  refine mc_of hSt rfl (Nat.le_of_ble_eq_true rfl) ?_
  intro h0 h p e s m args below meth c cx hm hs
  obtain ⟨hIA, hIR, hNm, hLd, hLo, hIm, hFr, hPa, hKp, hMn⟩ := id hM
  have hMx : MIx x := MIx.of hM
  have hal := hIA.2
  have hrl := hIR.2
  have c74n : ∀ (o4 w3 : Int32) (V : Int64) (ho : o4 = -1) (h : hp) (hm : Mo D am ad x h) (hs : Sm am ad h0 h), G p l e (rmL 2) s m args below meth c 6 D z0 E (MQp D am ad h0 (fun r x' => (∃ v, r = some (.int v)) ∧ MIx x' ∧ x'.1 2 = x.1 2)) 0 0 74 [(4, .int o4), (3, .int w3), (1, .long V), (0, .ref am)] [] h 0 0 := by
    intro o4 w3 V ho h hm hs
    refine g_aload_n cx 3 d_8_20_74 rfl rfl ?_
    refine m_get cx (k := 11) d_8_20_75 t_909 ⟨by decide, rfl⟩ hm rfl ?_
    refine g_iconst cx (v := 1) d_8_20_78 (by decide) ?_
    refine g_isub cx d_8_20_79 ?_
    refine g_topi (fun r1 er1 => ?_)
    refine g_istore cx (lv' := [(5, .int r1), (4, .int o4), (3, .int w3), (1, .long V), (0, .ref am)]) d_8_20_80 (by decide) rfl ?_
    refine g_iload cx 1 d_8_20_82 rfl ?_
    refine g_if_lt cx d_8_20_84 rfl (fun c84 => ?_) (fun c84 => absurd (by rw [ho]; decide) c84)
    refine g_iconst cx (v := (-1)) d_8_20_94 (by decide) ?_
    exact m_iret cx d_8_20_95 rfl rfl hm hs ⟨⟨_, rfl⟩, hMx, rfl⟩
  have c74p : ∀ (o4 w3 : Int32) (V : Int64) (g : Nat) (hg : g < r) (eg : o4 = nI g) (h : hp) (hm : Mo D am ad x h) (hs : Sm am ad h0 h), G p l e (rmL 2) s m args below meth c 6 D z0 E (MQp D am ad h0 (fun r x' => (∃ v, r = some (.int v)) ∧ MIx x' ∧ x'.1 2 = x.1 2)) 0 0 74 [(4, .int o4), (3, .int w3), (1, .long V), (0, .ref am)] [] h 0 0 := by
    intro o4 w3 V g hg eg h hm hs
    refine g_aload_n cx 3 d_8_20_74 rfl rfl ?_
    refine m_get cx (k := 11) d_8_20_75 t_909 ⟨by decide, rfl⟩ hm rfl ?_
    refine g_iconst cx (v := 1) d_8_20_78 (by decide) ?_
    refine g_isub cx d_8_20_79 ?_
    refine g_topi (fun r1 er1 => ?_)
    obtain rfl : r1 = nI (r - 1) := er1.trans (by show x.1 11 - 1 = _; rw [hIR.1]; exact pk_sub (b := 1) (by omega))
    refine g_istore cx (lv' := [(5, .int (nI (r - 1))), (4, .int o4), (3, .int w3), (1, .long V), (0, .ref am)]) d_8_20_80 (by decide) rfl ?_
    refine g_iload cx 1 d_8_20_82 rfl ?_
    refine g_if_lt cx d_8_20_84 rfl (fun c84 => ?_) (fun c84 => ?_)
    · skip
      refine g_iconst cx (v := (-1)) d_8_20_94 (by decide) ?_
      exact m_iret cx d_8_20_95 rfl rfl hm hs ⟨⟨_, rfl⟩, hMx, rfl⟩
    · skip
      refine g_iload cx 1 d_8_20_87 rfl ?_
      refine g_iload cx 0 d_8_20_89 rfl ?_
      refine g_icmp_ne cx d_8_20_91 rfl (fun c91 => ?_) (fun c91 => ?_)
      · skip
        refine g_aload_n cx 4 d_8_20_96 rfl rfl ?_
        refine m_call 2 cx (As := []) (n := 0) (mc_isShut hSt hA x r hIR.1 hIR.2) d_8_20_97 t_1054 t_1056 ts_39 t_1057 rfl ⟨rfl, by decide +kernel⟩ rfl ⟨by decide, by decide⟩ (Nat.le_of_ble_eq_true rfl) hm hs (fun v97 x97 h hm hs r97 => ?_)
        obtain ⟨e9, r9⟩ := r97
        rw [e9] at hm
        rcases r9 with rfl | ⟨rfl, hr1, -⟩
        · skip
          refine g_if_ne cx d_8_20_100 rfl (fun c100 => ?_) (fun c100 => absurd c100 (by decide))
          refine g_bipush cx (v := (-2)) d_8_20_114 (by decide) ?_
          exact m_iret cx d_8_20_116 rfl rfl hm hs ⟨⟨_, rfl⟩, hMx, rfl⟩
        · skip
          refine g_if_ne cx d_8_20_100 rfl (fun c100 => absurd rfl c100) (fun c100 => ?_)
          refine g_aload_n cx 4 d_8_20_103 rfl rfl ?_
          refine m_get cx (k := 15) d_8_20_104 t_913 ⟨by decide, rfl⟩ hm rfl ?_
          refine g_iload cx 0 d_8_20_107 rfl ?_
          refine m_ld1 cx d_8_20_109 (by decide) hm rfl ⟨(show r - 1 < 8 by omega), by decide⟩ ?_
          refine g_iconst cx (v := 4) d_8_20_110 (by decide) ?_
          refine g_icmp_ne cx d_8_20_111 rfl (fun c111 => ?_) (fun c111 => ?_)
          · skip
            have hb1 := hIm (r - 1) (by omega)
            have hb : 4 * nI (r - 1) + x.2.1 15 (r - 1) = nI (4 * (r - 1) + im (r - 1)) := by rw [hb1.1, show (4 : Int32) = nI 4 from rfl, pk_mul, nI_add]
            have hn4 : im (r - 1) < 4 := by
              have hb2 := hb1.2
              rcases Nat.lt_or_ge (im (r - 1)) 4 with q | q
              · exact q
              · exact absurd (by rw [hb1.1, show im (r - 1) = 4 by omega]; rfl) c111
            refine g_aload_n cx 4 d_8_20_117 rfl rfl ?_
            refine m_get cx (k := 20) d_8_20_118 t_918 ⟨by decide, rfl⟩ hm rfl ?_
            refine g_iconst cx (v := 4) d_8_20_121 (by decide) ?_
            refine g_iload cx 0 d_8_20_122 rfl ?_
            refine g_imul cx d_8_20_124 ?_
            refine g_aload_n cx 4 d_8_20_125 rfl rfl ?_
            refine m_get cx (k := 15) d_8_20_126 t_913 ⟨by decide, rfl⟩ hm rfl ?_
            refine g_iload cx 0 d_8_20_129 rfl ?_
            refine m_ld1 cx d_8_20_131 (by decide) hm rfl ⟨(show r - 1 < 8 by omega), by decide⟩ ?_
            refine g_iadd cx d_8_20_132 ?_
            refine g_lload_n cx 3 d_8_20_133 rfl rfl ?_
            refine m_st3 cx hA d_8_20_134 (by decide) hm hs hb ⟨(show 4 * (r - 1) + im (r - 1) < 32 by omega), by decide⟩ (fun h hm hs => ?_)
            refine g_aload_n cx 4 d_8_20_135 rfl rfl ?_
            refine m_get cx (k := 16) d_8_20_136 t_914 ⟨by decide, rfl⟩ hm rfl ?_
            refine g_iconst cx (v := 4) d_8_20_139 (by decide) ?_
            refine g_iload cx 0 d_8_20_140 rfl ?_
            refine g_imul cx d_8_20_142 ?_
            refine g_aload_n cx 4 d_8_20_143 rfl rfl ?_
            refine m_get cx (k := 15) d_8_20_144 t_913 ⟨by decide, rfl⟩ hm rfl ?_
            refine g_iload cx 0 d_8_20_147 rfl ?_
            refine m_ld1 cx d_8_20_149 (by decide) hm rfl ⟨(show r - 1 < 8 by omega), by decide⟩ ?_
            refine g_iadd cx d_8_20_150 ?_
            refine g_iload cx 1 d_8_20_151 rfl ?_
            refine m_st1 cx hA d_8_20_153 (by decide) hm hs hb ⟨(show 4 * (r - 1) + im (r - 1) < 32 by omega), by decide⟩ (fun h hm hs => ?_)
            refine g_aload_n cx 4 d_8_20_154 rfl rfl ?_
            refine m_get cx (k := 15) d_8_20_155 t_913 ⟨by decide, rfl⟩ hm rfl ?_
            refine g_iload cx 0 d_8_20_158 rfl ?_
            refine g_dup2_11 cx d_8_20_160 rfl rfl ?_
            refine m_ld1 cx d_8_20_161 (by decide) hm rfl ⟨(show r - 1 < 8 by omega), by decide⟩ ?_
            refine g_iconst cx (v := 1) d_8_20_162 (by decide) ?_
            refine g_iadd cx d_8_20_163 ?_
            refine m_st1 cx hA d_8_20_164 (by decide) hm hs rfl ⟨(show r - 1 < 8 by omega), by decide⟩ (fun h hm hs => ?_)
            refine g_iconst cx (v := 4) d_8_20_165 (by decide) ?_
            exact m_iret cx d_8_20_166 rfl rfl hm hs ⟨⟨_, rfl⟩, ⟨a, r, nm, ld, (fun i => if i = r - 1 then im (r - 1) + 1 else im i), kp, mn, hIA, hIR, hNm, hLd, hLo, (fun i hi => by
    show upd (x.2.1 15) (r - 1) (x.2.1 15 (r - 1) + 1) i = nI (if i = r - 1 then im (r - 1) + 1 else im i) ∧ (if i = r - 1 then im (r - 1) + 1 else im i) ≤ 4
    by_cases q : i = r - 1
    · rw [if_pos q, q]; exact ⟨pk_us.trans (by rw [hb1.1, nI_1]), by omega⟩
    · rw [if_neg q, pk_un q]; exact hIm i hi), (fun k9 hk9 => by
    show ∃ g, g < 8 ∧ upd (x.2.1 16) (4 * (r - 1) + im (r - 1)) o4 k9 = nI g
    by_cases q : k9 = 4 * (r - 1) + im (r - 1)
    · rw [q]; exact ⟨g, by omega, pk_us.trans eg⟩
    · rw [pk_un q]; exact hFr k9 hk9), hPa, hKp, hMn⟩, rfl⟩
          · skip
            refine g_bipush cx (v := (-2)) d_8_20_114 (by decide) ?_
            exact m_iret cx d_8_20_116 rfl rfl hm hs ⟨⟨_, rfl⟩, hMx, rfl⟩
      · skip
        refine g_iconst cx (v := (-1)) d_8_20_94 (by decide) ?_
        exact m_iret cx d_8_20_95 rfl rfl hm hs ⟨⟨_, rfl⟩, hMx, rfl⟩
  have c59 : ∀ (w3 : Int32) (V : Int64) (h : hp) (hm : Mo D am ad x h) (hs : Sm am ad h0 h), G p l e (rmL 2) s m args below meth c 6 D z0 E (MQp D am ad h0 (fun r x' => (∃ v, r = some (.int v)) ∧ MIx x' ∧ x'.1 2 = x.1 2)) 0 0 59 [(3, .int w3), (1, .long V), (0, .ref am)] [] h 0 0 := by
    intro w3 V h hm hs
    refine g_iload_n cx 0 d_8_20_59 rfl rfl ?_
    refine g_if_ne cx d_8_20_60 rfl (fun c60 => ?_) (fun c60 => ?_)
    · skip
      refine g_aload_n cx 2 d_8_20_67 rfl rfl ?_
      refine g_iload_n cx 0 d_8_20_68 rfl rfl ?_
      refine m_call 2 cx (As := [.int w3]) (n := 1) (mc_realmOf hSt hA x w3 r hIR.1 hIR.2) d_8_20_69 t_1046 t_1048 ts_37 t_1049 rfl ⟨rfl, by decide +kernel⟩ rfl ⟨by decide, by decide⟩ (Nat.le_of_ble_eq_true rfl) hm hs (fun v69 x69 h hm hs r69 => ?_)
      obtain ⟨e69, r69⟩ := r69
      rw [e69] at hm
      rcases r69 with ⟨j, hj, rfl⟩ | rfl
      · skip
        refine g_topi (fun o4 eo4 => ?_)
        refine g_istore cx (lv' := [(4, .int o4), (3, .int w3), (1, .long V), (0, .ref am)]) d_8_20_72 (by decide) rfl ?_
        exact c74p o4 w3 V j hj eo4 h hm hs
      · skip
        refine g_topi (fun o4 eo4 => ?_)
        refine g_istore cx (lv' := [(4, .int o4), (3, .int w3), (1, .long V), (0, .ref am)]) d_8_20_72 (by decide) rfl ?_
        exact c74n o4 w3 V eo4 h hm hs
    · skip
      refine g_iconst cx (v := (-1)) d_8_20_63 (by decide) ?_
      refine g_goto cx d_8_20_64 rfl ?_
      refine g_topi (fun o4 eo4 => ?_)
      refine g_istore cx (lv' := [(4, .int o4), (3, .int w3), (1, .long V), (0, .ref am)]) d_8_20_72 (by decide) rfl ?_
      exact c74n o4 w3 V eo4 h hm hs
  have c43 : ∀ (V : Int64) (h : hp) (hm : Mo D am ad x h) (hs : Sm am ad h0 h), G p l e (rmL 2) s m args below meth c 6 D z0 E (MQp D am ad h0 (fun r x' => (∃ v, r = some (.int v)) ∧ MIx x' ∧ x'.1 2 = x.1 2)) 0 0 43 [(1, .long V), (0, .ref am)] [] h 0 0 := by
    intro V h hm hs
    refine g_lload_n cx 0 d_8_20_43 rfl rfl ?_
    refine g_lconst cx (v := 0) d_8_20_44 (by decide) ?_
    refine g_lcmp cx d_8_20_45 ?_
    refine g_if_ne cx d_8_20_46 rfl (fun c46 => ?_) (fun c46 => ?_)
    · skip
      refine g_aload_n cx 1 d_8_20_53 rfl rfl ?_
      refine g_iconst cx (v := 3) d_8_20_54 (by decide) ?_
      refine m_call 2 cx (As := [.int (nI 3)]) (n := 1) (mc_wordOf hSt hA x 3 pn bg en hpt (by decide)) d_8_20_55 t_1021 t_1023 ts_31 t_1024 rfl ⟨rfl, by decide +kernel⟩ rfl ⟨by decide, by decide⟩ (Nat.le_of_ble_eq_true rfl) hm hs (fun v55 x55 h hm hs r55 => ?_)
      obtain ⟨e55, V55, rfl⟩ := r55
      rw [e55] at hm
      refine g_topi (fun w3 ew3 => ?_)
      refine g_istore_n cx (lv' := [(3, .int w3), (1, .long V), (0, .ref am)]) d_8_20_58 rfl (by decide) rfl ?_
      exact c59 w3 V h hm hs
    · skip
      refine g_iconst cx (v := 0) d_8_20_49 (by decide) ?_
      refine g_goto cx d_8_20_50 rfl ?_
      refine g_topi (fun w3 ew3 => ?_)
      refine g_istore_n cx (lv' := [(3, .int w3), (1, .long V), (0, .ref am)]) d_8_20_58 rfl (by decide) rfl ?_
      exact c59 w3 V h hm hs
  refine g_aload_n cx 0 d_8_20_0 rfl rfl ?_
  refine m_get cx (k := 3) d_8_20_1 t_901 ⟨by decide, rfl⟩ hm rfl ?_
  refine g_iconst cx (v := 4) d_8_20_4 (by decide) ?_
  refine g_icmp_ne cx d_8_20_5 rfl (fun c5 => ?_) (fun c5 => ?_)
  · skip
    refine g_lconst cx (v := 0) d_8_20_41 (by decide) ?_
    refine g_topl (fun V eV => ?_)
    refine g_lstore_n cx (lv' := [(1, .long V), (0, .ref am)]) d_8_20_42 rfl (by decide) rfl ?_
    exact c43 V h hm hs
  · skip
    refine g_aload_n cx 0 d_8_20_8 rfl rfl ?_
    refine g_iconst cx (v := 2) d_8_20_9 (by decide) ?_
    refine g_bipush cx (v := 102) d_8_20_10 (by decide) ?_
    refine g_bipush cx (v := 114) d_8_20_12 (by decide) ?_
    refine g_bipush cx (v := 111) d_8_20_14 (by decide) ?_
    refine g_bipush cx (v := 109) d_8_20_16 (by decide) ?_
    refine m_call 2 cx (As := [.int (nI 2), .int 102, .int 114, .int 111, .int 109]) (n := 5) (mc_says hSt hA x 2 pn bg en 102 114 111 109 hpt (by decide)) d_8_20_18 t_1005 t_1007 ts_27 t_1008 rfl ⟨rfl, by decide +kernel⟩ rfl ⟨by decide, by decide⟩ (Nat.le_of_ble_eq_true rfl) hm hs (fun v18 x18 h hm hs r18 => ?_)
    obtain ⟨e18, r18⟩ := r18
    rw [e18] at hm
    rcases r18 with rfl | rfl
    · skip
      refine g_if_eq cx d_8_20_21 rfl (fun c21 => absurd c21 (by decide)) (fun c21 => ?_)
      refine g_aload_n cx 0 d_8_20_24 rfl rfl ?_
      refine g_iconst cx (v := 2) d_8_20_25 (by decide) ?_
      refine g_iconst cx (v := 4) d_8_20_26 (by decide) ?_
      refine m_call 2 cx (As := [.int (nI 2), .int 4]) (n := 2) (mc_isLong hSt hA x 2 pn bg en 4 hpt (by decide)) d_8_20_27 t_1009 t_1011 ts_28 t_1012 rfl ⟨rfl, by decide +kernel⟩ rfl ⟨by decide, by decide⟩ (Nat.le_of_ble_eq_true rfl) hm hs (fun v27 x27 h hm hs r27 => ?_)
      obtain ⟨e27, r27⟩ := r27
      rw [e27] at hm
      rcases r27 with ⟨rfl, -⟩ | rfl
      · skip
        refine g_if_eq cx d_8_20_30 rfl (fun c30 => absurd c30 (by decide)) (fun c30 => ?_)
        refine g_aload_n cx 0 d_8_20_33 rfl rfl ?_
        refine g_iconst cx (v := 1) d_8_20_34 (by decide) ?_
        refine m_call 2 cx (As := [.int (nI 1)]) (n := 1) (mc_nameOf hSt hA x 1 pn bg en hpt (by decide)) d_8_20_35 t_1025 t_1027 ts_32 t_1028 rfl ⟨rfl, by decide +kernel⟩ rfl ⟨by decide, by decide⟩ (Nat.le_of_ble_eq_true rfl) hm hs (fun v35 x35 h hm hs r35 => ?_)
        obtain ⟨e35, V35, rfl⟩ := r35
        rw [e35] at hm
        refine g_goto cx d_8_20_38 rfl ?_
        refine g_topl (fun V eV => ?_)
        refine g_lstore_n cx (lv' := [(1, .long V), (0, .ref am)]) d_8_20_42 rfl (by decide) rfl ?_
        exact c43 V h hm hs
      · skip
        refine g_if_eq cx d_8_20_30 rfl (fun c30 => ?_) (fun c30 => absurd rfl c30)
        refine g_lconst cx (v := 0) d_8_20_41 (by decide) ?_
        refine g_topl (fun V eV => ?_)
        refine g_lstore_n cx (lv' := [(1, .long V), (0, .ref am)]) d_8_20_42 rfl (by decide) rfl ?_
        exact c43 V h hm hs
    · skip
      refine g_if_eq cx d_8_20_21 rfl (fun c21 => ?_) (fun c21 => absurd rfl c21)
      refine g_lconst cx (v := 0) d_8_20_41 (by decide) ?_
      refine g_topl (fun V eV => ?_)
      refine g_lstore_n cx (lv' := [(1, .long V), (0, .ref am)]) d_8_20_42 rfl (by decide) rfl ?_
      exact c43 V h hm hs
end M6
