/-! The reference's methods that a line leads to, by S. -/
section M12
variable {l : Launch} {D : va_G} {z0 : Nat} {E : State → Prop} {am : Nat} {ad : Nat → Nat}
set_option maxHeartbeats 4000000 in
theorem mc_newArchiveG (hSt : Stb z0 E) (hA : Ad am ad) (x : MS) (pn cd : Nat) (bg en : Nat → Nat) (S : SL) (nm ld im kp : Nat → Nat) (mn : Nat) (hpt : PT x pn bg en) (hM : MI x (S 4 0) (S 0 0) nm ld im kp mn) (hL : LKS S x) (htx : ∀ i, i < pn → ∀ j, j < en i → x.2.1 1 j = nI (chr cd j)) : MC l y_163 prog_8_method_14_code 2 (Option.some Jvm.ClassFile.FieldType.int) 2 D z0 E am ad [] x (fun r' x' => ∃ (an : Int32) (S' : SL), r' = some (.int an) ∧ ((pn = 2 ∧ DoA S (en 1 - bg 1) (sub cd (bg 1) (en 1 - bg 1)) an S') ∨ (pn ≠ 2 ∧ an = -1 ∧ S' = S)) ∧ LKS S' x' ∧ MIx x' ∧ x'.1 2 = x.1 2 ∧ x'.1 0 = x.1 0) := by
  refine mc_of hSt rfl (Nat.le_of_ble_eq_true rfl) ?_
  intro h0 h p e s m args below meth c cx hm hs
  obtain ⟨hIA, hIR, hNm, hLd, hLo, hIm, hFr, hPa, hKp, hMn⟩ := id hM
  have hMx : MIx x := MIx.of hM
  have hal := hIA.2
  have hrl := hIR.2
  have c18 : ∀ (W : Nat) (hW : ((pn = 2 ∧ WordP cd (bg 1) (en 1 - bg 1) ∧ W = wcp cd (bg 1) (en 1 - bg 1)) ∨ (¬ (pn = 2 ∧ WordP cd (bg 1) (en 1 - bg 1)) ∧ W = 0))) (h : hp) (hm : Mo D am ad x h) (hs : Sm am ad h0 h), G p l e (rmL 2) s m args below meth c 2 D z0 E (MQp D am ad h0 (fun r' x' => ∃ (an : Int32) (S' : SL), r' = some (.int an) ∧ ((pn = 2 ∧ DoA S (en 1 - bg 1) (sub cd (bg 1) (en 1 - bg 1)) an S') ∨ (pn ≠ 2 ∧ an = -1 ∧ S' = S)) ∧ LKS S' x' ∧ MIx x' ∧ x'.1 2 = x.1 2 ∧ x'.1 0 = x.1 0)) 0 0 18 [(1, .int (nI W)), (0, .ref am)] [] h 0 0 := by
    intro W hW h hm hs
    refine g_iload_n cx 0 d_8_14_18 rfl rfl ?_
    refine g_if_eq cx d_8_14_19 rfl (fun c19 => ?_) (fun c19 => ?_)
    · skip
      have hnb : (pn = 2 ∧ ¬ (WordOk (en 1 - bg 1) (sub cd (bg 1) (en 1 - bg 1)) ∧ ANo S (en 1 - bg 1) (sub cd (bg 1) (en 1 - bg 1)))) ∨ pn ≠ 2 := by
        by_cases hp2 : pn = 2
        · refine Or.inl ⟨hp2, fun q => ?_⟩
          rcases hW with ⟨w1, w2, rfl⟩ | ⟨w1, w2⟩
          · first
              | exact absurd ((nI_eq (b := 0) (by have := (wcp_dg w2).1; omega) (by decide)).mp c19) (by have := wcp_pos w2; omega)
              | exact q.2 j hj ((hL.a hj q.1).mpr (by rw [wcp_sub]; exact hjc))
          · exact w1 ⟨hp2, WordP.ok.mpr q.1⟩
        · exact Or.inr hp2
      refine g_iconst cx (v := (-1)) d_8_14_30 (by decide) ?_
      exact m_iret cx d_8_14_31 rfl rfl hm hs ⟨-1, S, rfl, hnb.imp (fun q => ⟨q.1, Or.inl ⟨rfl, rfl, q.2⟩⟩) (fun q => ⟨q, rfl, rfl⟩), hL, hMx, rfl, rfl⟩
    · skip
      refine g_aload_n cx 1 d_8_14_22 rfl rfl ?_
      refine g_iload_n cx 0 d_8_14_23 rfl rfl ?_
      refine m_call 2 cx (As := [.int (nI W)]) (n := 1) (mc_archiveOfF hSt hA x (nI W) (S 4 0) hIA.1 hIA.2) d_8_14_24 t_1030 t_1032 ts_33 t_1033 rfl ⟨rfl, by decide +kernel⟩ rfl ⟨by decide, by decide⟩ (Nat.le_of_ble_eq_true rfl) hm hs (fun v24 x24 h hm hs r24 => ?_)
      obtain ⟨e24, r24⟩ := r24
      rw [e24] at hm
      rcases r24 with ⟨j, hj, rfl, hjc, -⟩ | ⟨rfl, hnone⟩
      · skip
        refine g_if_lt cx d_8_14_27 rfl (fun c27 => absurd c27 (nI_pos (by omega))) (fun c27 => ?_)
        have hnb : (pn = 2 ∧ ¬ (WordOk (en 1 - bg 1) (sub cd (bg 1) (en 1 - bg 1)) ∧ ANo S (en 1 - bg 1) (sub cd (bg 1) (en 1 - bg 1)))) ∨ pn ≠ 2 := by
          by_cases hp2 : pn = 2
          · refine Or.inl ⟨hp2, fun q => ?_⟩
            rcases hW with ⟨w1, w2, rfl⟩ | ⟨w1, w2⟩
            · first
                | exact absurd ((nI_eq (b := 0) (by have := (wcp_dg w2).1; omega) (by decide)).mp c19) (by have := wcp_pos w2; omega)
                | exact q.2 j hj ((hL.a hj q.1).mpr (by rw [wcp_sub]; exact hjc))
            · exact w1 ⟨hp2, WordP.ok.mpr q.1⟩
          · exact Or.inr hp2
        refine g_iconst cx (v := (-1)) d_8_14_30 (by decide) ?_
        exact m_iret cx d_8_14_31 rfl rfl hm hs ⟨-1, S, rfl, hnb.imp (fun q => ⟨q.1, Or.inl ⟨rfl, rfl, q.2⟩⟩) (fun q => ⟨q, rfl, rfl⟩), hL, hMx, rfl, rfl⟩
      · skip
        refine g_if_lt cx d_8_14_27 rfl (fun c27 => ?_) (fun c27 => absurd (by decide) c27)
        have hg : pn = 2 ∧ (WordOk (en 1 - bg 1) (sub cd (bg 1) (en 1 - bg 1)) ∧ ANo S (en 1 - bg 1) (sub cd (bg 1) (en 1 - bg 1))) ∧ wcp (sub cd (bg 1) (en 1 - bg 1)) 0 (en 1 - bg 1) = W := by
          rcases hW with ⟨w1, w2, w3⟩ | ⟨w1, w2⟩
          · have w4 := WordP.ok.mp w2
            exact ⟨w1, ⟨w4, fun j hj q => hnone j hj (by rw [w3, ← wcp_sub]; exact (hL.a hj w4).mp q)⟩, wcp_sub.trans w3.symm⟩
          · exact absurd (by rw [w2]; rfl) c19
        refine g_aload_n cx 1 d_8_14_32 rfl rfl ?_
        refine m_get cx (k := 6) d_8_14_33 t_904 ⟨by decide, rfl⟩ hm rfl ?_
        refine g_bipush cx (v := 6) d_8_14_36 (by decide) ?_
        refine g_icmp_ne cx d_8_14_38 rfl (fun c38 => ?_) (fun c38 => ?_)
        · skip
          have hr8 : S 4 0 < 6 := by
            rcases Nat.lt_or_ge (S 4 0) 6 with q | q
            · exact q
            · exact absurd (by show _ = _; rw [hIA.1, show S 4 0 = 6 by omega]; rfl) c38
          refine g_aload_n cx 1 d_8_14_44 rfl rfl ?_
          refine m_get cx (k := 7) d_8_14_45 t_905 ⟨by decide, rfl⟩ hm rfl ?_
          refine g_aload_n cx 1 d_8_14_48 rfl rfl ?_
          refine m_get cx (k := 6) d_8_14_49 t_904 ⟨by decide, rfl⟩ hm rfl ?_
          refine g_iload_n cx 0 d_8_14_52 rfl rfl ?_
          refine m_st1 cx hA d_8_14_53 (by decide) hm hs hIA.1 ⟨(show S 4 0 < 6 from hr8), by decide⟩ (fun h hm hs => ?_)
          refine g_aload_n cx 1 d_8_14_54 rfl rfl ?_
          refine g_dup cx d_8_14_55 rfl ?_
          refine m_get cx (k := 6) d_8_14_56 t_904 ⟨by decide, rfl⟩ hm rfl ?_
          refine g_iconst cx (v := 1) d_8_14_59 (by decide) ?_
          refine g_iadd cx d_8_14_60 ?_
          refine g_topi (fun t1 et1 => ?_)
          obtain rfl : t1 = nI (S 4 0 + 1) := et1.trans (by show x.1 6 + 1 = _; rw [hIA.1, nI_1])
          refine m_put cx (k := 6) hA d_8_14_61 t_904 ⟨by decide, rfl, rfl, rfl, by decide +kernel⟩ hm hs (fun h hm hs => ?_)
          refine g_iconst cx (v := 1) d_8_14_64 (by decide) ?_
          exact m_iret cx d_8_14_65 rfl rfl hm hs ⟨1, addA S (en 1 - bg 1) (sub cd (bg 1) (en 1 - bg 1)), rfl, Or.inl ⟨hg.1, Or.inr (Or.inr ⟨rfl, rfl, hg.2.1, hr8⟩)⟩, (by have h9 := hL.addA hg.2.1.1 hr8; rw [hg.2.2] at h9; exact h9), ⟨S 4 0 + 1, S 0 0, nm, ld, im, kp, mn, ⟨rfl, by omega⟩, hIR, hNm, hLd, hLo, hIm, hFr, hPa, hKp, hMn⟩, rfl, rfl⟩
        · skip
          have h6 : ¬ S 4 0 < 6 := fun q => by
            have h9 : nI (S 4 0) = nI 6 := hIA.1.symm.trans c38
            have := (nI_eq (by omega) (by decide)).mp h9
            omega
          refine g_bipush cx (v := (-2)) d_8_14_41 (by decide) ?_
          exact m_iret cx d_8_14_43 rfl rfl hm hs ⟨-2, S, rfl, Or.inl ⟨hg.1, Or.inr (Or.inl ⟨rfl, rfl, hg.2.1, h6⟩)⟩, hL, hMx, rfl, rfl⟩
  refine g_aload_n cx 0 d_8_14_0 rfl rfl ?_
  refine m_get cx (k := 3) d_8_14_1 t_901 ⟨by decide, rfl⟩ hm rfl ?_
  refine g_iconst cx (v := 2) d_8_14_4 (by decide) ?_
  refine g_icmp_ne cx d_8_14_5 rfl (fun c5 => ?_) (fun c5 => ?_)
  · skip
    have hp2 : pn ≠ 2 := fun q => c5 (by show x.1 3 = 2; rw [hpt.1, q]; rfl)
    refine g_iconst cx (v := 0) d_8_14_16 (by decide) ?_
    refine g_topi (fun w1 ew1 => ?_)
    refine g_istore_n cx (lv' := [(1, .int w1), (0, .ref am)]) d_8_14_17 rfl (by decide) rfl ?_
    first
      | exact (by
          obtain rfl : w1 = nI W := ew1
          exact c18 W (by rcases hW with ⟨q1, q2, q3⟩ | ⟨q1, q2⟩
                          · exact Or.inl ⟨hp2, q2, q3⟩
                          · exact Or.inr ⟨fun q => q1 ⟨by omega, q.2⟩, q2⟩) h hm hs)
      | exact (by
          obtain rfl : w1 = nI 0 := ew1
          exact c18 0 (Or.inr ⟨fun q => hp2 q.1, rfl⟩) h hm hs)
  · skip
    have hp2 : pn = 2 := (nI_eq (b := 2) (by have := hpt.2.1; omega) (by decide)).mp (hpt.1.symm.trans c5)
    refine g_aload_n cx 0 d_8_14_8 rfl rfl ?_
    refine g_iconst cx (v := 1) d_8_14_9 (by decide) ?_
    refine m_call 2 cx (As := [.int (nI 1)]) (n := 1) (mc_wordOfF hSt hA x 1 pn cd bg en hpt (by decide) (htx 1)) d_8_14_10 t_1021 t_1023 ts_31 t_1024 rfl ⟨rfl, by decide +kernel⟩ rfl ⟨by decide, by decide⟩ (Nat.le_of_ble_eq_true rfl) hm hs (fun v10 x10 h hm hs r10 => ?_)
    obtain ⟨e10, W, rfl, hW⟩ := r10
    rw [e10] at hm
    refine g_goto cx d_8_14_13 rfl ?_
    refine g_topi (fun w1 ew1 => ?_)
    refine g_istore_n cx (lv' := [(1, .int w1), (0, .ref am)]) d_8_14_17 rfl (by decide) rfl ?_
    first
      | exact (by
          obtain rfl : w1 = nI W := ew1
          exact c18 W (by rcases hW with ⟨q1, q2, q3⟩ | ⟨q1, q2⟩
                          · exact Or.inl ⟨hp2, q2, q3⟩
                          · exact Or.inr ⟨fun q => q1 ⟨by omega, q.2⟩, q2⟩) h hm hs)
      | exact (by
          obtain rfl : w1 = nI 0 := ew1
          exact c18 0 (Or.inr ⟨fun q => hp2 q.1, rfl⟩) h hm hs)
set_option maxHeartbeats 4000000 in
theorem mc_newRealmG (hSt : Stb z0 E) (hA : Ad am ad) (x : MS) (pn cd : Nat) (bg en : Nat → Nat) (S : SL) (nm ld im kp : Nat → Nat) (mn : Nat) (hpt : PT x pn bg en) (hM : MI x (S 4 0) (S 0 0) nm ld im kp mn) (hL : LKS S x) (htx : ∀ i, i < pn → ∀ j, j < en i → x.2.1 1 j = nI (chr cd j)) : MC l y_169 prog_8_method_17_code 2 (Option.some Jvm.ClassFile.FieldType.int) 2 D z0 E am ad [] x (fun r' x' => ∃ (an : Int32) (S' : SL), r' = some (.int an) ∧ ((pn = 2 ∧ DoR S (en 1 - bg 1) (sub cd (bg 1) (en 1 - bg 1)) an S') ∨ (pn ≠ 2 ∧ an = -1 ∧ S' = S)) ∧ LKS S' x' ∧ MIx x' ∧ x'.1 2 = x.1 2 ∧ x'.1 0 = x.1 0) := by
  refine mc_of hSt rfl (Nat.le_of_ble_eq_true rfl) ?_
  intro h0 h p e s m args below meth c cx hm hs
  obtain ⟨hIA, hIR, hNm, hLd, hLo, hIm, hFr, hPa, hKp, hMn⟩ := id hM
  have hMx : MIx x := MIx.of hM
  have hal := hIA.2
  have hrl := hIR.2
  have c18 : ∀ (W : Nat) (hW : ((pn = 2 ∧ WordP cd (bg 1) (en 1 - bg 1) ∧ W = wcp cd (bg 1) (en 1 - bg 1)) ∨ (¬ (pn = 2 ∧ WordP cd (bg 1) (en 1 - bg 1)) ∧ W = 0))) (h : hp) (hm : Mo D am ad x h) (hs : Sm am ad h0 h), G p l e (rmL 2) s m args below meth c 2 D z0 E (MQp D am ad h0 (fun r' x' => ∃ (an : Int32) (S' : SL), r' = some (.int an) ∧ ((pn = 2 ∧ DoR S (en 1 - bg 1) (sub cd (bg 1) (en 1 - bg 1)) an S') ∨ (pn ≠ 2 ∧ an = -1 ∧ S' = S)) ∧ LKS S' x' ∧ MIx x' ∧ x'.1 2 = x.1 2 ∧ x'.1 0 = x.1 0)) 0 0 18 [(1, .int (nI W)), (0, .ref am)] [] h 0 0 := by
    intro W hW h hm hs
    refine g_iload_n cx 0 d_8_17_18 rfl rfl ?_
    refine g_if_eq cx d_8_17_19 rfl (fun c19 => ?_) (fun c19 => ?_)
    · skip
      have hnb : (pn = 2 ∧ ¬ (WordOk (en 1 - bg 1) (sub cd (bg 1) (en 1 - bg 1)) ∧ RNo S (en 1 - bg 1) (sub cd (bg 1) (en 1 - bg 1)))) ∨ pn ≠ 2 := by
        by_cases hp2 : pn = 2
        · refine Or.inl ⟨hp2, fun q => ?_⟩
          rcases hW with ⟨w1, w2, rfl⟩ | ⟨w1, w2⟩
          · first
              | exact absurd ((nI_eq (b := 0) (by have := (wcp_dg w2).1; omega) (by decide)).mp c19) (by have := wcp_pos w2; omega)
              | exact q.2 j hj ((hL.r hj q.1).mpr (by rw [wcp_sub]; exact hjc))
          · exact w1 ⟨hp2, WordP.ok.mpr q.1⟩
        · exact Or.inr hp2
      refine g_iconst cx (v := (-1)) d_8_17_30 (by decide) ?_
      exact m_iret cx d_8_17_31 rfl rfl hm hs ⟨-1, S, rfl, hnb.imp (fun q => ⟨q.1, Or.inl ⟨rfl, rfl, q.2⟩⟩) (fun q => ⟨q, rfl, rfl⟩), hL, hMx, rfl, rfl⟩
    · skip
      refine g_aload_n cx 1 d_8_17_22 rfl rfl ?_
      refine g_iload_n cx 0 d_8_17_23 rfl rfl ?_
      refine m_call 2 cx (As := [.int (nI W)]) (n := 1) (mc_realmOfF hSt hA x (nI W) (S 0 0) hIR.1 hIR.2) d_8_17_24 t_1046 t_1048 ts_37 t_1049 rfl ⟨rfl, by decide +kernel⟩ rfl ⟨by decide, by decide⟩ (Nat.le_of_ble_eq_true rfl) hm hs (fun v24 x24 h hm hs r24 => ?_)
      obtain ⟨e24, r24⟩ := r24
      rw [e24] at hm
      rcases r24 with ⟨j, hj, rfl, hjc, -⟩ | ⟨rfl, hnone⟩
      · skip
        refine g_if_lt cx d_8_17_27 rfl (fun c27 => absurd c27 (nI_pos (by omega))) (fun c27 => ?_)
        have hnb : (pn = 2 ∧ ¬ (WordOk (en 1 - bg 1) (sub cd (bg 1) (en 1 - bg 1)) ∧ RNo S (en 1 - bg 1) (sub cd (bg 1) (en 1 - bg 1)))) ∨ pn ≠ 2 := by
          by_cases hp2 : pn = 2
          · refine Or.inl ⟨hp2, fun q => ?_⟩
            rcases hW with ⟨w1, w2, rfl⟩ | ⟨w1, w2⟩
            · first
                | exact absurd ((nI_eq (b := 0) (by have := (wcp_dg w2).1; omega) (by decide)).mp c19) (by have := wcp_pos w2; omega)
                | exact q.2 j hj ((hL.r hj q.1).mpr (by rw [wcp_sub]; exact hjc))
            · exact w1 ⟨hp2, WordP.ok.mpr q.1⟩
          · exact Or.inr hp2
        refine g_iconst cx (v := (-1)) d_8_17_30 (by decide) ?_
        exact m_iret cx d_8_17_31 rfl rfl hm hs ⟨-1, S, rfl, hnb.imp (fun q => ⟨q.1, Or.inl ⟨rfl, rfl, q.2⟩⟩) (fun q => ⟨q, rfl, rfl⟩), hL, hMx, rfl, rfl⟩
      · skip
        refine g_if_lt cx d_8_17_27 rfl (fun c27 => ?_) (fun c27 => absurd (by decide) c27)
        have hg : pn = 2 ∧ (WordOk (en 1 - bg 1) (sub cd (bg 1) (en 1 - bg 1)) ∧ RNo S (en 1 - bg 1) (sub cd (bg 1) (en 1 - bg 1))) ∧ wcp (sub cd (bg 1) (en 1 - bg 1)) 0 (en 1 - bg 1) = W := by
          rcases hW with ⟨w1, w2, w3⟩ | ⟨w1, w2⟩
          · have w4 := WordP.ok.mp w2
            exact ⟨w1, ⟨w4, fun j hj q => hnone j hj (by rw [w3, ← wcp_sub]; exact (hL.r hj w4).mp q)⟩, wcp_sub.trans w3.symm⟩
          · exact absurd (by rw [w2]; rfl) c19
        refine g_aload_n cx 1 d_8_17_32 rfl rfl ?_
        refine m_get cx (k := 11) d_8_17_33 t_909 ⟨by decide, rfl⟩ hm rfl ?_
        refine g_bipush cx (v := 8) d_8_17_36 (by decide) ?_
        refine g_icmp_ne cx d_8_17_38 rfl (fun c38 => ?_) (fun c38 => ?_)
        · skip
          have hr8 : S 0 0 < 8 := by
            rcases Nat.lt_or_ge (S 0 0) 8 with q | q
            · exact q
            · exact absurd (by show _ = _; rw [hIR.1, show S 0 0 = 8 by omega]; rfl) c38
          refine g_aload_n cx 1 d_8_17_44 rfl rfl ?_
          refine m_get cx (k := 12) d_8_17_45 t_910 ⟨by decide, rfl⟩ hm rfl ?_
          refine g_aload_n cx 1 d_8_17_48 rfl rfl ?_
          refine m_get cx (k := 11) d_8_17_49 t_909 ⟨by decide, rfl⟩ hm rfl ?_
          refine g_iload_n cx 0 d_8_17_52 rfl rfl ?_
          refine m_st1 cx hA d_8_17_53 (by decide) hm hs hIR.1 ⟨(show S 0 0 < 8 from hr8), by decide⟩ (fun h hm hs => ?_)
          refine g_aload_n cx 1 d_8_17_54 rfl rfl ?_
          refine m_get cx (k := 17) d_8_17_55 t_915 ⟨by decide, rfl⟩ hm rfl ?_
          refine g_aload_n cx 1 d_8_17_58 rfl rfl ?_
          refine m_get cx (k := 11) d_8_17_59 t_909 ⟨by decide, rfl⟩ hm rfl ?_
          refine g_iconst cx (v := (-1)) d_8_17_62 (by decide) ?_
          refine m_st1 cx hA d_8_17_63 (by decide) hm hs hIR.1 ⟨(show S 0 0 < 8 from hr8), by decide⟩ (fun h hm hs => ?_)
          refine g_aload_n cx 1 d_8_17_64 rfl rfl ?_
          refine g_dup cx d_8_17_65 rfl ?_
          refine m_get cx (k := 11) d_8_17_66 t_909 ⟨by decide, rfl⟩ hm rfl ?_
          refine g_iconst cx (v := 1) d_8_17_69 (by decide) ?_
          refine g_iadd cx d_8_17_70 ?_
          refine g_topi (fun t1 et1 => ?_)
          obtain rfl : t1 = nI (S 0 0 + 1) := et1.trans (by show x.1 11 + 1 = _; rw [hIR.1, nI_1])
          refine m_put cx (k := 11) hA d_8_17_71 t_909 ⟨by decide, rfl, rfl, rfl, by decide +kernel⟩ hm hs (fun h hm hs => ?_)
          refine g_iconst cx (v := 3) d_8_17_74 (by decide) ?_
          exact m_iret cx d_8_17_75 rfl rfl hm hs ⟨3, addR S (en 1 - bg 1) (sub cd (bg 1) (en 1 - bg 1)), rfl, Or.inl ⟨hg.1, Or.inr (Or.inr ⟨rfl, rfl, hg.2.1, hr8⟩)⟩, (by have h9 := hL.addR hg.2.1.1 hr8; rw [hg.2.2] at h9; exact h9), ⟨S 4 0, S 0 0 + 1, nm, ld, im, kp, mn, hIA, ⟨rfl, by omega⟩, hNm, hLd, hLo, hIm, hFr, (fun i hi => by
    show upd (x.2.1 17) (S 0 0) (-1) i = -1 ∨ ∃ g, g < i ∧ upd (x.2.1 17) (S 0 0) (-1) i = nI g
    by_cases hir : i = S 0 0
    · left; rw [hir]; exact pk_us
    · rw [pk_un hir]; exact hPa i (by omega)), hKp, hMn⟩, rfl, rfl⟩
        · skip
          have h6 : ¬ S 0 0 < 8 := fun q => by
            have h9 : nI (S 0 0) = nI 8 := hIR.1.symm.trans c38
            have := (nI_eq (by omega) (by decide)).mp h9
            omega
          refine g_bipush cx (v := (-2)) d_8_17_41 (by decide) ?_
          exact m_iret cx d_8_17_43 rfl rfl hm hs ⟨-2, S, rfl, Or.inl ⟨hg.1, Or.inr (Or.inl ⟨rfl, rfl, hg.2.1, h6⟩)⟩, hL, hMx, rfl, rfl⟩
  refine g_aload_n cx 0 d_8_17_0 rfl rfl ?_
  refine m_get cx (k := 3) d_8_17_1 t_901 ⟨by decide, rfl⟩ hm rfl ?_
  refine g_iconst cx (v := 2) d_8_17_4 (by decide) ?_
  refine g_icmp_ne cx d_8_17_5 rfl (fun c5 => ?_) (fun c5 => ?_)
  · skip
    have hp2 : pn ≠ 2 := fun q => c5 (by show x.1 3 = 2; rw [hpt.1, q]; rfl)
    refine g_iconst cx (v := 0) d_8_17_16 (by decide) ?_
    refine g_topi (fun w1 ew1 => ?_)
    refine g_istore_n cx (lv' := [(1, .int w1), (0, .ref am)]) d_8_17_17 rfl (by decide) rfl ?_
    first
      | exact (by
          obtain rfl : w1 = nI W := ew1
          exact c18 W (by rcases hW with ⟨q1, q2, q3⟩ | ⟨q1, q2⟩
                          · exact Or.inl ⟨hp2, q2, q3⟩
                          · exact Or.inr ⟨fun q => q1 ⟨by omega, q.2⟩, q2⟩) h hm hs)
      | exact (by
          obtain rfl : w1 = nI 0 := ew1
          exact c18 0 (Or.inr ⟨fun q => hp2 q.1, rfl⟩) h hm hs)
  · skip
    have hp2 : pn = 2 := (nI_eq (b := 2) (by have := hpt.2.1; omega) (by decide)).mp (hpt.1.symm.trans c5)
    refine g_aload_n cx 0 d_8_17_8 rfl rfl ?_
    refine g_iconst cx (v := 1) d_8_17_9 (by decide) ?_
    refine m_call 2 cx (As := [.int (nI 1)]) (n := 1) (mc_wordOfF hSt hA x 1 pn cd bg en hpt (by decide) (htx 1)) d_8_17_10 t_1021 t_1023 ts_31 t_1024 rfl ⟨rfl, by decide +kernel⟩ rfl ⟨by decide, by decide⟩ (Nat.le_of_ble_eq_true rfl) hm hs (fun v10 x10 h hm hs r10 => ?_)
    obtain ⟨e10, W, rfl, hW⟩ := r10
    rw [e10] at hm
    refine g_goto cx d_8_17_13 rfl ?_
    refine g_topi (fun w1 ew1 => ?_)
    refine g_istore_n cx (lv' := [(1, .int w1), (0, .ref am)]) d_8_17_17 rfl (by decide) rfl ?_
    first
      | exact (by
          obtain rfl : w1 = nI W := ew1
          exact c18 W (by rcases hW with ⟨q1, q2, q3⟩ | ⟨q1, q2⟩
                          · exact Or.inl ⟨hp2, q2, q3⟩
                          · exact Or.inr ⟨fun q => q1 ⟨by omega, q.2⟩, q2⟩) h hm hs)
      | exact (by
          obtain rfl : w1 = nI 0 := ew1
          exact c18 0 (Or.inr ⟨fun q => hp2 q.1, rfl⟩) h hm hs)
set_option maxHeartbeats 4000000 in
theorem mc_isShutG (hSt : Stb z0 E) (hA : Ad am ad) (x : MS) (S : SL) (hL : LKS S x) : MC l y_172 prog_8_method_18_code 1 (Option.some Jvm.ClassFile.FieldType.boolean) 0 D z0 E am ad [] x (fun r x' => x' = x ∧ ((r = some (.int 1) ∧ Shut S) ∨ (r = some (.int 0) ∧ ¬ Shut S ∧ 0 < S 0 0))) := by
  refine mc_of hSt rfl (Nat.le_of_ble_eq_true rfl) ?_
  intro h0 h p e s m args below meth c cx hm hs
  refine g_aload_n cx 0 d_8_18_0 rfl rfl ?_
  refine m_get cx (k := 11) d_8_18_1 t_909 ⟨by decide, rfl⟩ hm rfl ?_
  refine g_if_eq cx d_8_18_4 rfl (fun c4 => ?_) (fun c4 => ?_)
  · skip
    have hsh : Shut S := hL.sh.mpr (by
      first
        | exact Or.inr c18
        | exact Or.inl ((nI_eq (b := 0) (by have := hL.1.1; omega) (by decide)).mp (hL.1.2.symm.trans c4)))
    refine g_iconst cx (v := 1) d_8_18_21 (by decide) ?_
    refine g_goto cx d_8_18_22 rfl ?_
    first
      | exact m_iret cx d_8_18_26 rfl rfl hm hs ⟨rfl, Or.inl ⟨rfl, hsh⟩⟩
      | exact m_iret cx d_8_18_26 rfl rfl hm hs ⟨rfl, Or.inr ⟨rfl, hns, h1⟩⟩
  · skip
    have h1 : 0 < S 0 0 := Nat.pos_of_ne_zero (fun q => c4 (by show x.1 11 = 0; rw [hL.1.2, q]; rfl))
    refine g_aload_n cx 0 d_8_18_7 rfl rfl ?_
    refine m_get cx (k := 22) d_8_18_8 t_920 ⟨by decide, rfl⟩ hm rfl ?_
    refine g_aload_n cx 0 d_8_18_11 rfl rfl ?_
    refine m_get cx (k := 11) d_8_18_12 t_909 ⟨by decide, rfl⟩ hm rfl ?_
    refine g_iconst cx (v := 1) d_8_18_15 (by decide) ?_
    refine g_isub cx d_8_18_16 ?_
    refine m_ld4 cx d_8_18_17 (by decide) hm (show x.1 11 - 1 = nI (S 0 0 - 1) by rw [hL.1.2]; exact pk_sub (b := 1) h1) ⟨(show S 0 0 - 1 < 8 by have := hL.1.1; omega), by decide⟩ ?_
    refine g_if_eq cx d_8_18_18 rfl (fun c18 => ?_) (fun c18 => ?_)
    · skip
      have hns : ¬ Shut S := fun q => (hL.sh.mp q).elim (fun z => by omega) (fun z => z c18)
      refine g_iconst cx (v := 0) d_8_18_25 (by decide) ?_
      first
        | exact m_iret cx d_8_18_26 rfl rfl hm hs ⟨rfl, Or.inl ⟨rfl, hsh⟩⟩
        | exact m_iret cx d_8_18_26 rfl rfl hm hs ⟨rfl, Or.inr ⟨rfl, hns, h1⟩⟩
    · skip
      have hsh : Shut S := hL.sh.mpr (by
        first
          | exact Or.inr c18
          | exact Or.inl ((nI_eq (b := 0) (by have := hL.1.1; omega) (by decide)).mp (hL.1.2.symm.trans c4)))
      refine g_iconst cx (v := 1) d_8_18_21 (by decide) ?_
      refine g_goto cx d_8_18_22 rfl ?_
      first
        | exact m_iret cx d_8_18_26 rfl rfl hm hs ⟨rfl, Or.inl ⟨rfl, hsh⟩⟩
        | exact m_iret cx d_8_18_26 rfl rfl hm hs ⟨rfl, Or.inr ⟨rfl, hns, h1⟩⟩
set_option maxHeartbeats 4000000 in
theorem mc_orderedG (hSt : Stb z0 E) (hA : Ad am ad) (x : MS) (v : Int32) (S : SL) (nm ld im kp : Nat → Nat) (mn : Nat) (hM : MI x (S 4 0) (S 0 0) nm ld im kp mn) (hL : LKS S x) : MC l y_175 prog_8_method_22_code 2 (Option.some Jvm.ClassFile.FieldType.int) 1 D z0 E am ad [.int v] x (fun r' x' => ∃ (an : Int32) (S' : SL), r' = some (.int an) ∧ DoO S an S' ∧ LKS S' x' ∧ MIx x' ∧ x'.1 2 = x.1 2 ∧ x'.1 0 = x.1 0) := by
  refine mc_of hSt rfl (Nat.le_of_ble_eq_true rfl) ?_
  intro h0 h p e s m args below meth c cx hm hs
  refine g_aload_n cx 0 d_8_22_0 rfl rfl ?_
  refine m_call 1 cx (As := []) (n := 0) (mc_isShutG hSt hA x S hL) d_8_22_1 t_1054 t_1056 ts_39 t_1057 rfl ⟨rfl, by decide +kernel⟩ rfl ⟨by decide, by decide⟩ (Nat.le_of_ble_eq_true rfl) hm hs (fun v1 x1 h hm hs r1 => ?_)
  obtain ⟨e1, r1⟩ := r1
  rw [e1] at hm
  rcases r1 with ⟨rfl, hsh⟩ | ⟨rfl, hns, hr0⟩
  · skip
    refine g_if_eq cx d_8_22_4 rfl (fun c4 => absurd c4 (by decide)) (fun c4 => ?_)
    refine g_bipush cx (v := (-2)) d_8_22_7 (by decide) ?_
    exact m_iret cx d_8_22_9 rfl rfl hm hs ⟨-2, S, rfl, ⟨rfl, Or.inl ⟨rfl, hsh⟩⟩, hL, MIx.of hM, rfl, rfl⟩
  · skip
    refine g_if_eq cx d_8_22_4 rfl (fun c4 => ?_) (fun c4 => absurd rfl c4)
    refine g_aload_n cx 0 d_8_22_10 rfl rfl ?_
    refine m_get cx (k := 23) d_8_22_11 t_921 ⟨by decide, rfl⟩ hm rfl ?_
    refine g_aload_n cx 0 d_8_22_14 rfl rfl ?_
    refine m_get cx (k := 11) d_8_22_15 t_909 ⟨by decide, rfl⟩ hm rfl ?_
    refine g_iconst cx (v := 1) d_8_22_18 (by decide) ?_
    refine g_isub cx d_8_22_19 ?_
    refine g_iload_n cx 1 d_8_22_20 rfl rfl ?_
    refine m_st4 cx hA d_8_22_21 (by decide) hm hs (show x.1 11 - 1 = nI (S 0 0 - 1) by rw [hL.1.2]; exact pk_sub (b := 1) hr0) ⟨(show S 0 0 - 1 < 8 by have := hL.1.1; omega), by decide⟩ (fun h hm hs => ?_)
    refine g_iconst cx (v := 4) d_8_22_22 (by decide) ?_
    exact m_iret cx d_8_22_23 rfl rfl hm hs ⟨4, S, rfl, ⟨rfl, Or.inr ⟨rfl, hns⟩⟩, hL.kf ⟨⟨rfl, rfl⟩, ⟨rfl, rfl, rfl, rfl, rfl, rfl, rfl⟩, rfl⟩, ⟨S 4 0, S 0 0, nm, ld, im, kp, mn, hM⟩, rfl, rfl⟩
set_option maxHeartbeats 4000000 in
theorem mc_isInG (hSt : Stb z0 E) (hA : Ad am ad) (x : MS) (q t : Nat) (nv : Int64) (hq : q < 6) (ht : x.2.1 8 q = nI t) (htl : t ≤ 6) : MC l y_168 prog_8_method_15_code 6 (Option.some Jvm.ClassFile.FieldType.boolean) 0 D z0 E am ad [.int (nI q), .long nv] x (fun r x' => x' = x ∧ ((r = some (.int 1) ∧ ∃ j, j < t ∧ x.2.2 10 (6 * q + j) = nv) ∨ (r = some (.int 0) ∧ ∀ j, j < t → ¬ x.2.2 10 (6 * q + j) = nv))) := by
  refine mc_of hSt rfl (Nat.le_of_ble_eq_true rfl) ?_
  intro h0 h p e s m args below meth c cx hm hs
  have hb : 6 * nI q + x.2.1 8 q = nI (6 * q + t) := by rw [ht, show (6 : Int32) = nI 6 from rfl, pk_mul, nI_add]
  have lp : ∀ (n : Nat) (k : Nat) (fl : Int32), ((fl = 1 ∧ ∃ j, j < t ∧ x.2.2 10 (6 * q + j) = nv) ∨ (fl = 0 ∧ ∀ j, 6 * q + j < k → ¬ x.2.2 10 (6 * q + j) = nv)) → 6 * q ≤ k → k ≤ 6 * q + t → 6 * q + t - k < n → G p l e (rmL 0) s m args below meth c 6 D z0 E (MQp D am ad h0 (fun r x' => x' = x ∧ ((r = some (.int 1) ∧ ∃ j, j < t ∧ x.2.2 10 (6 * q + j) = nv) ∨ (r = some (.int 0) ∧ ∀ j, j < t → ¬ x.2.2 10 (6 * q + j) = nv)))) 0 0 9 [(5, .int (nI k)), (4, .int fl), (0, .ref am), (1, .int (nI q)), (2, .long nv)] [] h 0 0 := by
    intro n
    induction n with
    | zero => intro k fl hfl hk0 hk1 hn; exact absurd hn (Nat.not_lt_zero _)
    | succ n ih =>
      intro k fl hfl hk0 hk1 hn
      refine g_iload cx 0 d_8_15_9 rfl ?_
      refine g_bipush cx (v := 6) d_8_15_11 (by decide) ?_
      refine g_iload_n cx 3 d_8_15_13 rfl rfl ?_
      refine g_imul cx d_8_15_14 ?_
      refine g_aload_n cx 2 d_8_15_15 rfl rfl ?_
      refine m_get cx (k := 8) d_8_15_16 t_906 ⟨by decide, rfl⟩ hm rfl ?_
      refine g_iload_n cx 3 d_8_15_19 rfl rfl ?_
      refine m_ld1 cx d_8_15_20 (by decide) hm rfl ⟨(show q < 6 from hq), by decide⟩ ?_
      refine g_iadd cx d_8_15_21 ?_
      refine g_icmp_ge cx d_8_15_22 rfl (fun c22 => ?_) (fun c22 => ?_)
      · skip
        have hke : k = 6 * q + t := by
          have h9 : ¬ k < 6 * q + t := fun y => absurd c22 (by rw [hb]; exact nI_ge y (by omega))
          omega
        refine g_iload cx 1 d_8_15_55 rfl ?_
        rcases hfl with ⟨rfl, z⟩ | ⟨rfl, z⟩
        · exact m_iret cx d_8_15_57 rfl rfl hm hs ⟨rfl, Or.inl ⟨rfl, z⟩⟩
        · exact m_iret cx d_8_15_57 rfl rfl hm hs ⟨rfl, Or.inr ⟨rfl, fun j hj => z j (by omega)⟩⟩
      · skip
        have hk : k < 6 * q + t := Nat.lt_of_not_le (fun y => c22 (by rw [hb]; exact nI_le y (by omega)))
        refine g_iload cx 1 d_8_15_25 rfl ?_
        refine g_if_ne cx d_8_15_27 rfl (fun c27 => ?_) (fun c27 => ?_)
        · skip
          refine g_iconst cx (v := 1) d_8_15_42 (by decide) ?_
          refine g_goto cx d_8_15_43 rfl ?_
          refine g_topi (fun f1 ef1 => ?_)
          have hf1 : ((f1 = 1 ∧ ∃ j, j < t ∧ x.2.2 10 (6 * q + j) = nv) ∨ (f1 = 0 ∧ ∀ j, 6 * q + j < k + 1 → ¬ x.2.2 10 (6 * q + j) = nv)) := by
            first
              | exact Or.inl ⟨ef1, hfl.elim (fun z => z.2) (fun z => absurd z.1 c27)⟩
              | exact Or.inl ⟨ef1, k - 6 * q, by omega, by rw [show 6 * q + (k - 6 * q) = k by omega]; exact lg_eq c39⟩
              | exact Or.inr ⟨ef1, fun j hj z => by
                  by_cases e : 6 * q + j = k
                  · rw [e] at z
                    exact c39 (by rw [z]; exact lg_self _)
                  · exact (hfl.elim (fun y => absurd (c27.symm.trans y.1) (by decide)) (fun y => y.2)) j (by omega) z⟩
          refine g_istore cx (lv' := [(4, .int f1), (5, .int (nI k)), (0, .ref am), (1, .int (nI q)), (2, .long nv)]) d_8_15_47 (by decide) rfl ?_
          refine g_iinc cx 1 (lv' := [(5, .int (nI (k + 1))), (4, .int f1), (0, .ref am), (1, .int (nI q)), (2, .long nv)]) d_8_15_49 rfl (inc1 k) (by decide) rfl ?_
          refine g_goto cx d_8_15_52 rfl ?_
          refine g_loc (lv' := [(5, .int (nI (k + 1))), (4, .int f1), (0, .ref am), (1, .int (nI q)), (2, .long nv)]) [0, 1, 2, 3, 4] rfl ?_
          exact ih (k + 1) f1 hf1 (by omega) (by omega) (by omega)
        · skip
          refine g_aload_n cx 2 d_8_15_30 rfl rfl ?_
          refine m_get cx (k := 10) d_8_15_31 t_908 ⟨by decide, rfl⟩ hm rfl ?_
          refine g_iload cx 0 d_8_15_34 rfl ?_
          refine m_ld3 cx d_8_15_36 (by decide) hm rfl ⟨(show k < 36 by omega), by decide⟩ ?_
          refine g_lload_n cx 4 d_8_15_37 rfl rfl ?_
          refine g_lcmp cx d_8_15_38 ?_
          refine g_if_ne cx d_8_15_39 rfl (fun c39 => ?_) (fun c39 => ?_)
          · skip
            refine g_iconst cx (v := 0) d_8_15_46 (by decide) ?_
            refine g_topi (fun f1 ef1 => ?_)
            have hf1 : ((f1 = 1 ∧ ∃ j, j < t ∧ x.2.2 10 (6 * q + j) = nv) ∨ (f1 = 0 ∧ ∀ j, 6 * q + j < k + 1 → ¬ x.2.2 10 (6 * q + j) = nv)) := by
              first
                | exact Or.inl ⟨ef1, hfl.elim (fun z => z.2) (fun z => absurd z.1 c27)⟩
                | exact Or.inl ⟨ef1, k - 6 * q, by omega, by rw [show 6 * q + (k - 6 * q) = k by omega]; exact lg_eq c39⟩
                | exact Or.inr ⟨ef1, fun j hj z => by
                    by_cases e : 6 * q + j = k
                    · rw [e] at z
                      exact c39 (by rw [z]; exact lg_self _)
                    · exact (hfl.elim (fun y => absurd (c27.symm.trans y.1) (by decide)) (fun y => y.2)) j (by omega) z⟩
            refine g_istore cx (lv' := [(4, .int f1), (5, .int (nI k)), (0, .ref am), (1, .int (nI q)), (2, .long nv)]) d_8_15_47 (by decide) rfl ?_
            refine g_iinc cx 1 (lv' := [(5, .int (nI (k + 1))), (4, .int f1), (0, .ref am), (1, .int (nI q)), (2, .long nv)]) d_8_15_49 rfl (inc1 k) (by decide) rfl ?_
            refine g_goto cx d_8_15_52 rfl ?_
            refine g_loc (lv' := [(5, .int (nI (k + 1))), (4, .int f1), (0, .ref am), (1, .int (nI q)), (2, .long nv)]) [0, 1, 2, 3, 4] rfl ?_
            exact ih (k + 1) f1 hf1 (by omega) (by omega) (by omega)
          · skip
            refine g_iconst cx (v := 1) d_8_15_42 (by decide) ?_
            refine g_goto cx d_8_15_43 rfl ?_
            refine g_topi (fun f1 ef1 => ?_)
            have hf1 : ((f1 = 1 ∧ ∃ j, j < t ∧ x.2.2 10 (6 * q + j) = nv) ∨ (f1 = 0 ∧ ∀ j, 6 * q + j < k + 1 → ¬ x.2.2 10 (6 * q + j) = nv)) := by
              first
                | exact Or.inl ⟨ef1, hfl.elim (fun z => z.2) (fun z => absurd z.1 c27)⟩
                | exact Or.inl ⟨ef1, k - 6 * q, by omega, by rw [show 6 * q + (k - 6 * q) = k by omega]; exact lg_eq c39⟩
                | exact Or.inr ⟨ef1, fun j hj z => by
                    by_cases e : 6 * q + j = k
                    · rw [e] at z
                      exact c39 (by rw [z]; exact lg_self _)
                    · exact (hfl.elim (fun y => absurd (c27.symm.trans y.1) (by decide)) (fun y => y.2)) j (by omega) z⟩
            refine g_istore cx (lv' := [(4, .int f1), (5, .int (nI k)), (0, .ref am), (1, .int (nI q)), (2, .long nv)]) d_8_15_47 (by decide) rfl ?_
            refine g_iinc cx 1 (lv' := [(5, .int (nI (k + 1))), (4, .int f1), (0, .ref am), (1, .int (nI q)), (2, .long nv)]) d_8_15_49 rfl (inc1 k) (by decide) rfl ?_
            refine g_goto cx d_8_15_52 rfl ?_
            refine g_loc (lv' := [(5, .int (nI (k + 1))), (4, .int f1), (0, .ref am), (1, .int (nI q)), (2, .long nv)]) [0, 1, 2, 3, 4] rfl ?_
            exact ih (k + 1) f1 hf1 (by omega) (by omega) (by omega)
  refine g_iconst cx (v := 0) d_8_15_0 (by decide) ?_
  refine g_topi (fun f0 ef0 => ?_)
  obtain rfl : f0 = 0 := ef0
  refine g_istore cx (lv' := [(4, .int 0), (0, .ref am), (1, .int (nI q)), (2, .long nv)]) d_8_15_1 (by decide) rfl ?_
  refine g_bipush cx (v := 6) d_8_15_3 (by decide) ?_
  refine g_iload_n cx 2 d_8_15_5 rfl rfl ?_
  refine g_imul cx d_8_15_6 ?_
  refine g_topi (fun k0 ek0 => ?_)
  obtain rfl : k0 = nI (6 * q) := by rw [ek0]; exact pk_mul 6 q
  refine g_istore cx (lv' := [(5, .int (nI (6 * q))), (4, .int 0), (0, .ref am), (1, .int (nI q)), (2, .long nv)]) d_8_15_7 (by decide) rfl ?_
  exact lp (t + 1) (6 * q) 0 (Or.inr ⟨rfl, fun j hj => absurd hj (by omega)⟩) (by omega) (by omega) (by omega)
set_option maxHeartbeats 4000000 in
theorem mc_newNameG (hSt : Stb z0 E) (hA : Ad am ad) (x : MS) (pn cd : Nat) (bg en : Nat → Nat) (S : SL) (nm ld im kp : Nat → Nat) (mn : Nat) (hpt : PT x pn bg en) (hM : MI x (S 4 0) (S 0 0) nm ld im kp mn) (hL : LKS S x) (htx : ∀ i, i < pn → ∀ j, j < en i → x.2.1 1 j = nI (chr cd j)) : MC l y_167 prog_8_method_16_code 4 (Option.some Jvm.ClassFile.FieldType.int) 1 D z0 E am ad [] x (fun r' x' => ∃ (an : Int32) (S' : SL), r' = some (.int an) ∧ ((pn = 2 ∧ DoN S (en 1 - bg 1) (sub cd (bg 1) (en 1 - bg 1)) an S') ∨ (pn ≠ 2 ∧ an = -1 ∧ S' = S)) ∧ LKS S' x' ∧ MIx x' ∧ x'.1 2 = x.1 2 ∧ x'.1 0 = x.1 0) := by
  refine mc_of hSt rfl (Nat.le_of_ble_eq_true rfl) ?_
  intro h0 h p e s m args below meth c cx hm hs
  obtain ⟨hIA, hIR, hNm, hLd, hLo, hIm, hFr, hPa, hKp, hMn⟩ := id hM
  have hMx : MIx x := MIx.of hM
  have hal := hIA.2
  have hrl := hIR.2
  have c18z : ∀ (R : Nat) (hR : ((pn = 2 ∧ NV cd 2 (bg 1) (en 1 - bg 1) R) ∨ (¬ (pn = 2 ∧ NmR cd 2 (bg 1) (en 1 - bg 1)) ∧ R = 0))) (ha0 : S 4 0 = 0) (h : hp) (hm : Mo D am ad x h) (hs : Sm am ad h0 h), G p l e (rmL 1) s m args below meth c 4 D z0 E (MQp D am ad h0 (fun r' x' => ∃ (an : Int32) (S' : SL), r' = some (.int an) ∧ ((pn = 2 ∧ DoN S (en 1 - bg 1) (sub cd (bg 1) (en 1 - bg 1)) an S') ∨ (pn ≠ 2 ∧ an = -1 ∧ S' = S)) ∧ LKS S' x' ∧ MIx x' ∧ x'.1 2 = x.1 2 ∧ x'.1 0 = x.1 0)) 0 0 18 [(1, .long (lI R)), (0, .ref am)] [] h 0 0 := by
    intro R hR ha0 h hm hs
    refine g_aload_n cx 1 d_8_16_18 rfl rfl ?_
    refine m_get cx (k := 6) d_8_16_19 t_904 ⟨by decide, rfl⟩ hm rfl ?_
    refine g_iconst cx (v := 1) d_8_16_22 (by decide) ?_
    refine g_isub cx d_8_16_23 ?_
    refine g_topi (fun a1 ea1 => ?_)
    obtain rfl : a1 = -1 := ea1.trans (by show x.1 6 - 1 = -1; rw [hIA.1, ha0]; rfl)
    refine g_istore_n cx (lv' := [(3, .int (-1)), (1, .long (lI R)), (0, .ref am)]) d_8_16_24 rfl (by decide) rfl ?_
    refine g_lload_n cx 1 d_8_16_25 rfl rfl ?_
    refine g_lconst cx (v := 0) d_8_16_26 (by decide) ?_
    refine g_lcmp cx d_8_16_27 ?_
    refine g_if_eq cx d_8_16_28 rfl (fun c28 => ?_) (fun c28 => ?_)
    · skip
      have hnb : (pn = 2 ∧ ¬ (NmOk (en 1 - bg 1) (sub cd (bg 1) (en 1 - bg 1)) ∧ (0 < S 4 0 → NNo S (en 1 - bg 1) (sub cd (bg 1) (en 1 - bg 1))))) ∨ pn ≠ 2 := by
        by_cases hp2 : pn = 2
        · refine Or.inl ⟨hp2, fun q => ?_⟩
          rcases hR with ⟨w1, w2⟩ | ⟨w1, w2⟩
          · exact absurd (lI_ne (by have := w2.lt.2; omega) (lg_eq c28)) (by have := w2.lt.1; omega)
          · exact w1 ⟨hp2, NmOk.sub.mp q.1⟩
        · exact Or.inr hp2
      refine g_iconst cx (v := (-1)) d_8_16_44 (by decide) ?_
      exact m_iret cx d_8_16_45 rfl rfl hm hs ⟨-1, S, rfl, hnb.imp (fun q => ⟨q.1, Or.inl ⟨rfl, rfl, q.2⟩⟩) (fun q => ⟨q, rfl, rfl⟩), hL, hMx, rfl, rfl⟩
    · skip
      refine g_iload_n cx 0 d_8_16_31 rfl rfl ?_
      refine g_if_lt cx d_8_16_32 rfl (fun c32 => ?_) (fun c32 => absurd (by decide) c32)
      have hg : pn = 2 ∧ (NmOk (en 1 - bg 1) (sub cd (bg 1) (en 1 - bg 1)) ∧ (0 < S 4 0 → NNo S (en 1 - bg 1) (sub cd (bg 1) (en 1 - bg 1)))) ∧ NV (sub cd (bg 1) (en 1 - bg 1)) 2 0 (en 1 - bg 1) R := by
        rcases hR with ⟨w1, w2⟩ | ⟨w1, w2⟩
        · exact ⟨w1, ⟨NmOk.sub.mpr w2.ok, fun z => absurd z (by omega)⟩, w2.sub⟩
        · exact absurd (by rw [w2]; exact lg_self _) c28
      refine g_iload_n cx 0 d_8_16_46 rfl rfl ?_
      refine g_if_lt cx d_8_16_47 rfl (fun c47 => ?_) (fun c47 => absurd (by decide) c47)
      have h6 : ¬ (0 < S 4 0 ∧ S 7 0 < 6) := fun q => by have := q.1; omega
      refine g_bipush cx (v := (-2)) d_8_16_61 (by decide) ?_
      exact m_iret cx d_8_16_63 rfl rfl hm hs ⟨-2, S, rfl, Or.inl ⟨hg.1, Or.inr (Or.inl ⟨rfl, rfl, hg.2.1, h6⟩)⟩, hL, hMx, rfl, rfl⟩
  have c18p : ∀ (R : Nat) (hR : ((pn = 2 ∧ NV cd 2 (bg 1) (en 1 - bg 1) R) ∨ (¬ (pn = 2 ∧ NmR cd 2 (bg 1) (en 1 - bg 1)) ∧ R = 0))) (ha0 : 0 < S 4 0) (h : hp) (hm : Mo D am ad x h) (hs : Sm am ad h0 h), G p l e (rmL 1) s m args below meth c 4 D z0 E (MQp D am ad h0 (fun r' x' => ∃ (an : Int32) (S' : SL), r' = some (.int an) ∧ ((pn = 2 ∧ DoN S (en 1 - bg 1) (sub cd (bg 1) (en 1 - bg 1)) an S') ∨ (pn ≠ 2 ∧ an = -1 ∧ S' = S)) ∧ LKS S' x' ∧ MIx x' ∧ x'.1 2 = x.1 2 ∧ x'.1 0 = x.1 0)) 0 0 18 [(1, .long (lI R)), (0, .ref am)] [] h 0 0 := by
    intro R hR ha0 h hm hs
    refine g_aload_n cx 1 d_8_16_18 rfl rfl ?_
    refine m_get cx (k := 6) d_8_16_19 t_904 ⟨by decide, rfl⟩ hm rfl ?_
    refine g_iconst cx (v := 1) d_8_16_22 (by decide) ?_
    refine g_isub cx d_8_16_23 ?_
    refine g_topi (fun a1 ea1 => ?_)
    obtain rfl : a1 = nI (S 4 0 - 1) := ea1.trans (by show x.1 6 - 1 = _; rw [hIA.1]; exact pk_sub (b := 1) ha0)
    have hnn : S 7 0 = nm (S 4 0 - 1) := (nI_eq (by have := (hL.2.2.2.2.2.2.1 ha0).2.1; omega) (by have := (hNm (S 4 0 - 1) (by omega)).2; omega)).mp ((hL.2.2.2.2.2.2.1 ha0).1.symm.trans (hNm (S 4 0 - 1) (by omega)).1)
    refine g_istore_n cx (lv' := [(3, .int (nI (S 4 0 - 1))), (1, .long (lI R)), (0, .ref am)]) d_8_16_24 rfl (by decide) rfl ?_
    refine g_lload_n cx 1 d_8_16_25 rfl rfl ?_
    refine g_lconst cx (v := 0) d_8_16_26 (by decide) ?_
    refine g_lcmp cx d_8_16_27 ?_
    refine g_if_eq cx d_8_16_28 rfl (fun c28 => ?_) (fun c28 => ?_)
    · skip
      have hnb : (pn = 2 ∧ ¬ (NmOk (en 1 - bg 1) (sub cd (bg 1) (en 1 - bg 1)) ∧ (0 < S 4 0 → NNo S (en 1 - bg 1) (sub cd (bg 1) (en 1 - bg 1))))) ∨ pn ≠ 2 := by
        by_cases hp2 : pn = 2
        · refine Or.inl ⟨hp2, fun q => ?_⟩
          rcases hR with ⟨w1, w2⟩ | ⟨w1, w2⟩
          · first
              | exact absurd (lI_ne (by have := w2.lt.2; omega) (lg_eq c28)) (by have := w2.lt.1; omega)
              | exact hin.elim (fun j hj => q.2 ha0 j (by rw [hnn]; exact hj.1) ((hL.nm ha0 (by rw [hnn]; exact hj.1) w2.sub).mpr hj.2))
          · exact w1 ⟨hp2, NmOk.sub.mp q.1⟩
        · exact Or.inr hp2
      refine g_iconst cx (v := (-1)) d_8_16_44 (by decide) ?_
      exact m_iret cx d_8_16_45 rfl rfl hm hs ⟨-1, S, rfl, hnb.imp (fun q => ⟨q.1, Or.inl ⟨rfl, rfl, q.2⟩⟩) (fun q => ⟨q, rfl, rfl⟩), hL, hMx, rfl, rfl⟩
    · skip
      refine g_iload_n cx 0 d_8_16_31 rfl rfl ?_
      refine g_if_lt cx d_8_16_32 rfl (fun c32 => absurd c32 (nI_pos (by omega))) (fun c32 => ?_)
      refine g_aload_n cx 2 d_8_16_35 rfl rfl ?_
      refine g_iload_n cx 0 d_8_16_36 rfl rfl ?_
      refine g_lload_n cx 1 d_8_16_37 rfl rfl ?_
      refine m_call 1 cx (As := [.int (nI (S 4 0 - 1)), .long (lI R)]) (n := 2) (mc_isInG hSt hA x (S 4 0 - 1) (nm (S 4 0 - 1)) (lI R) (by omega) (hNm (S 4 0 - 1) (by omega)).1 (hNm (S 4 0 - 1) (by omega)).2) d_8_16_38 t_1038 t_1040 ts_35 t_1041 rfl ⟨rfl, by decide +kernel⟩ rfl ⟨by decide, by decide⟩ (Nat.le_of_ble_eq_true rfl) hm hs (fun v38 x38 h hm hs r38 => ?_)
      obtain ⟨e38, r38⟩ := r38
      rw [e38] at hm
      rcases r38 with ⟨rfl, hin⟩ | ⟨rfl, hnin⟩
      · skip
        refine g_if_eq cx d_8_16_41 rfl (fun c41 => absurd c41 (by decide)) (fun c41 => ?_)
        have hnb : (pn = 2 ∧ ¬ (NmOk (en 1 - bg 1) (sub cd (bg 1) (en 1 - bg 1)) ∧ (0 < S 4 0 → NNo S (en 1 - bg 1) (sub cd (bg 1) (en 1 - bg 1))))) ∨ pn ≠ 2 := by
          by_cases hp2 : pn = 2
          · refine Or.inl ⟨hp2, fun q => ?_⟩
            rcases hR with ⟨w1, w2⟩ | ⟨w1, w2⟩
            · first
                | exact absurd (lI_ne (by have := w2.lt.2; omega) (lg_eq c28)) (by have := w2.lt.1; omega)
                | exact hin.elim (fun j hj => q.2 ha0 j (by rw [hnn]; exact hj.1) ((hL.nm ha0 (by rw [hnn]; exact hj.1) w2.sub).mpr hj.2))
            · exact w1 ⟨hp2, NmOk.sub.mp q.1⟩
          · exact Or.inr hp2
        refine g_iconst cx (v := (-1)) d_8_16_44 (by decide) ?_
        exact m_iret cx d_8_16_45 rfl rfl hm hs ⟨-1, S, rfl, hnb.imp (fun q => ⟨q.1, Or.inl ⟨rfl, rfl, q.2⟩⟩) (fun q => ⟨q, rfl, rfl⟩), hL, hMx, rfl, rfl⟩
      · skip
        refine g_if_eq cx d_8_16_41 rfl (fun c41 => ?_) (fun c41 => absurd rfl c41)
        have hg : pn = 2 ∧ (NmOk (en 1 - bg 1) (sub cd (bg 1) (en 1 - bg 1)) ∧ (0 < S 4 0 → NNo S (en 1 - bg 1) (sub cd (bg 1) (en 1 - bg 1)))) ∧ NV (sub cd (bg 1) (en 1 - bg 1)) 2 0 (en 1 - bg 1) R := by
          rcases hR with ⟨w1, w2⟩ | ⟨w1, w2⟩
          · exact ⟨w1, ⟨NmOk.sub.mpr w2.ok, fun _ j hj q => hnin j (by rw [← hnn]; exact hj) ((hL.nm ha0 hj w2.sub).mp q)⟩, w2.sub⟩
          · exact absurd (by rw [w2]; exact lg_self _) c28
        have hb1 := hNm (S 4 0 - 1) (by omega)
        refine g_iload_n cx 0 d_8_16_46 rfl rfl ?_
        refine g_if_lt cx d_8_16_47 rfl (fun c47 => absurd c47 (nI_pos (by omega))) (fun c47 => ?_)
        refine g_aload_n cx 2 d_8_16_50 rfl rfl ?_
        refine m_get cx (k := 8) d_8_16_51 t_906 ⟨by decide, rfl⟩ hm rfl ?_
        refine g_iload_n cx 0 d_8_16_54 rfl rfl ?_
        refine m_ld1 cx d_8_16_55 (by decide) hm rfl ⟨(show S 4 0 - 1 < 6 by omega), by decide⟩ ?_
        refine g_bipush cx (v := 6) d_8_16_56 (by decide) ?_
        refine g_icmp_ne cx d_8_16_58 rfl (fun c58 => ?_) (fun c58 => ?_)
        · skip
          have hn6 : nm (S 4 0 - 1) < 6 := by
            rcases Nat.lt_or_ge (nm (S 4 0 - 1)) 6 with q | q
            · exact q
            · exact absurd (by rw [hb1.1, show nm (S 4 0 - 1) = 6 by omega]; rfl) c58
          refine g_aload_n cx 2 d_8_16_64 rfl rfl ?_
          refine m_get cx (k := 10) d_8_16_65 t_908 ⟨by decide, rfl⟩ hm rfl ?_
          refine g_bipush cx (v := 6) d_8_16_68 (by decide) ?_
          refine g_iload_n cx 0 d_8_16_70 rfl rfl ?_
          refine g_imul cx d_8_16_71 ?_
          refine g_aload_n cx 2 d_8_16_72 rfl rfl ?_
          refine m_get cx (k := 8) d_8_16_73 t_906 ⟨by decide, rfl⟩ hm rfl ?_
          refine g_iload_n cx 0 d_8_16_76 rfl rfl ?_
          refine m_ld1 cx d_8_16_77 (by decide) hm rfl ⟨(show S 4 0 - 1 < 6 by omega), by decide⟩ ?_
          refine g_iadd cx d_8_16_78 ?_
          refine g_lload_n cx 1 d_8_16_79 rfl rfl ?_
          refine m_st3 cx hA d_8_16_80 (by decide) hm hs (show 6 * nI (S 4 0 - 1) + x.2.1 8 (S 4 0 - 1) = nI (6 * (S 4 0 - 1) + nm (S 4 0 - 1)) by rw [hb1.1, show (6 : Int32) = nI 6 from rfl, pk_mul, nI_add]) ⟨(show 6 * (S 4 0 - 1) + nm (S 4 0 - 1) < 36 by omega), by decide⟩ (fun h hm hs => ?_)
          refine g_aload_n cx 2 d_8_16_81 rfl rfl ?_
          refine m_get cx (k := 8) d_8_16_82 t_906 ⟨by decide, rfl⟩ hm rfl ?_
          refine g_iload_n cx 0 d_8_16_85 rfl rfl ?_
          refine g_dup2_11 cx d_8_16_86 rfl rfl ?_
          refine m_ld1 cx d_8_16_87 (by decide) hm rfl ⟨(show S 4 0 - 1 < 6 by omega), by decide⟩ ?_
          refine g_iconst cx (v := 1) d_8_16_88 (by decide) ?_
          refine g_iadd cx d_8_16_89 ?_
          refine g_topi (fun t1 et1 => ?_)
          obtain rfl : t1 = nI (nm (S 4 0 - 1) + 1) := et1.trans (by show x.2.1 8 (S 4 0 - 1) + 1 = _; rw [hb1.1, nI_1])
          refine m_st1 cx hA d_8_16_90 (by decide) hm hs rfl ⟨(show S 4 0 - 1 < 6 by omega), by decide⟩ (fun h hm hs => ?_)
          refine g_iconst cx (v := 2) d_8_16_91 (by decide) ?_
          exact m_iret cx d_8_16_92 rfl rfl hm hs ⟨2, addN S (en 1 - bg 1) (sub cd (bg 1) (en 1 - bg 1)), rfl, Or.inl ⟨hg.1, Or.inr (Or.inr ⟨rfl, rfl, hg.2.1, ha0, by omega⟩)⟩, (by have h9 := hL.addN ha0 (by omega) hg.2.2; rw [hnn] at h9; exact h9), ⟨S 4 0, S 0 0, _, ld, im, kp, mn, hIA, hIR, INm.add hNm hn6 rfl, hLd, hLo, hIm, hFr, hPa, IKp.add hKp hNm (by omega) hn6, hMn⟩, rfl, rfl⟩
        · skip
          have h6 : ¬ (0 < S 4 0 ∧ S 7 0 < 6) := fun q => by
            have := (nI_eq (b := 6) (by omega) (by decide)).mp (hb1.1.symm.trans c58)
            have := q.2
            omega
          refine g_bipush cx (v := (-2)) d_8_16_61 (by decide) ?_
          exact m_iret cx d_8_16_63 rfl rfl hm hs ⟨-2, S, rfl, Or.inl ⟨hg.1, Or.inr (Or.inl ⟨rfl, rfl, hg.2.1, h6⟩)⟩, hL, hMx, rfl, rfl⟩
  refine g_aload_n cx 0 d_8_16_0 rfl rfl ?_
  refine m_get cx (k := 3) d_8_16_1 t_901 ⟨by decide, rfl⟩ hm rfl ?_
  refine g_iconst cx (v := 2) d_8_16_4 (by decide) ?_
  refine g_icmp_ne cx d_8_16_5 rfl (fun c5 => ?_) (fun c5 => ?_)
  · skip
    have hp2 : pn ≠ 2 := fun q => c5 (by show x.1 3 = 2; rw [hpt.1, q]; rfl)
    refine g_lconst cx (v := 0) d_8_16_16 (by decide) ?_
    refine g_topl (fun V eV => ?_)
    refine g_lstore_n cx (lv' := [(1, .long V), (0, .ref am)]) d_8_16_17 rfl (by decide) rfl ?_
    have fin : ∀ R, V = lI R → ((pn = 2 ∧ NV cd 2 (bg 1) (en 1 - bg 1) R) ∨ (¬ (pn = 2 ∧ NmR cd 2 (bg 1) (en 1 - bg 1)) ∧ R = 0)) → G p l e (rmL 1) s m args below meth c 4 D z0 E (MQp D am ad h0 (fun r' x' => ∃ (an : Int32) (S' : SL), r' = some (.int an) ∧ ((pn = 2 ∧ DoN S (en 1 - bg 1) (sub cd (bg 1) (en 1 - bg 1)) an S') ∨ (pn ≠ 2 ∧ an = -1 ∧ S' = S)) ∧ LKS S' x' ∧ MIx x' ∧ x'.1 2 = x.1 2 ∧ x'.1 0 = x.1 0)) 0 0 18 [(1, .long V), (0, .ref am)] [] h 0 0 := by
      intro R eR hR
      subst eR
      rcases Nat.eq_zero_or_pos (S 4 0) with ha0 | ha0
      · exact c18z R hR ha0 h hm hs
      · exact c18p R hR ha0 h hm hs
    first
      | exact fin R eV (by rcases hR with ⟨q1, q2⟩ | ⟨q1, q2⟩
                           · exact Or.inl ⟨hp2, q2⟩
                           · exact Or.inr ⟨fun q => q1 ⟨by omega, q.2⟩, q2⟩)
      | exact fin 0 eV (Or.inr ⟨fun q => hp2 q.1, rfl⟩)
  · skip
    have hp2 : pn = 2 := (nI_eq (b := 2) (by have := hpt.2.1; omega) (by decide)).mp (hpt.1.symm.trans c5)
    refine g_aload_n cx 0 d_8_16_8 rfl rfl ?_
    refine g_iconst cx (v := 1) d_8_16_9 (by decide) ?_
    refine m_call 1 cx (As := [.int (nI 1)]) (n := 1) (mc_nameOfG hSt hA x 1 pn cd bg en hpt (by decide) (htx 1)) d_8_16_10 t_1025 t_1027 ts_32 t_1028 rfl ⟨rfl, by decide +kernel⟩ rfl ⟨by decide, by decide⟩ (Nat.le_of_ble_eq_true rfl) hm hs (fun v10 x10 h hm hs r10 => ?_)
    obtain ⟨e10, R, rfl, hR⟩ := r10
    rw [e10] at hm
    refine g_goto cx d_8_16_13 rfl ?_
    refine g_topl (fun V eV => ?_)
    refine g_lstore_n cx (lv' := [(1, .long V), (0, .ref am)]) d_8_16_17 rfl (by decide) rfl ?_
    have fin : ∀ R, V = lI R → ((pn = 2 ∧ NV cd 2 (bg 1) (en 1 - bg 1) R) ∨ (¬ (pn = 2 ∧ NmR cd 2 (bg 1) (en 1 - bg 1)) ∧ R = 0)) → G p l e (rmL 1) s m args below meth c 4 D z0 E (MQp D am ad h0 (fun r' x' => ∃ (an : Int32) (S' : SL), r' = some (.int an) ∧ ((pn = 2 ∧ DoN S (en 1 - bg 1) (sub cd (bg 1) (en 1 - bg 1)) an S') ∨ (pn ≠ 2 ∧ an = -1 ∧ S' = S)) ∧ LKS S' x' ∧ MIx x' ∧ x'.1 2 = x.1 2 ∧ x'.1 0 = x.1 0)) 0 0 18 [(1, .long V), (0, .ref am)] [] h 0 0 := by
      intro R eR hR
      subst eR
      rcases Nat.eq_zero_or_pos (S 4 0) with ha0 | ha0
      · exact c18z R hR ha0 h hm hs
      · exact c18p R hR ha0 h hm hs
    first
      | exact fin R eV (by rcases hR with ⟨q1, q2⟩ | ⟨q1, q2⟩
                           · exact Or.inl ⟨hp2, q2⟩
                           · exact Or.inr ⟨fun q => q1 ⟨by omega, q.2⟩, q2⟩)
      | exact fin 0 eV (Or.inr ⟨fun q => hp2 q.1, rfl⟩)
end M12
