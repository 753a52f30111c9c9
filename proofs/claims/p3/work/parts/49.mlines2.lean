/-! The reference's newParent, loads, newImport, line, by S. -/
section M13
variable {l : Launch} {D : va_G} {z0 : Nat} {E : State → Prop} {am : Nat} {ad : Nat → Nat}
set_option maxHeartbeats 4000000 in
theorem mc_newParentG (hSt : Stb z0 E) (hA : Ad am ad) (x : MS) (pn cd : Nat) (bg en : Nat → Nat) (S : SL) (nm ld im kp : Nat → Nat) (mn : Nat) (hpt : PT x pn bg en) (hM : MI x (S 4 0) (S 0 0) nm ld im kp mn) (hL : LKS S x) (htx : ∀ i, i < pn → ∀ j, j < en i → x.2.1 1 j = nI (chr cd j)) : MC l y_174 prog_8_method_21_code 3 (Option.some Jvm.ClassFile.FieldType.int) 2 D z0 E am ad [] x (fun r' x' => ∃ (an : Int32) (S' : SL), r' = some (.int an) ∧ ((pn = 2 ∧ DoP S (en 1 - bg 1) (sub cd (bg 1) (en 1 - bg 1)) an S') ∨ (pn ≠ 2 ∧ an = -1 ∧ S' = S)) ∧ LKS S' x' ∧ MIx x' ∧ x'.1 2 = x.1 2 ∧ x'.1 0 = x.1 0) := by
  refine mc_of hSt rfl (Nat.le_of_ble_eq_true rfl) ?_
  intro h0 h p e s m args below meth c cx hm hs
  obtain ⟨hIA, hIR, hNm, hLd, hLo, hIm, hFr, hPa, hKp, hMn⟩ := id hM
  have hMx : MIx x := MIx.of hM
  have hal := hIA.2
  have hrl := hIR.2
  have c32 : ∀ (W : Nat) (o2 : Int32) (ho : ((o2 = -1 ∧ ((pn = 2 ∧ ∀ j, ¬ RFst S (en 1 - bg 1) (sub cd (bg 1) (en 1 - bg 1)) j) ∨ pn ≠ 2)) ∨ ∃ g, g < S 0 0 ∧ o2 = nI g ∧ pn = 2 ∧ RFst S (en 1 - bg 1) (sub cd (bg 1) (en 1 - bg 1)) g)) (h : hp) (hm : Mo D am ad x h) (hs : Sm am ad h0 h), G p l e (rmL 2) s m args below meth c 3 D z0 E (MQp D am ad h0 (fun r' x' => ∃ (an : Int32) (S' : SL), r' = some (.int an) ∧ ((pn = 2 ∧ DoP S (en 1 - bg 1) (sub cd (bg 1) (en 1 - bg 1)) an S') ∨ (pn ≠ 2 ∧ an = -1 ∧ S' = S)) ∧ LKS S' x' ∧ MIx x' ∧ x'.1 2 = x.1 2 ∧ x'.1 0 = x.1 0)) 0 0 32 [(2, .int o2), (1, .int (nI W)), (0, .ref am)] [] h 0 0 := by
    intro W o2 ho h hm hs
    refine g_iload_n cx 0 d_8_21_32 rfl rfl ?_
    refine g_if_lt cx d_8_21_33 rfl (fun c33 => ?_) (fun c33 => ?_)
    · skip
      have hnb : (pn = 2 ∧ ¬ RGo S (en 1 - bg 1) (sub cd (bg 1) (en 1 - bg 1))) ∨ pn ≠ 2 := by
        rcases ho with ⟨e, h9⟩ | ⟨g, hg, e, hp, hf⟩
        · exact h9.imp (fun q => ⟨q.1, fun z => z.elim (fun j hj => q.2 j hj.1)⟩) id
        · first
            | exact absurd c33 (by rw [e]; exact nI_pos (by omega))
            | exact Or.inl ⟨hp, fun z => z.elim (fun j hj => hj.2 (by
                have e2 : g = S 0 0 - 1 := (nI_eq (by omega) (by omega)).mp (e.symm.trans (c43.trans (by show x.1 11 - 1 = _; rw [hIR.1]; exact pk_sub (b := 1) (by omega))))
                rw [hj.1.u hf]
                exact e2))⟩
      refine g_iconst cx (v := (-1)) d_8_21_46 (by decide) ?_
      exact m_iret cx d_8_21_47 rfl rfl hm hs ⟨-1, S, rfl, hnb.imp (fun q => ⟨q.1, rfl, Or.inl ⟨rfl, q.2⟩⟩) (fun q => ⟨q, rfl, rfl⟩), hL, hMx, rfl, rfl⟩
    · skip
      refine g_iload_n cx 0 d_8_21_36 rfl rfl ?_
      refine g_aload_n cx 2 d_8_21_37 rfl rfl ?_
      refine m_get cx (k := 11) d_8_21_38 t_909 ⟨by decide, rfl⟩ hm rfl ?_
      refine g_iconst cx (v := 1) d_8_21_41 (by decide) ?_
      refine g_isub cx d_8_21_42 ?_
      refine g_icmp_ne cx d_8_21_43 rfl (fun c43 => ?_) (fun c43 => ?_)
      · skip
        obtain ⟨g, hg, e, hp, hf⟩ := ho.resolve_left (fun q => c33 (by rw [q.1]; decide))
        have hgo : RGo S (en 1 - bg 1) (sub cd (bg 1) (en 1 - bg 1)) := ⟨g, hf, fun q => c43 (by show o2 = x.1 11 - 1; rw [e, q, hIR.1]; exact (pk_sub (b := 1) (by omega)).symm)⟩
        refine g_aload_n cx 2 d_8_21_48 rfl rfl ?_
        refine m_call 2 cx (As := []) (n := 0) (mc_isShutG hSt hA x S hL) d_8_21_49 t_1054 t_1056 ts_39 t_1057 rfl ⟨rfl, by decide +kernel⟩ rfl ⟨by decide, by decide⟩ (Nat.le_of_ble_eq_true rfl) hm hs (fun v49 x49 h hm hs r49 => ?_)
        obtain ⟨e49, r49⟩ := r49
        rw [e49] at hm
        rcases r49 with ⟨rfl, hsh⟩ | ⟨rfl, hns, hr0⟩
        · skip
          refine g_if_eq cx d_8_21_52 rfl (fun c52 => absurd c52 (by decide)) (fun c52 => ?_)
          refine g_bipush cx (v := (-2)) d_8_21_55 (by decide) ?_
          exact m_iret cx d_8_21_57 rfl rfl hm hs ⟨-2, S, rfl, Or.inl ⟨hp, rfl, Or.inr (Or.inl ⟨rfl, hgo, hsh⟩)⟩, hL, hMx, rfl, rfl⟩
        · skip
          refine g_if_eq cx d_8_21_52 rfl (fun c52 => ?_) (fun c52 => absurd rfl c52)
          refine g_aload_n cx 2 d_8_21_58 rfl rfl ?_
          refine m_get cx (k := 17) d_8_21_59 t_915 ⟨by decide, rfl⟩ hm rfl ?_
          refine g_aload_n cx 2 d_8_21_62 rfl rfl ?_
          refine m_get cx (k := 11) d_8_21_63 t_909 ⟨by decide, rfl⟩ hm rfl ?_
          refine g_iconst cx (v := 1) d_8_21_66 (by decide) ?_
          refine g_isub cx d_8_21_67 ?_
          refine g_iload_n cx 0 d_8_21_68 rfl rfl ?_
          refine m_st1 cx hA d_8_21_69 (by decide) hm hs (show x.1 11 - 1 = nI (S 0 0 - 1) by rw [hIR.1]; exact pk_sub (b := 1) hr0) ⟨(show S 0 0 - 1 < 8 by omega), by decide⟩ (fun h hm hs => ?_)
          refine g_iconst cx (v := 4) d_8_21_70 (by decide) ?_
          exact m_iret cx d_8_21_71 rfl rfl hm hs ⟨4, S, rfl, Or.inl ⟨hp, rfl, Or.inr (Or.inr ⟨rfl, hgo, hns⟩)⟩, hL.kf ⟨⟨rfl, rfl⟩, ⟨rfl, rfl, rfl, rfl, rfl, rfl, rfl⟩, rfl⟩, ⟨S 4 0, S 0 0, nm, ld, im, kp, mn, hIA, hIR, hNm, hLd, hLo, hIm, hFr, (fun i hi => by
    show upd (x.2.1 17) (S 0 0 - 1) o2 i = -1 ∨ ∃ g, g < i ∧ upd (x.2.1 17) (S 0 0 - 1) o2 i = nI g
    by_cases hir : i = S 0 0 - 1
    · right
      refine ⟨g, ?_, by rw [hir]; exact pk_us.trans e⟩
      rcases Nat.lt_or_ge g (S 0 0 - 1) with q | q
      · omega
      · exact absurd (by show o2 = x.1 11 - 1; rw [e, hIR.1, show g = S 0 0 - 1 by omega]; exact (pk_sub (b := 1) hr0).symm) c43
    · rw [pk_un hir]; exact hPa i hi), hKp, hMn⟩, rfl, rfl⟩
      · skip
        have hnb : (pn = 2 ∧ ¬ RGo S (en 1 - bg 1) (sub cd (bg 1) (en 1 - bg 1))) ∨ pn ≠ 2 := by
          rcases ho with ⟨e, h9⟩ | ⟨g, hg, e, hp, hf⟩
          · exact h9.imp (fun q => ⟨q.1, fun z => z.elim (fun j hj => q.2 j hj.1)⟩) id
          · first
              | exact absurd c33 (by rw [e]; exact nI_pos (by omega))
              | exact Or.inl ⟨hp, fun z => z.elim (fun j hj => hj.2 (by
                  have e2 : g = S 0 0 - 1 := (nI_eq (by omega) (by omega)).mp (e.symm.trans (c43.trans (by show x.1 11 - 1 = _; rw [hIR.1]; exact pk_sub (b := 1) (by omega))))
                  rw [hj.1.u hf]
                  exact e2))⟩
        refine g_iconst cx (v := (-1)) d_8_21_46 (by decide) ?_
        exact m_iret cx d_8_21_47 rfl rfl hm hs ⟨-1, S, rfl, hnb.imp (fun q => ⟨q.1, rfl, Or.inl ⟨rfl, q.2⟩⟩) (fun q => ⟨q, rfl, rfl⟩), hL, hMx, rfl, rfl⟩
  have c18 : ∀ (W : Nat) (hW : ((pn = 2 ∧ WordP cd (bg 1) (en 1 - bg 1) ∧ W = wcp cd (bg 1) (en 1 - bg 1)) ∨ (¬ (pn = 2 ∧ WordP cd (bg 1) (en 1 - bg 1)) ∧ W = 0))) (h : hp) (hm : Mo D am ad x h) (hs : Sm am ad h0 h), G p l e (rmL 2) s m args below meth c 3 D z0 E (MQp D am ad h0 (fun r' x' => ∃ (an : Int32) (S' : SL), r' = some (.int an) ∧ ((pn = 2 ∧ DoP S (en 1 - bg 1) (sub cd (bg 1) (en 1 - bg 1)) an S') ∨ (pn ≠ 2 ∧ an = -1 ∧ S' = S)) ∧ LKS S' x' ∧ MIx x' ∧ x'.1 2 = x.1 2 ∧ x'.1 0 = x.1 0)) 0 0 18 [(1, .int (nI W)), (0, .ref am)] [] h 0 0 := by
    intro W hW h hm hs
    refine g_iload_n cx 0 d_8_21_18 rfl rfl ?_
    refine g_if_ne cx d_8_21_19 rfl (fun c19 => ?_) (fun c19 => ?_)
    · skip
      have hok : pn = 2 ∧ WordOk (en 1 - bg 1) (sub cd (bg 1) (en 1 - bg 1)) ∧ wcp (sub cd (bg 1) (en 1 - bg 1)) 0 (en 1 - bg 1) = W := by
        rcases hW with ⟨w1, w2, w3⟩ | ⟨w1, w2⟩
        · exact ⟨w1, WordP.ok.mp w2, wcp_sub.trans w3.symm⟩
        · exact absurd (by rw [w2]; rfl) c19
      refine g_aload_n cx 1 d_8_21_26 rfl rfl ?_
      refine g_iload_n cx 0 d_8_21_27 rfl rfl ?_
      refine m_call 2 cx (As := [.int (nI W)]) (n := 1) (mc_realmOfF hSt hA x (nI W) (S 0 0) hIR.1 hIR.2) d_8_21_28 t_1046 t_1048 ts_37 t_1049 rfl ⟨rfl, by decide +kernel⟩ rfl ⟨by decide, by decide⟩ (Nat.le_of_ble_eq_true rfl) hm hs (fun v28 x28 h hm hs r28 => ?_)
      obtain ⟨e28, r28⟩ := r28
      rw [e28] at hm
      rcases r28 with ⟨j, hj, rfl, hjc, hmin⟩ | ⟨rfl, hnone⟩
      · skip
        refine g_topi (fun o2 eo2 => ?_)
        refine g_istore_n cx (lv' := [(2, .int o2), (1, .int (nI W)), (0, .ref am)]) d_8_21_31 rfl (by decide) rfl ?_
        exact c32 W o2 (Or.inr ⟨j, hj, eo2, hok.1, hj, (hL.r hj hok.2.1).mpr (by rw [hok.2.2]; exact hjc), fun t ht q => hmin t ht (by have h9 := (hL.r (by omega) hok.2.1).mp q; rw [hok.2.2] at h9; exact h9)⟩) h hm hs
      · skip
        refine g_topi (fun o2 eo2 => ?_)
        refine g_istore_n cx (lv' := [(2, .int o2), (1, .int (nI W)), (0, .ref am)]) d_8_21_31 rfl (by decide) rfl ?_
        exact c32 W o2 (Or.inl ⟨eo2, Or.inl ⟨hok.1, fun j q => hnone j q.1 (by have h9 := (hL.r q.1 hok.2.1).mp q.2.1; rw [hok.2.2] at h9; exact h9)⟩⟩) h hm hs
    · skip
      have hz9 : ((pn = 2 ∧ ∀ j, ¬ RFst S (en 1 - bg 1) (sub cd (bg 1) (en 1 - bg 1)) j) ∨ pn ≠ 2) := by
        by_cases hp2 : pn = 2
        · refine Or.inl ⟨hp2, fun j q => ?_⟩
          rcases hW with ⟨w1, w2, w3⟩ | ⟨w1, w2⟩
          · rw [w3] at c19
            exact absurd ((nI_eq (b := 0) (by have := (wcp_dg w2).1; omega) (by decide)).mp c19) (by have := wcp_pos w2; omega)
          · exact w1 ⟨hp2, WordP.ok.mpr (hL.rw q)⟩
        · exact Or.inr hp2
      refine g_iconst cx (v := (-1)) d_8_21_22 (by decide) ?_
      refine g_goto cx d_8_21_23 rfl ?_
      refine g_topi (fun o2 eo2 => ?_)
      refine g_istore_n cx (lv' := [(2, .int o2), (1, .int (nI W)), (0, .ref am)]) d_8_21_31 rfl (by decide) rfl ?_
      exact c32 W o2 (Or.inl ⟨eo2, hz9⟩) h hm hs
  refine g_aload_n cx 0 d_8_21_0 rfl rfl ?_
  refine m_get cx (k := 3) d_8_21_1 t_901 ⟨by decide, rfl⟩ hm rfl ?_
  refine g_iconst cx (v := 2) d_8_21_4 (by decide) ?_
  refine g_icmp_ne cx d_8_21_5 rfl (fun c5 => ?_) (fun c5 => ?_)
  · skip
    have hp2 : pn ≠ 2 := fun q => c5 (by show x.1 3 = 2; rw [hpt.1, q]; rfl)
    refine g_iconst cx (v := 0) d_8_21_16 (by decide) ?_
    refine g_topi (fun w1 ew1 => ?_)
    refine g_istore_n cx (lv' := [(1, .int w1), (0, .ref am)]) d_8_21_17 rfl (by decide) rfl ?_
    first
      | exact (by
          obtain rfl : w1 = nI W := ew1
          exact c18 W (by rcases hW with ⟨q1, q2, q3⟩ | ⟨q1, q2⟩
                          · exact Or.inl ⟨hp2, q2, q3⟩
                          · exact Or.inr ⟨fun q => q1 ⟨by omega, q.2⟩, q2⟩) h hm hs)
      | exact (by
          obtain rfl : w1 = nI 0 := ew1
          exact c18 0 (Or.inr ⟨fun q => hp2 q.1, rfl⟩) h hm hs)
  · skip
    have hp2 : pn = 2 := (nI_eq (b := 2) (by have := hpt.2.1; omega) (by decide)).mp (hpt.1.symm.trans c5)
    refine g_aload_n cx 0 d_8_21_8 rfl rfl ?_
    refine g_iconst cx (v := 1) d_8_21_9 (by decide) ?_
    refine m_call 2 cx (As := [.int (nI 1)]) (n := 1) (mc_wordOfF hSt hA x 1 pn cd bg en hpt (by decide) (htx 1)) d_8_21_10 t_1021 t_1023 ts_31 t_1024 rfl ⟨rfl, by decide +kernel⟩ rfl ⟨by decide, by decide⟩ (Nat.le_of_ble_eq_true rfl) hm hs (fun v10 x10 h hm hs r10 => ?_)
    obtain ⟨e10, W, rfl, hW⟩ := r10
    rw [e10] at hm
    refine g_goto cx d_8_21_13 rfl ?_
    refine g_topi (fun w1 ew1 => ?_)
    refine g_istore_n cx (lv' := [(1, .int w1), (0, .ref am)]) d_8_21_17 rfl (by decide) rfl ?_
    first
      | exact (by
          obtain rfl : w1 = nI W := ew1
          exact c18 W (by rcases hW with ⟨q1, q2, q3⟩ | ⟨q1, q2⟩
                          · exact Or.inl ⟨hp2, q2, q3⟩
                          · exact Or.inr ⟨fun q => q1 ⟨by omega, q.2⟩, q2⟩) h hm hs)
      | exact (by
          obtain rfl : w1 = nI 0 := ew1
          exact c18 0 (Or.inr ⟨fun q => hp2 q.1, rfl⟩) h hm hs)
set_option maxHeartbeats 4000000 in
theorem mc_loadsG (hSt : Stb z0 E) (hA : Ad am ad) (x : MS) (pn cd : Nat) (bg en : Nat → Nat) (S : SL) (nm ld im kp : Nat → Nat) (mn : Nat) (hpt : PT x pn bg en) (hM : MI x (S 4 0) (S 0 0) nm ld im kp mn) (hL : LKS S x) (htx : ∀ i, i < pn → ∀ j, j < en i → x.2.1 1 j = nI (chr cd j)) : MC l y_171 prog_8_method_19_code 6 (Option.some Jvm.ClassFile.FieldType.int) 2 D z0 E am ad [] x (fun r' x' => ∃ (an : Int32) (S' : SL), r' = some (.int an) ∧ ((pn = 2 ∧ DoL S (en 1 - bg 1) (sub cd (bg 1) (en 1 - bg 1)) an S') ∨ (pn ≠ 2 ∧ an = -1 ∧ S' = S)) ∧ LKS S' x' ∧ MIx x' ∧ x'.1 2 = x.1 2 ∧ x'.1 0 = x.1 0) := by
  refine mc_of hSt rfl (Nat.le_of_ble_eq_true rfl) ?_
  intro h0 h p e s m args below meth c cx hm hs
  obtain ⟨hIA, hIR, hNm, hLd, hLo, hIm, hFr, hPa, hKp, hMn⟩ := id hM
  have hMx : MIx x := MIx.of hM
  have hal := hIA.2
  have hrl := hIR.2
  have c32z : ∀ (W : Nat) (a2 : Int32) (hr00 : S 0 0 = 0) (ho : ((a2 = -1 ∧ ((pn = 2 ∧ ∀ j, ¬ AFst S (en 1 - bg 1) (sub cd (bg 1) (en 1 - bg 1)) j) ∨ pn ≠ 2)) ∨ ∃ g, g < S 4 0 ∧ a2 = nI g ∧ pn = 2 ∧ AFst S (en 1 - bg 1) (sub cd (bg 1) (en 1 - bg 1)) g)) (h : hp) (hm : Mo D am ad x h) (hs : Sm am ad h0 h), G p l e (rmL 2) s m args below meth c 6 D z0 E (MQp D am ad h0 (fun r' x' => ∃ (an : Int32) (S' : SL), r' = some (.int an) ∧ ((pn = 2 ∧ DoL S (en 1 - bg 1) (sub cd (bg 1) (en 1 - bg 1)) an S') ∨ (pn ≠ 2 ∧ an = -1 ∧ S' = S)) ∧ LKS S' x' ∧ MIx x' ∧ x'.1 2 = x.1 2 ∧ x'.1 0 = x.1 0)) 0 0 32 [(2, .int a2), (1, .int (nI W)), (0, .ref am)] [] h 0 0 := by
    intro W a2 hr00 ho h hm hs
    refine g_aload_n cx 2 d_8_19_32 rfl rfl ?_
    refine m_get cx (k := 11) d_8_19_33 t_909 ⟨by decide, rfl⟩ hm rfl ?_
    refine g_iconst cx (v := 1) d_8_19_36 (by decide) ?_
    refine g_isub cx d_8_19_37 ?_
    refine g_topi (fun r1 er1 => ?_)
    obtain rfl : r1 = -1 := er1.trans (by show x.1 11 - 1 = -1; rw [hIR.1, hr00]; rfl)
    refine g_istore_n cx (lv' := [(3, .int (-1)), (2, .int a2), (1, .int (nI W)), (0, .ref am)]) d_8_19_38 rfl (by decide) rfl ?_
    refine g_iconst cx (v := 0) d_8_19_39 (by decide) ?_
    refine g_topi (fun z4 ez4 => ?_)
    obtain rfl : z4 = 0 := ez4
    refine g_istore cx (lv' := [(4, .int 0), (3, .int (-1)), (2, .int a2), (1, .int (nI W)), (0, .ref am)]) d_8_19_40 (by decide) rfl ?_
    refine g_iconst cx (v := 4) d_8_19_42 (by decide) ?_
    refine g_iload_n cx 1 d_8_19_43 rfl rfl ?_
    refine g_imul cx d_8_19_44 ?_
    refine g_topi (fun k5 ek5 => ?_)
    refine g_istore cx (lv' := [(5, .int k5), (4, .int 0), (3, .int (-1)), (2, .int a2), (1, .int (nI W)), (0, .ref am)]) d_8_19_45 (by decide) rfl ?_
    refine g_iload_n cx 2 d_8_19_47 rfl rfl ?_
    refine g_if_lt cx d_8_19_48 rfl (fun c48 => ?_) (fun c48 => absurd (by decide) c48)
    refine g_iload_n cx 3 d_8_19_95 rfl rfl ?_
    refine g_if_lt cx d_8_19_96 rfl (fun c96 => ?_) (fun c96 => ?_)
    · skip
      have hnb : (pn = 2 ∧ (ANo S (en 1 - bg 1) (sub cd (bg 1) (en 1 - bg 1)) ∨ ∃ j, AFst S (en 1 - bg 1) (sub cd (bg 1) (en 1 - bg 1)) j ∧ 0 < S 0 0 ∧ LIn S j)) ∨ pn ≠ 2 := by
        rcases ho with ⟨e, h9⟩ | ⟨g, hg, e, hp, hf⟩
        · exact h9.imp (fun q => ⟨q.1, Or.inl (ANo.of q.2)⟩) id
        · first
            | exact absurd c96 (by rw [e]; exact nI_pos (by omega))
      refine g_iconst cx (v := (-1)) d_8_19_104 (by decide) ?_
      exact m_iret cx d_8_19_105 rfl rfl hm hs ⟨-1, S, rfl, hnb.imp (fun q => ⟨q.1, Or.inl ⟨rfl, rfl, q.2⟩⟩) (fun q => ⟨q, rfl, rfl⟩), hL, hMx, rfl, rfl⟩
    · skip
      obtain ⟨g, hg, e, hp, hf⟩ := ho.resolve_left (fun q => c96 (by rw [q.1]; decide))
      refine g_iload cx 1 d_8_19_99 rfl ?_
      refine g_if_eq cx d_8_19_101 rfl (fun c101 => ?_) (fun c101 => absurd rfl c101)
      refine g_aload_n cx 5 d_8_19_106 rfl rfl ?_
      refine m_call 2 cx (As := []) (n := 0) (mc_isShutG hSt hA x S hL) d_8_19_107 t_1054 t_1056 ts_39 t_1057 rfl ⟨rfl, by decide +kernel⟩ rfl ⟨by decide, by decide⟩ (Nat.le_of_ble_eq_true rfl) hm hs (fun v107 x107 h hm hs r107 => ?_)
      obtain ⟨e107, r107⟩ := r107
      rw [e107] at hm
      rcases r107 with ⟨rfl, hsh⟩ | ⟨rfl, hns, hr0⟩
      · skip
        refine g_if_ne cx d_8_19_110 rfl (fun c110 => ?_) (fun c110 => absurd c110 (by decide))
        refine g_bipush cx (v := (-2)) d_8_19_123 (by decide) ?_
        exact m_iret cx d_8_19_125 rfl rfl hm hs ⟨-2, S, rfl, Or.inl ⟨hp, Or.inr (Or.inl ⟨rfl, rfl, ⟨g, hf, fun q => by have := q.1; omega⟩, Or.inl hsh⟩)⟩, hL, hMx, rfl, rfl⟩
      · skip
        exact absurd hr0 (by omega)
  have c95 : ∀ (W k : Nat) (z a2 : Int32) (hz : ((z = 1 ∧ ∃ t, t < ld (S 0 0 - 1) ∧ x.2.1 14 (4 * (S 0 0 - 1) + t) = a2) ∨ (z = 0 ∧ ∀ t, 4 * (S 0 0 - 1) + t < 4 * (S 0 0 - 1) + ld (S 0 0 - 1) → ¬ x.2.1 14 (4 * (S 0 0 - 1) + t) = a2))) (hr00 : 0 < S 0 0) (hb1 : x.2.1 13 (S 0 0 - 1) = nI (ld (S 0 0 - 1)) ∧ ld (S 0 0 - 1) ≤ 4) (hld : S 10 0 = ld (S 0 0 - 1)) (ho : ((a2 = -1 ∧ ((pn = 2 ∧ ∀ j, ¬ AFst S (en 1 - bg 1) (sub cd (bg 1) (en 1 - bg 1)) j) ∨ pn ≠ 2)) ∨ ∃ g, g < S 4 0 ∧ a2 = nI g ∧ pn = 2 ∧ AFst S (en 1 - bg 1) (sub cd (bg 1) (en 1 - bg 1)) g)) (h : hp) (hm : Mo D am ad x h) (hs : Sm am ad h0 h), G p l e (rmL 2) s m args below meth c 6 D z0 E (MQp D am ad h0 (fun r' x' => ∃ (an : Int32) (S' : SL), r' = some (.int an) ∧ ((pn = 2 ∧ DoL S (en 1 - bg 1) (sub cd (bg 1) (en 1 - bg 1)) an S') ∨ (pn ≠ 2 ∧ an = -1 ∧ S' = S)) ∧ LKS S' x' ∧ MIx x' ∧ x'.1 2 = x.1 2 ∧ x'.1 0 = x.1 0)) 0 0 95 [(5, .int (nI k)), (4, .int z), (3, .int (nI (S 0 0 - 1))), (2, .int a2), (1, .int (nI W)), (0, .ref am)] [] h 0 0 := by
    intro W k z a2 hz hr00 hb1 hld ho h hm hs
    refine g_iload_n cx 3 d_8_19_95 rfl rfl ?_
    refine g_if_lt cx d_8_19_96 rfl (fun c96 => ?_) (fun c96 => ?_)
    · skip
      have hnb : (pn = 2 ∧ (ANo S (en 1 - bg 1) (sub cd (bg 1) (en 1 - bg 1)) ∨ ∃ j, AFst S (en 1 - bg 1) (sub cd (bg 1) (en 1 - bg 1)) j ∧ 0 < S 0 0 ∧ LIn S j)) ∨ pn ≠ 2 := by
        rcases ho with ⟨e, h9⟩ | ⟨g, hg, e, hp, hf⟩
        · exact h9.imp (fun q => ⟨q.1, Or.inl (ANo.of q.2)⟩) id
        · first
            | exact absurd c96 (by rw [e]; exact nI_pos (by omega))
            | exact Or.inl ⟨hp, Or.inr ⟨g, hf, hr00, (hL.li hr00 hg).mpr (hz.elim (fun y => y.2.elim (fun t ht => ⟨t, by rw [hld]; exact ht.1, by rw [← e]; exact ht.2⟩)) (fun y => absurd y.1 c101))⟩⟩
      refine g_iconst cx (v := (-1)) d_8_19_104 (by decide) ?_
      exact m_iret cx d_8_19_105 rfl rfl hm hs ⟨-1, S, rfl, hnb.imp (fun q => ⟨q.1, Or.inl ⟨rfl, rfl, q.2⟩⟩) (fun q => ⟨q, rfl, rfl⟩), hL, hMx, rfl, rfl⟩
    · skip
      obtain ⟨g, hg, e, hp, hf⟩ := ho.resolve_left (fun q => c96 (by rw [q.1]; decide))
      refine g_iload cx 1 d_8_19_99 rfl ?_
      refine g_if_eq cx d_8_19_101 rfl (fun c101 => ?_) (fun c101 => ?_)
      · skip
        have hnl : ¬ (0 < S 0 0 ∧ LIn S g) := fun q => by
          obtain ⟨t, ht, et⟩ := (hL.li hr00 hg).mp q.2
          rcases hz with y | y
          · exact absurd (c101.symm.trans y.1) (by decide)
          · exact y.2 t (by rw [hld] at ht; omega) (by rw [e]; exact et)
        refine g_aload_n cx 5 d_8_19_106 rfl rfl ?_
        refine m_call 2 cx (As := []) (n := 0) (mc_isShutG hSt hA x S hL) d_8_19_107 t_1054 t_1056 ts_39 t_1057 rfl ⟨rfl, by decide +kernel⟩ rfl ⟨by decide, by decide⟩ (Nat.le_of_ble_eq_true rfl) hm hs (fun v107 x107 h hm hs r107 => ?_)
        obtain ⟨e107, r107⟩ := r107
        rw [e107] at hm
        rcases r107 with ⟨rfl, hsh⟩ | ⟨rfl, hns, hr0⟩
        · skip
          refine g_if_ne cx d_8_19_110 rfl (fun c110 => ?_) (fun c110 => absurd c110 (by decide))
          have h4 : Shut S ∨ ¬ S 10 0 < 4 := by
            first
              | exact Or.inl hsh
              | exact Or.inr (fun q => by
                  have := (nI_eq (b := 4) (by omega) (by decide)).mp (hb1.1.symm.trans c120)
                  omega)
          refine g_bipush cx (v := (-2)) d_8_19_123 (by decide) ?_
          exact m_iret cx d_8_19_125 rfl rfl hm hs ⟨-2, S, rfl, Or.inl ⟨hp, Or.inr (Or.inl ⟨rfl, rfl, ⟨g, hf, hnl⟩, h4⟩)⟩, hL, hMx, rfl, rfl⟩
        · skip
          refine g_if_ne cx d_8_19_110 rfl (fun c110 => absurd rfl c110) (fun c110 => ?_)
          refine g_aload_n cx 5 d_8_19_113 rfl rfl ?_
          refine m_get cx (k := 13) d_8_19_114 t_911 ⟨by decide, rfl⟩ hm rfl ?_
          refine g_iload_n cx 2 d_8_19_117 rfl rfl ?_
          refine m_ld1 cx d_8_19_118 (by decide) hm rfl ⟨(show S 0 0 - 1 < 8 by omega), by decide⟩ ?_
          refine g_iconst cx (v := 4) d_8_19_119 (by decide) ?_
          refine g_icmp_ne cx d_8_19_120 rfl (fun c120 => ?_) (fun c120 => ?_)
          · skip
            have hn4 : ld (S 0 0 - 1) < 4 := by
              rcases Nat.lt_or_ge (ld (S 0 0 - 1)) 4 with q | q
              · exact q
              · exact absurd (by rw [hb1.1, show ld (S 0 0 - 1) = 4 by omega]; rfl) c120
            refine g_aload_n cx 5 d_8_19_126 rfl rfl ?_
            refine m_get cx (k := 14) d_8_19_127 t_912 ⟨by decide, rfl⟩ hm rfl ?_
            refine g_iconst cx (v := 4) d_8_19_130 (by decide) ?_
            refine g_iload_n cx 2 d_8_19_131 rfl rfl ?_
            refine g_imul cx d_8_19_132 ?_
            refine g_aload_n cx 5 d_8_19_133 rfl rfl ?_
            refine m_get cx (k := 13) d_8_19_134 t_911 ⟨by decide, rfl⟩ hm rfl ?_
            refine g_iload_n cx 2 d_8_19_137 rfl rfl ?_
            refine m_ld1 cx d_8_19_138 (by decide) hm rfl ⟨(show S 0 0 - 1 < 8 by omega), by decide⟩ ?_
            refine g_iadd cx d_8_19_139 ?_
            refine g_iload_n cx 3 d_8_19_140 rfl rfl ?_
            refine m_st1 cx hA d_8_19_141 (by decide) hm hs (show 4 * nI (S 0 0 - 1) + x.2.1 13 (S 0 0 - 1) = nI (4 * (S 0 0 - 1) + ld (S 0 0 - 1)) by rw [hb1.1, show (4 : Int32) = nI 4 from rfl, pk_mul, nI_add]) ⟨(show 4 * (S 0 0 - 1) + ld (S 0 0 - 1) < 32 by omega), by decide⟩ (fun h hm hs => ?_)
            refine g_aload_n cx 5 d_8_19_142 rfl rfl ?_
            refine m_get cx (k := 13) d_8_19_143 t_911 ⟨by decide, rfl⟩ hm rfl ?_
            refine g_iload_n cx 2 d_8_19_146 rfl rfl ?_
            refine g_dup2_11 cx d_8_19_147 rfl rfl ?_
            refine m_ld1 cx d_8_19_148 (by decide) hm rfl ⟨(show S 0 0 - 1 < 8 by omega), by decide⟩ ?_
            refine g_iconst cx (v := 1) d_8_19_149 (by decide) ?_
            refine g_iadd cx d_8_19_150 ?_
            refine g_topi (fun t1 et1 => ?_)
            obtain rfl : t1 = nI (ld (S 0 0 - 1) + 1) := et1.trans (by show x.2.1 13 (S 0 0 - 1) + 1 = _; rw [hb1.1, nI_1])
            refine m_st1 cx hA d_8_19_151 (by decide) hm hs rfl ⟨(show S 0 0 - 1 < 8 by omega), by decide⟩ (fun h hm hs => ?_)
            refine g_iconst cx (v := 4) d_8_19_152 (by decide) ?_
            exact m_iret cx d_8_19_153 rfl rfl hm hs ⟨4, addL S g, rfl, Or.inl ⟨hp, Or.inr (Or.inr ⟨rfl, ⟨g, hf, hnl, rfl⟩, fun q => q.elim hns (fun y => y (by omega))⟩)⟩, (by have h9 := hL.addL hr00 (by omega) hg; rw [hld, ← e] at h9; exact h9), ⟨S 4 0, S 0 0, nm, (fun i => if i = S 0 0 - 1 then ld (S 0 0 - 1) + 1 else ld i), im, kp, mn, hIA, hIR, hNm, (fun i hi => by
    show upd (x.2.1 13) (S 0 0 - 1) (nI (ld (S 0 0 - 1) + 1)) i = nI (if i = S 0 0 - 1 then ld (S 0 0 - 1) + 1 else ld i) ∧ (if i = S 0 0 - 1 then ld (S 0 0 - 1) + 1 else ld i) ≤ 4
    by_cases q : i = S 0 0 - 1
    · rw [if_pos q, q]; exact ⟨pk_us, by omega⟩
    · rw [if_neg q, pk_un q]; exact hLd i hi), (fun k9 hk9 => by
    show ∃ g, g < 6 ∧ upd (x.2.1 14) (4 * (S 0 0 - 1) + ld (S 0 0 - 1)) a2 k9 = nI g
    by_cases q : k9 = 4 * (S 0 0 - 1) + ld (S 0 0 - 1)
    · rw [q]; exact ⟨g, by omega, pk_us.trans e⟩
    · rw [pk_un q]; exact hLo k9 hk9), hIm, hFr, hPa, hKp, hMn⟩, rfl, rfl⟩
          · skip
            have h4 : Shut S ∨ ¬ S 10 0 < 4 := by
              first
                | exact Or.inl hsh
                | exact Or.inr (fun q => by
                    have := (nI_eq (b := 4) (by omega) (by decide)).mp (hb1.1.symm.trans c120)
                    omega)
            refine g_bipush cx (v := (-2)) d_8_19_123 (by decide) ?_
            exact m_iret cx d_8_19_125 rfl rfl hm hs ⟨-2, S, rfl, Or.inl ⟨hp, Or.inr (Or.inl ⟨rfl, rfl, ⟨g, hf, hnl⟩, h4⟩)⟩, hL, hMx, rfl, rfl⟩
      · skip
        have hnb : (pn = 2 ∧ (ANo S (en 1 - bg 1) (sub cd (bg 1) (en 1 - bg 1)) ∨ ∃ j, AFst S (en 1 - bg 1) (sub cd (bg 1) (en 1 - bg 1)) j ∧ 0 < S 0 0 ∧ LIn S j)) ∨ pn ≠ 2 := by
          rcases ho with ⟨e, h9⟩ | ⟨g, hg, e, hp, hf⟩
          · exact h9.imp (fun q => ⟨q.1, Or.inl (ANo.of q.2)⟩) id
          · first
              | exact absurd c96 (by rw [e]; exact nI_pos (by omega))
              | exact Or.inl ⟨hp, Or.inr ⟨g, hf, hr00, (hL.li hr00 hg).mpr (hz.elim (fun y => y.2.elim (fun t ht => ⟨t, by rw [hld]; exact ht.1, by rw [← e]; exact ht.2⟩)) (fun y => absurd y.1 c101))⟩⟩
        refine g_iconst cx (v := (-1)) d_8_19_104 (by decide) ?_
        exact m_iret cx d_8_19_105 rfl rfl hm hs ⟨-1, S, rfl, hnb.imp (fun q => ⟨q.1, Or.inl ⟨rfl, rfl, q.2⟩⟩) (fun q => ⟨q, rfl, rfl⟩), hL, hMx, rfl, rfl⟩
  have c32p : ∀ (W : Nat) (a2 : Int32) (hr00 : 0 < S 0 0) (ho : ((a2 = -1 ∧ ((pn = 2 ∧ ∀ j, ¬ AFst S (en 1 - bg 1) (sub cd (bg 1) (en 1 - bg 1)) j) ∨ pn ≠ 2)) ∨ ∃ g, g < S 4 0 ∧ a2 = nI g ∧ pn = 2 ∧ AFst S (en 1 - bg 1) (sub cd (bg 1) (en 1 - bg 1)) g)) (h : hp) (hm : Mo D am ad x h) (hs : Sm am ad h0 h), G p l e (rmL 2) s m args below meth c 6 D z0 E (MQp D am ad h0 (fun r' x' => ∃ (an : Int32) (S' : SL), r' = some (.int an) ∧ ((pn = 2 ∧ DoL S (en 1 - bg 1) (sub cd (bg 1) (en 1 - bg 1)) an S') ∨ (pn ≠ 2 ∧ an = -1 ∧ S' = S)) ∧ LKS S' x' ∧ MIx x' ∧ x'.1 2 = x.1 2 ∧ x'.1 0 = x.1 0)) 0 0 32 [(2, .int a2), (1, .int (nI W)), (0, .ref am)] [] h 0 0 := by
    intro W a2 hr00 ho h hm hs
    have hb1 := hLd (S 0 0 - 1) (by omega)
    have hld : S 10 0 = ld (S 0 0 - 1) := (nI_eq (by have := (hL.2.2.2.2.2.2.2 hr00).1.2.1; omega) (by omega)).mp ((hL.2.2.2.2.2.2.2 hr00).1.1.symm.trans hb1.1)
    have hb : 4 * nI (S 0 0 - 1) + x.2.1 13 (S 0 0 - 1) = nI (4 * (S 0 0 - 1) + ld (S 0 0 - 1)) := by rw [hb1.1, show (4 : Int32) = nI 4 from rfl, pk_mul, nI_add]
    have hb2 := hb1.2
    have lp : ∀ (n : Nat) (k : Nat) (z : Int32), ((z = 1 ∧ ∃ t, t < ld (S 0 0 - 1) ∧ x.2.1 14 (4 * (S 0 0 - 1) + t) = a2) ∨ (z = 0 ∧ ∀ t, 4 * (S 0 0 - 1) + t < k → ¬ x.2.1 14 (4 * (S 0 0 - 1) + t) = a2)) → 4 * (S 0 0 - 1) ≤ k → k ≤ 4 * (S 0 0 - 1) + ld (S 0 0 - 1) → 4 * (S 0 0 - 1) + ld (S 0 0 - 1) - k < n → G p l e (rmL 2) s m args below meth c 6 D z0 E (MQp D am ad h0 (fun r' x' => ∃ (an : Int32) (S' : SL), r' = some (.int an) ∧ ((pn = 2 ∧ DoL S (en 1 - bg 1) (sub cd (bg 1) (en 1 - bg 1)) an S') ∨ (pn ≠ 2 ∧ an = -1 ∧ S' = S)) ∧ LKS S' x' ∧ MIx x' ∧ x'.1 2 = x.1 2 ∧ x'.1 0 = x.1 0)) 0 0 47 [(5, .int (nI k)), (4, .int z), (3, .int (nI (S 0 0 - 1))), (2, .int a2), (1, .int (nI W)), (0, .ref am)] [] h 0 0 := by
      intro n
      induction n with
      | zero => intro k z hz hk0 hk1 hn; exact absurd hn (Nat.not_lt_zero _)
      | succ n ih =>
        intro k z hz hk0 hk1 hn
        refine g_iload_n cx 2 d_8_19_47 rfl rfl ?_
        refine g_if_lt cx d_8_19_48 rfl (fun c48 => absurd c48 (nI_pos (by omega))) (fun c48 => ?_)
        refine g_iload cx 0 d_8_19_51 rfl ?_
        refine g_iconst cx (v := 4) d_8_19_53 (by decide) ?_
        refine g_iload_n cx 2 d_8_19_54 rfl rfl ?_
        refine g_imul cx d_8_19_55 ?_
        refine g_aload_n cx 5 d_8_19_56 rfl rfl ?_
        refine m_get cx (k := 13) d_8_19_57 t_911 ⟨by decide, rfl⟩ hm rfl ?_
        refine g_iload_n cx 2 d_8_19_60 rfl rfl ?_
        refine m_ld1 cx d_8_19_61 (by decide) hm rfl ⟨(show S 0 0 - 1 < 8 by omega), by decide⟩ ?_
        refine g_iadd cx d_8_19_62 ?_
        refine g_icmp_ge cx d_8_19_63 rfl (fun c63 => ?_) (fun c63 => ?_)
        · skip
          have hke : k = 4 * (S 0 0 - 1) + ld (S 0 0 - 1) := by
            have h9 : ¬ k < 4 * (S 0 0 - 1) + ld (S 0 0 - 1) := fun y => absurd c63 (by rw [hb]; exact nI_ge y (by omega))
            omega
          exact c95 W k z a2 (by rw [hke] at hz; exact hz) hr00 hb1 hld ho h hm hs
        · skip
          have hk : k < 4 * (S 0 0 - 1) + ld (S 0 0 - 1) := Nat.lt_of_not_le (fun y => c63 (by rw [hb]; exact nI_le y (by omega)))
          refine g_iload cx 1 d_8_19_66 rfl ?_
          refine g_if_ne cx d_8_19_68 rfl (fun c68 => ?_) (fun c68 => ?_)
          · skip
            refine g_iconst cx (v := 1) d_8_19_82 (by decide) ?_
            refine g_goto cx d_8_19_83 rfl ?_
            refine g_topi (fun z1 ez1 => ?_)
            have hz1 : ((z1 = 1 ∧ ∃ t, t < ld (S 0 0 - 1) ∧ x.2.1 14 (4 * (S 0 0 - 1) + t) = a2) ∨ (z1 = 0 ∧ ∀ t, 4 * (S 0 0 - 1) + t < k + 1 → ¬ x.2.1 14 (4 * (S 0 0 - 1) + t) = a2)) := by
              first
                | exact Or.inl ⟨ez1, hz.elim (fun y => y.2) (fun y => absurd y.1 c68)⟩
                | exact Or.inl ⟨ez1, k - 4 * (S 0 0 - 1), by omega, by rw [show 4 * (S 0 0 - 1) + (k - 4 * (S 0 0 - 1)) = k by omega]; exact c79⟩
                | exact Or.inr ⟨ez1, fun t ht y => by
                    by_cases e : 4 * (S 0 0 - 1) + t = k
                    · rw [e] at y
                      exact c79 y
                    · exact (hz.elim (fun u => absurd (c68.symm.trans u.1) (by decide)) (fun u => u.2)) t (by omega) y⟩
            refine g_istore cx (lv' := [(4, .int z1), (5, .int (nI k)), (3, .int (nI (S 0 0 - 1))), (2, .int a2), (1, .int (nI W)), (0, .ref am)]) d_8_19_87 (by decide) rfl ?_
            refine g_iinc cx 1 (lv' := [(5, .int (nI (k + 1))), (4, .int z1), (3, .int (nI (S 0 0 - 1))), (2, .int a2), (1, .int (nI W)), (0, .ref am)]) d_8_19_89 rfl (inc1 k) (by decide) rfl ?_
            refine g_goto cx d_8_19_92 rfl ?_
            exact ih (k + 1) z1 hz1 (by omega) (by omega) (by omega)
          · skip
            refine g_aload_n cx 5 d_8_19_71 rfl rfl ?_
            refine m_get cx (k := 14) d_8_19_72 t_912 ⟨by decide, rfl⟩ hm rfl ?_
            refine g_iload cx 0 d_8_19_75 rfl ?_
            refine m_ld1 cx d_8_19_77 (by decide) hm rfl ⟨(show k < 32 by omega), by decide⟩ ?_
            refine g_iload_n cx 3 d_8_19_78 rfl rfl ?_
            refine g_icmp_ne cx d_8_19_79 rfl (fun c79 => ?_) (fun c79 => ?_)
            · skip
              refine g_iconst cx (v := 0) d_8_19_86 (by decide) ?_
              refine g_topi (fun z1 ez1 => ?_)
              have hz1 : ((z1 = 1 ∧ ∃ t, t < ld (S 0 0 - 1) ∧ x.2.1 14 (4 * (S 0 0 - 1) + t) = a2) ∨ (z1 = 0 ∧ ∀ t, 4 * (S 0 0 - 1) + t < k + 1 → ¬ x.2.1 14 (4 * (S 0 0 - 1) + t) = a2)) := by
                first
                  | exact Or.inl ⟨ez1, hz.elim (fun y => y.2) (fun y => absurd y.1 c68)⟩
                  | exact Or.inl ⟨ez1, k - 4 * (S 0 0 - 1), by omega, by rw [show 4 * (S 0 0 - 1) + (k - 4 * (S 0 0 - 1)) = k by omega]; exact c79⟩
                  | exact Or.inr ⟨ez1, fun t ht y => by
                      by_cases e : 4 * (S 0 0 - 1) + t = k
                      · rw [e] at y
                        exact c79 y
                      · exact (hz.elim (fun u => absurd (c68.symm.trans u.1) (by decide)) (fun u => u.2)) t (by omega) y⟩
              refine g_istore cx (lv' := [(4, .int z1), (5, .int (nI k)), (3, .int (nI (S 0 0 - 1))), (2, .int a2), (1, .int (nI W)), (0, .ref am)]) d_8_19_87 (by decide) rfl ?_
              refine g_iinc cx 1 (lv' := [(5, .int (nI (k + 1))), (4, .int z1), (3, .int (nI (S 0 0 - 1))), (2, .int a2), (1, .int (nI W)), (0, .ref am)]) d_8_19_89 rfl (inc1 k) (by decide) rfl ?_
              refine g_goto cx d_8_19_92 rfl ?_
              exact ih (k + 1) z1 hz1 (by omega) (by omega) (by omega)
            · skip
              refine g_iconst cx (v := 1) d_8_19_82 (by decide) ?_
              refine g_goto cx d_8_19_83 rfl ?_
              refine g_topi (fun z1 ez1 => ?_)
              have hz1 : ((z1 = 1 ∧ ∃ t, t < ld (S 0 0 - 1) ∧ x.2.1 14 (4 * (S 0 0 - 1) + t) = a2) ∨ (z1 = 0 ∧ ∀ t, 4 * (S 0 0 - 1) + t < k + 1 → ¬ x.2.1 14 (4 * (S 0 0 - 1) + t) = a2)) := by
                first
                  | exact Or.inl ⟨ez1, hz.elim (fun y => y.2) (fun y => absurd y.1 c68)⟩
                  | exact Or.inl ⟨ez1, k - 4 * (S 0 0 - 1), by omega, by rw [show 4 * (S 0 0 - 1) + (k - 4 * (S 0 0 - 1)) = k by omega]; exact c79⟩
                  | exact Or.inr ⟨ez1, fun t ht y => by
                      by_cases e : 4 * (S 0 0 - 1) + t = k
                      · rw [e] at y
                        exact c79 y
                      · exact (hz.elim (fun u => absurd (c68.symm.trans u.1) (by decide)) (fun u => u.2)) t (by omega) y⟩
              refine g_istore cx (lv' := [(4, .int z1), (5, .int (nI k)), (3, .int (nI (S 0 0 - 1))), (2, .int a2), (1, .int (nI W)), (0, .ref am)]) d_8_19_87 (by decide) rfl ?_
              refine g_iinc cx 1 (lv' := [(5, .int (nI (k + 1))), (4, .int z1), (3, .int (nI (S 0 0 - 1))), (2, .int a2), (1, .int (nI W)), (0, .ref am)]) d_8_19_89 rfl (inc1 k) (by decide) rfl ?_
              refine g_goto cx d_8_19_92 rfl ?_
              exact ih (k + 1) z1 hz1 (by omega) (by omega) (by omega)
    refine g_aload_n cx 2 d_8_19_32 rfl rfl ?_
    refine m_get cx (k := 11) d_8_19_33 t_909 ⟨by decide, rfl⟩ hm rfl ?_
    refine g_iconst cx (v := 1) d_8_19_36 (by decide) ?_
    refine g_isub cx d_8_19_37 ?_
    refine g_topi (fun r1 er1 => ?_)
    obtain rfl : r1 = nI (S 0 0 - 1) := er1.trans (by show x.1 11 - 1 = _; rw [hIR.1]; exact pk_sub (b := 1) hr00)
    refine g_istore_n cx (lv' := [(3, .int (nI (S 0 0 - 1))), (2, .int a2), (1, .int (nI W)), (0, .ref am)]) d_8_19_38 rfl (by decide) rfl ?_
    refine g_iconst cx (v := 0) d_8_19_39 (by decide) ?_
    refine g_topi (fun z4 ez4 => ?_)
    obtain rfl : z4 = 0 := ez4
    refine g_istore cx (lv' := [(4, .int 0), (3, .int (nI (S 0 0 - 1))), (2, .int a2), (1, .int (nI W)), (0, .ref am)]) d_8_19_40 (by decide) rfl ?_
    refine g_iconst cx (v := 4) d_8_19_42 (by decide) ?_
    refine g_iload_n cx 1 d_8_19_43 rfl rfl ?_
    refine g_imul cx d_8_19_44 ?_
    refine g_topi (fun k5 ek5 => ?_)
    obtain rfl : k5 = nI (4 * (S 0 0 - 1)) := by rw [ek5]; exact pk_mul 4 (S 0 0 - 1)
    refine g_istore cx (lv' := [(5, .int (nI (4 * (S 0 0 - 1)))), (4, .int 0), (3, .int (nI (S 0 0 - 1))), (2, .int a2), (1, .int (nI W)), (0, .ref am)]) d_8_19_45 (by decide) rfl ?_
    exact lp (ld (S 0 0 - 1) + 1) (4 * (S 0 0 - 1)) 0 (Or.inr ⟨rfl, fun t ht => absurd ht (by omega)⟩) (by omega) (by omega) (by omega)
  have c32 : ∀ (W : Nat) (a2 : Int32) (ho : ((a2 = -1 ∧ ((pn = 2 ∧ ∀ j, ¬ AFst S (en 1 - bg 1) (sub cd (bg 1) (en 1 - bg 1)) j) ∨ pn ≠ 2)) ∨ ∃ g, g < S 4 0 ∧ a2 = nI g ∧ pn = 2 ∧ AFst S (en 1 - bg 1) (sub cd (bg 1) (en 1 - bg 1)) g)) (h : hp) (hm : Mo D am ad x h) (hs : Sm am ad h0 h), G p l e (rmL 2) s m args below meth c 6 D z0 E (MQp D am ad h0 (fun r' x' => ∃ (an : Int32) (S' : SL), r' = some (.int an) ∧ ((pn = 2 ∧ DoL S (en 1 - bg 1) (sub cd (bg 1) (en 1 - bg 1)) an S') ∨ (pn ≠ 2 ∧ an = -1 ∧ S' = S)) ∧ LKS S' x' ∧ MIx x' ∧ x'.1 2 = x.1 2 ∧ x'.1 0 = x.1 0)) 0 0 32 [(2, .int a2), (1, .int (nI W)), (0, .ref am)] [] h 0 0 := by
    intro W a2 ho h hm hs
    rcases Nat.eq_zero_or_pos (S 0 0) with hr00 | hr00
    · exact c32z W a2 hr00 ho h hm hs
    · exact c32p W a2 hr00 ho h hm hs
  have c18 : ∀ (W : Nat) (hW : ((pn = 2 ∧ WordP cd (bg 1) (en 1 - bg 1) ∧ W = wcp cd (bg 1) (en 1 - bg 1)) ∨ (¬ (pn = 2 ∧ WordP cd (bg 1) (en 1 - bg 1)) ∧ W = 0))) (h : hp) (hm : Mo D am ad x h) (hs : Sm am ad h0 h), G p l e (rmL 2) s m args below meth c 6 D z0 E (MQp D am ad h0 (fun r' x' => ∃ (an : Int32) (S' : SL), r' = some (.int an) ∧ ((pn = 2 ∧ DoL S (en 1 - bg 1) (sub cd (bg 1) (en 1 - bg 1)) an S') ∨ (pn ≠ 2 ∧ an = -1 ∧ S' = S)) ∧ LKS S' x' ∧ MIx x' ∧ x'.1 2 = x.1 2 ∧ x'.1 0 = x.1 0)) 0 0 18 [(1, .int (nI W)), (0, .ref am)] [] h 0 0 := by
    intro W hW h hm hs
    refine g_iload_n cx 0 d_8_19_18 rfl rfl ?_
    refine g_if_ne cx d_8_19_19 rfl (fun c19 => ?_) (fun c19 => ?_)
    · skip
      have hok : pn = 2 ∧ WordOk (en 1 - bg 1) (sub cd (bg 1) (en 1 - bg 1)) ∧ wcp (sub cd (bg 1) (en 1 - bg 1)) 0 (en 1 - bg 1) = W := by
        rcases hW with ⟨w1, w2, w3⟩ | ⟨w1, w2⟩
        · exact ⟨w1, WordP.ok.mp w2, wcp_sub.trans w3.symm⟩
        · exact absurd (by rw [w2]; rfl) c19
      refine g_aload_n cx 1 d_8_19_26 rfl rfl ?_
      refine g_iload_n cx 0 d_8_19_27 rfl rfl ?_
      refine m_call 2 cx (As := [.int (nI W)]) (n := 1) (mc_archiveOfF hSt hA x (nI W) (S 4 0) hIA.1 hIA.2) d_8_19_28 t_1030 t_1032 ts_33 t_1033 rfl ⟨rfl, by decide +kernel⟩ rfl ⟨by decide, by decide⟩ (Nat.le_of_ble_eq_true rfl) hm hs (fun v28 x28 h hm hs r28 => ?_)
      obtain ⟨e28, r28⟩ := r28
      rw [e28] at hm
      rcases r28 with ⟨j, hj, rfl, hjc, hmin⟩ | ⟨rfl, hnone⟩
      · skip
        refine g_topi (fun a2 ea2 => ?_)
        refine g_istore_n cx (lv' := [(2, .int a2), (1, .int (nI W)), (0, .ref am)]) d_8_19_31 rfl (by decide) rfl ?_
        exact c32 W a2 (Or.inr ⟨j, hj, ea2, hok.1, hj, (hL.a hj hok.2.1).mpr (by rw [hok.2.2]; exact hjc), fun t ht q => hmin t ht (by have h9 := (hL.a (by omega) hok.2.1).mp q; rw [hok.2.2] at h9; exact h9)⟩) h hm hs
      · skip
        refine g_topi (fun a2 ea2 => ?_)
        refine g_istore_n cx (lv' := [(2, .int a2), (1, .int (nI W)), (0, .ref am)]) d_8_19_31 rfl (by decide) rfl ?_
        exact c32 W a2 (Or.inl ⟨ea2, Or.inl ⟨hok.1, fun j q => hnone j q.1 (by have h9 := (hL.a q.1 hok.2.1).mp q.2.1; rw [hok.2.2] at h9; exact h9)⟩⟩) h hm hs
    · skip
      have hz9 : ((pn = 2 ∧ ∀ j, ¬ AFst S (en 1 - bg 1) (sub cd (bg 1) (en 1 - bg 1)) j) ∨ pn ≠ 2) := by
        by_cases hp2 : pn = 2
        · refine Or.inl ⟨hp2, fun j q => ?_⟩
          rcases hW with ⟨w1, w2, w3⟩ | ⟨w1, w2⟩
          · rw [w3] at c19
            exact absurd ((nI_eq (b := 0) (by have := (wcp_dg w2).1; omega) (by decide)).mp c19) (by have := wcp_pos w2; omega)
          · exact w1 ⟨hp2, WordP.ok.mpr (hL.aw q)⟩
        · exact Or.inr hp2
      refine g_iconst cx (v := (-1)) d_8_19_22 (by decide) ?_
      refine g_goto cx d_8_19_23 rfl ?_
      refine g_topi (fun a2 ea2 => ?_)
      refine g_istore_n cx (lv' := [(2, .int a2), (1, .int (nI W)), (0, .ref am)]) d_8_19_31 rfl (by decide) rfl ?_
      exact c32 W a2 (Or.inl ⟨ea2, hz9⟩) h hm hs
  refine g_aload_n cx 0 d_8_19_0 rfl rfl ?_
  refine m_get cx (k := 3) d_8_19_1 t_901 ⟨by decide, rfl⟩ hm rfl ?_
  refine g_iconst cx (v := 2) d_8_19_4 (by decide) ?_
  refine g_icmp_ne cx d_8_19_5 rfl (fun c5 => ?_) (fun c5 => ?_)
  · skip
    have hp2 : pn ≠ 2 := fun q => c5 (by show x.1 3 = 2; rw [hpt.1, q]; rfl)
    refine g_iconst cx (v := 0) d_8_19_16 (by decide) ?_
    refine g_topi (fun w1 ew1 => ?_)
    refine g_istore_n cx (lv' := [(1, .int w1), (0, .ref am)]) d_8_19_17 rfl (by decide) rfl ?_
    first
      | exact (by
          obtain rfl : w1 = nI W := ew1
          exact c18 W (by rcases hW with ⟨q1, q2, q3⟩ | ⟨q1, q2⟩
                          · exact Or.inl ⟨hp2, q2, q3⟩
                          · exact Or.inr ⟨fun q => q1 ⟨by omega, q.2⟩, q2⟩) h hm hs)
      | exact (by
          obtain rfl : w1 = nI 0 := ew1
          exact c18 0 (Or.inr ⟨fun q => hp2 q.1, rfl⟩) h hm hs)
  · skip
    have hp2 : pn = 2 := (nI_eq (b := 2) (by have := hpt.2.1; omega) (by decide)).mp (hpt.1.symm.trans c5)
    refine g_aload_n cx 0 d_8_19_8 rfl rfl ?_
    refine g_iconst cx (v := 1) d_8_19_9 (by decide) ?_
    refine m_call 2 cx (As := [.int (nI 1)]) (n := 1) (mc_wordOfF hSt hA x 1 pn cd bg en hpt (by decide) (htx 1)) d_8_19_10 t_1021 t_1023 ts_31 t_1024 rfl ⟨rfl, by decide +kernel⟩ rfl ⟨by decide, by decide⟩ (Nat.le_of_ble_eq_true rfl) hm hs (fun v10 x10 h hm hs r10 => ?_)
    obtain ⟨e10, W, rfl, hW⟩ := r10
    rw [e10] at hm
    refine g_goto cx d_8_19_13 rfl ?_
    refine g_topi (fun w1 ew1 => ?_)
    refine g_istore_n cx (lv' := [(1, .int w1), (0, .ref am)]) d_8_19_17 rfl (by decide) rfl ?_
    first
      | exact (by
          obtain rfl : w1 = nI W := ew1
          exact c18 W (by rcases hW with ⟨q1, q2, q3⟩ | ⟨q1, q2⟩
                          · exact Or.inl ⟨hp2, q2, q3⟩
                          · exact Or.inr ⟨fun q => q1 ⟨by omega, q.2⟩, q2⟩) h hm hs)
      | exact (by
          obtain rfl : w1 = nI 0 := ew1
          exact c18 0 (Or.inr ⟨fun q => hp2 q.1, rfl⟩) h hm hs)
end M13
