/-! The reference's newImport and line, by S. -/
section M14
variable {l : Launch} {D : va_G} {z0 : Nat} {E : State → Prop} {am : Nat} {ad : Nat → Nat}
set_option maxHeartbeats 4000000 in
theorem mc_newImportG (hSt : Stb z0 E) (hA : Ad am ad) (x : MS) (pn cd : Nat) (bg en : Nat → Nat) (S : SL) (nm ld im kp : Nat → Nat) (mn : Nat) (hpt : PT x pn bg en) (hM : MI x (S 4 0) (S 0 0) nm ld im kp mn) (hL : LKS S x) (htx : ∀ i, i < pn → ∀ j, j < en i → x.2.1 1 j = nI (chr cd j)) : MC l y_173 prog_8_method_20_code 6 (Option.some Jvm.ClassFile.FieldType.int) 2 D z0 E am ad [] x (fun r' x' => ∃ (an : Int32) (S' : SL), r' = some (.int an) ∧ (((pn = 4 ∧ IS (fun i => en i - bg i) (fun i => sub cd (bg i) (en i - bg i)) 2 7) ∧ DoI S (en 1 - bg 1) (sub cd (bg 1) (en 1 - bg 1)) (en 3 - bg 3) (sub cd (bg 3) (en 3 - bg 3)) an S') ∨ (¬ (pn = 4 ∧ IS (fun i => en i - bg i) (fun i => sub cd (bg i) (en i - bg i)) 2 7) ∧ an = -1 ∧ S' = S)) ∧ LKS S' x' ∧ MIx x' ∧ x'.1 2 = x.1 2 ∧ x'.1 0 = x.1 0) := by
  refine mc_of hSt rfl (Nat.le_of_ble_eq_true rfl) ?_
  intro h0 h p e s m args below meth c cx hm hs
  obtain ⟨hIA, hIR, hNm, hLd, hLo, hIm, hFr, hPa, hKp, hMn⟩ := id hM
  have hMx : MIx x := MIx.of hM
  have hal := hIA.2
  have hrl := hIR.2
  have c74n : ∀ (o4 : Int32) (W3 R : Nat) (ho : o4 = -1) (hz : ¬ ((pn = 4 ∧ IS (fun i => en i - bg i) (fun i => sub cd (bg i) (en i - bg i)) 2 7) ∧ NmOk (en 1 - bg 1) (sub cd (bg 1) (en 1 - bg 1)) ∧ ∃ j, RFst S (en 3 - bg 3) (sub cd (bg 3) (en 3 - bg 3)) j)) (h : hp) (hm : Mo D am ad x h) (hs : Sm am ad h0 h), G p l e (rmL 2) s m args below meth c 6 D z0 E (MQp D am ad h0 (fun r' x' => ∃ (an : Int32) (S' : SL), r' = some (.int an) ∧ (((pn = 4 ∧ IS (fun i => en i - bg i) (fun i => sub cd (bg i) (en i - bg i)) 2 7) ∧ DoI S (en 1 - bg 1) (sub cd (bg 1) (en 1 - bg 1)) (en 3 - bg 3) (sub cd (bg 3) (en 3 - bg 3)) an S') ∨ (¬ (pn = 4 ∧ IS (fun i => en i - bg i) (fun i => sub cd (bg i) (en i - bg i)) 2 7) ∧ an = -1 ∧ S' = S)) ∧ LKS S' x' ∧ MIx x' ∧ x'.1 2 = x.1 2 ∧ x'.1 0 = x.1 0)) 0 0 74 [(4, .int o4), (3, .int (nI W3)), (1, .long (lI R)), (0, .ref am)] [] h 0 0 := by
    intro o4 W3 R ho hz h hm hs
    refine g_aload_n cx 3 d_8_20_74 rfl rfl ?_
    refine m_get cx (k := 11) d_8_20_75 t_909 ⟨by decide, rfl⟩ hm rfl ?_
    refine g_iconst cx (v := 1) d_8_20_78 (by decide) ?_
    refine g_isub cx d_8_20_79 ?_
    refine g_topi (fun r1 er1 => ?_)
    refine g_istore cx (lv' := [(5, .int r1), (4, .int o4), (3, .int (nI W3)), (1, .long (lI R)), (0, .ref am)]) d_8_20_80 (by decide) rfl ?_
    refine g_iload cx 1 d_8_20_82 rfl ?_
    refine g_if_lt cx d_8_20_84 rfl (fun c84 => ?_) (fun c84 => absurd (by rw [ho]; decide) c84)
    have hnb : ¬ ((pn = 4 ∧ IS (fun i => en i - bg i) (fun i => sub cd (bg i) (en i - bg i)) 2 7) ∧ NmOk (en 1 - bg 1) (sub cd (bg 1) (en 1 - bg 1)) ∧ RGo S (en 3 - bg 3) (sub cd (bg 3) (en 3 - bg 3))) := fun q => hz ⟨q.1, q.2.1, q.2.2.elim (fun j hj => ⟨j, hj.1⟩)⟩
    refine g_iconst cx (v := (-1)) d_8_20_94 (by decide) ?_
    exact m_iret cx d_8_20_95 rfl rfl hm hs (by
    by_cases hpf : (pn = 4 ∧ IS (fun i => en i - bg i) (fun i => sub cd (bg i) (en i - bg i)) 2 7)
    · exact ⟨-1, S, rfl, Or.inl ⟨hpf, Or.inl ⟨rfl, rfl, fun q => hnb ⟨hpf, q⟩⟩⟩, hL, hMx, rfl, rfl⟩
    · exact ⟨-1, S, rfl, Or.inr ⟨hpf, rfl, rfl⟩, hL, hMx, rfl, rfl⟩)
  have c74p : ∀ (o4 : Int32) (W3 R : Nat) (g : Nat) (hg : g < S 0 0) (eg : o4 = nI g) (hpf : (pn = 4 ∧ IS (fun i => en i - bg i) (fun i => sub cd (bg i) (en i - bg i)) 2 7) ∧ NmOk (en 1 - bg 1) (sub cd (bg 1) (en 1 - bg 1))) (hf : RFst S (en 3 - bg 3) (sub cd (bg 3) (en 3 - bg 3)) g) (h : hp) (hm : Mo D am ad x h) (hs : Sm am ad h0 h), G p l e (rmL 2) s m args below meth c 6 D z0 E (MQp D am ad h0 (fun r' x' => ∃ (an : Int32) (S' : SL), r' = some (.int an) ∧ (((pn = 4 ∧ IS (fun i => en i - bg i) (fun i => sub cd (bg i) (en i - bg i)) 2 7) ∧ DoI S (en 1 - bg 1) (sub cd (bg 1) (en 1 - bg 1)) (en 3 - bg 3) (sub cd (bg 3) (en 3 - bg 3)) an S') ∨ (¬ (pn = 4 ∧ IS (fun i => en i - bg i) (fun i => sub cd (bg i) (en i - bg i)) 2 7) ∧ an = -1 ∧ S' = S)) ∧ LKS S' x' ∧ MIx x' ∧ x'.1 2 = x.1 2 ∧ x'.1 0 = x.1 0)) 0 0 74 [(4, .int o4), (3, .int (nI W3)), (1, .long (lI R)), (0, .ref am)] [] h 0 0 := by
    intro o4 W3 R g hg eg hpf hf h hm hs
    refine g_aload_n cx 3 d_8_20_74 rfl rfl ?_
    refine m_get cx (k := 11) d_8_20_75 t_909 ⟨by decide, rfl⟩ hm rfl ?_
    refine g_iconst cx (v := 1) d_8_20_78 (by decide) ?_
    refine g_isub cx d_8_20_79 ?_
    refine g_topi (fun r1 er1 => ?_)
    obtain rfl : r1 = nI (S 0 0 - 1) := er1.trans (by show x.1 11 - 1 = _; rw [hIR.1]; exact pk_sub (b := 1) (by omega))
    have hr00 : 0 < S 0 0 := by omega
    have hb1 := hIm (S 0 0 - 1) (by omega)
    have hmi : S 12 0 = im (S 0 0 - 1) := (nI_eq (by have := (hL.2.2.2.2.2.2.2 hr00).2.2; omega) (by have := hb1.2; omega)).mp ((hL.2.2.2.2.2.2.2 hr00).2.1.symm.trans hb1.1)
    refine g_istore cx (lv' := [(5, .int (nI (S 0 0 - 1))), (4, .int o4), (3, .int (nI W3)), (1, .long (lI R)), (0, .ref am)]) d_8_20_80 (by decide) rfl ?_
    refine g_iload cx 1 d_8_20_82 rfl ?_
    refine g_if_lt cx d_8_20_84 rfl (fun c84 => absurd c84 (by rw [eg]; exact nI_pos (by omega))) (fun c84 => ?_)
    refine g_iload cx 1 d_8_20_87 rfl ?_
    refine g_iload cx 0 d_8_20_89 rfl ?_
    refine g_icmp_ne cx d_8_20_91 rfl (fun c91 => ?_) (fun c91 => ?_)
    · skip
      have hgo : RGo S (en 3 - bg 3) (sub cd (bg 3) (en 3 - bg 3)) := ⟨g, hf, fun q => c91 (by rw [eg, q])⟩
      refine g_aload_n cx 4 d_8_20_96 rfl rfl ?_
      refine m_call 2 cx (As := []) (n := 0) (mc_isShutG hSt hA x S hL) d_8_20_97 t_1054 t_1056 ts_39 t_1057 rfl ⟨rfl, by decide +kernel⟩ rfl ⟨by decide, by decide⟩ (Nat.le_of_ble_eq_true rfl) hm hs (fun v97 x97 h hm hs r97 => ?_)
      obtain ⟨e97, r97⟩ := r97
      rw [e97] at hm
      rcases r97 with ⟨rfl, hsh⟩ | ⟨rfl, hns, hr0⟩
      · skip
        refine g_if_ne cx d_8_20_100 rfl (fun c100 => ?_) (fun c100 => absurd c100 (by decide))
        have h4 : Shut S ∨ ¬ S 12 0 < 4 := by
          first
            | exact Or.inl hsh
            | exact Or.inr (fun q => by
                have := (nI_eq (b := 4) (by have := hb1.2; omega) (by decide)).mp (hb1.1.symm.trans c111)
                omega)
        refine g_bipush cx (v := (-2)) d_8_20_114 (by decide) ?_
        exact m_iret cx d_8_20_116 rfl rfl hm hs ⟨-2, S, rfl, Or.inl ⟨hpf.1, Or.inr (Or.inl ⟨rfl, rfl, ⟨hpf.2, hgo⟩, h4⟩)⟩, hL, hMx, rfl, rfl⟩
      · skip
        refine g_if_ne cx d_8_20_100 rfl (fun c100 => absurd rfl c100) (fun c100 => ?_)
        refine g_aload_n cx 4 d_8_20_103 rfl rfl ?_
        refine m_get cx (k := 15) d_8_20_104 t_913 ⟨by decide, rfl⟩ hm rfl ?_
        refine g_iload cx 0 d_8_20_107 rfl ?_
        refine m_ld1 cx d_8_20_109 (by decide) hm rfl ⟨(show S 0 0 - 1 < 8 by omega), by decide⟩ ?_
        refine g_iconst cx (v := 4) d_8_20_110 (by decide) ?_
        refine g_icmp_ne cx d_8_20_111 rfl (fun c111 => ?_) (fun c111 => ?_)
        · skip
          have hb : 4 * nI (S 0 0 - 1) + x.2.1 15 (S 0 0 - 1) = nI (4 * (S 0 0 - 1) + im (S 0 0 - 1)) := by rw [hb1.1, show (4 : Int32) = nI 4 from rfl, pk_mul, nI_add]
          have hn4 : im (S 0 0 - 1) < 4 := by
            have hb2 := hb1.2
            rcases Nat.lt_or_ge (im (S 0 0 - 1)) 4 with q | q
            · exact q
            · exact absurd (by rw [hb1.1, show im (S 0 0 - 1) = 4 by omega]; rfl) c111
          refine g_aload_n cx 4 d_8_20_117 rfl rfl ?_
          refine m_get cx (k := 20) d_8_20_118 t_918 ⟨by decide, rfl⟩ hm rfl ?_
          refine g_iconst cx (v := 4) d_8_20_121 (by decide) ?_
          refine g_iload cx 0 d_8_20_122 rfl ?_
          refine g_imul cx d_8_20_124 ?_
          refine g_aload_n cx 4 d_8_20_125 rfl rfl ?_
          refine m_get cx (k := 15) d_8_20_126 t_913 ⟨by decide, rfl⟩ hm rfl ?_
          refine g_iload cx 0 d_8_20_129 rfl ?_
          refine m_ld1 cx d_8_20_131 (by decide) hm rfl ⟨(show S 0 0 - 1 < 8 by omega), by decide⟩ ?_
          refine g_iadd cx d_8_20_132 ?_
          refine g_lload_n cx 3 d_8_20_133 rfl rfl ?_
          refine m_st3 cx hA d_8_20_134 (by decide) hm hs hb ⟨(show 4 * (S 0 0 - 1) + im (S 0 0 - 1) < 32 by omega), by decide⟩ (fun h hm hs => ?_)
          refine g_aload_n cx 4 d_8_20_135 rfl rfl ?_
          refine m_get cx (k := 16) d_8_20_136 t_914 ⟨by decide, rfl⟩ hm rfl ?_
          refine g_iconst cx (v := 4) d_8_20_139 (by decide) ?_
          refine g_iload cx 0 d_8_20_140 rfl ?_
          refine g_imul cx d_8_20_142 ?_
          refine g_aload_n cx 4 d_8_20_143 rfl rfl ?_
          refine m_get cx (k := 15) d_8_20_144 t_913 ⟨by decide, rfl⟩ hm rfl ?_
          refine g_iload cx 0 d_8_20_147 rfl ?_
          refine m_ld1 cx d_8_20_149 (by decide) hm rfl ⟨(show S 0 0 - 1 < 8 by omega), by decide⟩ ?_
          refine g_iadd cx d_8_20_150 ?_
          refine g_iload cx 1 d_8_20_151 rfl ?_
          refine m_st1 cx hA d_8_20_153 (by decide) hm hs hb ⟨(show 4 * (S 0 0 - 1) + im (S 0 0 - 1) < 32 by omega), by decide⟩ (fun h hm hs => ?_)
          refine g_aload_n cx 4 d_8_20_154 rfl rfl ?_
          refine m_get cx (k := 15) d_8_20_155 t_913 ⟨by decide, rfl⟩ hm rfl ?_
          refine g_iload cx 0 d_8_20_158 rfl ?_
          refine g_dup2_11 cx d_8_20_160 rfl rfl ?_
          refine m_ld1 cx d_8_20_161 (by decide) hm rfl ⟨(show S 0 0 - 1 < 8 by omega), by decide⟩ ?_
          refine g_iconst cx (v := 1) d_8_20_162 (by decide) ?_
          refine g_iadd cx d_8_20_163 ?_
          refine g_topi (fun t1 et1 => ?_)
          obtain rfl : t1 = nI (im (S 0 0 - 1) + 1) := et1.trans (by show x.2.1 15 (S 0 0 - 1) + 1 = _; rw [hb1.1, nI_1])
          refine m_st1 cx hA d_8_20_164 (by decide) hm hs rfl ⟨(show S 0 0 - 1 < 8 by omega), by decide⟩ (fun h hm hs => ?_)
          refine g_iconst cx (v := 4) d_8_20_165 (by decide) ?_
          exact m_iret cx d_8_20_166 rfl rfl hm hs ⟨4, addI S, rfl, Or.inl ⟨hpf.1, Or.inr (Or.inr ⟨rfl, rfl, ⟨hpf.2, hgo⟩, fun q => q.elim hns (fun y => y (by omega))⟩)⟩, (by have h9 := hL.addI (k1 := 4 * (S 0 0 - 1) + im (S 0 0 - 1)) (v1 := lI R) (v2 := o4) hr00 (by omega); rw [hmi] at h9; exact h9), ⟨S 4 0, S 0 0, nm, ld, (fun i => if i = S 0 0 - 1 then im (S 0 0 - 1) + 1 else im i), kp, mn, hIA, hIR, hNm, hLd, hLo, (fun i hi => by
    show upd (x.2.1 15) (S 0 0 - 1) (nI (im (S 0 0 - 1) + 1)) i = nI (if i = S 0 0 - 1 then im (S 0 0 - 1) + 1 else im i) ∧ (if i = S 0 0 - 1 then im (S 0 0 - 1) + 1 else im i) ≤ 4
    by_cases q : i = S 0 0 - 1
    · rw [if_pos q, q]; exact ⟨pk_us, by omega⟩
    · rw [if_neg q, pk_un q]; exact hIm i hi), (fun k9 hk9 => by
    show ∃ g, g < 8 ∧ upd (x.2.1 16) (4 * (S 0 0 - 1) + im (S 0 0 - 1)) o4 k9 = nI g
    by_cases q : k9 = 4 * (S 0 0 - 1) + im (S 0 0 - 1)
    · rw [q]; exact ⟨g, by omega, pk_us.trans eg⟩
    · rw [pk_un q]; exact hFr k9 hk9), hPa, hKp, hMn⟩, rfl, rfl⟩
        · skip
          have h4 : Shut S ∨ ¬ S 12 0 < 4 := by
            first
              | exact Or.inl hsh
              | exact Or.inr (fun q => by
                  have := (nI_eq (b := 4) (by have := hb1.2; omega) (by decide)).mp (hb1.1.symm.trans c111)
                  omega)
          refine g_bipush cx (v := (-2)) d_8_20_114 (by decide) ?_
          exact m_iret cx d_8_20_116 rfl rfl hm hs ⟨-2, S, rfl, Or.inl ⟨hpf.1, Or.inr (Or.inl ⟨rfl, rfl, ⟨hpf.2, hgo⟩, h4⟩)⟩, hL, hMx, rfl, rfl⟩
    · skip
      have hnb : ¬ ((pn = 4 ∧ IS (fun i => en i - bg i) (fun i => sub cd (bg i) (en i - bg i)) 2 7) ∧ NmOk (en 1 - bg 1) (sub cd (bg 1) (en 1 - bg 1)) ∧ RGo S (en 3 - bg 3) (sub cd (bg 3) (en 3 - bg 3))) := fun q => q.2.2.elim (fun j hj => hj.2 (by
        have e2 : g = S 0 0 - 1 := (nI_eq (by omega) (by omega)).mp (eg.symm.trans c91)
        rw [hj.1.u hf]
        exact e2))
      refine g_iconst cx (v := (-1)) d_8_20_94 (by decide) ?_
      exact m_iret cx d_8_20_95 rfl rfl hm hs (by
    by_cases hpf : (pn = 4 ∧ IS (fun i => en i - bg i) (fun i => sub cd (bg i) (en i - bg i)) 2 7)
    · exact ⟨-1, S, rfl, Or.inl ⟨hpf, Or.inl ⟨rfl, rfl, fun q => hnb ⟨hpf, q⟩⟩⟩, hL, hMx, rfl, rfl⟩
    · exact ⟨-1, S, rfl, Or.inr ⟨hpf, rfl, rfl⟩, hL, hMx, rfl, rfl⟩)
  have c59 : ∀ (W3 R : Nat) (hW3 : ((((pn = 4 ∧ IS (fun i => en i - bg i) (fun i => sub cd (bg i) (en i - bg i)) 2 7) ∧ NmOk (en 1 - bg 1) (sub cd (bg 1) (en 1 - bg 1))) ∧ WordOk (en 3 - bg 3) (sub cd (bg 3) (en 3 - bg 3)) ∧ wcp (sub cd (bg 3) (en 3 - bg 3)) 0 (en 3 - bg 3) = W3) ∨ (¬ (((pn = 4 ∧ IS (fun i => en i - bg i) (fun i => sub cd (bg i) (en i - bg i)) 2 7) ∧ NmOk (en 1 - bg 1) (sub cd (bg 1) (en 1 - bg 1))) ∧ WordOk (en 3 - bg 3) (sub cd (bg 3) (en 3 - bg 3))) ∧ W3 = 0))) (h : hp) (hm : Mo D am ad x h) (hs : Sm am ad h0 h), G p l e (rmL 2) s m args below meth c 6 D z0 E (MQp D am ad h0 (fun r' x' => ∃ (an : Int32) (S' : SL), r' = some (.int an) ∧ (((pn = 4 ∧ IS (fun i => en i - bg i) (fun i => sub cd (bg i) (en i - bg i)) 2 7) ∧ DoI S (en 1 - bg 1) (sub cd (bg 1) (en 1 - bg 1)) (en 3 - bg 3) (sub cd (bg 3) (en 3 - bg 3)) an S') ∨ (¬ (pn = 4 ∧ IS (fun i => en i - bg i) (fun i => sub cd (bg i) (en i - bg i)) 2 7) ∧ an = -1 ∧ S' = S)) ∧ LKS S' x' ∧ MIx x' ∧ x'.1 2 = x.1 2 ∧ x'.1 0 = x.1 0)) 0 0 59 [(3, .int (nI W3)), (1, .long (lI R)), (0, .ref am)] [] h 0 0 := by
    intro W3 R hW3 h hm hs
    refine g_iload_n cx 0 d_8_20_59 rfl rfl ?_
    refine g_if_ne cx d_8_20_60 rfl (fun c60 => ?_) (fun c60 => ?_)
    · skip
      have hok : ((pn = 4 ∧ IS (fun i => en i - bg i) (fun i => sub cd (bg i) (en i - bg i)) 2 7) ∧ NmOk (en 1 - bg 1) (sub cd (bg 1) (en 1 - bg 1))) ∧ WordOk (en 3 - bg 3) (sub cd (bg 3) (en 3 - bg 3)) ∧ wcp (sub cd (bg 3) (en 3 - bg 3)) 0 (en 3 - bg 3) = W3 := by
        rcases hW3 with q | q
        · exact q
        · exact absurd (by rw [q.2]; rfl) c60
      refine g_aload_n cx 2 d_8_20_67 rfl rfl ?_
      refine g_iload_n cx 0 d_8_20_68 rfl rfl ?_
      refine m_call 2 cx (As := [.int (nI W3)]) (n := 1) (mc_realmOfF hSt hA x (nI W3) (S 0 0) hIR.1 hIR.2) d_8_20_69 t_1046 t_1048 ts_37 t_1049 rfl ⟨rfl, by decide +kernel⟩ rfl ⟨by decide, by decide⟩ (Nat.le_of_ble_eq_true rfl) hm hs (fun v69 x69 h hm hs r69 => ?_)
      obtain ⟨e69, r69⟩ := r69
      rw [e69] at hm
      rcases r69 with ⟨j, hj, rfl, hjc, hmin⟩ | ⟨rfl, hnone⟩
      · skip
        refine g_topi (fun o4 eo4 => ?_)
        refine g_istore cx (lv' := [(4, .int o4), (3, .int (nI W3)), (1, .long (lI R)), (0, .ref am)]) d_8_20_72 (by decide) rfl ?_
        exact c74p o4 W3 R j hj eo4 hok.1 ⟨hj, (hL.r hj hok.2.1).mpr (by rw [hok.2.2]; exact hjc), fun t ht q => hmin t ht (by have h9 := (hL.r (by omega) hok.2.1).mp q; rw [hok.2.2] at h9; exact h9)⟩ h hm hs
      · skip
        refine g_topi (fun o4 eo4 => ?_)
        refine g_istore cx (lv' := [(4, .int o4), (3, .int (nI W3)), (1, .long (lI R)), (0, .ref am)]) d_8_20_72 (by decide) rfl ?_
        exact c74n o4 W3 R eo4 (fun z => by
          obtain ⟨z1, z2, j, z3⟩ := z
          exact hnone j z3.1 (by have h9 := (hL.r z3.1 hok.2.1).mp z3.2.1; rw [hok.2.2] at h9; exact h9)) h hm hs
    · skip
      have hz9 : ¬ ((pn = 4 ∧ IS (fun i => en i - bg i) (fun i => sub cd (bg i) (en i - bg i)) 2 7) ∧ NmOk (en 1 - bg 1) (sub cd (bg 1) (en 1 - bg 1)) ∧ ∃ j, RFst S (en 3 - bg 3) (sub cd (bg 3) (en 3 - bg 3)) j) := fun z => by
        obtain ⟨z1, z2, j, z3⟩ := z
        rcases hW3 with q | q
        · rw [← q.2.2] at c60
          exact absurd ((nI_eq (b := 0) (by have := (wcp_dg q.2.1.p).1; omega) (by decide)).mp c60) (by have := wcp_pos q.2.1.p; omega)
        · exact q.1 ⟨⟨z1, z2⟩, hL.rw z3⟩
      refine g_iconst cx (v := (-1)) d_8_20_63 (by decide) ?_
      refine g_goto cx d_8_20_64 rfl ?_
      refine g_topi (fun o4 eo4 => ?_)
      refine g_istore cx (lv' := [(4, .int o4), (3, .int (nI W3)), (1, .long (lI R)), (0, .ref am)]) d_8_20_72 (by decide) rfl ?_
      exact c74n o4 W3 R eo4 hz9 h hm hs
  have c43 : ∀ (R : Nat) (hR : (((pn = 4 ∧ IS (fun i => en i - bg i) (fun i => sub cd (bg i) (en i - bg i)) 2 7) ∧ NV cd 2 (bg 1) (en 1 - bg 1) R) ∨ (¬ ((pn = 4 ∧ IS (fun i => en i - bg i) (fun i => sub cd (bg i) (en i - bg i)) 2 7) ∧ NmR cd 2 (bg 1) (en 1 - bg 1)) ∧ R = 0))) (h : hp) (hm : Mo D am ad x h) (hs : Sm am ad h0 h), G p l e (rmL 2) s m args below meth c 6 D z0 E (MQp D am ad h0 (fun r' x' => ∃ (an : Int32) (S' : SL), r' = some (.int an) ∧ (((pn = 4 ∧ IS (fun i => en i - bg i) (fun i => sub cd (bg i) (en i - bg i)) 2 7) ∧ DoI S (en 1 - bg 1) (sub cd (bg 1) (en 1 - bg 1)) (en 3 - bg 3) (sub cd (bg 3) (en 3 - bg 3)) an S') ∨ (¬ (pn = 4 ∧ IS (fun i => en i - bg i) (fun i => sub cd (bg i) (en i - bg i)) 2 7) ∧ an = -1 ∧ S' = S)) ∧ LKS S' x' ∧ MIx x' ∧ x'.1 2 = x.1 2 ∧ x'.1 0 = x.1 0)) 0 0 43 [(1, .long (lI R)), (0, .ref am)] [] h 0 0 := by
    intro R hR h hm hs
    refine g_lload_n cx 0 d_8_20_43 rfl rfl ?_
    refine g_lconst cx (v := 0) d_8_20_44 (by decide) ?_
    refine g_lcmp cx d_8_20_45 ?_
    refine g_if_ne cx d_8_20_46 rfl (fun c46 => ?_) (fun c46 => ?_)
    · skip
      have hb4 : (pn = 4 ∧ IS (fun i => en i - bg i) (fun i => sub cd (bg i) (en i - bg i)) 2 7) ∧ NmOk (en 1 - bg 1) (sub cd (bg 1) (en 1 - bg 1)) := by
        rcases hR with ⟨q1, q2⟩ | ⟨q1, q2⟩
        · exact ⟨q1, NmOk.sub.mpr q2.ok⟩
        · exact absurd (by rw [q2]; exact lg_self _) c46
      refine g_aload_n cx 1 d_8_20_53 rfl rfl ?_
      refine g_iconst cx (v := 3) d_8_20_54 (by decide) ?_
      refine m_call 2 cx (As := [.int (nI 3)]) (n := 1) (mc_wordOfF hSt hA x 3 pn cd bg en hpt (by decide) (htx 3)) d_8_20_55 t_1021 t_1023 ts_31 t_1024 rfl ⟨rfl, by decide +kernel⟩ rfl ⟨by decide, by decide⟩ (Nat.le_of_ble_eq_true rfl) hm hs (fun v55 x55 h hm hs r55 => ?_)
      obtain ⟨e55, W, rfl, hW⟩ := r55
      rw [e55] at hm
      refine g_topi (fun w3 ew3 => ?_)
      refine g_istore_n cx (lv' := [(3, .int w3), (1, .long (lI R)), (0, .ref am)]) d_8_20_58 rfl (by decide) rfl ?_
      first
        | exact (by
            obtain rfl : w3 = nI W := ew3
            exact c59 W R (by
              rcases hW with ⟨q1, q2, q3⟩ | ⟨q1, q2⟩
              · exact Or.inl ⟨hb4, WordP.ok.mp q2, wcp_sub.trans q3.symm⟩
              · exact Or.inr ⟨fun z => q1 ⟨by have := hb4.1.1; omega, WordP.ok.mpr z.2⟩, q2⟩) h hm hs)
        | exact (by
            obtain rfl : w3 = nI 0 := ew3
            exact c59 0 R (Or.inr ⟨hb3, rfl⟩) h hm hs)
    · skip
      have hb3 : ¬ (((pn = 4 ∧ IS (fun i => en i - bg i) (fun i => sub cd (bg i) (en i - bg i)) 2 7) ∧ NmOk (en 1 - bg 1) (sub cd (bg 1) (en 1 - bg 1))) ∧ WordOk (en 3 - bg 3) (sub cd (bg 3) (en 3 - bg 3))) := fun z => by
        rcases hR with ⟨q1, q2⟩ | ⟨q1, q2⟩
        · have := lI_ne (by have := q2.lt.2; omega) (lg_eq c46)
          have := q2.lt.1
          omega
        · exact q1 ⟨z.1.1, NmOk.sub.mp z.1.2⟩
      refine g_iconst cx (v := 0) d_8_20_49 (by decide) ?_
      refine g_goto cx d_8_20_50 rfl ?_
      refine g_topi (fun w3 ew3 => ?_)
      refine g_istore_n cx (lv' := [(3, .int w3), (1, .long (lI R)), (0, .ref am)]) d_8_20_58 rfl (by decide) rfl ?_
      first
        | exact (by
            obtain rfl : w3 = nI W := ew3
            exact c59 W R (by
              rcases hW with ⟨q1, q2, q3⟩ | ⟨q1, q2⟩
              · exact Or.inl ⟨hb4, WordP.ok.mp q2, wcp_sub.trans q3.symm⟩
              · exact Or.inr ⟨fun z => q1 ⟨by have := hb4.1.1; omega, WordP.ok.mpr z.2⟩, q2⟩) h hm hs)
        | exact (by
            obtain rfl : w3 = nI 0 := ew3
            exact c59 0 R (Or.inr ⟨hb3, rfl⟩) h hm hs)
  refine g_aload_n cx 0 d_8_20_0 rfl rfl ?_
  refine m_get cx (k := 3) d_8_20_1 t_901 ⟨by decide, rfl⟩ hm rfl ?_
  refine g_iconst cx (v := 4) d_8_20_4 (by decide) ?_
  refine g_icmp_ne cx d_8_20_5 rfl (fun c5 => ?_) (fun c5 => ?_)
  · skip
    have hnf : ¬ (pn = 4 ∧ IS (fun i => en i - bg i) (fun i => sub cd (bg i) (en i - bg i)) 2 7) := fun z => by
      obtain ⟨hp4z, q⟩ := z
      have ip : 2 < pn := by omega
      have hno7 : ¬ IS (fun i => en i - bg i) (fun i => sub cd (bg i) (en i - bg i)) 2 7 := by
        intro q
        obtain ⟨e1, e2⟩ := (IS.iff (hpt.2.2 2 ip).2.2.1).mp q
        have e3 : en 2 = bg 2 + 4 := e1
        have t9 := htx 2 ip
        have d0 : x.2.1 1 (bg 2 + 0) = 102 := (t9 (bg 2 + 0) (by omega)).trans (congrArg nI ((e2 0 (by decide)).trans kch7.1))
        have d1 : x.2.1 1 (bg 2 + 1) = 114 := (t9 (bg 2 + 1) (by omega)).trans (congrArg nI ((e2 1 (by decide)).trans kch7.2.1))
        have d2 : x.2.1 1 (bg 2 + 2) = 111 := (t9 (bg 2 + 2) (by omega)).trans (congrArg nI ((e2 2 (by decide)).trans kch7.2.2.1))
        have d3 : x.2.1 1 (bg 2 + 3) = 109 := (t9 (bg 2 + 3) (by omega)).trans (congrArg nI ((e2 3 (by decide)).trans kch7.2.2.2))
        first
          | exact c5 (by show x.1 3 = 4; rw [hpt.1, hp4z]; rfl)
          | exact hnln ⟨ip, e3⟩
          | exact hnsy ⟨ip, by omega, d0, d1, d2, d3⟩
      exact hno7 q
    refine g_lconst cx (v := 0) d_8_20_41 (by decide) ?_
    refine g_topl (fun V eV => ?_)
    refine g_lstore_n cx (lv' := [(1, .long V), (0, .ref am)]) d_8_20_42 rfl (by decide) rfl ?_
    first
      | exact (by
          obtain rfl : V = lI R := eV
          exact c43 R (by
            rcases hR with ⟨q1, q2⟩ | ⟨q1, q2⟩
            · exact Or.inl ⟨hfr, q2⟩
            · exact Or.inr ⟨fun z => q1 ⟨by omega, z.2⟩, q2⟩) h hm hs)
      | exact (by
          obtain rfl : V = lI 0 := eV
          exact c43 0 (Or.inr ⟨fun z => hnf z.1, rfl⟩) h hm hs)
  · skip
    have hp4 : pn = 4 := (nI_eq (b := 4) (by have := hpt.2.1; omega) (by decide)).mp (hpt.1.symm.trans c5)
    refine g_aload_n cx 0 d_8_20_8 rfl rfl ?_
    refine g_iconst cx (v := 2) d_8_20_9 (by decide) ?_
    refine g_bipush cx (v := 102) d_8_20_10 (by decide) ?_
    refine g_bipush cx (v := 114) d_8_20_12 (by decide) ?_
    refine g_bipush cx (v := 111) d_8_20_14 (by decide) ?_
    refine g_bipush cx (v := 109) d_8_20_16 (by decide) ?_
    refine m_call 2 cx (As := [.int (nI 2), .int 102, .int 114, .int 111, .int 109]) (n := 5) (mc_saysF hSt hA x 2 pn bg en 102 114 111 109 hpt (by decide)) d_8_20_18 t_1005 t_1007 ts_27 t_1008 rfl ⟨rfl, by decide +kernel⟩ rfl ⟨by decide, by decide⟩ (Nat.le_of_ble_eq_true rfl) hm hs (fun v18 x18 h hm hs r18 => ?_)
    obtain ⟨e18, r18⟩ := r18
    rw [e18] at hm
    rcases r18 with ⟨rfl, hsy⟩ | ⟨rfl, hnsy⟩
    · skip
      refine g_if_eq cx d_8_20_21 rfl (fun c21 => absurd c21 (by decide)) (fun c21 => ?_)
      refine g_aload_n cx 0 d_8_20_24 rfl rfl ?_
      refine g_iconst cx (v := 2) d_8_20_25 (by decide) ?_
      refine g_iconst cx (v := 4) d_8_20_26 (by decide) ?_
      refine m_call 2 cx (As := [.int (nI 2), .int (nI 4)]) (n := 2) (mc_isLongF hSt hA x 2 pn 4 bg en hpt (by decide) (by decide)) d_8_20_27 t_1009 t_1011 ts_28 t_1012 rfl ⟨rfl, by decide +kernel⟩ rfl ⟨by decide, by decide⟩ (Nat.le_of_ble_eq_true rfl) hm hs (fun v27 x27 h hm hs r27 => ?_)
      obtain ⟨e27, r27⟩ := r27
      rw [e27] at hm
      rcases r27 with ⟨rfl, -, hlen⟩ | ⟨rfl, hnln⟩
      · skip
        refine g_if_eq cx d_8_20_30 rfl (fun c30 => absurd c30 (by decide)) (fun c30 => ?_)
        have h0p : 2 < pn := hsy.1
        obtain ⟨p1, p2, p3, p4⟩ := hpt.2.2 2 h0p
        have his7 : IS (fun i => en i - bg i) (fun i => sub cd (bg i) (en i - bg i)) 2 7 := by
          refine (IS.iff p3).mpr ⟨hlen, fun t ht => ?_⟩
          have h9 : t < 4 := ht
          have q9 : t = 0 ∨ t = 1 ∨ t = 2 ∨ t = 3 := by omega
          rcases q9 with rfl | rfl | rfl | rfl
          · exact ((nI_eq (b := 102) (Nat.lt_trans chr_lt (by decide)) (by decide)).mp ((htx 2 h0p (bg 2 + 0) (by omega)).symm.trans (hsy.2.2.1))).trans kch7.1.symm
          · exact ((nI_eq (b := 114) (Nat.lt_trans chr_lt (by decide)) (by decide)).mp ((htx 2 h0p (bg 2 + 1) (by omega)).symm.trans (hsy.2.2.2.1))).trans kch7.2.1.symm
          · exact ((nI_eq (b := 111) (Nat.lt_trans chr_lt (by decide)) (by decide)).mp ((htx 2 h0p (bg 2 + 2) (by omega)).symm.trans (hsy.2.2.2.2.1))).trans kch7.2.2.1.symm
          · exact ((nI_eq (b := 109) (Nat.lt_trans chr_lt (by decide)) (by decide)).mp ((htx 2 h0p (bg 2 + 3) (by omega)).symm.trans (hsy.2.2.2.2.2))).trans kch7.2.2.2.symm
        have hfr : (pn = 4 ∧ IS (fun i => en i - bg i) (fun i => sub cd (bg i) (en i - bg i)) 2 7) := ⟨hp4, his7⟩
        refine g_aload_n cx 0 d_8_20_33 rfl rfl ?_
        refine g_iconst cx (v := 1) d_8_20_34 (by decide) ?_
        refine m_call 2 cx (As := [.int (nI 1)]) (n := 1) (mc_nameOfG hSt hA x 1 pn cd bg en hpt (by decide) (htx 1)) d_8_20_35 t_1025 t_1027 ts_32 t_1028 rfl ⟨rfl, by decide +kernel⟩ rfl ⟨by decide, by decide⟩ (Nat.le_of_ble_eq_true rfl) hm hs (fun v35 x35 h hm hs r35 => ?_)
        obtain ⟨e35, R, rfl, hR⟩ := r35
        rw [e35] at hm
        refine g_goto cx d_8_20_38 rfl ?_
        refine g_topl (fun V eV => ?_)
        refine g_lstore_n cx (lv' := [(1, .long V), (0, .ref am)]) d_8_20_42 rfl (by decide) rfl ?_
        first
          | exact (by
              obtain rfl : V = lI R := eV
              exact c43 R (by
                rcases hR with ⟨q1, q2⟩ | ⟨q1, q2⟩
                · exact Or.inl ⟨hfr, q2⟩
                · exact Or.inr ⟨fun z => q1 ⟨by omega, z.2⟩, q2⟩) h hm hs)
          | exact (by
              obtain rfl : V = lI 0 := eV
              exact c43 0 (Or.inr ⟨fun z => hnf z.1, rfl⟩) h hm hs)
      · skip
        refine g_if_eq cx d_8_20_30 rfl (fun c30 => ?_) (fun c30 => absurd rfl c30)
        have hnf : ¬ (pn = 4 ∧ IS (fun i => en i - bg i) (fun i => sub cd (bg i) (en i - bg i)) 2 7) := fun z => by
          obtain ⟨hp4z, q⟩ := z
          have ip : 2 < pn := by omega
          have hno7 : ¬ IS (fun i => en i - bg i) (fun i => sub cd (bg i) (en i - bg i)) 2 7 := by
            intro q
            obtain ⟨e1, e2⟩ := (IS.iff (hpt.2.2 2 ip).2.2.1).mp q
            have e3 : en 2 = bg 2 + 4 := e1
            have t9 := htx 2 ip
            have d0 : x.2.1 1 (bg 2 + 0) = 102 := (t9 (bg 2 + 0) (by omega)).trans (congrArg nI ((e2 0 (by decide)).trans kch7.1))
            have d1 : x.2.1 1 (bg 2 + 1) = 114 := (t9 (bg 2 + 1) (by omega)).trans (congrArg nI ((e2 1 (by decide)).trans kch7.2.1))
            have d2 : x.2.1 1 (bg 2 + 2) = 111 := (t9 (bg 2 + 2) (by omega)).trans (congrArg nI ((e2 2 (by decide)).trans kch7.2.2.1))
            have d3 : x.2.1 1 (bg 2 + 3) = 109 := (t9 (bg 2 + 3) (by omega)).trans (congrArg nI ((e2 3 (by decide)).trans kch7.2.2.2))
            first
              | exact c5 (by show x.1 3 = 4; rw [hpt.1, hp4z]; rfl)
              | exact hnln ⟨ip, e3⟩
              | exact hnsy ⟨ip, by omega, d0, d1, d2, d3⟩
          exact hno7 q
        refine g_lconst cx (v := 0) d_8_20_41 (by decide) ?_
        refine g_topl (fun V eV => ?_)
        refine g_lstore_n cx (lv' := [(1, .long V), (0, .ref am)]) d_8_20_42 rfl (by decide) rfl ?_
        first
          | exact (by
              obtain rfl : V = lI R := eV
              exact c43 R (by
                rcases hR with ⟨q1, q2⟩ | ⟨q1, q2⟩
                · exact Or.inl ⟨hfr, q2⟩
                · exact Or.inr ⟨fun z => q1 ⟨by omega, z.2⟩, q2⟩) h hm hs)
          | exact (by
              obtain rfl : V = lI 0 := eV
              exact c43 0 (Or.inr ⟨fun z => hnf z.1, rfl⟩) h hm hs)
    · skip
      refine g_if_eq cx d_8_20_21 rfl (fun c21 => ?_) (fun c21 => absurd rfl c21)
      have hnf : ¬ (pn = 4 ∧ IS (fun i => en i - bg i) (fun i => sub cd (bg i) (en i - bg i)) 2 7) := fun z => by
        obtain ⟨hp4z, q⟩ := z
        have ip : 2 < pn := by omega
        have hno7 : ¬ IS (fun i => en i - bg i) (fun i => sub cd (bg i) (en i - bg i)) 2 7 := by
          intro q
          obtain ⟨e1, e2⟩ := (IS.iff (hpt.2.2 2 ip).2.2.1).mp q
          have e3 : en 2 = bg 2 + 4 := e1
          have t9 := htx 2 ip
          have d0 : x.2.1 1 (bg 2 + 0) = 102 := (t9 (bg 2 + 0) (by omega)).trans (congrArg nI ((e2 0 (by decide)).trans kch7.1))
          have d1 : x.2.1 1 (bg 2 + 1) = 114 := (t9 (bg 2 + 1) (by omega)).trans (congrArg nI ((e2 1 (by decide)).trans kch7.2.1))
          have d2 : x.2.1 1 (bg 2 + 2) = 111 := (t9 (bg 2 + 2) (by omega)).trans (congrArg nI ((e2 2 (by decide)).trans kch7.2.2.1))
          have d3 : x.2.1 1 (bg 2 + 3) = 109 := (t9 (bg 2 + 3) (by omega)).trans (congrArg nI ((e2 3 (by decide)).trans kch7.2.2.2))
          first
            | exact c5 (by show x.1 3 = 4; rw [hpt.1, hp4z]; rfl)
            | exact hnln ⟨ip, e3⟩
            | exact hnsy ⟨ip, by omega, d0, d1, d2, d3⟩
        exact hno7 q
      refine g_lconst cx (v := 0) d_8_20_41 (by decide) ?_
      refine g_topl (fun V eV => ?_)
      refine g_lstore_n cx (lv' := [(1, .long V), (0, .ref am)]) d_8_20_42 rfl (by decide) rfl ?_
      first
        | exact (by
            obtain rfl : V = lI R := eV
            exact c43 R (by
              rcases hR with ⟨q1, q2⟩ | ⟨q1, q2⟩
              · exact Or.inl ⟨hfr, q2⟩
              · exact Or.inr ⟨fun z => q1 ⟨by omega, z.2⟩, q2⟩) h hm hs)
        | exact (by
            obtain rfl : V = lI 0 := eV
            exact c43 0 (Or.inr ⟨fun z => hnf z.1, rfl⟩) h hm hs)
set_option maxHeartbeats 4000000 in
theorem mc_thrown (hSt : Stb z0 E) (hA : Ad am ad) (x : MS) : MC l y_156 prog_8_method_2_code 1 (Option.some Jvm.ClassFile.FieldType.int) 0 D z0 E am ad [] x (fun r x' => r = some (.int (x.1 0)) ∧ x' = x) := by
  refine mc_of hSt rfl (Nat.le_of_ble_eq_true rfl) ?_
  intro h0 h p e s m args below meth c cx hm hs
  refine g_aload_n cx 0 d_8_2_0 rfl rfl ?_
  refine m_get cx (k := 0) d_8_2_1 t_898 ⟨by decide, rfl⟩ hm rfl ?_
  exact m_iret cx d_8_2_4 rfl rfl hm hs ⟨rfl, rfl⟩
set_option maxHeartbeats 4000000 in
theorem mc_lineG (hSt : Stb z0 E) (hA : Ad am ad) (x : MS) (w cd : Nat) (hw : x.1 2 = nI w) (hwl : w ≤ 30) (S : SL) (nm ld im kp : Nat → Nat) (mn : Nat) (hM : MI x (S 4 0) (S 0 0) nm ld im kp mn) (hL : LKS S x) (ht : ∀ j, j < w → x.2.1 1 j = nI (chr cd j)) : MC l y_158 prog_8_method_13_code 2 (Option.some Jvm.ClassFile.FieldType.int) 3 D z0 E am ad [] x (fun r' x' => ∃ (an : Int32) (S' : SL), StepL cd w S an S' ∧ LKS S' x' ∧ MIx x' ∧ x'.1 2 = nI 0 ∧ ((¬ an < 0 ∧ r' = some (.int an) ∧ x'.1 0 = 0) ∨ (an = -1 ∧ x'.1 0 = 1 ∧ ∃ u, r' = some (.int u)) ∨ (an = -2 ∧ x'.1 0 = 2 ∧ ∃ u, r' = some (.int u)))) := by
  refine mc_of hSt rfl (Nat.le_of_ble_eq_true rfl) ?_
  intro h0 h p e s m args below meth c cx hm hs
  refine g_aload_n cx 0 d_8_13_0 rfl rfl ?_
  refine g_iconst cx (v := 0) d_8_13_1 (by decide) ?_
  refine m_put cx (k := 0) hA d_8_13_2 t_898 ⟨by decide, rfl, rfl, rfl, by decide +kernel⟩ hm hs (fun h hm hs => ?_)
  refine g_aload_n cx 0 d_8_13_5 rfl rfl ?_
  refine m_call 3 cx (As := []) (n := 0) (mc_splitF hSt hA (seti x 0 0) w hw hwl) d_8_13_6 t_1001 t_1003 ts_26 t_1004 rfl ⟨rfl, by decide +kernel⟩ rfl ⟨by decide, by decide⟩ (Nat.le_of_ble_eq_true rfl) hm hs (fun v6 x6 h hm hs r6 => ?_)
  obtain ⟨rfl, pn, bg, en, hpt, hw6, hf6, hsm⟩ := r6
  have hM6 : MI x6 (S 4 0) (S 0 0) nm ld im kp mn := MI.fx (show MI (seti x 0 0) (S 4 0) (S 0 0) nm ld im kp mn from hM) hf6 (by decide) (by decide) (by decide)
  have hspl : SPL cd w pn bg en := SPm.spl (x := x) hsm ht
  have htx : ∀ i, i < pn → ∀ j, j < en i → x6.2.1 1 j = nI (chr cd j) := fun i hi j hj => by rw [hf6.2.1 1 (by decide)]; exact ht j (Nat.lt_of_lt_of_le hj (hspl.1 i hi).2.1)
  have hL6 : LKS S x6 := (show LKS S (seti x 0 0) from hL.kf ⟨⟨rfl, rfl⟩, ⟨rfl, rfl, rfl, rfl, rfl, rfl, rfl⟩, rfl⟩).kf (hf6.kf (by decide))
  have h06 : x6.1 0 = 0 := (hf6.1 0 (by decide)).trans rfl
  have c392 : ∀ (y : MS) (an : Int32) (S' : SL) (hst : StpL pn (fun i => en i - bg i) (fun i => sub cd (bg i) (en i - bg i)) S an S') (hLy : LKS S' y) (hMy : MIx y) (hwy : y.1 2 = nI 0) (h0y : y.1 0 = 0) (han : an = -1 ∨ an = -2 ∨ ¬ an < 0) (h : hp) (hm : Mo D am ad y h) (hs : Sm am ad h0 h), G p l e (rmL 3) s m args below meth c 2 D z0 E (MQp D am ad h0 (fun r' x' => ∃ (an : Int32) (S' : SL), StepL cd w S an S' ∧ LKS S' x' ∧ MIx x' ∧ x'.1 2 = nI 0 ∧ ((¬ an < 0 ∧ r' = some (.int an) ∧ x'.1 0 = 0) ∨ (an = -1 ∧ x'.1 0 = 1 ∧ ∃ u, r' = some (.int u)) ∨ (an = -2 ∧ x'.1 0 = 2 ∧ ∃ u, r' = some (.int u))))) 0 0 392 [(1, .int an), (0, .ref am)] [] h 0 0 := by
    intro y an S' hst hLy hMy hwy h0y han h hm hs
    refine g_iload_n cx 0 d_8_13_392 rfl rfl ?_
    refine g_if_ge cx d_8_13_393 rfl (fun c393 => ?_) (fun c393 => ?_)
    · skip
      refine g_iload_n cx 0 d_8_13_412 rfl rfl ?_
      exact m_iret cx d_8_13_413 rfl rfl hm hs ⟨an, S', ⟨pn, bg, en, hspl, hst⟩, hLy, hMy, hwy, Or.inl ⟨(by
    rcases han with q | q | q
    · exact absurd c393 (by rw [q]; decide)
    · exact absurd c393 (by rw [q]; decide)
    · exact q), rfl, h0y⟩⟩
    · skip
      have hMy' : ∀ v, MIx (seti y 0 v) := fun v => by
        obtain ⟨a9, r9, n9, l9, i9, k9, m9, q⟩ := hMy
        exact ⟨a9, r9, n9, l9, i9, k9, m9, q⟩
      have hLy' : ∀ v, LKS S' (seti y 0 v) := fun v => hLy.kf ⟨⟨rfl, rfl⟩, ⟨rfl, rfl, rfl, rfl, rfl, rfl, rfl⟩, rfl⟩
      have hneg : an = -1 ∨ an = -2 := by
        rcases han with q | q | q
        · exact Or.inl q
        · exact Or.inr q
        · exact absurd (Int32.not_lt.mp q) c393
      refine g_aload_n cx 1 d_8_13_396 rfl rfl ?_
      refine g_iload_n cx 0 d_8_13_397 rfl rfl ?_
      refine g_bipush cx (v := (-2)) d_8_13_398 (by decide) ?_
      refine g_icmp_ne cx d_8_13_400 rfl (fun c400 => ?_) (fun c400 => ?_)
      · skip
        refine g_iconst cx (v := 1) d_8_13_407 (by decide) ?_
        refine m_call 3 cx (As := [.int _]) (n := 1) (mc_fails hSt hA y _) d_8_13_408 t_1070 t_1072 ts_43 t_1073 rfl ⟨rfl, by decide +kernel⟩ rfl ⟨by decide, by decide⟩ (Nat.le_of_ble_eq_true rfl) hm hs (fun v408 x408 h hm hs r408 => ?_)
        obtain ⟨rfl, rfl⟩ := r408
        first
          | exact m_iret cx d_8_13_411 rfl rfl hm hs ⟨an, S', ⟨pn, bg, en, hspl, hst⟩, hLy' _, hMy' _, hwy, Or.inr (Or.inl ⟨hneg.resolve_right c400, rfl, _, rfl⟩)⟩
          | exact m_iret cx d_8_13_411 rfl rfl hm hs ⟨an, S', ⟨pn, bg, en, hspl, hst⟩, hLy' _, hMy' _, hwy, Or.inr (Or.inr ⟨c400, rfl, _, rfl⟩)⟩
      · skip
        refine g_iconst cx (v := 2) d_8_13_403 (by decide) ?_
        refine g_goto cx d_8_13_404 rfl ?_
        refine m_call 3 cx (As := [.int _]) (n := 1) (mc_fails hSt hA y _) d_8_13_408 t_1070 t_1072 ts_43 t_1073 rfl ⟨rfl, by decide +kernel⟩ rfl ⟨by decide, by decide⟩ (Nat.le_of_ble_eq_true rfl) hm hs (fun v408 x408 h hm hs r408 => ?_)
        obtain ⟨rfl, rfl⟩ := r408
        first
          | exact m_iret cx d_8_13_411 rfl rfl hm hs ⟨an, S', ⟨pn, bg, en, hspl, hst⟩, hLy' _, hMy' _, hwy, Or.inr (Or.inl ⟨hneg.resolve_right c400, rfl, _, rfl⟩)⟩
          | exact m_iret cx d_8_13_411 rfl rfl hm hs ⟨an, S', ⟨pn, bg, en, hspl, hst⟩, hLy' _, hMy' _, hwy, Or.inr (Or.inr ⟨c400, rfl, _, rfl⟩)⟩
  refine g_aload_n cx 0 d_8_13_9 rfl rfl ?_
  refine m_get cx (k := 3) d_8_13_10 t_901 ⟨by decide, rfl⟩ hm rfl ?_
  refine g_if_ne cx d_8_13_13 rfl (fun c13 => ?_) (fun c13 => ?_)
  · skip
    have hp0 : pn ≠ 0 := fun q => c13 (by show x6.1 3 = 0; rw [hpt.1, q]; rfl)
    have hpp : 0 < pn := Nat.pos_of_ne_zero hp0
    have k335 : ∀ (hno1 : ¬ IS (fun i => en i - bg i) (fun i => sub cd (bg i) (en i - bg i)) 0 1) (hno2 : ¬ IS (fun i => en i - bg i) (fun i => sub cd (bg i) (en i - bg i)) 0 2) (hno3 : ¬ IS (fun i => en i - bg i) (fun i => sub cd (bg i) (en i - bg i)) 0 3) (hno4 : ¬ IS (fun i => en i - bg i) (fun i => sub cd (bg i) (en i - bg i)) 0 4) (hno6 : ¬ IS (fun i => en i - bg i) (fun i => sub cd (bg i) (en i - bg i)) 0 6) (hno5 : ¬ IS (fun i => en i - bg i) (fun i => sub cd (bg i) (en i - bg i)) 0 5) (hno9 : ¬ (pn = 1 ∧ IS (fun i => en i - bg i) (fun i => sub cd (bg i) (en i - bg i)) 0 9)) (h : hp) (hm : Mo D am ad x6 h) (hs : Sm am ad h0 h), G p l e (rmL 3) s m args below meth c 2 D z0 E (MQp D am ad h0 (fun r' x' => ∃ (an : Int32) (S' : SL), StepL cd w S an S' ∧ LKS S' x' ∧ MIx x' ∧ x'.1 2 = nI 0 ∧ ((¬ an < 0 ∧ r' = some (.int an) ∧ x'.1 0 = 0) ∨ (an = -1 ∧ x'.1 0 = 1 ∧ ∃ u, r' = some (.int u)) ∨ (an = -2 ∧ x'.1 0 = 2 ∧ ∃ u, r' = some (.int u))))) 0 0 335 [(1, .int (-1)), (0, .ref am)] [] h 0 0 := by
      intro hno1 hno2 hno3 hno4 hno6 hno5 hno9 h hm hs
      refine g_aload_n cx 1 d_8_13_335 rfl rfl ?_
      refine g_iconst cx (v := 0) d_8_13_336 (by decide) ?_
      refine g_bipush cx (v := 102) d_8_13_337 (by decide) ?_
      refine g_bipush cx (v := 105) d_8_13_339 (by decide) ?_
      refine g_bipush cx (v := 114) d_8_13_341 (by decide) ?_
      refine g_bipush cx (v := 115) d_8_13_343 (by decide) ?_
      refine m_call 3 cx (As := [.int (nI 0), .int 102, .int 105, .int 114, .int 115]) (n := 5) (mc_saysF hSt hA x6 0 pn bg en 102 105 114 115 hpt (by decide)) d_8_13_345 t_1005 t_1007 ts_27 t_1008 rfl ⟨rfl, by decide +kernel⟩ rfl ⟨by decide, by decide⟩ (Nat.le_of_ble_eq_true rfl) hm hs (fun v345 x345 h hm hs r345 => ?_)
      obtain ⟨e9, r9⟩ := r345
      rw [e9] at hm
      rcases r9 with ⟨rfl, hsy⟩ | ⟨rfl, hnsy⟩
      · skip
        refine g_if_eq cx d_8_13_348 rfl (fun c348 => absurd c348 (by decide)) (fun c348 => ?_)
        refine g_aload_n cx 1 d_8_13_351 rfl rfl ?_
        refine g_iconst cx (v := 0) d_8_13_352 (by decide) ?_
        refine g_iconst cx (v := 5) d_8_13_353 (by decide) ?_
        refine m_call 3 cx (As := [.int (nI 0), .int (nI 5)]) (n := 2) (mc_isLongF hSt hA x6 0 pn 5 bg en hpt (by decide) (by decide)) d_8_13_354 t_1009 t_1011 ts_28 t_1012 rfl ⟨rfl, by decide +kernel⟩ rfl ⟨by decide, by decide⟩ (Nat.le_of_ble_eq_true rfl) hm hs (fun v354 x354 h hm hs r354 => ?_)
        obtain ⟨e9, r9⟩ := r354
        rw [e9] at hm
        rcases r9 with ⟨rfl, h0p, hlen⟩ | ⟨rfl, hnln⟩
        · skip
          refine g_if_eq cx d_8_13_357 rfl (fun c357 => absurd c357 (by decide)) (fun c357 => ?_)
          obtain ⟨p1, p2, p3, p4⟩ := hpt.2.2 0 h0p
          refine g_aload_n cx 1 d_8_13_360 rfl rfl ?_
          refine m_get cx (k := 1) d_8_13_361 t_899 ⟨by decide, rfl⟩ hm rfl ?_
          refine g_aload_n cx 1 d_8_13_364 rfl rfl ?_
          refine m_get cx (k := 5) d_8_13_365 t_903 ⟨by decide, rfl⟩ hm rfl ?_
          refine g_iconst cx (v := 0) d_8_13_368 (by decide) ?_
          refine m_ld1 cx d_8_13_369 (by decide) hm (rfl : (0 : Int32) = nI 0) ⟨(show 0 < 15 by decide), by decide⟩ ?_
          refine g_iconst cx (v := 1) d_8_13_370 (by decide) ?_
          refine g_isub cx d_8_13_371 ?_
          refine m_ld2 cx d_8_13_372 (by decide) hm (show x6.2.1 5 0 - 1 = nI (en 0 - 1) by rw [p2]; exact pk_sub (b := 1) (by omega)) ⟨(show en 0 - 1 < 30 by omega), by decide⟩ ?_
          refine g_bipush cx (v := 116) d_8_13_373 (by decide) ?_
          refine g_icmp_ne cx d_8_13_375 rfl (fun c375 => ?_) (fun c375 => ?_)
          · skip
            have hno8 : ¬ (pn = 1 ∧ IS (fun i => en i - bg i) (fun i => sub cd (bg i) (en i - bg i)) 0 8) := fun z => by
              obtain ⟨hp1, q⟩ := z
              have hno : ¬ IS (fun i => en i - bg i) (fun i => sub cd (bg i) (en i - bg i)) 0 8 := by
                intro q
                obtain ⟨e1, e2⟩ := (IS.iff (hpt.2.2 0 hpp).2.2.1).mp q
                have e3 : en 0 = bg 0 + 5 := e1
                have t9 := htx 0 hpp
                have d0 : x6.2.1 1 (bg 0 + 0) = 102 := (t9 (bg 0 + 0) (by omega)).trans (congrArg nI ((e2 0 (by decide)).trans kch8.1))
                have d1 : x6.2.1 1 (bg 0 + 1) = 105 := (t9 (bg 0 + 1) (by omega)).trans (congrArg nI ((e2 1 (by decide)).trans kch8.2.1))
                have d2 : x6.2.1 1 (bg 0 + 2) = 114 := (t9 (bg 0 + 2) (by omega)).trans (congrArg nI ((e2 2 (by decide)).trans kch8.2.2.1))
                have d3 : x6.2.1 1 (bg 0 + 3) = 115 := (t9 (bg 0 + 3) (by omega)).trans (congrArg nI ((e2 3 (by decide)).trans kch8.2.2.2.1))
                have d4 : x6.2.1 1 (bg 0 + 4) = 116 := (t9 (bg 0 + 4) (by omega)).trans (congrArg nI ((e2 4 (by decide)).trans kch8.2.2.2.2))
                first
                  | exact c383 (by show x6.1 3 = 1; rw [hpt.1, hp1]; rfl)
                  | exact c375 (by show x6.2.1 1 (en 0 - 1) = 116; rw [show en 0 - 1 = bg 0 + 4 by omega]; exact d4)
                  | exact hnln ⟨hpp, e3⟩
                  | exact hnsy ⟨hpp, by omega, d0, d1, d2, d3⟩
              exact hno q
            exact c392 x6 _ S (Or.inr (Or.inr (Or.inr (Or.inr (Or.inr (Or.inr (Or.inr (Or.inr ⟨⟨hp0, fun q => ⟨fun z => hno8 ⟨q, z⟩, fun z => hno9 ⟨q, z⟩⟩, fun _ => ⟨hno1, hno2, hno3, hno4, hno5⟩, fun _ z => hno6 z.1⟩, rfl, rfl⟩)))))))) hL6 (MIx.of hM6) hw6 h06 (Or.inl rfl) h hm hs
          · skip
            refine g_aload_n cx 1 d_8_13_378 rfl rfl ?_
            refine m_get cx (k := 3) d_8_13_379 t_901 ⟨by decide, rfl⟩ hm rfl ?_
            refine g_iconst cx (v := 1) d_8_13_382 (by decide) ?_
            refine g_icmp_ne cx d_8_13_383 rfl (fun c383 => ?_) (fun c383 => ?_)
            · skip
              have hno8 : ¬ (pn = 1 ∧ IS (fun i => en i - bg i) (fun i => sub cd (bg i) (en i - bg i)) 0 8) := fun z => by
                obtain ⟨hp1, q⟩ := z
                have hno : ¬ IS (fun i => en i - bg i) (fun i => sub cd (bg i) (en i - bg i)) 0 8 := by
                  intro q
                  obtain ⟨e1, e2⟩ := (IS.iff (hpt.2.2 0 hpp).2.2.1).mp q
                  have e3 : en 0 = bg 0 + 5 := e1
                  have t9 := htx 0 hpp
                  have d0 : x6.2.1 1 (bg 0 + 0) = 102 := (t9 (bg 0 + 0) (by omega)).trans (congrArg nI ((e2 0 (by decide)).trans kch8.1))
                  have d1 : x6.2.1 1 (bg 0 + 1) = 105 := (t9 (bg 0 + 1) (by omega)).trans (congrArg nI ((e2 1 (by decide)).trans kch8.2.1))
                  have d2 : x6.2.1 1 (bg 0 + 2) = 114 := (t9 (bg 0 + 2) (by omega)).trans (congrArg nI ((e2 2 (by decide)).trans kch8.2.2.1))
                  have d3 : x6.2.1 1 (bg 0 + 3) = 115 := (t9 (bg 0 + 3) (by omega)).trans (congrArg nI ((e2 3 (by decide)).trans kch8.2.2.2.1))
                  have d4 : x6.2.1 1 (bg 0 + 4) = 116 := (t9 (bg 0 + 4) (by omega)).trans (congrArg nI ((e2 4 (by decide)).trans kch8.2.2.2.2))
                  first
                    | exact c383 (by show x6.1 3 = 1; rw [hpt.1, hp1]; rfl)
                    | exact c375 (by show x6.2.1 1 (en 0 - 1) = 116; rw [show en 0 - 1 = bg 0 + 4 by omega]; exact d4)
                    | exact hnln ⟨hpp, e3⟩
                    | exact hnsy ⟨hpp, by omega, d0, d1, d2, d3⟩
                exact hno q
              exact c392 x6 _ S (Or.inr (Or.inr (Or.inr (Or.inr (Or.inr (Or.inr (Or.inr (Or.inr ⟨⟨hp0, fun q => ⟨fun z => hno8 ⟨q, z⟩, fun z => hno9 ⟨q, z⟩⟩, fun _ => ⟨hno1, hno2, hno3, hno4, hno5⟩, fun _ z => hno6 z.1⟩, rfl, rfl⟩)))))))) hL6 (MIx.of hM6) hw6 h06 (Or.inl rfl) h hm hs
            · skip
              have his8 : IS (fun i => en i - bg i) (fun i => sub cd (bg i) (en i - bg i)) 0 8 := by
                refine (IS.iff p3).mpr ⟨hlen, fun t ht => ?_⟩
                have h9 : t < 5 := ht
                have q9 : t = 0 ∨ t = 1 ∨ t = 2 ∨ t = 3 ∨ t = 4 := by omega
                rcases q9 with rfl | rfl | rfl | rfl | rfl
                · exact ((nI_eq (b := 102) (Nat.lt_trans chr_lt (by decide)) (by decide)).mp ((htx 0 h0p (bg 0 + 0) (by omega)).symm.trans (hsy.2.2.1))).trans kch8.1.symm
                · exact ((nI_eq (b := 105) (Nat.lt_trans chr_lt (by decide)) (by decide)).mp ((htx 0 h0p (bg 0 + 1) (by omega)).symm.trans (hsy.2.2.2.1))).trans kch8.2.1.symm
                · exact ((nI_eq (b := 114) (Nat.lt_trans chr_lt (by decide)) (by decide)).mp ((htx 0 h0p (bg 0 + 2) (by omega)).symm.trans (hsy.2.2.2.2.1))).trans kch8.2.2.1.symm
                · exact ((nI_eq (b := 115) (Nat.lt_trans chr_lt (by decide)) (by decide)).mp ((htx 0 h0p (bg 0 + 3) (by omega)).symm.trans (hsy.2.2.2.2.2))).trans kch8.2.2.2.1.symm
                · exact ((nI_eq (b := 116) (Nat.lt_trans chr_lt (by decide)) (by decide)).mp ((htx 0 h0p (bg 0 + 4) (by omega)).symm.trans ((by rw [show bg 0 + 4 = en 0 - 1 by omega]; exact c375)))).trans kch8.2.2.2.2.symm
              have hp1 : pn = 1 := (nI_eq (b := 1) (by have := hpt.2.1; omega) (by decide)).mp (hpt.1.symm.trans c383)
              refine g_aload_n cx 1 d_8_13_386 rfl rfl ?_
              refine g_iconst cx (v := 1) d_8_13_387 (by decide) ?_
              refine m_call 3 cx (As := [.int 1]) (n := 1) (mc_orderedG hSt hA x6 1 S nm ld im kp mn hM6 hL6) d_8_13_388 t_1066 t_1068 ts_42 t_1069 rfl ⟨rfl, by decide +kernel⟩ rfl ⟨by decide, by decide⟩ (Nat.le_of_ble_eq_true rfl) hm hs (fun v388 x388 h hm hs r388 => ?_)
              obtain ⟨an9, S9, e9, hd9, hL9, hM9, hw9, h09⟩ := r388
              cases e9
              refine g_topi (fun an ean => ?_)
              refine g_istore_n cx (lv' := [(1, .int an), (0, .ref am)]) d_8_13_391 rfl (by decide) rfl ?_
              obtain rfl : an = an9 := ean
              exact c392 _ an S9 (Or.inr (Or.inl ⟨hp1, Or.inl his8, hd9⟩)) hL9 hM9 (hw9.trans hw6) (h09.trans h06) hd9.rg h hm hs
        · skip
          refine g_if_eq cx d_8_13_357 rfl (fun c357 => ?_) (fun c357 => absurd rfl c357)
          have hno8 : ¬ (pn = 1 ∧ IS (fun i => en i - bg i) (fun i => sub cd (bg i) (en i - bg i)) 0 8) := fun z => by
            obtain ⟨hp1, q⟩ := z
            have hno : ¬ IS (fun i => en i - bg i) (fun i => sub cd (bg i) (en i - bg i)) 0 8 := by
              intro q
              obtain ⟨e1, e2⟩ := (IS.iff (hpt.2.2 0 hpp).2.2.1).mp q
              have e3 : en 0 = bg 0 + 5 := e1
              have t9 := htx 0 hpp
              have d0 : x6.2.1 1 (bg 0 + 0) = 102 := (t9 (bg 0 + 0) (by omega)).trans (congrArg nI ((e2 0 (by decide)).trans kch8.1))
              have d1 : x6.2.1 1 (bg 0 + 1) = 105 := (t9 (bg 0 + 1) (by omega)).trans (congrArg nI ((e2 1 (by decide)).trans kch8.2.1))
              have d2 : x6.2.1 1 (bg 0 + 2) = 114 := (t9 (bg 0 + 2) (by omega)).trans (congrArg nI ((e2 2 (by decide)).trans kch8.2.2.1))
              have d3 : x6.2.1 1 (bg 0 + 3) = 115 := (t9 (bg 0 + 3) (by omega)).trans (congrArg nI ((e2 3 (by decide)).trans kch8.2.2.2.1))
              have d4 : x6.2.1 1 (bg 0 + 4) = 116 := (t9 (bg 0 + 4) (by omega)).trans (congrArg nI ((e2 4 (by decide)).trans kch8.2.2.2.2))
              first
                | exact c383 (by show x6.1 3 = 1; rw [hpt.1, hp1]; rfl)
                | exact c375 (by show x6.2.1 1 (en 0 - 1) = 116; rw [show en 0 - 1 = bg 0 + 4 by omega]; exact d4)
                | exact hnln ⟨hpp, e3⟩
                | exact hnsy ⟨hpp, by omega, d0, d1, d2, d3⟩
            exact hno q
          exact c392 x6 _ S (Or.inr (Or.inr (Or.inr (Or.inr (Or.inr (Or.inr (Or.inr (Or.inr ⟨⟨hp0, fun q => ⟨fun z => hno8 ⟨q, z⟩, fun z => hno9 ⟨q, z⟩⟩, fun _ => ⟨hno1, hno2, hno3, hno4, hno5⟩, fun _ z => hno6 z.1⟩, rfl, rfl⟩)))))))) hL6 (MIx.of hM6) hw6 h06 (Or.inl rfl) h hm hs
      · skip
        refine g_if_eq cx d_8_13_348 rfl (fun c348 => ?_) (fun c348 => absurd rfl c348)
        have hno8 : ¬ (pn = 1 ∧ IS (fun i => en i - bg i) (fun i => sub cd (bg i) (en i - bg i)) 0 8) := fun z => by
          obtain ⟨hp1, q⟩ := z
          have hno : ¬ IS (fun i => en i - bg i) (fun i => sub cd (bg i) (en i - bg i)) 0 8 := by
            intro q
            obtain ⟨e1, e2⟩ := (IS.iff (hpt.2.2 0 hpp).2.2.1).mp q
            have e3 : en 0 = bg 0 + 5 := e1
            have t9 := htx 0 hpp
            have d0 : x6.2.1 1 (bg 0 + 0) = 102 := (t9 (bg 0 + 0) (by omega)).trans (congrArg nI ((e2 0 (by decide)).trans kch8.1))
            have d1 : x6.2.1 1 (bg 0 + 1) = 105 := (t9 (bg 0 + 1) (by omega)).trans (congrArg nI ((e2 1 (by decide)).trans kch8.2.1))
            have d2 : x6.2.1 1 (bg 0 + 2) = 114 := (t9 (bg 0 + 2) (by omega)).trans (congrArg nI ((e2 2 (by decide)).trans kch8.2.2.1))
            have d3 : x6.2.1 1 (bg 0 + 3) = 115 := (t9 (bg 0 + 3) (by omega)).trans (congrArg nI ((e2 3 (by decide)).trans kch8.2.2.2.1))
            have d4 : x6.2.1 1 (bg 0 + 4) = 116 := (t9 (bg 0 + 4) (by omega)).trans (congrArg nI ((e2 4 (by decide)).trans kch8.2.2.2.2))
            first
              | exact c383 (by show x6.1 3 = 1; rw [hpt.1, hp1]; rfl)
              | exact c375 (by show x6.2.1 1 (en 0 - 1) = 116; rw [show en 0 - 1 = bg 0 + 4 by omega]; exact d4)
              | exact hnln ⟨hpp, e3⟩
              | exact hnsy ⟨hpp, by omega, d0, d1, d2, d3⟩
          exact hno q
        exact c392 x6 _ S (Or.inr (Or.inr (Or.inr (Or.inr (Or.inr (Or.inr (Or.inr (Or.inr ⟨⟨hp0, fun q => ⟨fun z => hno8 ⟨q, z⟩, fun z => hno9 ⟨q, z⟩⟩, fun _ => ⟨hno1, hno2, hno3, hno4, hno5⟩, fun _ z => hno6 z.1⟩, rfl, rfl⟩)))))))) hL6 (MIx.of hM6) hw6 h06 (Or.inl rfl) h hm hs
    have k293 : ∀ (hno1 : ¬ IS (fun i => en i - bg i) (fun i => sub cd (bg i) (en i - bg i)) 0 1) (hno2 : ¬ IS (fun i => en i - bg i) (fun i => sub cd (bg i) (en i - bg i)) 0 2) (hno3 : ¬ IS (fun i => en i - bg i) (fun i => sub cd (bg i) (en i - bg i)) 0 3) (hno4 : ¬ IS (fun i => en i - bg i) (fun i => sub cd (bg i) (en i - bg i)) 0 4) (hno6 : ¬ IS (fun i => en i - bg i) (fun i => sub cd (bg i) (en i - bg i)) 0 6) (hno5 : ¬ IS (fun i => en i - bg i) (fun i => sub cd (bg i) (en i - bg i)) 0 5) (h : hp) (hm : Mo D am ad x6 h) (hs : Sm am ad h0 h), G p l e (rmL 3) s m args below meth c 2 D z0 E (MQp D am ad h0 (fun r' x' => ∃ (an : Int32) (S' : SL), StepL cd w S an S' ∧ LKS S' x' ∧ MIx x' ∧ x'.1 2 = nI 0 ∧ ((¬ an < 0 ∧ r' = some (.int an) ∧ x'.1 0 = 0) ∨ (an = -1 ∧ x'.1 0 = 1 ∧ ∃ u, r' = some (.int u)) ∨ (an = -2 ∧ x'.1 0 = 2 ∧ ∃ u, r' = some (.int u))))) 0 0 293 [(1, .int (-1)), (0, .ref am)] [] h 0 0 := by
      intro hno1 hno2 hno3 hno4 hno6 hno5 h hm hs
      refine g_aload_n cx 1 d_8_13_293 rfl rfl ?_
      refine g_iconst cx (v := 0) d_8_13_294 (by decide) ?_
      refine g_bipush cx (v := 115) d_8_13_295 (by decide) ?_
      refine g_bipush cx (v := 101) d_8_13_297 (by decide) ?_
      refine g_bipush cx (v := 108) d_8_13_299 (by decide) ?_
      refine g_bipush cx (v := 102) d_8_13_301 (by decide) ?_
      refine m_call 3 cx (As := [.int (nI 0), .int 115, .int 101, .int 108, .int 102]) (n := 5) (mc_saysF hSt hA x6 0 pn bg en 115 101 108 102 hpt (by decide)) d_8_13_303 t_1005 t_1007 ts_27 t_1008 rfl ⟨rfl, by decide +kernel⟩ rfl ⟨by decide, by decide⟩ (Nat.le_of_ble_eq_true rfl) hm hs (fun v303 x303 h hm hs r303 => ?_)
      obtain ⟨e9, r9⟩ := r303
      rw [e9] at hm
      rcases r9 with ⟨rfl, hsy⟩ | ⟨rfl, hnsy⟩
      · skip
        refine g_if_eq cx d_8_13_306 rfl (fun c306 => absurd c306 (by decide)) (fun c306 => ?_)
        refine g_aload_n cx 1 d_8_13_309 rfl rfl ?_
        refine g_iconst cx (v := 0) d_8_13_310 (by decide) ?_
        refine g_iconst cx (v := 4) d_8_13_311 (by decide) ?_
        refine m_call 3 cx (As := [.int (nI 0), .int (nI 4)]) (n := 2) (mc_isLongF hSt hA x6 0 pn 4 bg en hpt (by decide) (by decide)) d_8_13_312 t_1009 t_1011 ts_28 t_1012 rfl ⟨rfl, by decide +kernel⟩ rfl ⟨by decide, by decide⟩ (Nat.le_of_ble_eq_true rfl) hm hs (fun v312 x312 h hm hs r312 => ?_)
        obtain ⟨e9, r9⟩ := r312
        rw [e9] at hm
        rcases r9 with ⟨rfl, h0p, hlen⟩ | ⟨rfl, hnln⟩
        · skip
          refine g_if_eq cx d_8_13_315 rfl (fun c315 => absurd c315 (by decide)) (fun c315 => ?_)
          obtain ⟨p1, p2, p3, p4⟩ := hpt.2.2 0 h0p
          refine g_aload_n cx 1 d_8_13_318 rfl rfl ?_
          refine m_get cx (k := 3) d_8_13_319 t_901 ⟨by decide, rfl⟩ hm rfl ?_
          refine g_iconst cx (v := 1) d_8_13_322 (by decide) ?_
          refine g_icmp_ne cx d_8_13_323 rfl (fun c323 => ?_) (fun c323 => ?_)
          · skip
            have hno9 : ¬ (pn = 1 ∧ IS (fun i => en i - bg i) (fun i => sub cd (bg i) (en i - bg i)) 0 9) := fun z => by
              obtain ⟨hp1, q⟩ := z
              have hno : ¬ IS (fun i => en i - bg i) (fun i => sub cd (bg i) (en i - bg i)) 0 9 := by
                intro q
                obtain ⟨e1, e2⟩ := (IS.iff (hpt.2.2 0 hpp).2.2.1).mp q
                have e3 : en 0 = bg 0 + 4 := e1
                have t9 := htx 0 hpp
                have d0 : x6.2.1 1 (bg 0 + 0) = 115 := (t9 (bg 0 + 0) (by omega)).trans (congrArg nI ((e2 0 (by decide)).trans kch9.1))
                have d1 : x6.2.1 1 (bg 0 + 1) = 101 := (t9 (bg 0 + 1) (by omega)).trans (congrArg nI ((e2 1 (by decide)).trans kch9.2.1))
                have d2 : x6.2.1 1 (bg 0 + 2) = 108 := (t9 (bg 0 + 2) (by omega)).trans (congrArg nI ((e2 2 (by decide)).trans kch9.2.2.1))
                have d3 : x6.2.1 1 (bg 0 + 3) = 102 := (t9 (bg 0 + 3) (by omega)).trans (congrArg nI ((e2 3 (by decide)).trans kch9.2.2.2))
                first
                  | exact c323 (by show x6.1 3 = 1; rw [hpt.1, hp1]; rfl)
                  | exact hnln ⟨hpp, e3⟩
                  | exact hnsy ⟨hpp, by omega, d0, d1, d2, d3⟩
              exact hno q
            exact k335 hno1 hno2 hno3 hno4 hno6 hno5 hno9 h hm hs
          · skip
            have his9 : IS (fun i => en i - bg i) (fun i => sub cd (bg i) (en i - bg i)) 0 9 := by
              refine (IS.iff p3).mpr ⟨hlen, fun t ht => ?_⟩
              have h9 : t < 4 := ht
              have q9 : t = 0 ∨ t = 1 ∨ t = 2 ∨ t = 3 := by omega
              rcases q9 with rfl | rfl | rfl | rfl
              · exact ((nI_eq (b := 115) (Nat.lt_trans chr_lt (by decide)) (by decide)).mp ((htx 0 h0p (bg 0 + 0) (by omega)).symm.trans (hsy.2.2.1))).trans kch9.1.symm
              · exact ((nI_eq (b := 101) (Nat.lt_trans chr_lt (by decide)) (by decide)).mp ((htx 0 h0p (bg 0 + 1) (by omega)).symm.trans (hsy.2.2.2.1))).trans kch9.2.1.symm
              · exact ((nI_eq (b := 108) (Nat.lt_trans chr_lt (by decide)) (by decide)).mp ((htx 0 h0p (bg 0 + 2) (by omega)).symm.trans (hsy.2.2.2.2.1))).trans kch9.2.2.1.symm
              · exact ((nI_eq (b := 102) (Nat.lt_trans chr_lt (by decide)) (by decide)).mp ((htx 0 h0p (bg 0 + 3) (by omega)).symm.trans (hsy.2.2.2.2.2))).trans kch9.2.2.2.symm
            have hp1 : pn = 1 := (nI_eq (b := 1) (by have := hpt.2.1; omega) (by decide)).mp (hpt.1.symm.trans c323)
            refine g_aload_n cx 1 d_8_13_326 rfl rfl ?_
            refine g_iconst cx (v := 0) d_8_13_327 (by decide) ?_
            refine m_call 3 cx (As := [.int 0]) (n := 1) (mc_orderedG hSt hA x6 0 S nm ld im kp mn hM6 hL6) d_8_13_328 t_1066 t_1068 ts_42 t_1069 rfl ⟨rfl, by decide +kernel⟩ rfl ⟨by decide, by decide⟩ (Nat.le_of_ble_eq_true rfl) hm hs (fun v328 x328 h hm hs r328 => ?_)
            obtain ⟨an9, S9, e9, hd9, hL9, hM9, hw9, h09⟩ := r328
            cases e9
            refine g_topi (fun an ean => ?_)
            refine g_istore_n cx (lv' := [(1, .int an), (0, .ref am)]) d_8_13_331 rfl (by decide) rfl ?_
            refine g_goto cx d_8_13_332 rfl ?_
            obtain rfl : an = an9 := ean
            exact c392 _ an S9 (Or.inr (Or.inl ⟨hp1, Or.inr his9, hd9⟩)) hL9 hM9 (hw9.trans hw6) (h09.trans h06) hd9.rg h hm hs
        · skip
          refine g_if_eq cx d_8_13_315 rfl (fun c315 => ?_) (fun c315 => absurd rfl c315)
          have hno9 : ¬ (pn = 1 ∧ IS (fun i => en i - bg i) (fun i => sub cd (bg i) (en i - bg i)) 0 9) := fun z => by
            obtain ⟨hp1, q⟩ := z
            have hno : ¬ IS (fun i => en i - bg i) (fun i => sub cd (bg i) (en i - bg i)) 0 9 := by
              intro q
              obtain ⟨e1, e2⟩ := (IS.iff (hpt.2.2 0 hpp).2.2.1).mp q
              have e3 : en 0 = bg 0 + 4 := e1
              have t9 := htx 0 hpp
              have d0 : x6.2.1 1 (bg 0 + 0) = 115 := (t9 (bg 0 + 0) (by omega)).trans (congrArg nI ((e2 0 (by decide)).trans kch9.1))
              have d1 : x6.2.1 1 (bg 0 + 1) = 101 := (t9 (bg 0 + 1) (by omega)).trans (congrArg nI ((e2 1 (by decide)).trans kch9.2.1))
              have d2 : x6.2.1 1 (bg 0 + 2) = 108 := (t9 (bg 0 + 2) (by omega)).trans (congrArg nI ((e2 2 (by decide)).trans kch9.2.2.1))
              have d3 : x6.2.1 1 (bg 0 + 3) = 102 := (t9 (bg 0 + 3) (by omega)).trans (congrArg nI ((e2 3 (by decide)).trans kch9.2.2.2))
              first
                | exact c323 (by show x6.1 3 = 1; rw [hpt.1, hp1]; rfl)
                | exact hnln ⟨hpp, e3⟩
                | exact hnsy ⟨hpp, by omega, d0, d1, d2, d3⟩
            exact hno q
          exact k335 hno1 hno2 hno3 hno4 hno6 hno5 hno9 h hm hs
      · skip
        refine g_if_eq cx d_8_13_306 rfl (fun c306 => ?_) (fun c306 => absurd rfl c306)
        have hno9 : ¬ (pn = 1 ∧ IS (fun i => en i - bg i) (fun i => sub cd (bg i) (en i - bg i)) 0 9) := fun z => by
          obtain ⟨hp1, q⟩ := z
          have hno : ¬ IS (fun i => en i - bg i) (fun i => sub cd (bg i) (en i - bg i)) 0 9 := by
            intro q
            obtain ⟨e1, e2⟩ := (IS.iff (hpt.2.2 0 hpp).2.2.1).mp q
            have e3 : en 0 = bg 0 + 4 := e1
            have t9 := htx 0 hpp
            have d0 : x6.2.1 1 (bg 0 + 0) = 115 := (t9 (bg 0 + 0) (by omega)).trans (congrArg nI ((e2 0 (by decide)).trans kch9.1))
            have d1 : x6.2.1 1 (bg 0 + 1) = 101 := (t9 (bg 0 + 1) (by omega)).trans (congrArg nI ((e2 1 (by decide)).trans kch9.2.1))
            have d2 : x6.2.1 1 (bg 0 + 2) = 108 := (t9 (bg 0 + 2) (by omega)).trans (congrArg nI ((e2 2 (by decide)).trans kch9.2.2.1))
            have d3 : x6.2.1 1 (bg 0 + 3) = 102 := (t9 (bg 0 + 3) (by omega)).trans (congrArg nI ((e2 3 (by decide)).trans kch9.2.2.2))
            first
              | exact c323 (by show x6.1 3 = 1; rw [hpt.1, hp1]; rfl)
              | exact hnln ⟨hpp, e3⟩
              | exact hnsy ⟨hpp, by omega, d0, d1, d2, d3⟩
          exact hno q
        exact k335 hno1 hno2 hno3 hno4 hno6 hno5 hno9 h hm hs
    have k247 : ∀ (hno1 : ¬ IS (fun i => en i - bg i) (fun i => sub cd (bg i) (en i - bg i)) 0 1) (hno2 : ¬ IS (fun i => en i - bg i) (fun i => sub cd (bg i) (en i - bg i)) 0 2) (hno3 : ¬ IS (fun i => en i - bg i) (fun i => sub cd (bg i) (en i - bg i)) 0 3) (hno4 : ¬ IS (fun i => en i - bg i) (fun i => sub cd (bg i) (en i - bg i)) 0 4) (hno6 : ¬ IS (fun i => en i - bg i) (fun i => sub cd (bg i) (en i - bg i)) 0 6) (h : hp) (hm : Mo D am ad x6 h) (hs : Sm am ad h0 h), G p l e (rmL 3) s m args below meth c 2 D z0 E (MQp D am ad h0 (fun r' x' => ∃ (an : Int32) (S' : SL), StepL cd w S an S' ∧ LKS S' x' ∧ MIx x' ∧ x'.1 2 = nI 0 ∧ ((¬ an < 0 ∧ r' = some (.int an) ∧ x'.1 0 = 0) ∨ (an = -1 ∧ x'.1 0 = 1 ∧ ∃ u, r' = some (.int u)) ∨ (an = -2 ∧ x'.1 0 = 2 ∧ ∃ u, r' = some (.int u))))) 0 0 247 [(1, .int (-1)), (0, .ref am)] [] h 0 0 := by
      intro hno1 hno2 hno3 hno4 hno6 h hm hs
      refine g_aload_n cx 1 d_8_13_247 rfl rfl ?_
      refine g_iconst cx (v := 0) d_8_13_248 (by decide) ?_
      refine g_bipush cx (v := 112) d_8_13_249 (by decide) ?_
      refine g_bipush cx (v := 97) d_8_13_251 (by decide) ?_
      refine g_bipush cx (v := 114) d_8_13_253 (by decide) ?_
      refine g_bipush cx (v := 101) d_8_13_255 (by decide) ?_
      refine m_call 3 cx (As := [.int (nI 0), .int 112, .int 97, .int 114, .int 101]) (n := 5) (mc_saysF hSt hA x6 0 pn bg en 112 97 114 101 hpt (by decide)) d_8_13_257 t_1005 t_1007 ts_27 t_1008 rfl ⟨rfl, by decide +kernel⟩ rfl ⟨by decide, by decide⟩ (Nat.le_of_ble_eq_true rfl) hm hs (fun v257 x257 h hm hs r257 => ?_)
      obtain ⟨e9, r9⟩ := r257
      rw [e9] at hm
      rcases r9 with ⟨rfl, hsy⟩ | ⟨rfl, hnsy⟩
      · skip
        refine g_if_eq cx d_8_13_260 rfl (fun c260 => absurd c260 (by decide)) (fun c260 => ?_)
        refine g_aload_n cx 1 d_8_13_263 rfl rfl ?_
        refine g_iconst cx (v := 0) d_8_13_264 (by decide) ?_
        refine g_bipush cx (v := 6) d_8_13_265 (by decide) ?_
        refine m_call 3 cx (As := [.int (nI 0), .int (nI 6)]) (n := 2) (mc_isLongF hSt hA x6 0 pn 6 bg en hpt (by decide) (by decide)) d_8_13_267 t_1009 t_1011 ts_28 t_1012 rfl ⟨rfl, by decide +kernel⟩ rfl ⟨by decide, by decide⟩ (Nat.le_of_ble_eq_true rfl) hm hs (fun v267 x267 h hm hs r267 => ?_)
        obtain ⟨e9, r9⟩ := r267
        rw [e9] at hm
        rcases r9 with ⟨rfl, h0p, hlen⟩ | ⟨rfl, hnln⟩
        · skip
          refine g_if_eq cx d_8_13_270 rfl (fun c270 => absurd c270 (by decide)) (fun c270 => ?_)
          obtain ⟨p1, p2, p3, p4⟩ := hpt.2.2 0 h0p
          refine g_aload_n cx 1 d_8_13_273 rfl rfl ?_
          refine g_iconst cx (v := 0) d_8_13_274 (by decide) ?_
          refine g_bipush cx (v := 110) d_8_13_275 (by decide) ?_
          refine g_bipush cx (v := 116) d_8_13_277 (by decide) ?_
          refine m_call 3 cx (As := [.int (nI 0), .int 110, .int 116]) (n := 3) (mc_endsF hSt hA x6 0 pn bg en 110 116 hpt h0p (by omega)) d_8_13_279 t_1013 t_1015 ts_29 t_1016 rfl ⟨rfl, by decide +kernel⟩ rfl ⟨by decide, by decide⟩ (Nat.le_of_ble_eq_true rfl) hm hs (fun v279 x279 h hm hs r279 => ?_)
          obtain ⟨e9, r9⟩ := r279
          rw [e9] at hm
          rcases r9 with ⟨rfl, hen⟩ | ⟨rfl, hnen⟩
          · skip
            refine g_if_eq cx d_8_13_282 rfl (fun c282 => absurd c282 (by decide)) (fun c282 => ?_)
            have his5 : IS (fun i => en i - bg i) (fun i => sub cd (bg i) (en i - bg i)) 0 5 := by
              refine (IS.iff p3).mpr ⟨hlen, fun t ht => ?_⟩
              have h9 : t < 6 := ht
              have q9 : t = 0 ∨ t = 1 ∨ t = 2 ∨ t = 3 ∨ t = 4 ∨ t = 5 := by omega
              rcases q9 with rfl | rfl | rfl | rfl | rfl | rfl
              · exact ((nI_eq (b := 112) (Nat.lt_trans chr_lt (by decide)) (by decide)).mp ((htx 0 h0p (bg 0 + 0) (by omega)).symm.trans (hsy.2.2.1))).trans kch5.1.symm
              · exact ((nI_eq (b := 97) (Nat.lt_trans chr_lt (by decide)) (by decide)).mp ((htx 0 h0p (bg 0 + 1) (by omega)).symm.trans (hsy.2.2.2.1))).trans kch5.2.1.symm
              · exact ((nI_eq (b := 114) (Nat.lt_trans chr_lt (by decide)) (by decide)).mp ((htx 0 h0p (bg 0 + 2) (by omega)).symm.trans (hsy.2.2.2.2.1))).trans kch5.2.2.1.symm
              · exact ((nI_eq (b := 101) (Nat.lt_trans chr_lt (by decide)) (by decide)).mp ((htx 0 h0p (bg 0 + 3) (by omega)).symm.trans (hsy.2.2.2.2.2))).trans kch5.2.2.2.1.symm
              · exact ((nI_eq (b := 110) (Nat.lt_trans chr_lt (by decide)) (by decide)).mp ((htx 0 h0p (bg 0 + 4) (by omega)).symm.trans ((by rw [show bg 0 + 4 = en 0 - 2 by omega]; exact hen.1)))).trans kch5.2.2.2.2.1.symm
              · exact ((nI_eq (b := 116) (Nat.lt_trans chr_lt (by decide)) (by decide)).mp ((htx 0 h0p (bg 0 + 5) (by omega)).symm.trans ((by rw [show bg 0 + 5 = en 0 - 1 by omega]; exact hen.2)))).trans kch5.2.2.2.2.2.symm
            refine g_aload_n cx 1 d_8_13_285 rfl rfl ?_
            refine m_call 3 cx (As := []) (n := 0) (mc_newParentG hSt hA x6 pn cd bg en S nm ld im kp mn hpt hM6 hL6 htx) d_8_13_286 t_1062 t_1064 ts_41 t_1065 rfl ⟨rfl, by decide +kernel⟩ rfl ⟨by decide, by decide⟩ (Nat.le_of_ble_eq_true rfl) hm hs (fun v286 x286 h hm hs r286 => ?_)
            obtain ⟨an9, S9, e9, hd9, hL9, hM9, hw9, h09⟩ := r286
            cases e9
            refine g_topi (fun an ean => ?_)
            refine g_istore_n cx (lv' := [(1, .int an), (0, .ref am)]) d_8_13_289 rfl (by decide) rfl ?_
            refine g_goto cx d_8_13_290 rfl ?_
            obtain rfl : an = an9 := ean
            exact c392 _ an S9 (by
              rcases hd9 with ⟨e1, e2⟩ | ⟨e0, e1, e2⟩
              · exact Or.inr (Or.inr (Or.inr (Or.inr (Or.inr (Or.inr (Or.inl ⟨e1, his5, e2⟩))))))
              · exact Or.inr (Or.inr (Or.inr (Or.inr (Or.inr (Or.inr (Or.inr (Or.inr ⟨(Bad.of hp0 his5 (by decide) (fun _ => by decide) (fun q => absurd q e0) (fun _ => fun q => absurd q (by decide))), e1, e2⟩)))))))) hL9 hM9 (hw9.trans hw6) (h09.trans h06) (by
              rcases hd9 with ⟨e1, e2⟩ | ⟨e0, e1, e2⟩
              · exact e2.rg
              · exact Or.inl e1) h hm hs
          · skip
            refine g_if_eq cx d_8_13_282 rfl (fun c282 => ?_) (fun c282 => absurd rfl c282)
            have hno5 : ¬ IS (fun i => en i - bg i) (fun i => sub cd (bg i) (en i - bg i)) 0 5 := by
              intro q
              obtain ⟨e1, e2⟩ := (IS.iff (hpt.2.2 0 hpp).2.2.1).mp q
              have e3 : en 0 = bg 0 + 6 := e1
              have t9 := htx 0 hpp
              have d0 : x6.2.1 1 (bg 0 + 0) = 112 := (t9 (bg 0 + 0) (by omega)).trans (congrArg nI ((e2 0 (by decide)).trans kch5.1))
              have d1 : x6.2.1 1 (bg 0 + 1) = 97 := (t9 (bg 0 + 1) (by omega)).trans (congrArg nI ((e2 1 (by decide)).trans kch5.2.1))
              have d2 : x6.2.1 1 (bg 0 + 2) = 114 := (t9 (bg 0 + 2) (by omega)).trans (congrArg nI ((e2 2 (by decide)).trans kch5.2.2.1))
              have d3 : x6.2.1 1 (bg 0 + 3) = 101 := (t9 (bg 0 + 3) (by omega)).trans (congrArg nI ((e2 3 (by decide)).trans kch5.2.2.2.1))
              have d4 : x6.2.1 1 (bg 0 + 4) = 110 := (t9 (bg 0 + 4) (by omega)).trans (congrArg nI ((e2 4 (by decide)).trans kch5.2.2.2.2.1))
              have d5 : x6.2.1 1 (bg 0 + 5) = 116 := (t9 (bg 0 + 5) (by omega)).trans (congrArg nI ((e2 5 (by decide)).trans kch5.2.2.2.2.2))
              first
                | exact hnen ⟨by rw [show en 0 - 2 = bg 0 + 4 by omega]; exact d4, by rw [show en 0 - 1 = bg 0 + 5 by omega]; exact d5⟩
                | exact hnln ⟨hpp, e3⟩
                | exact hnsy ⟨hpp, by omega, d0, d1, d2, d3⟩
            exact k293 hno1 hno2 hno3 hno4 hno6 hno5 h hm hs
        · skip
          refine g_if_eq cx d_8_13_270 rfl (fun c270 => ?_) (fun c270 => absurd rfl c270)
          have hno5 : ¬ IS (fun i => en i - bg i) (fun i => sub cd (bg i) (en i - bg i)) 0 5 := by
            intro q
            obtain ⟨e1, e2⟩ := (IS.iff (hpt.2.2 0 hpp).2.2.1).mp q
            have e3 : en 0 = bg 0 + 6 := e1
            have t9 := htx 0 hpp
            have d0 : x6.2.1 1 (bg 0 + 0) = 112 := (t9 (bg 0 + 0) (by omega)).trans (congrArg nI ((e2 0 (by decide)).trans kch5.1))
            have d1 : x6.2.1 1 (bg 0 + 1) = 97 := (t9 (bg 0 + 1) (by omega)).trans (congrArg nI ((e2 1 (by decide)).trans kch5.2.1))
            have d2 : x6.2.1 1 (bg 0 + 2) = 114 := (t9 (bg 0 + 2) (by omega)).trans (congrArg nI ((e2 2 (by decide)).trans kch5.2.2.1))
            have d3 : x6.2.1 1 (bg 0 + 3) = 101 := (t9 (bg 0 + 3) (by omega)).trans (congrArg nI ((e2 3 (by decide)).trans kch5.2.2.2.1))
            have d4 : x6.2.1 1 (bg 0 + 4) = 110 := (t9 (bg 0 + 4) (by omega)).trans (congrArg nI ((e2 4 (by decide)).trans kch5.2.2.2.2.1))
            have d5 : x6.2.1 1 (bg 0 + 5) = 116 := (t9 (bg 0 + 5) (by omega)).trans (congrArg nI ((e2 5 (by decide)).trans kch5.2.2.2.2.2))
            first
              | exact hnen ⟨by rw [show en 0 - 2 = bg 0 + 4 by omega]; exact d4, by rw [show en 0 - 1 = bg 0 + 5 by omega]; exact d5⟩
              | exact hnln ⟨hpp, e3⟩
              | exact hnsy ⟨hpp, by omega, d0, d1, d2, d3⟩
          exact k293 hno1 hno2 hno3 hno4 hno6 hno5 h hm hs
      · skip
        refine g_if_eq cx d_8_13_260 rfl (fun c260 => ?_) (fun c260 => absurd rfl c260)
        have hno5 : ¬ IS (fun i => en i - bg i) (fun i => sub cd (bg i) (en i - bg i)) 0 5 := by
          intro q
          obtain ⟨e1, e2⟩ := (IS.iff (hpt.2.2 0 hpp).2.2.1).mp q
          have e3 : en 0 = bg 0 + 6 := e1
          have t9 := htx 0 hpp
          have d0 : x6.2.1 1 (bg 0 + 0) = 112 := (t9 (bg 0 + 0) (by omega)).trans (congrArg nI ((e2 0 (by decide)).trans kch5.1))
          have d1 : x6.2.1 1 (bg 0 + 1) = 97 := (t9 (bg 0 + 1) (by omega)).trans (congrArg nI ((e2 1 (by decide)).trans kch5.2.1))
          have d2 : x6.2.1 1 (bg 0 + 2) = 114 := (t9 (bg 0 + 2) (by omega)).trans (congrArg nI ((e2 2 (by decide)).trans kch5.2.2.1))
          have d3 : x6.2.1 1 (bg 0 + 3) = 101 := (t9 (bg 0 + 3) (by omega)).trans (congrArg nI ((e2 3 (by decide)).trans kch5.2.2.2.1))
          have d4 : x6.2.1 1 (bg 0 + 4) = 110 := (t9 (bg 0 + 4) (by omega)).trans (congrArg nI ((e2 4 (by decide)).trans kch5.2.2.2.2.1))
          have d5 : x6.2.1 1 (bg 0 + 5) = 116 := (t9 (bg 0 + 5) (by omega)).trans (congrArg nI ((e2 5 (by decide)).trans kch5.2.2.2.2.2))
          first
            | exact hnen ⟨by rw [show en 0 - 2 = bg 0 + 4 by omega]; exact d4, by rw [show en 0 - 1 = bg 0 + 5 by omega]; exact d5⟩
            | exact hnln ⟨hpp, e3⟩
            | exact hnsy ⟨hpp, by omega, d0, d1, d2, d3⟩
        exact k293 hno1 hno2 hno3 hno4 hno6 hno5 h hm hs
    have k201 : ∀ (hno1 : ¬ IS (fun i => en i - bg i) (fun i => sub cd (bg i) (en i - bg i)) 0 1) (hno2 : ¬ IS (fun i => en i - bg i) (fun i => sub cd (bg i) (en i - bg i)) 0 2) (hno3 : ¬ IS (fun i => en i - bg i) (fun i => sub cd (bg i) (en i - bg i)) 0 3) (hno4 : ¬ IS (fun i => en i - bg i) (fun i => sub cd (bg i) (en i - bg i)) 0 4) (h : hp) (hm : Mo D am ad x6 h) (hs : Sm am ad h0 h), G p l e (rmL 3) s m args below meth c 2 D z0 E (MQp D am ad h0 (fun r' x' => ∃ (an : Int32) (S' : SL), StepL cd w S an S' ∧ LKS S' x' ∧ MIx x' ∧ x'.1 2 = nI 0 ∧ ((¬ an < 0 ∧ r' = some (.int an) ∧ x'.1 0 = 0) ∨ (an = -1 ∧ x'.1 0 = 1 ∧ ∃ u, r' = some (.int u)) ∨ (an = -2 ∧ x'.1 0 = 2 ∧ ∃ u, r' = some (.int u))))) 0 0 201 [(1, .int (-1)), (0, .ref am)] [] h 0 0 := by
      intro hno1 hno2 hno3 hno4 h hm hs
      refine g_aload_n cx 1 d_8_13_201 rfl rfl ?_
      refine g_iconst cx (v := 0) d_8_13_202 (by decide) ?_
      refine g_bipush cx (v := 105) d_8_13_203 (by decide) ?_
      refine g_bipush cx (v := 109) d_8_13_205 (by decide) ?_
      refine g_bipush cx (v := 112) d_8_13_207 (by decide) ?_
      refine g_bipush cx (v := 111) d_8_13_209 (by decide) ?_
      refine m_call 3 cx (As := [.int (nI 0), .int 105, .int 109, .int 112, .int 111]) (n := 5) (mc_saysF hSt hA x6 0 pn bg en 105 109 112 111 hpt (by decide)) d_8_13_211 t_1005 t_1007 ts_27 t_1008 rfl ⟨rfl, by decide +kernel⟩ rfl ⟨by decide, by decide⟩ (Nat.le_of_ble_eq_true rfl) hm hs (fun v211 x211 h hm hs r211 => ?_)
      obtain ⟨e9, r9⟩ := r211
      rw [e9] at hm
      rcases r9 with ⟨rfl, hsy⟩ | ⟨rfl, hnsy⟩
      · skip
        refine g_if_eq cx d_8_13_214 rfl (fun c214 => absurd c214 (by decide)) (fun c214 => ?_)
        refine g_aload_n cx 1 d_8_13_217 rfl rfl ?_
        refine g_iconst cx (v := 0) d_8_13_218 (by decide) ?_
        refine g_bipush cx (v := 6) d_8_13_219 (by decide) ?_
        refine m_call 3 cx (As := [.int (nI 0), .int (nI 6)]) (n := 2) (mc_isLongF hSt hA x6 0 pn 6 bg en hpt (by decide) (by decide)) d_8_13_221 t_1009 t_1011 ts_28 t_1012 rfl ⟨rfl, by decide +kernel⟩ rfl ⟨by decide, by decide⟩ (Nat.le_of_ble_eq_true rfl) hm hs (fun v221 x221 h hm hs r221 => ?_)
        obtain ⟨e9, r9⟩ := r221
        rw [e9] at hm
        rcases r9 with ⟨rfl, h0p, hlen⟩ | ⟨rfl, hnln⟩
        · skip
          refine g_if_eq cx d_8_13_224 rfl (fun c224 => absurd c224 (by decide)) (fun c224 => ?_)
          obtain ⟨p1, p2, p3, p4⟩ := hpt.2.2 0 h0p
          refine g_aload_n cx 1 d_8_13_227 rfl rfl ?_
          refine g_iconst cx (v := 0) d_8_13_228 (by decide) ?_
          refine g_bipush cx (v := 114) d_8_13_229 (by decide) ?_
          refine g_bipush cx (v := 116) d_8_13_231 (by decide) ?_
          refine m_call 3 cx (As := [.int (nI 0), .int 114, .int 116]) (n := 3) (mc_endsF hSt hA x6 0 pn bg en 114 116 hpt h0p (by omega)) d_8_13_233 t_1013 t_1015 ts_29 t_1016 rfl ⟨rfl, by decide +kernel⟩ rfl ⟨by decide, by decide⟩ (Nat.le_of_ble_eq_true rfl) hm hs (fun v233 x233 h hm hs r233 => ?_)
          obtain ⟨e9, r9⟩ := r233
          rw [e9] at hm
          rcases r9 with ⟨rfl, hen⟩ | ⟨rfl, hnen⟩
          · skip
            refine g_if_eq cx d_8_13_236 rfl (fun c236 => absurd c236 (by decide)) (fun c236 => ?_)
            have his6 : IS (fun i => en i - bg i) (fun i => sub cd (bg i) (en i - bg i)) 0 6 := by
              refine (IS.iff p3).mpr ⟨hlen, fun t ht => ?_⟩
              have h9 : t < 6 := ht
              have q9 : t = 0 ∨ t = 1 ∨ t = 2 ∨ t = 3 ∨ t = 4 ∨ t = 5 := by omega
              rcases q9 with rfl | rfl | rfl | rfl | rfl | rfl
              · exact ((nI_eq (b := 105) (Nat.lt_trans chr_lt (by decide)) (by decide)).mp ((htx 0 h0p (bg 0 + 0) (by omega)).symm.trans (hsy.2.2.1))).trans kch6.1.symm
              · exact ((nI_eq (b := 109) (Nat.lt_trans chr_lt (by decide)) (by decide)).mp ((htx 0 h0p (bg 0 + 1) (by omega)).symm.trans (hsy.2.2.2.1))).trans kch6.2.1.symm
              · exact ((nI_eq (b := 112) (Nat.lt_trans chr_lt (by decide)) (by decide)).mp ((htx 0 h0p (bg 0 + 2) (by omega)).symm.trans (hsy.2.2.2.2.1))).trans kch6.2.2.1.symm
              · exact ((nI_eq (b := 111) (Nat.lt_trans chr_lt (by decide)) (by decide)).mp ((htx 0 h0p (bg 0 + 3) (by omega)).symm.trans (hsy.2.2.2.2.2))).trans kch6.2.2.2.1.symm
              · exact ((nI_eq (b := 114) (Nat.lt_trans chr_lt (by decide)) (by decide)).mp ((htx 0 h0p (bg 0 + 4) (by omega)).symm.trans ((by rw [show bg 0 + 4 = en 0 - 2 by omega]; exact hen.1)))).trans kch6.2.2.2.2.1.symm
              · exact ((nI_eq (b := 116) (Nat.lt_trans chr_lt (by decide)) (by decide)).mp ((htx 0 h0p (bg 0 + 5) (by omega)).symm.trans ((by rw [show bg 0 + 5 = en 0 - 1 by omega]; exact hen.2)))).trans kch6.2.2.2.2.2.symm
            refine g_aload_n cx 1 d_8_13_239 rfl rfl ?_
            refine m_call 3 cx (As := []) (n := 0) (mc_newImportG hSt hA x6 pn cd bg en S nm ld im kp mn hpt hM6 hL6 htx) d_8_13_240 t_1058 t_1060 ts_40 t_1061 rfl ⟨rfl, by decide +kernel⟩ rfl ⟨by decide, by decide⟩ (Nat.le_of_ble_eq_true rfl) hm hs (fun v240 x240 h hm hs r240 => ?_)
            obtain ⟨an9, S9, e9, hd9, hL9, hM9, hw9, h09⟩ := r240
            cases e9
            refine g_topi (fun an ean => ?_)
            refine g_istore_n cx (lv' := [(1, .int an), (0, .ref am)]) d_8_13_243 rfl (by decide) rfl ?_
            refine g_goto cx d_8_13_244 rfl ?_
            obtain rfl : an = an9 := ean
            exact c392 _ an S9 (by
              rcases hd9 with ⟨e1, e2⟩ | ⟨e0, e1, e2⟩
              · exact Or.inr (Or.inr (Or.inr (Or.inr (Or.inr (Or.inr (Or.inr (Or.inl ⟨e1.1, ⟨his6, e1.2⟩, e2⟩)))))))
              · exact Or.inr (Or.inr (Or.inr (Or.inr (Or.inr (Or.inr (Or.inr (Or.inr ⟨(Bad.of hp0 his6 (by decide) (fun _ => by decide) (fun _ => by decide) (fun q _ z => e0 ⟨q, z⟩)), e1, e2⟩)))))))) hL9 hM9 (hw9.trans hw6) (h09.trans h06) (by
              rcases hd9 with ⟨e1, e2⟩ | ⟨e0, e1, e2⟩
              · exact e2.rg
              · exact Or.inl e1) h hm hs
          · skip
            refine g_if_eq cx d_8_13_236 rfl (fun c236 => ?_) (fun c236 => absurd rfl c236)
            have hno6 : ¬ IS (fun i => en i - bg i) (fun i => sub cd (bg i) (en i - bg i)) 0 6 := by
              intro q
              obtain ⟨e1, e2⟩ := (IS.iff (hpt.2.2 0 hpp).2.2.1).mp q
              have e3 : en 0 = bg 0 + 6 := e1
              have t9 := htx 0 hpp
              have d0 : x6.2.1 1 (bg 0 + 0) = 105 := (t9 (bg 0 + 0) (by omega)).trans (congrArg nI ((e2 0 (by decide)).trans kch6.1))
              have d1 : x6.2.1 1 (bg 0 + 1) = 109 := (t9 (bg 0 + 1) (by omega)).trans (congrArg nI ((e2 1 (by decide)).trans kch6.2.1))
              have d2 : x6.2.1 1 (bg 0 + 2) = 112 := (t9 (bg 0 + 2) (by omega)).trans (congrArg nI ((e2 2 (by decide)).trans kch6.2.2.1))
              have d3 : x6.2.1 1 (bg 0 + 3) = 111 := (t9 (bg 0 + 3) (by omega)).trans (congrArg nI ((e2 3 (by decide)).trans kch6.2.2.2.1))
              have d4 : x6.2.1 1 (bg 0 + 4) = 114 := (t9 (bg 0 + 4) (by omega)).trans (congrArg nI ((e2 4 (by decide)).trans kch6.2.2.2.2.1))
              have d5 : x6.2.1 1 (bg 0 + 5) = 116 := (t9 (bg 0 + 5) (by omega)).trans (congrArg nI ((e2 5 (by decide)).trans kch6.2.2.2.2.2))
              first
                | exact hnen ⟨by rw [show en 0 - 2 = bg 0 + 4 by omega]; exact d4, by rw [show en 0 - 1 = bg 0 + 5 by omega]; exact d5⟩
                | exact hnln ⟨hpp, e3⟩
                | exact hnsy ⟨hpp, by omega, d0, d1, d2, d3⟩
            exact k247 hno1 hno2 hno3 hno4 hno6 h hm hs
        · skip
          refine g_if_eq cx d_8_13_224 rfl (fun c224 => ?_) (fun c224 => absurd rfl c224)
          have hno6 : ¬ IS (fun i => en i - bg i) (fun i => sub cd (bg i) (en i - bg i)) 0 6 := by
            intro q
            obtain ⟨e1, e2⟩ := (IS.iff (hpt.2.2 0 hpp).2.2.1).mp q
            have e3 : en 0 = bg 0 + 6 := e1
            have t9 := htx 0 hpp
            have d0 : x6.2.1 1 (bg 0 + 0) = 105 := (t9 (bg 0 + 0) (by omega)).trans (congrArg nI ((e2 0 (by decide)).trans kch6.1))
            have d1 : x6.2.1 1 (bg 0 + 1) = 109 := (t9 (bg 0 + 1) (by omega)).trans (congrArg nI ((e2 1 (by decide)).trans kch6.2.1))
            have d2 : x6.2.1 1 (bg 0 + 2) = 112 := (t9 (bg 0 + 2) (by omega)).trans (congrArg nI ((e2 2 (by decide)).trans kch6.2.2.1))
            have d3 : x6.2.1 1 (bg 0 + 3) = 111 := (t9 (bg 0 + 3) (by omega)).trans (congrArg nI ((e2 3 (by decide)).trans kch6.2.2.2.1))
            have d4 : x6.2.1 1 (bg 0 + 4) = 114 := (t9 (bg 0 + 4) (by omega)).trans (congrArg nI ((e2 4 (by decide)).trans kch6.2.2.2.2.1))
            have d5 : x6.2.1 1 (bg 0 + 5) = 116 := (t9 (bg 0 + 5) (by omega)).trans (congrArg nI ((e2 5 (by decide)).trans kch6.2.2.2.2.2))
            first
              | exact hnen ⟨by rw [show en 0 - 2 = bg 0 + 4 by omega]; exact d4, by rw [show en 0 - 1 = bg 0 + 5 by omega]; exact d5⟩
              | exact hnln ⟨hpp, e3⟩
              | exact hnsy ⟨hpp, by omega, d0, d1, d2, d3⟩
          exact k247 hno1 hno2 hno3 hno4 hno6 h hm hs
      · skip
        refine g_if_eq cx d_8_13_214 rfl (fun c214 => ?_) (fun c214 => absurd rfl c214)
        have hno6 : ¬ IS (fun i => en i - bg i) (fun i => sub cd (bg i) (en i - bg i)) 0 6 := by
          intro q
          obtain ⟨e1, e2⟩ := (IS.iff (hpt.2.2 0 hpp).2.2.1).mp q
          have e3 : en 0 = bg 0 + 6 := e1
          have t9 := htx 0 hpp
          have d0 : x6.2.1 1 (bg 0 + 0) = 105 := (t9 (bg 0 + 0) (by omega)).trans (congrArg nI ((e2 0 (by decide)).trans kch6.1))
          have d1 : x6.2.1 1 (bg 0 + 1) = 109 := (t9 (bg 0 + 1) (by omega)).trans (congrArg nI ((e2 1 (by decide)).trans kch6.2.1))
          have d2 : x6.2.1 1 (bg 0 + 2) = 112 := (t9 (bg 0 + 2) (by omega)).trans (congrArg nI ((e2 2 (by decide)).trans kch6.2.2.1))
          have d3 : x6.2.1 1 (bg 0 + 3) = 111 := (t9 (bg 0 + 3) (by omega)).trans (congrArg nI ((e2 3 (by decide)).trans kch6.2.2.2.1))
          have d4 : x6.2.1 1 (bg 0 + 4) = 114 := (t9 (bg 0 + 4) (by omega)).trans (congrArg nI ((e2 4 (by decide)).trans kch6.2.2.2.2.1))
          have d5 : x6.2.1 1 (bg 0 + 5) = 116 := (t9 (bg 0 + 5) (by omega)).trans (congrArg nI ((e2 5 (by decide)).trans kch6.2.2.2.2.2))
          first
            | exact hnen ⟨by rw [show en 0 - 2 = bg 0 + 4 by omega]; exact d4, by rw [show en 0 - 1 = bg 0 + 5 by omega]; exact d5⟩
            | exact hnln ⟨hpp, e3⟩
            | exact hnsy ⟨hpp, by omega, d0, d1, d2, d3⟩
        exact k247 hno1 hno2 hno3 hno4 hno6 h hm hs
    have k168 : ∀ (hno1 : ¬ IS (fun i => en i - bg i) (fun i => sub cd (bg i) (en i - bg i)) 0 1) (hno2 : ¬ IS (fun i => en i - bg i) (fun i => sub cd (bg i) (en i - bg i)) 0 2) (hno3 : ¬ IS (fun i => en i - bg i) (fun i => sub cd (bg i) (en i - bg i)) 0 3) (h : hp) (hm : Mo D am ad x6 h) (hs : Sm am ad h0 h), G p l e (rmL 3) s m args below meth c 2 D z0 E (MQp D am ad h0 (fun r' x' => ∃ (an : Int32) (S' : SL), StepL cd w S an S' ∧ LKS S' x' ∧ MIx x' ∧ x'.1 2 = nI 0 ∧ ((¬ an < 0 ∧ r' = some (.int an) ∧ x'.1 0 = 0) ∨ (an = -1 ∧ x'.1 0 = 1 ∧ ∃ u, r' = some (.int u)) ∨ (an = -2 ∧ x'.1 0 = 2 ∧ ∃ u, r' = some (.int u))))) 0 0 168 [(1, .int (-1)), (0, .ref am)] [] h 0 0 := by
      intro hno1 hno2 hno3 h hm hs
      refine g_aload_n cx 1 d_8_13_168 rfl rfl ?_
      refine g_iconst cx (v := 0) d_8_13_169 (by decide) ?_
      refine g_bipush cx (v := 108) d_8_13_170 (by decide) ?_
      refine g_bipush cx (v := 111) d_8_13_172 (by decide) ?_
      refine g_bipush cx (v := 97) d_8_13_174 (by decide) ?_
      refine g_bipush cx (v := 100) d_8_13_176 (by decide) ?_
      refine m_call 3 cx (As := [.int (nI 0), .int 108, .int 111, .int 97, .int 100]) (n := 5) (mc_saysF hSt hA x6 0 pn bg en 108 111 97 100 hpt (by decide)) d_8_13_178 t_1005 t_1007 ts_27 t_1008 rfl ⟨rfl, by decide +kernel⟩ rfl ⟨by decide, by decide⟩ (Nat.le_of_ble_eq_true rfl) hm hs (fun v178 x178 h hm hs r178 => ?_)
      obtain ⟨e9, r9⟩ := r178
      rw [e9] at hm
      rcases r9 with ⟨rfl, hsy⟩ | ⟨rfl, hnsy⟩
      · skip
        refine g_if_eq cx d_8_13_181 rfl (fun c181 => absurd c181 (by decide)) (fun c181 => ?_)
        refine g_aload_n cx 1 d_8_13_184 rfl rfl ?_
        refine g_iconst cx (v := 0) d_8_13_185 (by decide) ?_
        refine g_iconst cx (v := 4) d_8_13_186 (by decide) ?_
        refine m_call 3 cx (As := [.int (nI 0), .int (nI 4)]) (n := 2) (mc_isLongF hSt hA x6 0 pn 4 bg en hpt (by decide) (by decide)) d_8_13_187 t_1009 t_1011 ts_28 t_1012 rfl ⟨rfl, by decide +kernel⟩ rfl ⟨by decide, by decide⟩ (Nat.le_of_ble_eq_true rfl) hm hs (fun v187 x187 h hm hs r187 => ?_)
        obtain ⟨e9, r9⟩ := r187
        rw [e9] at hm
        rcases r9 with ⟨rfl, h0p, hlen⟩ | ⟨rfl, hnln⟩
        · skip
          refine g_if_eq cx d_8_13_190 rfl (fun c190 => absurd c190 (by decide)) (fun c190 => ?_)
          obtain ⟨p1, p2, p3, p4⟩ := hpt.2.2 0 h0p
          have his4 : IS (fun i => en i - bg i) (fun i => sub cd (bg i) (en i - bg i)) 0 4 := by
            refine (IS.iff p3).mpr ⟨hlen, fun t ht => ?_⟩
            have h9 : t < 4 := ht
            have q9 : t = 0 ∨ t = 1 ∨ t = 2 ∨ t = 3 := by omega
            rcases q9 with rfl | rfl | rfl | rfl
            · exact ((nI_eq (b := 108) (Nat.lt_trans chr_lt (by decide)) (by decide)).mp ((htx 0 h0p (bg 0 + 0) (by omega)).symm.trans (hsy.2.2.1))).trans kch4.1.symm
            · exact ((nI_eq (b := 111) (Nat.lt_trans chr_lt (by decide)) (by decide)).mp ((htx 0 h0p (bg 0 + 1) (by omega)).symm.trans (hsy.2.2.2.1))).trans kch4.2.1.symm
            · exact ((nI_eq (b := 97) (Nat.lt_trans chr_lt (by decide)) (by decide)).mp ((htx 0 h0p (bg 0 + 2) (by omega)).symm.trans (hsy.2.2.2.2.1))).trans kch4.2.2.1.symm
            · exact ((nI_eq (b := 100) (Nat.lt_trans chr_lt (by decide)) (by decide)).mp ((htx 0 h0p (bg 0 + 3) (by omega)).symm.trans (hsy.2.2.2.2.2))).trans kch4.2.2.2.symm
          refine g_aload_n cx 1 d_8_13_193 rfl rfl ?_
          refine m_call 3 cx (As := []) (n := 0) (mc_loadsG hSt hA x6 pn cd bg en S nm ld im kp mn hpt hM6 hL6 htx) d_8_13_194 t_1050 t_1052 ts_38 t_1053 rfl ⟨rfl, by decide +kernel⟩ rfl ⟨by decide, by decide⟩ (Nat.le_of_ble_eq_true rfl) hm hs (fun v194 x194 h hm hs r194 => ?_)
          obtain ⟨an9, S9, e9, hd9, hL9, hM9, hw9, h09⟩ := r194
          cases e9
          refine g_topi (fun an ean => ?_)
          refine g_istore_n cx (lv' := [(1, .int an), (0, .ref am)]) d_8_13_197 rfl (by decide) rfl ?_
          refine g_goto cx d_8_13_198 rfl ?_
          obtain rfl : an = an9 := ean
          exact c392 _ an S9 (by
            rcases hd9 with ⟨e1, e2⟩ | ⟨e0, e1, e2⟩
            · exact Or.inr (Or.inr (Or.inr (Or.inr (Or.inr (Or.inl ⟨e1, his4, e2⟩)))))
            · exact Or.inr (Or.inr (Or.inr (Or.inr (Or.inr (Or.inr (Or.inr (Or.inr ⟨(Bad.of hp0 his4 (by decide) (fun _ => by decide) (fun q => absurd q e0) (fun _ => fun q => absurd q (by decide))), e1, e2⟩)))))))) hL9 hM9 (hw9.trans hw6) (h09.trans h06) (by
            rcases hd9 with ⟨e1, e2⟩ | ⟨e0, e1, e2⟩
            · exact e2.rg
            · exact Or.inl e1) h hm hs
        · skip
          refine g_if_eq cx d_8_13_190 rfl (fun c190 => ?_) (fun c190 => absurd rfl c190)
          have hno4 : ¬ IS (fun i => en i - bg i) (fun i => sub cd (bg i) (en i - bg i)) 0 4 := by
            intro q
            obtain ⟨e1, e2⟩ := (IS.iff (hpt.2.2 0 hpp).2.2.1).mp q
            have e3 : en 0 = bg 0 + 4 := e1
            have t9 := htx 0 hpp
            have d0 : x6.2.1 1 (bg 0 + 0) = 108 := (t9 (bg 0 + 0) (by omega)).trans (congrArg nI ((e2 0 (by decide)).trans kch4.1))
            have d1 : x6.2.1 1 (bg 0 + 1) = 111 := (t9 (bg 0 + 1) (by omega)).trans (congrArg nI ((e2 1 (by decide)).trans kch4.2.1))
            have d2 : x6.2.1 1 (bg 0 + 2) = 97 := (t9 (bg 0 + 2) (by omega)).trans (congrArg nI ((e2 2 (by decide)).trans kch4.2.2.1))
            have d3 : x6.2.1 1 (bg 0 + 3) = 100 := (t9 (bg 0 + 3) (by omega)).trans (congrArg nI ((e2 3 (by decide)).trans kch4.2.2.2))
            first
              | exact hnln ⟨hpp, e3⟩
              | exact hnsy ⟨hpp, by omega, d0, d1, d2, d3⟩
          exact k201 hno1 hno2 hno3 hno4 h hm hs
      · skip
        refine g_if_eq cx d_8_13_181 rfl (fun c181 => ?_) (fun c181 => absurd rfl c181)
        have hno4 : ¬ IS (fun i => en i - bg i) (fun i => sub cd (bg i) (en i - bg i)) 0 4 := by
          intro q
          obtain ⟨e1, e2⟩ := (IS.iff (hpt.2.2 0 hpp).2.2.1).mp q
          have e3 : en 0 = bg 0 + 4 := e1
          have t9 := htx 0 hpp
          have d0 : x6.2.1 1 (bg 0 + 0) = 108 := (t9 (bg 0 + 0) (by omega)).trans (congrArg nI ((e2 0 (by decide)).trans kch4.1))
          have d1 : x6.2.1 1 (bg 0 + 1) = 111 := (t9 (bg 0 + 1) (by omega)).trans (congrArg nI ((e2 1 (by decide)).trans kch4.2.1))
          have d2 : x6.2.1 1 (bg 0 + 2) = 97 := (t9 (bg 0 + 2) (by omega)).trans (congrArg nI ((e2 2 (by decide)).trans kch4.2.2.1))
          have d3 : x6.2.1 1 (bg 0 + 3) = 100 := (t9 (bg 0 + 3) (by omega)).trans (congrArg nI ((e2 3 (by decide)).trans kch4.2.2.2))
          first
            | exact hnln ⟨hpp, e3⟩
            | exact hnsy ⟨hpp, by omega, d0, d1, d2, d3⟩
        exact k201 hno1 hno2 hno3 hno4 h hm hs
    have k117 : ∀ (hno1 : ¬ IS (fun i => en i - bg i) (fun i => sub cd (bg i) (en i - bg i)) 0 1) (hno2 : ¬ IS (fun i => en i - bg i) (fun i => sub cd (bg i) (en i - bg i)) 0 2) (h : hp) (hm : Mo D am ad x6 h) (hs : Sm am ad h0 h), G p l e (rmL 3) s m args below meth c 2 D z0 E (MQp D am ad h0 (fun r' x' => ∃ (an : Int32) (S' : SL), StepL cd w S an S' ∧ LKS S' x' ∧ MIx x' ∧ x'.1 2 = nI 0 ∧ ((¬ an < 0 ∧ r' = some (.int an) ∧ x'.1 0 = 0) ∨ (an = -1 ∧ x'.1 0 = 1 ∧ ∃ u, r' = some (.int u)) ∨ (an = -2 ∧ x'.1 0 = 2 ∧ ∃ u, r' = some (.int u))))) 0 0 117 [(1, .int (-1)), (0, .ref am)] [] h 0 0 := by
      intro hno1 hno2 h hm hs
      refine g_aload_n cx 1 d_8_13_117 rfl rfl ?_
      refine g_iconst cx (v := 0) d_8_13_118 (by decide) ?_
      refine g_bipush cx (v := 114) d_8_13_119 (by decide) ?_
      refine g_bipush cx (v := 101) d_8_13_121 (by decide) ?_
      refine g_bipush cx (v := 97) d_8_13_123 (by decide) ?_
      refine g_bipush cx (v := 108) d_8_13_125 (by decide) ?_
      refine m_call 3 cx (As := [.int (nI 0), .int 114, .int 101, .int 97, .int 108]) (n := 5) (mc_saysF hSt hA x6 0 pn bg en 114 101 97 108 hpt (by decide)) d_8_13_127 t_1005 t_1007 ts_27 t_1008 rfl ⟨rfl, by decide +kernel⟩ rfl ⟨by decide, by decide⟩ (Nat.le_of_ble_eq_true rfl) hm hs (fun v127 x127 h hm hs r127 => ?_)
      obtain ⟨e9, r9⟩ := r127
      rw [e9] at hm
      rcases r9 with ⟨rfl, hsy⟩ | ⟨rfl, hnsy⟩
      · skip
        refine g_if_eq cx d_8_13_130 rfl (fun c130 => absurd c130 (by decide)) (fun c130 => ?_)
        refine g_aload_n cx 1 d_8_13_133 rfl rfl ?_
        refine g_iconst cx (v := 0) d_8_13_134 (by decide) ?_
        refine g_iconst cx (v := 5) d_8_13_135 (by decide) ?_
        refine m_call 3 cx (As := [.int (nI 0), .int (nI 5)]) (n := 2) (mc_isLongF hSt hA x6 0 pn 5 bg en hpt (by decide) (by decide)) d_8_13_136 t_1009 t_1011 ts_28 t_1012 rfl ⟨rfl, by decide +kernel⟩ rfl ⟨by decide, by decide⟩ (Nat.le_of_ble_eq_true rfl) hm hs (fun v136 x136 h hm hs r136 => ?_)
        obtain ⟨e9, r9⟩ := r136
        rw [e9] at hm
        rcases r9 with ⟨rfl, h0p, hlen⟩ | ⟨rfl, hnln⟩
        · skip
          refine g_if_eq cx d_8_13_139 rfl (fun c139 => absurd c139 (by decide)) (fun c139 => ?_)
          obtain ⟨p1, p2, p3, p4⟩ := hpt.2.2 0 h0p
          refine g_aload_n cx 1 d_8_13_142 rfl rfl ?_
          refine m_get cx (k := 1) d_8_13_143 t_899 ⟨by decide, rfl⟩ hm rfl ?_
          refine g_aload_n cx 1 d_8_13_146 rfl rfl ?_
          refine m_get cx (k := 5) d_8_13_147 t_903 ⟨by decide, rfl⟩ hm rfl ?_
          refine g_iconst cx (v := 0) d_8_13_150 (by decide) ?_
          refine m_ld1 cx d_8_13_151 (by decide) hm (rfl : (0 : Int32) = nI 0) ⟨(show 0 < 15 by decide), by decide⟩ ?_
          refine g_iconst cx (v := 1) d_8_13_152 (by decide) ?_
          refine g_isub cx d_8_13_153 ?_
          refine m_ld2 cx d_8_13_154 (by decide) hm (show x6.2.1 5 0 - 1 = nI (en 0 - 1) by rw [p2]; exact pk_sub (b := 1) (by omega)) ⟨(show en 0 - 1 < 30 by omega), by decide⟩ ?_
          refine g_bipush cx (v := 109) d_8_13_155 (by decide) ?_
          refine g_icmp_ne cx d_8_13_157 rfl (fun c157 => ?_) (fun c157 => ?_)
          · skip
            have hno3 : ¬ IS (fun i => en i - bg i) (fun i => sub cd (bg i) (en i - bg i)) 0 3 := by
              intro q
              obtain ⟨e1, e2⟩ := (IS.iff (hpt.2.2 0 hpp).2.2.1).mp q
              have e3 : en 0 = bg 0 + 5 := e1
              have t9 := htx 0 hpp
              have d0 : x6.2.1 1 (bg 0 + 0) = 114 := (t9 (bg 0 + 0) (by omega)).trans (congrArg nI ((e2 0 (by decide)).trans kch3.1))
              have d1 : x6.2.1 1 (bg 0 + 1) = 101 := (t9 (bg 0 + 1) (by omega)).trans (congrArg nI ((e2 1 (by decide)).trans kch3.2.1))
              have d2 : x6.2.1 1 (bg 0 + 2) = 97 := (t9 (bg 0 + 2) (by omega)).trans (congrArg nI ((e2 2 (by decide)).trans kch3.2.2.1))
              have d3 : x6.2.1 1 (bg 0 + 3) = 108 := (t9 (bg 0 + 3) (by omega)).trans (congrArg nI ((e2 3 (by decide)).trans kch3.2.2.2.1))
              have d4 : x6.2.1 1 (bg 0 + 4) = 109 := (t9 (bg 0 + 4) (by omega)).trans (congrArg nI ((e2 4 (by decide)).trans kch3.2.2.2.2))
              first
                | exact c157 (by show x6.2.1 1 (en 0 - 1) = 109; rw [show en 0 - 1 = bg 0 + 4 by omega]; exact d4)
                | exact hnln ⟨hpp, e3⟩
                | exact hnsy ⟨hpp, by omega, d0, d1, d2, d3⟩
            exact k168 hno1 hno2 hno3 h hm hs
          · skip
            have his3 : IS (fun i => en i - bg i) (fun i => sub cd (bg i) (en i - bg i)) 0 3 := by
              refine (IS.iff p3).mpr ⟨hlen, fun t ht => ?_⟩
              have h9 : t < 5 := ht
              have q9 : t = 0 ∨ t = 1 ∨ t = 2 ∨ t = 3 ∨ t = 4 := by omega
              rcases q9 with rfl | rfl | rfl | rfl | rfl
              · exact ((nI_eq (b := 114) (Nat.lt_trans chr_lt (by decide)) (by decide)).mp ((htx 0 h0p (bg 0 + 0) (by omega)).symm.trans (hsy.2.2.1))).trans kch3.1.symm
              · exact ((nI_eq (b := 101) (Nat.lt_trans chr_lt (by decide)) (by decide)).mp ((htx 0 h0p (bg 0 + 1) (by omega)).symm.trans (hsy.2.2.2.1))).trans kch3.2.1.symm
              · exact ((nI_eq (b := 97) (Nat.lt_trans chr_lt (by decide)) (by decide)).mp ((htx 0 h0p (bg 0 + 2) (by omega)).symm.trans (hsy.2.2.2.2.1))).trans kch3.2.2.1.symm
              · exact ((nI_eq (b := 108) (Nat.lt_trans chr_lt (by decide)) (by decide)).mp ((htx 0 h0p (bg 0 + 3) (by omega)).symm.trans (hsy.2.2.2.2.2))).trans kch3.2.2.2.1.symm
              · exact ((nI_eq (b := 109) (Nat.lt_trans chr_lt (by decide)) (by decide)).mp ((htx 0 h0p (bg 0 + 4) (by omega)).symm.trans ((by rw [show bg 0 + 4 = en 0 - 1 by omega]; exact c157)))).trans kch3.2.2.2.2.symm
            refine g_aload_n cx 1 d_8_13_160 rfl rfl ?_
            refine m_call 3 cx (As := []) (n := 0) (mc_newRealmG hSt hA x6 pn cd bg en S nm ld im kp mn hpt hM6 hL6 htx) d_8_13_161 t_1042 t_1044 ts_36 t_1045 rfl ⟨rfl, by decide +kernel⟩ rfl ⟨by decide, by decide⟩ (Nat.le_of_ble_eq_true rfl) hm hs (fun v161 x161 h hm hs r161 => ?_)
            obtain ⟨an9, S9, e9, hd9, hL9, hM9, hw9, h09⟩ := r161
            cases e9
            refine g_topi (fun an ean => ?_)
            refine g_istore_n cx (lv' := [(1, .int an), (0, .ref am)]) d_8_13_164 rfl (by decide) rfl ?_
            refine g_goto cx d_8_13_165 rfl ?_
            obtain rfl : an = an9 := ean
            exact c392 _ an S9 (by
              rcases hd9 with ⟨e1, e2⟩ | ⟨e0, e1, e2⟩
              · exact Or.inr (Or.inr (Or.inr (Or.inr (Or.inl ⟨e1, his3, e2⟩))))
              · exact Or.inr (Or.inr (Or.inr (Or.inr (Or.inr (Or.inr (Or.inr (Or.inr ⟨(Bad.of hp0 his3 (by decide) (fun _ => by decide) (fun q => absurd q e0) (fun _ => fun q => absurd q (by decide))), e1, e2⟩)))))))) hL9 hM9 (hw9.trans hw6) (h09.trans h06) (by
              rcases hd9 with ⟨e1, e2⟩ | ⟨e0, e1, e2⟩
              · exact e2.rg
              · exact Or.inl e1) h hm hs
        · skip
          refine g_if_eq cx d_8_13_139 rfl (fun c139 => ?_) (fun c139 => absurd rfl c139)
          have hno3 : ¬ IS (fun i => en i - bg i) (fun i => sub cd (bg i) (en i - bg i)) 0 3 := by
            intro q
            obtain ⟨e1, e2⟩ := (IS.iff (hpt.2.2 0 hpp).2.2.1).mp q
            have e3 : en 0 = bg 0 + 5 := e1
            have t9 := htx 0 hpp
            have d0 : x6.2.1 1 (bg 0 + 0) = 114 := (t9 (bg 0 + 0) (by omega)).trans (congrArg nI ((e2 0 (by decide)).trans kch3.1))
            have d1 : x6.2.1 1 (bg 0 + 1) = 101 := (t9 (bg 0 + 1) (by omega)).trans (congrArg nI ((e2 1 (by decide)).trans kch3.2.1))
            have d2 : x6.2.1 1 (bg 0 + 2) = 97 := (t9 (bg 0 + 2) (by omega)).trans (congrArg nI ((e2 2 (by decide)).trans kch3.2.2.1))
            have d3 : x6.2.1 1 (bg 0 + 3) = 108 := (t9 (bg 0 + 3) (by omega)).trans (congrArg nI ((e2 3 (by decide)).trans kch3.2.2.2.1))
            have d4 : x6.2.1 1 (bg 0 + 4) = 109 := (t9 (bg 0 + 4) (by omega)).trans (congrArg nI ((e2 4 (by decide)).trans kch3.2.2.2.2))
            first
              | exact c157 (by show x6.2.1 1 (en 0 - 1) = 109; rw [show en 0 - 1 = bg 0 + 4 by omega]; exact d4)
              | exact hnln ⟨hpp, e3⟩
              | exact hnsy ⟨hpp, by omega, d0, d1, d2, d3⟩
          exact k168 hno1 hno2 hno3 h hm hs
      · skip
        refine g_if_eq cx d_8_13_130 rfl (fun c130 => ?_) (fun c130 => absurd rfl c130)
        have hno3 : ¬ IS (fun i => en i - bg i) (fun i => sub cd (bg i) (en i - bg i)) 0 3 := by
          intro q
          obtain ⟨e1, e2⟩ := (IS.iff (hpt.2.2 0 hpp).2.2.1).mp q
          have e3 : en 0 = bg 0 + 5 := e1
          have t9 := htx 0 hpp
          have d0 : x6.2.1 1 (bg 0 + 0) = 114 := (t9 (bg 0 + 0) (by omega)).trans (congrArg nI ((e2 0 (by decide)).trans kch3.1))
          have d1 : x6.2.1 1 (bg 0 + 1) = 101 := (t9 (bg 0 + 1) (by omega)).trans (congrArg nI ((e2 1 (by decide)).trans kch3.2.1))
          have d2 : x6.2.1 1 (bg 0 + 2) = 97 := (t9 (bg 0 + 2) (by omega)).trans (congrArg nI ((e2 2 (by decide)).trans kch3.2.2.1))
          have d3 : x6.2.1 1 (bg 0 + 3) = 108 := (t9 (bg 0 + 3) (by omega)).trans (congrArg nI ((e2 3 (by decide)).trans kch3.2.2.2.1))
          have d4 : x6.2.1 1 (bg 0 + 4) = 109 := (t9 (bg 0 + 4) (by omega)).trans (congrArg nI ((e2 4 (by decide)).trans kch3.2.2.2.2))
          first
            | exact c157 (by show x6.2.1 1 (en 0 - 1) = 109; rw [show en 0 - 1 = bg 0 + 4 by omega]; exact d4)
            | exact hnln ⟨hpp, e3⟩
            | exact hnsy ⟨hpp, by omega, d0, d1, d2, d3⟩
        exact k168 hno1 hno2 hno3 h hm hs
    have k84 : ∀ (hno1 : ¬ IS (fun i => en i - bg i) (fun i => sub cd (bg i) (en i - bg i)) 0 1) (h : hp) (hm : Mo D am ad x6 h) (hs : Sm am ad h0 h), G p l e (rmL 3) s m args below meth c 2 D z0 E (MQp D am ad h0 (fun r' x' => ∃ (an : Int32) (S' : SL), StepL cd w S an S' ∧ LKS S' x' ∧ MIx x' ∧ x'.1 2 = nI 0 ∧ ((¬ an < 0 ∧ r' = some (.int an) ∧ x'.1 0 = 0) ∨ (an = -1 ∧ x'.1 0 = 1 ∧ ∃ u, r' = some (.int u)) ∨ (an = -2 ∧ x'.1 0 = 2 ∧ ∃ u, r' = some (.int u))))) 0 0 84 [(1, .int (-1)), (0, .ref am)] [] h 0 0 := by
      intro hno1 h hm hs
      refine g_aload_n cx 1 d_8_13_84 rfl rfl ?_
      refine g_iconst cx (v := 0) d_8_13_85 (by decide) ?_
      refine g_bipush cx (v := 110) d_8_13_86 (by decide) ?_
      refine g_bipush cx (v := 97) d_8_13_88 (by decide) ?_
      refine g_bipush cx (v := 109) d_8_13_90 (by decide) ?_
      refine g_bipush cx (v := 101) d_8_13_92 (by decide) ?_
      refine m_call 3 cx (As := [.int (nI 0), .int 110, .int 97, .int 109, .int 101]) (n := 5) (mc_saysF hSt hA x6 0 pn bg en 110 97 109 101 hpt (by decide)) d_8_13_94 t_1005 t_1007 ts_27 t_1008 rfl ⟨rfl, by decide +kernel⟩ rfl ⟨by decide, by decide⟩ (Nat.le_of_ble_eq_true rfl) hm hs (fun v94 x94 h hm hs r94 => ?_)
      obtain ⟨e9, r9⟩ := r94
      rw [e9] at hm
      rcases r9 with ⟨rfl, hsy⟩ | ⟨rfl, hnsy⟩
      · skip
        refine g_if_eq cx d_8_13_97 rfl (fun c97 => absurd c97 (by decide)) (fun c97 => ?_)
        refine g_aload_n cx 1 d_8_13_100 rfl rfl ?_
        refine g_iconst cx (v := 0) d_8_13_101 (by decide) ?_
        refine g_iconst cx (v := 4) d_8_13_102 (by decide) ?_
        refine m_call 3 cx (As := [.int (nI 0), .int (nI 4)]) (n := 2) (mc_isLongF hSt hA x6 0 pn 4 bg en hpt (by decide) (by decide)) d_8_13_103 t_1009 t_1011 ts_28 t_1012 rfl ⟨rfl, by decide +kernel⟩ rfl ⟨by decide, by decide⟩ (Nat.le_of_ble_eq_true rfl) hm hs (fun v103 x103 h hm hs r103 => ?_)
        obtain ⟨e9, r9⟩ := r103
        rw [e9] at hm
        rcases r9 with ⟨rfl, h0p, hlen⟩ | ⟨rfl, hnln⟩
        · skip
          refine g_if_eq cx d_8_13_106 rfl (fun c106 => absurd c106 (by decide)) (fun c106 => ?_)
          obtain ⟨p1, p2, p3, p4⟩ := hpt.2.2 0 h0p
          have his2 : IS (fun i => en i - bg i) (fun i => sub cd (bg i) (en i - bg i)) 0 2 := by
            refine (IS.iff p3).mpr ⟨hlen, fun t ht => ?_⟩
            have h9 : t < 4 := ht
            have q9 : t = 0 ∨ t = 1 ∨ t = 2 ∨ t = 3 := by omega
            rcases q9 with rfl | rfl | rfl | rfl
            · exact ((nI_eq (b := 110) (Nat.lt_trans chr_lt (by decide)) (by decide)).mp ((htx 0 h0p (bg 0 + 0) (by omega)).symm.trans (hsy.2.2.1))).trans kch2.1.symm
            · exact ((nI_eq (b := 97) (Nat.lt_trans chr_lt (by decide)) (by decide)).mp ((htx 0 h0p (bg 0 + 1) (by omega)).symm.trans (hsy.2.2.2.1))).trans kch2.2.1.symm
            · exact ((nI_eq (b := 109) (Nat.lt_trans chr_lt (by decide)) (by decide)).mp ((htx 0 h0p (bg 0 + 2) (by omega)).symm.trans (hsy.2.2.2.2.1))).trans kch2.2.2.1.symm
            · exact ((nI_eq (b := 101) (Nat.lt_trans chr_lt (by decide)) (by decide)).mp ((htx 0 h0p (bg 0 + 3) (by omega)).symm.trans (hsy.2.2.2.2.2))).trans kch2.2.2.2.symm
          refine g_aload_n cx 1 d_8_13_109 rfl rfl ?_
          refine m_call 3 cx (As := []) (n := 0) (mc_newNameG hSt hA x6 pn cd bg en S nm ld im kp mn hpt hM6 hL6 htx) d_8_13_110 t_1034 t_1036 ts_34 t_1037 rfl ⟨rfl, by decide +kernel⟩ rfl ⟨by decide, by decide⟩ (Nat.le_of_ble_eq_true rfl) hm hs (fun v110 x110 h hm hs r110 => ?_)
          obtain ⟨an9, S9, e9, hd9, hL9, hM9, hw9, h09⟩ := r110
          cases e9
          refine g_topi (fun an ean => ?_)
          refine g_istore_n cx (lv' := [(1, .int an), (0, .ref am)]) d_8_13_113 rfl (by decide) rfl ?_
          refine g_goto cx d_8_13_114 rfl ?_
          obtain rfl : an = an9 := ean
          exact c392 _ an S9 (by
            rcases hd9 with ⟨e1, e2⟩ | ⟨e0, e1, e2⟩
            · exact Or.inr (Or.inr (Or.inr (Or.inl ⟨e1, his2, e2⟩)))
            · exact Or.inr (Or.inr (Or.inr (Or.inr (Or.inr (Or.inr (Or.inr (Or.inr ⟨(Bad.of hp0 his2 (by decide) (fun _ => by decide) (fun q => absurd q e0) (fun _ => fun q => absurd q (by decide))), e1, e2⟩)))))))) hL9 hM9 (hw9.trans hw6) (h09.trans h06) (by
            rcases hd9 with ⟨e1, e2⟩ | ⟨e0, e1, e2⟩
            · exact e2.rg
            · exact Or.inl e1) h hm hs
        · skip
          refine g_if_eq cx d_8_13_106 rfl (fun c106 => ?_) (fun c106 => absurd rfl c106)
          have hno2 : ¬ IS (fun i => en i - bg i) (fun i => sub cd (bg i) (en i - bg i)) 0 2 := by
            intro q
            obtain ⟨e1, e2⟩ := (IS.iff (hpt.2.2 0 hpp).2.2.1).mp q
            have e3 : en 0 = bg 0 + 4 := e1
            have t9 := htx 0 hpp
            have d0 : x6.2.1 1 (bg 0 + 0) = 110 := (t9 (bg 0 + 0) (by omega)).trans (congrArg nI ((e2 0 (by decide)).trans kch2.1))
            have d1 : x6.2.1 1 (bg 0 + 1) = 97 := (t9 (bg 0 + 1) (by omega)).trans (congrArg nI ((e2 1 (by decide)).trans kch2.2.1))
            have d2 : x6.2.1 1 (bg 0 + 2) = 109 := (t9 (bg 0 + 2) (by omega)).trans (congrArg nI ((e2 2 (by decide)).trans kch2.2.2.1))
            have d3 : x6.2.1 1 (bg 0 + 3) = 101 := (t9 (bg 0 + 3) (by omega)).trans (congrArg nI ((e2 3 (by decide)).trans kch2.2.2.2))
            first
              | exact hnln ⟨hpp, e3⟩
              | exact hnsy ⟨hpp, by omega, d0, d1, d2, d3⟩
          exact k117 hno1 hno2 h hm hs
      · skip
        refine g_if_eq cx d_8_13_97 rfl (fun c97 => ?_) (fun c97 => absurd rfl c97)
        have hno2 : ¬ IS (fun i => en i - bg i) (fun i => sub cd (bg i) (en i - bg i)) 0 2 := by
          intro q
          obtain ⟨e1, e2⟩ := (IS.iff (hpt.2.2 0 hpp).2.2.1).mp q
          have e3 : en 0 = bg 0 + 4 := e1
          have t9 := htx 0 hpp
          have d0 : x6.2.1 1 (bg 0 + 0) = 110 := (t9 (bg 0 + 0) (by omega)).trans (congrArg nI ((e2 0 (by decide)).trans kch2.1))
          have d1 : x6.2.1 1 (bg 0 + 1) = 97 := (t9 (bg 0 + 1) (by omega)).trans (congrArg nI ((e2 1 (by decide)).trans kch2.2.1))
          have d2 : x6.2.1 1 (bg 0 + 2) = 109 := (t9 (bg 0 + 2) (by omega)).trans (congrArg nI ((e2 2 (by decide)).trans kch2.2.2.1))
          have d3 : x6.2.1 1 (bg 0 + 3) = 101 := (t9 (bg 0 + 3) (by omega)).trans (congrArg nI ((e2 3 (by decide)).trans kch2.2.2.2))
          first
            | exact hnln ⟨hpp, e3⟩
            | exact hnsy ⟨hpp, by omega, d0, d1, d2, d3⟩
        exact k117 hno1 hno2 h hm hs
    have k20 : ∀ (h : hp) (hm : Mo D am ad x6 h) (hs : Sm am ad h0 h), G p l e (rmL 3) s m args below meth c 2 D z0 E (MQp D am ad h0 (fun r' x' => ∃ (an : Int32) (S' : SL), StepL cd w S an S' ∧ LKS S' x' ∧ MIx x' ∧ x'.1 2 = nI 0 ∧ ((¬ an < 0 ∧ r' = some (.int an) ∧ x'.1 0 = 0) ∨ (an = -1 ∧ x'.1 0 = 1 ∧ ∃ u, r' = some (.int u)) ∨ (an = -2 ∧ x'.1 0 = 2 ∧ ∃ u, r' = some (.int u))))) 0 0 20 [(1, .int (-1)), (0, .ref am)] [] h 0 0 := by
      intro h hm hs
      refine g_aload_n cx 1 d_8_13_20 rfl rfl ?_
      refine g_iconst cx (v := 0) d_8_13_21 (by decide) ?_
      refine g_bipush cx (v := 97) d_8_13_22 (by decide) ?_
      refine g_bipush cx (v := 114) d_8_13_24 (by decide) ?_
      refine g_bipush cx (v := 99) d_8_13_26 (by decide) ?_
      refine g_bipush cx (v := 104) d_8_13_28 (by decide) ?_
      refine m_call 3 cx (As := [.int (nI 0), .int 97, .int 114, .int 99, .int 104]) (n := 5) (mc_saysF hSt hA x6 0 pn bg en 97 114 99 104 hpt (by decide)) d_8_13_30 t_1005 t_1007 ts_27 t_1008 rfl ⟨rfl, by decide +kernel⟩ rfl ⟨by decide, by decide⟩ (Nat.le_of_ble_eq_true rfl) hm hs (fun v30 x30 h hm hs r30 => ?_)
      obtain ⟨e9, r9⟩ := r30
      rw [e9] at hm
      rcases r9 with ⟨rfl, hsy⟩ | ⟨rfl, hnsy⟩
      · skip
        refine g_if_eq cx d_8_13_33 rfl (fun c33 => absurd c33 (by decide)) (fun c33 => ?_)
        refine g_aload_n cx 1 d_8_13_36 rfl rfl ?_
        refine g_iconst cx (v := 0) d_8_13_37 (by decide) ?_
        refine g_bipush cx (v := 7) d_8_13_38 (by decide) ?_
        refine m_call 3 cx (As := [.int (nI 0), .int (nI 7)]) (n := 2) (mc_isLongF hSt hA x6 0 pn 7 bg en hpt (by decide) (by decide)) d_8_13_40 t_1009 t_1011 ts_28 t_1012 rfl ⟨rfl, by decide +kernel⟩ rfl ⟨by decide, by decide⟩ (Nat.le_of_ble_eq_true rfl) hm hs (fun v40 x40 h hm hs r40 => ?_)
        obtain ⟨e9, r9⟩ := r40
        rw [e9] at hm
        rcases r9 with ⟨rfl, h0p, hlen⟩ | ⟨rfl, hnln⟩
        · skip
          refine g_if_eq cx d_8_13_43 rfl (fun c43 => absurd c43 (by decide)) (fun c43 => ?_)
          obtain ⟨p1, p2, p3, p4⟩ := hpt.2.2 0 h0p
          refine g_aload_n cx 1 d_8_13_46 rfl rfl ?_
          refine m_get cx (k := 1) d_8_13_47 t_899 ⟨by decide, rfl⟩ hm rfl ?_
          refine g_aload_n cx 1 d_8_13_50 rfl rfl ?_
          refine m_get cx (k := 4) d_8_13_51 t_902 ⟨by decide, rfl⟩ hm rfl ?_
          refine g_iconst cx (v := 0) d_8_13_54 (by decide) ?_
          refine m_ld1 cx d_8_13_55 (by decide) hm (rfl : (0 : Int32) = nI 0) ⟨(show 0 < 15 by decide), by decide⟩ ?_
          refine g_iconst cx (v := 4) d_8_13_56 (by decide) ?_
          refine g_iadd cx d_8_13_57 ?_
          refine m_ld2 cx d_8_13_58 (by decide) hm (show x6.2.1 4 0 + 4 = nI (bg 0 + 4) by rw [p1]; exact nI_add (bg 0) 4) ⟨(show bg 0 + 4 < 30 by omega), by decide⟩ ?_
          refine g_bipush cx (v := 105) d_8_13_59 (by decide) ?_
          refine g_icmp_ne cx d_8_13_61 rfl (fun c61 => ?_) (fun c61 => ?_)
          · skip
            have hno1 : ¬ IS (fun i => en i - bg i) (fun i => sub cd (bg i) (en i - bg i)) 0 1 := by
              intro q
              obtain ⟨e1, e2⟩ := (IS.iff (hpt.2.2 0 hpp).2.2.1).mp q
              have e3 : en 0 = bg 0 + 7 := e1
              have t9 := htx 0 hpp
              have d0 : x6.2.1 1 (bg 0 + 0) = 97 := (t9 (bg 0 + 0) (by omega)).trans (congrArg nI ((e2 0 (by decide)).trans kch1.1))
              have d1 : x6.2.1 1 (bg 0 + 1) = 114 := (t9 (bg 0 + 1) (by omega)).trans (congrArg nI ((e2 1 (by decide)).trans kch1.2.1))
              have d2 : x6.2.1 1 (bg 0 + 2) = 99 := (t9 (bg 0 + 2) (by omega)).trans (congrArg nI ((e2 2 (by decide)).trans kch1.2.2.1))
              have d3 : x6.2.1 1 (bg 0 + 3) = 104 := (t9 (bg 0 + 3) (by omega)).trans (congrArg nI ((e2 3 (by decide)).trans kch1.2.2.2.1))
              have d4 : x6.2.1 1 (bg 0 + 4) = 105 := (t9 (bg 0 + 4) (by omega)).trans (congrArg nI ((e2 4 (by decide)).trans kch1.2.2.2.2.1))
              have d5 : x6.2.1 1 (bg 0 + 5) = 118 := (t9 (bg 0 + 5) (by omega)).trans (congrArg nI ((e2 5 (by decide)).trans kch1.2.2.2.2.2.1))
              have d6 : x6.2.1 1 (bg 0 + 6) = 101 := (t9 (bg 0 + 6) (by omega)).trans (congrArg nI ((e2 6 (by decide)).trans kch1.2.2.2.2.2.2))
              first
                | exact hnen ⟨by rw [show en 0 - 2 = bg 0 + 5 by omega]; exact d5, by rw [show en 0 - 1 = bg 0 + 6 by omega]; exact d6⟩
                | exact c61 d4
                | exact hnln ⟨hpp, e3⟩
                | exact hnsy ⟨hpp, by omega, d0, d1, d2, d3⟩
            exact k84 hno1 h hm hs
          · skip
            refine g_aload_n cx 1 d_8_13_64 rfl rfl ?_
            refine g_iconst cx (v := 0) d_8_13_65 (by decide) ?_
            refine g_bipush cx (v := 118) d_8_13_66 (by decide) ?_
            refine g_bipush cx (v := 101) d_8_13_68 (by decide) ?_
            refine m_call 3 cx (As := [.int (nI 0), .int 118, .int 101]) (n := 3) (mc_endsF hSt hA x6 0 pn bg en 118 101 hpt h0p (by omega)) d_8_13_70 t_1013 t_1015 ts_29 t_1016 rfl ⟨rfl, by decide +kernel⟩ rfl ⟨by decide, by decide⟩ (Nat.le_of_ble_eq_true rfl) hm hs (fun v70 x70 h hm hs r70 => ?_)
            obtain ⟨e9, r9⟩ := r70
            rw [e9] at hm
            rcases r9 with ⟨rfl, hen⟩ | ⟨rfl, hnen⟩
            · skip
              refine g_if_eq cx d_8_13_73 rfl (fun c73 => absurd c73 (by decide)) (fun c73 => ?_)
              have his1 : IS (fun i => en i - bg i) (fun i => sub cd (bg i) (en i - bg i)) 0 1 := by
                refine (IS.iff p3).mpr ⟨hlen, fun t ht => ?_⟩
                have h9 : t < 7 := ht
                have q9 : t = 0 ∨ t = 1 ∨ t = 2 ∨ t = 3 ∨ t = 4 ∨ t = 5 ∨ t = 6 := by omega
                rcases q9 with rfl | rfl | rfl | rfl | rfl | rfl | rfl
                · exact ((nI_eq (b := 97) (Nat.lt_trans chr_lt (by decide)) (by decide)).mp ((htx 0 h0p (bg 0 + 0) (by omega)).symm.trans (hsy.2.2.1))).trans kch1.1.symm
                · exact ((nI_eq (b := 114) (Nat.lt_trans chr_lt (by decide)) (by decide)).mp ((htx 0 h0p (bg 0 + 1) (by omega)).symm.trans (hsy.2.2.2.1))).trans kch1.2.1.symm
                · exact ((nI_eq (b := 99) (Nat.lt_trans chr_lt (by decide)) (by decide)).mp ((htx 0 h0p (bg 0 + 2) (by omega)).symm.trans (hsy.2.2.2.2.1))).trans kch1.2.2.1.symm
                · exact ((nI_eq (b := 104) (Nat.lt_trans chr_lt (by decide)) (by decide)).mp ((htx 0 h0p (bg 0 + 3) (by omega)).symm.trans (hsy.2.2.2.2.2))).trans kch1.2.2.2.1.symm
                · exact ((nI_eq (b := 105) (Nat.lt_trans chr_lt (by decide)) (by decide)).mp ((htx 0 h0p (bg 0 + 4) (by omega)).symm.trans (c61))).trans kch1.2.2.2.2.1.symm
                · exact ((nI_eq (b := 118) (Nat.lt_trans chr_lt (by decide)) (by decide)).mp ((htx 0 h0p (bg 0 + 5) (by omega)).symm.trans ((by rw [show bg 0 + 5 = en 0 - 2 by omega]; exact hen.1)))).trans kch1.2.2.2.2.2.1.symm
                · exact ((nI_eq (b := 101) (Nat.lt_trans chr_lt (by decide)) (by decide)).mp ((htx 0 h0p (bg 0 + 6) (by omega)).symm.trans ((by rw [show bg 0 + 6 = en 0 - 1 by omega]; exact hen.2)))).trans kch1.2.2.2.2.2.2.symm
              refine g_aload_n cx 1 d_8_13_76 rfl rfl ?_
              refine m_call 3 cx (As := []) (n := 0) (mc_newArchiveG hSt hA x6 pn cd bg en S nm ld im kp mn hpt hM6 hL6 htx) d_8_13_77 t_1017 t_1019 ts_30 t_1020 rfl ⟨rfl, by decide +kernel⟩ rfl ⟨by decide, by decide⟩ (Nat.le_of_ble_eq_true rfl) hm hs (fun v77 x77 h hm hs r77 => ?_)
              obtain ⟨an9, S9, e9, hd9, hL9, hM9, hw9, h09⟩ := r77
              cases e9
              refine g_topi (fun an ean => ?_)
              refine g_istore_n cx (lv' := [(1, .int an), (0, .ref am)]) d_8_13_80 rfl (by decide) rfl ?_
              refine g_goto cx d_8_13_81 rfl ?_
              obtain rfl : an = an9 := ean
              exact c392 _ an S9 (by
                rcases hd9 with ⟨e1, e2⟩ | ⟨e0, e1, e2⟩
                · exact Or.inr (Or.inr (Or.inl ⟨e1, his1, e2⟩))
                · exact Or.inr (Or.inr (Or.inr (Or.inr (Or.inr (Or.inr (Or.inr (Or.inr ⟨(Bad.of hp0 his1 (by decide) (fun _ => by decide) (fun q => absurd q e0) (fun _ => fun q => absurd q (by decide))), e1, e2⟩)))))))) hL9 hM9 (hw9.trans hw6) (h09.trans h06) (by
                rcases hd9 with ⟨e1, e2⟩ | ⟨e0, e1, e2⟩
                · exact e2.rg
                · exact Or.inl e1) h hm hs
            · skip
              refine g_if_eq cx d_8_13_73 rfl (fun c73 => ?_) (fun c73 => absurd rfl c73)
              have hno1 : ¬ IS (fun i => en i - bg i) (fun i => sub cd (bg i) (en i - bg i)) 0 1 := by
                intro q
                obtain ⟨e1, e2⟩ := (IS.iff (hpt.2.2 0 hpp).2.2.1).mp q
                have e3 : en 0 = bg 0 + 7 := e1
                have t9 := htx 0 hpp
                have d0 : x6.2.1 1 (bg 0 + 0) = 97 := (t9 (bg 0 + 0) (by omega)).trans (congrArg nI ((e2 0 (by decide)).trans kch1.1))
                have d1 : x6.2.1 1 (bg 0 + 1) = 114 := (t9 (bg 0 + 1) (by omega)).trans (congrArg nI ((e2 1 (by decide)).trans kch1.2.1))
                have d2 : x6.2.1 1 (bg 0 + 2) = 99 := (t9 (bg 0 + 2) (by omega)).trans (congrArg nI ((e2 2 (by decide)).trans kch1.2.2.1))
                have d3 : x6.2.1 1 (bg 0 + 3) = 104 := (t9 (bg 0 + 3) (by omega)).trans (congrArg nI ((e2 3 (by decide)).trans kch1.2.2.2.1))
                have d4 : x6.2.1 1 (bg 0 + 4) = 105 := (t9 (bg 0 + 4) (by omega)).trans (congrArg nI ((e2 4 (by decide)).trans kch1.2.2.2.2.1))
                have d5 : x6.2.1 1 (bg 0 + 5) = 118 := (t9 (bg 0 + 5) (by omega)).trans (congrArg nI ((e2 5 (by decide)).trans kch1.2.2.2.2.2.1))
                have d6 : x6.2.1 1 (bg 0 + 6) = 101 := (t9 (bg 0 + 6) (by omega)).trans (congrArg nI ((e2 6 (by decide)).trans kch1.2.2.2.2.2.2))
                first
                  | exact hnen ⟨by rw [show en 0 - 2 = bg 0 + 5 by omega]; exact d5, by rw [show en 0 - 1 = bg 0 + 6 by omega]; exact d6⟩
                  | exact c61 d4
                  | exact hnln ⟨hpp, e3⟩
                  | exact hnsy ⟨hpp, by omega, d0, d1, d2, d3⟩
              exact k84 hno1 h hm hs
        · skip
          refine g_if_eq cx d_8_13_43 rfl (fun c43 => ?_) (fun c43 => absurd rfl c43)
          have hno1 : ¬ IS (fun i => en i - bg i) (fun i => sub cd (bg i) (en i - bg i)) 0 1 := by
            intro q
            obtain ⟨e1, e2⟩ := (IS.iff (hpt.2.2 0 hpp).2.2.1).mp q
            have e3 : en 0 = bg 0 + 7 := e1
            have t9 := htx 0 hpp
            have d0 : x6.2.1 1 (bg 0 + 0) = 97 := (t9 (bg 0 + 0) (by omega)).trans (congrArg nI ((e2 0 (by decide)).trans kch1.1))
            have d1 : x6.2.1 1 (bg 0 + 1) = 114 := (t9 (bg 0 + 1) (by omega)).trans (congrArg nI ((e2 1 (by decide)).trans kch1.2.1))
            have d2 : x6.2.1 1 (bg 0 + 2) = 99 := (t9 (bg 0 + 2) (by omega)).trans (congrArg nI ((e2 2 (by decide)).trans kch1.2.2.1))
            have d3 : x6.2.1 1 (bg 0 + 3) = 104 := (t9 (bg 0 + 3) (by omega)).trans (congrArg nI ((e2 3 (by decide)).trans kch1.2.2.2.1))
            have d4 : x6.2.1 1 (bg 0 + 4) = 105 := (t9 (bg 0 + 4) (by omega)).trans (congrArg nI ((e2 4 (by decide)).trans kch1.2.2.2.2.1))
            have d5 : x6.2.1 1 (bg 0 + 5) = 118 := (t9 (bg 0 + 5) (by omega)).trans (congrArg nI ((e2 5 (by decide)).trans kch1.2.2.2.2.2.1))
            have d6 : x6.2.1 1 (bg 0 + 6) = 101 := (t9 (bg 0 + 6) (by omega)).trans (congrArg nI ((e2 6 (by decide)).trans kch1.2.2.2.2.2.2))
            first
              | exact hnen ⟨by rw [show en 0 - 2 = bg 0 + 5 by omega]; exact d5, by rw [show en 0 - 1 = bg 0 + 6 by omega]; exact d6⟩
              | exact c61 d4
              | exact hnln ⟨hpp, e3⟩
              | exact hnsy ⟨hpp, by omega, d0, d1, d2, d3⟩
          exact k84 hno1 h hm hs
      · skip
        refine g_if_eq cx d_8_13_33 rfl (fun c33 => ?_) (fun c33 => absurd rfl c33)
        have hno1 : ¬ IS (fun i => en i - bg i) (fun i => sub cd (bg i) (en i - bg i)) 0 1 := by
          intro q
          obtain ⟨e1, e2⟩ := (IS.iff (hpt.2.2 0 hpp).2.2.1).mp q
          have e3 : en 0 = bg 0 + 7 := e1
          have t9 := htx 0 hpp
          have d0 : x6.2.1 1 (bg 0 + 0) = 97 := (t9 (bg 0 + 0) (by omega)).trans (congrArg nI ((e2 0 (by decide)).trans kch1.1))
          have d1 : x6.2.1 1 (bg 0 + 1) = 114 := (t9 (bg 0 + 1) (by omega)).trans (congrArg nI ((e2 1 (by decide)).trans kch1.2.1))
          have d2 : x6.2.1 1 (bg 0 + 2) = 99 := (t9 (bg 0 + 2) (by omega)).trans (congrArg nI ((e2 2 (by decide)).trans kch1.2.2.1))
          have d3 : x6.2.1 1 (bg 0 + 3) = 104 := (t9 (bg 0 + 3) (by omega)).trans (congrArg nI ((e2 3 (by decide)).trans kch1.2.2.2.1))
          have d4 : x6.2.1 1 (bg 0 + 4) = 105 := (t9 (bg 0 + 4) (by omega)).trans (congrArg nI ((e2 4 (by decide)).trans kch1.2.2.2.2.1))
          have d5 : x6.2.1 1 (bg 0 + 5) = 118 := (t9 (bg 0 + 5) (by omega)).trans (congrArg nI ((e2 5 (by decide)).trans kch1.2.2.2.2.2.1))
          have d6 : x6.2.1 1 (bg 0 + 6) = 101 := (t9 (bg 0 + 6) (by omega)).trans (congrArg nI ((e2 6 (by decide)).trans kch1.2.2.2.2.2.2))
          first
            | exact hnen ⟨by rw [show en 0 - 2 = bg 0 + 5 by omega]; exact d5, by rw [show en 0 - 1 = bg 0 + 6 by omega]; exact d6⟩
            | exact c61 d4
            | exact hnln ⟨hpp, e3⟩
            | exact hnsy ⟨hpp, by omega, d0, d1, d2, d3⟩
        exact k84 hno1 h hm hs
    refine g_iconst cx (v := (-1)) d_8_13_18 (by decide) ?_
    refine g_topi (fun an ean => ?_)
    obtain rfl : an = -1 := ean
    refine g_istore_n cx (lv' := [(1, .int (-1)), (0, .ref am)]) d_8_13_19 rfl (by decide) rfl ?_
    exact k20 h hm hs
  · skip
    have hpz : pn = 0 := (nI_eq (b := 0) (by have := hpt.2.1; omega) (by decide)).mp (hpt.1.symm.trans c13)
    refine g_iconst cx (v := 0) d_8_13_16 (by decide) ?_
    exact m_iret cx d_8_13_17 rfl rfl hm hs ⟨0, S, ⟨pn, bg, en, hspl, Or.inl ⟨hpz, rfl, rfl⟩⟩, hL6, MIx.of hM6, hw6, Or.inl ⟨by decide, rfl, h06⟩⟩
end M14
