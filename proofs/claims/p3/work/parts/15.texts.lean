/-! The reference's texts: the line split into parts, a part read as a name. -/
/-- x' is x but for the whole numbers si, the arrays sa, the long arrays sl -/
def Fx (si sa sl : List Nat) (x x' : MS) : Prop := (∀ k, k ∉ si → x'.1 k = x.1 k) ∧ (∀ k, k ∉ sa → x'.2.1 k = x.2.1 k) ∧ ∀ k, k ∉ sl → x'.2.2 k = x.2.2 k
theorem Fx.rf {si sa sl : List Nat} {x : MS} : Fx si sa sl x x := ⟨fun _ _ => rfl, fun _ _ => rfl, fun _ _ => rfl⟩
theorem Fx.tr {si sa sl : List Nat} {x y z : MS} (a : Fx si sa sl x y) (b : Fx si sa sl y z) : Fx si sa sl x z := ⟨fun k h => (b.1 k h).trans (a.1 k h), fun k h => (b.2.1 k h).trans (a.2.1 k h), fun k h => (b.2.2 k h).trans (a.2.2 k h)⟩
theorem Fx.le {si sa sl ti ta tl : List Nat} {x y : MS} (a : Fx si sa sl x y) (h1 : ∀ k ∈ si, k ∈ ti) (h2 : ∀ k ∈ sa, k ∈ ta) (h3 : ∀ k ∈ sl, k ∈ tl) : Fx ti ta tl x y := ⟨fun k h => a.1 k (fun q => h (h1 k q)), fun k h => a.2.1 k (fun q => h (h2 k q)), fun k h => a.2.2 k (fun q => h (h3 k q))⟩
theorem Fx.i {si sa sl : List Nat} {x y : MS} {k : Nat} {v : Int32} (a : Fx si sa sl x y) (hk : k ∈ si) : Fx si sa sl x (seti y k v) := ⟨fun j h => (va_up_ne (k := k) (j := j) _ _ (fun e => h (by rw [e]; exact hk))).trans (a.1 j h), a.2⟩
theorem Fx.a {si sa sl : List Nat} {x y : MS} {k n : Nat} {v : Int32} (a : Fx si sa sl x y) (hk : k ∈ sa) : Fx si sa sl x (seta y k n v) := ⟨a.1, fun j h => (va_up_ne (k := k) (j := j) _ _ (fun e => h (by rw [e]; exact hk))).trans (a.2.1 j h), a.2.2⟩
theorem Fx.l {si sa sl : List Nat} {x y : MS} {k n : Nat} {v : Int64} (a : Fx si sa sl x y) (hk : k ∈ sl) : Fx si sa sl x (setl y k n v) := ⟨a.1, a.2.1, fun j h => (va_up_ne (k := k) (j := j) _ _ (fun e => h (by rw [e]; exact hk))).trans (a.2.2 j h)⟩
theorem PT.begin {y : MS} {pn : Nat} {bg en : Nat → Nat} {v : Int32} (h : PT y pn bg en) : PT (seta y 4 pn v) pn bg en := by
  refine ⟨h.1, h.2.1, fun i hi => ⟨?_, (h.2.2 i hi).2⟩⟩
  show upd (y.2.1 4) pn v i = _
  rw [pk_un (by omega)]
  exact (h.2.2 i hi).1
theorem PT.add {y : MS} {pn k0 k2 : Nat} {bg en : Nat → Nat} (h : PT y pn bg en) (hb : y.2.1 4 pn = nI k0) (h1 : k0 < k2) (h2 : k2 ≤ 30) (h3 : pn < 15) : PT (seti (seta y 5 pn (nI k2)) 3 (nI (pn + 1))) (pn + 1) (fun j => if j = pn then k0 else bg j) (fun j => if j = pn then k2 else en j) := by
  refine ⟨rfl, by omega, fun i hi => ?_⟩
  by_cases hip : i = pn
  · subst hip
    simp only [if_pos]
    exact ⟨hb, pk_us, h1, h2⟩
  · simp only [if_neg hip]
    obtain ⟨q1, q2, q3, q4⟩ := h.2.2 i (by omega)
    exact ⟨q1, (pk_un hip).trans q2, q3, q4⟩
section M4
variable {l : Launch} {D : va_G} {z0 : Nat} {E : State → Prop} {am : Nat} {ad : Nat → Nat}
set_option maxHeartbeats 4000000 in
theorem mc_nameOf (hSt : Stb z0 E) (hA : Ad am ad) (x : MS) (i pn : Nat) (bg en : Nat → Nat) (hp : PT x pn bg en) (hi : i < 15) : MC l y_165 prog_8_method_6_code 10 (Option.some Jvm.ClassFile.FieldType.long) 0 D z0 E am ad [.int (nI i)] x (fun r x' => x' = x ∧ ∃ v, r = some (.long v)) := by
  refine mc_of hSt rfl (Nat.le_of_ble_eq_true rfl) ?_
  intro h0 h p e s m args below meth c cx hm hs
  refine g_iload_n cx 1 d_8_6_0 rfl rfl ?_
  refine g_aload_n cx 0 d_8_6_1 rfl rfl ?_
  refine m_get cx (k := 3) d_8_6_2 t_901 ⟨by decide, rfl⟩ hm rfl ?_
  refine g_icmp_lt cx d_8_6_5 rfl (fun c5 => ?_) (fun c5 => ?_)
  · skip
    have hip : i < pn := by
      have h9 : nI i < nI pn := by rw [← hp.1]; exact c5
      exact (nI_ltI (by omega) (by have := hp.2.1; omega)).mp h9
    obtain ⟨p1, p2, p3, p4⟩ := hp.2.2 i hip
    have lp : ∀ (n : Nat) (k : Nat) (wv le wo : Int32) (V : Int64), bg i ≤ k → k ≤ en i → en i - k < n → G p l e (rmL 0) s m args below meth c 10 D z0 E (MQp D am ad h0 (fun r x' => x' = x ∧ ∃ v, r = some (.long v))) 0 0 29 [(7, .int (nI k)), (6, .int wv), (5, .int le), (4, .int wo), (2, .long V), (0, .ref am), (1, .int (nI i))] [] h 0 0 := by
      intro n
      induction n with
      | zero => intro k wv le wo V hk0 hk1 hn; exact absurd hn (Nat.not_lt_zero _)
      | succ n ih =>
        intro k wv le wo V hk0 hk1 hn
        refine g_iload cx 0 d_8_6_29 rfl ?_
        refine g_aload_n cx 5 d_8_6_31 rfl rfl ?_
        refine m_get cx (k := 5) d_8_6_32 t_903 ⟨by decide, rfl⟩ hm rfl ?_
        refine g_iload_n cx 6 d_8_6_35 rfl rfl ?_
        refine m_ld1 cx d_8_6_36 (by decide) hm rfl ⟨(show i < 15 from hi), by decide⟩ ?_
        refine g_icmp_ge cx d_8_6_37 rfl (fun c37 => ?_) (fun c37 => ?_)
        · skip
          refine g_iload cx 2 d_8_6_169 rfl ?_
          refine g_if_ne cx d_8_6_171 rfl (fun c171 => ?_) (fun c171 => ?_)
          · skip
            refine g_lload_n cx 4 d_8_6_176 rfl rfl ?_
            refine g_bipush cx (v := 20) d_8_6_177 (by decide) ?_
            refine g_lshl cx d_8_6_179 ?_
            refine g_iload cx 1 d_8_6_180 rfl ?_
            refine g_i2l cx d_8_6_182 ?_
            refine g_lor cx d_8_6_183 ?_
            refine g_topl (fun V2 eV2 => ?_)
            refine g_lstore_n cx (lv' := [(2, .long V2), (7, .int (nI k)), (6, .int wv), (5, .int le), (4, .int wo), (0, .ref am), (1, .int (nI i))]) d_8_6_184 rfl (by decide) rfl ?_
            refine g_lload_n cx 0 d_8_6_185 rfl rfl ?_
            refine g_bipush cx (v := 20) d_8_6_186 (by decide) ?_
            refine g_iconst cx (v := 3) d_8_6_188 (by decide) ?_
            refine g_iload cx 4 d_8_6_189 rfl ?_
            refine g_isub cx d_8_6_191 ?_
            refine g_imul cx d_8_6_192 ?_
            refine g_lshl cx d_8_6_193 ?_
            exact m_lret cx d_8_6_194 rfl hm hs ⟨rfl, _, rfl⟩
          · skip
            refine g_lconst cx (v := 0) d_8_6_174 (by decide) ?_
            exact m_lret cx d_8_6_175 rfl hm hs ⟨rfl, _, rfl⟩
        · skip
          have hk : k < en i := Nat.lt_of_not_le (fun q => c37 (by rw [p2]; exact nI_le q (by omega)))
          have c116 : ∀ (dt ch : Int32), G p l e (rmL 0) s m args below meth c 10 D z0 E (MQp D am ad h0 (fun r x' => x' = x ∧ ∃ v, r = some (.long v))) 0 0 116 [(9, .int dt), (8, .int ch), (7, .int (nI k)), (6, .int wv), (5, .int le), (4, .int wo), (2, .long V), (0, .ref am), (1, .int (nI i))] [] h 0 0 := by
            intro dt ch
            refine g_iload cx 0 d_8_6_116 rfl ?_
            refine g_if_eq cx d_8_6_118 rfl (fun c118 => ?_) (fun c118 => ?_)
            · skip
              refine g_iload cx 3 d_8_6_142 rfl ?_
              refine g_iload cx 1 d_8_6_144 rfl ?_
              refine g_bipush cx (v := 96) d_8_6_146 (by decide) ?_
              refine g_isub cx d_8_6_148 ?_
              refine g_bipush cx (v := 15) d_8_6_149 (by decide) ?_
              refine g_iconst cx (v := 5) d_8_6_151 (by decide) ?_
              refine g_iload cx 4 d_8_6_152 rfl ?_
              refine g_imul cx d_8_6_154 ?_
              refine g_isub cx d_8_6_155 ?_
              refine g_ishl cx d_8_6_156 ?_
              refine g_ior cx d_8_6_157 ?_
              refine g_topi (fun w1 ew1 => ?_)
              refine g_istore cx (lv' := [(6, .int w1), (9, .int dt), (8, .int ch), (7, .int (nI k)), (5, .int le), (4, .int wo), (2, .long V), (0, .ref am), (1, .int (nI i))]) d_8_6_158 (by decide) rfl ?_
              refine g_iinc cx 4 (lv' := [(5, .int (le + Int32.ofInt 1)), (6, .int w1), (9, .int dt), (8, .int ch), (7, .int (nI k)), (4, .int wo), (2, .long V), (0, .ref am), (1, .int (nI i))]) d_8_6_160 rfl rfl (by decide) rfl ?_
              refine g_iinc cx 4 (lv' := [(7, .int (nI (k + 1))), (5, .int (le + Int32.ofInt 1)), (6, .int w1), (9, .int dt), (8, .int ch), (4, .int wo), (2, .long V), (0, .ref am), (1, .int (nI i))]) d_8_6_163 rfl (inc1 k) (by decide) rfl ?_
              refine g_goto cx d_8_6_166 rfl ?_
              refine g_loc (lv' := [(7, .int (nI (k + 1))), (6, .int w1), (5, .int (le + Int32.ofInt 1)), (4, .int wo), (2, .long V), (0, .ref am), (1, .int (nI i))]) [0, 2, 1, 5, 6, 7, 8] rfl ?_
              exact ih (k + 1) w1 (le + Int32.ofInt 1) wo V (by omega) (by omega) (by omega)
            · skip
              refine g_lload_n cx 6 d_8_6_121 rfl rfl ?_
              refine g_bipush cx (v := 20) d_8_6_122 (by decide) ?_
              refine g_lshl cx d_8_6_124 ?_
              refine g_iload cx 3 d_8_6_125 rfl ?_
              refine g_i2l cx d_8_6_127 ?_
              refine g_lor cx d_8_6_128 ?_
              refine g_topl (fun V1 eV1 => ?_)
              refine g_lstore_n cx (lv' := [(2, .long V1), (9, .int dt), (8, .int ch), (7, .int (nI k)), (6, .int wv), (5, .int le), (4, .int wo), (0, .ref am), (1, .int (nI i))]) d_8_6_129 rfl (by decide) rfl ?_
              refine g_iconst cx (v := 0) d_8_6_130 (by decide) ?_
              refine g_topi (fun w1 ew1 => ?_)
              refine g_istore cx (lv' := [(6, .int w1), (2, .long V1), (9, .int dt), (8, .int ch), (7, .int (nI k)), (5, .int le), (4, .int wo), (0, .ref am), (1, .int (nI i))]) d_8_6_131 (by decide) rfl ?_
              refine g_iconst cx (v := 0) d_8_6_133 (by decide) ?_
              refine g_topi (fun l1 el1 => ?_)
              refine g_istore cx (lv' := [(5, .int l1), (6, .int w1), (2, .long V1), (9, .int dt), (8, .int ch), (7, .int (nI k)), (4, .int wo), (0, .ref am), (1, .int (nI i))]) d_8_6_134 (by decide) rfl ?_
              refine g_iinc cx 6 (lv' := [(4, .int (wo + Int32.ofInt 1)), (5, .int l1), (6, .int w1), (2, .long V1), (9, .int dt), (8, .int ch), (7, .int (nI k)), (0, .ref am), (1, .int (nI i))]) d_8_6_136 rfl rfl (by decide) rfl ?_
              refine g_goto cx d_8_6_139 rfl ?_
              refine g_iinc cx 6 (lv' := [(7, .int (nI (k + 1))), (4, .int (wo + Int32.ofInt 1)), (5, .int l1), (6, .int w1), (2, .long V1), (9, .int dt), (8, .int ch), (0, .ref am), (1, .int (nI i))]) d_8_6_163 rfl (inc1 k) (by decide) rfl ?_
              refine g_goto cx d_8_6_166 rfl ?_
              refine g_loc (lv' := [(7, .int (nI (k + 1))), (6, .int w1), (5, .int l1), (4, .int (wo + Int32.ofInt 1)), (2, .long V1), (0, .ref am), (1, .int (nI i))]) [0, 3, 2, 1, 4, 7, 8] rfl ?_
              exact ih (k + 1) w1 l1 (wo + Int32.ofInt 1) V1 (by omega) (by omega) (by omega)
          refine g_aload_n cx 5 d_8_6_40 rfl rfl ?_
          refine m_get cx (k := 1) d_8_6_41 t_899 ⟨by decide, rfl⟩ hm rfl ?_
          refine g_iload cx 0 d_8_6_44 rfl ?_
          refine m_ld2 cx d_8_6_46 (by decide) hm rfl ⟨(show k < 30 by omega), by decide⟩ ?_
          refine g_topi (fun ch ech => ?_)
          refine g_istore cx (lv' := [(8, .int ch), (7, .int (nI k)), (6, .int wv), (5, .int le), (4, .int wo), (2, .long V), (0, .ref am), (1, .int (nI i))]) d_8_6_47 (by decide) rfl ?_
          refine g_iload cx 0 d_8_6_49 rfl ?_
          refine g_bipush cx (v := 46) d_8_6_51 (by decide) ?_
          refine g_icmp_ne cx d_8_6_53 rfl (fun c53 => ?_) (fun c53 => ?_)
          · skip
            refine g_iconst cx (v := 0) d_8_6_60 (by decide) ?_
            refine g_topi (fun dt edt => ?_)
            refine g_istore cx (lv' := [(9, .int dt), (8, .int ch), (7, .int (nI k)), (6, .int wv), (5, .int le), (4, .int wo), (2, .long V), (0, .ref am), (1, .int (nI i))]) d_8_6_61 (by decide) rfl ?_
            refine g_iload cx 0 d_8_6_63 rfl ?_
            refine g_if_ne cx d_8_6_65 rfl (fun c65 => ?_) (fun c65 => ?_)
            · skip
              refine g_iload cx 0 d_8_6_82 rfl ?_
              refine g_if_eq cx d_8_6_84 rfl (fun c84 => ?_) (fun c84 => ?_)
              · skip
                refine g_iload cx 0 d_8_6_92 rfl ?_
                refine g_if_ne cx d_8_6_94 rfl (fun c94 => ?_) (fun c94 => ?_)
                · skip
                  refine g_iload cx 0 d_8_6_103 rfl ?_
                  refine g_if_eq cx d_8_6_105 rfl (fun c105 => ?_) (fun c105 => ?_)
                  · skip
                    exact c116 dt ch
                  · skip
                    refine g_iload cx 5 d_8_6_108 rfl ?_
                    refine g_iconst cx (v := 3) d_8_6_110 (by decide) ?_
                    refine g_icmp_ne cx d_8_6_111 rfl (fun c111 => ?_) (fun c111 => ?_)
                    · skip
                      exact c116 dt ch
                    · skip
                      refine g_lconst cx (v := 0) d_8_6_114 (by decide) ?_
                      exact m_lret cx d_8_6_115 rfl hm hs ⟨rfl, _, rfl⟩
                · skip
                  refine g_iload cx 4 d_8_6_97 rfl ?_
                  refine g_iconst cx (v := 4) d_8_6_99 (by decide) ?_
                  refine g_icmp_eq cx d_8_6_100 rfl (fun c100 => ?_) (fun c100 => ?_)
                  · skip
                    refine g_lconst cx (v := 0) d_8_6_114 (by decide) ?_
                    exact m_lret cx d_8_6_115 rfl hm hs ⟨rfl, _, rfl⟩
                  · skip
                    refine g_iload cx 0 d_8_6_103 rfl ?_
                    refine g_if_eq cx d_8_6_105 rfl (fun c105 => ?_) (fun c105 => ?_)
                    · skip
                      exact c116 dt ch
                    · skip
                      refine g_iload cx 5 d_8_6_108 rfl ?_
                      refine g_iconst cx (v := 3) d_8_6_110 (by decide) ?_
                      refine g_icmp_ne cx d_8_6_111 rfl (fun c111 => ?_) (fun c111 => ?_)
                      · skip
                        exact c116 dt ch
                      · skip
                        refine g_lconst cx (v := 0) d_8_6_114 (by decide) ?_
                        exact m_lret cx d_8_6_115 rfl hm hs ⟨rfl, _, rfl⟩
              · skip
                refine g_iload cx 4 d_8_6_87 rfl ?_
                refine g_if_eq cx d_8_6_89 rfl (fun c89 => ?_) (fun c89 => ?_)
                · skip
                  refine g_lconst cx (v := 0) d_8_6_114 (by decide) ?_
                  exact m_lret cx d_8_6_115 rfl hm hs ⟨rfl, _, rfl⟩
                · skip
                  refine g_iload cx 0 d_8_6_92 rfl ?_
                  refine g_if_ne cx d_8_6_94 rfl (fun c94 => ?_) (fun c94 => ?_)
                  · skip
                    refine g_iload cx 0 d_8_6_103 rfl ?_
                    refine g_if_eq cx d_8_6_105 rfl (fun c105 => ?_) (fun c105 => ?_)
                    · skip
                      exact c116 dt ch
                    · skip
                      refine g_iload cx 5 d_8_6_108 rfl ?_
                      refine g_iconst cx (v := 3) d_8_6_110 (by decide) ?_
                      refine g_icmp_ne cx d_8_6_111 rfl (fun c111 => ?_) (fun c111 => ?_)
                      · skip
                        exact c116 dt ch
                      · skip
                        refine g_lconst cx (v := 0) d_8_6_114 (by decide) ?_
                        exact m_lret cx d_8_6_115 rfl hm hs ⟨rfl, _, rfl⟩
                  · skip
                    refine g_iload cx 4 d_8_6_97 rfl ?_
                    refine g_iconst cx (v := 4) d_8_6_99 (by decide) ?_
                    refine g_icmp_eq cx d_8_6_100 rfl (fun c100 => ?_) (fun c100 => ?_)
                    · skip
                      refine g_lconst cx (v := 0) d_8_6_114 (by decide) ?_
                      exact m_lret cx d_8_6_115 rfl hm hs ⟨rfl, _, rfl⟩
                    · skip
                      refine g_iload cx 0 d_8_6_103 rfl ?_
                      refine g_if_eq cx d_8_6_105 rfl (fun c105 => ?_) (fun c105 => ?_)
                      · skip
                        exact c116 dt ch
                      · skip
                        refine g_iload cx 5 d_8_6_108 rfl ?_
                        refine g_iconst cx (v := 3) d_8_6_110 (by decide) ?_
                        refine g_icmp_ne cx d_8_6_111 rfl (fun c111 => ?_) (fun c111 => ?_)
                        · skip
                          exact c116 dt ch
                        · skip
                          refine g_lconst cx (v := 0) d_8_6_114 (by decide) ?_
                          exact m_lret cx d_8_6_115 rfl hm hs ⟨rfl, _, rfl⟩
            · skip
              refine g_iload cx 1 d_8_6_68 rfl ?_
              refine g_bipush cx (v := 97) d_8_6_70 (by decide) ?_
              refine g_icmp_lt cx d_8_6_72 rfl (fun c72 => ?_) (fun c72 => ?_)
              · skip
                refine g_lconst cx (v := 0) d_8_6_114 (by decide) ?_
                exact m_lret cx d_8_6_115 rfl hm hs ⟨rfl, _, rfl⟩
              · skip
                refine g_iload cx 1 d_8_6_75 rfl ?_
                refine g_bipush cx (v := 122) d_8_6_77 (by decide) ?_
                refine g_icmp_gt cx d_8_6_79 rfl (fun c79 => ?_) (fun c79 => ?_)
                · skip
                  refine g_lconst cx (v := 0) d_8_6_114 (by decide) ?_
                  exact m_lret cx d_8_6_115 rfl hm hs ⟨rfl, _, rfl⟩
                · skip
                  refine g_iload cx 0 d_8_6_82 rfl ?_
                  refine g_if_eq cx d_8_6_84 rfl (fun c84 => ?_) (fun c84 => ?_)
                  · skip
                    refine g_iload cx 0 d_8_6_92 rfl ?_
                    refine g_if_ne cx d_8_6_94 rfl (fun c94 => ?_) (fun c94 => ?_)
                    · skip
                      refine g_iload cx 0 d_8_6_103 rfl ?_
                      refine g_if_eq cx d_8_6_105 rfl (fun c105 => ?_) (fun c105 => ?_)
                      · skip
                        exact c116 dt ch
                      · skip
                        refine g_iload cx 5 d_8_6_108 rfl ?_
                        refine g_iconst cx (v := 3) d_8_6_110 (by decide) ?_
                        refine g_icmp_ne cx d_8_6_111 rfl (fun c111 => ?_) (fun c111 => ?_)
                        · skip
                          exact c116 dt ch
                        · skip
                          refine g_lconst cx (v := 0) d_8_6_114 (by decide) ?_
                          exact m_lret cx d_8_6_115 rfl hm hs ⟨rfl, _, rfl⟩
                    · skip
                      refine g_iload cx 4 d_8_6_97 rfl ?_
                      refine g_iconst cx (v := 4) d_8_6_99 (by decide) ?_
                      refine g_icmp_eq cx d_8_6_100 rfl (fun c100 => ?_) (fun c100 => ?_)
                      · skip
                        refine g_lconst cx (v := 0) d_8_6_114 (by decide) ?_
                        exact m_lret cx d_8_6_115 rfl hm hs ⟨rfl, _, rfl⟩
                      · skip
                        refine g_iload cx 0 d_8_6_103 rfl ?_
                        refine g_if_eq cx d_8_6_105 rfl (fun c105 => ?_) (fun c105 => ?_)
                        · skip
                          exact c116 dt ch
                        · skip
                          refine g_iload cx 5 d_8_6_108 rfl ?_
                          refine g_iconst cx (v := 3) d_8_6_110 (by decide) ?_
                          refine g_icmp_ne cx d_8_6_111 rfl (fun c111 => ?_) (fun c111 => ?_)
                          · skip
                            exact c116 dt ch
                          · skip
                            refine g_lconst cx (v := 0) d_8_6_114 (by decide) ?_
                            exact m_lret cx d_8_6_115 rfl hm hs ⟨rfl, _, rfl⟩
                  · skip
                    refine g_iload cx 4 d_8_6_87 rfl ?_
                    refine g_if_eq cx d_8_6_89 rfl (fun c89 => ?_) (fun c89 => ?_)
                    · skip
                      refine g_lconst cx (v := 0) d_8_6_114 (by decide) ?_
                      exact m_lret cx d_8_6_115 rfl hm hs ⟨rfl, _, rfl⟩
                    · skip
                      refine g_iload cx 0 d_8_6_92 rfl ?_
                      refine g_if_ne cx d_8_6_94 rfl (fun c94 => ?_) (fun c94 => ?_)
                      · skip
                        refine g_iload cx 0 d_8_6_103 rfl ?_
                        refine g_if_eq cx d_8_6_105 rfl (fun c105 => ?_) (fun c105 => ?_)
                        · skip
                          exact c116 dt ch
                        · skip
                          refine g_iload cx 5 d_8_6_108 rfl ?_
                          refine g_iconst cx (v := 3) d_8_6_110 (by decide) ?_
                          refine g_icmp_ne cx d_8_6_111 rfl (fun c111 => ?_) (fun c111 => ?_)
                          · skip
                            exact c116 dt ch
                          · skip
                            refine g_lconst cx (v := 0) d_8_6_114 (by decide) ?_
                            exact m_lret cx d_8_6_115 rfl hm hs ⟨rfl, _, rfl⟩
                      · skip
                        refine g_iload cx 4 d_8_6_97 rfl ?_
                        refine g_iconst cx (v := 4) d_8_6_99 (by decide) ?_
                        refine g_icmp_eq cx d_8_6_100 rfl (fun c100 => ?_) (fun c100 => ?_)
                        · skip
                          refine g_lconst cx (v := 0) d_8_6_114 (by decide) ?_
                          exact m_lret cx d_8_6_115 rfl hm hs ⟨rfl, _, rfl⟩
                        · skip
                          refine g_iload cx 0 d_8_6_103 rfl ?_
                          refine g_if_eq cx d_8_6_105 rfl (fun c105 => ?_) (fun c105 => ?_)
                          · skip
                            exact c116 dt ch
                          · skip
                            refine g_iload cx 5 d_8_6_108 rfl ?_
                            refine g_iconst cx (v := 3) d_8_6_110 (by decide) ?_
                            refine g_icmp_ne cx d_8_6_111 rfl (fun c111 => ?_) (fun c111 => ?_)
                            · skip
                              exact c116 dt ch
                            · skip
                              refine g_lconst cx (v := 0) d_8_6_114 (by decide) ?_
                              exact m_lret cx d_8_6_115 rfl hm hs ⟨rfl, _, rfl⟩
          · skip
            refine g_iconst cx (v := 1) d_8_6_56 (by decide) ?_
            refine g_goto cx d_8_6_57 rfl ?_
            refine g_topi (fun dt edt => ?_)
            refine g_istore cx (lv' := [(9, .int dt), (8, .int ch), (7, .int (nI k)), (6, .int wv), (5, .int le), (4, .int wo), (2, .long V), (0, .ref am), (1, .int (nI i))]) d_8_6_61 (by decide) rfl ?_
            refine g_iload cx 0 d_8_6_63 rfl ?_
            refine g_if_ne cx d_8_6_65 rfl (fun c65 => ?_) (fun c65 => ?_)
            · skip
              refine g_iload cx 0 d_8_6_82 rfl ?_
              refine g_if_eq cx d_8_6_84 rfl (fun c84 => ?_) (fun c84 => ?_)
              · skip
                refine g_iload cx 0 d_8_6_92 rfl ?_
                refine g_if_ne cx d_8_6_94 rfl (fun c94 => ?_) (fun c94 => ?_)
                · skip
                  refine g_iload cx 0 d_8_6_103 rfl ?_
                  refine g_if_eq cx d_8_6_105 rfl (fun c105 => ?_) (fun c105 => ?_)
                  · skip
                    exact c116 dt ch
                  · skip
                    refine g_iload cx 5 d_8_6_108 rfl ?_
                    refine g_iconst cx (v := 3) d_8_6_110 (by decide) ?_
                    refine g_icmp_ne cx d_8_6_111 rfl (fun c111 => ?_) (fun c111 => ?_)
                    · skip
                      exact c116 dt ch
                    · skip
                      refine g_lconst cx (v := 0) d_8_6_114 (by decide) ?_
                      exact m_lret cx d_8_6_115 rfl hm hs ⟨rfl, _, rfl⟩
                · skip
                  refine g_iload cx 4 d_8_6_97 rfl ?_
                  refine g_iconst cx (v := 4) d_8_6_99 (by decide) ?_
                  refine g_icmp_eq cx d_8_6_100 rfl (fun c100 => ?_) (fun c100 => ?_)
                  · skip
                    refine g_lconst cx (v := 0) d_8_6_114 (by decide) ?_
                    exact m_lret cx d_8_6_115 rfl hm hs ⟨rfl, _, rfl⟩
                  · skip
                    refine g_iload cx 0 d_8_6_103 rfl ?_
                    refine g_if_eq cx d_8_6_105 rfl (fun c105 => ?_) (fun c105 => ?_)
                    · skip
                      exact c116 dt ch
                    · skip
                      refine g_iload cx 5 d_8_6_108 rfl ?_
                      refine g_iconst cx (v := 3) d_8_6_110 (by decide) ?_
                      refine g_icmp_ne cx d_8_6_111 rfl (fun c111 => ?_) (fun c111 => ?_)
                      · skip
                        exact c116 dt ch
                      · skip
                        refine g_lconst cx (v := 0) d_8_6_114 (by decide) ?_
                        exact m_lret cx d_8_6_115 rfl hm hs ⟨rfl, _, rfl⟩
              · skip
                refine g_iload cx 4 d_8_6_87 rfl ?_
                refine g_if_eq cx d_8_6_89 rfl (fun c89 => ?_) (fun c89 => ?_)
                · skip
                  refine g_lconst cx (v := 0) d_8_6_114 (by decide) ?_
                  exact m_lret cx d_8_6_115 rfl hm hs ⟨rfl, _, rfl⟩
                · skip
                  refine g_iload cx 0 d_8_6_92 rfl ?_
                  refine g_if_ne cx d_8_6_94 rfl (fun c94 => ?_) (fun c94 => ?_)
                  · skip
                    refine g_iload cx 0 d_8_6_103 rfl ?_
                    refine g_if_eq cx d_8_6_105 rfl (fun c105 => ?_) (fun c105 => ?_)
                    · skip
                      exact c116 dt ch
                    · skip
                      refine g_iload cx 5 d_8_6_108 rfl ?_
                      refine g_iconst cx (v := 3) d_8_6_110 (by decide) ?_
                      refine g_icmp_ne cx d_8_6_111 rfl (fun c111 => ?_) (fun c111 => ?_)
                      · skip
                        exact c116 dt ch
                      · skip
                        refine g_lconst cx (v := 0) d_8_6_114 (by decide) ?_
                        exact m_lret cx d_8_6_115 rfl hm hs ⟨rfl, _, rfl⟩
                  · skip
                    refine g_iload cx 4 d_8_6_97 rfl ?_
                    refine g_iconst cx (v := 4) d_8_6_99 (by decide) ?_
                    refine g_icmp_eq cx d_8_6_100 rfl (fun c100 => ?_) (fun c100 => ?_)
                    · skip
                      refine g_lconst cx (v := 0) d_8_6_114 (by decide) ?_
                      exact m_lret cx d_8_6_115 rfl hm hs ⟨rfl, _, rfl⟩
                    · skip
                      refine g_iload cx 0 d_8_6_103 rfl ?_
                      refine g_if_eq cx d_8_6_105 rfl (fun c105 => ?_) (fun c105 => ?_)
                      · skip
                        exact c116 dt ch
                      · skip
                        refine g_iload cx 5 d_8_6_108 rfl ?_
                        refine g_iconst cx (v := 3) d_8_6_110 (by decide) ?_
                        refine g_icmp_ne cx d_8_6_111 rfl (fun c111 => ?_) (fun c111 => ?_)
                        · skip
                          exact c116 dt ch
                        · skip
                          refine g_lconst cx (v := 0) d_8_6_114 (by decide) ?_
                          exact m_lret cx d_8_6_115 rfl hm hs ⟨rfl, _, rfl⟩
            · skip
              refine g_iload cx 1 d_8_6_68 rfl ?_
              refine g_bipush cx (v := 97) d_8_6_70 (by decide) ?_
              refine g_icmp_lt cx d_8_6_72 rfl (fun c72 => ?_) (fun c72 => ?_)
              · skip
                refine g_lconst cx (v := 0) d_8_6_114 (by decide) ?_
                exact m_lret cx d_8_6_115 rfl hm hs ⟨rfl, _, rfl⟩
              · skip
                refine g_iload cx 1 d_8_6_75 rfl ?_
                refine g_bipush cx (v := 122) d_8_6_77 (by decide) ?_
                refine g_icmp_gt cx d_8_6_79 rfl (fun c79 => ?_) (fun c79 => ?_)
                · skip
                  refine g_lconst cx (v := 0) d_8_6_114 (by decide) ?_
                  exact m_lret cx d_8_6_115 rfl hm hs ⟨rfl, _, rfl⟩
                · skip
                  refine g_iload cx 0 d_8_6_82 rfl ?_
                  refine g_if_eq cx d_8_6_84 rfl (fun c84 => ?_) (fun c84 => ?_)
                  · skip
                    refine g_iload cx 0 d_8_6_92 rfl ?_
                    refine g_if_ne cx d_8_6_94 rfl (fun c94 => ?_) (fun c94 => ?_)
                    · skip
                      refine g_iload cx 0 d_8_6_103 rfl ?_
                      refine g_if_eq cx d_8_6_105 rfl (fun c105 => ?_) (fun c105 => ?_)
                      · skip
                        exact c116 dt ch
                      · skip
                        refine g_iload cx 5 d_8_6_108 rfl ?_
                        refine g_iconst cx (v := 3) d_8_6_110 (by decide) ?_
                        refine g_icmp_ne cx d_8_6_111 rfl (fun c111 => ?_) (fun c111 => ?_)
                        · skip
                          exact c116 dt ch
                        · skip
                          refine g_lconst cx (v := 0) d_8_6_114 (by decide) ?_
                          exact m_lret cx d_8_6_115 rfl hm hs ⟨rfl, _, rfl⟩
                    · skip
                      refine g_iload cx 4 d_8_6_97 rfl ?_
                      refine g_iconst cx (v := 4) d_8_6_99 (by decide) ?_
                      refine g_icmp_eq cx d_8_6_100 rfl (fun c100 => ?_) (fun c100 => ?_)
                      · skip
                        refine g_lconst cx (v := 0) d_8_6_114 (by decide) ?_
                        exact m_lret cx d_8_6_115 rfl hm hs ⟨rfl, _, rfl⟩
                      · skip
                        refine g_iload cx 0 d_8_6_103 rfl ?_
                        refine g_if_eq cx d_8_6_105 rfl (fun c105 => ?_) (fun c105 => ?_)
                        · skip
                          exact c116 dt ch
                        · skip
                          refine g_iload cx 5 d_8_6_108 rfl ?_
                          refine g_iconst cx (v := 3) d_8_6_110 (by decide) ?_
                          refine g_icmp_ne cx d_8_6_111 rfl (fun c111 => ?_) (fun c111 => ?_)
                          · skip
                            exact c116 dt ch
                          · skip
                            refine g_lconst cx (v := 0) d_8_6_114 (by decide) ?_
                            exact m_lret cx d_8_6_115 rfl hm hs ⟨rfl, _, rfl⟩
                  · skip
                    refine g_iload cx 4 d_8_6_87 rfl ?_
                    refine g_if_eq cx d_8_6_89 rfl (fun c89 => ?_) (fun c89 => ?_)
                    · skip
                      refine g_lconst cx (v := 0) d_8_6_114 (by decide) ?_
                      exact m_lret cx d_8_6_115 rfl hm hs ⟨rfl, _, rfl⟩
                    · skip
                      refine g_iload cx 0 d_8_6_92 rfl ?_
                      refine g_if_ne cx d_8_6_94 rfl (fun c94 => ?_) (fun c94 => ?_)
                      · skip
                        refine g_iload cx 0 d_8_6_103 rfl ?_
                        refine g_if_eq cx d_8_6_105 rfl (fun c105 => ?_) (fun c105 => ?_)
                        · skip
                          exact c116 dt ch
                        · skip
                          refine g_iload cx 5 d_8_6_108 rfl ?_
                          refine g_iconst cx (v := 3) d_8_6_110 (by decide) ?_
                          refine g_icmp_ne cx d_8_6_111 rfl (fun c111 => ?_) (fun c111 => ?_)
                          · skip
                            exact c116 dt ch
                          · skip
                            refine g_lconst cx (v := 0) d_8_6_114 (by decide) ?_
                            exact m_lret cx d_8_6_115 rfl hm hs ⟨rfl, _, rfl⟩
                      · skip
                        refine g_iload cx 4 d_8_6_97 rfl ?_
                        refine g_iconst cx (v := 4) d_8_6_99 (by decide) ?_
                        refine g_icmp_eq cx d_8_6_100 rfl (fun c100 => ?_) (fun c100 => ?_)
                        · skip
                          refine g_lconst cx (v := 0) d_8_6_114 (by decide) ?_
                          exact m_lret cx d_8_6_115 rfl hm hs ⟨rfl, _, rfl⟩
                        · skip
                          refine g_iload cx 0 d_8_6_103 rfl ?_
                          refine g_if_eq cx d_8_6_105 rfl (fun c105 => ?_) (fun c105 => ?_)
                          · skip
                            exact c116 dt ch
                          · skip
                            refine g_iload cx 5 d_8_6_108 rfl ?_
                            refine g_iconst cx (v := 3) d_8_6_110 (by decide) ?_
                            refine g_icmp_ne cx d_8_6_111 rfl (fun c111 => ?_) (fun c111 => ?_)
                            · skip
                              exact c116 dt ch
                            · skip
                              refine g_lconst cx (v := 0) d_8_6_114 (by decide) ?_
                              exact m_lret cx d_8_6_115 rfl hm hs ⟨rfl, _, rfl⟩
    refine g_lconst cx (v := 0) d_8_6_10 (by decide) ?_
    refine g_topl (fun V eV => ?_)
    refine g_lstore_n cx (lv' := [(2, .long V), (0, .ref am), (1, .int (nI i))]) d_8_6_11 rfl (by decide) rfl ?_
    refine g_iconst cx (v := 1) d_8_6_12 (by decide) ?_
    refine g_topi (fun wo ewo => ?_)
    refine g_istore cx (lv' := [(4, .int wo), (2, .long V), (0, .ref am), (1, .int (nI i))]) d_8_6_13 (by decide) rfl ?_
    refine g_iconst cx (v := 0) d_8_6_15 (by decide) ?_
    refine g_topi (fun le ele => ?_)
    refine g_istore cx (lv' := [(5, .int le), (4, .int wo), (2, .long V), (0, .ref am), (1, .int (nI i))]) d_8_6_16 (by decide) rfl ?_
    refine g_iconst cx (v := 0) d_8_6_18 (by decide) ?_
    refine g_topi (fun wv ewv => ?_)
    refine g_istore cx (lv' := [(6, .int wv), (5, .int le), (4, .int wo), (2, .long V), (0, .ref am), (1, .int (nI i))]) d_8_6_19 (by decide) rfl ?_
    refine g_aload_n cx 4 d_8_6_21 rfl rfl ?_
    refine m_get cx (k := 4) d_8_6_22 t_902 ⟨by decide, rfl⟩ hm rfl ?_
    refine g_iload_n cx 5 d_8_6_25 rfl rfl ?_
    refine m_ld1 cx d_8_6_26 (by decide) hm rfl ⟨(show i < 15 from hi), by decide⟩ ?_
    refine g_topi (fun k0 ek0 => ?_)
    obtain rfl : k0 = nI (bg i) := ek0.trans p1
    refine g_istore cx (lv' := [(7, .int (nI (bg i))), (6, .int wv), (5, .int le), (4, .int wo), (2, .long V), (0, .ref am), (1, .int (nI i))]) d_8_6_27 (by decide) rfl ?_
    exact lp (en i + 1) (bg i) wv le wo V (by omega) (by omega) (by omega)
  · skip
    refine g_lconst cx (v := 0) d_8_6_8 (by decide) ?_
    exact m_lret cx d_8_6_9 rfl hm hs ⟨rfl, _, rfl⟩
set_option maxHeartbeats 4000000 in
theorem mc_wordOf (hSt : Stb z0 E) (hA : Ad am ad) (x : MS) (i pn : Nat) (bg en : Nat → Nat) (hp : PT x pn bg en) (hi : i < 15) : MC l y_164 prog_8_method_7_code 4 (Option.some Jvm.ClassFile.FieldType.int) 1 D z0 E am ad [.int (nI i)] x (fun r x' => x' = x ∧ ∃ v, r = some (.int v)) := by
  refine mc_of hSt rfl (Nat.le_of_ble_eq_true rfl) ?_
  intro h0 h p e s m args below meth c cx hm hs
  refine g_aload_n cx 0 d_8_7_0 rfl rfl ?_
  refine g_iload_n cx 1 d_8_7_1 rfl rfl ?_
  refine m_call 1 cx (As := [.int (nI i)]) (n := 1) (mc_nameOf hSt hA x i pn bg en hp hi) d_8_7_2 t_1025 t_1027 ts_32 t_1028 rfl ⟨rfl, by decide +kernel⟩ rfl ⟨by decide, by decide⟩ (Nat.le_of_ble_eq_true rfl) hm hs (fun v2 x2 h hm hs r2 => ?_)
  obtain ⟨e2, V, rfl⟩ := r2
  rw [e2] at hm
  refine g_topl (fun V1 eV1 => ?_)
  refine g_lstore_n cx (lv' := [(2, .long V1), (0, .ref am), (1, .int (nI i))]) d_8_7_5 rfl (by decide) rfl ?_
  refine g_lload_n cx 0 d_8_7_6 rfl rfl ?_
  refine g_ldc2 cx d_8_7_7 t_1029 ?_
  refine g_land cx d_8_7_10 ?_
  refine g_lconst cx (v := 0) d_8_7_11 (by decide) ?_
  refine g_lcmp cx d_8_7_12 ?_
  refine g_if_ne cx d_8_7_13 rfl (fun c13 => ?_) (fun c13 => ?_)
  · skip
    refine g_iconst cx (v := 0) d_8_7_24 (by decide) ?_
    exact m_iret cx d_8_7_25 rfl rfl hm hs ⟨rfl, _, rfl⟩
  · skip
    refine g_lload_n cx 0 d_8_7_16 rfl rfl ?_
    refine g_bipush cx (v := 40) d_8_7_17 (by decide) ?_
    refine g_lshr cx d_8_7_19 ?_
    refine g_l2i cx d_8_7_20 ?_
    refine g_goto cx d_8_7_21 rfl ?_
    exact m_iret cx d_8_7_25 rfl rfl hm hs ⟨rfl, _, rfl⟩
set_option maxHeartbeats 4000000 in
theorem mc_split (hSt : Stb z0 E) (hA : Ad am ad) (x : MS) (w : Nat) (hw : x.1 2 = nI w) (hwl : w ≤ 30) : MC l y_159 prog_8_method_5_code 2 (Option.none) 0 D z0 E am ad [] x (fun r x' => r = none ∧ ∃ pn bg en, PT x' pn bg en ∧ x'.1 2 = nI 0 ∧ Fx [2, 3] [4, 5] [] x x') := by
  refine mc_of hSt rfl (Nat.le_of_ble_eq_true rfl) ?_
  intro h0 h p e s m args below meth c cx hm hs
  have hx : ∀ (pn : Nat) (bg en : Nat → Nat) (y : MS) (h : hp) (hm : Mo D am ad y h) (hs : Sm am ad h0 h) (hpt : PT y pn bg en) (hf : Fx [2, 3] [4, 5] [] x y) (hw2 : y.1 2 = nI w), G p l e (rmL 0) s m args below meth c 2 D z0 E (MQp D am ad h0 (fun r x' => r = none ∧ ∃ pn bg en, PT x' pn bg en ∧ x'.1 2 = nI 0 ∧ Fx [2, 3] [4, 5] [] x x')) 0 0 7 [(1, .int (nI w)), (0, .ref am)] [] h 0 0 := by
    intro pn bg en y h hm hs hpt hf hw2
    refine g_iload_n cx 0 d_8_5_7 rfl rfl ?_
    refine g_aload_n cx 1 d_8_5_8 rfl rfl ?_
    refine m_get cx (k := 2) d_8_5_9 t_900 ⟨by decide, rfl⟩ hm rfl ?_
    refine g_icmp_ge cx d_8_5_12 rfl (fun c12 => ?_) (fun c12 => absurd (by show y.1 2 ≤ nI w; rw [hw2]; exact nI_le (Nat.le_refl _) (by omega)) c12)
    refine g_aload_n cx 1 d_8_5_106 rfl rfl ?_
    refine g_iconst cx (v := 0) d_8_5_107 (by decide) ?_
    refine m_put cx (k := 2) hA d_8_5_108 t_900 ⟨by decide, rfl, rfl, rfl, by decide +kernel⟩ hm hs (fun h hm hs => ?_)
    exact m_vret cx d_8_5_111 rfl hm hs ⟨rfl, pn, bg, en, hpt, rfl, hf.i (by decide)⟩
  have lp : ∀ (n k : Nat) (pn : Nat) (bg en : Nat → Nat) (y : MS) (h : hp) (hm : Mo D am ad y h) (hs : Sm am ad h0 h) (hpt : PT y pn bg en) (hf : Fx [2, 3] [4, 5] [] x y) (hw2 : y.1 2 = nI w), k ≤ w → (2 * pn ≤ k ∨ (2 * pn ≤ k + 1 ∧ (k = w ∨ x.2.1 1 k = 32))) → w - k < n → G p l e (rmL 0) s m args below meth c 2 D z0 E (MQp D am ad h0 (fun r x' => r = none ∧ ∃ pn bg en, PT x' pn bg en ∧ x'.1 2 = nI 0 ∧ Fx [2, 3] [4, 5] [] x x')) 0 0 7 [(1, .int (nI k)), (0, .ref am)] [] h 0 0 := by
    intro n
    induction n with
    | zero => intro k pn bg en y h hm hs hpt hf hw2 hkw hv hn; exact absurd hn (Nat.not_lt_zero _)
    | succ n ih =>
      intro k pn bg en y h hm hs hpt hf hw2 hkw hv hn
      have l2 : ∀ (n2 k2 k0 : Nat) (pn : Nat) (bg en : Nat → Nat) (y : MS) (h : hp) (hm : Mo D am ad y h) (hs : Sm am ad h0 h) (hpt : PT y pn bg en) (hf : Fx [2, 3] [4, 5] [] x y) (hw2 : y.1 2 = nI w), y.2.1 4 pn = nI k0 → pn < 15 → 2 * pn ≤ k0 → k ≤ k0 → k0 ≤ k2 → k2 ≤ w → (k0 < k2 ∨ (k2 = k0 ∧ k0 < w ∧ ¬ x.2.1 1 k0 = 32)) → w - k2 < n2 → G p l e (rmL 0) s m args below meth c 2 D z0 E (MQp D am ad h0 (fun r x' => r = none ∧ ∃ pn bg en, PT x' pn bg en ∧ x'.1 2 = nI 0 ∧ Fx [2, 3] [4, 5] [] x x')) 0 0 58 [(1, .int (nI k2)), (0, .ref am)] [] h 0 0 := by
        intro n2
        induction n2 with
        | zero => intro k2 k0 pn bg en y h hm hs hpt hf hw2 hb0 hpn h2p hkk hk02 hk2w hd hn2; exact absurd hn2 (Nat.not_lt_zero _)
        | succ n2 ih2 =>
          intro k2 k0 pn bg en y h hm hs hpt hf hw2 hb0 hpn h2p hkk hk02 hk2w hd hn2
          refine g_iload_n cx 0 d_8_5_58 rfl rfl ?_
          refine g_aload_n cx 1 d_8_5_59 rfl rfl ?_
          refine m_get cx (k := 2) d_8_5_60 t_900 ⟨by decide, rfl⟩ hm rfl ?_
          refine g_icmp_ge cx d_8_5_63 rfl (fun c63 => ?_) (fun c63 => ?_)
          · skip
            have hex : k2 = w ∨ x.2.1 1 k2 = 32 := by
              first
                | exact Or.inr (by rw [← hf.2.1 1 (by decide)]; exact c74)
                | exact Or.inl (Nat.le_antisymm hk2w (Nat.le_of_not_lt (fun q => absurd c63 (by show ¬ y.1 2 ≤ nI k2; rw [hw2]; exact nI_ge q (by omega)))))
            have hk02' : k0 < k2 := by
              rcases hd with q | ⟨q1, q2, q3⟩
              · exact q
              · rcases hex with q4 | q4
                · omega
                · exact absurd (q1 ▸ q4) q3
            refine g_aload_n cx 1 d_8_5_83 rfl rfl ?_
            refine m_get cx (k := 5) d_8_5_84 t_903 ⟨by decide, rfl⟩ hm rfl ?_
            refine g_aload_n cx 1 d_8_5_87 rfl rfl ?_
            refine m_get cx (k := 3) d_8_5_88 t_901 ⟨by decide, rfl⟩ hm rfl ?_
            refine g_iload_n cx 0 d_8_5_91 rfl rfl ?_
            refine m_st1 cx hA d_8_5_92 (by decide) hm hs hpt.1 ⟨(show pn < 15 from hpn), by decide⟩ (fun h hm hs => ?_)
            refine g_aload_n cx 1 d_8_5_93 rfl rfl ?_
            refine g_dup cx d_8_5_94 rfl ?_
            refine m_get cx (k := 3) d_8_5_95 t_901 ⟨by decide, rfl⟩ hm rfl ?_
            refine g_iconst cx (v := 1) d_8_5_98 (by decide) ?_
            refine g_iadd cx d_8_5_99 ?_
            refine g_topi (fun q1 eq1 => ?_)
            obtain rfl : q1 = nI (pn + 1) := eq1.trans (by show y.1 3 + 1 = _; rw [hpt.1, nI_1])
            refine m_put cx (k := 3) hA d_8_5_100 t_901 ⟨by decide, rfl, rfl, rfl, by decide +kernel⟩ hm hs (fun h hm hs => ?_)
            refine g_goto cx d_8_5_103 rfl ?_
            exact ih k2 (pn + 1) _ _ _ h hm hs (PT.add hpt hb0 hk02' (by omega) hpn) ((hf.a (by decide)).i (by decide)) hw2 hk2w (Or.inr ⟨by omega, hex⟩) (by omega)
          · skip
            have hk2 : k2 < w := Nat.lt_of_not_le (fun q => c63 (by show y.1 2 ≤ nI k2; rw [hw2]; exact nI_le q (by omega)))
            refine g_aload_n cx 1 d_8_5_66 rfl rfl ?_
            refine m_get cx (k := 1) d_8_5_67 t_899 ⟨by decide, rfl⟩ hm rfl ?_
            refine g_iload_n cx 0 d_8_5_70 rfl rfl ?_
            refine m_ld2 cx d_8_5_71 (by decide) hm rfl ⟨(show k2 < 30 by omega), by decide⟩ ?_
            refine g_bipush cx (v := 32) d_8_5_72 (by decide) ?_
            refine g_icmp_eq cx d_8_5_74 rfl (fun c74 => ?_) (fun c74 => ?_)
            · skip
              have hex : k2 = w ∨ x.2.1 1 k2 = 32 := by
                first
                  | exact Or.inr (by rw [← hf.2.1 1 (by decide)]; exact c74)
                  | exact Or.inl (Nat.le_antisymm hk2w (Nat.le_of_not_lt (fun q => absurd c63 (by show ¬ y.1 2 ≤ nI k2; rw [hw2]; exact nI_ge q (by omega)))))
              have hk02' : k0 < k2 := by
                rcases hd with q | ⟨q1, q2, q3⟩
                · exact q
                · rcases hex with q4 | q4
                  · omega
                  · exact absurd (q1 ▸ q4) q3
              refine g_aload_n cx 1 d_8_5_83 rfl rfl ?_
              refine m_get cx (k := 5) d_8_5_84 t_903 ⟨by decide, rfl⟩ hm rfl ?_
              refine g_aload_n cx 1 d_8_5_87 rfl rfl ?_
              refine m_get cx (k := 3) d_8_5_88 t_901 ⟨by decide, rfl⟩ hm rfl ?_
              refine g_iload_n cx 0 d_8_5_91 rfl rfl ?_
              refine m_st1 cx hA d_8_5_92 (by decide) hm hs hpt.1 ⟨(show pn < 15 from hpn), by decide⟩ (fun h hm hs => ?_)
              refine g_aload_n cx 1 d_8_5_93 rfl rfl ?_
              refine g_dup cx d_8_5_94 rfl ?_
              refine m_get cx (k := 3) d_8_5_95 t_901 ⟨by decide, rfl⟩ hm rfl ?_
              refine g_iconst cx (v := 1) d_8_5_98 (by decide) ?_
              refine g_iadd cx d_8_5_99 ?_
              refine g_topi (fun q1 eq1 => ?_)
              obtain rfl : q1 = nI (pn + 1) := eq1.trans (by show y.1 3 + 1 = _; rw [hpt.1, nI_1])
              refine m_put cx (k := 3) hA d_8_5_100 t_901 ⟨by decide, rfl, rfl, rfl, by decide +kernel⟩ hm hs (fun h hm hs => ?_)
              refine g_goto cx d_8_5_103 rfl ?_
              exact ih k2 (pn + 1) _ _ _ h hm hs (PT.add hpt hb0 hk02' (by omega) hpn) ((hf.a (by decide)).i (by decide)) hw2 hk2w (Or.inr ⟨by omega, hex⟩) (by omega)
            · skip
              refine g_iinc cx 0 (lv' := [(1, .int (nI (k2 + 1))), (0, .ref am)]) d_8_5_77 rfl (inc1 k2) (by decide) rfl ?_
              refine g_goto cx d_8_5_80 rfl ?_
              exact ih2 (k2 + 1) k0 pn bg en y h hm hs hpt hf hw2 hb0 hpn h2p hkk (by omega) (by omega) (Or.inl (by omega)) (by omega)
      have l1 : ∀ (n1 k1 : Nat), k ≤ k1 → k1 ≤ w → (2 * pn ≤ k1 ∨ (2 * pn ≤ k1 + 1 ∧ (k1 = w ∨ x.2.1 1 k1 = 32))) → w - k1 < n1 → G p l e (rmL 0) s m args below meth c 2 D z0 E (MQp D am ad h0 (fun r x' => r = none ∧ ∃ pn bg en, PT x' pn bg en ∧ x'.1 2 = nI 0 ∧ Fx [2, 3] [4, 5] [] x x')) 0 0 15 [(1, .int (nI k1)), (0, .ref am)] [] h 0 0 := by
        intro n1
        induction n1 with
        | zero => intro k1 hkk hk1w hv1 hn1; exact absurd hn1 (Nat.not_lt_zero _)
        | succ n1 ih1 =>
          intro k1 hkk hk1w hv1 hn1
          refine g_iload_n cx 0 d_8_5_15 rfl rfl ?_
          refine g_aload_n cx 1 d_8_5_16 rfl rfl ?_
          refine m_get cx (k := 2) d_8_5_17 t_900 ⟨by decide, rfl⟩ hm rfl ?_
          refine g_icmp_ge cx d_8_5_20 rfl (fun c20 => ?_) (fun c20 => ?_)
          · skip
            refine g_iload_n cx 0 d_8_5_40 rfl rfl ?_
            refine g_aload_n cx 1 d_8_5_41 rfl rfl ?_
            refine m_get cx (k := 2) d_8_5_42 t_900 ⟨by decide, rfl⟩ hm rfl ?_
            refine g_icmp_ge cx d_8_5_45 rfl (fun c45 => (by
                obtain rfl : k1 = w := Nat.le_antisymm hk1w (Nat.le_of_not_lt (fun q => absurd c45 (by show ¬ y.1 2 ≤ nI k1; rw [hw2]; exact nI_ge q (by omega))))
                exact hx pn bg en y h hm hs hpt hf hw2)) (fun c45 => ?_)
            have hk1' : k1 < w := Nat.lt_of_not_le (fun q => c45 (by show y.1 2 ≤ nI k1; rw [hw2]; exact nI_le q (by omega)))
            have ht1 : ¬ x.2.1 1 k1 = 32 := by
              first
                | exact fun q => c31 (by show y.2.1 1 k1 = 32; rw [hf.2.1 1 (by decide)]; exact q)
                | exact absurd c20 c45
            have h2p : 2 * pn ≤ k1 := by
              rcases hv1 with q | ⟨q1, q2 | q2⟩
              · exact q
              · omega
              · exact absurd q2 ht1
            refine g_aload_n cx 1 d_8_5_48 rfl rfl ?_
            refine m_get cx (k := 4) d_8_5_49 t_902 ⟨by decide, rfl⟩ hm rfl ?_
            refine g_aload_n cx 1 d_8_5_52 rfl rfl ?_
            refine m_get cx (k := 3) d_8_5_53 t_901 ⟨by decide, rfl⟩ hm rfl ?_
            refine g_iload_n cx 0 d_8_5_56 rfl rfl ?_
            refine m_st1 cx hA d_8_5_57 (by decide) hm hs hpt.1 ⟨(show pn < 15 by omega), by decide⟩ (fun h hm hs => ?_)
            exact l2 (w - k1 + 1) k1 k1 pn bg en _ h hm hs hpt.begin (hf.a (by decide)) hw2 pk_us (by omega) h2p hkk (Nat.le_refl _) hk1w (Or.inr ⟨rfl, hk1', ht1⟩) (by omega)
          · skip
            have hk1 : k1 < w := Nat.lt_of_not_le (fun q => c20 (by show y.1 2 ≤ nI k1; rw [hw2]; exact nI_le q (by omega)))
            refine g_aload_n cx 1 d_8_5_23 rfl rfl ?_
            refine m_get cx (k := 1) d_8_5_24 t_899 ⟨by decide, rfl⟩ hm rfl ?_
            refine g_iload_n cx 0 d_8_5_27 rfl rfl ?_
            refine m_ld2 cx d_8_5_28 (by decide) hm rfl ⟨(show k1 < 30 by omega), by decide⟩ ?_
            refine g_bipush cx (v := 32) d_8_5_29 (by decide) ?_
            refine g_icmp_ne cx d_8_5_31 rfl (fun c31 => ?_) (fun c31 => ?_)
            · skip
              refine g_iload_n cx 0 d_8_5_40 rfl rfl ?_
              refine g_aload_n cx 1 d_8_5_41 rfl rfl ?_
              refine m_get cx (k := 2) d_8_5_42 t_900 ⟨by decide, rfl⟩ hm rfl ?_
              refine g_icmp_ge cx d_8_5_45 rfl (fun c45 => (by
                  obtain rfl : k1 = w := Nat.le_antisymm hk1w (Nat.le_of_not_lt (fun q => absurd c45 (by show ¬ y.1 2 ≤ nI k1; rw [hw2]; exact nI_ge q (by omega))))
                  exact hx pn bg en y h hm hs hpt hf hw2)) (fun c45 => ?_)
              have hk1' : k1 < w := Nat.lt_of_not_le (fun q => c45 (by show y.1 2 ≤ nI k1; rw [hw2]; exact nI_le q (by omega)))
              have ht1 : ¬ x.2.1 1 k1 = 32 := by
                first
                  | exact fun q => c31 (by show y.2.1 1 k1 = 32; rw [hf.2.1 1 (by decide)]; exact q)
                  | exact absurd c20 c45
              have h2p : 2 * pn ≤ k1 := by
                rcases hv1 with q | ⟨q1, q2 | q2⟩
                · exact q
                · omega
                · exact absurd q2 ht1
              refine g_aload_n cx 1 d_8_5_48 rfl rfl ?_
              refine m_get cx (k := 4) d_8_5_49 t_902 ⟨by decide, rfl⟩ hm rfl ?_
              refine g_aload_n cx 1 d_8_5_52 rfl rfl ?_
              refine m_get cx (k := 3) d_8_5_53 t_901 ⟨by decide, rfl⟩ hm rfl ?_
              refine g_iload_n cx 0 d_8_5_56 rfl rfl ?_
              refine m_st1 cx hA d_8_5_57 (by decide) hm hs hpt.1 ⟨(show pn < 15 by omega), by decide⟩ (fun h hm hs => ?_)
              exact l2 (w - k1 + 1) k1 k1 pn bg en _ h hm hs hpt.begin (hf.a (by decide)) hw2 pk_us (by omega) h2p hkk (Nat.le_refl _) hk1w (Or.inr ⟨rfl, hk1', ht1⟩) (by omega)
            · skip
              refine g_iinc cx 0 (lv' := [(1, .int (nI (k1 + 1))), (0, .ref am)]) d_8_5_34 rfl (inc1 k1) (by decide) rfl ?_
              refine g_goto cx d_8_5_37 rfl ?_
              exact ih1 (k1 + 1) (by omega) (by omega) (Or.inl (by rcases hv1 with q | q <;> omega)) (by omega)
      refine g_iload_n cx 0 d_8_5_7 rfl rfl ?_
      refine g_aload_n cx 1 d_8_5_8 rfl rfl ?_
      refine m_get cx (k := 2) d_8_5_9 t_900 ⟨by decide, rfl⟩ hm rfl ?_
      refine g_icmp_ge cx d_8_5_12 rfl (fun c12 => ?_) (fun c12 => ?_)
      · skip
        refine g_aload_n cx 1 d_8_5_106 rfl rfl ?_
        refine g_iconst cx (v := 0) d_8_5_107 (by decide) ?_
        refine m_put cx (k := 2) hA d_8_5_108 t_900 ⟨by decide, rfl, rfl, rfl, by decide +kernel⟩ hm hs (fun h hm hs => ?_)
        exact m_vret cx d_8_5_111 rfl hm hs ⟨rfl, pn, bg, en, hpt, rfl, hf.i (by decide)⟩
      · skip
        exact l1 (w - k + 1) k (Nat.le_refl _) hkw hv (by omega)
  refine g_aload_n cx 0 d_8_5_0 rfl rfl ?_
  refine g_iconst cx (v := 0) d_8_5_1 (by decide) ?_
  refine m_put cx (k := 3) hA d_8_5_2 t_901 ⟨by decide, rfl, rfl, rfl, by decide +kernel⟩ hm hs (fun h hm hs => ?_)
  refine g_iconst cx (v := 0) d_8_5_5 (by decide) ?_
  refine g_topi (fun k0 ek0 => ?_)
  obtain rfl : k0 = nI 0 := ek0
  refine g_istore_n cx (lv' := [(1, .int (nI 0)), (0, .ref am)]) d_8_5_6 rfl (by decide) rfl ?_
  exact lp (w + 1) 0 0 (fun _ => 0) (fun _ => 0) _ h hm hs ⟨rfl, by omega, fun i hi => absurd hi (Nat.not_lt_zero _)⟩ (Fx.rf.i (by decide)) hw (by omega) (Or.inl (by omega)) (by omega)
end M4
