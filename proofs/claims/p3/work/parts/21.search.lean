/-! search and look of the reference. -/
section M10
variable {l : Launch} {D : va_G} {z0 : Nat} {E : State → Prop} {am : Nat} {ad : Nat → Nat}
set_option maxHeartbeats 4000000 in
theorem mc_search (hSt : Stb z0 E) (hA : Ad am ad) (x : MS) (q0 : Nat) (nv : Int64) (a r : Nat) (nm ld im kp : Nat → Nat) (mn : Nat) (hM : MI x a r nm ld im kp mn) (hq0 : q0 < r) (hmn : mn ≤ 1000) (hno : ∀ j, j < kp q0 → x.2.2 21 (36 * q0 + j) ≠ nv) : MC l y_179 prog_8_method_34_code 7 (Option.some Jvm.ClassFile.FieldType.int) 4 D z0 E am ad [.int (nI q0), .long nv] x (fun r x' => (∃ v, r = some (.int v)) ∧ MIx x' ∧ KpR x x') := by
  refine mc_of hSt rfl (Nat.le_of_ble_eq_true rfl) ?_
  intro h0 h p e s m args below meth c cx hm hs
  obtain ⟨hIA, hIR, hNm, hLd, hLo, hIm, hFr, hPa, hKp, hMn⟩ := id hM
  have l3 : ∀ (op w : Nat) (sf : Nat → Nat) (hw : w < 128) (hnv : ∃ b t, b < 6 ∧ t < nm b ∧ nv = x.2.2 10 (6 * b + t)) (hop : op ≤ 8) (hdis : ∀ i k, i < k → k < op → sf k ≠ sf i) (n j : Nat) (y : MS) (h : hp) (hm : Mo D am ad y h) (hs : Sm am ad h0 h) (kq : Nat → Nat) (mk : Nat) (hMy : MI y a r nm ld im kq mk) (hwy : KpR x y) (h24 : y.1 24 = nI op) (hst : ∀ k, k < op → y.2.1 26 k = nI (sf k) ∧ sf k < r) (hny : y.2.2 10 = x.2.2 10) (hfr : ∀ k, j ≤ k → k < op → ∀ i, i < kq (sf k) → y.2.2 21 (36 * sf k + i) ≠ nv), j ≤ op → op - j < n → G p l e (rmL 4) s m args below meth c 7 D z0 E (MQp D am ad h0 (fun r x' => (∃ v, r = some (.int v)) ∧ MIx x' ∧ KpR x x')) 0 0 155 [(5, .int (nI j)), (4, .int (nI w)), (0, .ref am), (1, .int (nI q0)), (2, .long nv)] [] h 0 0 := by
    intro op w sf hw hnv hop hdis n
    induction n with
    | zero => intro j y h hm hs kq mk hMy hwy h24 hst hny hfr hj0 hn; exact absurd hn (Nat.not_lt_zero _)
    | succ n ih =>
      intro j y h hm hs kq mk hMy hwy h24 hst hny hfr hj0 hn
      refine g_iload cx 0 d_8_34_155 rfl ?_
      refine g_aload_n cx 2 d_8_34_157 rfl rfl ?_
      refine m_get cx (k := 24) d_8_34_158 t_922 ⟨by decide, rfl⟩ hm rfl ?_
      refine g_icmp_ge cx d_8_34_161 rfl (fun c161 => ?_) (fun c161 => ?_)
      · skip
        refine g_iload cx 1 d_8_34_229 rfl ?_
        exact m_iret cx d_8_34_231 rfl rfl hm hs ⟨⟨_, rfl⟩, MIx.of hMy, hwy⟩
      · skip
        have hj : j < op := Nat.lt_of_not_le (fun z => c161 (by show y.1 24 ≤ nI j; rw [h24]; exact nI_le z (by omega)))
        obtain ⟨e26, hsr⟩ := hst j hj
        have hs8 : sf j < 8 := by have := hMy.2.1.2; omega
        obtain ⟨yA, yR, yNm, yLd, yLo, yIm, yFr, yPa, yKp, yMn⟩ := id hMy
        obtain ⟨b, t, hb, ht, hbt⟩ := hnv
        have hbt' : nv = y.2.2 10 (6 * b + t) := by rw [hny]; exact hbt
        have hr36 : kq (sf j) < 36 := yKp.room yNm hs8 hb ht hbt' (hfr j (Nat.le_refl _) hj)
        have e18 := (yKp (sf j) hs8).1
        have hix : 36 * nI (sf j) + y.2.1 18 (sf j) = nI (36 * sf j + kq (sf j)) := by rw [e18, show (36 : Int32) = nI 36 from rfl, pk_mul, nI_add]
        refine g_aload_n cx 2 d_8_34_164 rfl rfl ?_
        refine m_get cx (k := 26) d_8_34_165 t_924 ⟨by decide, rfl⟩ hm rfl ?_
        refine g_iload cx 0 d_8_34_168 rfl ?_
        refine m_ld1 cx d_8_34_170 (by decide) hm rfl ⟨(show j < 8 by omega), by decide⟩ ?_
        refine g_topi (fun q6 eq6 => ?_)
        obtain rfl : q6 = nI (sf j) := eq6.trans e26
        refine g_istore cx (lv' := [(6, .int (nI (sf j))), (5, .int (nI j)), (4, .int (nI w)), (0, .ref am), (1, .int (nI q0)), (2, .long nv)]) d_8_34_171 (by decide) rfl ?_
        refine g_aload_n cx 3 d_8_34_173 rfl rfl ?_
        refine m_get cx (k := 21) d_8_34_174 t_919 ⟨by decide, rfl⟩ hm rfl ?_
        refine g_bipush cx (v := 36) d_8_34_177 (by decide) ?_
        refine g_iload cx 0 d_8_34_179 rfl ?_
        refine g_imul cx d_8_34_181 ?_
        refine g_aload_n cx 3 d_8_34_182 rfl rfl ?_
        refine m_get cx (k := 18) d_8_34_183 t_916 ⟨by decide, rfl⟩ hm rfl ?_
        refine g_iload cx 0 d_8_34_186 rfl ?_
        refine m_ld1 cx d_8_34_188 (by decide) hm rfl ⟨(show sf j < 8 from hs8), by decide⟩ ?_
        refine g_iadd cx d_8_34_189 ?_
        refine g_lload_n cx 5 d_8_34_190 rfl rfl ?_
        refine m_st3 cx hA d_8_34_191 (by decide) hm hs hix ⟨(show 36 * sf j + kq (sf j) < 288 by omega), by decide⟩ (fun h hm hs => ?_)
        refine g_aload_n cx 3 d_8_34_192 rfl rfl ?_
        refine m_get cx (k := 19) d_8_34_193 t_917 ⟨by decide, rfl⟩ hm rfl ?_
        refine g_bipush cx (v := 36) d_8_34_196 (by decide) ?_
        refine g_iload cx 0 d_8_34_198 rfl ?_
        refine g_imul cx d_8_34_200 ?_
        refine g_aload_n cx 3 d_8_34_201 rfl rfl ?_
        refine m_get cx (k := 18) d_8_34_202 t_916 ⟨by decide, rfl⟩ hm rfl ?_
        refine g_iload cx 0 d_8_34_205 rfl ?_
        refine m_ld1 cx d_8_34_207 (by decide) hm rfl ⟨(show sf j < 8 from hs8), by decide⟩ ?_
        refine g_iadd cx d_8_34_208 ?_
        refine g_iload cx 2 d_8_34_209 rfl ?_
        refine m_st1 cx hA d_8_34_211 (by decide) hm hs hix ⟨(show 36 * sf j + kq (sf j) < 288 by omega), by decide⟩ (fun h hm hs => ?_)
        refine g_aload_n cx 3 d_8_34_212 rfl rfl ?_
        refine m_get cx (k := 18) d_8_34_213 t_916 ⟨by decide, rfl⟩ hm rfl ?_
        refine g_iload cx 0 d_8_34_216 rfl ?_
        refine g_dup2_11 cx d_8_34_218 rfl rfl ?_
        refine m_ld1 cx d_8_34_219 (by decide) hm rfl ⟨(show sf j < 8 from hs8), by decide⟩ ?_
        refine g_iconst cx (v := 1) d_8_34_220 (by decide) ?_
        refine g_iadd cx d_8_34_221 ?_
        refine m_st1 cx hA d_8_34_222 (by decide) hm hs rfl ⟨(show sf j < 8 from hs8), by decide⟩ (fun h hm hs => ?_)
        have hMz : MI (seta (seta (setl y 21 (36 * sf j + kq (sf j)) nv) 19 (36 * sf j + kq (sf j)) (nI w)) 18 (sf j) (y.2.1 18 (sf j) + 1)) a r nm ld im (fun i => if i = sf j then kq (sf j) + 1 else kq i) mk := ⟨yA, yR, yNm, yLd, yLo, yIm, yFr, yPa, yKp.keep yNm hs8 hr36 hb ht hbt' (hfr j (Nat.le_refl _) hj) hw (by rw [e18, nI_1]), yMn⟩
        have hfz : ∀ k, j + 1 ≤ k → k < op → ∀ i, i < (if sf k = sf j then kq (sf j) + 1 else kq (sf k)) → vp_updL (y.2.2 21) (36 * sf j + kq (sf j)) nv (36 * sf k + i) ≠ nv := by
          intro k hk1 hk2 i hi
          have hne : sf k ≠ sf j := hdis j k (by omega) hk2
          rw [if_neg hne] at hi
          have hks : sf k < 8 := by have := (hst k hk2).2; have := hMy.2.1.2; omega
          have hil := yKp.le yNm hks
          rw [pk_uLn (show 36 * sf k + i ≠ 36 * sf j + kq (sf j) by omega)]
          exact hfr k (by omega) hk2 i hi
        refine g_iinc cx 1 (lv' := [(5, .int (nI (j + 1))), (6, .int (nI (sf j))), (4, .int (nI w)), (0, .ref am), (1, .int (nI q0)), (2, .long nv)]) d_8_34_223 rfl (inc1 j) (by decide) rfl ?_
        refine g_goto cx d_8_34_226 rfl ?_
        refine g_loc (lv' := [(5, .int (nI (j + 1))), (4, .int (nI w)), (0, .ref am), (1, .int (nI q0)), (2, .long nv)]) [0, 2, 3, 4, 5] rfl ?_
        exact ih (j + 1) _ h hm hs (fun i => if i = sf j then kq (sf j) + 1 else kq i) mk hMz hwy h24 hst hny hfz (by omega) (by omega)
  have x0 : ∀ (y : MS) (h : hp) (hm : Mo D am ad y h) (hs : Sm am ad h0 h) (op mk : Nat) (sf tf : Nat → Nat) (hSI : SI x y op mk sf tf nv kp r) (at1 : Int32) (hop0 : op = 0) (hmk : mk < 2 ^ 20), G p l e (rmL 4) s m args below meth c 7 D z0 E (MQp D am ad h0 (fun r x' => (∃ v, r = some (.int v)) ∧ MIx x' ∧ KpR x x')) 0 0 152 [(4, .int at1), (0, .ref am), (1, .int (nI q0)), (2, .long nv)] [] h 0 0 := by
    intro y h hm hs op mk sf tf hSI at1 hop0 hmk
    have hMy : MI y a r nm ld im kp mk := by
      obtain ⟨f1, f2, f3⟩ := hSI.1
      refine ⟨⟨(f1 6 (by decide)).trans hIA.1, hIA.2⟩, ⟨(f1 11 (by decide)).trans hIR.1, hIR.2⟩, ?_, ?_, ?_, ?_, ?_, ?_, ?_, ⟨hSI.2.2.1, by omega⟩⟩
      · rw [INm, f2 8 (by decide)]; exact hNm
      · rw [ILd, f2 13 (by decide)]; exact hLd
      · rw [ILo, f2 14 (by decide)]; exact hLo
      · rw [IIm, f2 15 (by decide)]; exact hIm
      · rw [IFr, f2 16 (by decide)]; exact hFr
      · rw [IPa, f2 17 (by decide)]; exact hPa
      · rw [IKp, f2 18 (by decide), f2 19 (by decide), f3 21 (by decide), f3 10 (by decide)]; exact hKp
    refine g_iconst cx (v := 0) d_8_34_152 (by decide) ?_
    refine g_topi (fun k0 ek0 => ?_)
    refine g_istore cx (lv' := [(5, .int k0), (4, .int at1), (0, .ref am), (1, .int (nI q0)), (2, .long nv)]) d_8_34_153 (by decide) rfl ?_
    refine g_iload cx 0 d_8_34_155 rfl ?_
    refine g_aload_n cx 2 d_8_34_157 rfl rfl ?_
    refine m_get cx (k := 24) d_8_34_158 t_922 ⟨by decide, rfl⟩ hm rfl ?_
    refine g_icmp_ge cx d_8_34_161 rfl (fun c161 => ?_) (fun c161 => absurd (by show y.1 24 ≤ k0; rw [hSI.2.1, hop0, ek0]; decide) c161)
    refine g_iload cx 1 d_8_34_229 rfl ?_
    exact m_iret cx d_8_34_231 rfl rfl hm hs ⟨⟨_, rfl⟩, MIx.of hMy, hSI.1.kp (by decide)⟩
  have x1 : ∀ (y : MS) (h : hp) (hm : Mo D am ad y h) (hs : Sm am ad h0 h) (op mk : Nat) (sf tf : Nat → Nat) (hSI : SI x y op mk sf tf nv kp r) (w : Nat) (hw : w < 128) (hnv : ∃ b t, b < 6 ∧ t < nm b ∧ nv = x.2.2 10 (6 * b + t)) (hmk : mk < 2 ^ 20), G p l e (rmL 4) s m args below meth c 7 D z0 E (MQp D am ad h0 (fun r x' => (∃ v, r = some (.int v)) ∧ MIx x' ∧ KpR x x')) 0 0 152 [(4, .int (nI w)), (0, .ref am), (1, .int (nI q0)), (2, .long nv)] [] h 0 0 := by
    intro y h hm hs op mk sf tf hSI w hw hnv hmk
    have hMy : MI y a r nm ld im kp mk := by
      obtain ⟨f1, f2, f3⟩ := hSI.1
      refine ⟨⟨(f1 6 (by decide)).trans hIA.1, hIA.2⟩, ⟨(f1 11 (by decide)).trans hIR.1, hIR.2⟩, ?_, ?_, ?_, ?_, ?_, ?_, ?_, ⟨hSI.2.2.1, by omega⟩⟩
      · rw [INm, f2 8 (by decide)]; exact hNm
      · rw [ILd, f2 13 (by decide)]; exact hLd
      · rw [ILo, f2 14 (by decide)]; exact hLo
      · rw [IIm, f2 15 (by decide)]; exact hIm
      · rw [IFr, f2 16 (by decide)]; exact hFr
      · rw [IPa, f2 17 (by decide)]; exact hPa
      · rw [IKp, f2 18 (by decide), f2 19 (by decide), f3 21 (by decide), f3 10 (by decide)]; exact hKp
    have hrl := hIR.2
    have hop8 : op ≤ 8 := by
      rcases Nat.eq_zero_or_pos op with z | z
      · omega
      · have := hSI.le (op - 1) (by omega)
        omega
    have hdis : ∀ i k, i < k → k < op → sf k ≠ sf i := by
      intro i k hik hk
      have key : ∀ d, i + d + 1 < op → sf (i + d + 1) < sf i := by
        intro d
        induction d with
        | zero => intro hd; exact (hSI.2.2.2.2 i hd).1
        | succ d ihd =>
          intro hd
          have q1 := ihd (by omega)
          have q2 := (hSI.2.2.2.2 (i + d + 1) hd).1
          exact Nat.lt_trans q2 q1
      have := key (k - i - 1) (by omega)
      rw [show i + (k - i - 1) + 1 = k by omega] at this
      exact Nat.ne_of_lt this
    refine g_iconst cx (v := 0) d_8_34_152 (by decide) ?_
    refine g_topi (fun k0 ek0 => ?_)
    obtain rfl : k0 = nI 0 := ek0
    refine g_istore cx (lv' := [(5, .int (nI 0)), (4, .int (nI w)), (0, .ref am), (1, .int (nI q0)), (2, .long nv)]) d_8_34_153 (by decide) rfl ?_
    exact l3 op w sf hw hnv hop8 hdis (op + 1) 0 y h hm hs kp mk hMy (hSI.1.kp (by decide)) hSI.2.1 (fun k hk => ⟨(hSI.2.2.2.1 k hk).1, (hSI.2.2.2.1 k hk).2.1⟩) (hSI.1.2.2 10 (by decide)) (fun k hk0 hk i hi => by rw [hSI.1.2.2 21 (by decide)]; exact (hSI.2.2.2.1 k hk).2.2.2.2 i hi) (by omega) (by omega)
  have lp : ∀ (n : Nat) (y : MS) (h : hp) (hm : Mo D am ad y h) (hs : Sm am ad h0 h) (op mk : Nat) (sf tf : Nat → Nat) (hSI : SI x y op mk sf tf nv kp r) (at1 : Int32) (hat : at1 = -1 ∨ ∃ w, w < 128 ∧ at1 = nI w ∧ ∃ b t, b < 6 ∧ t < nm b ∧ nv = x.2.2 10 (6 * b + t)), mk + 60 * mu x sf tf op ≤ 10000 → mu x sf tf op < n → G p l e (rmL 4) s m args below meth c 7 D z0 E (MQp D am ad h0 (fun r x' => (∃ v, r = some (.int v)) ∧ MIx x' ∧ KpR x x')) 0 0 13 [(4, .int at1), (0, .ref am), (1, .int (nI q0)), (2, .long nv)] [] h 0 0 := by
    intro n
    induction n with
    | zero => intro y h hm hs op mk sf tf hSI at1 hat hpo hn; exact absurd hn (Nat.not_lt_zero _)
    | succ n ih =>
      intro y h hm hs op mk sf tf hSI at1 hat hpo hn
      have hop8 : op ≤ 8 := by
        have hrl := hIR.2
        rcases Nat.eq_zero_or_pos op with z | z
        · omega
        · have := hSI.le (op - 1) (by omega)
          omega
      refine g_aload_n cx 1 d_8_34_13 rfl rfl ?_
      refine m_get cx (k := 24) d_8_34_14 t_922 ⟨by decide, rfl⟩ hm rfl ?_
      refine g_if_le cx d_8_34_17 rfl (fun c17 => (by
          have h9 : nI op ≤ nI 0 := by rw [← hSI.2.1]; exact c17
          have h10 := (nI_leI (by omega) (by decide)).mp h9
          exact x0 y h hm hs op mk sf tf hSI at1 (by omega) (by omega))) (fun c17 => ?_)
      refine g_iload cx 0 d_8_34_20 rfl ?_
      refine g_if_ge cx d_8_34_22 rfl (fun c22 => (by
          rcases hat with z | ⟨w, hw, rfl, hnv⟩
          · exact absurd c22 (by rw [z]; decide)
          · exact x1 y h hm hs op mk sf tf hSI w hw hnv (by omega))) (fun c22 => ?_)
      obtain ⟨u, rfl⟩ : ∃ u, op = u + 1 := ⟨op - 1, by have : op ≠ 0 := fun z => c17 (by show y.1 24 ≤ 0; rw [hSI.2.1, z]; decide); omega⟩
      have h24 := hSI.2.1
      obtain ⟨t1, t2, t3, t4, t5⟩ := hSI.2.2.2.1 u (by omega)
      have hle0 := hSI.le u (by omega)
      have hrl := hIR.2
      have ht : tf u = 0 ∨ tf u = 1 ∨ tf u = 2 ∨ tf u = 3 := by omega
      refine g_aload_n cx 1 d_8_34_25 rfl rfl ?_
      rcases ht with ht | ht | ht | ht
      · skip
        refine m_get cx (k := 26) d_8_34_26 t_924 ⟨by decide, rfl⟩ hm rfl ?_
        refine g_aload_n cx 1 d_8_34_29 rfl rfl ?_
        refine m_get cx (k := 24) d_8_34_30 t_922 ⟨by decide, rfl⟩ hm rfl ?_
        refine g_iconst cx (v := 1) d_8_34_33 (by decide) ?_
        refine g_isub cx d_8_34_34 ?_
        refine m_ld1 cx d_8_34_35 (by decide) hm (show y.1 24 - 1 = nI u by rw [h24]; exact pk_sub (b := 1) (by omega)) ⟨(show u < 8 by omega), by decide⟩ ?_
        refine g_topi (fun s5 es5 => ?_)
        obtain rfl : s5 = nI (sf u) := es5.trans t1
        refine g_istore cx (lv' := [(5, .int (nI (sf u))), (4, .int at1), (0, .ref am), (1, .int (nI q0)), (2, .long nv)]) d_8_34_36 (by decide) rfl ?_
        refine g_aload_n cx 2 d_8_34_38 rfl rfl ?_
        refine m_get cx (k := 27) d_8_34_39 t_925 ⟨by decide, rfl⟩ hm rfl ?_
        refine g_aload_n cx 2 d_8_34_42 rfl rfl ?_
        refine m_get cx (k := 24) d_8_34_43 t_922 ⟨by decide, rfl⟩ hm rfl ?_
        refine g_iconst cx (v := 1) d_8_34_46 (by decide) ?_
        refine g_isub cx d_8_34_47 ?_
        refine m_ld1 cx d_8_34_48 (by decide) hm (show y.1 24 - 1 = nI u by rw [h24]; exact pk_sub (b := 1) (by omega)) ⟨(show u < 8 by omega), by decide⟩ ?_
        refine g_topi (fun nw enw => ?_)
        obtain rfl : nw = 0 := enw.trans (by rw [t3, ht]; rfl)
        refine g_istore cx (lv' := [(6, .int 0), (5, .int (nI (sf u))), (4, .int at1), (0, .ref am), (1, .int (nI q0)), (2, .long nv)]) d_8_34_49 (by decide) rfl ?_
        refine g_aload_n cx 3 d_8_34_51 rfl rfl ?_
        refine m_get cx (k := 27) d_8_34_52 t_925 ⟨by decide, rfl⟩ hm rfl ?_
        refine g_aload_n cx 3 d_8_34_55 rfl rfl ?_
        refine m_get cx (k := 24) d_8_34_56 t_922 ⟨by decide, rfl⟩ hm rfl ?_
        refine g_iconst cx (v := 1) d_8_34_59 (by decide) ?_
        refine g_isub cx d_8_34_60 ?_
        refine g_dup2_11 cx d_8_34_61 rfl rfl ?_
        refine m_ld1 cx d_8_34_62 (by decide) hm (show y.1 24 - 1 = nI u by rw [h24]; exact pk_sub (b := 1) (by omega)) ⟨(show u < 8 by omega), by decide⟩ ?_
        refine g_iconst cx (v := 1) d_8_34_63 (by decide) ?_
        refine g_iadd cx d_8_34_64 ?_
        refine g_topi (fun g9 eg9 => ?_)
        obtain rfl : g9 = nI (tf u + 1) := eg9.trans (by show y.2.1 27 u + 1 = _; rw [t3, nI_1])
        refine m_st1 cx hA d_8_34_65 (by decide) hm hs (show y.1 24 - 1 = nI u by rw [h24]; exact pk_sub (b := 1) (by omega)) ⟨(show u < 8 by omega), by decide⟩ (fun h hm hs => ?_)
        have hfy : Fx [24, 25] [9, 26, 27, 28] [] x (seta y 27 u (nI (tf u + 1))) := hSI.1.a (by decide)
        refine g_iload cx 0 d_8_34_66 rfl ?_
        refine g_if_ne cx d_8_34_68 rfl (fun c68 => absurd rfl c68) (fun c68 => ?_)
        refine g_aload_n cx 3 d_8_34_71 rfl rfl ?_
        refine g_iload cx 1 d_8_34_72 rfl ?_
        refine g_lload_n cx 5 d_8_34_74 rfl rfl ?_
        refine m_call 4 cx (As := [.int (nI (sf u)), .long nv]) (n := 2) (mc_byImports hSt hA (seta y 27 u (nI (tf u + 1))) (sf u) nv nm ld (by omega) (by rw [ILd, hfy.2.1 13 (by decide)]; exact hLd) (by rw [ILo, hfy.2.1 14 (by decide)]; exact hLo) (by rw [INm, hfy.2.1 8 (by decide)]; exact hNm) im mk (by rw [IIm, hfy.2.1 15 (by decide)]; exact hIm) (by rw [IFr, hfy.2.1 16 (by decide)]; exact hFr) hSI.2.2.1 (by omega)) d_8_34_75 t_1094 t_1096 ts_48 t_1097 rfl ⟨rfl, by decide +kernel⟩ rfl ⟨by decide, by decide⟩ (Nat.le_of_ble_eq_true rfl) hm hs (fun v75 x75 h hm hs r75 => ?_)
        obtain ⟨hf75, ⟨mk', hk75, hm75⟩, r75⟩ := r75
        have hS2 := hSI.stage (by omega) hf75 hk75
        have hmu := mu_stage (x := x) (sf := sf) (tf := tf) (k := u) (by omega)
        rcases r75 with ⟨w, hw, rfl, hnv⟩ | rfl
        · skip
          refine g_topi (fun at2 eat2 => ?_)
          refine g_istore cx (lv' := [(4, .int at2), (6, .int 0), (5, .int (nI (sf u))), (0, .ref am), (1, .int (nI q0)), (2, .long nv)]) d_8_34_78 (by decide) rfl ?_
          refine g_goto cx d_8_34_80 rfl ?_
          refine g_goto cx d_8_34_149 rfl ?_
          refine g_loc (lv' := [(4, .int at2), (0, .ref am), (1, .int (nI q0)), (2, .long nv)]) [0, 3, 4, 5] rfl ?_
          exact ih _ h hm hs (u + 1) mk' sf _ hS2 at2 (Or.inr ⟨w, hw, eat2, (by obtain ⟨b, t, hb, ht, hbt⟩ := hnv; exact ⟨b, t, hb, ht, by rw [hbt, hfy.2.2 10 (by decide)]⟩)⟩) (by omega) (by omega)
        · skip
          refine g_topi (fun at2 eat2 => ?_)
          refine g_istore cx (lv' := [(4, .int at2), (6, .int 0), (5, .int (nI (sf u))), (0, .ref am), (1, .int (nI q0)), (2, .long nv)]) d_8_34_78 (by decide) rfl ?_
          refine g_goto cx d_8_34_80 rfl ?_
          refine g_goto cx d_8_34_149 rfl ?_
          refine g_loc (lv' := [(4, .int at2), (0, .ref am), (1, .int (nI q0)), (2, .long nv)]) [0, 3, 4, 5] rfl ?_
          exact ih _ h hm hs (u + 1) mk' sf _ hS2 at2 (Or.inl eat2) (by omega) (by omega)
      · skip
        refine m_get cx (k := 26) d_8_34_26 t_924 ⟨by decide, rfl⟩ hm rfl ?_
        refine g_aload_n cx 1 d_8_34_29 rfl rfl ?_
        refine m_get cx (k := 24) d_8_34_30 t_922 ⟨by decide, rfl⟩ hm rfl ?_
        refine g_iconst cx (v := 1) d_8_34_33 (by decide) ?_
        refine g_isub cx d_8_34_34 ?_
        refine m_ld1 cx d_8_34_35 (by decide) hm (show y.1 24 - 1 = nI u by rw [h24]; exact pk_sub (b := 1) (by omega)) ⟨(show u < 8 by omega), by decide⟩ ?_
        refine g_topi (fun s5 es5 => ?_)
        obtain rfl : s5 = nI (sf u) := es5.trans t1
        refine g_istore cx (lv' := [(5, .int (nI (sf u))), (4, .int at1), (0, .ref am), (1, .int (nI q0)), (2, .long nv)]) d_8_34_36 (by decide) rfl ?_
        refine g_aload_n cx 2 d_8_34_38 rfl rfl ?_
        refine m_get cx (k := 27) d_8_34_39 t_925 ⟨by decide, rfl⟩ hm rfl ?_
        refine g_aload_n cx 2 d_8_34_42 rfl rfl ?_
        refine m_get cx (k := 24) d_8_34_43 t_922 ⟨by decide, rfl⟩ hm rfl ?_
        refine g_iconst cx (v := 1) d_8_34_46 (by decide) ?_
        refine g_isub cx d_8_34_47 ?_
        refine m_ld1 cx d_8_34_48 (by decide) hm (show y.1 24 - 1 = nI u by rw [h24]; exact pk_sub (b := 1) (by omega)) ⟨(show u < 8 by omega), by decide⟩ ?_
        refine g_topi (fun nw enw => ?_)
        obtain rfl : nw = 1 := enw.trans (by rw [t3, ht]; rfl)
        refine g_istore cx (lv' := [(6, .int 1), (5, .int (nI (sf u))), (4, .int at1), (0, .ref am), (1, .int (nI q0)), (2, .long nv)]) d_8_34_49 (by decide) rfl ?_
        refine g_aload_n cx 3 d_8_34_51 rfl rfl ?_
        refine m_get cx (k := 27) d_8_34_52 t_925 ⟨by decide, rfl⟩ hm rfl ?_
        refine g_aload_n cx 3 d_8_34_55 rfl rfl ?_
        refine m_get cx (k := 24) d_8_34_56 t_922 ⟨by decide, rfl⟩ hm rfl ?_
        refine g_iconst cx (v := 1) d_8_34_59 (by decide) ?_
        refine g_isub cx d_8_34_60 ?_
        refine g_dup2_11 cx d_8_34_61 rfl rfl ?_
        refine m_ld1 cx d_8_34_62 (by decide) hm (show y.1 24 - 1 = nI u by rw [h24]; exact pk_sub (b := 1) (by omega)) ⟨(show u < 8 by omega), by decide⟩ ?_
        refine g_iconst cx (v := 1) d_8_34_63 (by decide) ?_
        refine g_iadd cx d_8_34_64 ?_
        refine g_topi (fun g9 eg9 => ?_)
        obtain rfl : g9 = nI (tf u + 1) := eg9.trans (by show y.2.1 27 u + 1 = _; rw [t3, nI_1])
        refine m_st1 cx hA d_8_34_65 (by decide) hm hs (show y.1 24 - 1 = nI u by rw [h24]; exact pk_sub (b := 1) (by omega)) ⟨(show u < 8 by omega), by decide⟩ (fun h hm hs => ?_)
        have hfy : Fx [24, 25] [9, 26, 27, 28] [] x (seta y 27 u (nI (tf u + 1))) := hSI.1.a (by decide)
        refine g_iload cx 0 d_8_34_66 rfl ?_
        refine g_if_ne cx d_8_34_68 rfl (fun c68 => ?_) (fun c68 => absurd c68 (by decide))
        refine g_iload cx 0 d_8_34_83 rfl ?_
        refine g_iconst cx (v := 3) d_8_34_85 (by decide) ?_
        refine g_icmp_ne cx d_8_34_86 rfl (fun c86 => ?_) (fun c86 => absurd c86 (by decide))
        refine g_iload cx 0 d_8_34_102 rfl ?_
        refine g_iconst cx (v := 1) d_8_34_104 (by decide) ?_
        refine g_icmp_ne cx d_8_34_105 rfl (fun c105 => absurd rfl c105) (fun c105 => ?_)
        refine g_iconst cx (v := 1) d_8_34_108 (by decide) ?_
        refine g_goto cx d_8_34_109 rfl ?_
        refine g_aload_n cx 3 d_8_34_113 rfl rfl ?_
        refine m_get cx (k := 23) d_8_34_114 t_921 ⟨by decide, rfl⟩ hm rfl ?_
        refine g_iload cx 1 d_8_34_117 rfl ?_
        refine m_ld4 cx d_8_34_119 (by decide) hm rfl ⟨(show sf u < 8 by omega), by decide⟩ ?_
        refine g_icmp_eq cx d_8_34_120 rfl (fun c120 => ?_) (fun c120 => ?_)
        · skip
          have hpf : x.2.1 23 (sf u) = 1 := by
            rw [← hfy.2.1 23 (by decide)]; exact c120.symm
          have hp1 : pnd x (sf u) (tf u) = true := by rw [ht]; unfold pnd; rw [hpf]; decide
          have hp2 : pnd x (sf u) (tf u + 1) = false := by rw [ht]; unfold pnd; rw [hpf]; decide
          have hS2 := hSI.stage (y3 := (seta y 27 u (nI (tf u + 1)))) (mk' := mk) (by omega) Fx.rf hSI.2.2.1
          have hmu := mu_stage (x := x) (sf := sf) (tf := tf) (k := u) (by omega)
          have hpar := hPa (sf u) (by omega)
          rw [← show (seta y 27 u (nI (tf u + 1))).2.1 17 (sf u) = x.2.1 17 (sf u) from congrFun (hfy.2.1 17 (by decide)) (sf u)] at hpar
          refine g_aload_n cx 3 d_8_34_135 rfl rfl ?_
          refine g_aload_n cx 3 d_8_34_136 rfl rfl ?_
          refine m_get cx (k := 17) d_8_34_137 t_915 ⟨by decide, rfl⟩ hm rfl ?_
          refine g_iload cx 1 d_8_34_140 rfl ?_
          refine m_ld1 cx d_8_34_142 (by decide) hm rfl ⟨(show sf u < 8 by omega), by decide⟩ ?_
          refine g_topi (fun p9 ep9 => ?_)
          rcases hpar with hpar | ⟨g, hgs, hpar⟩
          · skip
            obtain rfl : p9 = -1 := ep9.trans hpar
            refine g_lload_n cx 5 d_8_34_143 rfl rfl ?_
            refine m_call 4 cx (As := [.int (-1), .long nv]) (n := 2) (mc_upN hSt hA (seta y 27 u (nI (tf u + 1))) nv) d_8_34_144 t_1121 t_1123 ts_52 t_1124 rfl ⟨rfl, by decide +kernel⟩ rfl ⟨by decide, by decide⟩ (Nat.le_of_ble_eq_true rfl) hm hs (fun v144 x144 h hm hs r144 => ?_)
            obtain ⟨rfl, rfl⟩ := r144
            refine g_topi (fun at2 eat2 => ?_)
            refine g_istore cx (lv' := [(4, .int at2), (6, .int 1), (5, .int (nI (sf u))), (0, .ref am), (1, .int (nI q0)), (2, .long nv)]) d_8_34_147 (by decide) rfl ?_
            refine g_goto cx d_8_34_149 rfl ?_
            refine g_loc (lv' := [(4, .int at2), (0, .ref am), (1, .int (nI q0)), (2, .long nv)]) [0, 3, 4, 5] rfl ?_
            exact ih _ h hm hs (u + 1) mk sf _ hS2 at2 (Or.inl eat2) (by omega) (by omega)
          · skip
            obtain rfl : p9 = nI g := ep9.trans hpar
            have hle := hSI.le u (by omega)
            refine g_lload_n cx 5 d_8_34_143 rfl rfl ?_
            refine m_call 4 cx (As := [.int (nI g), .long nv]) (n := 2) (mc_upP hSt hA (seta y 27 u (nI (tf u + 1))) g nv nm kp (u + 1) mk (by omega) (by rw [INm, hfy.2.1 8 (by decide)]; exact hNm) (by rw [IKp, hfy.2.1 18 (by decide), hfy.2.1 19 (by decide), hfy.2.2 21 (by decide), hfy.2.2 10 (by decide)]; exact hKp) h24 (by omega) hSI.2.2.1 (by omega)) d_8_34_144 t_1121 t_1123 ts_52 t_1124 rfl ⟨rfl, by decide +kernel⟩ rfl ⟨by decide, by decide⟩ (Nat.le_of_ble_eq_true rfl) hm hs (fun v144 x144 h hm hs r144 => ?_)
            rcases r144 with ⟨rfl, rfl⟩ | ⟨⟨w, hw, rfl, hnv⟩, rfl⟩ | ⟨rfl, hno, rfl⟩
            · skip
              refine g_topi (fun at2 eat2 => ?_)
              refine g_istore cx (lv' := [(4, .int at2), (6, .int 1), (5, .int (nI (sf u))), (0, .ref am), (1, .int (nI q0)), (2, .long nv)]) d_8_34_147 (by decide) rfl ?_
              refine g_goto cx d_8_34_149 rfl ?_
              refine g_loc (lv' := [(4, .int at2), (0, .ref am), (1, .int (nI q0)), (2, .long nv)]) [0, 3, 4, 5] rfl ?_
              exact ih _ h hm hs (u + 1) mk sf _ hS2 at2 (Or.inl eat2) (by omega) (by omega)
            · skip
              refine g_topi (fun at2 eat2 => ?_)
              refine g_istore cx (lv' := [(4, .int at2), (6, .int 1), (5, .int (nI (sf u))), (0, .ref am), (1, .int (nI q0)), (2, .long nv)]) d_8_34_147 (by decide) rfl ?_
              refine g_goto cx d_8_34_149 rfl ?_
              refine g_loc (lv' := [(4, .int at2), (0, .ref am), (1, .int (nI q0)), (2, .long nv)]) [0, 3, 4, 5] rfl ?_
              exact ih _ h hm hs (u + 1) mk sf _ hS2 at2 (Or.inr ⟨w, hw, eat2, (by obtain ⟨b, t, hb, ht, hbt⟩ := hnv; exact ⟨b, t, hb, ht, by rw [hbt, hfy.2.2 10 (by decide)]⟩)⟩) (by omega) (by omega)
            · skip
              refine g_topi (fun at2 eat2 => ?_)
              refine g_istore cx (lv' := [(4, .int at2), (6, .int 1), (5, .int (nI (sf u))), (0, .ref am), (1, .int (nI q0)), (2, .long nv)]) d_8_34_147 (by decide) rfl ?_
              refine g_goto cx d_8_34_149 rfl ?_
              refine g_loc (lv' := [(4, .int at2), (0, .ref am), (1, .int (nI q0)), (2, .long nv)]) [0, 3, 4, 5] rfl ?_
              have hno' : ∀ j, j < kp g → x.2.2 21 (36 * g + j) ≠ nv := fun j hj => by rw [← hfy.2.2 21 (by decide)]; exact hno j hj
              have hS3 := hSI.push (by omega) hgs hno' hp2
              have hmu3 := mu_push (x := x) (sf := sf) (tf := tf) (k := u) (g := g) (by omega) hgs hp1
              exact ih _ h hm hs (u + 2) (mk + 1) _ _ hS3 at2 (Or.inl eat2) (by omega) (by omega)
        · skip
          refine g_aload_n cx 3 d_8_34_123 rfl rfl ?_
          refine g_iload cx 1 d_8_34_124 rfl ?_
          refine g_lload_n cx 5 d_8_34_126 rfl rfl ?_
          refine m_call 4 cx (As := [.int (nI (sf u)), .long nv]) (n := 2) (mc_ownPlace hSt hA (seta y 27 u (nI (tf u + 1))) (sf u) nv nm ld (by omega) (by rw [ILd, hfy.2.1 13 (by decide)]; exact hLd) (by rw [ILo, hfy.2.1 14 (by decide)]; exact hLo) (by rw [INm, hfy.2.1 8 (by decide)]; exact hNm)) d_8_34_127 t_1117 t_1119 ts_51 t_1120 rfl ⟨rfl, by decide +kernel⟩ rfl ⟨by decide, by decide⟩ (Nat.le_of_ble_eq_true rfl) hm hs (fun v127 x127 h hm hs r127 => ?_)
          obtain ⟨hf9, r9⟩ := r127
          have hS2 := hSI.stage (mk' := mk) (by omega) (hf9.le (by decide) (by decide) (by decide)) ((hf9.1 25 (by decide)).trans hSI.2.2.1)
          have hmu := mu_stage (x := x) (sf := sf) (tf := tf) (k := u) (by omega)
          rcases r9 with ⟨w, hw, rfl, hnv⟩ | rfl
          · skip
            refine g_topi (fun at2 eat2 => ?_)
            refine g_istore cx (lv' := [(4, .int at2), (6, .int 1), (5, .int (nI (sf u))), (0, .ref am), (1, .int (nI q0)), (2, .long nv)]) d_8_34_130 (by decide) rfl ?_
            refine g_goto cx d_8_34_132 rfl ?_
            refine g_goto cx d_8_34_149 rfl ?_
            refine g_loc (lv' := [(4, .int at2), (0, .ref am), (1, .int (nI q0)), (2, .long nv)]) [0, 3, 4, 5] rfl ?_
            exact ih _ h hm hs (u + 1) mk sf _ hS2 at2 (Or.inr ⟨w, hw, eat2, (by obtain ⟨b, t, hb, ht, hbt⟩ := hnv; exact ⟨b, t, hb, ht, by rw [hbt, hfy.2.2 10 (by decide)]⟩)⟩) (by omega) (by omega)
          · skip
            refine g_topi (fun at2 eat2 => ?_)
            refine g_istore cx (lv' := [(4, .int at2), (6, .int 1), (5, .int (nI (sf u))), (0, .ref am), (1, .int (nI q0)), (2, .long nv)]) d_8_34_130 (by decide) rfl ?_
            refine g_goto cx d_8_34_132 rfl ?_
            refine g_goto cx d_8_34_149 rfl ?_
            refine g_loc (lv' := [(4, .int at2), (0, .ref am), (1, .int (nI q0)), (2, .long nv)]) [0, 3, 4, 5] rfl ?_
            exact ih _ h hm hs (u + 1) mk sf _ hS2 at2 (Or.inl eat2) (by omega) (by omega)
      · skip
        refine m_get cx (k := 26) d_8_34_26 t_924 ⟨by decide, rfl⟩ hm rfl ?_
        refine g_aload_n cx 1 d_8_34_29 rfl rfl ?_
        refine m_get cx (k := 24) d_8_34_30 t_922 ⟨by decide, rfl⟩ hm rfl ?_
        refine g_iconst cx (v := 1) d_8_34_33 (by decide) ?_
        refine g_isub cx d_8_34_34 ?_
        refine m_ld1 cx d_8_34_35 (by decide) hm (show y.1 24 - 1 = nI u by rw [h24]; exact pk_sub (b := 1) (by omega)) ⟨(show u < 8 by omega), by decide⟩ ?_
        refine g_topi (fun s5 es5 => ?_)
        obtain rfl : s5 = nI (sf u) := es5.trans t1
        refine g_istore cx (lv' := [(5, .int (nI (sf u))), (4, .int at1), (0, .ref am), (1, .int (nI q0)), (2, .long nv)]) d_8_34_36 (by decide) rfl ?_
        refine g_aload_n cx 2 d_8_34_38 rfl rfl ?_
        refine m_get cx (k := 27) d_8_34_39 t_925 ⟨by decide, rfl⟩ hm rfl ?_
        refine g_aload_n cx 2 d_8_34_42 rfl rfl ?_
        refine m_get cx (k := 24) d_8_34_43 t_922 ⟨by decide, rfl⟩ hm rfl ?_
        refine g_iconst cx (v := 1) d_8_34_46 (by decide) ?_
        refine g_isub cx d_8_34_47 ?_
        refine m_ld1 cx d_8_34_48 (by decide) hm (show y.1 24 - 1 = nI u by rw [h24]; exact pk_sub (b := 1) (by omega)) ⟨(show u < 8 by omega), by decide⟩ ?_
        refine g_topi (fun nw enw => ?_)
        obtain rfl : nw = 2 := enw.trans (by rw [t3, ht]; rfl)
        refine g_istore cx (lv' := [(6, .int 2), (5, .int (nI (sf u))), (4, .int at1), (0, .ref am), (1, .int (nI q0)), (2, .long nv)]) d_8_34_49 (by decide) rfl ?_
        refine g_aload_n cx 3 d_8_34_51 rfl rfl ?_
        refine m_get cx (k := 27) d_8_34_52 t_925 ⟨by decide, rfl⟩ hm rfl ?_
        refine g_aload_n cx 3 d_8_34_55 rfl rfl ?_
        refine m_get cx (k := 24) d_8_34_56 t_922 ⟨by decide, rfl⟩ hm rfl ?_
        refine g_iconst cx (v := 1) d_8_34_59 (by decide) ?_
        refine g_isub cx d_8_34_60 ?_
        refine g_dup2_11 cx d_8_34_61 rfl rfl ?_
        refine m_ld1 cx d_8_34_62 (by decide) hm (show y.1 24 - 1 = nI u by rw [h24]; exact pk_sub (b := 1) (by omega)) ⟨(show u < 8 by omega), by decide⟩ ?_
        refine g_iconst cx (v := 1) d_8_34_63 (by decide) ?_
        refine g_iadd cx d_8_34_64 ?_
        refine g_topi (fun g9 eg9 => ?_)
        obtain rfl : g9 = nI (tf u + 1) := eg9.trans (by show y.2.1 27 u + 1 = _; rw [t3, nI_1])
        refine m_st1 cx hA d_8_34_65 (by decide) hm hs (show y.1 24 - 1 = nI u by rw [h24]; exact pk_sub (b := 1) (by omega)) ⟨(show u < 8 by omega), by decide⟩ (fun h hm hs => ?_)
        have hfy : Fx [24, 25] [9, 26, 27, 28] [] x (seta y 27 u (nI (tf u + 1))) := hSI.1.a (by decide)
        refine g_iload cx 0 d_8_34_66 rfl ?_
        refine g_if_ne cx d_8_34_68 rfl (fun c68 => ?_) (fun c68 => absurd c68 (by decide))
        refine g_iload cx 0 d_8_34_83 rfl ?_
        refine g_iconst cx (v := 3) d_8_34_85 (by decide) ?_
        refine g_icmp_ne cx d_8_34_86 rfl (fun c86 => ?_) (fun c86 => absurd c86 (by decide))
        refine g_iload cx 0 d_8_34_102 rfl ?_
        refine g_iconst cx (v := 1) d_8_34_104 (by decide) ?_
        refine g_icmp_ne cx d_8_34_105 rfl (fun c105 => ?_) (fun c105 => absurd c105 (by decide))
        refine g_iconst cx (v := 0) d_8_34_112 (by decide) ?_
        refine g_aload_n cx 3 d_8_34_113 rfl rfl ?_
        refine m_get cx (k := 23) d_8_34_114 t_921 ⟨by decide, rfl⟩ hm rfl ?_
        refine g_iload cx 1 d_8_34_117 rfl ?_
        refine m_ld4 cx d_8_34_119 (by decide) hm rfl ⟨(show sf u < 8 by omega), by decide⟩ ?_
        refine g_icmp_eq cx d_8_34_120 rfl (fun c120 => ?_) (fun c120 => ?_)
        · skip
          have hpf : x.2.1 23 (sf u) = 0 := by
            rw [← hfy.2.1 23 (by decide)]; exact c120.symm
          have hp1 : pnd x (sf u) (tf u) = true := by rw [ht]; unfold pnd; rw [hpf]; decide
          have hp2 : pnd x (sf u) (tf u + 1) = false := by rw [ht]; unfold pnd; rw [hpf]; decide
          have hS2 := hSI.stage (y3 := (seta y 27 u (nI (tf u + 1)))) (mk' := mk) (by omega) Fx.rf hSI.2.2.1
          have hmu := mu_stage (x := x) (sf := sf) (tf := tf) (k := u) (by omega)
          have hpar := hPa (sf u) (by omega)
          rw [← show (seta y 27 u (nI (tf u + 1))).2.1 17 (sf u) = x.2.1 17 (sf u) from congrFun (hfy.2.1 17 (by decide)) (sf u)] at hpar
          refine g_aload_n cx 3 d_8_34_135 rfl rfl ?_
          refine g_aload_n cx 3 d_8_34_136 rfl rfl ?_
          refine m_get cx (k := 17) d_8_34_137 t_915 ⟨by decide, rfl⟩ hm rfl ?_
          refine g_iload cx 1 d_8_34_140 rfl ?_
          refine m_ld1 cx d_8_34_142 (by decide) hm rfl ⟨(show sf u < 8 by omega), by decide⟩ ?_
          refine g_topi (fun p9 ep9 => ?_)
          rcases hpar with hpar | ⟨g, hgs, hpar⟩
          · skip
            obtain rfl : p9 = -1 := ep9.trans hpar
            refine g_lload_n cx 5 d_8_34_143 rfl rfl ?_
            refine m_call 4 cx (As := [.int (-1), .long nv]) (n := 2) (mc_upN hSt hA (seta y 27 u (nI (tf u + 1))) nv) d_8_34_144 t_1121 t_1123 ts_52 t_1124 rfl ⟨rfl, by decide +kernel⟩ rfl ⟨by decide, by decide⟩ (Nat.le_of_ble_eq_true rfl) hm hs (fun v144 x144 h hm hs r144 => ?_)
            obtain ⟨rfl, rfl⟩ := r144
            refine g_topi (fun at2 eat2 => ?_)
            refine g_istore cx (lv' := [(4, .int at2), (6, .int 2), (5, .int (nI (sf u))), (0, .ref am), (1, .int (nI q0)), (2, .long nv)]) d_8_34_147 (by decide) rfl ?_
            refine g_goto cx d_8_34_149 rfl ?_
            refine g_loc (lv' := [(4, .int at2), (0, .ref am), (1, .int (nI q0)), (2, .long nv)]) [0, 3, 4, 5] rfl ?_
            exact ih _ h hm hs (u + 1) mk sf _ hS2 at2 (Or.inl eat2) (by omega) (by omega)
          · skip
            obtain rfl : p9 = nI g := ep9.trans hpar
            have hle := hSI.le u (by omega)
            refine g_lload_n cx 5 d_8_34_143 rfl rfl ?_
            refine m_call 4 cx (As := [.int (nI g), .long nv]) (n := 2) (mc_upP hSt hA (seta y 27 u (nI (tf u + 1))) g nv nm kp (u + 1) mk (by omega) (by rw [INm, hfy.2.1 8 (by decide)]; exact hNm) (by rw [IKp, hfy.2.1 18 (by decide), hfy.2.1 19 (by decide), hfy.2.2 21 (by decide), hfy.2.2 10 (by decide)]; exact hKp) h24 (by omega) hSI.2.2.1 (by omega)) d_8_34_144 t_1121 t_1123 ts_52 t_1124 rfl ⟨rfl, by decide +kernel⟩ rfl ⟨by decide, by decide⟩ (Nat.le_of_ble_eq_true rfl) hm hs (fun v144 x144 h hm hs r144 => ?_)
            rcases r144 with ⟨rfl, rfl⟩ | ⟨⟨w, hw, rfl, hnv⟩, rfl⟩ | ⟨rfl, hno, rfl⟩
            · skip
              refine g_topi (fun at2 eat2 => ?_)
              refine g_istore cx (lv' := [(4, .int at2), (6, .int 2), (5, .int (nI (sf u))), (0, .ref am), (1, .int (nI q0)), (2, .long nv)]) d_8_34_147 (by decide) rfl ?_
              refine g_goto cx d_8_34_149 rfl ?_
              refine g_loc (lv' := [(4, .int at2), (0, .ref am), (1, .int (nI q0)), (2, .long nv)]) [0, 3, 4, 5] rfl ?_
              exact ih _ h hm hs (u + 1) mk sf _ hS2 at2 (Or.inl eat2) (by omega) (by omega)
            · skip
              refine g_topi (fun at2 eat2 => ?_)
              refine g_istore cx (lv' := [(4, .int at2), (6, .int 2), (5, .int (nI (sf u))), (0, .ref am), (1, .int (nI q0)), (2, .long nv)]) d_8_34_147 (by decide) rfl ?_
              refine g_goto cx d_8_34_149 rfl ?_
              refine g_loc (lv' := [(4, .int at2), (0, .ref am), (1, .int (nI q0)), (2, .long nv)]) [0, 3, 4, 5] rfl ?_
              exact ih _ h hm hs (u + 1) mk sf _ hS2 at2 (Or.inr ⟨w, hw, eat2, (by obtain ⟨b, t, hb, ht, hbt⟩ := hnv; exact ⟨b, t, hb, ht, by rw [hbt, hfy.2.2 10 (by decide)]⟩)⟩) (by omega) (by omega)
            · skip
              refine g_topi (fun at2 eat2 => ?_)
              refine g_istore cx (lv' := [(4, .int at2), (6, .int 2), (5, .int (nI (sf u))), (0, .ref am), (1, .int (nI q0)), (2, .long nv)]) d_8_34_147 (by decide) rfl ?_
              refine g_goto cx d_8_34_149 rfl ?_
              refine g_loc (lv' := [(4, .int at2), (0, .ref am), (1, .int (nI q0)), (2, .long nv)]) [0, 3, 4, 5] rfl ?_
              have hno' : ∀ j, j < kp g → x.2.2 21 (36 * g + j) ≠ nv := fun j hj => by rw [← hfy.2.2 21 (by decide)]; exact hno j hj
              have hS3 := hSI.push (by omega) hgs hno' hp2
              have hmu3 := mu_push (x := x) (sf := sf) (tf := tf) (k := u) (g := g) (by omega) hgs hp1
              exact ih _ h hm hs (u + 2) (mk + 1) _ _ hS3 at2 (Or.inl eat2) (by omega) (by omega)
        · skip
          refine g_aload_n cx 3 d_8_34_123 rfl rfl ?_
          refine g_iload cx 1 d_8_34_124 rfl ?_
          refine g_lload_n cx 5 d_8_34_126 rfl rfl ?_
          refine m_call 4 cx (As := [.int (nI (sf u)), .long nv]) (n := 2) (mc_ownPlace hSt hA (seta y 27 u (nI (tf u + 1))) (sf u) nv nm ld (by omega) (by rw [ILd, hfy.2.1 13 (by decide)]; exact hLd) (by rw [ILo, hfy.2.1 14 (by decide)]; exact hLo) (by rw [INm, hfy.2.1 8 (by decide)]; exact hNm)) d_8_34_127 t_1117 t_1119 ts_51 t_1120 rfl ⟨rfl, by decide +kernel⟩ rfl ⟨by decide, by decide⟩ (Nat.le_of_ble_eq_true rfl) hm hs (fun v127 x127 h hm hs r127 => ?_)
          obtain ⟨hf9, r9⟩ := r127
          have hS2 := hSI.stage (mk' := mk) (by omega) (hf9.le (by decide) (by decide) (by decide)) ((hf9.1 25 (by decide)).trans hSI.2.2.1)
          have hmu := mu_stage (x := x) (sf := sf) (tf := tf) (k := u) (by omega)
          rcases r9 with ⟨w, hw, rfl, hnv⟩ | rfl
          · skip
            refine g_topi (fun at2 eat2 => ?_)
            refine g_istore cx (lv' := [(4, .int at2), (6, .int 2), (5, .int (nI (sf u))), (0, .ref am), (1, .int (nI q0)), (2, .long nv)]) d_8_34_130 (by decide) rfl ?_
            refine g_goto cx d_8_34_132 rfl ?_
            refine g_goto cx d_8_34_149 rfl ?_
            refine g_loc (lv' := [(4, .int at2), (0, .ref am), (1, .int (nI q0)), (2, .long nv)]) [0, 3, 4, 5] rfl ?_
            exact ih _ h hm hs (u + 1) mk sf _ hS2 at2 (Or.inr ⟨w, hw, eat2, (by obtain ⟨b, t, hb, ht, hbt⟩ := hnv; exact ⟨b, t, hb, ht, by rw [hbt, hfy.2.2 10 (by decide)]⟩)⟩) (by omega) (by omega)
          · skip
            refine g_topi (fun at2 eat2 => ?_)
            refine g_istore cx (lv' := [(4, .int at2), (6, .int 2), (5, .int (nI (sf u))), (0, .ref am), (1, .int (nI q0)), (2, .long nv)]) d_8_34_130 (by decide) rfl ?_
            refine g_goto cx d_8_34_132 rfl ?_
            refine g_goto cx d_8_34_149 rfl ?_
            refine g_loc (lv' := [(4, .int at2), (0, .ref am), (1, .int (nI q0)), (2, .long nv)]) [0, 3, 4, 5] rfl ?_
            exact ih _ h hm hs (u + 1) mk sf _ hS2 at2 (Or.inl eat2) (by omega) (by omega)
      · skip
        refine m_get cx (k := 26) d_8_34_26 t_924 ⟨by decide, rfl⟩ hm rfl ?_
        refine g_aload_n cx 1 d_8_34_29 rfl rfl ?_
        refine m_get cx (k := 24) d_8_34_30 t_922 ⟨by decide, rfl⟩ hm rfl ?_
        refine g_iconst cx (v := 1) d_8_34_33 (by decide) ?_
        refine g_isub cx d_8_34_34 ?_
        refine m_ld1 cx d_8_34_35 (by decide) hm (show y.1 24 - 1 = nI u by rw [h24]; exact pk_sub (b := 1) (by omega)) ⟨(show u < 8 by omega), by decide⟩ ?_
        refine g_topi (fun s5 es5 => ?_)
        obtain rfl : s5 = nI (sf u) := es5.trans t1
        refine g_istore cx (lv' := [(5, .int (nI (sf u))), (4, .int at1), (0, .ref am), (1, .int (nI q0)), (2, .long nv)]) d_8_34_36 (by decide) rfl ?_
        refine g_aload_n cx 2 d_8_34_38 rfl rfl ?_
        refine m_get cx (k := 27) d_8_34_39 t_925 ⟨by decide, rfl⟩ hm rfl ?_
        refine g_aload_n cx 2 d_8_34_42 rfl rfl ?_
        refine m_get cx (k := 24) d_8_34_43 t_922 ⟨by decide, rfl⟩ hm rfl ?_
        refine g_iconst cx (v := 1) d_8_34_46 (by decide) ?_
        refine g_isub cx d_8_34_47 ?_
        refine m_ld1 cx d_8_34_48 (by decide) hm (show y.1 24 - 1 = nI u by rw [h24]; exact pk_sub (b := 1) (by omega)) ⟨(show u < 8 by omega), by decide⟩ ?_
        refine g_topi (fun nw enw => ?_)
        obtain rfl : nw = 3 := enw.trans (by rw [t3, ht]; rfl)
        refine g_istore cx (lv' := [(6, .int 3), (5, .int (nI (sf u))), (4, .int at1), (0, .ref am), (1, .int (nI q0)), (2, .long nv)]) d_8_34_49 (by decide) rfl ?_
        refine g_aload_n cx 3 d_8_34_51 rfl rfl ?_
        refine m_get cx (k := 27) d_8_34_52 t_925 ⟨by decide, rfl⟩ hm rfl ?_
        refine g_aload_n cx 3 d_8_34_55 rfl rfl ?_
        refine m_get cx (k := 24) d_8_34_56 t_922 ⟨by decide, rfl⟩ hm rfl ?_
        refine g_iconst cx (v := 1) d_8_34_59 (by decide) ?_
        refine g_isub cx d_8_34_60 ?_
        refine g_dup2_11 cx d_8_34_61 rfl rfl ?_
        refine m_ld1 cx d_8_34_62 (by decide) hm (show y.1 24 - 1 = nI u by rw [h24]; exact pk_sub (b := 1) (by omega)) ⟨(show u < 8 by omega), by decide⟩ ?_
        refine g_iconst cx (v := 1) d_8_34_63 (by decide) ?_
        refine g_iadd cx d_8_34_64 ?_
        refine g_topi (fun g9 eg9 => ?_)
        obtain rfl : g9 = nI (tf u + 1) := eg9.trans (by show y.2.1 27 u + 1 = _; rw [t3, nI_1])
        refine m_st1 cx hA d_8_34_65 (by decide) hm hs (show y.1 24 - 1 = nI u by rw [h24]; exact pk_sub (b := 1) (by omega)) ⟨(show u < 8 by omega), by decide⟩ (fun h hm hs => ?_)
        refine g_iload cx 0 d_8_34_66 rfl ?_
        refine g_if_ne cx d_8_34_68 rfl (fun c68 => ?_) (fun c68 => absurd c68 (by decide))
        refine g_iload cx 0 d_8_34_83 rfl ?_
        refine g_iconst cx (v := 3) d_8_34_85 (by decide) ?_
        refine g_icmp_ne cx d_8_34_86 rfl (fun c86 => absurd rfl c86) (fun c86 => ?_)
        refine g_aload_n cx 3 d_8_34_89 rfl rfl ?_
        refine g_dup cx d_8_34_90 rfl ?_
        refine m_get cx (k := 24) d_8_34_91 t_922 ⟨by decide, rfl⟩ hm rfl ?_
        refine g_iconst cx (v := 1) d_8_34_94 (by decide) ?_
        refine g_isub cx d_8_34_95 ?_
        refine g_topi (fun o9 eo9 => ?_)
        obtain rfl : o9 = nI u := eo9.trans (by show y.1 24 - 1 = nI u; rw [h24]; exact pk_sub (b := 1) (by omega))
        refine m_put cx (k := 24) hA d_8_34_96 t_922 ⟨by decide, rfl, rfl, rfl, by decide +kernel⟩ hm hs (fun h hm hs => ?_)
        refine g_goto cx d_8_34_99 rfl ?_
        refine g_goto cx d_8_34_149 rfl ?_
        refine g_loc (lv' := [(4, .int at1), (0, .ref am), (1, .int (nI q0)), (2, .long nv)]) [2, 3, 4, 5] rfl ?_
        have hmu := mu_pop (x := x) (sf := sf) (tf := tf) (k := u) ht (fun i hi => (hSI.2.2.2.2 i (by omega)).2)
        exact ih _ h hm hs u mk sf tf hSI.pop at1 hat (by omega) (by omega)
  refine g_aload_n cx 0 d_8_34_0 rfl rfl ?_
  refine g_iconst cx (v := 0) d_8_34_1 (by decide) ?_
  refine m_put cx (k := 24) hA d_8_34_2 t_922 ⟨by decide, rfl, rfl, rfl, by decide +kernel⟩ hm hs (fun h hm hs => ?_)
  refine g_aload_n cx 0 d_8_34_5 rfl rfl ?_
  refine g_iload_n cx 1 d_8_34_6 rfl rfl ?_
  refine m_call 4 cx (As := [.int (nI q0)]) (n := 1) (mc_push hSt hA (seti x 24 0) (nI q0) 0 mn rfl (by decide) hMn.1 (by omega)) d_8_34_7 t_1086 t_1088 ts_46 t_1089 rfl ⟨rfl, by decide +kernel⟩ rfl ⟨by decide, by decide⟩ (Nat.le_of_ble_eq_true rfl) hm hs (fun v7 x7 h hm hs r7 => ?_)
  obtain ⟨rfl, ex7⟩ := r7
  obtain ⟨y1, ey1⟩ : ∃ z, z = x7 := ⟨_, rfl⟩
  rw [← ey1] at hm ex7
  have hy : y1 = pushS (seti x 24 0) (nI q0) 0 mn := ex7
  have hSI : SI x y1 1 (mn + 1) (fun _ => q0) (fun _ => 0) nv kp r := by
    rw [hy]
    unfold pushS
    by_cases z : mn < 20
    · rw [if_pos z]
      exact ⟨(((((Fx.rf.i (by decide)).a (by decide)).a (by decide)).i (by decide)).a (by decide)).i (by decide), rfl, rfl, fun k hk => by
        obtain rfl : k = 0 := by omega
        exact ⟨rfl, hq0, rfl, Nat.zero_le 3, hno⟩, fun k hk => absurd hk (by omega)⟩
    · rw [if_neg z]
      exact ⟨((((Fx.rf.i (by decide)).a (by decide)).a (by decide)).i (by decide)).i (by decide), rfl, rfl, fun k hk => by
        obtain rfl : k = 0 := by omega
        exact ⟨rfl, hq0, rfl, Nat.zero_le 3, hno⟩, fun k hk => absurd hk (by omega)⟩
  have hmu0 : mu x (fun _ => q0) (fun _ => 0) 1 ≤ 39 := by
    show 0 + (4 - 0) + pw x q0 0 ≤ 39
    unfold pw
    have hrl := hIR.2
    by_cases z : pnd x q0 0 = true
    · rw [if_pos z]; omega
    · rw [if_neg z]; omega
  refine g_iconst cx (v := (-1)) d_8_34_10 (by decide) ?_
  refine g_topi (fun at1 eat1 => ?_)
  refine g_istore cx (lv' := [(4, .int at1), (0, .ref am), (1, .int (nI q0)), (2, .long nv)]) d_8_34_11 (by decide) rfl ?_
  exact lp (mu x (fun _ => q0) (fun _ => 0) 1 + 1) y1 h hm hs 1 (mn + 1) (fun _ => q0) (fun _ => 0) hSI at1 (Or.inl eat1) (by omega) (by omega)
set_option maxHeartbeats 4000000 in
theorem mc_look (hSt : Stb z0 E) (hA : Ad am ad) (x : MS) (v : Int32) (w : Nat) (hw : x.1 2 = nI w) (hwl : w ≤ 30) (a r : Nat) (nm ld im kp : Nat → Nat) (mn : Nat) (hM : MI x a r nm ld im kp mn) : MC l y_177 prog_8_method_36_code 5 (Option.some Jvm.ClassFile.FieldType.int) 5 D z0 E am ad [.int v] x (fun r x' => (∃ v, r = some (.int v)) ∧ MIx x' ∧ KpZ x x') := by
  refine mc_of hSt rfl (Nat.le_of_ble_eq_true rfl) ?_
  intro h0 h p e s m args below meth c cx hm hs
  refine g_aload_n cx 0 d_8_36_0 rfl rfl ?_
  refine g_iconst cx (v := 0) d_8_36_1 (by decide) ?_
  refine m_put cx (k := 0) hA d_8_36_2 t_898 ⟨by decide, rfl, rfl, rfl, by decide +kernel⟩ hm hs (fun h hm hs => ?_)
  refine g_aload_n cx 0 d_8_36_5 rfl rfl ?_
  refine m_call 5 cx (As := []) (n := 0) (mc_split hSt hA (seti x 0 0) w hw hwl) d_8_36_6 t_1001 t_1003 ts_26 t_1004 rfl ⟨rfl, by decide +kernel⟩ rfl ⟨by decide, by decide⟩ (Nat.le_of_ble_eq_true rfl) hm hs (fun v6 x6 h hm hs r6 => ?_)
  obtain ⟨rfl, pn, bg, en, hpt, hw6, hf6⟩ := r6
  have hM6 : MI x6 a r nm ld im kp mn := MI.fx (show MI (seti x 0 0) a r nm ld im kp mn from hM) hf6 (by decide) (by decide) (by decide)
  have hM6' : ∀ v, MIx (seti x6 0 v) := fun v => MIx.of (show MI (seti x6 0 v) a r nm ld im kp mn from hM6)
  have hz6 : KpZ x x6 := ⟨hw6, hf6.kf (by decide)⟩
  have c86 : ∀ (v : Int32) (y : MS) (at1 : Int32) (nv : Int64) (hMy : MIx y) (hMy' : ∀ v, MIx (seti y 0 v)) (hwy : KpZ x y) (h : hp) (hm : Mo D am ad y h) (hs : Sm am ad h0 h), G p l e (rmL 5) s m args below meth c 5 D z0 E (MQp D am ad h0 (fun r x' => (∃ v, r = some (.int v)) ∧ MIx x' ∧ KpZ x x')) 0 0 86 [(4, .int at1), (2, .long nv), (0, .ref am), (1, .int v)] [] h 0 0 := by
    intro v y at1 nv hMy hMy' hwy h hm hs
    refine g_iload cx 0 d_8_36_86 rfl ?_
    refine g_if_ge cx d_8_36_88 rfl (fun c88 => ?_) (fun c88 => ?_)
    · skip
      refine g_iload cx 0 d_8_36_99 rfl ?_
      first
        | exact m_iret cx d_8_36_101 rfl rfl hm hs ⟨⟨_, rfl⟩, hMy, hwy⟩
        | exact m_iret cx d_8_36_101 rfl rfl hm hs ⟨⟨_, rfl⟩, hMy' _, hwy⟩
    · skip
      refine g_aload_n cx 2 d_8_36_91 rfl rfl ?_
      refine g_iconst cx (v := 2) d_8_36_92 (by decide) ?_
      refine m_call 5 cx (As := [.int _]) (n := 1) (mc_fails hSt hA y _) d_8_36_93 t_1070 t_1072 ts_43 t_1073 rfl ⟨rfl, by decide +kernel⟩ rfl ⟨by decide, by decide⟩ (Nat.le_of_ble_eq_true rfl) hm hs (fun v93 x93 h hm hs r93 => ?_)
      obtain ⟨rfl, rfl⟩ := r93
      refine g_goto cx d_8_36_96 rfl ?_
      first
        | exact m_iret cx d_8_36_101 rfl rfl hm hs ⟨⟨_, rfl⟩, hMy, hwy⟩
        | exact m_iret cx d_8_36_101 rfl rfl hm hs ⟨⟨_, rfl⟩, hMy' _, hwy⟩
  have c27 : ∀ (nv : Int64) (h : hp) (hm : Mo D am ad x6 h) (hs : Sm am ad h0 h), G p l e (rmL 5) s m args below meth c 5 D z0 E (MQp D am ad h0 (fun r x' => (∃ v, r = some (.int v)) ∧ MIx x' ∧ KpZ x x')) 0 0 27 [(2, .long nv), (0, .ref am), (1, .int v)] [] h 0 0 := by
    intro nv h hm hs
    refine g_lload_n cx 0 d_8_36_27 rfl rfl ?_
    refine g_lconst cx (v := 0) d_8_36_28 (by decide) ?_
    refine g_lcmp cx d_8_36_29 ?_
    refine g_if_eq cx d_8_36_30 rfl (fun c30 => ?_) (fun c30 => ?_)
    · skip
      refine g_aload_n cx 1 d_8_36_54 rfl rfl ?_
      refine g_iconst cx (v := 1) d_8_36_55 (by decide) ?_
      refine m_call 5 cx (As := [.int _]) (n := 1) (mc_fails hSt hA x6 _) d_8_36_56 t_1070 t_1072 ts_43 t_1073 rfl ⟨rfl, by decide +kernel⟩ rfl ⟨by decide, by decide⟩ (Nat.le_of_ble_eq_true rfl) hm hs (fun v56 x56 h hm hs r56 => ?_)
      obtain ⟨rfl, rfl⟩ := r56
      exact m_iret cx d_8_36_59 rfl rfl hm hs ⟨⟨_, rfl⟩, hM6' _, hz6⟩
    · skip
      refine g_iload_n cx 2 d_8_36_33 rfl rfl ?_
      refine g_if_lt cx d_8_36_34 rfl (fun c34 => ?_) (fun c34 => ?_)
      · skip
        refine g_aload_n cx 1 d_8_36_54 rfl rfl ?_
        refine g_iconst cx (v := 1) d_8_36_55 (by decide) ?_
        refine m_call 5 cx (As := [.int _]) (n := 1) (mc_fails hSt hA x6 _) d_8_36_56 t_1070 t_1072 ts_43 t_1073 rfl ⟨rfl, by decide +kernel⟩ rfl ⟨by decide, by decide⟩ (Nat.le_of_ble_eq_true rfl) hm hs (fun v56 x56 h hm hs r56 => ?_)
        obtain ⟨rfl, rfl⟩ := r56
        exact m_iret cx d_8_36_59 rfl rfl hm hs ⟨⟨_, rfl⟩, hM6' _, hz6⟩
      · skip
        refine g_iload_n cx 2 d_8_36_37 rfl rfl ?_
        refine g_aload_n cx 1 d_8_36_38 rfl rfl ?_
        refine m_get cx (k := 11) d_8_36_39 t_909 ⟨by decide, rfl⟩ hm rfl ?_
        refine g_icmp_ge cx d_8_36_42 rfl (fun c42 => ?_) (fun c42 => ?_)
        · skip
          refine g_aload_n cx 1 d_8_36_54 rfl rfl ?_
          refine g_iconst cx (v := 1) d_8_36_55 (by decide) ?_
          refine m_call 5 cx (As := [.int _]) (n := 1) (mc_fails hSt hA x6 _) d_8_36_56 t_1070 t_1072 ts_43 t_1073 rfl ⟨rfl, by decide +kernel⟩ rfl ⟨by decide, by decide⟩ (Nat.le_of_ble_eq_true rfl) hm hs (fun v56 x56 h hm hs r56 => ?_)
          obtain ⟨rfl, rfl⟩ := r56
          exact m_iret cx d_8_36_59 rfl rfl hm hs ⟨⟨_, rfl⟩, hM6' _, hz6⟩
        · skip
          obtain ⟨q, hq, hv, -⟩ := pk_mu c34 (fun z => c42 (by show x6.1 11 ≤ v; rw [hM6.2.1.1]; exact z)) (by have := hM6.2.1.2; omega)
          have hr8 := hM6.2.1.2
          refine g_aload_n cx 1 d_8_36_45 rfl rfl ?_
          refine m_get cx (k := 22) d_8_36_46 t_920 ⟨by decide, rfl⟩ hm rfl ?_
          refine g_iload_n cx 2 d_8_36_49 rfl rfl ?_
          refine m_ld4 cx d_8_36_50 (by decide) hm hv ⟨(show q < 8 by omega), by decide⟩ ?_
          refine g_if_eq cx d_8_36_51 rfl (fun c51 => ?_) (fun c51 => ?_)
          · skip
            subst hv
            have hM7 : MI (seti x6 25 0) a r nm ld im kp 0 := by
              obtain ⟨q1, q2, q3, q4, q5, q6, q7, q8, q9, q10⟩ := id hM6
              exact ⟨q1, q2, q3, q4, q5, q6, q7, q8, q9, rfl, by omega⟩
            have hK7 : IKp (seti x6 25 0) nm kp := hM7.2.2.2.2.2.2.2.2.1
            have hN7 : INm (seti x6 25 0) nm := hM7.2.2.1
            have hq8 : q < 8 := by omega
            refine g_aload_n cx 1 d_8_36_60 rfl rfl ?_
            refine g_iconst cx (v := 0) d_8_36_61 (by decide) ?_
            refine m_put cx (k := 25) hA d_8_36_62 t_923 ⟨by decide, rfl, rfl, rfl, by decide +kernel⟩ hm hs (fun h hm hs => ?_)
            refine g_aload_n cx 1 d_8_36_65 rfl rfl ?_
            refine g_iload_n cx 2 d_8_36_66 rfl rfl ?_
            refine g_lload_n cx 0 d_8_36_67 rfl rfl ?_
            refine m_call 5 cx (As := [.int (nI q), .long nv]) (n := 2) (mc_keptOf hSt hA (seti x6 25 0) q (kp q) nv hq8 (hK7 q hq8).1 (hK7.le hN7 hq8)) d_8_36_68 t_1078 t_1080 ts_44 t_1081 rfl ⟨rfl, by decide +kernel⟩ rfl ⟨by decide, by decide⟩ (Nat.le_of_ble_eq_true rfl) hm hs (fun v68 x68 h hm hs r68 => ?_)
            obtain ⟨e68, r68⟩ := r68
            rw [e68] at hm
            rcases r68 with ⟨j, hj, hjx, rfl⟩ | ⟨rfl, hno⟩
            · skip
              refine g_topi (fun at1 eat1 => ?_)
              obtain ⟨⟨w9, hw9, hwx⟩, -⟩ := (hK7 q hq8).2.1 j hj
              obtain rfl : at1 = nI w9 := eat1.trans hwx
              refine g_istore cx (lv' := [(4, .int (nI w9)), (2, .long nv), (0, .ref am), (1, .int (nI q))]) d_8_36_71 (by decide) rfl ?_
              refine g_iload cx 0 d_8_36_73 rfl ?_
              refine g_if_ge cx d_8_36_75 rfl (fun c75 => ?_) (fun c75 => absurd (nI_pos' (by omega)) c75)
              exact c86 (nI q) (seti x6 25 0) (nI w9) nv (MIx.of hM7) (fun v => MIx.of (show MI (seti (seti x6 25 0) 0 v) a r nm ld im kp 0 from hM7)) hz6 h hm hs
            · skip
              refine g_topi (fun at1 eat1 => ?_)
              obtain rfl : at1 = -1 := eat1
              refine g_istore cx (lv' := [(4, .int (-1)), (2, .long nv), (0, .ref am), (1, .int (nI q))]) d_8_36_71 (by decide) rfl ?_
              refine g_iload cx 0 d_8_36_73 rfl ?_
              refine g_if_ge cx d_8_36_75 rfl (fun c75 => absurd c75 (by decide)) (fun c75 => ?_)
              refine g_aload_n cx 2 d_8_36_78 rfl rfl ?_
              refine g_iload_n cx 3 d_8_36_79 rfl rfl ?_
              refine g_lload_n cx 1 d_8_36_80 rfl rfl ?_
              refine m_call 5 cx (As := [.int (nI q), .long nv]) (n := 2) (mc_search hSt hA (seti x6 25 0) q nv a r nm ld im kp 0 hM7 hq (by decide) hno) d_8_36_81 t_1082 t_1084 ts_45 t_1085 rfl ⟨rfl, by decide +kernel⟩ rfl ⟨by decide, by decide⟩ (Nat.le_of_ble_eq_true rfl) hm hs (fun v81 x81 h hm hs r81 => ?_)
              obtain ⟨⟨v81, rfl⟩, hM81, hw81⟩ := r81
              refine g_topi (fun at2 eat2 => ?_)
              refine g_istore cx (lv' := [(4, .int at2), (2, .long nv), (0, .ref am), (1, .int (nI q))]) d_8_36_84 (by decide) rfl ?_
              exact c86 (nI q) x81 at2 nv hM81 (fun v => by
                obtain ⟨a9, r9, n9, l9, i9, k9, m9, z⟩ := hM81
                exact ⟨a9, r9, n9, l9, i9, k9, m9, z⟩) (KpR.z hz6 hw81) h hm hs
          · skip
            refine g_aload_n cx 1 d_8_36_54 rfl rfl ?_
            refine g_iconst cx (v := 1) d_8_36_55 (by decide) ?_
            refine m_call 5 cx (As := [.int _]) (n := 1) (mc_fails hSt hA x6 _) d_8_36_56 t_1070 t_1072 ts_43 t_1073 rfl ⟨rfl, by decide +kernel⟩ rfl ⟨by decide, by decide⟩ (Nat.le_of_ble_eq_true rfl) hm hs (fun v56 x56 h hm hs r56 => ?_)
            obtain ⟨rfl, rfl⟩ := r56
            exact m_iret cx d_8_36_59 rfl rfl hm hs ⟨⟨_, rfl⟩, hM6' _, hz6⟩
  refine g_aload_n cx 0 d_8_36_9 rfl rfl ?_
  refine m_get cx (k := 3) d_8_36_10 t_901 ⟨by decide, rfl⟩ hm rfl ?_
  refine g_iconst cx (v := 1) d_8_36_13 (by decide) ?_
  refine g_icmp_ne cx d_8_36_14 rfl (fun c14 => ?_) (fun c14 => ?_)
  · skip
    refine g_lconst cx (v := 0) d_8_36_25 (by decide) ?_
    refine g_topl (fun nv env => ?_)
    refine g_lstore_n cx (lv' := [(2, .long nv), (0, .ref am), (1, .int v)]) d_8_36_26 rfl (by decide) rfl ?_
    exact c27 nv h hm hs
  · skip
    refine g_aload_n cx 0 d_8_36_17 rfl rfl ?_
    refine g_iconst cx (v := 0) d_8_36_18 (by decide) ?_
    refine m_call 5 cx (As := [.int (nI 0)]) (n := 1) (mc_nameOf hSt hA x6 0 pn bg en hpt (by decide)) d_8_36_19 t_1025 t_1027 ts_32 t_1028 rfl ⟨rfl, by decide +kernel⟩ rfl ⟨by decide, by decide⟩ (Nat.le_of_ble_eq_true rfl) hm hs (fun v19 x19 h hm hs r19 => ?_)
    obtain ⟨e19, V19, rfl⟩ := r19
    rw [e19] at hm
    refine g_goto cx d_8_36_22 rfl ?_
    refine g_topl (fun nv env => ?_)
    refine g_lstore_n cx (lv' := [(2, .long nv), (0, .ref am), (1, .int v)]) d_8_36_26 rfl (by decide) rfl ?_
    exact c27 nv h hm hs
end M10
