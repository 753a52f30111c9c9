/-! The reference's small methods. -/
theorem inc1 (j : Nat) : nI j + Int32.ofInt 1 = nI (j + 1) := nI_1 j
section M1
variable {l : Launch} {D : va_G} {z0 : Nat} {E : State → Prop} {am : Nat} {ad : Nat → Nat}
set_option maxHeartbeats 4000000 in
theorem mc_fails (hSt : Stb z0 E) (hA : Ad am ad) (x : MS) (v : Int32) : MC l y_176 prog_8_method_3_code 2 (Option.some Jvm.ClassFile.FieldType.int) 0 D z0 E am ad [.int v] x (fun r x' => r = some (.int 0) ∧ x' = seti x 0 v) := by
  refine mc_of hSt rfl (Nat.le_of_ble_eq_true rfl) ?_
  intro h0 h p e s m args below meth c cx hm hs
  refine g_aload_n cx 0 d_8_3_0 rfl rfl ?_
  refine g_iload_n cx 1 d_8_3_1 rfl rfl ?_
  refine m_put cx (k := 0) hA d_8_3_2 t_898 ⟨by decide, rfl, rfl, rfl, by decide +kernel⟩ hm hs (fun h hm hs => ?_)
  refine g_iconst cx (v := 0) d_8_3_5 (by decide) ?_
  exact m_iret cx d_8_3_6 rfl rfl hm hs ⟨rfl, rfl⟩
set_option maxHeartbeats 4000000 in
theorem mc_write (hSt : Stb z0 E) (hA : Ad am ad) (x : MS) (v : Int32) (w : Nat) (hw : x.1 2 = nI w) (hwl : w ≤ 30) : MC l y_157 prog_8_method_4_code 2 (Option.some Jvm.ClassFile.FieldType.boolean) 0 D z0 E am ad [.int v] x (fun r x' => ((¬ v < 32 ∧ ¬ 126 < v ∧ w < 30) ∧ r = some (.int 1) ∧ x' = seti (seta (seti x 0 0) 1 w (vp_nar .char v)) 2 (nI (w + 1))) ∨ (¬ (¬ v < 32 ∧ ¬ 126 < v ∧ w < 30) ∧ r = some (.int 0) ∧ x' = seti x 0 0)) := by
  refine mc_of hSt rfl (Nat.le_of_ble_eq_true rfl) ?_
  intro h0 h p e s m args below meth c cx hm hs
  refine g_aload_n cx 0 d_8_4_0 rfl rfl ?_
  refine g_iconst cx (v := 0) d_8_4_1 (by decide) ?_
  refine m_put cx (k := 0) hA d_8_4_2 t_898 ⟨by decide, rfl, rfl, rfl, by decide +kernel⟩ hm hs (fun h hm hs => ?_)
  refine g_iload_n cx 1 d_8_4_5 rfl rfl ?_
  refine g_bipush cx (v := 32) d_8_4_6 (by decide) ?_
  refine g_icmp_lt cx d_8_4_8 rfl (fun c8 => ?_) (fun c8 => ?_)
  · skip
    have hn9 : ¬ (¬ v < 32 ∧ ¬ 126 < v ∧ w < 30) := by
      intro q
      first
        | exact q.1 c8
        | exact q.2.1 c14
        | exact c23 (by show x.1 2 < 30; rw [hw]; exact (nI_ltI (b := 30) (by omega) (by decide)).mpr q.2.2)
    refine g_iconst cx (v := 0) d_8_4_26 (by decide) ?_
    exact m_iret cx d_8_4_27 rfl rfl hm hs (Or.inr ⟨hn9, rfl, rfl⟩)
  · skip
    refine g_iload_n cx 1 d_8_4_11 rfl rfl ?_
    refine g_bipush cx (v := 126) d_8_4_12 (by decide) ?_
    refine g_icmp_gt cx d_8_4_14 rfl (fun c14 => ?_) (fun c14 => ?_)
    · skip
      have hn9 : ¬ (¬ v < 32 ∧ ¬ 126 < v ∧ w < 30) := by
        intro q
        first
          | exact q.1 c8
          | exact q.2.1 c14
          | exact c23 (by show x.1 2 < 30; rw [hw]; exact (nI_ltI (b := 30) (by omega) (by decide)).mpr q.2.2)
      refine g_iconst cx (v := 0) d_8_4_26 (by decide) ?_
      exact m_iret cx d_8_4_27 rfl rfl hm hs (Or.inr ⟨hn9, rfl, rfl⟩)
    · skip
      refine g_aload_n cx 0 d_8_4_17 rfl rfl ?_
      refine m_get cx (k := 2) d_8_4_18 t_900 ⟨by decide, rfl⟩ hm rfl ?_
      refine g_bipush cx (v := 30) d_8_4_21 (by decide) ?_
      refine g_icmp_lt cx d_8_4_23 rfl (fun c23 => ?_) (fun c23 => ?_)
      · skip
        have hw30 : w < 30 := by
          have h9 : nI w < nI 30 := by rw [← hw]; exact c23
          exact (nI_ltI (by omega) (by decide)).mp h9
        refine g_aload_n cx 0 d_8_4_28 rfl rfl ?_
        refine m_get cx (k := 1) d_8_4_29 t_899 ⟨by decide, rfl⟩ hm rfl ?_
        refine g_aload_n cx 0 d_8_4_32 rfl rfl ?_
        refine m_get cx (k := 2) d_8_4_33 t_900 ⟨by decide, rfl⟩ hm rfl ?_
        refine g_iload_n cx 1 d_8_4_36 rfl rfl ?_
        refine m_st2 cx hA d_8_4_37 (by decide) hm hs hw ⟨(show w < 30 from hw30), by decide⟩ (fun h hm hs => ?_)
        refine g_aload_n cx 0 d_8_4_38 rfl rfl ?_
        refine g_dup cx d_8_4_39 rfl ?_
        refine m_get cx (k := 2) d_8_4_40 t_900 ⟨by decide, rfl⟩ hm rfl ?_
        refine g_iconst cx (v := 1) d_8_4_43 (by decide) ?_
        refine g_iadd cx d_8_4_44 ?_
        refine m_put cx (k := 2) hA d_8_4_45 t_900 ⟨by decide, rfl, rfl, rfl, by decide +kernel⟩ hm hs (fun h hm hs => ?_)
        refine g_iconst cx (v := 1) d_8_4_48 (by decide) ?_
        exact m_iret cx d_8_4_49 rfl rfl hm hs (Or.inl ⟨⟨c8, c14, hw30⟩, rfl, by show seti _ 2 (x.1 2 + 1) = _; rw [hw, nI_1]⟩)
      · skip
        have hn9 : ¬ (¬ v < 32 ∧ ¬ 126 < v ∧ w < 30) := by
          intro q
          first
            | exact q.1 c8
            | exact q.2.1 c14
            | exact c23 (by show x.1 2 < 30; rw [hw]; exact (nI_ltI (b := 30) (by omega) (by decide)).mpr q.2.2)
        refine g_iconst cx (v := 0) d_8_4_26 (by decide) ?_
        exact m_iret cx d_8_4_27 rfl rfl hm hs (Or.inr ⟨hn9, rfl, rfl⟩)
set_option maxHeartbeats 4000000 in
theorem mc_note (hSt : Stb z0 E) (hA : Ad am ad) (x : MS) (v : Int32) (n : Nat) (hn : x.1 25 = nI n) (hnl : n < 2 ^ 30) : MC l y_181 prog_8_method_27_code 2 (Option.none) 0 D z0 E am ad [.int v] x (fun r x' => r = none ∧ x' = seti (if n < 20 then seta x 28 n v else x) 25 (nI (n + 1))) := by
  refine mc_of hSt rfl (Nat.le_of_ble_eq_true rfl) ?_
  intro h0 h p e s m args below meth c cx hm hs
  refine g_aload_n cx 0 d_8_27_0 rfl rfl ?_
  refine m_get cx (k := 25) d_8_27_1 t_923 ⟨by decide, rfl⟩ hm rfl ?_
  refine g_bipush cx (v := 20) d_8_27_4 (by decide) ?_
  refine g_icmp_ge cx d_8_27_6 rfl (fun c6 => ?_) (fun c6 => ?_)
  · skip
    have hz : ¬ n < 20 ∨ n < 20 := (Nat.lt_or_ge n 20).symm.imp (fun q => Nat.not_lt.mpr q) id
    refine g_aload_n cx 0 d_8_27_19 rfl rfl ?_
    refine g_dup cx d_8_27_20 rfl ?_
    refine m_get cx (k := 25) d_8_27_21 t_923 ⟨by decide, rfl⟩ hm rfl ?_
    refine g_iconst cx (v := 1) d_8_27_24 (by decide) ?_
    refine g_iadd cx d_8_27_25 ?_
    refine m_put cx (k := 25) hA d_8_27_26 t_923 ⟨by decide, rfl, rfl, rfl, by decide +kernel⟩ hm hs (fun h hm hs => ?_)
    exact m_vret cx d_8_27_29 rfl hm hs ⟨rfl, by
  first
    | (rw [if_pos hn20]; show seti _ 25 (x.1 25 + 1) = _; rw [hn, nI_1])
    | (rw [if_neg (fun q => absurd c6 (by rw [show (20 : Int32) = nI 20 from rfl]; show ¬ nI 20 ≤ x.1 25; rw [hn]; exact nI_ge q (by omega)))]; show seti _ 25 (x.1 25 + 1) = _; rw [hn, nI_1])⟩
  · skip
    have hn20 : n < 20 := by
      have h9 : ¬ nI 20 ≤ nI n := by rw [← hn]; exact c6
      exact Nat.lt_of_not_le (fun q => h9 (nI_le q (by omega)))
    refine g_aload_n cx 0 d_8_27_9 rfl rfl ?_
    refine m_get cx (k := 28) d_8_27_10 t_926 ⟨by decide, rfl⟩ hm rfl ?_
    refine g_aload_n cx 0 d_8_27_13 rfl rfl ?_
    refine m_get cx (k := 25) d_8_27_14 t_923 ⟨by decide, rfl⟩ hm rfl ?_
    refine g_iload_n cx 1 d_8_27_17 rfl rfl ?_
    refine m_st1 cx hA d_8_27_18 (by decide) hm hs hn ⟨(show n < 20 from hn20), by decide⟩ (fun h hm hs => ?_)
    have hz : ¬ n < 20 ∨ n < 20 := (Nat.lt_or_ge n 20).symm.imp (fun q => Nat.not_lt.mpr q) id
    refine g_aload_n cx 0 d_8_27_19 rfl rfl ?_
    refine g_dup cx d_8_27_20 rfl ?_
    refine m_get cx (k := 25) d_8_27_21 t_923 ⟨by decide, rfl⟩ hm rfl ?_
    refine g_iconst cx (v := 1) d_8_27_24 (by decide) ?_
    refine g_iadd cx d_8_27_25 ?_
    refine m_put cx (k := 25) hA d_8_27_26 t_923 ⟨by decide, rfl, rfl, rfl, by decide +kernel⟩ hm hs (fun h hm hs => ?_)
    exact m_vret cx d_8_27_29 rfl hm hs ⟨rfl, by
  first
    | (rw [if_pos hn20]; show seti _ 25 (x.1 25 + 1) = _; rw [hn, nI_1])
    | (rw [if_neg (fun q => absurd c6 (by rw [show (20 : Int32) = nI 20 from rfl]; show ¬ nI 20 ≤ x.1 25; rw [hn]; exact nI_ge q (by omega)))]; show seti _ 25 (x.1 25 + 1) = _; rw [hn, nI_1])⟩
set_option maxHeartbeats 4000000 in
theorem mc_archiveOf (hSt : Stb z0 E) (hA : Ad am ad) (x : MS) (v : Int32) (a : Nat) (ha : x.1 6 = nI a) (hal : a ≤ 6) : MC l y_166 prog_8_method_11_code 3 (Option.some Jvm.ClassFile.FieldType.int) 0 D z0 E am ad [.int v] x (fun r x' => x' = x ∧ ((∃ j, j < a ∧ r = some (.int (nI j))) ∨ r = some (.int (-1)))) := by
  refine mc_of hSt rfl (Nat.le_of_ble_eq_true rfl) ?_
  intro h0 h p e s m args below meth c cx hm hs
  have lp : ∀ (n : Nat) (j : Nat), j ≤ a → a - j < n → G p l e (rmL 0) s m args below meth c 3 D z0 E (MQp D am ad h0 (fun r x' => x' = x ∧ ((∃ j, j < a ∧ r = some (.int (nI j))) ∨ r = some (.int (-1))))) 0 0 2 [(2, .int (nI j)), (0, .ref am), (1, .int v)] [] h 0 0 := by
    intro n
    induction n with
    | zero => intro j hj0 hn; exact absurd hn (Nat.not_lt_zero _)
    | succ n ih =>
      intro j hj0 hn
      refine g_iload_n cx 0 d_8_11_2 rfl rfl ?_
      refine g_aload_n cx 1 d_8_11_3 rfl rfl ?_
      refine m_get cx (k := 6) d_8_11_4 t_904 ⟨by decide, rfl⟩ hm rfl ?_
      refine g_icmp_ge cx d_8_11_7 rfl (fun c7 => ?_) (fun c7 => ?_)
      · skip
        refine g_iconst cx (v := (-1)) d_8_11_28 (by decide) ?_
        exact m_iret cx d_8_11_29 rfl rfl hm hs ⟨rfl, Or.inr rfl⟩
      · skip
        have hj : j < a := Nat.lt_of_not_le (fun q => c7 (by show x.1 6 ≤ nI j; rw [ha]; exact nI_le q (by omega)))
        refine g_aload_n cx 1 d_8_11_10 rfl rfl ?_
        refine m_get cx (k := 7) d_8_11_11 t_905 ⟨by decide, rfl⟩ hm rfl ?_
        refine g_iload_n cx 0 d_8_11_14 rfl rfl ?_
        refine m_ld1 cx d_8_11_15 (by decide) hm rfl ⟨(show j < 6 by omega), by decide⟩ ?_
        refine g_iload_n cx 2 d_8_11_16 rfl rfl ?_
        refine g_icmp_ne cx d_8_11_17 rfl (fun c17 => ?_) (fun c17 => ?_)
        · skip
          refine g_iinc cx 0 (lv' := [(2, .int (nI (j + 1))), (0, .ref am), (1, .int v)]) d_8_11_22 rfl (inc1 j) (by decide) rfl ?_
          refine g_goto cx d_8_11_25 rfl ?_
          exact ih (j + 1) (by omega) (by omega)
        · skip
          refine g_iload_n cx 0 d_8_11_20 rfl rfl ?_
          exact m_iret cx d_8_11_21 rfl rfl hm hs ⟨rfl, Or.inl ⟨j, hj, rfl⟩⟩
  refine g_iconst cx (v := 0) d_8_11_0 (by decide) ?_
  refine g_topi (fun k0 ek0 => ?_)
  obtain rfl : k0 = nI 0 := ek0
  refine g_istore_n cx (lv' := [(2, .int (nI 0)), (0, .ref am), (1, .int v)]) d_8_11_1 rfl (by decide) rfl ?_
  exact lp (a + 1) 0 (by omega) (by omega)
set_option maxHeartbeats 4000000 in
theorem mc_realmOf (hSt : Stb z0 E) (hA : Ad am ad) (x : MS) (v : Int32) (a : Nat) (ha : x.1 11 = nI a) (hal : a ≤ 8) : MC l y_170 prog_8_method_12_code 3 (Option.some Jvm.ClassFile.FieldType.int) 0 D z0 E am ad [.int v] x (fun r x' => x' = x ∧ ((∃ j, j < a ∧ r = some (.int (nI j))) ∨ r = some (.int (-1)))) := by
  refine mc_of hSt rfl (Nat.le_of_ble_eq_true rfl) ?_
  intro h0 h p e s m args below meth c cx hm hs
  have lp : ∀ (n : Nat) (j : Nat), j ≤ a → a - j < n → G p l e (rmL 0) s m args below meth c 3 D z0 E (MQp D am ad h0 (fun r x' => x' = x ∧ ((∃ j, j < a ∧ r = some (.int (nI j))) ∨ r = some (.int (-1))))) 0 0 2 [(2, .int (nI j)), (0, .ref am), (1, .int v)] [] h 0 0 := by
    intro n
    induction n with
    | zero => intro j hj0 hn; exact absurd hn (Nat.not_lt_zero _)
    | succ n ih =>
      intro j hj0 hn
      refine g_iload_n cx 0 d_8_12_2 rfl rfl ?_
      refine g_aload_n cx 1 d_8_12_3 rfl rfl ?_
      refine m_get cx (k := 11) d_8_12_4 t_909 ⟨by decide, rfl⟩ hm rfl ?_
      refine g_icmp_ge cx d_8_12_7 rfl (fun c7 => ?_) (fun c7 => ?_)
      · skip
        refine g_iconst cx (v := (-1)) d_8_12_37 (by decide) ?_
        exact m_iret cx d_8_12_38 rfl rfl hm hs ⟨rfl, Or.inr rfl⟩
      · skip
        have hj : j < a := Nat.lt_of_not_le (fun q => c7 (by show x.1 11 ≤ nI j; rw [ha]; exact nI_le q (by omega)))
        refine g_aload_n cx 1 d_8_12_10 rfl rfl ?_
        refine m_get cx (k := 12) d_8_12_11 t_910 ⟨by decide, rfl⟩ hm rfl ?_
        refine g_iload_n cx 0 d_8_12_14 rfl rfl ?_
        refine m_ld1 cx d_8_12_15 (by decide) hm rfl ⟨(show j < 8 by omega), by decide⟩ ?_
        refine g_iload_n cx 2 d_8_12_16 rfl rfl ?_
        refine g_icmp_ne cx d_8_12_17 rfl (fun c17 => ?_) (fun c17 => ?_)
        · skip
          refine g_iinc cx 0 (lv' := [(2, .int (nI (j + 1))), (0, .ref am), (1, .int v)]) d_8_12_31 rfl (inc1 j) (by decide) rfl ?_
          refine g_goto cx d_8_12_34 rfl ?_
          exact ih (j + 1) (by omega) (by omega)
        · skip
          refine g_aload_n cx 1 d_8_12_20 rfl rfl ?_
          refine m_get cx (k := 22) d_8_12_21 t_920 ⟨by decide, rfl⟩ hm rfl ?_
          refine g_iload_n cx 0 d_8_12_24 rfl rfl ?_
          refine m_ld4 cx d_8_12_25 (by decide) hm rfl ⟨(show j < 8 by omega), by decide⟩ ?_
          refine g_if_ne cx d_8_12_26 rfl (fun c26 => ?_) (fun c26 => ?_)
          · skip
            refine g_iinc cx 0 (lv' := [(2, .int (nI (j + 1))), (0, .ref am), (1, .int v)]) d_8_12_31 rfl (inc1 j) (by decide) rfl ?_
            refine g_goto cx d_8_12_34 rfl ?_
            exact ih (j + 1) (by omega) (by omega)
          · skip
            refine g_iload_n cx 0 d_8_12_29 rfl rfl ?_
            exact m_iret cx d_8_12_30 rfl rfl hm hs ⟨rfl, Or.inl ⟨j, hj, rfl⟩⟩
  refine g_iconst cx (v := 0) d_8_12_0 (by decide) ?_
  refine g_topi (fun k0 ek0 => ?_)
  obtain rfl : k0 = nI 0 := ek0
  refine g_istore_n cx (lv' := [(2, .int (nI 0)), (0, .ref am), (1, .int v)]) d_8_12_1 rfl (by decide) rfl ?_
  exact lp (a + 1) 0 (by omega) (by omega)
set_option maxHeartbeats 4000000 in
theorem mc_found (hSt : Stb z0 E) (hA : Ad am ad) (x : MS) (v : Int32) (q : Nat) (hq : q < 6) : MC l y_187 prog_8_method_29_code 3 (Option.some Jvm.ClassFile.FieldType.int) 0 D z0 E am ad [.int v, .int (nI q)] x (fun r x' => r = some (.int (16 * v + nI q)) ∧ x' = seta x 9 q (x.2.1 9 q + 1)) := by
  refine mc_of hSt rfl (Nat.le_of_ble_eq_true rfl) ?_
  intro h0 h p e s m args below meth c cx hm hs
  refine g_aload_n cx 0 d_8_29_0 rfl rfl ?_
  refine m_get cx (k := 9) d_8_29_1 t_907 ⟨by decide, rfl⟩ hm rfl ?_
  refine g_iload_n cx 2 d_8_29_4 rfl rfl ?_
  refine g_dup2_11 cx d_8_29_5 rfl rfl ?_
  refine m_ld1 cx d_8_29_6 (by decide) hm rfl ⟨(show q < 6 from hq), by decide⟩ ?_
  refine g_iconst cx (v := 1) d_8_29_7 (by decide) ?_
  refine g_iadd cx d_8_29_8 ?_
  refine m_st1 cx hA d_8_29_9 (by decide) hm hs rfl ⟨(show q < 6 from hq), by decide⟩ (fun h hm hs => ?_)
  refine g_bipush cx (v := 16) d_8_29_10 (by decide) ?_
  refine g_iload_n cx 1 d_8_29_12 rfl rfl ?_
  refine g_imul cx d_8_29_13 ?_
  refine g_iload_n cx 2 d_8_29_14 rfl rfl ?_
  refine g_iadd cx d_8_29_15 ?_
  exact m_iret cx d_8_29_16 rfl rfl hm hs ⟨rfl, rfl⟩
set_option maxHeartbeats 4000000 in
theorem mc_isRealm (hSt : Stb z0 E) (hA : Ad am ad) (x : MS) (v : Int32) (a : Nat) (ha : x.1 11 = nI a) (hal : a ≤ 8) : MC l y_194 prog_8_method_39_code 2 (Option.some Jvm.ClassFile.FieldType.boolean) 0 D z0 E am ad [.int v] x (fun r x' => x' = x ∧ ((r = some (.int 1) ∧ ∃ j, j < a ∧ v = nI j ∧ x.2.1 22 j = 0) ∨ r = some (.int 0))) := by
  refine mc_of hSt rfl (Nat.le_of_ble_eq_true rfl) ?_
  intro h0 h p e s m args below meth c cx hm hs
  refine g_iload_n cx 1 d_8_39_0 rfl rfl ?_
  refine g_if_lt cx d_8_39_1 rfl (fun c1 => ?_) (fun c1 => ?_)
  · skip
    refine g_iconst cx (v := 0) d_8_39_25 (by decide) ?_
    first
      | exact m_iret cx d_8_39_26 rfl rfl hm hs ⟨rfl, Or.inl ⟨rfl, j, hj, hv, c18⟩⟩
      | exact m_iret cx d_8_39_26 rfl rfl hm hs ⟨rfl, Or.inr rfl⟩
  · skip
    refine g_iload_n cx 1 d_8_39_4 rfl rfl ?_
    refine g_aload_n cx 0 d_8_39_5 rfl rfl ?_
    refine m_get cx (k := 11) d_8_39_6 t_909 ⟨by decide, rfl⟩ hm rfl ?_
    refine g_icmp_ge cx d_8_39_9 rfl (fun c9 => ?_) (fun c9 => ?_)
    · skip
      refine g_iconst cx (v := 0) d_8_39_25 (by decide) ?_
      first
        | exact m_iret cx d_8_39_26 rfl rfl hm hs ⟨rfl, Or.inl ⟨rfl, j, hj, hv, c18⟩⟩
        | exact m_iret cx d_8_39_26 rfl rfl hm hs ⟨rfl, Or.inr rfl⟩
    · skip
      obtain ⟨j, hj, hv, -⟩ := pk_mu c1 (fun q => c9 (by show x.1 11 ≤ v; rw [ha]; exact q)) (by omega)
      refine g_aload_n cx 0 d_8_39_12 rfl rfl ?_
      refine m_get cx (k := 22) d_8_39_13 t_920 ⟨by decide, rfl⟩ hm rfl ?_
      refine g_iload_n cx 1 d_8_39_16 rfl rfl ?_
      refine m_ld4 cx d_8_39_17 (by decide) hm hv ⟨(show j < 8 by omega), by decide⟩ ?_
      refine g_if_ne cx d_8_39_18 rfl (fun c18 => ?_) (fun c18 => ?_)
      · skip
        refine g_iconst cx (v := 0) d_8_39_25 (by decide) ?_
        first
          | exact m_iret cx d_8_39_26 rfl rfl hm hs ⟨rfl, Or.inl ⟨rfl, j, hj, hv, c18⟩⟩
          | exact m_iret cx d_8_39_26 rfl rfl hm hs ⟨rfl, Or.inr rfl⟩
      · skip
        refine g_iconst cx (v := 1) d_8_39_21 (by decide) ?_
        refine g_goto cx d_8_39_22 rfl ?_
        first
          | exact m_iret cx d_8_39_26 rfl rfl hm hs ⟨rfl, Or.inl ⟨rfl, j, hj, hv, c18⟩⟩
          | exact m_iret cx d_8_39_26 rfl rfl hm hs ⟨rfl, Or.inr rfl⟩
set_option maxHeartbeats 4000000 in
theorem mc_isShut (hSt : Stb z0 E) (hA : Ad am ad) (x : MS) (a : Nat) (ha : x.1 11 = nI a) (hal : a ≤ 8) : MC l y_172 prog_8_method_18_code 1 (Option.some Jvm.ClassFile.FieldType.boolean) 0 D z0 E am ad [] x (fun r x' => x' = x ∧ (r = some (.int 1) ∨ (r = some (.int 0) ∧ 0 < a ∧ x.2.1 22 (a - 1) = 0))) := by
  refine mc_of hSt rfl (Nat.le_of_ble_eq_true rfl) ?_
  intro h0 h p e s m args below meth c cx hm hs
  refine g_aload_n cx 0 d_8_18_0 rfl rfl ?_
  refine m_get cx (k := 11) d_8_18_1 t_909 ⟨by decide, rfl⟩ hm rfl ?_
  refine g_if_eq cx d_8_18_4 rfl (fun c4 => ?_) (fun c4 => ?_)
  · skip
    refine g_iconst cx (v := 1) d_8_18_21 (by decide) ?_
    refine g_goto cx d_8_18_22 rfl ?_
    first
      | exact m_iret cx d_8_18_26 rfl rfl hm hs ⟨rfl, Or.inr ⟨rfl, h1, c18⟩⟩
      | exact m_iret cx d_8_18_26 rfl rfl hm hs ⟨rfl, Or.inl rfl⟩
  · skip
    have h1 : 0 < a := Nat.pos_of_ne_zero (fun q => c4 (by show x.1 11 = 0; rw [ha, q]; rfl))
    refine g_aload_n cx 0 d_8_18_7 rfl rfl ?_
    refine m_get cx (k := 22) d_8_18_8 t_920 ⟨by decide, rfl⟩ hm rfl ?_
    refine g_aload_n cx 0 d_8_18_11 rfl rfl ?_
    refine m_get cx (k := 11) d_8_18_12 t_909 ⟨by decide, rfl⟩ hm rfl ?_
    refine g_iconst cx (v := 1) d_8_18_15 (by decide) ?_
    refine g_isub cx d_8_18_16 ?_
    refine m_ld4 cx d_8_18_17 (by decide) hm (show x.1 11 - 1 = nI (a - 1) by rw [ha]; exact pk_sub (b := 1) h1) ⟨(show a - 1 < 8 by omega), by decide⟩ ?_
    refine g_if_eq cx d_8_18_18 rfl (fun c18 => ?_) (fun c18 => ?_)
    · skip
      refine g_iconst cx (v := 0) d_8_18_25 (by decide) ?_
      first
        | exact m_iret cx d_8_18_26 rfl rfl hm hs ⟨rfl, Or.inr ⟨rfl, h1, c18⟩⟩
        | exact m_iret cx d_8_18_26 rfl rfl hm hs ⟨rfl, Or.inl rfl⟩
    · skip
      refine g_iconst cx (v := 1) d_8_18_21 (by decide) ?_
      refine g_goto cx d_8_18_22 rfl ?_
      first
        | exact m_iret cx d_8_18_26 rfl rfl hm hs ⟨rfl, Or.inr ⟨rfl, h1, c18⟩⟩
        | exact m_iret cx d_8_18_26 rfl rfl hm hs ⟨rfl, Or.inl rfl⟩
set_option maxHeartbeats 4000000 in
theorem mc_many (hSt : Stb z0 E) (hA : Ad am ad) (x : MS) : MC l y_191 prog_8_method_37_code 1 (Option.some Jvm.ClassFile.FieldType.int) 0 D z0 E am ad [] x (fun r x' => r = some (.int (x.1 25)) ∧ x' = seti x 0 0) := by
  refine mc_of hSt rfl (Nat.le_of_ble_eq_true rfl) ?_
  intro h0 h p e s m args below meth c cx hm hs
  refine g_aload_n cx 0 d_8_37_0 rfl rfl ?_
  refine g_iconst cx (v := 0) d_8_37_1 (by decide) ?_
  refine m_put cx (k := 0) hA d_8_37_2 t_898 ⟨by decide, rfl, rfl, rfl, by decide +kernel⟩ hm hs (fun h hm hs => ?_)
  refine g_aload_n cx 0 d_8_37_5 rfl rfl ?_
  refine m_get cx (k := 25) d_8_37_6 t_923 ⟨by decide, rfl⟩ hm rfl ?_
  exact m_iret cx d_8_37_9 rfl rfl hm hs ⟨rfl, rfl⟩
set_option maxHeartbeats 4000000 in
theorem mc_asked (hSt : Stb z0 E) (hA : Ad am ad) (x : MS) (v : Int32) : MC l y_192 prog_8_method_38_code 2 (Option.some Jvm.ClassFile.FieldType.int) 0 D z0 E am ad [.int v] x (fun r x' => (∃ u, r = some (.int u)) ∧ x' = seti x 0 0) := by
  refine mc_of hSt rfl (Nat.le_of_ble_eq_true rfl) ?_
  intro h0 h p e s m args below meth c cx hm hs
  refine g_aload_n cx 0 d_8_38_0 rfl rfl ?_
  refine g_iconst cx (v := 0) d_8_38_1 (by decide) ?_
  refine m_put cx (k := 0) hA d_8_38_2 t_898 ⟨by decide, rfl, rfl, rfl, by decide +kernel⟩ hm hs (fun h hm hs => ?_)
  refine g_iload_n cx 1 d_8_38_5 rfl rfl ?_
  refine g_if_lt cx d_8_38_6 rfl (fun c6 => ?_) (fun c6 => ?_)
  · skip
    refine g_iconst cx (v := (-1)) d_8_38_32 (by decide) ?_
    exact m_iret cx d_8_38_33 rfl rfl hm hs ⟨⟨_, rfl⟩, rfl⟩
  · skip
    refine g_iload_n cx 1 d_8_38_9 rfl rfl ?_
    refine g_aload_n cx 0 d_8_38_10 rfl rfl ?_
    refine m_get cx (k := 25) d_8_38_11 t_923 ⟨by decide, rfl⟩ hm rfl ?_
    refine g_icmp_ge cx d_8_38_14 rfl (fun c14 => ?_) (fun c14 => ?_)
    · skip
      refine g_iconst cx (v := (-1)) d_8_38_32 (by decide) ?_
      exact m_iret cx d_8_38_33 rfl rfl hm hs ⟨⟨_, rfl⟩, rfl⟩
    · skip
      refine g_iload_n cx 1 d_8_38_17 rfl rfl ?_
      refine g_bipush cx (v := 20) d_8_38_18 (by decide) ?_
      refine g_icmp_ge cx d_8_38_20 rfl (fun c20 => ?_) (fun c20 => ?_)
      · skip
        refine g_iconst cx (v := (-1)) d_8_38_32 (by decide) ?_
        exact m_iret cx d_8_38_33 rfl rfl hm hs ⟨⟨_, rfl⟩, rfl⟩
      · skip
        obtain ⟨j, hj, hv, -⟩ := pk_mu (L := 20) c6 c20 (by decide)
        refine g_aload_n cx 0 d_8_38_23 rfl rfl ?_
        refine m_get cx (k := 28) d_8_38_24 t_926 ⟨by decide, rfl⟩ hm rfl ?_
        refine g_iload_n cx 1 d_8_38_27 rfl rfl ?_
        refine m_ld1 cx d_8_38_28 (by decide) hm hv ⟨(show j < 20 from hj), by decide⟩ ?_
        refine g_goto cx d_8_38_29 rfl ?_
        exact m_iret cx d_8_38_33 rfl rfl hm hs ⟨⟨_, rfl⟩, rfl⟩
set_option maxHeartbeats 4000000 in
theorem mc_used (hSt : Stb z0 E) (hA : Ad am ad) (x : MS) (v : Int32) (a : Nat) (ha : x.1 6 = nI a) (hal : a ≤ 6) : MC l y_195 prog_8_method_41_code 2 (Option.some Jvm.ClassFile.FieldType.int) 0 D z0 E am ad [.int v] x (fun r x' => (∃ u, r = some (.int u)) ∧ x' = seti x 0 0) := by
  refine mc_of hSt rfl (Nat.le_of_ble_eq_true rfl) ?_
  intro h0 h p e s m args below meth c cx hm hs
  refine g_aload_n cx 0 d_8_41_0 rfl rfl ?_
  refine g_iconst cx (v := 0) d_8_41_1 (by decide) ?_
  refine m_put cx (k := 0) hA d_8_41_2 t_898 ⟨by decide, rfl, rfl, rfl, by decide +kernel⟩ hm hs (fun h hm hs => ?_)
  refine g_iload_n cx 1 d_8_41_5 rfl rfl ?_
  refine g_if_lt cx d_8_41_6 rfl (fun c6 => ?_) (fun c6 => ?_)
  · skip
    refine g_iconst cx (v := (-1)) d_8_41_26 (by decide) ?_
    exact m_iret cx d_8_41_27 rfl rfl hm hs ⟨⟨_, rfl⟩, rfl⟩
  · skip
    refine g_iload_n cx 1 d_8_41_9 rfl rfl ?_
    refine g_aload_n cx 0 d_8_41_10 rfl rfl ?_
    refine m_get cx (k := 6) d_8_41_11 t_904 ⟨by decide, rfl⟩ hm rfl ?_
    refine g_icmp_ge cx d_8_41_14 rfl (fun c14 => ?_) (fun c14 => ?_)
    · skip
      refine g_iconst cx (v := (-1)) d_8_41_26 (by decide) ?_
      exact m_iret cx d_8_41_27 rfl rfl hm hs ⟨⟨_, rfl⟩, rfl⟩
    · skip
      obtain ⟨j, hj, hv, -⟩ := pk_mu c6 (fun q => c14 (by show x.1 6 ≤ v; rw [ha]; exact q)) (by omega)
      refine g_aload_n cx 0 d_8_41_17 rfl rfl ?_
      refine m_get cx (k := 9) d_8_41_18 t_907 ⟨by decide, rfl⟩ hm rfl ?_
      refine g_iload_n cx 1 d_8_41_21 rfl rfl ?_
      refine m_ld1 cx d_8_41_22 (by decide) hm hv ⟨(show j < 6 by omega), by decide⟩ ?_
      refine g_goto cx d_8_41_23 rfl ?_
      exact m_iret cx d_8_41_27 rfl rfl hm hs ⟨⟨_, rfl⟩, rfl⟩
end M1
