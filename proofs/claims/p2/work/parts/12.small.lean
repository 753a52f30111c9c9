/-! The reference's small methods. -/
section M1
variable {l : Launch} {D : va_G} {z0 : Nat} {E : State → Prop} {am : Nat} {ad : Nat → Nat}
set_option maxHeartbeats 4000000 in
theorem mc_fails (hSt : Stb z0 E) (hA : Ad am ad) (x : MS) (v : Int32) : MC l y_175 prog_8_method_3_code 2 (Option.some Jvm.ClassFile.FieldType.int) 0 D z0 E am ad [.int v] x (fun r x' => r = some (.int 0) ∧ x' = seti x 0 v) := by
  refine mc_of hSt rfl (Nat.le_of_ble_eq_true rfl) ?_
  intro h0 h p e s m args below meth c cx hm hs
  refine g_aload_n cx 0 d_8_3_0 rfl rfl ?_
  refine g_iload_n cx 1 d_8_3_1 rfl rfl ?_
  refine m_put cx (k := 0) hA d_8_3_2 t_898 ⟨by decide, rfl, rfl, rfl, by decide +kernel⟩ hm hs (fun h hm hs => ?_)
  refine g_iconst cx (v := 0) d_8_3_5 (by decide) ?_
  exact m_iret cx d_8_3_6 rfl rfl hm hs ⟨rfl, rfl⟩
set_option maxHeartbeats 4000000 in
theorem mc_write (hSt : Stb z0 E) (hA : Ad am ad) (x : MS) (v : Int32) (w : Nat) (hw : x.1 2 = nI w) (hwl : w ≤ 30) : MC l y_156 prog_8_method_4_code 2 (Option.some Jvm.ClassFile.FieldType.boolean) 0 D z0 E am ad [.int v] x (fun r x' => ((¬ v < 32 ∧ ¬ 126 < v ∧ w < 30) ∧ r = some (.int 1) ∧ x' = seti (seta (seti x 0 0) 1 w (vp_nar .char v)) 2 (nI (w + 1))) ∨ (¬ (¬ v < 32 ∧ ¬ 126 < v ∧ w < 30) ∧ r = some (.int 0) ∧ x' = seti x 0 0)) := by
  refine mc_of hSt rfl (Nat.le_of_ble_eq_true rfl) ?_
  intro h0 h p e s m args below meth c cx hm hs
  refine g_aload_n cx 0 d_8_4_0 rfl rfl ?_
  refine g_iconst cx (v := 0) d_8_4_1 (by decide) ?_
  refine m_put cx (k := 0) hA d_8_4_2 t_898 ⟨by decide, rfl, rfl, rfl, by decide +kernel⟩ hm hs (fun h hm hs => ?_)
  refine g_iload_n cx 1 d_8_4_5 rfl rfl ?_
  refine g_bipush cx (v := 32) d_8_4_6 (by decide) ?_
  refine g_icmp_lt cx d_8_4_8 rfl (fun c8 => ?_) (fun c8 => ?_)
  · skip
    have hn9 : ¬ (¬ v < 32 ∧ ¬ 126 < v ∧ w < 30) := by
      intro q
      first
        | exact q.1 c8
        | exact q.2.1 c14
        | exact c23 (by show x.1 2 < 30; rw [hw]; exact (nI_ltI (b := 30) (by omega) (by decide)).mpr q.2.2)
    refine g_iconst cx (v := 0) d_8_4_26 (by decide) ?_
    exact m_iret cx d_8_4_27 rfl rfl hm hs (Or.inr ⟨hn9, rfl, rfl⟩)
  · skip
    refine g_iload_n cx 1 d_8_4_11 rfl rfl ?_
    refine g_bipush cx (v := 126) d_8_4_12 (by decide) ?_
    refine g_icmp_gt cx d_8_4_14 rfl (fun c14 => ?_) (fun c14 => ?_)
    · skip
      have hn9 : ¬ (¬ v < 32 ∧ ¬ 126 < v ∧ w < 30) := by
        intro q
        first
          | exact q.1 c8
          | exact q.2.1 c14
          | exact c23 (by show x.1 2 < 30; rw [hw]; exact (nI_ltI (b := 30) (by omega) (by decide)).mpr q.2.2)
      refine g_iconst cx (v := 0) d_8_4_26 (by decide) ?_
      exact m_iret cx d_8_4_27 rfl rfl hm hs (Or.inr ⟨hn9, rfl, rfl⟩)
    · skip
      refine g_aload_n cx 0 d_8_4_17 rfl rfl ?_
      refine m_get cx (k := 2) d_8_4_18 t_900 ⟨by decide, rfl⟩ hm rfl ?_
      refine g_bipush cx (v := 30) d_8_4_21 (by decide) ?_
      refine g_icmp_lt cx d_8_4_23 rfl (fun c23 => ?_) (fun c23 => ?_)
      · skip
        have hw30 : w < 30 := by
          have h9 : nI w < nI 30 := by rw [← hw]; exact c23
          exact (nI_ltI (by omega) (by decide)).mp h9
        refine g_aload_n cx 0 d_8_4_28 rfl rfl ?_
        refine m_get cx (k := 1) d_8_4_29 t_899 ⟨by decide, rfl⟩ hm rfl ?_
        refine g_aload_n cx 0 d_8_4_32 rfl rfl ?_
        refine m_get cx (k := 2) d_8_4_33 t_900 ⟨by decide, rfl⟩ hm rfl ?_
        refine g_iload_n cx 1 d_8_4_36 rfl rfl ?_
        refine m_st2 cx hA d_8_4_37 (by decide) hm hs hw ⟨(show w < 30 from hw30), by decide⟩ (fun h hm hs => ?_)
        refine g_aload_n cx 0 d_8_4_38 rfl rfl ?_
        refine g_dup cx d_8_4_39 rfl ?_
        refine m_get cx (k := 2) d_8_4_40 t_900 ⟨by decide, rfl⟩ hm rfl ?_
        refine g_iconst cx (v := 1) d_8_4_43 (by decide) ?_
        refine g_iadd cx d_8_4_44 ?_
        refine m_put cx (k := 2) hA d_8_4_45 t_900 ⟨by decide, rfl, rfl, rfl, by decide +kernel⟩ hm hs (fun h hm hs => ?_)
        refine g_iconst cx (v := 1) d_8_4_48 (by decide) ?_
        exact m_iret cx d_8_4_49 rfl rfl hm hs (Or.inl ⟨⟨c8, c14, hw30⟩, rfl, by show seti _ 2 (x.1 2 + 1) = _; rw [hw, nI_1]⟩)
      · skip
        have hn9 : ¬ (¬ v < 32 ∧ ¬ 126 < v ∧ w < 30) := by
          intro q
          first
            | exact q.1 c8
            | exact q.2.1 c14
            | exact c23 (by show x.1 2 < 30; rw [hw]; exact (nI_ltI (b := 30) (by omega) (by decide)).mpr q.2.2)
        refine g_iconst cx (v := 0) d_8_4_26 (by decide) ?_
        exact m_iret cx d_8_4_27 rfl rfl hm hs (Or.inr ⟨hn9, rfl, rfl⟩)
set_option maxHeartbeats 4000000 in
theorem mc_note (hSt : Stb z0 E) (hA : Ad am ad) (x : MS) (v : Int32) (n : Nat) (hn : x.1 25 = nI n) (hnl : n < 2 ^ 30) : MC l y_180 prog_8_method_27_code 2 (Option.none) 0 D z0 E am ad [.int v] x (fun r x' => r = none ∧ x' = seti (if n < 20 then seta x 28 n v else x) 25 (nI (n + 1))) := by
  refine mc_of hSt rfl (Nat.le_of_ble_eq_true rfl) ?_
  intro h0 h p e s m args below meth c cx hm hs
  refine g_aload_n cx 0 d_8_27_0 rfl rfl ?_
  refine m_get cx (k := 25) d_8_27_1 t_923 ⟨by decide, rfl⟩ hm rfl ?_
  refine g_bipush cx (v := 20) d_8_27_4 (by decide) ?_
  refine g_icmp_ge cx d_8_27_6 rfl (fun c6 => ?_) (fun c6 => ?_)
  · skip
    have hz : ¬ n < 20 ∨ n < 20 := (Nat.lt_or_ge n 20).symm.imp (fun q => Nat.not_lt.mpr q) id
    refine g_aload_n cx 0 d_8_27_19 rfl rfl ?_
    refine g_dup cx d_8_27_20 rfl ?_
    refine m_get cx (k := 25) d_8_27_21 t_923 ⟨by decide, rfl⟩ hm rfl ?_
    refine g_iconst cx (v := 1) d_8_27_24 (by decide) ?_
    refine g_iadd cx d_8_27_25 ?_
    refine m_put cx (k := 25) hA d_8_27_26 t_923 ⟨by decide, rfl, rfl, rfl, by decide +kernel⟩ hm hs (fun h hm hs => ?_)
    exact m_vret cx d_8_27_29 rfl hm hs ⟨rfl, by
  first
    | (rw [if_pos hn20]; show seti _ 25 (x.1 25 + 1) = _; rw [hn, nI_1])
    | (rw [if_neg (fun q => absurd c6 (by rw [show (20 : Int32) = nI 20 from rfl]; show ¬ nI 20 ≤ x.1 25; rw [hn]; exact nI_ge q (by omega)))]; show seti _ 25 (x.1 25 + 1) = _; rw [hn, nI_1])⟩
  · skip
    have hn20 : n < 20 := by
      have h9 : ¬ nI 20 ≤ nI n := by rw [← hn]; exact c6
      exact Nat.lt_of_not_le (fun q => h9 (nI_le q (by omega)))
    refine g_aload_n cx 0 d_8_27_9 rfl rfl ?_
    refine m_get cx (k := 28) d_8_27_10 t_926 ⟨by decide, rfl⟩ hm rfl ?_
    refine g_aload_n cx 0 d_8_27_13 rfl rfl ?_
    refine m_get cx (k := 25) d_8_27_14 t_923 ⟨by decide, rfl⟩ hm rfl ?_
    refine g_iload_n cx 1 d_8_27_17 rfl rfl ?_
    refine m_st1 cx hA d_8_27_18 (by decide) hm hs hn ⟨(show n < 20 from hn20), by decide⟩ (fun h hm hs => ?_)
    have hz : ¬ n < 20 ∨ n < 20 := (Nat.lt_or_ge n 20).symm.imp (fun q => Nat.not_lt.mpr q) id
    refine g_aload_n cx 0 d_8_27_19 rfl rfl ?_
    refine g_dup cx d_8_27_20 rfl ?_
    refine m_get cx (k := 25) d_8_27_21 t_923 ⟨by decide, rfl⟩ hm rfl ?_
    refine g_iconst cx (v := 1) d_8_27_24 (by decide) ?_
    refine g_iadd cx d_8_27_25 ?_
    refine m_put cx (k := 25) hA d_8_27_26 t_923 ⟨by decide, rfl, rfl, rfl, by decide +kernel⟩ hm hs (fun h hm hs => ?_)
    exact m_vret cx d_8_27_29 rfl hm hs ⟨rfl, by
  first
    | (rw [if_pos hn20]; show seti _ 25 (x.1 25 + 1) = _; rw [hn, nI_1])
    | (rw [if_neg (fun q => absurd c6 (by rw [show (20 : Int32) = nI 20 from rfl]; show ¬ nI 20 ≤ x.1 25; rw [hn]; exact nI_ge q (by omega)))]; show seti _ 25 (x.1 25 + 1) = _; rw [hn, nI_1])⟩
end M1
