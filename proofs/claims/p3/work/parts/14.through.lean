/-! Going through the reference's tables. -/
theorem lg_self (x : Int64) : lg_cmp x x = 0 := by
  unfold lg_cmp
  simp
section M3
variable {l : Launch} {D : va_G} {z0 : Nat} {E : State → Prop} {am : Nat} {ad : Nat → Nat}
set_option maxHeartbeats 4000000 in
theorem mc_isIn (hSt : Stb z0 E) (hA : Ad am ad) (x : MS) (q t : Nat) (nv : Int64) (hq : q < 6) (ht : x.2.1 8 q = nI t) (htl : t ≤ 6) : MC l y_168 prog_8_method_15_code 6 (Option.some Jvm.ClassFile.FieldType.boolean) 0 D z0 E am ad [.int (nI q), .long nv] x (fun r x' => x' = x ∧ (r = some (.int 0) ∨ (r = some (.int 1) ∧ ∃ j, j < t ∧ x.2.2 10 (6 * q + j) = nv))) := by
  refine mc_of hSt rfl (Nat.le_of_ble_eq_true rfl) ?_
  intro h0 h p e s m args below meth c cx hm hs
  have hb : 6 * nI q + x.2.1 8 q = nI (6 * q + t) := by rw [ht, show (6 : Int32) = nI 6 from rfl, pk_mul, nI_add]
  have lp : ∀ (n : Nat) (k : Nat) (z : Int32), 6 * q ≤ k → k ≤ 6 * q + t → (z = 0 ∨ (z = 1 ∧ ∃ j, j < t ∧ x.2.2 10 (6 * q + j) = nv)) → 6 * q + t - k < n → G p l e (rmL 0) s m args below meth c 6 D z0 E (MQp D am ad h0 (fun r x' => x' = x ∧ (r = some (.int 0) ∨ (r = some (.int 1) ∧ ∃ j, j < t ∧ x.2.2 10 (6 * q + j) = nv)))) 0 0 9 [(5, .int (nI k)), (4, .int z), (0, .ref am), (1, .int (nI q)), (2, .long nv)] [] h 0 0 := by
    intro n
    induction n with
    | zero => intro k z hk0 hk1 hi hn; exact absurd hn (Nat.not_lt_zero _)
    | succ n ih =>
      intro k z hk0 hk1 hi hn
      refine g_iload cx 0 d_8_15_9 rfl ?_
      refine g_bipush cx (v := 6) d_8_15_11 (by decide) ?_
      refine g_iload_n cx 3 d_8_15_13 rfl rfl ?_
      refine g_imul cx d_8_15_14 ?_
      refine g_aload_n cx 2 d_8_15_15 rfl rfl ?_
      refine m_get cx (k := 8) d_8_15_16 t_906 ⟨by decide, rfl⟩ hm rfl ?_
      refine g_iload_n cx 3 d_8_15_19 rfl rfl ?_
      refine m_ld1 cx d_8_15_20 (by decide) hm rfl ⟨(show q < 6 from hq), by decide⟩ ?_
      refine g_iadd cx d_8_15_21 ?_
      refine g_icmp_ge cx d_8_15_22 rfl (fun c22 => ?_) (fun c22 => ?_)
      · skip
        rcases hi with rfl | ⟨rfl, hx⟩
        · exact g_iload cx 1 d_8_15_55 rfl (m_iret cx d_8_15_57 rfl rfl hm hs ⟨rfl, Or.inl rfl⟩)
        · exact g_iload cx 1 d_8_15_55 rfl (m_iret cx d_8_15_57 rfl rfl hm hs ⟨rfl, Or.inr ⟨rfl, hx⟩⟩)
      · skip
        have hk : k < 6 * q + t := Nat.lt_of_not_le (fun y => c22 (by rw [hb]; exact nI_le y (by omega)))
        refine g_iload cx 1 d_8_15_25 rfl ?_
        refine g_if_ne cx d_8_15_27 rfl (fun c27 => ?_) (fun c27 => ?_)
        · skip
          refine g_iconst cx (v := 1) d_8_15_42 (by decide) ?_
          refine g_goto cx d_8_15_43 rfl ?_
          refine g_topi (fun z1 ez1 => ?_)
          have hz1 : z1 = 0 ∨ (z1 = 1 ∧ ∃ j, j < t ∧ x.2.2 10 (6 * q + j) = nv) := by
            first
              | exact Or.inl ez1
              | exact Or.inr ⟨ez1, (hi.resolve_left c27).2⟩
              | exact Or.inr ⟨ez1, k - 6 * q, by omega, by rw [show 6 * q + (k - 6 * q) = k by omega]; exact lg_eq c39⟩
          refine g_istore cx (lv' := [(4, .int z1), (5, .int (nI k)), (0, .ref am), (1, .int (nI q)), (2, .long nv)]) d_8_15_47 (by decide) rfl ?_
          refine g_iinc cx 1 (lv' := [(5, .int (nI (k + 1))), (4, .int z1), (0, .ref am), (1, .int (nI q)), (2, .long nv)]) d_8_15_49 rfl (inc1 k) (by decide) rfl ?_
          refine g_goto cx d_8_15_52 rfl ?_
          exact ih (k + 1) z1 (by omega) (by omega) hz1 (by omega)
        · skip
          refine g_aload_n cx 2 d_8_15_30 rfl rfl ?_
          refine m_get cx (k := 10) d_8_15_31 t_908 ⟨by decide, rfl⟩ hm rfl ?_
          refine g_iload cx 0 d_8_15_34 rfl ?_
          refine m_ld3 cx d_8_15_36 (by decide) hm rfl ⟨(show k < 36 by omega), by decide⟩ ?_
          refine g_lload_n cx 4 d_8_15_37 rfl rfl ?_
          refine g_lcmp cx d_8_15_38 ?_
          refine g_if_ne cx d_8_15_39 rfl (fun c39 => ?_) (fun c39 => ?_)
          · skip
            refine g_iconst cx (v := 0) d_8_15_46 (by decide) ?_
            refine g_topi (fun z1 ez1 => ?_)
            have hz1 : z1 = 0 ∨ (z1 = 1 ∧ ∃ j, j < t ∧ x.2.2 10 (6 * q + j) = nv) := by
              first
                | exact Or.inl ez1
                | exact Or.inr ⟨ez1, (hi.resolve_left c27).2⟩
                | exact Or.inr ⟨ez1, k - 6 * q, by omega, by rw [show 6 * q + (k - 6 * q) = k by omega]; exact lg_eq c39⟩
            refine g_istore cx (lv' := [(4, .int z1), (5, .int (nI k)), (0, .ref am), (1, .int (nI q)), (2, .long nv)]) d_8_15_47 (by decide) rfl ?_
            refine g_iinc cx 1 (lv' := [(5, .int (nI (k + 1))), (4, .int z1), (0, .ref am), (1, .int (nI q)), (2, .long nv)]) d_8_15_49 rfl (inc1 k) (by decide) rfl ?_
            refine g_goto cx d_8_15_52 rfl ?_
            exact ih (k + 1) z1 (by omega) (by omega) hz1 (by omega)
          · skip
            refine g_iconst cx (v := 1) d_8_15_42 (by decide) ?_
            refine g_goto cx d_8_15_43 rfl ?_
            refine g_topi (fun z1 ez1 => ?_)
            have hz1 : z1 = 0 ∨ (z1 = 1 ∧ ∃ j, j < t ∧ x.2.2 10 (6 * q + j) = nv) := by
              first
                | exact Or.inl ez1
                | exact Or.inr ⟨ez1, (hi.resolve_left c27).2⟩
                | exact Or.inr ⟨ez1, k - 6 * q, by omega, by rw [show 6 * q + (k - 6 * q) = k by omega]; exact lg_eq c39⟩
            refine g_istore cx (lv' := [(4, .int z1), (5, .int (nI k)), (0, .ref am), (1, .int (nI q)), (2, .long nv)]) d_8_15_47 (by decide) rfl ?_
            refine g_iinc cx 1 (lv' := [(5, .int (nI (k + 1))), (4, .int z1), (0, .ref am), (1, .int (nI q)), (2, .long nv)]) d_8_15_49 rfl (inc1 k) (by decide) rfl ?_
            refine g_goto cx d_8_15_52 rfl ?_
            exact ih (k + 1) z1 (by omega) (by omega) hz1 (by omega)
  refine g_iconst cx (v := 0) d_8_15_0 (by decide) ?_
  refine g_topi (fun z0' ez0' => ?_)
  refine g_istore cx (lv' := [(4, .int z0'), (0, .ref am), (1, .int (nI q)), (2, .long nv)]) d_8_15_1 (by decide) rfl ?_
  refine g_bipush cx (v := 6) d_8_15_3 (by decide) ?_
  refine g_iload_n cx 2 d_8_15_5 rfl rfl ?_
  refine g_imul cx d_8_15_6 ?_
  refine g_topi (fun k0 ek0 => ?_)
  obtain rfl : k0 = nI (6 * q) := by rw [ek0]; exact pk_mul 6 q
  refine g_istore cx (lv' := [(5, .int (nI (6 * q))), (4, .int z0'), (0, .ref am), (1, .int (nI q)), (2, .long nv)]) d_8_15_7 (by decide) rfl ?_
  exact lp (t + 1) (6 * q) z0' (by omega) (by omega) (Or.inl ez0') (by omega)
set_option maxHeartbeats 4000000 in
theorem mc_keptOf (hSt : Stb z0 E) (hA : Ad am ad) (x : MS) (q t : Nat) (nv : Int64) (hq : q < 8) (ht : x.2.1 18 q = nI t) (htl : t ≤ 36) : MC l y_178 prog_8_method_31_code 5 (Option.some Jvm.ClassFile.FieldType.int) 0 D z0 E am ad [.int (nI q), .long nv] x (fun r x' => x' = x ∧ ((∃ j, j < t ∧ x.2.2 21 (36 * q + j) = nv ∧ r = some (.int (x.2.1 19 (36 * q + j)))) ∨ (r = some (.int (-1)) ∧ ∀ j, j < t → x.2.2 21 (36 * q + j) ≠ nv))) := by
  refine mc_of hSt rfl (Nat.le_of_ble_eq_true rfl) ?_
  intro h0 h p e s m args below meth c cx hm hs
  have hb : 36 * nI q + x.2.1 18 q = nI (36 * q + t) := by rw [ht, show (36 : Int32) = nI 36 from rfl, pk_mul, nI_add]
  have lp : ∀ (n : Nat) (k : Nat), 36 * q ≤ k → k ≤ 36 * q + t → (∀ j, 36 * q ≤ j → j < k → x.2.2 21 j ≠ nv) → 36 * q + t - k < n → G p l e (rmL 0) s m args below meth c 5 D z0 E (MQp D am ad h0 (fun r x' => x' = x ∧ ((∃ j, j < t ∧ x.2.2 21 (36 * q + j) = nv ∧ r = some (.int (x.2.1 19 (36 * q + j)))) ∨ (r = some (.int (-1)) ∧ ∀ j, j < t → x.2.2 21 (36 * q + j) ≠ nv)))) 0 0 6 [(4, .int (nI k)), (0, .ref am), (1, .int (nI q)), (2, .long nv)] [] h 0 0 := by
    intro n
    induction n with
    | zero => intro k hk0 hk1 hno hn; exact absurd hn (Nat.not_lt_zero _)
    | succ n ih =>
      intro k hk0 hk1 hno hn
      refine g_iload cx 0 d_8_31_6 rfl ?_
      refine g_bipush cx (v := 36) d_8_31_8 (by decide) ?_
      refine g_iload_n cx 2 d_8_31_10 rfl rfl ?_
      refine g_imul cx d_8_31_11 ?_
      refine g_aload_n cx 1 d_8_31_12 rfl rfl ?_
      refine m_get cx (k := 18) d_8_31_13 t_916 ⟨by decide, rfl⟩ hm rfl ?_
      refine g_iload_n cx 2 d_8_31_16 rfl rfl ?_
      refine m_ld1 cx d_8_31_17 (by decide) hm rfl ⟨(show q < 8 from hq), by decide⟩ ?_
      refine g_iadd cx d_8_31_18 ?_
      refine g_icmp_ge cx d_8_31_19 rfl (fun c19 => ?_) (fun c19 => ?_)
      · skip
        have hk : 36 * q + t ≤ k := Nat.le_of_not_lt (fun y => absurd c19 (by rw [hb]; exact nI_ge y (by omega)))
        refine g_iconst cx (v := (-1)) d_8_31_48 (by decide) ?_
        exact m_iret cx d_8_31_49 rfl rfl hm hs ⟨rfl, Or.inr ⟨rfl, fun j hj => hno (36 * q + j) (by omega) (by omega)⟩⟩
      · skip
        have hk : k < 36 * q + t := Nat.lt_of_not_le (fun y => c19 (by rw [hb]; exact nI_le y (by omega)))
        refine g_aload_n cx 1 d_8_31_22 rfl rfl ?_
        refine m_get cx (k := 21) d_8_31_23 t_919 ⟨by decide, rfl⟩ hm rfl ?_
        refine g_iload cx 0 d_8_31_26 rfl ?_
        refine m_ld3 cx d_8_31_28 (by decide) hm rfl ⟨(show k < 288 by omega), by decide⟩ ?_
        refine g_lload_n cx 3 d_8_31_29 rfl rfl ?_
        refine g_lcmp cx d_8_31_30 ?_
        refine g_if_ne cx d_8_31_31 rfl (fun c31 => ?_) (fun c31 => ?_)
        · skip
          refine g_iinc cx 0 (lv' := [(4, .int (nI (k + 1))), (0, .ref am), (1, .int (nI q)), (2, .long nv)]) d_8_31_42 rfl (inc1 k) (by decide) rfl ?_
          refine g_goto cx d_8_31_45 rfl ?_
          exact ih (k + 1) (by omega) (by omega) (fun j h1 h2 => (Nat.lt_or_ge j k).elim (fun y => hno j h1 y) (fun y => by rw [show j = k by omega]; exact fun w => c31 (by rw [w]; exact lg_self nv))) (by omega)
        · skip
          refine g_aload_n cx 1 d_8_31_34 rfl rfl ?_
          refine m_get cx (k := 19) d_8_31_35 t_917 ⟨by decide, rfl⟩ hm rfl ?_
          refine g_iload cx 0 d_8_31_38 rfl ?_
          refine m_ld1 cx d_8_31_40 (by decide) hm rfl ⟨(show k < 288 by omega), by decide⟩ ?_
          exact m_iret cx d_8_31_41 rfl rfl hm hs ⟨rfl, Or.inl ⟨k - 36 * q, by omega, by rw [show 36 * q + (k - 36 * q) = k by omega]; exact lg_eq c31, by rw [show 36 * q + (k - 36 * q) = k by omega]⟩⟩
  refine g_bipush cx (v := 36) d_8_31_0 (by decide) ?_
  refine g_iload_n cx 1 d_8_31_2 rfl rfl ?_
  refine g_imul cx d_8_31_3 ?_
  refine g_topi (fun k0 ek0 => ?_)
  obtain rfl : k0 = nI (36 * q) := by rw [ek0]; exact pk_mul 36 q
  refine g_istore cx (lv' := [(4, .int (nI (36 * q))), (0, .ref am), (1, .int (nI q)), (2, .long nv)]) d_8_31_4 (by decide) rfl ?_
  exact lp (t + 1) (36 * q) (by omega) (by omega) (fun j h1 h2 => absurd h1 (by omega)) (by omega)
set_option maxHeartbeats 4000000 in
theorem mc_isOpen (hSt : Stb z0 E) (hA : Ad am ad) (x : MS) (v : Int32) (t : Nat) (ht : x.1 24 = nI t) (htl : t ≤ 8) : MC l y_190 prog_8_method_32_code 4 (Option.some Jvm.ClassFile.FieldType.boolean) 0 D z0 E am ad [.int v] x (fun r x' => x' = x ∧ (r = some (.int 1) ∨ (r = some (.int 0) ∧ ∀ j, j < t → x.2.1 26 j ≠ v))) := by
  refine mc_of hSt rfl (Nat.le_of_ble_eq_true rfl) ?_
  intro h0 h p e s m args below meth c cx hm hs
  have lp : ∀ (n : Nat) (k : Nat) (z : Int32), k ≤ t → (z = 1 ∨ (z = 0 ∧ ∀ j, j < k → x.2.1 26 j ≠ v)) → t - k < n → G p l e (rmL 0) s m args below meth c 4 D z0 E (MQp D am ad h0 (fun r x' => x' = x ∧ (r = some (.int 1) ∨ (r = some (.int 0) ∧ ∀ j, j < t → x.2.1 26 j ≠ v)))) 0 0 4 [(3, .int (nI k)), (2, .int z), (0, .ref am), (1, .int v)] [] h 0 0 := by
    intro n
    induction n with
    | zero => intro k z hk0 hi hn; exact absurd hn (Nat.not_lt_zero _)
    | succ n ih =>
      intro k z hk0 hi hn
      refine g_iload_n cx 0 d_8_32_4 rfl rfl ?_
      refine g_aload_n cx 2 d_8_32_5 rfl rfl ?_
      refine m_get cx (k := 24) d_8_32_6 t_922 ⟨by decide, rfl⟩ hm rfl ?_
      refine g_icmp_ge cx d_8_32_9 rfl (fun c9 => ?_) (fun c9 => ?_)
      · skip
        have hk : t ≤ k := Nat.le_of_not_lt (fun y => absurd c9 (by show ¬ x.1 24 ≤ nI k; rw [ht]; exact nI_ge y (by omega)))
        rcases hi with rfl | ⟨rfl, hx⟩
        · exact g_iload_n cx 1 d_8_32_38 rfl rfl (m_iret cx d_8_32_39 rfl rfl hm hs ⟨rfl, Or.inl rfl⟩)
        · exact g_iload_n cx 1 d_8_32_38 rfl rfl (m_iret cx d_8_32_39 rfl rfl hm hs ⟨rfl, Or.inr ⟨rfl, fun j hj => hx j (by omega)⟩⟩)
      · skip
        have hk : k < t := Nat.lt_of_not_le (fun y => c9 (by show x.1 24 ≤ nI k; rw [ht]; exact nI_le y (by omega)))
        refine g_iload_n cx 1 d_8_32_12 rfl rfl ?_
        refine g_if_ne cx d_8_32_13 rfl (fun c13 => ?_) (fun c13 => ?_)
        · skip
          refine g_iconst cx (v := 1) d_8_32_26 (by decide) ?_
          refine g_goto cx d_8_32_27 rfl ?_
          refine g_topi (fun z1 ez1 => ?_)
          have hz1 : z1 = 1 ∨ (z1 = 0 ∧ ∀ j, j < k + 1 → x.2.1 26 j ≠ v) := by
            first
              | exact Or.inl ez1
              | exact Or.inr ⟨ez1, fun j hj => (Nat.lt_or_ge j k).elim (fun y => (hi.resolve_left (fun w => absurd (w.symm.trans c13) (by decide))).2 j y) (fun y => by rw [show j = k by omega]; exact c23)⟩
          refine g_istore_n cx (lv' := [(2, .int z1), (3, .int (nI k)), (0, .ref am), (1, .int v)]) d_8_32_31 rfl (by decide) rfl ?_
          refine g_iinc cx 1 (lv' := [(3, .int (nI (k + 1))), (2, .int z1), (0, .ref am), (1, .int v)]) d_8_32_32 rfl (inc1 k) (by decide) rfl ?_
          refine g_goto cx d_8_32_35 rfl ?_
          exact ih (k + 1) z1 (by omega) hz1 (by omega)
        · skip
          refine g_aload_n cx 2 d_8_32_16 rfl rfl ?_
          refine m_get cx (k := 26) d_8_32_17 t_924 ⟨by decide, rfl⟩ hm rfl ?_
          refine g_iload_n cx 0 d_8_32_20 rfl rfl ?_
          refine m_ld1 cx d_8_32_21 (by decide) hm rfl ⟨(show k < 8 by omega), by decide⟩ ?_
          refine g_iload_n cx 3 d_8_32_22 rfl rfl ?_
          refine g_icmp_ne cx d_8_32_23 rfl (fun c23 => ?_) (fun c23 => ?_)
          · skip
            refine g_iconst cx (v := 0) d_8_32_30 (by decide) ?_
            refine g_topi (fun z1 ez1 => ?_)
            have hz1 : z1 = 1 ∨ (z1 = 0 ∧ ∀ j, j < k + 1 → x.2.1 26 j ≠ v) := by
              first
                | exact Or.inl ez1
                | exact Or.inr ⟨ez1, fun j hj => (Nat.lt_or_ge j k).elim (fun y => (hi.resolve_left (fun w => absurd (w.symm.trans c13) (by decide))).2 j y) (fun y => by rw [show j = k by omega]; exact c23)⟩
            refine g_istore_n cx (lv' := [(2, .int z1), (3, .int (nI k)), (0, .ref am), (1, .int v)]) d_8_32_31 rfl (by decide) rfl ?_
            refine g_iinc cx 1 (lv' := [(3, .int (nI (k + 1))), (2, .int z1), (0, .ref am), (1, .int v)]) d_8_32_32 rfl (inc1 k) (by decide) rfl ?_
            refine g_goto cx d_8_32_35 rfl ?_
            exact ih (k + 1) z1 (by omega) hz1 (by omega)
          · skip
            refine g_iconst cx (v := 1) d_8_32_26 (by decide) ?_
            refine g_goto cx d_8_32_27 rfl ?_
            refine g_topi (fun z1 ez1 => ?_)
            have hz1 : z1 = 1 ∨ (z1 = 0 ∧ ∀ j, j < k + 1 → x.2.1 26 j ≠ v) := by
              first
                | exact Or.inl ez1
                | exact Or.inr ⟨ez1, fun j hj => (Nat.lt_or_ge j k).elim (fun y => (hi.resolve_left (fun w => absurd (w.symm.trans c13) (by decide))).2 j y) (fun y => by rw [show j = k by omega]; exact c23)⟩
            refine g_istore_n cx (lv' := [(2, .int z1), (3, .int (nI k)), (0, .ref am), (1, .int v)]) d_8_32_31 rfl (by decide) rfl ?_
            refine g_iinc cx 1 (lv' := [(3, .int (nI (k + 1))), (2, .int z1), (0, .ref am), (1, .int v)]) d_8_32_32 rfl (inc1 k) (by decide) rfl ?_
            refine g_goto cx d_8_32_35 rfl ?_
            exact ih (k + 1) z1 (by omega) hz1 (by omega)
  refine g_iconst cx (v := 0) d_8_32_0 (by decide) ?_
  refine g_topi (fun z0' ez0' => ?_)
  refine g_istore_n cx (lv' := [(2, .int z0'), (0, .ref am), (1, .int v)]) d_8_32_1 rfl (by decide) rfl ?_
  refine g_iconst cx (v := 0) d_8_32_2 (by decide) ?_
  refine g_topi (fun k0 ek0 => ?_)
  obtain rfl : k0 = nI 0 := ek0
  refine g_istore_n cx (lv' := [(3, .int (nI 0)), (2, .int z0'), (0, .ref am), (1, .int v)]) d_8_32_3 rfl (by decide) rfl ?_
  exact lp (t + 1) 0 z0' (by omega) (Or.inr ⟨ez0', fun j hj => absurd hj (Nat.not_lt_zero _)⟩) (by omega)
set_option maxHeartbeats 4000000 in
theorem mc_own (hSt : Stb z0 E) (hA : Ad am ad) (x : MS) (q t : Nat) (nv : Int64) (nm : Nat → Nat) (hq : q < 8) (ht : x.2.1 13 q = nI t) (htl : t ≤ 4) (hld : ∀ k, k < 32 → ∃ g, g < 6 ∧ x.2.1 14 k = nI g) (hnm : ∀ i, i < 6 → x.2.1 8 i = nI (nm i) ∧ nm i ≤ 6) : MC l y_186 prog_8_method_26_code 5 (Option.some Jvm.ClassFile.FieldType.int) 1 D z0 E am ad [.int (nI q), .long nv] x (fun r x' => x' = x ∧ ((∃ g, g < 6 ∧ r = some (.int (nI g)) ∧ ∃ j, j < nm g ∧ x.2.2 10 (6 * g + j) = nv) ∨ r = some (.int (-1)))) := by
  refine mc_of hSt rfl (Nat.le_of_ble_eq_true rfl) ?_
  intro h0 h p e s m args below meth c cx hm hs
  have hb : 4 * nI q + x.2.1 13 q = nI (4 * q + t) := by rw [ht, show (4 : Int32) = nI 4 from rfl, pk_mul, nI_add]
  have lp : ∀ (n : Nat) (k : Nat) (h : hp) (hm : Mo D am ad x h) (hs : Sm am ad h0 h), 4 * q ≤ k → k ≤ 4 * q + t → 4 * q + t - k < n → G p l e (rmL 1) s m args below meth c 5 D z0 E (MQp D am ad h0 (fun r x' => x' = x ∧ ((∃ g, g < 6 ∧ r = some (.int (nI g)) ∧ ∃ j, j < nm g ∧ x.2.2 10 (6 * g + j) = nv) ∨ r = some (.int (-1))))) 0 0 5 [(4, .int (nI k)), (0, .ref am), (1, .int (nI q)), (2, .long nv)] [] h 0 0 := by
    intro n
    induction n with
    | zero => intro k h hm hs hk0 hk1 hn; exact absurd hn (Nat.not_lt_zero _)
    | succ n ih =>
      intro k h hm hs hk0 hk1 hn
      refine g_iload cx 0 d_8_26_5 rfl ?_
      refine g_iconst cx (v := 4) d_8_26_7 (by decide) ?_
      refine g_iload_n cx 2 d_8_26_8 rfl rfl ?_
      refine g_imul cx d_8_26_9 ?_
      refine g_aload_n cx 1 d_8_26_10 rfl rfl ?_
      refine m_get cx (k := 13) d_8_26_11 t_911 ⟨by decide, rfl⟩ hm rfl ?_
      refine g_iload_n cx 2 d_8_26_14 rfl rfl ?_
      refine m_ld1 cx d_8_26_15 (by decide) hm rfl ⟨(show q < 8 from hq), by decide⟩ ?_
      refine g_iadd cx d_8_26_16 ?_
      refine g_icmp_ge cx d_8_26_17 rfl (fun c17 => ?_) (fun c17 => ?_)
      · skip
        refine g_iconst cx (v := (-1)) d_8_26_49 (by decide) ?_
        exact m_iret cx d_8_26_50 rfl rfl hm hs ⟨rfl, Or.inr rfl⟩
      · skip
        have hk : k < 4 * q + t := Nat.lt_of_not_le (fun y => c17 (by rw [hb]; exact nI_le y (by omega)))
        obtain ⟨g, hg, hgx⟩ := hld k (by omega)
        refine g_aload_n cx 1 d_8_26_20 rfl rfl ?_
        refine g_aload_n cx 1 d_8_26_21 rfl rfl ?_
        refine m_get cx (k := 14) d_8_26_22 t_912 ⟨by decide, rfl⟩ hm rfl ?_
        refine g_iload cx 0 d_8_26_25 rfl ?_
        refine m_ld1 cx d_8_26_27 (by decide) hm rfl ⟨(show k < 32 by omega), by decide⟩ ?_
        refine g_topi (fun g0 eg0 => ?_)
        obtain rfl : g0 = nI g := eg0.trans hgx
        refine g_lload_n cx 3 d_8_26_28 rfl rfl ?_
        refine m_call 1 cx (As := [.int (nI g), .long nv]) (n := 2) (mc_isIn hSt hA x g (nm g) nv hg (hnm g hg).1 (hnm g hg).2) d_8_26_29 t_1038 t_1040 ts_35 t_1041 rfl ⟨rfl, by decide +kernel⟩ rfl ⟨by decide, by decide⟩ (Nat.le_of_ble_eq_true rfl) hm hs (fun v29 x29 h hm hs r29 => ?_)
        obtain ⟨e29, r29⟩ := r29
        rw [e29] at hm
        rcases r29 with rfl | ⟨rfl, j, hj, hjx⟩
        · skip
          refine g_if_eq cx d_8_26_32 rfl (fun c32 => ?_) (fun c32 => absurd rfl c32)
          refine g_iinc cx 0 (lv' := [(4, .int (nI (k + 1))), (0, .ref am), (1, .int (nI q)), (2, .long nv)]) d_8_26_43 rfl (inc1 k) (by decide) rfl ?_
          refine g_goto cx d_8_26_46 rfl ?_
          exact ih (k + 1) h hm hs (by omega) (by omega) (by omega)
        · skip
          refine g_if_eq cx d_8_26_32 rfl (fun c32 => absurd c32 (by decide)) (fun c32 => ?_)
          refine g_aload_n cx 1 d_8_26_35 rfl rfl ?_
          refine m_get cx (k := 14) d_8_26_36 t_912 ⟨by decide, rfl⟩ hm rfl ?_
          refine g_iload cx 0 d_8_26_39 rfl ?_
          refine m_ld1 cx d_8_26_41 (by decide) hm rfl ⟨(show k < 32 by omega), by decide⟩ ?_
          exact m_iret cx d_8_26_42 rfl rfl hm hs ⟨rfl, Or.inl ⟨g, hg, by rw [hgx], j, hj, hjx⟩⟩
  refine g_iconst cx (v := 4) d_8_26_0 (by decide) ?_
  refine g_iload_n cx 1 d_8_26_1 rfl rfl ?_
  refine g_imul cx d_8_26_2 ?_
  refine g_topi (fun k0 ek0 => ?_)
  obtain rfl : k0 = nI (4 * q) := by rw [ek0]; exact pk_mul 4 q
  refine g_istore cx (lv' := [(4, .int (nI (4 * q))), (0, .ref am), (1, .int (nI q)), (2, .long nv)]) d_8_26_3 (by decide) rfl ?_
  exact lp (t + 1) (4 * q) h hm hs (by omega) (by omega) (by omega)
set_option maxHeartbeats 4000000 in
theorem mc_push (hSt : Stb z0 E) (hA : Ad am ad) (x : MS) (v : Int32) (t k : Nat) (ht : x.1 24 = nI t) (htl : t < 8) (hk : x.1 25 = nI k) (hkl : k < 2 ^ 30) : MC l y_180 prog_8_method_33_code 2 (Option.none) 1 D z0 E am ad [.int v] x (fun r x' => r = none ∧ x' = seti (if k < 20 then seta (seti (seta (seta x 26 t v) 27 t 0) 24 (nI (t + 1))) 28 k v else seti (seta (seta x 26 t v) 27 t 0) 24 (nI (t + 1))) 25 (nI (k + 1))) := by
  refine mc_of hSt rfl (Nat.le_of_ble_eq_true rfl) ?_
  intro h0 h p e s m args below meth c cx hm hs
  refine g_aload_n cx 0 d_8_33_0 rfl rfl ?_
  refine m_get cx (k := 26) d_8_33_1 t_924 ⟨by decide, rfl⟩ hm rfl ?_
  refine g_aload_n cx 0 d_8_33_4 rfl rfl ?_
  refine m_get cx (k := 24) d_8_33_5 t_922 ⟨by decide, rfl⟩ hm rfl ?_
  refine g_iload_n cx 1 d_8_33_8 rfl rfl ?_
  refine m_st1 cx hA d_8_33_9 (by decide) hm hs ht ⟨(show t < 8 from htl), by decide⟩ (fun h hm hs => ?_)
  refine g_aload_n cx 0 d_8_33_10 rfl rfl ?_
  refine m_get cx (k := 27) d_8_33_11 t_925 ⟨by decide, rfl⟩ hm rfl ?_
  refine g_aload_n cx 0 d_8_33_14 rfl rfl ?_
  refine m_get cx (k := 24) d_8_33_15 t_922 ⟨by decide, rfl⟩ hm rfl ?_
  refine g_iconst cx (v := 0) d_8_33_18 (by decide) ?_
  refine m_st1 cx hA d_8_33_19 (by decide) hm hs ht ⟨(show t < 8 from htl), by decide⟩ (fun h hm hs => ?_)
  refine g_aload_n cx 0 d_8_33_20 rfl rfl ?_
  refine g_dup cx d_8_33_21 rfl ?_
  refine m_get cx (k := 24) d_8_33_22 t_922 ⟨by decide, rfl⟩ hm rfl ?_
  refine g_iconst cx (v := 1) d_8_33_25 (by decide) ?_
  refine g_iadd cx d_8_33_26 ?_
  refine g_topi (fun t1 et1 => ?_)
  obtain rfl : t1 = nI (t + 1) := et1.trans (by show x.1 24 + 1 = _; rw [ht, nI_1])
  refine m_put cx (k := 24) hA d_8_33_27 t_922 ⟨by decide, rfl, rfl, rfl, by decide +kernel⟩ hm hs (fun h hm hs => ?_)
  refine g_aload_n cx 0 d_8_33_30 rfl rfl ?_
  refine g_iload_n cx 1 d_8_33_31 rfl rfl ?_
  refine m_call 1 cx (As := [.int v]) (n := 1) (mc_note hSt hA (seti (seta (seta x 26 t v) 27 t 0) 24 (nI (t + 1))) v k hk hkl) d_8_33_32 t_1090 t_1092 ts_47 t_1093 rfl ⟨rfl, by decide +kernel⟩ rfl ⟨by decide, by decide⟩ (Nat.le_of_ble_eq_true rfl) hm hs (fun v32 x32 h hm hs r32 => ?_)
  obtain ⟨rfl, rfl⟩ := r32
  exact m_vret cx d_8_33_35 rfl hm hs ⟨rfl, rfl⟩
end M3
