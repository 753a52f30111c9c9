/-! The reference's methods that ask others, or go through its tables. -/
theorem lg_eq {x y : Int64} (h : lg_cmp x y = 0) : x = y := by
  unfold lg_cmp at h
  split at h
  · cases h
  · split at h
    · assumption
    · cases h
def PT (x : MS) (p : Nat) (b e : Nat → Nat) : Prop := x.1 3 = nI p ∧ p ≤ 15 ∧ ∀ i, i < p → x.2.1 4 i = nI (b i) ∧ x.2.1 5 i = nI (e i) ∧ b i < e i ∧ e i ≤ 30
section M2
variable {l : Launch} {D : va_G} {z0 : Nat} {E : State → Prop} {am : Nat} {ad : Nat → Nat}
set_option maxHeartbeats 4000000 in
theorem mc_kept (hSt : Stb z0 E) (hA : Ad am ad) (x : MS) (v : Int32) (a : Nat) (ha : x.1 11 = nI a) (hal : a ≤ 8) : MC l y_193 prog_8_method_40_code 2 (Option.some Jvm.ClassFile.FieldType.int) 1 D z0 E am ad [.int v] x (fun r x' => (∃ u, r = some (.int u)) ∧ x' = seti x 0 0) := by
  refine mc_of hSt rfl (Nat.le_of_ble_eq_true rfl) ?_
  intro h0 h p e s m args below meth c cx hm hs
  refine g_aload_n cx 0 d_8_40_0 rfl rfl ?_
  refine g_iconst cx (v := 0) d_8_40_1 (by decide) ?_
  refine m_put cx (k := 0) hA d_8_40_2 t_898 ⟨by decide, rfl, rfl, rfl, by decide +kernel⟩ hm hs (fun h hm hs => ?_)
  refine g_aload_n cx 0 d_8_40_5 rfl rfl ?_
  refine g_iload_n cx 1 d_8_40_6 rfl rfl ?_
  refine m_call 1 cx (As := [.int v]) (n := 1) (mc_isRealm hSt hA (seti x 0 0) v a ha hal) d_8_40_7 t_1141 t_1143 ts_54 t_1144 rfl ⟨rfl, by decide +kernel⟩ rfl ⟨by decide, by decide⟩ (Nat.le_of_ble_eq_true rfl) hm hs (fun v7 x7 h hm hs r7 => ?_)
  obtain ⟨rfl, r7⟩ := r7
  rcases r7 with ⟨rfl, j, hj, hv, -⟩ | rfl
  · skip
    refine g_if_eq cx d_8_40_10 rfl (fun c10 => absurd c10 (by decide)) (fun c10 => ?_)
    refine g_aload_n cx 0 d_8_40_13 rfl rfl ?_
    refine m_get cx (k := 18) d_8_40_14 t_916 ⟨by decide, rfl⟩ hm rfl ?_
    refine g_iload_n cx 1 d_8_40_17 rfl rfl ?_
    refine m_ld1 cx d_8_40_18 (by decide) hm hv ⟨(show j < 8 by omega), by decide⟩ ?_
    refine g_goto cx d_8_40_19 rfl ?_
    exact m_iret cx d_8_40_23 rfl rfl hm hs ⟨⟨_, rfl⟩, rfl⟩
  · skip
    refine g_if_eq cx d_8_40_10 rfl (fun c10 => ?_) (fun c10 => absurd rfl c10)
    refine g_iconst cx (v := (-1)) d_8_40_22 (by decide) ?_
    exact m_iret cx d_8_40_23 rfl rfl hm hs ⟨⟨_, rfl⟩, rfl⟩
set_option maxHeartbeats 4000000 in
theorem mc_drop (hSt : Stb z0 E) (hA : Ad am ad) (x : MS) (v : Int32) (a : Nat) (ha : x.1 11 = nI a) (hal : a ≤ 8) : MC l y_196 prog_8_method_42_code 2 (Option.some Jvm.ClassFile.FieldType.boolean) 1 D z0 E am ad [.int v] x (fun r x' => (∃ u, r = some (.int u)) ∧ (x' = seti x 0 0 ∨ ∃ j, j < a ∧ x' = seta (seti x 0 0) 22 j 1)) := by
  refine mc_of hSt rfl (Nat.le_of_ble_eq_true rfl) ?_
  intro h0 h p e s m args below meth c cx hm hs
  refine g_aload_n cx 0 d_8_42_0 rfl rfl ?_
  refine g_iconst cx (v := 0) d_8_42_1 (by decide) ?_
  refine m_put cx (k := 0) hA d_8_42_2 t_898 ⟨by decide, rfl, rfl, rfl, by decide +kernel⟩ hm hs (fun h hm hs => ?_)
  refine g_aload_n cx 0 d_8_42_5 rfl rfl ?_
  refine g_iload_n cx 1 d_8_42_6 rfl rfl ?_
  refine m_call 1 cx (As := [.int v]) (n := 1) (mc_isRealm hSt hA (seti x 0 0) v a ha hal) d_8_42_7 t_1141 t_1143 ts_54 t_1144 rfl ⟨rfl, by decide +kernel⟩ rfl ⟨by decide, by decide⟩ (Nat.le_of_ble_eq_true rfl) hm hs (fun v7 x7 h hm hs r7 => ?_)
  obtain ⟨rfl, r7⟩ := r7
  rcases r7 with ⟨rfl, j, hj, hv, -⟩ | rfl
  · skip
    refine g_if_ne cx d_8_42_10 rfl (fun c10 => ?_) (fun c10 => absurd c10 (by decide))
    refine g_aload_n cx 0 d_8_42_15 rfl rfl ?_
    refine m_get cx (k := 22) d_8_42_16 t_920 ⟨by decide, rfl⟩ hm rfl ?_
    refine g_iload_n cx 1 d_8_42_19 rfl rfl ?_
    refine g_iconst cx (v := 1) d_8_42_20 (by decide) ?_
    refine m_st4 cx hA d_8_42_21 (by decide) hm hs hv ⟨(show j < 8 by omega), by decide⟩ (fun h hm hs => ?_)
    refine g_iconst cx (v := 1) d_8_42_22 (by decide) ?_
    exact m_iret cx d_8_42_23 rfl rfl hm hs ⟨⟨_, rfl⟩, Or.inr ⟨j, hj, rfl⟩⟩
  · skip
    refine g_if_ne cx d_8_42_10 rfl (fun c10 => absurd rfl c10) (fun c10 => ?_)
    refine g_iconst cx (v := 0) d_8_42_13 (by decide) ?_
    exact m_iret cx d_8_42_14 rfl rfl hm hs ⟨⟨_, rfl⟩, Or.inl rfl⟩
set_option maxHeartbeats 4000000 in
theorem mc_count (hSt : Stb z0 E) (hA : Ad am ad) (x : MS) (v : Int32) (a : Nat) (ha : x.1 11 = nI a) (hal : a ≤ 8) : MC l y_198 prog_8_method_44_code 4 (Option.some Jvm.ClassFile.FieldType.int) 0 D z0 E am ad [.int v] x (fun r x' => (∃ u, r = some (.int u)) ∧ x' = seti x 0 0) := by
  refine mc_of hSt rfl (Nat.le_of_ble_eq_true rfl) ?_
  intro h0 h p e s m args below meth c cx hm hs
  refine g_aload_n cx 0 d_8_44_0 rfl rfl ?_
  refine g_iconst cx (v := 0) d_8_44_1 (by decide) ?_
  refine m_put cx (k := 0) hA d_8_44_2 t_898 ⟨by decide, rfl, rfl, rfl, by decide +kernel⟩ hm hs (fun h hm hs => ?_)
  have lp : ∀ (n : Nat) (j : Nat) (k : Int32), j ≤ a → a - j < n → G p l e (rmL 0) s m args below meth c 4 D z0 E (MQp D am ad h0 (fun r x' => (∃ u, r = some (.int u)) ∧ x' = seti x 0 0)) 0 0 9 [(3, .int (nI j)), (2, .int k), (0, .ref am), (1, .int v)] [] h 0 0 := by
    intro n
    induction n with
    | zero => intro j k hj0 hn; exact absurd hn (Nat.not_lt_zero _)
    | succ n ih =>
      intro j k hj0 hn
      refine g_iload_n cx 0 d_8_44_9 rfl rfl ?_
      refine g_aload_n cx 2 d_8_44_10 rfl rfl ?_
      refine m_get cx (k := 11) d_8_44_11 t_909 ⟨by decide, rfl⟩ hm rfl ?_
      refine g_icmp_ge cx d_8_44_14 rfl (fun c14 => ?_) (fun c14 => ?_)
      · skip
        refine g_iload_n cx 3 d_8_44_40 rfl rfl ?_
        refine g_if_ne cx d_8_44_41 rfl (fun c41 => ?_) (fun c41 => ?_)
        · skip
          refine g_iload_n cx 3 d_8_44_51 rfl rfl ?_
          refine g_iconst cx (v := 1) d_8_44_52 (by decide) ?_
          refine g_icmp_ne cx d_8_44_53 rfl (fun c53 => ?_) (fun c53 => ?_)
          · skip
            refine g_iload_n cx 3 d_8_44_63 rfl rfl ?_
            refine g_iconst cx (v := 2) d_8_44_64 (by decide) ?_
            refine g_icmp_ne cx d_8_44_65 rfl (fun c65 => ?_) (fun c65 => ?_)
            · skip
              refine g_iconst cx (v := (-1)) d_8_44_72 (by decide) ?_
              exact m_iret cx d_8_44_73 rfl rfl hm hs ⟨⟨_, rfl⟩, rfl⟩
            · skip
              refine g_iload_n cx 1 d_8_44_68 rfl rfl ?_
              refine g_goto cx d_8_44_69 rfl ?_
              exact m_iret cx d_8_44_73 rfl rfl hm hs ⟨⟨_, rfl⟩, rfl⟩
          · skip
            refine g_aload_n cx 2 d_8_44_56 rfl rfl ?_
            refine m_get cx (k := 11) d_8_44_57 t_909 ⟨by decide, rfl⟩ hm rfl ?_
            refine g_goto cx d_8_44_60 rfl ?_
            exact m_iret cx d_8_44_73 rfl rfl hm hs ⟨⟨_, rfl⟩, rfl⟩
        · skip
          refine g_aload_n cx 2 d_8_44_44 rfl rfl ?_
          refine m_get cx (k := 6) d_8_44_45 t_904 ⟨by decide, rfl⟩ hm rfl ?_
          refine g_goto cx d_8_44_48 rfl ?_
          exact m_iret cx d_8_44_73 rfl rfl hm hs ⟨⟨_, rfl⟩, rfl⟩
      · skip
        have hj : j < a := Nat.lt_of_not_le (fun q => c14 (by show x.1 11 ≤ nI j; rw [ha]; exact nI_le q (by omega)))
        refine g_aload_n cx 2 d_8_44_17 rfl rfl ?_
        refine m_get cx (k := 22) d_8_44_18 t_920 ⟨by decide, rfl⟩ hm rfl ?_
        refine g_iload_n cx 0 d_8_44_21 rfl rfl ?_
        refine m_ld4 cx d_8_44_22 (by decide) hm rfl ⟨(show j < 8 by omega), by decide⟩ ?_
        refine g_if_eq cx d_8_44_23 rfl (fun c23 => ?_) (fun c23 => ?_)
        · skip
          refine g_iload_n cx 1 d_8_44_30 rfl rfl ?_
          refine g_iconst cx (v := 1) d_8_44_31 (by decide) ?_
          refine g_iadd cx d_8_44_32 ?_
          refine g_topi (fun k1 ek1 => ?_)
          refine g_istore_n cx (lv' := [(2, .int k1), (3, .int (nI j)), (0, .ref am), (1, .int v)]) d_8_44_33 rfl (by decide) rfl ?_
          refine g_iinc cx 1 (lv' := [(3, .int (nI (j + 1))), (2, .int k1), (0, .ref am), (1, .int v)]) d_8_44_34 rfl (inc1 j) (by decide) rfl ?_
          refine g_loc (lv' := [(3, .int (nI (j + 1))), (2, .int k1), (0, .ref am), (1, .int v)]) [0, 1, 2, 3] rfl ?_
          refine g_goto cx d_8_44_37 rfl ?_
          exact ih (j + 1) _ (by omega) (by omega)
        · skip
          refine g_iload_n cx 1 d_8_44_26 rfl rfl ?_
          refine g_goto cx d_8_44_27 rfl ?_
          refine g_topi (fun k1 ek1 => ?_)
          refine g_istore_n cx (lv' := [(2, .int k1), (3, .int (nI j)), (0, .ref am), (1, .int v)]) d_8_44_33 rfl (by decide) rfl ?_
          refine g_iinc cx 1 (lv' := [(3, .int (nI (j + 1))), (2, .int k1), (0, .ref am), (1, .int v)]) d_8_44_34 rfl (inc1 j) (by decide) rfl ?_
          refine g_loc (lv' := [(3, .int (nI (j + 1))), (2, .int k1), (0, .ref am), (1, .int v)]) [0, 1, 2, 3] rfl ?_
          refine g_goto cx d_8_44_37 rfl ?_
          exact ih (j + 1) _ (by omega) (by omega)
  refine g_iconst cx (v := 0) d_8_44_5 (by decide) ?_
  refine g_topi (fun k0 ek0 => ?_)
  refine g_istore_n cx (lv' := [(2, .int k0), (0, .ref am), (1, .int v)]) d_8_44_6 rfl (by decide) rfl ?_
  refine g_iconst cx (v := 0) d_8_44_7 (by decide) ?_
  refine g_topi (fun j0 ej0 => ?_)
  obtain rfl : j0 = nI 0 := ej0
  refine g_istore_n cx (lv' := [(3, .int (nI 0)), (2, .int k0), (0, .ref am), (1, .int v)]) d_8_44_8 rfl (by decide) rfl ?_
  exact lp (a + 1) 0 _ (by omega) (by omega)
set_option maxHeartbeats 4000000 in
theorem mc_isLong (hSt : Stb z0 E) (hA : Ad am ad) (x : MS) (i pn : Nat) (bg en : Nat → Nat) (v : Int32) (hp : PT x pn bg en) (hi : i < 15) : MC l y_161 prog_8_method_9_code 3 (Option.some Jvm.ClassFile.FieldType.boolean) 0 D z0 E am ad [.int (nI i), .int v] x (fun r x' => x' = x ∧ ((r = some (.int 1) ∧ i < pn ∧ nI (en i) - nI (bg i) = v) ∨ r = some (.int 0))) := by
  refine mc_of hSt rfl (Nat.le_of_ble_eq_true rfl) ?_
  intro h0 h p e s m args below meth c cx hm hs
  refine g_iload_n cx 1 d_8_9_0 rfl rfl ?_
  refine g_aload_n cx 0 d_8_9_1 rfl rfl ?_
  refine m_get cx (k := 3) d_8_9_2 t_901 ⟨by decide, rfl⟩ hm rfl ?_
  refine g_icmp_ge cx d_8_9_5 rfl (fun c5 => ?_) (fun c5 => ?_)
  · skip
    refine g_iconst cx (v := 0) d_8_9_29 (by decide) ?_
    first
      | exact m_iret cx d_8_9_30 rfl rfl hm hs ⟨rfl, Or.inl ⟨rfl, hip, by rw [← p1, ← p2]; exact c22⟩⟩
      | exact m_iret cx d_8_9_30 rfl rfl hm hs ⟨rfl, Or.inr rfl⟩
  · skip
    have hip : i < pn := Nat.lt_of_not_le (fun q => c5 (by show x.1 3 ≤ nI i; rw [hp.1]; exact nI_le q (by omega)))
    obtain ⟨p1, p2, p3, p4⟩ := hp.2.2 i hip
    refine g_aload_n cx 0 d_8_9_8 rfl rfl ?_
    refine m_get cx (k := 5) d_8_9_9 t_903 ⟨by decide, rfl⟩ hm rfl ?_
    refine g_iload_n cx 1 d_8_9_12 rfl rfl ?_
    refine m_ld1 cx d_8_9_13 (by decide) hm rfl ⟨(show i < 15 from hi), by decide⟩ ?_
    refine g_aload_n cx 0 d_8_9_14 rfl rfl ?_
    refine m_get cx (k := 4) d_8_9_15 t_902 ⟨by decide, rfl⟩ hm rfl ?_
    refine g_iload_n cx 1 d_8_9_18 rfl rfl ?_
    refine m_ld1 cx d_8_9_19 (by decide) hm rfl ⟨(show i < 15 from hi), by decide⟩ ?_
    refine g_isub cx d_8_9_20 ?_
    refine g_iload_n cx 2 d_8_9_21 rfl rfl ?_
    refine g_icmp_ne cx d_8_9_22 rfl (fun c22 => ?_) (fun c22 => ?_)
    · skip
      refine g_iconst cx (v := 0) d_8_9_29 (by decide) ?_
      first
        | exact m_iret cx d_8_9_30 rfl rfl hm hs ⟨rfl, Or.inl ⟨rfl, hip, by rw [← p1, ← p2]; exact c22⟩⟩
        | exact m_iret cx d_8_9_30 rfl rfl hm hs ⟨rfl, Or.inr rfl⟩
    · skip
      refine g_iconst cx (v := 1) d_8_9_25 (by decide) ?_
      refine g_goto cx d_8_9_26 rfl ?_
      first
        | exact m_iret cx d_8_9_30 rfl rfl hm hs ⟨rfl, Or.inl ⟨rfl, hip, by rw [← p1, ← p2]; exact c22⟩⟩
        | exact m_iret cx d_8_9_30 rfl rfl hm hs ⟨rfl, Or.inr rfl⟩
set_option maxHeartbeats 4000000 in
theorem mc_ends (hSt : Stb z0 E) (hA : Ad am ad) (x : MS) (i pn : Nat) (bg en : Nat → Nat) (v u : Int32) (hp : PT x pn bg en) (hip : i < pn) (he : 2 ≤ en i) : MC l y_162 prog_8_method_10_code 4 (Option.some Jvm.ClassFile.FieldType.boolean) 0 D z0 E am ad [.int (nI i), .int v, .int u] x (fun r x' => x' = x ∧ (r = some (.int 1) ∨ r = some (.int 0))) := by
  refine mc_of hSt rfl (Nat.le_of_ble_eq_true rfl) ?_
  intro h0 h p e s m args below meth c cx hm hs
  have hpl := hp.2.1
  obtain ⟨p1, p2, p3, p4⟩ := hp.2.2 i hip
  refine g_aload_n cx 0 d_8_10_0 rfl rfl ?_
  refine m_get cx (k := 1) d_8_10_1 t_899 ⟨by decide, rfl⟩ hm rfl ?_
  refine g_aload_n cx 0 d_8_10_4 rfl rfl ?_
  refine m_get cx (k := 5) d_8_10_5 t_903 ⟨by decide, rfl⟩ hm rfl ?_
  refine g_iload_n cx 1 d_8_10_8 rfl rfl ?_
  refine m_ld1 cx d_8_10_9 (by decide) hm rfl ⟨(show i < 15 by omega), by decide⟩ ?_
  refine g_iconst cx (v := 2) d_8_10_10 (by decide) ?_
  refine g_isub cx d_8_10_11 ?_
  refine m_ld2 cx d_8_10_12 (by decide) hm (show x.2.1 5 i - 2 = nI (en i - 2) by rw [p2]; exact pk_sub (b := 2) he) ⟨(show en i - 2 < 30 by omega), by decide⟩ ?_
  refine g_iload_n cx 2 d_8_10_13 rfl rfl ?_
  refine g_icmp_ne cx d_8_10_14 rfl (fun c14 => ?_) (fun c14 => ?_)
  · skip
    refine g_iconst cx (v := 0) d_8_10_38 (by decide) ?_
    first
      | exact m_iret cx d_8_10_39 rfl rfl hm hs ⟨rfl, Or.inl rfl⟩
      | exact m_iret cx d_8_10_39 rfl rfl hm hs ⟨rfl, Or.inr rfl⟩
  · skip
    refine g_aload_n cx 0 d_8_10_17 rfl rfl ?_
    refine m_get cx (k := 1) d_8_10_18 t_899 ⟨by decide, rfl⟩ hm rfl ?_
    refine g_aload_n cx 0 d_8_10_21 rfl rfl ?_
    refine m_get cx (k := 5) d_8_10_22 t_903 ⟨by decide, rfl⟩ hm rfl ?_
    refine g_iload_n cx 1 d_8_10_25 rfl rfl ?_
    refine m_ld1 cx d_8_10_26 (by decide) hm rfl ⟨(show i < 15 by omega), by decide⟩ ?_
    refine g_iconst cx (v := 1) d_8_10_27 (by decide) ?_
    refine g_isub cx d_8_10_28 ?_
    refine m_ld2 cx d_8_10_29 (by decide) hm (show x.2.1 5 i - 1 = nI (en i - 1) by rw [p2]; exact pk_sub (b := 1) (by omega)) ⟨(show en i - 1 < 30 by omega), by decide⟩ ?_
    refine g_iload_n cx 3 d_8_10_30 rfl rfl ?_
    refine g_icmp_ne cx d_8_10_31 rfl (fun c31 => ?_) (fun c31 => ?_)
    · skip
      refine g_iconst cx (v := 0) d_8_10_38 (by decide) ?_
      first
        | exact m_iret cx d_8_10_39 rfl rfl hm hs ⟨rfl, Or.inl rfl⟩
        | exact m_iret cx d_8_10_39 rfl rfl hm hs ⟨rfl, Or.inr rfl⟩
    · skip
      refine g_iconst cx (v := 1) d_8_10_34 (by decide) ?_
      refine g_goto cx d_8_10_35 rfl ?_
      first
        | exact m_iret cx d_8_10_39 rfl rfl hm hs ⟨rfl, Or.inl rfl⟩
        | exact m_iret cx d_8_10_39 rfl rfl hm hs ⟨rfl, Or.inr rfl⟩
set_option maxHeartbeats 4000000 in
theorem mc_says (hSt : Stb z0 E) (hA : Ad am ad) (x : MS) (i pn : Nat) (bg en : Nat → Nat) (v1 v2 v3 v4 : Int32) (hp : PT x pn bg en) (hi : i < 15) : MC l y_160 prog_8_method_8_code 7 (Option.some Jvm.ClassFile.FieldType.boolean) 0 D z0 E am ad [.int (nI i), .int v1, .int v2, .int v3, .int v4] x (fun r x' => x' = x ∧ (r = some (.int 1) ∨ r = some (.int 0))) := by
  refine mc_of hSt rfl (Nat.le_of_ble_eq_true rfl) ?_
  intro h0 h p e s m args below meth c cx hm hs
  refine g_iload_n cx 1 d_8_8_0 rfl rfl ?_
  refine g_aload_n cx 0 d_8_8_1 rfl rfl ?_
  refine m_get cx (k := 3) d_8_8_2 t_901 ⟨by decide, rfl⟩ hm rfl ?_
  refine g_icmp_ge cx d_8_8_5 rfl (fun c5 => ?_) (fun c5 => ?_)
  · skip
    refine g_iconst cx (v := 0) d_8_8_97 (by decide) ?_
    refine g_topi (fun z ez => ?_)
    refine g_istore cx (lv' := [(6, .int z), (0, .ref am), (1, .int (nI i)), (2, .int v1), (3, .int v2), (4, .int v3), (5, .int v4)]) d_8_8_98 (by decide) rfl ?_
    refine g_iload cx 0 d_8_8_100 rfl ?_
    first
      | exact m_iret cx d_8_8_102 rfl (by rw [ez]; rfl) hm hs ⟨rfl, Or.inl (congrArg (fun q => some (Value.int q)) ez)⟩
      | exact m_iret cx d_8_8_102 rfl (by rw [ez]; rfl) hm hs ⟨rfl, Or.inr (congrArg (fun q => some (Value.int q)) ez)⟩
  · skip
    have hip : i < pn := Nat.lt_of_not_le (fun q => c5 (by show x.1 3 ≤ nI i; rw [hp.1]; exact nI_le q (by omega)))
    obtain ⟨p1, p2, p3, p4⟩ := hp.2.2 i hip
    refine g_aload_n cx 0 d_8_8_8 rfl rfl ?_
    refine m_get cx (k := 5) d_8_8_9 t_903 ⟨by decide, rfl⟩ hm rfl ?_
    refine g_iload_n cx 1 d_8_8_12 rfl rfl ?_
    refine m_ld1 cx d_8_8_13 (by decide) hm rfl ⟨(show i < 15 from hi), by decide⟩ ?_
    refine g_aload_n cx 0 d_8_8_14 rfl rfl ?_
    refine m_get cx (k := 4) d_8_8_15 t_902 ⟨by decide, rfl⟩ hm rfl ?_
    refine g_iload_n cx 1 d_8_8_18 rfl rfl ?_
    refine m_ld1 cx d_8_8_19 (by decide) hm rfl ⟨(show i < 15 from hi), by decide⟩ ?_
    refine g_isub cx d_8_8_20 ?_
    refine g_iconst cx (v := 4) d_8_8_21 (by decide) ?_
    refine g_icmp_lt cx d_8_8_22 rfl (fun c22 => ?_) (fun c22 => ?_)
    · skip
      refine g_iconst cx (v := 0) d_8_8_97 (by decide) ?_
      refine g_topi (fun z ez => ?_)
      refine g_istore cx (lv' := [(6, .int z), (0, .ref am), (1, .int (nI i)), (2, .int v1), (3, .int v2), (4, .int v3), (5, .int v4)]) d_8_8_98 (by decide) rfl ?_
      refine g_iload cx 0 d_8_8_100 rfl ?_
      first
        | exact m_iret cx d_8_8_102 rfl (by rw [ez]; rfl) hm hs ⟨rfl, Or.inl (congrArg (fun q => some (Value.int q)) ez)⟩
        | exact m_iret cx d_8_8_102 rfl (by rw [ez]; rfl) hm hs ⟨rfl, Or.inr (congrArg (fun q => some (Value.int q)) ez)⟩
    · skip
      have h4 : bg i + 4 ≤ en i := by
        refine Nat.le_of_not_lt (fun q => c22 ?_)
        show x.2.1 5 i - x.2.1 4 i < 4
        rw [p1, p2, pk_sub (by omega)]
        exact (nI_ltI (b := 4) (by omega) (by decide)).mpr (by omega)
      refine g_aload_n cx 0 d_8_8_25 rfl rfl ?_
      refine m_get cx (k := 1) d_8_8_26 t_899 ⟨by decide, rfl⟩ hm rfl ?_
      refine g_aload_n cx 0 d_8_8_29 rfl rfl ?_
      refine m_get cx (k := 4) d_8_8_30 t_902 ⟨by decide, rfl⟩ hm rfl ?_
      refine g_iload_n cx 1 d_8_8_33 rfl rfl ?_
      refine m_ld1 cx d_8_8_34 (by decide) hm rfl ⟨(show i < 15 from hi), by decide⟩ ?_
      refine m_ld2 cx d_8_8_35 (by decide) hm (show x.2.1 4 i = nI (bg i + 0) by exact p1) ⟨(show bg i + 0 < 30 by omega), by decide⟩ ?_
      refine g_iload_n cx 2 d_8_8_36 rfl rfl ?_
      refine g_icmp_ne cx d_8_8_37 rfl (fun c37 => ?_) (fun c37 => ?_)
      · skip
        refine g_iconst cx (v := 0) d_8_8_97 (by decide) ?_
        refine g_topi (fun z ez => ?_)
        refine g_istore cx (lv' := [(6, .int z), (0, .ref am), (1, .int (nI i)), (2, .int v1), (3, .int v2), (4, .int v3), (5, .int v4)]) d_8_8_98 (by decide) rfl ?_
        refine g_iload cx 0 d_8_8_100 rfl ?_
        first
          | exact m_iret cx d_8_8_102 rfl (by rw [ez]; rfl) hm hs ⟨rfl, Or.inl (congrArg (fun q => some (Value.int q)) ez)⟩
          | exact m_iret cx d_8_8_102 rfl (by rw [ez]; rfl) hm hs ⟨rfl, Or.inr (congrArg (fun q => some (Value.int q)) ez)⟩
      · skip
        refine g_aload_n cx 0 d_8_8_40 rfl rfl ?_
        refine m_get cx (k := 1) d_8_8_41 t_899 ⟨by decide, rfl⟩ hm rfl ?_
        refine g_aload_n cx 0 d_8_8_44 rfl rfl ?_
        refine m_get cx (k := 4) d_8_8_45 t_902 ⟨by decide, rfl⟩ hm rfl ?_
        refine g_iload_n cx 1 d_8_8_48 rfl rfl ?_
        refine m_ld1 cx d_8_8_49 (by decide) hm rfl ⟨(show i < 15 from hi), by decide⟩ ?_
        refine g_iconst cx (v := 1) d_8_8_50 (by decide) ?_
        refine g_iadd cx d_8_8_51 ?_
        refine m_ld2 cx d_8_8_52 (by decide) hm (show x.2.1 4 i + 1 = nI (bg i + 1) by rw [p1]; exact nI_add (bg i) 1) ⟨(show bg i + 1 < 30 by omega), by decide⟩ ?_
        refine g_iload_n cx 3 d_8_8_53 rfl rfl ?_
        refine g_icmp_ne cx d_8_8_54 rfl (fun c54 => ?_) (fun c54 => ?_)
        · skip
          refine g_iconst cx (v := 0) d_8_8_97 (by decide) ?_
          refine g_topi (fun z ez => ?_)
          refine g_istore cx (lv' := [(6, .int z), (0, .ref am), (1, .int (nI i)), (2, .int v1), (3, .int v2), (4, .int v3), (5, .int v4)]) d_8_8_98 (by decide) rfl ?_
          refine g_iload cx 0 d_8_8_100 rfl ?_
          first
            | exact m_iret cx d_8_8_102 rfl (by rw [ez]; rfl) hm hs ⟨rfl, Or.inl (congrArg (fun q => some (Value.int q)) ez)⟩
            | exact m_iret cx d_8_8_102 rfl (by rw [ez]; rfl) hm hs ⟨rfl, Or.inr (congrArg (fun q => some (Value.int q)) ez)⟩
        · skip
          refine g_aload_n cx 0 d_8_8_57 rfl rfl ?_
          refine m_get cx (k := 1) d_8_8_58 t_899 ⟨by decide, rfl⟩ hm rfl ?_
          refine g_aload_n cx 0 d_8_8_61 rfl rfl ?_
          refine m_get cx (k := 4) d_8_8_62 t_902 ⟨by decide, rfl⟩ hm rfl ?_
          refine g_iload_n cx 1 d_8_8_65 rfl rfl ?_
          refine m_ld1 cx d_8_8_66 (by decide) hm rfl ⟨(show i < 15 from hi), by decide⟩ ?_
          refine g_iconst cx (v := 2) d_8_8_67 (by decide) ?_
          refine g_iadd cx d_8_8_68 ?_
          refine m_ld2 cx d_8_8_69 (by decide) hm (show x.2.1 4 i + 2 = nI (bg i + 2) by rw [p1]; exact nI_add (bg i) 2) ⟨(show bg i + 2 < 30 by omega), by decide⟩ ?_
          refine g_iload cx 4 d_8_8_70 rfl ?_
          refine g_icmp_ne cx d_8_8_72 rfl (fun c72 => ?_) (fun c72 => ?_)
          · skip
            refine g_iconst cx (v := 0) d_8_8_97 (by decide) ?_
            refine g_topi (fun z ez => ?_)
            refine g_istore cx (lv' := [(6, .int z), (0, .ref am), (1, .int (nI i)), (2, .int v1), (3, .int v2), (4, .int v3), (5, .int v4)]) d_8_8_98 (by decide) rfl ?_
            refine g_iload cx 0 d_8_8_100 rfl ?_
            first
              | exact m_iret cx d_8_8_102 rfl (by rw [ez]; rfl) hm hs ⟨rfl, Or.inl (congrArg (fun q => some (Value.int q)) ez)⟩
              | exact m_iret cx d_8_8_102 rfl (by rw [ez]; rfl) hm hs ⟨rfl, Or.inr (congrArg (fun q => some (Value.int q)) ez)⟩
          · skip
            refine g_aload_n cx 0 d_8_8_75 rfl rfl ?_
            refine m_get cx (k := 1) d_8_8_76 t_899 ⟨by decide, rfl⟩ hm rfl ?_
            refine g_aload_n cx 0 d_8_8_79 rfl rfl ?_
            refine m_get cx (k := 4) d_8_8_80 t_902 ⟨by decide, rfl⟩ hm rfl ?_
            refine g_iload_n cx 1 d_8_8_83 rfl rfl ?_
            refine m_ld1 cx d_8_8_84 (by decide) hm rfl ⟨(show i < 15 from hi), by decide⟩ ?_
            refine g_iconst cx (v := 3) d_8_8_85 (by decide) ?_
            refine g_iadd cx d_8_8_86 ?_
            refine m_ld2 cx d_8_8_87 (by decide) hm (show x.2.1 4 i + 3 = nI (bg i + 3) by rw [p1]; exact nI_add (bg i) 3) ⟨(show bg i + 3 < 30 by omega), by decide⟩ ?_
            refine g_iload cx 5 d_8_8_88 rfl ?_
            refine g_icmp_ne cx d_8_8_90 rfl (fun c90 => ?_) (fun c90 => ?_)
            · skip
              refine g_iconst cx (v := 0) d_8_8_97 (by decide) ?_
              refine g_topi (fun z ez => ?_)
              refine g_istore cx (lv' := [(6, .int z), (0, .ref am), (1, .int (nI i)), (2, .int v1), (3, .int v2), (4, .int v3), (5, .int v4)]) d_8_8_98 (by decide) rfl ?_
              refine g_iload cx 0 d_8_8_100 rfl ?_
              first
                | exact m_iret cx d_8_8_102 rfl (by rw [ez]; rfl) hm hs ⟨rfl, Or.inl (congrArg (fun q => some (Value.int q)) ez)⟩
                | exact m_iret cx d_8_8_102 rfl (by rw [ez]; rfl) hm hs ⟨rfl, Or.inr (congrArg (fun q => some (Value.int q)) ez)⟩
            · skip
              refine g_iconst cx (v := 1) d_8_8_93 (by decide) ?_
              refine g_goto cx d_8_8_94 rfl ?_
              refine g_topi (fun z ez => ?_)
              refine g_istore cx (lv' := [(6, .int z), (0, .ref am), (1, .int (nI i)), (2, .int v1), (3, .int v2), (4, .int v3), (5, .int v4)]) d_8_8_98 (by decide) rfl ?_
              refine g_iload cx 0 d_8_8_100 rfl ?_
              first
                | exact m_iret cx d_8_8_102 rfl (by rw [ez]; rfl) hm hs ⟨rfl, Or.inl (congrArg (fun q => some (Value.int q)) ez)⟩
                | exact m_iret cx d_8_8_102 rfl (by rw [ez]; rfl) hm hs ⟨rfl, Or.inr (congrArg (fun q => some (Value.int q)) ez)⟩
end M2
