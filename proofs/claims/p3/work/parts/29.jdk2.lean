/-! Copies of byte arrays, new strings, substring. -/
/-- a fresh array of n bytes comes back, nothing else has changed -/
def AQ (D : va_G) (z0 : Nat) (h : hp) (n m : Nat) (F : Nat → Int32) : Outcome → hp → Prop := fun o h' => ∃ (q : Nat) (f : Nat → Int32), o = .returned (some (.ref q)) ∧ q ∉ h.1 ∧ z0 ≤ q ∧ sb_Fit f ∧ (∀ j, j < m → f j = F j) ∧ h' = (h.1 ++ [q], va_up h.2 q (.inl (D.1 104, n, .inl f)))
def ByF (D : va_G) (h : hp) (a n : Nat) (f : Nat → Int32) : Prop := a ∈ h.1 ∧ h.2 a = .inl (D.1 104, n, .inl f) ∧ sb_Fit f ∧ n ≤ 200
def Byt (D : va_G) (h : hp) (a n : Nat) : Prop := ∃ f : Nat → Int32, ByF D h a n f
theorem ByF.old {D : va_G} {h h' : hp} {a n : Nat} {f : Nat → Int32} {K K' : KM} (b : ByF D h a n f) (hol : ∀ b, b ∈ h.1 → b ∈ h'.1 ∧ K' b = K b ∧ h'.2 b = h.2 b) : ByF D h' a n f := ⟨(hol a b.1).1, (hol a b.1).2.2.trans b.2.1, b.2.2⟩
theorem cpy_in {f g : Nat → Int32} {sp n j : Nat} (h : j < n) : va_cpy f g sp 0 n j = f (sp + j) := by
  rw [pk_cpy_in (Nat.zero_le _) (by omega)]
  simp
theorem Byt.old {D : va_G} {h h' : hp} {a n : Nat} {K K' : KM} (b : Byt D h a n) (hol : ∀ b, b ∈ h.1 → b ∈ h'.1 ∧ K' b = K b ∧ h'.2 b = h.2 b) : Byt D h' a n := by
  obtain ⟨f, h1, h2, h3, h4⟩ := b
  exact ⟨f, (hol a h1).1, (hol a h1).2.2.trans h2, h3, h4⟩
theorem Byt.of {D : va_G} {z0 : Nat} {k : Nat → Nat} {K : KM} {B T : Nat} {h : hp} {a : Nat} (hT : TP D z0 k K B T h) (ha : Ty K h 40 a) (hn : (K a).2.1 ≤ 30) : Byt D h a (K a).2.1 := by
  obtain ⟨f, h1, h2, -⟩ : ∃ f : Nat → Int32, h.2 a = .inl (D.1 104, (K a).2.1, .inl f) ∧ sb_Fit f ∧ ∀ j, j < (K a).2.1 → f j = nI (chr (K a).2.2 j) := TP.o (κ := 40) hT ha
  exact ⟨f, ha.1, h1, h2, by omega⟩
theorem StrP.byt {D : va_G} {k : Nat → Nat} {h : hp} {a v n : Nat} (q : StrP D k h a v n) (hk : ∀ i, i < 10 → a = k (10 + i) → False) : Byt D h v n := by
  rcases q with ⟨x, y, f, -, -, h1, h2, h3, h4⟩ | ⟨i, hi, ha, -⟩
  · exact ⟨f, h1, h2, h3, by omega⟩
  · exact (hk i hi ha).elim
theorem up_old {f : Nat → va_E} {L : List Nat} {q v : Nat} {e : va_E} (hq : q ∉ L) (hv : v ∈ L) : va_up f q e v = f v := by
  have hne : v ≠ q := fun z => hq (z ▸ hv)
  exact va_up_ne _ _ hne
section J2
variable {l : Launch} {D : va_G} {z0 : Nat} {k : Nat → Nat}
set_option maxHeartbeats 4000000 in
theorem pj_rangeByte {v n bg en : Nat} {f : Nat → Int32} (hbe : bg ≤ en) (hen : en ≤ n) : Ctr l y_55 prog_28_method_133_code 5 (Option.some (Jvm.ClassFile.FieldType.array Jvm.ClassFile.FieldType.byte)) (rmT 2 1 (en - bg)) D z0 (EE z0 k) (fun a h => a = [.ref v, .int (nI bg), .int (nI en)] ∧ (ByF D h v n f)) (fun _ h o h' => AQ D z0 h (en - bg) (en - bg) (fun j => f (bg + j)) o h') := by
  refine ctr_of Cl.stb (by decide) (fun as h q => by rw [q.1]; exact Nat.le_of_ble_eq_true rfl) ?_
  intro as h q p e s m args below meth c cx
  obtain ⟨rfl, hp⟩ := q
  obtain ⟨hv, hF, hfit, hle⟩ := hp
  refine g_iload_n cx 1 d_28_133_0 rfl rfl ?_
  refine g_iload_n cx 2 d_28_133_1 rfl rfl ?_
  refine g_pcS cx (As := [.int (nI bg), .int (nI en)]) (n := 2) (pj_checkLength (a := bg) (b := en) (by omega) (by omega)) d_28_133_2 t_295 t_296 t_12 t_297 ⟨by decide, by decide, by decide +kernel⟩ rfl trivial ⟨Nat.le_of_ble_eq_true rfl, Nat.le_of_ble_eq_true rfl⟩ (Nat.le_of_ble_eq_true rfl) (fun v2 r2 => ?_)
  subst r2
  refine g_iload_n cx 2 d_28_133_5 rfl rfl ?_
  refine g_iload_n cx 1 d_28_133_6 rfl rfl ?_
  refine g_isub cx d_28_133_7 ?_
  refine g_topi (fun l3 el3 => ?_)
  obtain rfl : l3 = nI (en - bg) := el3.trans (pk_sub hbe)
  refine g_istore_n cx (lv' := [(3, .int (nI (en - bg))), (0, .ref v), (1, .int (nI bg)), (2, .int (nI en))]) d_28_133_8 rfl (by decide) rfl ?_
  refine g_iload_n cx 0 d_28_133_9 rfl rfl ?_
  refine g_newarr cx (k := 4) (n := en - bg) (a0 := (en - bg, .inl (fun _ => 0))) d_28_133_10 rfl t_69 rfl rfl rfl (by omega) (by decide) (fun cA => rfl) ⟨Nat.le_refl _, Nat.le_refl _⟩ (fun q hq hz => ?_)
  have hv1 : v ∈ h.1 ++ [q] := List.mem_append_left _ hv
  have hF1 : va_up h.2 q (.inl (D.1 104, en - bg, .inl (fun _ => 0))) v = _ := (up_old hq hv).trans hF
  have hq1 : q ∈ h.1 ++ [q] := List.mem_append_right _ (List.mem_singleton.mpr rfl)
  refine g_astore cx (lv' := [(4, .ref q), (3, .int (nI (en - bg))), (0, .ref v), (1, .int (nI bg)), (2, .int (nI en))]) d_28_133_12 (by decide) rfl ?_
  refine g_aload_n cx 2 d_28_133_14 rfl rfl ?_
  refine g_iload_n cx 3 d_28_133_15 rfl rfl ?_
  refine g_aload cx 0 d_28_133_16 rfl ?_
  refine g_iconst cx (v := 0) d_28_133_18 (by decide) ?_
  refine g_aload_n cx 2 d_28_133_19 rfl rfl ?_
  refine g_alen cx (k := 4) d_28_133_20 hv1 hF1 rfl ?_
  refine g_iload_n cx 3 d_28_133_21 rfl rfl ?_
  refine g_isub cx d_28_133_22 ?_
  refine g_topi (fun d22 ed22 => ?_)
  obtain rfl : d22 = nI (n - bg) := ed22.trans (pk_sub (by omega))
  refine g_iload_n cx 1 d_28_133_23 rfl rfl ?_
  refine g_min cx (a := n - bg) (b := en - bg) d_28_133_24 t_160 t_161 t_11 t_162 (by omega) (by omega) ⟨Nat.le_of_ble_eq_true rfl, Nat.le_of_ble_eq_true rfl⟩ (Nat.le_of_ble_eq_true rfl) ?_
  refine g_copyb cx (sp := bg) (dp := 0) (n := en - bg) d_28_133_27 t_163 t_165 t_164 t_13 hv1 hF1 hq1 (va_up_self _ _ _) rfl rfl (by rw [Nat.min_eq_right (by omega)]) ⟨by omega, by omega⟩ ⟨by omega, by omega⟩ hfit ⟨Nat.le_of_ble_eq_true rfl, Nat.le_of_ble_eq_true rfl⟩ (Nat.le_of_ble_eq_true rfl) ?_
  refine g_aload cx 0 d_28_133_30 rfl ?_
  exact g_aret cx d_28_133_32 rfl (Or.inr ⟨_, rfl⟩) (Or.inr ⟨_, rfl⟩) ⟨q, _, rfl, hq, hz, sb_fitC hfit sb_fit0, fun j hj => (cpy_in hj).trans rfl, by rw [up_up]⟩
set_option maxHeartbeats 4000000 in
theorem pj_copyRange {v n bg en : Nat} {f : Nat → Int32} (hbe : bg ≤ en) (hen : en ≤ n) : Ctr l y_54 prog_28_method_132_code 3 (Option.some (Jvm.ClassFile.FieldType.array Jvm.ClassFile.FieldType.byte)) (rmT 4 1 (en - bg)) D z0 (EE z0 k) (fun a h => a = [.ref v, .int (nI bg), .int (nI en)] ∧ (ByF D h v n f)) (fun _ h o h' => AQ D z0 h (en - bg) (en - bg) (fun j => f (bg + j)) o h') := by
  refine ctr_of Cl.stb (by decide) (fun as h q => by rw [q.1]; exact Nat.le_of_ble_eq_true rfl) ?_
  intro as h q p e s m args below meth c cx
  obtain ⟨rfl, hp⟩ := q
  refine g_iload_n cx 1 d_28_132_0 rfl rfl ?_
  refine g_if_ne cx d_28_132_1 rfl (fun c1 => ?_) (fun c1 => ?_)
  · skip
    obtain ⟨hv, hF, hfit, hle⟩ := id hp
    refine g_aload_n cx 0 d_28_132_10 rfl rfl ?_
    refine g_iload_n cx 1 d_28_132_11 rfl rfl ?_
    refine g_iload_n cx 2 d_28_132_12 rfl rfl ?_
    refine g_callS cx (As := [.ref v, .int (nI bg), .int (nI en)]) (n := 3) (pj_rangeByte (f := f) (n := n) (bg := bg) (en := en) hbe hen) d_28_132_13 t_292 t_293 t_12 t_294 ⟨by decide, by decide, by decide +kernel⟩ rfl ⟨rfl, hp⟩ ⟨Nat.le_of_ble_eq_true rfl, Nat.le_of_ble_eq_true rfl⟩ (Nat.le_of_ble_eq_true rfl) ⟨Nat.le_refl _, Nat.le_refl _⟩ (fun v13 h13 r13 => ?_) (fun x13 h13 r13 => by obtain ⟨q9, f9, e9, -⟩ := r13; cases e9)
    obtain ⟨q13, f13, e13, hq13, hz13, hft13, hfc13, rfl⟩ := r13
    cases e13
    exact g_aret cx d_28_132_16 rfl (Or.inr ⟨_, rfl⟩) (Or.inr ⟨_, rfl⟩) ⟨q13, f13, rfl, hq13, hz13, hft13, hfc13, rfl⟩
  · skip
    obtain ⟨hv, hF, hfit, hle⟩ := id hp
    have hb0 : bg = 0 := (nI_eq (by omega) (by decide)).mp c1
    refine g_iload_n cx 2 d_28_132_4 rfl rfl ?_
    refine g_aload_n cx 0 d_28_132_5 rfl rfl ?_
    refine g_alen cx (k := 4) d_28_132_6 hv hF rfl ?_
    refine g_icmp_eq cx d_28_132_7 rfl (fun c7 => ?_) (fun c7 => ?_)
    · skip
      have hen2 : en = n := (nI_eq (by omega) (by omega)).mp c7
      obtain rfl : n = en - bg := by omega
      refine g_aload_n cx 0 d_28_132_17 rfl rfl ?_
      refine g_clone cx d_28_132_18 t_153 t_154 t_155 t_156 t_157 (cx.nw (wE_t 158 (by decide +kernel) rfl)) hv hF hfit ⟨Nat.le_of_ble_eq_true rfl, Nat.le_of_ble_eq_true rfl⟩ (Nat.le_of_ble_eq_true rfl) ⟨Nat.le_refl _, Nat.le_refl _⟩ (fun q hq hz => ?_)
      refine g_castB cx d_28_132_21 t_159 (List.mem_append_right _ (List.mem_singleton.mpr rfl)) (va_up_self _ _ _) ?_
      exact g_aret cx d_28_132_24 rfl (Or.inr ⟨_, rfl⟩) (Or.inr ⟨_, rfl⟩) ⟨q, f, rfl, hq, hz, hfit, fun j _ => by show f j = f (bg + j); rw [hb0, Nat.zero_add], rfl⟩
    · skip
      refine g_aload_n cx 0 d_28_132_10 rfl rfl ?_
      refine g_iload_n cx 1 d_28_132_11 rfl rfl ?_
      refine g_iload_n cx 2 d_28_132_12 rfl rfl ?_
      refine g_callS cx (As := [.ref v, .int (nI bg), .int (nI en)]) (n := 3) (pj_rangeByte (f := f) (n := n) (bg := bg) (en := en) hbe hen) d_28_132_13 t_292 t_293 t_12 t_294 ⟨by decide, by decide, by decide +kernel⟩ rfl ⟨rfl, hp⟩ ⟨Nat.le_of_ble_eq_true rfl, Nat.le_of_ble_eq_true rfl⟩ (Nat.le_of_ble_eq_true rfl) ⟨Nat.le_refl _, Nat.le_refl _⟩ (fun v13 h13 r13 => ?_) (fun x13 h13 r13 => by obtain ⟨q9, f9, e9, -⟩ := r13; cases e9)
      obtain ⟨q13, f13, e13, hq13, hz13, hft13, hfc13, rfl⟩ := r13
      cases e13
      exact g_aret cx d_28_132_16 rfl (Or.inr ⟨_, rfl⟩) (Or.inr ⟨_, rfl⟩) ⟨q13, f13, rfl, hq13, hz13, hft13, hfc13, rfl⟩
set_option maxHeartbeats 4000000 in
theorem pj_copyOfB {v n n2 : Nat} {f : Nat → Int32} (hnn : n < n2) (hn2 : n2 ≤ 200) : Ctr l y_19 prog_28_method_121_code 3 (Option.some (Jvm.ClassFile.FieldType.array Jvm.ClassFile.FieldType.byte)) (rmT 2 1 n2) D z0 (EE z0 k) (fun a h => a = [.ref v, .int (nI n2)] ∧ (ByF D h v n f)) (fun _ h o h' => AQ D z0 h n2 n f o h') := by
  refine ctr_of Cl.stb (by decide) (fun as h q => by rw [q.1]; exact Nat.le_of_ble_eq_true rfl) ?_
  intro as h q p e s m args below meth c cx
  obtain ⟨rfl, hp⟩ := q
  obtain ⟨hv, hF, hfit, hle⟩ := hp
  refine g_iload_n cx 1 d_28_121_0 rfl rfl ?_
  refine g_aload_n cx 0 d_28_121_1 rfl rfl ?_
  refine g_alen cx (k := 4) d_28_121_2 hv hF rfl ?_
  refine g_icmp_ne cx d_28_121_3 rfl (fun c3 => ?_) (fun c3 => absurd c3 (fun z => by have := (nI_eq (by omega) (by omega)).mp z; omega))
  refine g_iload_n cx 1 d_28_121_14 rfl rfl ?_
  refine g_newarr cx (k := 4) (n := n2) (a0 := (n2, .inl (fun _ => 0))) d_28_121_15 rfl t_69 rfl rfl rfl (by omega) (by decide) (fun cA => rfl) ⟨Nat.le_refl _, Nat.le_refl _⟩ (fun q hq hz => ?_)
  have hv1 : v ∈ h.1 ++ [q] := List.mem_append_left _ hv
  have hF1 : va_up h.2 q (.inl (D.1 104, n2, .inl (fun _ => 0))) v = _ := (up_old hq hv).trans hF
  have hq1 : q ∈ h.1 ++ [q] := List.mem_append_right _ (List.mem_singleton.mpr rfl)
  refine g_astore_n cx (lv' := [(2, .ref q), (0, .ref v), (1, .int (nI n2))]) d_28_121_17 rfl (by decide) rfl ?_
  refine g_aload_n cx 1 d_28_121_18 rfl rfl ?_
  refine g_iconst cx (v := 0) d_28_121_19 (by decide) ?_
  refine g_aload_n cx 0 d_28_121_20 rfl rfl ?_
  refine g_iconst cx (v := 0) d_28_121_21 (by decide) ?_
  refine g_aload_n cx 1 d_28_121_22 rfl rfl ?_
  refine g_alen cx (k := 4) d_28_121_23 hv1 hF1 rfl ?_
  refine g_iload_n cx 2 d_28_121_24 rfl rfl ?_
  refine g_min cx (a := n) (b := n2) d_28_121_25 t_160 t_161 t_11 t_162 (by omega) (by omega) ⟨Nat.le_of_ble_eq_true rfl, Nat.le_of_ble_eq_true rfl⟩ (Nat.le_of_ble_eq_true rfl) ?_
  refine g_copyb cx (sp := 0) (dp := 0) (n := n) d_28_121_28 t_163 t_165 t_164 t_13 hv1 hF1 hq1 (va_up_self _ _ _) rfl rfl (by rw [Nat.min_eq_left (by omega)]) ⟨by omega, by omega⟩ ⟨by omega, by omega⟩ hfit ⟨Nat.le_of_ble_eq_true rfl, Nat.le_of_ble_eq_true rfl⟩ (Nat.le_of_ble_eq_true rfl) ?_
  refine g_aload_n cx 0 d_28_121_31 rfl rfl ?_
  exact g_aret cx d_28_121_32 rfl (Or.inr ⟨_, rfl⟩) (Or.inr ⟨_, rfl⟩) ⟨q, _, rfl, hq, hz, sb_fitC hfit sb_fit0, fun j hj => (cpy_in hj).trans (by rw [Nat.zero_add]), by rw [up_up]⟩
end J2
