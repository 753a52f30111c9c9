/-! The string builder. -/
def Bd (D : va_G) (h : hp) (ab v c0 cap cd : Nat) : Prop := ∃ (mb : Int32) (f : Nat → Int32), ab ∈ h.1 ∧ h.2 ab = .inr (1, [.ref v, .int 0, .int mb, .int (nI c0)]) ∧ v ∈ h.1 ∧ h.2 v = .inl (D.1 104, cap, .inl f) ∧ sb_Fit f ∧ c0 ≤ cap ∧ c0 ≤ 30 ∧ 16 ≤ cap ∧ cap ≤ 100 ∧ (∀ j, j < c0 → f j = nI (chr cd j)) ∧ cd < 128 ^ c0
theorem Bd.byt {D : va_G} {h : hp} {ab v c0 cap cd : Nat} (b : Bd D h ab v c0 cap cd) : Byt D h v cap := by
  obtain ⟨mb, f, h1, h2, h3, h4, h5, h6, h7, h8, h9, -⟩ := b
  exact ⟨f, h3, h4, h5, by omega⟩
theorem Bd.ne {D : va_G} {h : hp} {ab v c0 cap cd : Nat} (b : Bd D h ab v c0 cap cd) : v ≠ ab := by
  obtain ⟨mb, f, h1, h2, h3, h4, -⟩ := b
  intro e
  subst e
  rw [h2] at h4
  cases h4
def BK (D : va_G) (K : KM) (h : hp) (S : Nat → Prop) (ab v c0 cap cd : Nat) : Prop := Bd D h ab v c0 cap cd ∧ (K ab).1 = 99 ∧ (K v).1 = 99 ∧ (∀ z, S z → z ∈ h.1) ∧ ¬ S ab ∧ ¬ S v
theorem ens_X {h : hp} {S : Nat → Prop} {ab v v2 : Nat} (hn : ¬ (S v2 ∨ (v2 ∈ h.1 ∧ v2 ≠ v ∧ v2 ≠ ab))) : ∀ z, z ∈ h.1 → z = v2 → z = ab ∨ z = v := by
  intro z hz e
  subst e
  by_cases h1 : z = ab
  · exact Or.inl h1
  · by_cases h2 : z = v
    · exact Or.inr h2
    · exact absurd (Or.inr ⟨hz, h2, h1⟩) hn
theorem nar_bF : ∀ m : Fin 128, vp_nar .byte ((nI m.1).toInt8.toInt32) = nI m.1 := by decide +kernel
theorem app_c {f : Nat → Int32} {y : Int32} {cd c0 xc : Nat} (hy : y = nI xc) (hf : ∀ j, j < c0 → f j = nI (chr cd j)) (hcd : cd < 128 ^ c0) (hx : xc < 128) : ∀ j, j < c0 + 1 → upd f c0 y j = nI (chr (cd + 128 ^ c0 * xc) j) := by
  subst hy
  intro j hj
  by_cases h : j = c0
  · subst h
    rw [show upd f j (nI xc) j = nI xc by simp [upd]]
    unfold chr
    rw [Nat.add_mul_div_left _ _ (Nat.pow_pos (by decide)), Nat.div_eq_of_lt hcd, Nat.zero_add, Nat.mod_eq_of_lt hx]
  · rw [show upd f c0 (nI xc) j = f j by simp [upd, h], hf j (by omega)]
    unfold chr
    have e : 128 ^ c0 = 128 ^ j * (128 * 128 ^ (c0 - j - 1)) := by
      rw [← Nat.pow_succ', ← Nat.pow_add]
      congr 1
      omega
    rw [e, Nat.mul_assoc, Nat.add_mul_div_left _ _ (Nat.pow_pos (by decide)), Nat.mul_assoc, Nat.add_mul_mod_self_left]
theorem app_l {cd c0 xc : Nat} (hcd : cd < 128 ^ c0) (hx : xc < 128) : cd + 128 ^ c0 * xc < 128 ^ (c0 + 1) := by
  rw [Nat.pow_succ]
  have h1 : 128 ^ c0 * xc ≤ 128 ^ c0 * 127 := Nat.mul_le_mul_left _ (by omega)
  omega
theorem fit_b (x : Int32) : fits .byte (.int (vp_nar .byte x)) = true := by
  rw [vp_nar_byte]
  have h1 : (x.toInt8.toInt32).toInt = x.toInt8.toInt := by simp
  have h2 := Int8.le_toInt x.toInt8
  have h3 := Int8.toInt_lt x.toInt8
  simp only [fits, Bool.and_eq_true, decide_eq_true_eq, Int32.le_iff_toInt_le, h1]
  constructor
  · exact Int.le_trans (by decide) h2
  · exact Int.le_of_lt_add_one (Int.lt_of_lt_of_le h3 (by decide))
theorem Bd.kept {D : va_G} {k : Nat → Nat} {X : Nat → Prop} {K K' : KM} {h h' : hp} {ab v c0 cap cd : Nat} (b : Bd D h ab v c0 cap cd) (ev : Ev k X K h K' h') (h1 : (K ab).1 = 99) (h2 : (K v).1 = 99) (hx : ¬ X ab) (hy : ¬ X v) : Bd D h' ab v c0 cap cd ∧ (K' ab).1 = 99 ∧ (K' v).1 = 99 := by
  obtain ⟨mb, f, g1, g2, g3, g4, g5⟩ := b
  obtain ⟨a1, -, a3⟩ := ev.1 ab g1
  obtain ⟨b1, -, b3⟩ := ev.1 v g3
  obtain ⟨a4, a5⟩ := a3 hx
  obtain ⟨b4, b5⟩ := b3 hy
  exact ⟨⟨mb, f, a1, a5.trans g2, b1, b5.trans g4, g5⟩, by rw [a4]; exact h1, by rw [b4]; exact h2⟩
section J4
variable {l : Launch} {D : va_G} {z0 : Nat} {k : Nat → Nat} {K : KM} {B T : Nat}
set_option maxHeartbeats 4000000 in
theorem pj_asbLen {ab v c0 cap cd : Nat} : PC l y_11 prog_10_method_6_code 1 (Option.some Jvm.ClassFile.FieldType.int) 0 D z0 k [.ref ab] (fun h => Bd D h ab v c0 cap cd) (fun w => w = some (.int (nI c0))) := by
  refine pc_of (by decide) (Nat.le_of_ble_eq_true rfl) ?_
  intro h hp p e s m args below meth c cx
  obtain ⟨mb, f, hab, heb, hv, hF, hfit, hcc, hc30, hcap, hcp, hfd, hcd⟩ := id hp
  refine g_aload_n cx 0 d_10_6_0 rfl rfl ?_
  refine g_getf cx (k := 3) d_10_6_1 in1 rfl (by decide) t_59 (Or.inl rfl) hab heb rfl ?_
  exact g_iret cx d_10_6_4 rfl rfl ⟨rfl, _, rfl, rfl⟩
set_option maxHeartbeats 4000000 in
theorem pj_sbLen {ab v c0 cap cd : Nat} : PC l y_10 prog_20_method_93_code 1 (Option.some Jvm.ClassFile.FieldType.int) 1 D z0 k [.ref ab] (fun h => Bd D h ab v c0 cap cd) (fun w => w = some (.int (nI c0))) := by
  refine pc_of (by decide) (Nat.le_of_ble_eq_true rfl) ?_
  intro h hp p e s m args below meth c cx
  obtain ⟨mb, f, hab, heb, hv, hF, hfit, hcc, hc30, hcap, hcp, hfd, hcd⟩ := id hp
  refine g_aload_n cx 0 d_20_93_0 rfl rfl ?_
  refine g_callSU cx (As := []) (n := 0) (C0 := "java/lang/StringBuilder") (pj_asbLen (c0 := c0) (v := v) (cap := cap)) d_20_93_1 t_122 t_2 t_123 t_121 t_1161 t_68 (by decide) (by decide +kernel) rfl (ci := 1) rfl hab heb ⟨rfl, hp⟩ ⟨Nat.le_of_ble_eq_true rfl, Nat.le_of_ble_eq_true rfl⟩ (Nat.le_of_ble_eq_true rfl) ⟨Nat.zero_le _, Nat.zero_le _⟩ (fun v1 h r1 => ?_) (fun x1 h r1 => by obtain ⟨-, v9, e9, -⟩ := r1; cases e9)
  obtain ⟨rfl, w1, e1, r1⟩ := r1
  cases e1
  subst r1
  exact g_iret cx d_20_93_4 rfl rfl ⟨rfl, _, rfl, rfl⟩
set_option maxHeartbeats 4000000 in
theorem pj_asbLatin {ab v c0 cap cd : Nat} : PC l y_24 prog_10_method_68_code 1 (Option.some Jvm.ClassFile.FieldType.boolean) 0 D z0 k [.ref ab] (fun h => Bd D h ab v c0 cap cd) (fun w => w = some (.int 1)) := by
  refine pc_of (by decide) (Nat.le_of_ble_eq_true rfl) ?_
  intro h hp p e s m args below meth c cx
  obtain ⟨mb, f, hab, heb, hv, hF, hfit, hcc, hc30, hcap, hcp, hfd, hcd⟩ := id hp
  refine g_gets cx d_10_68_0 t_46 cx.ee.2.1 ?_
  refine g_if_eq cx d_10_68_3 rfl (fun c3 => absurd c3 (by decide)) (fun c3 => ?_)
  refine g_aload_n cx 0 d_10_68_6 rfl rfl ?_
  refine g_getf cx (k := 1) d_10_68_7 in1 rfl (by decide) t_56 (Or.inl rfl) hab heb rfl ?_
  refine g_if_ne cx d_10_68_10 rfl (fun c10 => absurd rfl c10) (fun c10 => ?_)
  refine g_iconst cx (v := 1) d_10_68_13 (by decide) ?_
  refine g_goto cx d_10_68_14 rfl ?_
  exact g_iret cx d_10_68_18 rfl rfl ⟨rfl, _, rfl, rfl⟩
set_option maxHeartbeats 4000000 in
theorem pj_asbValue {ab v c0 cap cd : Nat} : PC l y_53 prog_10_method_64_code 1 (Option.some (Jvm.ClassFile.FieldType.array Jvm.ClassFile.FieldType.byte)) 0 D z0 k [.ref ab] (fun h => Bd D h ab v c0 cap cd) (fun w => w = some (.ref v)) := by
  refine pc_of (by decide) (Nat.le_of_ble_eq_true rfl) ?_
  intro h hp p e s m args below meth c cx
  obtain ⟨mb, f, hab, heb, hv, hF, hfit, hcc, hc30, hcap, hcp, hfd, hcd⟩ := id hp
  refine g_aload_n cx 0 d_10_64_0 rfl rfl ?_
  refine g_getf cx (k := 0) d_10_64_1 in1 rfl (by decide) t_55 (Or.inl rfl) hab heb rfl ?_
  exact g_aret cx d_10_64_4 rfl (Or.inr ⟨_, rfl⟩) (Or.inr ⟨_, rfl⟩) ⟨rfl, _, rfl, rfl⟩
set_option maxHeartbeats 4000000 in
theorem pj_newCap {ab v c0 cap mn cd : Nat} (hmn : cap < mn) (hm2 : mn ≤ 31) : PC l y_15 prog_10_method_10_code 6 (Option.some Jvm.ClassFile.FieldType.int) 4 D z0 k [.ref ab, .int (nI mn)] (fun h => Bd D h ab v c0 cap cd) (fun w => w = some (.int (nI (cap + (cap + 2))))) := by
  refine pc_of (by decide) (Nat.le_of_ble_eq_true rfl) ?_
  intro h hp p e s m args below meth c cx
  obtain ⟨mb, f, hab, heb, hv, hF, hfit, hcc, hc30, hcap, hcp, hfd, hcd⟩ := id hp
  refine g_aload_n cx 0 d_10_10_0 rfl rfl ?_
  refine g_getf cx (k := 0) d_10_10_1 in1 rfl (by decide) t_55 (Or.inl rfl) hab heb rfl ?_
  refine g_alen cx (k := 4) d_10_10_4 hv hF rfl ?_
  refine g_istore_n cx (lv' := [(2, .int (nI cap)), (0, .ref ab), (1, .int (nI mn))]) d_10_10_5 rfl (by decide) rfl ?_
  refine g_iload_n cx 2 d_10_10_6 rfl rfl ?_
  refine g_aload_n cx 1 d_10_10_7 rfl rfl ?_
  refine g_getf cx (k := 1) d_10_10_8 in1 rfl (by decide) t_56 (Or.inl rfl) hab heb rfl ?_
  refine g_ishl cx d_10_10_11 ?_
  refine g_topi (fun m3 em3 => ?_)
  obtain rfl : m3 = nI mn := em3.trans (sb_shl0 _)
  refine g_istore_n cx (lv' := [(3, .int (nI mn)), (2, .int (nI cap)), (0, .ref ab), (1, .int (nI mn))]) d_10_10_12 rfl (by decide) rfl ?_
  refine g_iload_n cx 0 d_10_10_13 rfl rfl ?_
  refine g_iload_n cx 1 d_10_10_14 rfl rfl ?_
  refine g_isub cx d_10_10_15 ?_
  refine g_topi (fun m4 em4 => ?_)
  obtain rfl : m4 = nI (mn - cap) := em4.trans (pk_sub (by omega))
  refine g_istore cx (lv' := [(4, .int (nI (mn - cap))), (3, .int (nI mn)), (2, .int (nI cap)), (0, .ref ab), (1, .int (nI mn))]) d_10_10_16 (by decide) rfl ?_
  refine g_iload_n cx 2 d_10_10_18 rfl rfl ?_
  refine g_iload cx 0 d_10_10_19 rfl ?_
  refine g_iload_n cx 2 d_10_10_21 rfl rfl ?_
  refine g_iconst cx (v := 2) d_10_10_22 (by decide) ?_
  refine g_aload_n cx 3 d_10_10_23 rfl rfl ?_
  refine g_getf cx (k := 1) d_10_10_24 in1 rfl (by decide) t_56 (Or.inl rfl) hab heb rfl ?_
  refine g_ishl cx d_10_10_27 ?_
  refine g_iadd cx d_10_10_28 ?_
  refine g_topi (fun m28 em28 => ?_)
  obtain rfl : m28 = nI (cap + 2) := em28.trans (by rw [sb_shl0]; exact nI_add cap 2)
  refine g_pcS cx (As := [.int (nI cap), .int (nI (mn - cap)), .int (nI (cap + 2))]) (n := 3) (pj_newLength (a := cap) (b := mn - cap) (g := cap + 2) (by omega) (by omega)) d_10_10_29 t_139 t_140 t_10 t_141 ⟨by decide, by decide, by decide +kernel⟩ rfl trivial ⟨Nat.le_of_ble_eq_true rfl, Nat.le_of_ble_eq_true rfl⟩ (Nat.le_of_ble_eq_true rfl) (fun v29 r29 => ?_)
  subst r29
  refine g_topi (fun m5 em5 => ?_)
  obtain rfl : m5 = nI (cap + (cap + 2)) := em5.trans (by rw [Nat.max_eq_right (by omega)])
  refine g_istore cx (lv' := [(5, .int (nI (cap + (cap + 2)))), (4, .int (nI (mn - cap))), (3, .int (nI mn)), (2, .int (nI cap)), (0, .ref ab), (1, .int (nI mn))]) d_10_10_32 (by decide) rfl ?_
  refine g_iload cx 0 d_10_10_34 rfl ?_
  refine g_ldc cx d_10_10_36 t_149 ?_
  refine g_icmp_ne cx d_10_10_38 rfl (fun c38 => ?_) (fun c38 => absurd c38 (fun z => by have := (nI_eq (b := 2147483647) (by omega) (by decide)).mp z; omega))
  refine g_iload cx 0 d_10_10_51 rfl ?_
  refine g_aload_n cx 4 d_10_10_53 rfl rfl ?_
  refine g_getf cx (k := 1) d_10_10_54 in1 rfl (by decide) t_56 (Or.inl rfl) hab heb rfl ?_
  refine g_ishr cx d_10_10_57 ?_
  exact g_iret cx d_10_10_58 rfl rfl ⟨rfl, _, rfl, congrArg (fun z => some (Value.int z)) (sb_shr0 _)⟩
set_option maxHeartbeats 8000000 in
theorem tj_ensure {S : Nat → Prop} {cd ab v c0 cap mn : Nat} (hm2 : mn ≤ 31) : TC l y_14 prog_10_method_9_code 3 (Option.none) (rmT 6 1 210) D z0 k [.ref ab, .int (nI mn)] K (B) (T) (fun h => BK D K h S ab v c0 cap cd) (B) (T) (fun z => z = ab) (fun o K' h' => o = .returned none ∧ ∃ v' cap', BK D K' h' S ab v' c0 cap' cd ∧ mn ≤ cap') := by
  refine tc_of (by decide) (Nat.le_of_ble_eq_true rfl) ?_
  intro h hT hp p e s m args below meth c cx hnm
  have hE : Ev k (fun z => z = ab) K h K h := Ev.rf
  obtain ⟨hbd, hk1, hk2, hS1, hS2, hS3⟩ := hp
  have hp := hbd
  obtain ⟨mb, f, hab, heb, hv, hF, hfit, hcc, hc30, hcap, hcp, hfd, hcd⟩ := id hp
  refine g_aload_n cx 0 d_10_9_0 rfl rfl ?_
  refine g_getf cx (k := 0) d_10_9_1 in1 rfl (by decide) t_55 (Or.inl rfl) hab heb rfl ?_
  refine g_alen cx (k := 4) d_10_9_4 hv hF rfl ?_
  refine g_aload_n cx 0 d_10_9_5 rfl rfl ?_
  refine g_getf cx (k := 1) d_10_9_6 in1 rfl (by decide) t_56 (Or.inl rfl) hab heb rfl ?_
  refine g_ishr cx d_10_9_9 ?_
  refine g_topi (fun m2 em2 => ?_)
  obtain rfl : m2 = nI cap := em2.trans (sb_shr0 _)
  refine g_istore_n cx (lv' := [(2, .int (nI cap)), (0, .ref ab), (1, .int (nI mn))]) d_10_9_10 rfl (by decide) rfl ?_
  refine g_iload_n cx 2 d_10_9_11 rfl rfl ?_
  refine g_iload_n cx 0 d_10_9_12 rfl rfl ?_
  refine g_isub cx d_10_9_13 ?_
  refine g_if_le cx d_10_9_14 rfl (fun c14 => ?_) (fun c14 => ?_)
  · skip
    have hmc : mn ≤ cap := by
      rcases Nat.lt_or_ge cap mn with z | z
      · rw [pk_sub (by omega)] at c14
        exact absurd c14 (nI_nle (by omega) (by omega))
      · exact z
    first
      | exact g_vret cx d_10_9_38 rfl ⟨K, hT, hE, rfl, v, cap, ⟨hbd, hk1, hk2, hS1, hS2, hS3⟩, hmc⟩
      | exact g_vret cx d_10_9_38 rfl ⟨K, hT, hE, rfl, q32, cap + (cap + 2), ⟨⟨mb, f32, hab, heb, hL ▸ hm32, (hot _ hqa).trans he32, hft32, by omega, hc30, by omega, by omega, fun j hj => (hfc32 j (by omega)).trans (hfd j hj), hcd⟩, hk1, congrArg Prod.fst hk32, fun z hz => hL ▸ hS1 z hz, hS2, hqS⟩, by omega⟩
  · skip
    have hmc : cap < mn := by
      rcases Nat.lt_or_ge cap mn with z | z
      · exact z
      · refine absurd ?_ c14
        rcases Nat.eq_or_lt_of_le z with z | z
        · subst z
          rw [pk_sub (Nat.le_refl _)]
          simp [nI_0]
        · exact Int32.le_of_lt (pk_sneg (by omega) z)
    refine g_aload_n cx 1 d_10_9_17 rfl rfl ?_
    refine g_aload_n cx 1 d_10_9_18 rfl rfl ?_
    refine g_getf cx (k := 0) d_10_9_19 in1 rfl (by decide) t_55 (Or.inl rfl) hab heb rfl ?_
    refine g_aload_n cx 1 d_10_9_22 rfl rfl ?_
    refine g_iload_n cx 2 d_10_9_23 rfl rfl ?_
    refine g_callP cx (As := [.int (nI mn)]) (n := 1) (C0 := "java/lang/StringBuilder") (pj_newCap (c0 := c0) (v := v) (cap := cap) (mn := mn) (by omega) (by omega)) d_10_9_24 t_137 t_2 t_138 t_135 t_1164 ⟨by decide, by decide⟩ (cx.nw (wE_t 136 (by decide +kernel) rfl)) (by decide +kernel) rfl (ci := 1) rfl hab heb ⟨rfl, hbd⟩ ⟨Nat.le_of_ble_eq_true rfl, Nat.le_of_ble_eq_true rfl⟩ (Nat.le_of_ble_eq_true rfl) ⟨Nat.zero_le _, Nat.zero_le _⟩ (fun v24 h r24 => ?_) (fun x24 h r24 => by obtain ⟨-, v9, e9, -⟩ := r24; cases e9)
    obtain ⟨rfl, w24, e24, r24⟩ := r24
    cases e24
    subst r24
    refine g_aload_n cx 1 d_10_9_27 rfl rfl ?_
    refine g_getf cx (k := 1) d_10_9_28 in1 rfl (by decide) t_56 (Or.inl rfl) hab heb rfl ?_
    refine g_ishl cx d_10_9_31 ?_
    refine g_topi (fun m31 em31 => ?_)
    obtain rfl : m31 = nI (cap + (cap + 2)) := em31.trans (sb_shl0 _)
    refine g_callS cx (As := [.ref v, .int (nI (cap + (cap + 2)))]) (n := 2) (pj_copyOfB (f := f) (n := cap) (n2 := cap + (cap + 2)) (by omega) (by omega)) d_10_9_32 t_150 t_151 t_12 t_152 ⟨by decide, by decide, by decide +kernel⟩ rfl ⟨rfl, ⟨hv, hF, hfit, by omega⟩⟩ ⟨Nat.le_of_ble_eq_true rfl, Nat.le_of_ble_eq_true rfl⟩ (Nat.le_of_ble_eq_true rfl) ⟨Nat.le_of_ble_eq_true rfl, by show cap + (cap + 2) ≤ 210; omega⟩ (fun v32 h32 r32 => ?_) (fun x32 h32 r32 => by obtain ⟨q9, f9, e9, -⟩ := r32; cases e9)
    obtain ⟨q32, f32, e32, hq32, hz32, hft32, hfc32, rfl⟩ := r32
    cases e32
    have hqS : ¬ S q32 := fun z => hq32 (hS1 _ z)
    refine t_push (q := (99, 0, 0)) hT hq32 hz32 ⟨fun x => absurd x.2 (by decide), fun x => absurd x.2 (by decide), trivial⟩ (fun K h hT ev hk32 hm32 he32 hol32 => ?_)
    replace hE := hE.tr ev
    replace hk1 := (congrArg Prod.fst (hol32 ab hab).2.1).trans hk1
    replace heb := (hol32 ab hab).2.2.trans heb
    replace hab := (hol32 ab hab).1
    replace hS1 := fun z hz => (hol32 z (hS1 z hz)).1
    have hqa : q32 ≠ ab := fun z => by rw [z] at hqS; rw [← z, he32] at heb; cases heb
    refine g_putf cx d_10_9_35 in1 ty1_ok nm1 rfl (k := 0) (by decide) t_55 (Or.inl rfl) rfl (ty1_ok 0 (by decide)) rfl rfl hab heb (Nat.le_of_ble_eq_true rfl) ?_
    refine t_putR hT hab (Or.inr hk1) (fun h hT ev hab heb hot hL => ?_)
    replace hE := Ev.trS hE ev
    first
      | exact g_vret cx d_10_9_38 rfl ⟨K, hT, hE, rfl, v, cap, ⟨hbd, hk1, hk2, hS1, hS2, hS3⟩, hmc⟩
      | exact g_vret cx d_10_9_38 rfl ⟨K, hT, hE, rfl, q32, cap + (cap + 2), ⟨⟨mb, f32, hab, heb, hL ▸ hm32, (hot _ hqa).trans he32, hft32, by omega, hc30, by omega, by omega, fun j hj => (hfc32 j (by omega)).trans (hfd j hj), hcd⟩, hk1, congrArg Prod.fst hk32, fun z hz => hL ▸ hS1 z hz, hS2, hqS⟩, by omega⟩
set_option maxHeartbeats 8000000 in
theorem tj_append {S : Nat → Prop} {xc cd ab v c0 cap : Nat} (hxc : xc < 128) (hc : c0 < 30) : TC l y_13 prog_10_method_31_code 2 (Option.some (Jvm.ClassFile.FieldType.object "java/lang/AbstractStringBuilder")) (rmT 8 1 210) D z0 k [.ref ab, .int (nI xc)] K (B) (T) (fun h => BK D K h S ab v c0 cap cd) (B) (T) (fun z => z = ab ∨ z = v) (fun o K' h' => ∃ r v' cap', o = .returned (some (.ref r)) ∧ BK D K' h' S ab v' (c0 + 1) cap' (cd + 128 ^ c0 * xc)) := by
  refine tc_of (by decide) (Nat.le_of_ble_eq_true rfl) ?_
  intro h hT hp p e s m args below meth c cx hnm
  have hE : Ev k (fun z => z = ab ∨ z = v) K h K h := Ev.rf
  have hx : ¬ (255 : Int32) < nI xc := fun z => by have := (nI_ltI (a := 255) (by decide) (by omega)).mp z; omega
  obtain ⟨hbd, hk1, hk2, hS1, hS2, hS3⟩ := hp
  have hp := hbd
  obtain ⟨mb, f, hab, heb, hv, hF, hfit, hcc, hc30, hcap, hcp, hfd, hcd⟩ := id hp
  refine g_aload_n cx 0 d_10_31_0 rfl rfl ?_
  refine g_aload_n cx 0 d_10_31_1 rfl rfl ?_
  refine g_getf cx (k := 3) d_10_31_2 in1 rfl (by decide) t_59 (Or.inl rfl) hab heb rfl ?_
  refine g_iconst cx (v := 1) d_10_31_5 (by decide) ?_
  refine g_iadd cx d_10_31_6 ?_
  refine g_topi (fun m6 em6 => ?_)
  obtain rfl : m6 = nI (c0 + 1) := em6.trans (nI_1 c0)
  refine g_callP cx (As := [.int (nI (c0 + 1))]) (n := 1) (C0 := "java/lang/StringBuilder") (tj_ensure (S := (fun z => S z ∨ (z ∈ h.1 ∧ z ≠ v ∧ z ≠ ab))) (c0 := c0) (v := v) (cap := cap) (mn := (c0 + 1)) (by omega)) d_10_31_7 t_133 t_2 t_134 t_131 t_1163 ⟨by decide, by decide⟩ (cx.nw (wE_t 132 (by decide +kernel) rfl)) (by decide +kernel) rfl (ci := 1) rfl hab heb ⟨rfl, hT, ⟨hbd, hk1, hk2, fun z hz => hz.elim (hS1 z) (fun y => y.1), fun hz => hz.elim hS2 (fun y => y.2.2 rfl), fun hz => hz.elim hS3 (fun y => y.2.1 rfl)⟩⟩ ⟨Nat.le_of_ble_eq_true rfl, Nat.le_of_ble_eq_true rfl⟩ (Nat.le_of_ble_eq_true rfl) ⟨Nat.le_of_ble_eq_true rfl, Nat.le_of_ble_eq_true rfl⟩ (fun v7 h r7 => ?_) (fun x7 h r7 => by obtain ⟨K9, -, -, e9, -⟩ := r7; cases e9)
  obtain ⟨K, hT, ev, rel7⟩ := r7
  obtain ⟨e7, v2, cap2, hb2, hmn2⟩ := rel7
  cases e7
  have hvX := ens_X hb2.2.2.2.2.2
  replace hS1 := fun z hz => hb2.2.2.2.1 z (Or.inl hz)
  replace hS3 := fun z => hb2.2.2.2.2.2 (Or.inl z)
  obtain ⟨⟨mb2, f2, hab, heb, hv2, hf2, hft2, hc2, hc30, hcap2, hcp2, hfd2, hcd2⟩, hk1, hk2, -⟩ := id hb2
  replace hE := hE.trX (fun _ _ x => x) (fun _ _ y => Or.inl y) ev
  refine g_aload_n cx 0 d_10_31_10 rfl rfl ?_
  refine g_callU cx (As := []) (n := 0) (C0 := "java/lang/StringBuilder") (pj_asbLatin (c0 := c0) (v := v2) (cap := cap2)) d_10_31_11 t_167 t_2 t_170 (x := y_24) (owner := "java/lang/AbstractStringBuilder") t_166 t_168 t_167 t_170 t_169 ⟨by decide, by decide⟩ (by decide +kernel) rfl (ci := 1) rfl hab heb ⟨rfl, hb2.1⟩ ⟨Nat.le_of_ble_eq_true rfl, Nat.le_of_ble_eq_true rfl⟩ (Nat.le_of_ble_eq_true rfl) ⟨Nat.zero_le _, Nat.zero_le _⟩ (fun v11 h r11 => ?_) (fun x11 h r11 => by obtain ⟨-, v9, e9, -⟩ := r11; cases e9)
  obtain ⟨rfl, w11, e11, r11⟩ := r11
  cases e11
  subst r11
  refine g_if_eq cx d_10_31_14 rfl (fun c14 => absurd c14 (by decide)) (fun c14 => ?_)
  refine g_iload_n cx 1 d_10_31_17 rfl rfl ?_
  refine g_pcS cx (As := [.int (nI xc)]) (n := 1) (pj_canEncode hx) d_10_31_18 t_171 t_172 t_14 t_173 ⟨by decide, by decide, by decide +kernel⟩ rfl trivial ⟨Nat.le_of_ble_eq_true rfl, Nat.le_of_ble_eq_true rfl⟩ (Nat.le_of_ble_eq_true rfl) (fun v18 r18 => ?_)
  subst r18
  refine g_if_eq cx d_10_31_21 rfl (fun c21 => absurd c21 (by decide)) (fun c21 => ?_)
  refine g_aload_n cx 0 d_10_31_24 rfl rfl ?_
  refine g_getf cx (k := 0) d_10_31_25 in1 rfl (by decide) t_55 (Or.inl rfl) hab heb rfl ?_
  refine g_aload_n cx 0 d_10_31_28 rfl rfl ?_
  refine g_dup cx d_10_31_29 rfl ?_
  refine g_getf cx (k := 3) d_10_31_30 in1 rfl (by decide) t_59 (Or.inl rfl) hab heb rfl ?_
  refine g_dup_x1 cx d_10_31_33 rfl rfl ?_
  refine g_iconst cx (v := 1) d_10_31_34 (by decide) ?_
  refine g_iadd cx d_10_31_35 ?_
  refine g_topi (fun m35 em35 => ?_)
  obtain rfl : m35 = nI (c0 + 1) := em35.trans (nI_1 c0)
  have hva : v2 ≠ ab := Bd.ne hb2.1
  refine g_putf cx d_10_31_36 in1 ty1_ok nm1 rfl (k := 3) (by decide) t_59 (Or.inl rfl) rfl (ty1_ok 3 (by decide)) rfl rfl hab heb (Nat.le_of_ble_eq_true rfl) ?_
  refine t_putR hT hab (Or.inr hk1) (fun h hT ev hab heb hot hL => ?_)
  replace hE := hE.trX (fun _ _ x => x) (fun _ _ y => Or.inl y) ev
  replace hv2 := hL ▸ hv2
  replace hf2 := (hot _ hva).trans hf2
  refine g_iload_n cx 1 d_10_31_39 rfl rfl ?_
  refine g_i2b cx d_10_31_40 ?_
  refine g_bast cx d_10_31_41 hv2 hf2 (vp_in_nI (by omega) (by omega)) ?_
  refine t_putR hT hv2 (Or.inr hk2) (fun h hT ev hv3 hf3 hot3 hL3 => ?_)
  rw [nI_clamp (by omega)] at hf3
  have heb3 := (hot3 _ (Ne.symm hva)).trans heb
  replace hE := hE.trX (fun _ _ x => x) (fun z hz y => hvX z hz y) ev
  have hab3 : ab ∈ h.1 := hL3 ▸ hab
  refine g_goto cx d_10_31_42 rfl ?_
  refine g_aload_n cx 0 d_10_31_75 rfl rfl ?_
  exact g_aret cx d_10_31_76 rfl (Or.inl ⟨_, rfl⟩) (Or.inr ⟨_, rfl⟩) ⟨K, hT, hE, _, v2, cap2, rfl, ⟨⟨mb2, _, hab3, heb3, hv3, hf3, sb_fitU hft2 (fit_b _), by omega, by omega, hcap2, hcp2, app_c (nar_bF ⟨xc, hxc⟩) hfd2 hcd2 hxc, app_l hcd2 hxc⟩, hk1, hk2, fun z hz => hL3 ▸ hL ▸ hS1 z hz, hS2, hS3⟩⟩
set_option maxHeartbeats 8000000 in
theorem tj_sbAppend {S : Nat → Prop} {xc cd ab v c0 cap : Nat} (hxc : xc < 128) (hc : c0 < 30) : TC l y_12 prog_20_method_14_code 2 (Option.some (Jvm.ClassFile.FieldType.object "java/lang/StringBuilder")) (rmT 9 1 210) D z0 k [.ref ab, .int (nI xc)] K (B) (T) (fun h => BK D K h S ab v c0 cap cd) (B) (T) (fun z => z = ab ∨ z = v) (fun o K' h' => ∃ r v' cap', o = .returned (some (.ref r)) ∧ BK D K' h' S ab v' (c0 + 1) cap' (cd + 128 ^ c0 * xc)) := by
  refine tc_of (by decide) (Nat.le_of_ble_eq_true rfl) ?_
  intro h hT hp p e s m args below meth c cx hnm
  have hE : Ev k (fun z => z = ab ∨ z = v) K h K h := Ev.rf
  obtain ⟨hbd, hk1, hk2, hS1, hS2, hS3⟩ := hp
  have hp := hbd
  obtain ⟨mb, f, hab, heb, hv, hF, hfit, hcc, hc30, hcap, hcp, hfd, hcd⟩ := id hp
  refine g_aload_n cx 0 d_20_14_0 rfl rfl ?_
  refine g_iload_n cx 1 d_20_14_1 rfl rfl ?_
  refine g_callSU cx (As := [.int (nI xc)]) (n := 1) (C0 := "java/lang/StringBuilder") (tj_append (S := S) (c0 := c0) (v := v) (cap := cap) hxc hc) d_20_14_2 t_129 t_2 t_130 t_128 t_1162 t_68 (by decide) (by decide +kernel) rfl (ci := 1) rfl hab heb ⟨rfl, hT, ⟨hbd, hk1, hk2, hS1, hS2, hS3⟩⟩ ⟨Nat.le_of_ble_eq_true rfl, Nat.le_of_ble_eq_true rfl⟩ (Nat.le_of_ble_eq_true rfl) ⟨Nat.le_of_ble_eq_true rfl, Nat.le_of_ble_eq_true rfl⟩ (fun v2 h r2 => ?_) (fun x2 h r2 => by obtain ⟨K9, -, -, r9, v9, c9, e9, -⟩ := r2; cases e9)
  obtain ⟨K, hT, ev, rel2⟩ := r2
  obtain ⟨r2', v2, cap2, e2, hb2⟩ := rel2
  cases e2
  replace hE := Ev.trS hE ev
  refine g_pop cx d_20_14_5 rfl ?_
  refine g_aload_n cx 0 d_20_14_6 rfl rfl ?_
  exact g_aret cx d_20_14_7 rfl (Or.inl ⟨_, rfl⟩) (Or.inr ⟨_, rfl⟩) ⟨K, hT, hE, _, v2, cap2, rfl, hb2⟩
set_option maxHeartbeats 8000000 in
theorem tj_setLen {S : Nat → Prop} {cd ab v c0 cap : Nat} : TC l y_89 prog_10_method_13_code 2 (Option.none) (rmT 8 1 210) D z0 k [.ref ab, .int 0] K (B) (T) (fun h => BK D K h S ab v c0 cap cd) (B) (T) (fun z => z = ab) (fun o K' h' => o = .returned none ∧ ∃ v' cap', BK D K' h' S ab v' 0 cap' 0) := by
  refine tc_of (by decide) (Nat.le_of_ble_eq_true rfl) ?_
  intro h hT hp p e s m args below meth c cx hnm
  have hE : Ev k (fun z => z = ab) K h K h := Ev.rf
  obtain ⟨hbd, hk1, hk2, hS1, hS2, hS3⟩ := hp
  have hp := hbd
  obtain ⟨mb, f, hab, heb, hv, hF, hfit, hcc, hc30, hcap, hcp, hfd, hcd⟩ := id hp
  refine g_iload_n cx 1 d_10_13_0 rfl rfl ?_
  refine g_if_ge cx d_10_13_1 rfl (fun c1 => ?_) (fun c1 => absurd (Int32.le_refl 0) c1)
  refine g_aload_n cx 0 d_10_13_13 rfl rfl ?_
  refine g_iload_n cx 1 d_10_13_14 rfl rfl ?_
  refine g_callP cx (As := [.int 0]) (n := 1) (C0 := "java/lang/StringBuilder") (tj_ensure (S := (fun z => S z ∨ (z ∈ h.1 ∧ z ≠ v ∧ z ≠ ab))) (c0 := c0) (v := v) (cap := cap) (mn := 0) (by omega)) d_10_13_15 t_133 t_2 t_134 t_131 t_1163 ⟨by decide, by decide⟩ (cx.nw (wE_t 132 (by decide +kernel) rfl)) (by decide +kernel) rfl (ci := 1) rfl hab heb ⟨rfl, hT, ⟨hbd, hk1, hk2, fun z hz => hz.elim (hS1 z) (fun y => y.1), fun hz => hz.elim hS2 (fun y => y.2.2 rfl), fun hz => hz.elim hS3 (fun y => y.2.1 rfl)⟩⟩ ⟨Nat.le_of_ble_eq_true rfl, Nat.le_of_ble_eq_true rfl⟩ (Nat.le_of_ble_eq_true rfl) ⟨Nat.le_of_ble_eq_true rfl, Nat.le_of_ble_eq_true rfl⟩ (fun v15 h r15 => ?_) (fun x15 h r15 => by obtain ⟨K9, -, -, e9, -⟩ := r15; cases e9)
  obtain ⟨K, hT, ev, rel15⟩ := r15
  obtain ⟨e15, v2, cap2, hb2, hmn2⟩ := rel15
  cases e15
  have hvX := ens_X hb2.2.2.2.2.2
  replace hS1 := fun z hz => hb2.2.2.2.1 z (Or.inl hz)
  replace hS3 := fun z => hb2.2.2.2.2.2 (Or.inl z)
  obtain ⟨⟨mb2, f2, hab, heb, hv2, hf2, hft2, hc2, hc30, hcap2, hcp2, hfd2, hcd2⟩, hk1, hk2, -⟩ := id hb2
  replace hE := Ev.trS hE ev
  refine g_aload_n cx 0 d_10_13_18 rfl rfl ?_
  refine g_getf cx (k := 3) d_10_13_19 in1 rfl (by decide) t_59 (Or.inl rfl) hab heb rfl ?_
  refine g_iload_n cx 1 d_10_13_22 rfl rfl ?_
  refine g_icmp_ge cx d_10_13_23 rfl (fun c23 => ?_) (fun c23 => absurd (nI_pos' (by omega)) c23)
  refine g_aload_n cx 0 d_10_13_63 rfl rfl ?_
  refine g_getf cx (k := 3) d_10_13_64 in1 rfl (by decide) t_59 (Or.inl rfl) hab heb rfl ?_
  refine g_iload_n cx 1 d_10_13_67 rfl rfl ?_
  refine g_icmp_le cx d_10_13_68 rfl (fun c68 => ?_) (fun c68 => ?_)
  · skip
    refine g_aload_n cx 0 d_10_13_76 rfl rfl ?_
    refine g_iload_n cx 1 d_10_13_77 rfl rfl ?_
    refine g_putf cx d_10_13_78 in1 ty1_ok nm1 rfl (k := 3) (by decide) t_59 (Or.inl rfl) rfl (ty1_ok 3 (by decide)) rfl rfl hab heb (Nat.le_of_ble_eq_true rfl) ?_
    refine t_putR hT hab (Or.inr hk1) (fun h hT ev hab heb hot hL => ?_)
    replace hE := Ev.trS hE ev
    replace hf2 := (hot _ (Bd.ne hb2.1)).trans hf2
    replace hv2 := hL ▸ hv2
    replace hS1 := fun z hz => (hL ▸ hS1 z hz : z ∈ h.1)
    exact g_vret cx d_10_13_81 rfl ⟨K, hT, hE, rfl, v2, cap2, ⟨⟨_, f2, hab, heb, hv2, hf2, hft2, by omega, by omega, hcap2, hcp2, fun j hj => absurd hj (Nat.not_lt_zero _), by decide⟩, hk1, hk2, hS1, hS2, hS3⟩⟩
  · skip
    refine g_aload_n cx 0 d_10_13_71 rfl rfl ?_
    refine g_iconst cx (v := 1) d_10_13_72 (by decide) ?_
    refine g_putf cx d_10_13_73 in1 ty1_ok nm1 rfl (k := 2) (by decide) t_57 (Or.inl rfl) rfl (ty1_ok 2 (by decide)) rfl rfl hab heb (Nat.le_of_ble_eq_true rfl) ?_
    refine t_putR hT hab (Or.inr hk1) (fun h hT ev hab heb hot hL => ?_)
    replace hE := Ev.trS hE ev
    replace hf2 := (hot _ (Bd.ne hb2.1)).trans hf2
    replace hv2 := hL ▸ hv2
    replace hS1 := fun z hz => (hL ▸ hS1 z hz : z ∈ h.1)
    refine g_aload_n cx 0 d_10_13_76 rfl rfl ?_
    refine g_iload_n cx 1 d_10_13_77 rfl rfl ?_
    refine g_putf cx d_10_13_78 in1 ty1_ok nm1 rfl (k := 3) (by decide) t_59 (Or.inl rfl) rfl (ty1_ok 3 (by decide)) rfl rfl hab heb (Nat.le_of_ble_eq_true rfl) ?_
    refine t_putR hT hab (Or.inr hk1) (fun h hT ev hab heb hot hL => ?_)
    replace hE := Ev.trS hE ev
    replace hf2 := (hot _ (Bd.ne hb2.1)).trans hf2
    replace hv2 := hL ▸ hv2
    replace hS1 := fun z hz => (hL ▸ hS1 z hz : z ∈ h.1)
    exact g_vret cx d_10_13_81 rfl ⟨K, hT, hE, rfl, v2, cap2, ⟨⟨_, f2, hab, heb, hv2, hf2, hft2, by omega, by omega, hcap2, hcp2, fun j hj => absurd hj (Nat.not_lt_zero _), by decide⟩, hk1, hk2, hS1, hS2, hS3⟩⟩
set_option maxHeartbeats 8000000 in
theorem tj_sbSetLen {S : Nat → Prop} {cd ab v c0 cap : Nat} : TC l y_88 prog_20_method_89_code 2 (Option.none) (rmT 9 1 210) D z0 k [.ref ab, .int 0] K (B) (T) (fun h => BK D K h S ab v c0 cap cd) (B) (T) (fun z => z = ab) (fun o K' h' => o = .returned none ∧ ∃ v' cap', BK D K' h' S ab v' 0 cap' 0) := by
  refine tc_of (by decide) (Nat.le_of_ble_eq_true rfl) ?_
  intro h hT hp p e s m args below meth c cx hnm
  have hE : Ev k (fun z => z = ab) K h K h := Ev.rf
  obtain ⟨hbd, hk1, hk2, hS1, hS2, hS3⟩ := hp
  have hp := hbd
  obtain ⟨mb, f, hab, heb, hv, hF, hfit, hcc, hc30, hcap, hcp, hfd, hcd⟩ := id hp
  refine g_aload_n cx 0 d_20_89_0 rfl rfl ?_
  refine g_iload_n cx 1 d_20_89_1 rfl rfl ?_
  refine g_callSU cx (As := [.int 0]) (n := 1) (C0 := "java/lang/StringBuilder") (tj_setLen (S := S) (c0 := c0) (v := v) (cap := cap)) d_20_89_2 t_469 t_2 t_470 t_468 t_1173 t_68 (by decide) (by decide +kernel) rfl (ci := 1) rfl hab heb ⟨rfl, hT, ⟨hbd, hk1, hk2, hS1, hS2, hS3⟩⟩ ⟨Nat.le_of_ble_eq_true rfl, Nat.le_of_ble_eq_true rfl⟩ (Nat.le_of_ble_eq_true rfl) ⟨Nat.le_of_ble_eq_true rfl, Nat.le_of_ble_eq_true rfl⟩ (fun v2 h r2 => ?_) (fun x2 h r2 => by obtain ⟨K9, -, -, e9, -⟩ := r2; cases e9)
  obtain ⟨K, hT, ev, rel2⟩ := r2
  obtain ⟨e2, v2, cap2, hb2⟩ := rel2
  cases e2
  replace hE := Ev.trS hE ev
  exact g_vret cx d_20_89_5 rfl ⟨K, hT, hE, rfl, v2, cap2, hb2⟩
set_option maxHeartbeats 8000000 in
theorem tj_strASB {q ab v c0 cap cd : Nat} : TC l y_52 prog_19_method_150_code 5 (Option.none) (rmT 8 1 40) D z0 k [.ref q, .ref ab, .null] K (B) (T) (fun h => (K q = (0, 0, 0) ∧ q ∈ h.1 ∧ h.2 q = .inr (3, [.null, .int 0, .int 0, .int 0])) ∧ Bd D h ab v c0 cap cd ∧ (K ab).1 = 99 ∧ (K v).1 = 99) (B) (T) (fun z => z = q) (fun o K' h' => o = .returned none ∧ Tc k K' h' q c0 cd) := by
  refine tc_of (by decide) (Nat.le_of_ble_eq_true rfl) ?_
  intro h hT hp p e s m args below meth c cx hnm
  have hE : Ev k (fun z => z = q) K h K h := Ev.rf
  obtain ⟨⟨hr, hm, he⟩, hbd, hk1, hk2⟩ := hp
  have hp := hbd
  obtain ⟨mb, f, hab, heb, hv, hF, hfit, hcc, hc30, hcap, hcp, hfd, hcd⟩ := id hp
  refine g_aload_n cx 0 d_19_150_0 rfl rfl ?_
  refine g_objInit cx d_19_150_1 t_281 t_35 t_36 ⟨Nat.le_of_ble_eq_true rfl, Nat.le_of_ble_eq_true rfl⟩ (Nat.le_of_ble_eq_true rfl) ?_
  have hqa : ab ≠ q := fun z => by rw [z, hr] at hk1; cases hk1
  have hqv : v ≠ q := fun z => by rw [z, hr] at hk2; cases hk2
  refine g_aload_n cx 1 d_19_150_4 rfl rfl ?_
  refine g_callU cx (As := []) (n := 0) (C0 := "java/lang/StringBuilder") (pj_asbValue (c0 := c0) (v := v) (cap := cap)) d_19_150_5 t_283 t_2 t_286 (x := y_53) (owner := "java/lang/AbstractStringBuilder") t_282 t_284 t_283 t_286 t_285 ⟨by decide, by decide⟩ (by decide +kernel) rfl (ci := 1) rfl hab heb ⟨rfl, hbd⟩ ⟨Nat.le_of_ble_eq_true rfl, Nat.le_of_ble_eq_true rfl⟩ (Nat.le_of_ble_eq_true rfl) ⟨Nat.zero_le _, Nat.zero_le _⟩ (fun v5 h r5 => ?_) (fun x5 h r5 => by obtain ⟨-, v9, e9, -⟩ := r5; cases e9)
  obtain ⟨rfl, w5, e5, r5⟩ := r5
  cases e5
  subst r5
  refine g_astore_n cx (lv' := [(3, .ref v), (0, .ref q), (1, .ref ab), (2, .null)]) d_19_150_8 rfl (by decide) rfl ?_
  refine g_aload_n cx 2 d_19_150_9 rfl rfl ?_
  refine g_callU cx (As := []) (n := 0) (C0 := "java/lang/StringBuilder") (pj_sbLen (c0 := c0) (v := v) (cap := cap)) d_19_150_10 t_118 t_3 t_120 (x := y_11) (owner := "java/lang/AbstractStringBuilder") t_287 t_1161 t_122 t_123 t_1166 ⟨by decide, by decide⟩ (by decide +kernel) rfl (ci := 1) rfl hab heb ⟨rfl, hbd⟩ ⟨Nat.le_of_ble_eq_true rfl, Nat.le_of_ble_eq_true rfl⟩ (Nat.le_of_ble_eq_true rfl) ⟨Nat.zero_le _, Nat.zero_le _⟩ (fun v10 h r10 => ?_) (fun x10 h r10 => by obtain ⟨-, v9, e9, -⟩ := r10; cases e9)
  obtain ⟨rfl, w10, e10, r10⟩ := r10
  cases e10
  subst r10
  refine g_istore cx (lv' := [(4, .int (nI c0)), (3, .ref v), (0, .ref q), (1, .ref ab), (2, .null)]) d_19_150_13 (by decide) rfl ?_
  refine g_aload_n cx 3 d_19_150_15 rfl rfl ?_
  refine g_callU cx (As := []) (n := 0) (C0 := "java/lang/StringBuilder") (pj_asbLatin (c0 := c0) (v := v) (cap := cap)) d_19_150_16 t_167 t_2 t_170 (x := y_24) (owner := "java/lang/AbstractStringBuilder") t_288 t_168 t_167 t_170 t_169 ⟨by decide, by decide⟩ (by decide +kernel) rfl (ci := 1) rfl hab heb ⟨rfl, hbd⟩ ⟨Nat.le_of_ble_eq_true rfl, Nat.le_of_ble_eq_true rfl⟩ (Nat.le_of_ble_eq_true rfl) ⟨Nat.zero_le _, Nat.zero_le _⟩ (fun v16 h r16 => ?_) (fun x16 h r16 => by obtain ⟨-, v9, e9, -⟩ := r16; cases e9)
  obtain ⟨rfl, w16, e16, r16⟩ := r16
  cases e16
  subst r16
  refine g_if_eq cx d_19_150_19 rfl (fun c19 => absurd c19 (by decide)) (fun c19 => ?_)
  refine g_aload_n cx 2 d_19_150_22 rfl rfl ?_
  refine g_iconst cx (v := 0) d_19_150_23 (by decide) ?_
  refine g_putF cx hnm d_19_150_24 in3 ty3_ok nm3 rfl (k := 1) (by decide) t_454 rfl rfl (ty3_ok 1 (by decide)) rfl rfl hm he (Nat.le_of_ble_eq_true rfl) ?_
  refine t_putR hT hm (Or.inl (congrArg Prod.fst hr)) (fun h hT ev hm he hot24 hL24 => ?_)
  replace hE := Ev.trS hE ev
  obtain ⟨hbd, hk1, hk2⟩ := Bd.kept hbd ev hk1 hk2 hqa hqv
  refine g_aload_n cx 2 d_19_150_27 rfl rfl ?_
  refine g_aload_n cx 1 d_19_150_28 rfl rfl ?_
  refine g_iconst cx (v := 0) d_19_150_29 (by decide) ?_
  refine g_iload cx 0 d_19_150_30 rfl ?_
  obtain ⟨mb9, f9, hab9, heb9, hv9, hF9, hfit9, hcc9, hc309, hcap9, hcp9, hfd9, hcd9⟩ := id hbd
  refine g_callS cx (As := [.ref v, .int 0, .int (nI c0)]) (n := 3) (pj_copyRange (f := f9) (n := cap) (bg := 0) (en := c0) (Nat.zero_le _) hcc) d_19_150_32 t_289 t_290 t_12 t_291 ⟨by decide, by decide, by decide +kernel⟩ rfl ⟨rfl, ⟨hv9, hF9, hfit9, by omega⟩⟩ ⟨Nat.le_of_ble_eq_true rfl, Nat.le_of_ble_eq_true rfl⟩ (Nat.le_of_ble_eq_true rfl) ⟨Nat.le_of_ble_eq_true rfl, by show c0 - 0 ≤ 40; omega⟩ (fun v32 h32 r32 => ?_) (fun x32 h32 r32 => by obtain ⟨q9, f9, e9, -⟩ := r32; cases e9)
  obtain ⟨q32, f32, e32, hq32, hz32, hft32, hfc32, rfl⟩ := r32
  cases e32
  refine t_push (q := (40, c0, cd)) hT hq32 hz32 (okc.ob (by show ¬ (23 ≤ 40 ∧ 40 ≤ 29); decide) (by show ¬ (33 ≤ 40 ∧ 40 ≤ 39); decide) ⟨f32, rfl, hft32, fun j hj => (hfc32 j (by have : j < c0 := hj; omega)).trans (by show f9 (0 + j) = _; rw [Nat.zero_add]; exact hfd9 j hj)⟩) (fun K h hT ev hk32 hm32 he32 hol32 => ?_)
  obtain ⟨hr, hm, he⟩ := Ev.rawm ev hr hm he
  replace hE := hE.tr ev
  have hv40 : Ty K h 40 q32 := ⟨hm32, congrArg Prod.fst hk32⟩
  have hv4n : (K q32).2 = (c0, cd) := congrArg Prod.snd hk32
  refine g_putF cx hnm d_19_150_35 in3 ty3_ok nm3 rfl (k := 0) (by decide) t_453 rfl rfl (ty3_ok 0 (by decide)) rfl rfl hm he (Nat.le_of_ble_eq_true rfl) ?_
  refine t_putR hT hm (Or.inl (congrArg Prod.fst hr)) (fun h hT ev hm he hot35 hL35 => ?_)
  have hv40 := Ev.ty ev hv40
  replace hE := Ev.trS hE ev
  
  refine g_goto cx d_19_150_38 rfl ?_
  have hvq : q32 ≠ q := fun z => by have := hv40.2; rw [z, hr] at this; cases this
  obtain ⟨t9, v9⟩ := t_kind (q := (3, c0, cd)) hT hm (congrArg Prod.fst hr) he (okc.ob (by show ¬ (23 ≤ 3 ∧ 3 ≤ 29); decide) (by show ¬ (33 ≤ 3 ∧ 3 ≤ 39); decide) ⟨q32, 0, 0, rfl, ⟨hv40.1, by rw [va_up_ne _ _ hvq]; exact hv40.2⟩, by rw [va_up_ne _ _ hvq]; exact hv4n, hc30, hcd⟩)
  exact g_vret cx d_19_150_97 rfl ⟨_, t9, Ev.trS hE v9, rfl, ⟨by rw [va_up_self], by rw [va_up_self], Or.inl hm⟩, fun _ => by rw [va_up_self], hcd⟩
set_option maxHeartbeats 8000000 in
theorem tj_strSB {q ab v c0 cap cd : Nat} : TC l y_51 prog_19_method_53_code 2 (Option.none) (rmT 9 1 40) D z0 k [.ref q, .ref ab] K (B) (T) (fun h => (K q = (0, 0, 0) ∧ q ∈ h.1 ∧ h.2 q = .inr (3, [.null, .int 0, .int 0, .int 0])) ∧ Bd D h ab v c0 cap cd ∧ (K ab).1 = 99 ∧ (K v).1 = 99) (B) (T) (fun z => z = q) (fun o K' h' => o = .returned none ∧ Tc k K' h' q c0 cd) := by
  refine tc_of (by decide) (Nat.le_of_ble_eq_true rfl) ?_
  intro h hT hp p e s m args below meth c cx hnm
  have hE : Ev k (fun z => z = q) K h K h := Ev.rf
  obtain ⟨⟨hr, hm, he⟩, hbd, hk1, hk2⟩ := hp
  have hp := hbd
  obtain ⟨mb, f, hab, heb, hv, hF, hfit, hcc, hc30, hcap, hcp, hfd, hcd⟩ := id hp
  refine g_aload_n cx 0 d_19_53_0 rfl rfl ?_
  refine g_aload_n cx 1 d_19_53_1 rfl rfl ?_
  refine g_null cx d_19_53_2 ?_
  refine g_callI cx (ret' := none) (As := [.ref ab, .null]) (n := 2) (tj_strASB (c0 := c0) (v := v) (cap := cap)) d_19_53_3 t_278 t_279 t_4 t_280 rfl ⟨by decide, by decide, by decide +kernel⟩ rfl ⟨rfl, hT, ⟨⟨hr, hm, he⟩, hbd, hk1, hk2⟩⟩ ⟨Nat.le_of_ble_eq_true rfl, Nat.le_of_ble_eq_true rfl⟩ (Nat.le_of_ble_eq_true rfl) ⟨Nat.le_of_ble_eq_true rfl, Nat.le_of_ble_eq_true rfl⟩ (fun v3 h r3 => ?_) (fun x3 h r3 => by obtain ⟨K9, -, -, e9⟩ := r3; cases e9.1)
  obtain ⟨K, hT, ev, rel3⟩ := r3
  obtain ⟨e3, hn3⟩ := rel3
  cases e3
  replace hE := Ev.trS hE ev
  exact g_vret cx d_19_53_6 rfl ⟨K, hT, hE, rfl, hn3⟩
set_option maxHeartbeats 8000000 in
theorem tj_toString {ab v c0 cap cd : Nat} : TC l y_50 prog_20_method_42_code 1 (Option.some (Jvm.ClassFile.FieldType.object "java/lang/String")) (rmT 10 2 44) D z0 k [.ref ab] K (B) (T) (fun h => Bd D h ab v c0 cap cd ∧ (K ab).1 = 99 ∧ (K v).1 = 99) (B) (T) (X0) (fun o K' h' => ∃ r : Nat, o = .returned (some (.ref r)) ∧ Tc k K' h' r c0 cd) := by
  refine tc_of (by decide) (Nat.le_of_ble_eq_true rfl) ?_
  intro h hT hp p e s m args below meth c cx hnm
  have hE : Ev k (X0) K h K h := Ev.rf
  refine g_new cx (ci := 3) (fs := [.null, .int 0, .int 0, .int 0]) d_20_42_0 in3 ty3_ok t_273 t_274 t_4 rfl (by decide) ⟨Nat.le_of_ble_eq_true rfl, Nat.le_of_ble_eq_true rfl⟩ (fun q0 hq0 hz0 => ?_)
  have hN0 := Ev.nin hE hq0
  refine t_raw hT hq0 hz0 (fun K h hT ev hr0 hm0 he0 hol0 => ?_)
  replace hE := hE.tr ev
  have hb9 := Bd.kept hp.1 ev hp.2.1 hp.2.2 id id
  refine g_dup cx d_20_42_3 rfl ?_
  refine g_aload_n cx 0 d_20_42_4 rfl rfl ?_
  refine g_callI cx (ret' := none) (As := [.ref ab]) (n := 1) (tj_strSB (c0 := c0) (v := v) (cap := cap)) d_20_42_5 t_275 t_276 t_4 t_277 rfl ⟨by decide, by decide, by decide +kernel⟩ rfl ⟨rfl, hT, ⟨⟨hr0, hm0, he0⟩, hb9⟩⟩ ⟨Nat.le_of_ble_eq_true rfl, Nat.le_of_ble_eq_true rfl⟩ (Nat.le_of_ble_eq_true rfl) ⟨Nat.le_of_ble_eq_true rfl, Nat.le_of_ble_eq_true rfl⟩ (fun v5 h r5 => ?_) (fun x5 h r5 => by obtain ⟨K9, -, -, e9⟩ := r5; cases e9.1)
  obtain ⟨K, hT, ev, rel5⟩ := r5
  obtain ⟨e5, hn5⟩ := rel5
  cases e5
  replace hE := hE.trN hN0 ev
  exact g_aret cx d_20_42_8 rfl (Or.inl ⟨_, rfl⟩) (Or.inr ⟨_, rfl⟩) ⟨K, hT, hE, _, rfl, hn5⟩
set_option maxHeartbeats 8000000 in
theorem tj_asbInit {q : Nat} : TC l y_3 prog_10_method_2_code 2 (Option.none) (rmT 2 1 16) D z0 k [.ref q, .int 16] K (B) (T) (fun h => (K q = (0, 0, 0) ∧ q ∈ h.1 ∧ h.2 q = .inr (1, [.null, .int 0, .int 0, .int 0]))) (B) (T) (fun z => z = q) (fun o K' h' => o = .returned none ∧ K' q = (0, 0, 0) ∧ ∃ v, (K' v).1 = 99 ∧ Bd D h' q v 0 16 0) := by
  refine tc_of (by decide) (Nat.le_of_ble_eq_true rfl) ?_
  intro h hT hp p e s m args below meth c cx hnm
  have hE : Ev k (fun z => z = q) K h K h := Ev.rf
  obtain ⟨hr, hm, he⟩ := hp
  refine g_aload_n cx 0 d_10_2_0 rfl rfl ?_
  refine g_objInit cx d_10_2_1 t_45 t_35 t_36 ⟨Nat.le_of_ble_eq_true rfl, Nat.le_of_ble_eq_true rfl⟩ (Nat.le_of_ble_eq_true rfl) ?_
  refine g_gets cx d_10_2_4 t_46 cx.ee.2.1 ?_
  refine g_if_eq cx d_10_2_7 rfl (fun c7 => absurd c7 (by decide)) (fun c7 => ?_)
  refine g_aload_n cx 0 d_10_2_10 rfl rfl ?_
  refine g_iload_n cx 1 d_10_2_11 rfl rfl ?_
  refine g_newarr cx (k := 4) (n := 16) (a0 := (16, .inl (fun _ => 0))) d_10_2_12 rfl t_69 rfl rfl rfl (by decide) (by decide) (fun cA => rfl) ⟨Nat.le_refl _, Nat.le_refl _⟩ (fun w hw hz => ?_)
  refine t_push (q := (99, 0, 0)) hT hw hz ⟨fun x => absurd x.2 (by decide), fun x => absurd x.2 (by decide), trivial⟩ (fun K h hT ev hkw hmw hew holw => ?_)
  obtain ⟨hr, hm, he⟩ := Ev.rawm ev hr hm he
  replace hE := hE.tr ev
  have hwq : w ≠ q := fun z => by rw [z, he] at hew; cases hew
  refine g_putf cx d_10_2_14 in1 ty1_ok nm1 rfl (k := 0) (by decide) t_55 (Or.inl rfl) rfl (ty1_ok 0 (by decide)) rfl rfl hm he (Nat.le_of_ble_eq_true rfl) ?_
  refine t_putR hT hm (Or.inl (congrArg Prod.fst hr)) (fun h hT ev hm he hot14 hL14 => ?_)
  replace hE := Ev.trS hE ev
  replace hew := (hot14 _ hwq).trans hew
  replace hmw := hL14 ▸ hmw
  refine g_aload_n cx 0 d_10_2_17 rfl rfl ?_
  refine g_iconst cx (v := 0) d_10_2_18 (by decide) ?_
  refine g_putf cx d_10_2_19 in1 ty1_ok nm1 rfl (k := 1) (by decide) t_56 (Or.inl rfl) rfl (ty1_ok 1 (by decide)) rfl rfl hm he (Nat.le_of_ble_eq_true rfl) ?_
  refine t_putR hT hm (Or.inl (congrArg Prod.fst hr)) (fun h hT ev hm he hot19 hL19 => ?_)
  replace hE := Ev.trS hE ev
  replace hew := (hot19 _ hwq).trans hew
  replace hmw := hL19 ▸ hmw
  refine g_goto cx d_10_2_22 rfl ?_
  exact g_vret cx d_10_2_38 rfl ⟨K, hT, hE, rfl, hr, w, congrArg Prod.fst hkw, ⟨0, _, hm, he, hmw, hew, sb_fit0, by decide, by decide, by decide, by decide, fun j hj => absurd hj (Nat.not_lt_zero _), by decide⟩⟩
set_option maxHeartbeats 8000000 in
theorem tj_sbInit {q : Nat} : TC l y_2 prog_20_method_1_code 1 (Option.none) (rmT 3 1 16) D z0 k [.ref q] K (B) (T) (fun h => (K q = (0, 0, 0) ∧ q ∈ h.1 ∧ h.2 q = .inr (1, [.null, .int 0, .int 0, .int 0]))) (B) (T) (fun z => z = q) (fun o K' h' => o = .returned none ∧ K' q = (0, 0, 0) ∧ ∃ v, (K' v).1 = 99 ∧ Bd D h' q v 0 16 0) := by
  refine tc_of (by decide) (Nat.le_of_ble_eq_true rfl) ?_
  intro h hT hp p e s m args below meth c cx hnm
  have hE : Ev k (fun z => z = q) K h K h := Ev.rf
  obtain ⟨hr, hm, he⟩ := hp
  refine g_aload_n cx 0 d_20_1_0 rfl rfl ?_
  refine g_bipush cx (v := 16) d_20_1_1 (by decide) ?_
  refine g_callI cx (ret' := none) (As := [.int 16]) (n := 1) (tj_asbInit) d_20_1_3 t_42 t_43 t_2 t_44 rfl ⟨by decide, by decide, by decide +kernel⟩ rfl ⟨rfl, hT, ⟨hr, hm, he⟩⟩ ⟨Nat.le_of_ble_eq_true rfl, Nat.le_of_ble_eq_true rfl⟩ (Nat.le_of_ble_eq_true rfl) ⟨Nat.le_of_ble_eq_true rfl, Nat.le_of_ble_eq_true rfl⟩ (fun v3 h r3 => ?_) (fun x3 h r3 => by obtain ⟨K9, -, -, e9⟩ := r3; cases e9.1)
  obtain ⟨K, hT, ev, rel3⟩ := r3
  obtain ⟨e3, hn3⟩ := rel3
  cases e3
  replace hE := Ev.trS hE ev
  exact g_vret cx d_20_1_6 rfl ⟨K, hT, hE, rfl, hn3⟩
end J4
