/-! The class: looking. -/
def Pf (h : hp) (z : Nat) (x : Int32) : Prop := ∃ x0 x1 x2 x3 x4 x5 x7 x8 : Value, h.2 z = .inr (6, [x0, x1, x2, x3, x4, x5, .int x, x7, x8])
/-- the realms of Gs keep their order -/
def PG (Gs : Nat → Int32 → Prop) (K : KM) (h : hp) : Prop := ∀ z x, Gs z x → Ty K h 6 z ∧ Pf h z x
abbrev XI (K : KM) : Nat → Prop := XP X0 (fun κ => κ = 1 ∨ κ = 50 ∨ κ = 5) K
section PGL
variable {D : va_G} {z0 : Nat} {k : Nat → Nat} {K K' : KM} {B T : Nat} {h h' : hp} {a : Nat} {X : Nat → Prop} {Gs : Nat → Int32 → Prop}
theorem Pf.eq {z : Nat} {x b : Int32} {y0 y1 y2 y3 y4 y5 y7 y8 : Value} (q : Pf h z x) (he : h.2 z = .inr (6, [y0, y1, y2, y3, y4, y5, .int b, y7, y8])) : x = b := by
  obtain ⟨x0, x1, x2, x3, x4, x5, x7, x8, e⟩ := q
  rw [he] at e
  simp only [Sum.inr.injEq, Prod.mk.injEq, List.cons.injEq, Value.int.injEq] at e
  exact e.2.2.2.2.2.2.2.1.symm
theorem PG.ev (g : PG Gs K h) (ev : Ev k X K h K' h') (hX : ∀ z, (K z).1 = 6 → ¬ X z) : PG Gs K' h' := fun z x q => by
  obtain ⟨t, x0, x1, x2, x3, x4, x5, x7, x8, e⟩ := g z x q
  have c := (ev.1 z t.1).2.2 (hX z t.2)
  exact ⟨Ev.ty ev t, x0, x1, x2, x3, x4, x5, x7, x8, c.2.trans e⟩
theorem PG.put {rl : Nat} {b : Int32} {y0 y1 y2 y3 y4 y5 y7 y8 u0 u1 u2 u3 u4 u5 u7 u8 : Value} (g : PG Gs K h) (he : h.2 rl = .inr (6, [y0, y1, y2, y3, y4, y5, .int b, y7, y8])) (ev : Ev k (fun z => z = rl) K h K' h') (he' : h'.2 rl = .inr (6, [u0, u1, u2, u3, u4, u5, .int b, u7, u8])) : PG Gs K' h' := fun z x q => by
  obtain ⟨t, p⟩ := g z x q
  refine ⟨Ev.ty ev t, ?_⟩
  by_cases hz : z = rl
  · subst hz
    obtain rfl := p.eq he
    exact ⟨u0, u1, u2, u3, u4, u5, u7, u8, he'⟩
  · obtain ⟨x0, x1, x2, x3, x4, x5, x7, x8, e⟩ := p
    exact ⟨x0, x1, x2, x3, x4, x5, x7, x8, ((ev.1 z t.1).2.2 hz).2.trans e⟩
theorem PG.more {rl : Nat} {b : Int32} {y0 y1 y2 y3 y4 y5 y7 y8 : Value} (g : PG Gs K h) (hr : Ty K h 6 rl) (he : h.2 rl = .inr (6, [y0, y1, y2, y3, y4, y5, .int b, y7, y8])) : PG (fun z x => Gs z x ∨ (z = rl ∧ x = b)) K h := fun z x q => by
  rcases q with q | ⟨rfl, rfl⟩
  · exact g z x q
  · exact ⟨hr, y0, y1, y2, y3, y4, y5, y7, y8, he⟩
theorem x6n {P : Nat → Prop} (hP : ¬ P 6) : ∀ z, (K z).1 = 6 → ¬ XP X0 P K z := fun z hz y => y.elim id (fun w => hP (by rw [hz] at w; exact w))
theorem x6a {ce la : Nat} (hc : 3 ≤ ce ∧ ce ≤ 9) (hla : Ty K h (ce + 20) la) : ∀ z, (K z).1 = 6 → ¬ XP (fun z => z = la) (fun κ => κ = ce + 30) K z := by
  intro z hz y
  rcases y with y | y
  · have y2 : z = la := y
    rw [y2, hla.2] at hz
    omega
  · have y2 : (K z).1 = ce + 30 := y
    omega
theorem xsub {P : Nat → Prop} (hP : ∀ κ, P κ → PN κ) (ev : Ev k (XP X0 P K) K h K' h') : Ev k (XN K) K h K' h' := ev.wk (fun _ _ y => y.imp id (fun w => hP _ w))
theorem xsubI {P : Nat → Prop} (hP : ∀ κ, P κ → κ = 1 ∨ κ = 50 ∨ κ = 5) (ev : Ev k (XP X0 P K) K h K' h') : Ev k (XI K) K h K' h' := ev.wk (fun _ _ y => y.imp id (fun w => hP _ w))
theorem okc1 {ab la lr tr t : Nat} (h1 : (K a).1 = 1) (hab : (K a).2.1 = ab) (q1 : Ty K h 25 la) (q2 : Ty K h 26 lr) (q3 : Ty K h 50 tr) (ht : t ≤ T) (hl : lr = (K a).2.2) (hl2 : la = (K lr).2.1) : okc D k K h.1 B T (K a) (.inr (0, [.ref ab, .ref la, .ref lr, .ref tr, .int (nI t)])) := by
  subst hab
  exact okcO h1 (Or.inl (by decide)) ⟨la, lr, tr, t, rfl, q1, q2, q3, ht, hl, hl2⟩
end PGL
section C3
variable {l : Launch} {D : va_G} {z0 : Nat} {k : Nat → Nat} {K : KM} {B T : Nat} {M r lev cc ss : Nat} {Gs : Nat → Int32 → Prop}
set_option maxHeartbeats 8000000 in
theorem tc_noteAsked {a rl : Nat} (hTb : T < 2 ^ 30) : TC l y_147 prog_1_method_37_code 2 (Option.none) (rmT 0 0 0) D z0 k [.ref a, .ref rl] K (B) (T) (fun h => Ty K h 1 a ∧ Ty K h 6 rl) (B) (T + 1) (XP X0 (fun κ => κ = 1 ∨ κ = 50) K) (fun o _ _ => o = .returned none) := by
  refine tc_of (by decide) (Nat.le_of_ble_eq_true rfl) ?_
  intro h hT hp p e s m args below meth c cx hnm
  have hE : Ev k (XP X0 (fun κ => κ = 1 ∨ κ = 50) K) K h K h := Ev.rf
  obtain ⟨ha, hrl⟩ := hp
  obtain ⟨la0, lr0, tr0, tn0, he0, hla0, hlr0, htr0, htn0, hlq0, hlaq0⟩ := TP.o (κ := 1) hT ha
  replace htn0 : tn0 ≤ T := htn0
  replace hT := TP.mono (Nat.le_refl B) (Nat.le_succ T) hT
  refine g_aload_n cx 0 d_1_37_0 rfl rfl ?_
  refine g_getf cx (k := 4) d_1_37_1 in0 rfl (by decide) t_100 (Or.inl rfl) ha.1 he0 rfl ?_
  refine g_bipush cx (v := 20) d_1_37_4 (by decide) ?_
  refine g_icmp_ge cx d_1_37_6 rfl (fun c6 => ?_) (fun c6 => ?_)
  · skip
    refine g_aload_n cx 0 d_1_37_22 rfl rfl ?_
    refine g_dup cx d_1_37_23 rfl ?_
    refine g_getf cx (k := 4) d_1_37_24 in0 rfl (by decide) t_100 (Or.inl rfl) ha.1 he0 rfl ?_
    refine g_iconst cx (v := 1) d_1_37_27 (by decide) ?_
    refine g_iadd cx d_1_37_28 ?_
    refine g_topi (fun m28 em28 => ?_)
    obtain rfl : m28 = nI (tn0 + 1) := em28.trans (nI_1 tn0)
    refine g_putf cx d_1_37_29 in0 ty0_ok nm0 rfl (k := 4) (by decide) t_100 (Or.inl rfl) rfl (ty0_ok 4 (by decide)) rfl rfl ha.1 he0 (Nat.le_of_ble_eq_true rfl) ?_
    refine t_put hT ha (okcO ha.2 (Or.inl (by decide)) ⟨la0, lr0, tr0, tn0 + 1, rfl, hla0, hlr0, htr0, Nat.succ_le_succ htn0, hlq0, hlaq0⟩) (fun h hT ev he29p => ?_)
    have ha := Ev.ty ev ha
    have hrl := Ev.ty ev hrl
    replace hE := Ev.tr1 hE (Or.inr (Or.inl ha.2)) ev
    exact g_vret cx d_1_37_32 rfl ⟨K, hT, hE, rfl⟩
  · skip
    have ht20 : tn0 < 20 := Nat.lt_of_not_le (fun q => c6 (nI_le (a := 20) q (by omega)))
    refine g_aload_n cx 0 d_1_37_9 rfl rfl ?_
    refine g_getf cx (k := 3) d_1_37_10 in0 rfl (by decide) t_99 (Or.inl rfl) ha.1 he0 rfl ?_
    refine g_aload_n cx 0 d_1_37_13 rfl rfl ?_
    refine g_getf cx (k := 4) d_1_37_14 in0 rfl (by decide) t_100 (Or.inl rfl) ha.1 he0 rfl ?_
    refine g_aload_n cx 1 d_1_37_17 rfl rfl ?_
    obtain ⟨n18, b118, b218, b318, w18, lo18, im18, fi18, pa18, he18, hw18, hlo18, him18, hfi18, hpa18, hwq18⟩ := TP.o (κ := 6) hT hrl
    obtain ⟨nw18, hw18⟩ : ∃ n, Tw k K h w18 n := ⟨_, Tx.tx hw18⟩
    refine g_getf cx (k := 0) d_1_37_18 in6 rfl (by decide) t_729 (Or.inl rfl) hrl.1 he18 rfl ?_
    obtain ⟨f21, hf21⟩ : ∃ f : Nat → Int32, h.2 tr0 = .inl (D.1 100, 20, .inl f) := TP.o (κ := 50) hT htr0
    refine g_iast cx d_1_37_21 htr0.1 hf21 (vp_in_nI ht20 (by decide)) ?_
    refine t_put hT htr0 (okcO htr0.2 (Or.inr (by decide)) ⟨_, rfl⟩) (fun h hT ev hf21 => ?_)
    have hin := htr0.2
    replace he0 := ((ev.1 a ha.1).2.2 (fun z => by have := ha.2; rw [z, htr0.2] at this; cases this)).2.trans he0
    replace hlaq0 := hlaq0.trans (Ev.ab ev hlr0 rfl).symm
    replace hlq0 := hlq0.trans (Ev.fix ev ha (by unfold Gk; omega)).symm
    have ha := Ev.ty ev ha
    have hrl := Ev.ty ev hrl
    have hla0 := Ev.ty ev hla0
    have hlr0 := Ev.ty ev hlr0
    have htr0 := Ev.ty ev htr0
    replace hE := Ev.tr1 hE (Or.inr (Or.inr hin)) ev
    refine g_aload_n cx 0 d_1_37_22 rfl rfl ?_
    refine g_dup cx d_1_37_23 rfl ?_
    refine g_getf cx (k := 4) d_1_37_24 in0 rfl (by decide) t_100 (Or.inl rfl) ha.1 he0 rfl ?_
    refine g_iconst cx (v := 1) d_1_37_27 (by decide) ?_
    refine g_iadd cx d_1_37_28 ?_
    refine g_topi (fun m28 em28 => ?_)
    obtain rfl : m28 = nI (tn0 + 1) := em28.trans (nI_1 tn0)
    refine g_putf cx d_1_37_29 in0 ty0_ok nm0 rfl (k := 4) (by decide) t_100 (Or.inl rfl) rfl (ty0_ok 4 (by decide)) rfl rfl ha.1 he0 (Nat.le_of_ble_eq_true rfl) ?_
    refine t_put hT ha (okcO ha.2 (Or.inl (by decide)) ⟨la0, lr0, tr0, tn0 + 1, rfl, hla0, hlr0, htr0, Nat.succ_le_succ htn0, hlq0, hlaq0⟩) (fun h hT ev he29p => ?_)
    have ha := Ev.ty ev ha
    have hrl := Ev.ty ev hrl
    replace hE := Ev.tr1 hE (Or.inr (Or.inl ha.2)) ev
    exact g_vret cx d_1_37_32 rfl ⟨K, hT, hE, rfl⟩
set_option maxHeartbeats 8000000 in
theorem tc_lookInItself {w n rl : Nat} (hB : B < 2 ^ 20) : TC l y_151 prog_1_method_35_code 4 (Option.some Jvm.ClassFile.FieldType.int) (rmT 7 0 0) D z0 k [.ref w, .ref rl] K (B) (T) (fun h => Tw k K h w n ∧ Ty K h 6 rl) (B) (T) (XP X0 (fun κ => κ = 5) K) (RetI) := by
  refine tc_of (by decide) (Nat.le_of_ble_eq_true rfl) ?_
  intro h hT hp p e s m args below meth c cx hnm
  have hE : Ev k (XP X0 (fun κ => κ = 5) K) K h K h := Ev.rf
  obtain ⟨hw, hrl⟩ := hp
  obtain ⟨n0, b10, b20, b30, w0, lo0, im0, fi0, pa0, he0, hw0, hlo0, him0, hfi0, hpa0, hwq0⟩ := TP.o (κ := 6) hT hrl
  obtain ⟨nw0, hw0⟩ : ∃ n, Tw k K h w0 n := ⟨_, Tx.tx hw0⟩
  obtain ⟨-, hbb⟩ := TP.n29 hT hlo0
  have lp : ∀ (n0 j : Nat), (K lo0).2.2 - j < n0 → j ≤ (K lo0).2.2 → G p l e (rmT 7 0 0) s m args below meth c 4 D z0 (EE z0 k) (TQ D z0 k K h B T (XP X0 (fun κ => κ = 5) K) RetI) 0 0 2 [(2, .int (nI j)), (0, .ref w), (1, .ref rl)] [] h 0 0 := by
    intro n0
    induction n0 with
    | zero => intro j hj; exact absurd hj (Nat.not_lt_zero _)
    | succ n0 ih =>
      intro j hj0 hjn
      refine g_iload_n cx 0 d_1_35_2 rfl rfl ?_
      refine g_aload_n cx 2 d_1_35_3 rfl rfl ?_
      refine g_getf cx (k := 2) d_1_35_4 in6 rfl (by decide) t_733 (Or.inl rfl) hrl.1 he0 rfl ?_
      obtain ⟨⟨ea7, mo7, hm7, hl7⟩, hb7⟩ := TP.n29 hT hlo0
      refine g_pcV cx (As := []) (n := 0) (pj_size (n := (K lo0).2.2)) d_1_35_7 t_235 t_236 t_237 t_8 t_238 ⟨by decide, by decide, by decide +kernel⟩ rfl (ci := 2) rfl hm7 hl7 ⟨ea7, mo7, hm7, hl7⟩ ⟨Nat.le_of_ble_eq_true rfl, Nat.le_of_ble_eq_true rfl⟩ (Nat.le_of_ble_eq_true rfl) (fun v7 r7 => ?_)
      subst r7
      refine g_icmp_ge cx d_1_35_10 rfl (fun c10 => ?_) (fun c10 => ?_)
      · skip
        refine g_iconst cx (v := (-1)) d_1_35_62 (by decide) ?_
        exact g_iret cx d_1_35_63 rfl rfl ⟨K, hT, hE, _, rfl⟩
      · skip
        have hj : j < (K lo0).2.2 := Nat.lt_of_not_le (fun q => c10 (nI_le q (by omega)))
        refine g_aload_n cx 2 d_1_35_13 rfl rfl ?_
        refine g_getf cx (k := 2) d_1_35_14 in6 rfl (by decide) t_733 (Or.inl rfl) hrl.1 he0 rfl ?_
        refine g_iload_n cx 0 d_1_35_17 rfl rfl ?_
        obtain ⟨⟨ea18, mo18, hm18, hl18⟩, hb18⟩ := TP.n29 hT hlo0
        refine g_callV cx (As := [.int (nI j)]) (n := 1) (gj_get (K := K) (B := B) (T := T) (ce := 9) (j := j) (by decide) hB) d_1_35_18 t_239 t_240 t_241 t_8 t_242 ⟨by decide, by decide, by decide +kernel⟩ rfl (ci := 2) rfl hm18 hl18 ⟨rfl, hT, hlo0, hj⟩ ⟨Nat.le_of_ble_eq_true rfl, Nat.le_of_ble_eq_true rfl⟩ (Nat.le_of_ble_eq_true rfl) ⟨Nat.zero_le _, Nat.zero_le _⟩ (fun v18 h r18 => ?_) (fun x18 h r18 => by obtain ⟨-, y9, e9, -⟩ := r18; cases e9)
        obtain ⟨rfl, y18, e18, hy18⟩ := r18
        cases e18
        replace hy18 : Ty K h 5 y18 := hy18
        obtain ⟨n21, t21, w21, l21, he21, hw21, hl21, hwq21⟩ := TP.o (κ := 5) hT hy18
        obtain ⟨nw21, hw21⟩ : ∃ n, Tw k K h w21 n := ⟨_, Tx.tx hw21⟩
        refine g_ccast cx (ci := 5) d_1_35_21 t_256 rfl hy18.1 he21 ?_
        refine g_astore_n cx (lv' := [(3, .ref y18), (2, .int (nI j)), (0, .ref w), (1, .ref rl)]) d_1_35_24 rfl (by decide) rfl ?_
        refine g_aload_n cx 0 d_1_35_25 rfl rfl ?_
        refine g_aload_n cx 2 d_1_35_26 rfl rfl ?_
        refine g_callV cx (As := [.ref w]) (n := 1) (pt_has (K := K) (B := B) (T := T) (n := n) hB) d_1_35_27 t_708 t_709 t_710 t_24 t_711 ⟨by decide, by decide, by decide +kernel⟩ rfl (ci := 5) rfl hy18.1 he21 ⟨rfl, hT, hy18, hw⟩ ⟨Nat.le_of_ble_eq_true rfl, Nat.le_of_ble_eq_true rfl⟩ (Nat.le_of_ble_eq_true rfl) ⟨Nat.zero_le _, Nat.zero_le _⟩ (fun v27 h r27 => ?_) (fun x27 h r27 => by obtain ⟨-, v9, e9, -⟩ := r27; cases e9)
        obtain ⟨rfl, wo27, e27, r27⟩ := r27
        cases e27
        obtain ⟨x27, rfl, xb27⟩ := r27
        refine g_if_eq cx d_1_35_30 rfl (fun c30 => ?_) (fun c30 => ?_)
        · skip
          refine g_iinc cx 1 (lv' := [(2, .int (nI (j + 1))), (3, .ref y18), (0, .ref w), (1, .ref rl)]) d_1_35_56 rfl (inc1 j) (by decide) rfl ?_
          refine g_goto cx d_1_35_59 rfl ?_
          exact g_loc [0, 2, 3] rfl (ih (j + 1) (by omega) (by omega))
        · skip
          refine g_aload_n cx 0 d_1_35_33 rfl rfl ?_
          refine g_dup cx d_1_35_34 rfl ?_
          refine g_getf cx (k := 3) d_1_35_35 in5 rfl (by decide) t_686 (Or.inl rfl) hy18.1 he21 rfl ?_
          refine g_iconst cx (v := 1) d_1_35_38 (by decide) ?_
          refine g_iadd cx d_1_35_39 ?_
          refine g_putf cx d_1_35_40 in5 ty5_ok nm5 rfl (k := 3) (by decide) t_686 (Or.inl rfl) rfl (ty5_ok 3 (by decide)) rfl rfl hy18.1 he21 (Nat.le_of_ble_eq_true rfl) ?_
          refine t_put hT hy18 (okcO hy18.2 (Or.inl (by decide)) ⟨n21, t21 + 1, w21, l21, rfl, hw21.tx, hl21, hwq21⟩) (fun h hT ev he40p => ?_)
          have hy18 := Ev.ty ev hy18
          have hw := Ev.tx ev hw
          have hrl := Ev.ty ev hrl
          replace hE := Ev.tr1 hE (Or.inr hy18.2) ev
          refine g_bipush cx (v := 16) d_1_35_43 (by decide) ?_
          refine g_aload_n cx 3 d_1_35_45 rfl rfl ?_
          obtain ⟨n46, b146, b246, b346, w46, lo46, im46, fi46, pa46, he46, hw46, hlo46, him46, hfi46, hpa46, hwq46⟩ := TP.o (κ := 6) hT hrl
          obtain ⟨nw46, hw46⟩ : ∃ n, Tw k K h w46 n := ⟨_, Tx.tx hw46⟩
          refine g_getf cx (k := 0) d_1_35_46 in6 rfl (by decide) t_729 (Or.inl rfl) hrl.1 he46 rfl ?_
          refine g_imul cx d_1_35_49 ?_
          refine g_aload_n cx 0 d_1_35_50 rfl rfl ?_
          obtain ⟨n51, t51, w51, l51, he51, hw51, hl51, hwq51⟩ := TP.o (κ := 5) hT hy18
          obtain ⟨nw51, hw51⟩ : ∃ n, Tw k K h w51 n := ⟨_, Tx.tx hw51⟩
          refine g_getf cx (k := 0) d_1_35_51 in5 rfl (by decide) t_680 (Or.inl rfl) hy18.1 he51 rfl ?_
          refine g_iadd cx d_1_35_54 ?_
          exact g_iret cx d_1_35_55 rfl rfl ⟨K, hT, hE, _, rfl⟩
  refine g_iconst cx (v := 0) d_1_35_0 (by decide) ?_
  refine g_topi (fun j0 ej0 => ?_)
  obtain rfl : j0 = nI 0 := ej0
  refine g_istore_n cx (lv' := [(2, .int (nI 0)), (0, .ref w), (1, .ref rl)]) d_1_35_1 rfl (by decide) rfl ?_
  exact lp ((K lo0).2.2 + 1) 0 (by omega) (Nat.zero_le _)
set_option maxHeartbeats 8000000 in
theorem tc_lookInImports {a w n rl : Nat} (hB : B < 2 ^ 20) (hTb : T + 8 < 2 ^ 30) : TC l y_149 prog_1_method_34_code 6 (Option.some Jvm.ClassFile.FieldType.int) (rmT 10 8 160) D z0 k [.ref a, .ref w, .ref rl] K (B) (T) (fun h => Ty K h 1 a ∧ Tw k K h w n ∧ Ty K h 6 rl) (B) (T + 4) (XI K) (RetI) := by
  refine tc_of (by decide) (Nat.le_of_ble_eq_true rfl) ?_
  intro h hT hp p e s m args below meth c cx hnm
  have hE : Ev k (XI K) K h K h := Ev.rf
  obtain ⟨ha, hw, hrl⟩ := hp
  have lp : ∀ (n0 j : Nat) (K1 : KM) (h1 : hp) (rc rs : Nat), 4 - j < n0 → j ≤ 4 → TP D z0 k K1 (B) (T + j) h1 → Ev k (XI K) K h K1 h1 → Ty K1 h1 1 a → Tw k K1 h1 w n → Ty K1 h1 6 rl → 2 * (4 - j) ≤ rc → 40 * (4 - j) ≤ rs → G p l e (rmT 10 8 160) s m args below meth c 6 D z0 (EE z0 k) (TQ D z0 k K h (B) (T + 4) (XI K) (RetI)) (8) (160) 2 [(3, .int (nI j)), (0, .ref a), (1, .ref w), (2, .ref rl)] [] h1 rc rs := by
    clear hT hE hw ha hrl
    intro n0
    induction n0 with
    | zero => intro j _ _ _ _ hj; exact absurd hj (Nat.not_lt_zero _)
    | succ n0 ih =>
      intro j  K h rc rs hj0 hjn hT hE ha hw hrl hc1 hc2
      refine g_iload_n cx 0 d_1_34_2 rfl rfl ?_
      refine g_aload_n cx 3 d_1_34_3 rfl rfl ?_
      obtain ⟨n4, b14, b24, b34, w4, lo4, im4, fi4, pa4, he4, hw4, hlo4, him4, hfi4, hpa4, hwq4⟩ := TP.o (κ := 6) hT hrl
      obtain ⟨nw4, hw4⟩ : ∃ n, Tw k K h w4 n := ⟨_, Tx.tx hw4⟩
      refine g_getf cx (k := 3) d_1_34_4 in6 rfl (by decide) t_735 (Or.inl rfl) hrl.1 he4 rfl ?_
      obtain ⟨⟨ea7, mo7, hm7, hl7⟩, hb7⟩ := TP.n27 hT him4
      refine g_pcV cx (As := []) (n := 0) (pj_size (n := (K im4).2.2)) d_1_34_7 t_235 t_236 t_237 t_8 t_238 ⟨by decide, by decide, by decide +kernel⟩ rfl (ci := 2) rfl hm7 hl7 ⟨ea7, mo7, hm7, hl7⟩ ⟨Nat.le_of_ble_eq_true rfl, Nat.le_of_ble_eq_true rfl⟩ (Nat.le_of_ble_eq_true rfl) (fun v7 r7 => ?_)
      subst r7
      refine g_icmp_ge cx d_1_34_10 rfl (fun c10 => ?_) (fun c10 => ?_)
      · skip
        refine g_iconst cx (v := (-1)) d_1_34_84 (by decide) ?_
        exact g_iret cx d_1_34_85 rfl rfl ⟨K, hT.mono (Nat.le_refl _) (by omega), hE, _, rfl⟩
      · skip
        have hj : j < (K im4).2.2 := Nat.lt_of_not_le (fun q => c10 (nI_le q (by omega)))
        refine g_aload_n cx 3 d_1_34_13 rfl rfl ?_
        refine g_getf cx (k := 3) d_1_34_14 in6 rfl (by decide) t_735 (Or.inl rfl) hrl.1 he4 rfl ?_
        refine g_iload_n cx 0 d_1_34_17 rfl rfl ?_
        obtain ⟨⟨ea18, mo18, hm18, hl18⟩, hb18⟩ := TP.n27 hT him4
        refine g_callV cx (As := [.int (nI j)]) (n := 1) (gj_get (K := K) (B := B) (T := (T + j)) (ce := 7) (j := j) (by decide) (by omega)) d_1_34_18 t_239 t_240 t_241 t_8 t_242 ⟨by decide, by decide, by decide +kernel⟩ rfl (ci := 2) rfl hm18 hl18 ⟨rfl, hT, him4, hj⟩ ⟨Nat.le_of_ble_eq_true rfl, Nat.le_of_ble_eq_true rfl⟩ (Nat.le_of_ble_eq_true rfl) ⟨Nat.zero_le _, Nat.zero_le _⟩ (fun v18 h r18 => ?_) (fun x18 h r18 => by obtain ⟨-, y9, e9, -⟩ := r18; cases e9)
        obtain ⟨rfl, y18, e18, hy18⟩ := r18
        cases e18
        replace hy18 : Ty K h 7 y18 := hy18
        obtain ⟨w21, r21, he21, hw21, hr21⟩ := TP.o (κ := 7) hT hy18
        obtain ⟨nw21, hw21⟩ : ∃ n, Tw k K h w21 n := ⟨_, Tx.tx hw21⟩
        refine g_ccast cx (ci := 7) d_1_34_21 t_791 rfl hy18.1 he21 ?_
        refine g_astore cx (lv' := [(4, .ref y18), (3, .int (nI j)), (0, .ref a), (1, .ref w), (2, .ref rl)]) d_1_34_24 (by decide) rfl ?_
        refine g_aload cx 0 d_1_34_26 rfl ?_
        refine g_getf cx (k := 1) d_1_34_28 in7 rfl (by decide) t_801 (Or.inl rfl) hy18.1 he21 rfl ?_
        obtain ⟨n31, b131, b231, b331, w31, lo31, im31, fi31, pa31, he31, hw31, hlo31, him31, hfi31, hpa31, hwq31⟩ := TP.o (κ := 6) hT hr21
        obtain ⟨nw31, hw31⟩ : ∃ n, Tw k K h w31 n := ⟨_, Tx.tx hw31⟩
        refine g_getf cx (k := 7) d_1_34_31 in6 rfl (by decide) t_743 (Or.inl rfl) hr21.1 he31 rfl ?_
        refine g_if_ne cx d_1_34_34 rfl (fun c34 => ?_) (fun c34 => ?_)
        · skip
          refine g_iinc cx 1 (lv' := [(3, .int (nI (j + 1))), (4, .ref y18), (0, .ref a), (1, .ref w), (2, .ref rl)]) d_1_34_78 rfl (inc1 j) (by decide) rfl ?_
          refine g_goto cx d_1_34_81 rfl ?_
          exact g_loc [0, 2, 3, 4] rfl (ih (j + 1) K h _ _ (by omega) (by omega) (hT.mono (Nat.le_refl _) (by omega)) hE ha hw hrl (by show 2 * (4 - (j + 1)) ≤ rc; omega) (by show 40 * (4 - (j + 1)) ≤ rs; omega))
        · skip
          refine g_aload_n cx 3 d_1_34_37 rfl rfl ?_
          refine g_aload cx 0 d_1_34_38 rfl ?_
          refine g_getf cx (k := 0) d_1_34_40 in7 rfl (by decide) t_799 (Or.inl rfl) hy18.1 he21 rfl ?_
          refine g_callS cx (As := [.ref w, .ref w21]) (n := 2) (tc_liesIn (na := n) (nb := nw21)) d_1_34_43 t_852 t_853 t_1 t_854 ⟨by decide, by decide, by decide +kernel⟩ rfl ⟨rfl, hT, hw, hw21⟩ ⟨Nat.le_of_ble_eq_true rfl, Nat.le_of_ble_eq_true rfl⟩ (Nat.le_of_ble_eq_true rfl) ⟨by show 2 ≤ rc; omega, by show 40 ≤ rs; omega⟩ (fun v43 h r43 => ?_) (fun x43 h r43 => by obtain ⟨K9, -, -, x9, e9⟩ := r43; cases e9)
          obtain ⟨K, hT, ev, rel43⟩ := r43
          obtain ⟨x43, e43⟩ := rel43
          cases e43
          have hy18 := Ev.ty ev hy18
          have ha := Ev.ty ev ha
          have hw := Ev.tx ev hw
          have hrl := Ev.ty ev hrl
          replace hE := hE.tr ev
          refine g_if_eq cx d_1_34_46 rfl (fun c46 => ?_) (fun c46 => ?_)
          · skip
            refine g_iinc cx 1 (lv' := [(3, .int (nI (j + 1))), (4, .ref y18), (0, .ref a), (1, .ref w), (2, .ref rl)]) d_1_34_78 rfl (inc1 j) (by decide) rfl ?_
            refine g_goto cx d_1_34_81 rfl ?_
            exact g_loc [0, 2, 3, 4] rfl (ih (j + 1) K h _ _ (by omega) (by omega) (hT.mono (Nat.le_refl _) (by omega)) hE ha hw hrl (by show 2 * (4 - (j + 1)) ≤ rc - 2; omega) (by show 40 * (4 - (j + 1)) ≤ rs - 40; omega))
          · skip
            refine g_aload_n cx 2 d_1_34_49 rfl rfl ?_
            refine g_aload cx 0 d_1_34_50 rfl ?_
            obtain ⟨w52, r52, he52, hw52, hr52⟩ := TP.o (κ := 7) hT hy18
            obtain ⟨nw52, hw52⟩ : ∃ n, Tw k K h w52 n := ⟨_, Tx.tx hw52⟩
            refine g_getf cx (k := 1) d_1_34_52 in7 rfl (by decide) t_801 (Or.inl rfl) hy18.1 he52 rfl ?_
            obtain ⟨la55, lr55, tr55, tn55, he55, hla55, hlr55, htr55, htn55, hlq55, hlaq55⟩ := TP.o (κ := 1) hT ha
            refine g_callV cx (As := [.ref r52]) (n := 1) (tc_noteAsked (T := (T + j)) (by omega)) d_1_34_55 t_840 t_842 ts_22 t_1 t_843 ⟨by decide, by decide, by decide +kernel⟩ rfl (ci := 0) rfl ha.1 he55 ⟨rfl, hT, ha, hr52⟩ ⟨Nat.le_of_ble_eq_true rfl, Nat.le_of_ble_eq_true rfl⟩ (Nat.le_of_ble_eq_true rfl) ⟨Nat.zero_le _, Nat.zero_le _⟩ (fun v55 h r55 => ?_) (fun x55 h r55 => by obtain ⟨K9, -, -, e9⟩ := r55; cases e9)
            obtain ⟨K, hT, ev, rel55⟩ := r55
            cases rel55
            have hy18 := Ev.ty ev hy18
            have ha := Ev.ty ev ha
            have hw := Ev.tx ev hw
            have hrl := Ev.ty ev hrl
            replace hE := Ev.trP hE (xsubI (fun κ z => z.elim Or.inl (fun w => Or.inr (Or.inl w))) ev)
            refine g_aload_n cx 3 d_1_34_58 rfl rfl ?_
            refine g_aload cx 0 d_1_34_59 rfl ?_
            obtain ⟨w61, r61, he61, hw61, hr61⟩ := TP.o (κ := 7) hT hy18
            obtain ⟨nw61, hw61⟩ : ∃ n, Tw k K h w61 n := ⟨_, Tx.tx hw61⟩
            refine g_getf cx (k := 1) d_1_34_61 in7 rfl (by decide) t_801 (Or.inl rfl) hy18.1 he61 rfl ?_
            refine g_callS cx (As := [.ref w, .ref r61]) (n := 2) (tc_lookInItself (n := n) (by omega)) d_1_34_64 t_855 t_856 t_1 t_857 ⟨by decide, by decide, by decide +kernel⟩ rfl ⟨rfl, hT, hw, hr61⟩ ⟨Nat.le_of_ble_eq_true rfl, Nat.le_of_ble_eq_true rfl⟩ (Nat.le_of_ble_eq_true rfl) ⟨Nat.zero_le _, Nat.zero_le _⟩ (fun v64 h r64 => ?_) (fun x64 h r64 => by obtain ⟨K9, -, -, x9, e9⟩ := r64; cases e9)
            obtain ⟨K, hT, ev, rel64⟩ := r64
            obtain ⟨x64, e64⟩ := rel64
            cases e64
            have hy18 := Ev.ty ev hy18
            have ha := Ev.ty ev ha
            have hw := Ev.tx ev hw
            have hrl := Ev.ty ev hrl
            replace hE := Ev.trP hE (xsubI (fun κ z => Or.inr (Or.inr z)) ev)
            refine g_istore cx (lv' := [(5, .int x64), (4, .ref y18), (3, .int (nI j)), (0, .ref a), (1, .ref w), (2, .ref rl)]) d_1_34_67 (by decide) rfl ?_
            refine g_iload cx 0 d_1_34_69 rfl ?_
            refine g_iconst cx (v := (-1)) d_1_34_71 (by decide) ?_
            refine g_icmp_eq cx d_1_34_72 rfl (fun c72 => ?_) (fun c72 => ?_)
            · skip
              refine g_iinc cx 2 (lv' := [(3, .int (nI (j + 1))), (5, .int x64), (4, .ref y18), (0, .ref a), (1, .ref w), (2, .ref rl)]) d_1_34_78 rfl (inc1 j) (by decide) rfl ?_
              refine g_goto cx d_1_34_81 rfl ?_
              exact g_loc [0, 3, 4, 5] rfl (ih (j + 1) K h _ _ (by omega) (by omega) hT hE ha hw hrl (by show 2 * (4 - (j + 1)) ≤ rc - 2 - 0 - 0; omega) (by show 40 * (4 - (j + 1)) ≤ rs - 40 - 0 - 0; omega))
            · skip
              refine g_iload cx 0 d_1_34_75 rfl ?_
              exact g_iret cx d_1_34_77 rfl rfl ⟨K, hT.mono (Nat.le_refl _) (by omega), hE, _, rfl⟩
  refine g_iconst cx (v := 0) d_1_34_0 (by decide) ?_
  refine g_topi (fun j0 ej0 => ?_)
  obtain rfl : j0 = nI 0 := ej0
  refine g_istore_n cx (lv' := [(3, .int (nI 0)), (0, .ref a), (1, .ref w), (2, .ref rl)]) d_1_34_1 rfl (by decide) rfl ?_
  exact lp 5 0 K h _ _ (by omega) (by omega) hT hE ha hw hrl (by show 2 * (4 - 0) ≤ 8; omega) (by show 40 * (4 - 0) ≤ 160; omega)
def HLP (l : Launch) (D : va_G) (z0 : Nat) (k : Nat → Nat) (M r lev c s : Nat) : Prop := ∀ (K : KM) (B T a w n rl dd : Nat) (Gs : Nat → Int32 → Prop), dd + r = 8 → B + r ≤ M → T + 5 * r < 2 ^ 20 → TC l y_152 prog_1_method_36_code 5 (Option.some Jvm.ClassFile.FieldType.int) (rmT lev c s) D z0 k [.ref a, .ref w, .ref rl, .int (nI dd)] K B T (fun h => Ty K h 1 a ∧ Tw k K h w n ∧ Ty K h 6 rl ∧ PG Gs K h) (B + r) (T + 5 * r) (XN K) (fun o K' h' => RetI o K' h' ∧ PG Gs K' h')
def HLF (l : Launch) (D : va_G) (z0 : Nat) (k : Nat → Nat) (M r lev c s : Nat) : Prop := ∀ (K : KM) (B T a w n rl dd : Nat) (Gs : Nat → Int32 → Prop), dd + r = 8 → B + r + 1 ≤ M → T + 5 * r + 5 < 2 ^ 20 → TC l y_145 prog_1_method_32_code 5 (Option.some Jvm.ClassFile.FieldType.int) (rmT lev c s) D z0 k [.ref a, .ref w, .ref rl, .int (nI dd)] K B T (fun h => Ty K h 1 a ∧ Tw k K h w n ∧ Ty K h 6 rl ∧ PG Gs K h) (B + r + 1) (T + 5 * r + 5) (XN K) (fun o K' h' => RetI o K' h' ∧ PG Gs K' h')
set_option maxHeartbeats 8000000 in
theorem tc_LP0 {a w n rl : Nat} : TC l y_152 prog_1_method_36_code 5 (Option.some Jvm.ClassFile.FieldType.int) (rmT 10 0 0) D z0 k [.ref a, .ref w, .ref rl, .int (nI 8)] K (B) (T) (fun h => Ty K h 1 a ∧ Tw k K h w n ∧ Ty K h 6 rl ∧ PG Gs K h) (B) (T) (XN K) (fun o K' h' => RetI o K' h' ∧ PG Gs K' h') := by
  refine tc_of (by decide) (Nat.le_of_ble_eq_true rfl) ?_
  intro h hT hp p e s m args below meth c cx hnm
  have hE : Ev k (XN K) K h K h := Ev.rf
  obtain ⟨ha, hw, hrl, hg⟩ := hp
  refine g_aload_n cx 2 d_1_36_0 rfl rfl ?_
  obtain ⟨n1, b11, b21, b31, w1, lo1, im1, fi1, pa1, he1, hw1, hlo1, him1, hfi1, hpa1, hwq1⟩ := TP.o (κ := 6) hT hrl
  obtain ⟨nw1, hw1⟩ : ∃ n, Tw k K h w1 n := ⟨_, Tx.tx hw1⟩
  refine g_getf cx (k := 5) d_1_36_1 in6 rfl (by decide) t_739 (Or.inl rfl) hrl.1 he1 rfl ?_
  rcases pa1 with _ | y1
  · skip
    refine g_astoreN cx (lv' := [(4, .null), (0, .ref a), (1, .ref w), (2, .ref rl), (3, .int (nI 8))]) d_1_36_4 (by decide) rfl ?_
    refine g_aloadN cx 0 d_1_36_6 rfl ?_
    refine g_ifnullN cx d_1_36_8 rfl ?_
    refine g_iconst cx (v := (-1)) d_1_36_33 (by decide) ?_
    exact g_iret cx d_1_36_34 rfl rfl ⟨K, hT.mono (by omega) (by omega), hE, ⟨_, rfl⟩, hg⟩
  · skip
    have hy1 : Ty K h 6 y1 := hpa1 y1 rfl
    refine g_astore cx (lv' := [(4, .ref y1), (0, .ref a), (1, .ref w), (2, .ref rl), (3, .int (nI 8))]) d_1_36_4 (by decide) rfl ?_
    refine g_aload cx 0 d_1_36_6 rfl ?_
    refine g_ifnull cx d_1_36_8 ?_
    refine g_aload cx 0 d_1_36_11 rfl ?_
    obtain ⟨n13, b113, b213, b313, w13, lo13, im13, fi13, pa13, he13, hw13, hlo13, him13, hfi13, hpa13, hwq13⟩ := TP.o (κ := 6) hT hy1
    obtain ⟨nw13, hw13⟩ : ∃ n, Tw k K h w13 n := ⟨_, Tx.tx hw13⟩
    refine g_getf cx (k := 7) d_1_36_13 in6 rfl (by decide) t_743 (Or.inl rfl) hy1.1 he13 rfl ?_
    refine g_if_ne cx d_1_36_16 rfl (fun c16 => ?_) (fun c16 => ?_)
    · skip
      refine g_iconst cx (v := (-1)) d_1_36_33 (by decide) ?_
      exact g_iret cx d_1_36_34 rfl rfl ⟨K, hT.mono (by omega) (by omega), hE, ⟨_, rfl⟩, hg⟩
    · skip
      refine g_aload cx 0 d_1_36_19 rfl ?_
      refine g_getf cx (k := 8) d_1_36_21 in6 rfl (by decide) t_745 (Or.inl rfl) hy1.1 he13 rfl ?_
      refine g_if_ne cx d_1_36_24 rfl (fun c24 => ?_) (fun c24 => ?_)
      · skip
        refine g_iconst cx (v := (-1)) d_1_36_33 (by decide) ?_
        exact g_iret cx d_1_36_34 rfl rfl ⟨K, hT.mono (by omega) (by omega), hE, ⟨_, rfl⟩, hg⟩
      · skip
        refine g_iload_n cx 4 d_1_36_27 rfl rfl ?_
        refine g_bipush cx (v := 8) d_1_36_28 (by decide) ?_
        refine g_icmp_lt cx d_1_36_30 rfl (fun c30 => absurd c30 (by decide)) (fun c30 => ?_)
        refine g_iconst cx (v := (-1)) d_1_36_33 (by decide) ?_
        exact g_iret cx d_1_36_34 rfl rfl ⟨K, hT.mono (by omega) (by omega), hE, ⟨_, rfl⟩, hg⟩
set_option maxHeartbeats 8000000 in
theorem tc_LPs {a w n rl dd : Nat} (hLF : HLF l D z0 k M r lev cc ss) (hdd : dd + (r + 1) = 8) (hM : B + (r + 1) ≤ M) (hTb : T + 5 * (r + 1) < 2 ^ 20) : TC l y_152 prog_1_method_36_code 5 (Option.some Jvm.ClassFile.FieldType.int) (rmT (lev + 1) cc ss) D z0 k [.ref a, .ref w, .ref rl, .int (nI dd)] K (B) (T) (fun h => Ty K h 1 a ∧ Tw k K h w n ∧ Ty K h 6 rl ∧ PG Gs K h) (B + (r + 1)) (T + 5 * (r + 1)) (XN K) (fun o K' h' => RetI o K' h' ∧ PG Gs K' h') := by
  refine tc_of (by decide) (Nat.le_of_ble_eq_true rfl) ?_
  intro h hT hp p e s m args below meth c cx hnm
  have hE : Ev k (XN K) K h K h := Ev.rf
  obtain ⟨ha, hw, hrl, hg⟩ := hp
  refine g_aload_n cx 2 d_1_36_0 rfl rfl ?_
  obtain ⟨n1, b11, b21, b31, w1, lo1, im1, fi1, pa1, he1, hw1, hlo1, him1, hfi1, hpa1, hwq1⟩ := TP.o (κ := 6) hT hrl
  obtain ⟨nw1, hw1⟩ : ∃ n, Tw k K h w1 n := ⟨_, Tx.tx hw1⟩
  refine g_getf cx (k := 5) d_1_36_1 in6 rfl (by decide) t_739 (Or.inl rfl) hrl.1 he1 rfl ?_
  rcases pa1 with _ | y1
  · skip
    refine g_astoreN cx (lv' := [(4, .null), (0, .ref a), (1, .ref w), (2, .ref rl), (3, .int (nI dd))]) d_1_36_4 (by decide) rfl ?_
    refine g_aloadN cx 0 d_1_36_6 rfl ?_
    refine g_ifnullN cx d_1_36_8 rfl ?_
    refine g_iconst cx (v := (-1)) d_1_36_33 (by decide) ?_
    exact g_iret cx d_1_36_34 rfl rfl ⟨K, hT.mono (by omega) (by omega), hE, ⟨_, rfl⟩, hg⟩
  · skip
    have hy1 : Ty K h 6 y1 := hpa1 y1 rfl
    refine g_astore cx (lv' := [(4, .ref y1), (0, .ref a), (1, .ref w), (2, .ref rl), (3, .int (nI dd))]) d_1_36_4 (by decide) rfl ?_
    refine g_aload cx 0 d_1_36_6 rfl ?_
    refine g_ifnull cx d_1_36_8 ?_
    refine g_aload cx 0 d_1_36_11 rfl ?_
    obtain ⟨n13, b113, b213, b313, w13, lo13, im13, fi13, pa13, he13, hw13, hlo13, him13, hfi13, hpa13, hwq13⟩ := TP.o (κ := 6) hT hy1
    obtain ⟨nw13, hw13⟩ : ∃ n, Tw k K h w13 n := ⟨_, Tx.tx hw13⟩
    refine g_getf cx (k := 7) d_1_36_13 in6 rfl (by decide) t_743 (Or.inl rfl) hy1.1 he13 rfl ?_
    refine g_if_ne cx d_1_36_16 rfl (fun c16 => ?_) (fun c16 => ?_)
    · skip
      refine g_iconst cx (v := (-1)) d_1_36_33 (by decide) ?_
      exact g_iret cx d_1_36_34 rfl rfl ⟨K, hT.mono (by omega) (by omega), hE, ⟨_, rfl⟩, hg⟩
    · skip
      refine g_aload cx 0 d_1_36_19 rfl ?_
      refine g_getf cx (k := 8) d_1_36_21 in6 rfl (by decide) t_745 (Or.inl rfl) hy1.1 he13 rfl ?_
      refine g_if_ne cx d_1_36_24 rfl (fun c24 => ?_) (fun c24 => ?_)
      · skip
        refine g_iconst cx (v := (-1)) d_1_36_33 (by decide) ?_
        exact g_iret cx d_1_36_34 rfl rfl ⟨K, hT.mono (by omega) (by omega), hE, ⟨_, rfl⟩, hg⟩
      · skip
        refine g_iload_n cx 4 d_1_36_27 rfl rfl ?_
        refine g_bipush cx (v := 8) d_1_36_28 (by decide) ?_
        refine g_icmp_lt cx d_1_36_30 rfl (fun c30 => ?_) (fun c30 => ?_)
        · skip
          refine g_aload_n cx 1 d_1_36_35 rfl rfl ?_
          refine g_aload_n cx 2 d_1_36_36 rfl rfl ?_
          refine g_aload cx 0 d_1_36_37 rfl ?_
          refine g_iload_n cx 4 d_1_36_39 rfl rfl ?_
          refine g_iconst cx (v := 1) d_1_36_40 (by decide) ?_
          refine g_iadd cx d_1_36_41 ?_
          refine g_topi (fun m41 em41 => ?_)
          obtain rfl : m41 = nI (dd + 1) := em41.trans (nI_1 dd)
          obtain ⟨la42, lr42, tr42, tn42, he42, hla42, hlr42, htr42, htn42, hlq42, hlaq42⟩ := TP.o (κ := 1) hT ha
          refine g_callV cx (As := [.ref w, .ref y1, .int (nI (dd + 1))]) (n := 3) (hLF K B T a w n y1 (dd + 1) Gs (by omega) (by omega) (by omega)) d_1_36_42 t_830 t_832 ts_21 t_1 t_833 ⟨by decide, by decide, by decide +kernel⟩ rfl (ci := 0) rfl ha.1 he42 ⟨rfl, hT, ha, hw, hy1, hg⟩ ⟨by show lev + 1 ≤ lev + 1; omega, by show 8 + (5 + 11) + 60 * (lev) ≤ 60 * (lev + 1); omega⟩ (Nat.le_of_ble_eq_true rfl) ⟨Nat.le_refl _, Nat.le_refl _⟩ (fun v42 h r42 => ?_) (fun x42 h r42 => by obtain ⟨K9, -, -, ⟨x9, e9⟩, -⟩ := r42; cases e9)
          obtain ⟨K, hT, ev, rel42⟩ := r42
          obtain ⟨⟨x42, e42⟩, hg⟩ := rel42
          cases e42
          have hy1 := Ev.ty ev hy1
          have ha := Ev.ty ev ha
          have hw := Ev.tx ev hw
          have hrl := Ev.ty ev hrl
          replace hE := Ev.trP hE (ev)
          exact g_iret cx d_1_36_45 rfl rfl ⟨K, hT.mono (by omega) (by omega), hE, ⟨_, rfl⟩, hg⟩
        · skip
          refine g_iconst cx (v := (-1)) d_1_36_33 (by decide) ?_
          exact g_iret cx d_1_36_34 rfl rfl ⟨K, hT.mono (by omega) (by omega), hE, ⟨_, rfl⟩, hg⟩
set_option maxHeartbeats 8000000 in
theorem tc_lookInPlaces {a w n rl dd : Nat} (hLP : HLP l D z0 k M r lev cc ss) (hlev : 10 ≤ lev) (hdd : dd + r = 8) (hM : B + r ≤ M) (hMb : M < 2 ^ 17) (hTb : T + 4 + 5 * r < 2 ^ 20) : TC l y_148 prog_1_method_33_code 5 (Option.some Jvm.ClassFile.FieldType.int) (rmT (lev + 1) (cc + 8) (ss + 160)) D z0 k [.ref a, .ref w, .ref rl, .int (nI dd)] K (B) (T) (fun h => Ty K h 1 a ∧ Tw k K h w n ∧ Ty K h 6 rl ∧ PG Gs K h) (B + r) (T + 4 + 5 * r) (XN K) (fun o K' h' => RetI o K' h' ∧ PG Gs K' h') := by
  refine tc_of (by decide) (Nat.le_of_ble_eq_true rfl) ?_
  intro h hT hp p e s m args below meth c cx hnm
  have hE : Ev k (XN K) K h K h := Ev.rf
  obtain ⟨ha, hw, hrl, hg⟩ := hp
  have hB : B < 2 ^ 20 := by omega
  refine g_aload_n cx 0 d_1_33_0 rfl rfl ?_
  refine g_aload_n cx 1 d_1_33_1 rfl rfl ?_
  refine g_aload_n cx 2 d_1_33_2 rfl rfl ?_
  obtain ⟨la3, lr3, tr3, tn3, he3, hla3, hlr3, htr3, htn3, hlq3, hlaq3⟩ := TP.o (κ := 1) hT ha
  refine g_callV cx (As := [.ref w, .ref rl]) (n := 2) (tc_lookInImports (T := T) (n := n) hB (by omega)) d_1_33_3 t_848 t_850 ts_24 t_1 t_851 ⟨by decide, by decide, by decide +kernel⟩ rfl (ci := 0) rfl ha.1 he3 ⟨rfl, hT, ha, hw, hrl⟩ ⟨by show 10 + 1 ≤ lev + 1; omega, by show 8 + (6 + 11) + 60 * (10) ≤ 60 * (lev + 1); omega⟩ (Nat.le_of_ble_eq_true rfl) ⟨by show 8 ≤ cc + 8; omega, by show 160 ≤ ss + 160; omega⟩ (fun v3 h r3 => ?_) (fun x3 h r3 => by obtain ⟨K9, -, -, ⟨x9, e9⟩⟩ := r3; cases e9)
  obtain ⟨K, hT, ev, rel3⟩ := r3
  obtain ⟨x3, e3⟩ := rel3
  cases e3
  replace hg := PG.ev hg ev (x6n (by decide))
  have ha := Ev.ty ev ha
  have hw := Ev.tx ev hw
  have hrl := Ev.ty ev hrl
  replace hE := Ev.trP hE (xsub (fun κ z => by rcases z with z | z | z <;> rw [z] <;> decide) ev)
  refine g_istore cx (lv' := [(4, .int x3), (0, .ref a), (1, .ref w), (2, .ref rl), (3, .int (nI dd))]) d_1_33_6 (by decide) rfl ?_
  refine g_iload cx 0 d_1_33_8 rfl ?_
  refine g_iconst cx (v := (-1)) d_1_33_10 (by decide) ?_
  refine g_icmp_ne cx d_1_33_11 rfl (fun c11 => ?_) (fun c11 => ?_)
  · skip
    refine g_iload cx 0 d_1_33_38 rfl ?_
    refine g_iconst cx (v := (-1)) d_1_33_40 (by decide) ?_
    refine g_icmp_ne cx d_1_33_41 rfl (fun c41 => ?_) (fun c41 => absurd c41 c11)
    refine g_iload cx 0 d_1_33_68 rfl ?_
    exact g_iret cx d_1_33_70 rfl rfl ⟨K, hT.mono (by omega) (by omega), hE, ⟨_, rfl⟩, hg⟩
  · skip
    refine g_aload_n cx 3 d_1_33_14 rfl rfl ?_
    obtain ⟨n15, b115, b215, b315, w15, lo15, im15, fi15, pa15, he15, hw15, hlo15, him15, hfi15, hpa15, hwq15⟩ := TP.o (κ := 6) hT hrl
    obtain ⟨nw15, hw15⟩ : ∃ n, Tw k K h w15 n := ⟨_, Tx.tx hw15⟩
    refine g_getf cx (k := 6) d_1_33_15 in6 rfl (by decide) t_741 (Or.inl rfl) hrl.1 he15 rfl ?_
    refine g_if_eq cx d_1_33_18 rfl (fun c18 => ?_) (fun c18 => ?_)
    · skip
      refine g_aload_n cx 2 d_1_33_31 rfl rfl ?_
      refine g_aload_n cx 3 d_1_33_32 rfl rfl ?_
      refine g_callS cx (As := [.ref w, .ref rl]) (n := 2) (tc_lookInItself (n := n) hB) d_1_33_33 t_855 t_856 t_1 t_857 ⟨by decide, by decide, by decide +kernel⟩ rfl ⟨rfl, hT, hw, hrl⟩ ⟨by show 7 + 1 ≤ lev + 1; omega, by show 8 + (4 + 11) + 60 * (7) ≤ 60 * (lev + 1); omega⟩ (Nat.le_of_ble_eq_true rfl) ⟨Nat.zero_le _, Nat.zero_le _⟩ (fun v33 h r33 => ?_) (fun x33 h r33 => by obtain ⟨K9, -, -, x9, e9⟩ := r33; cases e9)
      obtain ⟨K, hT, ev, rel33⟩ := r33
      obtain ⟨x33, e33⟩ := rel33
      cases e33
      replace hg := PG.ev hg ev (x6n (by decide))
      have ha := Ev.ty ev ha
      have hw := Ev.tx ev hw
      have hrl := Ev.ty ev hrl
      replace hE := Ev.trP hE (xsub (fun κ z => by rw [z]; decide) ev)
      refine g_istore cx (lv' := [(4, .int x33), (0, .ref a), (1, .ref w), (2, .ref rl), (3, .int (nI dd))]) d_1_33_36 (by decide) rfl ?_
      refine g_iload cx 0 d_1_33_38 rfl ?_
      refine g_iconst cx (v := (-1)) d_1_33_40 (by decide) ?_
      refine g_icmp_ne cx d_1_33_41 rfl (fun c41 => ?_) (fun c41 => ?_)
      · skip
        refine g_iload cx 0 d_1_33_68 rfl ?_
        exact g_iret cx d_1_33_70 rfl rfl ⟨K, hT.mono (by omega) (by omega), hE, ⟨_, rfl⟩, hg⟩
      · skip
        refine g_aload_n cx 3 d_1_33_44 rfl rfl ?_
        obtain ⟨n45, b145, b245, b345, w45, lo45, im45, fi45, pa45, he45, hw45, hlo45, him45, hfi45, hpa45, hwq45⟩ := TP.o (κ := 6) hT hrl
        obtain ⟨nw45, hw45⟩ : ∃ n, Tw k K h w45 n := ⟨_, Tx.tx hw45⟩
        refine g_getf cx (k := 6) d_1_33_45 in6 rfl (by decide) t_741 (Or.inl rfl) hrl.1 he45 rfl ?_
        refine g_if_eq cx d_1_33_48 rfl (fun c48 => ?_) (fun c48 => ?_)
        · skip
          refine g_aload_n cx 1 d_1_33_59 rfl rfl ?_
          refine g_aload_n cx 2 d_1_33_60 rfl rfl ?_
          refine g_aload_n cx 3 d_1_33_61 rfl rfl ?_
          refine g_iload_n cx 4 d_1_33_62 rfl rfl ?_
          obtain ⟨la63, lr63, tr63, tn63, he63, hla63, hlr63, htr63, htn63, hlq63, hlaq63⟩ := TP.o (κ := 1) hT ha
          refine g_callV cx (As := [.ref w, .ref rl, .int (nI dd)]) (n := 3) (hLP K B (T + 4) a w n rl dd (Gs) (by omega) (by omega) (by omega)) d_1_33_63 t_858 t_860 ts_25 t_1 t_861 ⟨by decide, by decide, by decide +kernel⟩ rfl (ci := 0) rfl ha.1 he63 ⟨rfl, hT, ha, hw, hrl, hg⟩ ⟨by show lev + 1 ≤ lev + 1; omega, by show 8 + (5 + 11) + 60 * (lev) ≤ 60 * (lev + 1); omega⟩ (Nat.le_of_ble_eq_true rfl) ⟨by show cc ≤ cc + 8 - 8 - 0; omega, by show ss ≤ ss + 160 - 160 - 0; omega⟩ (fun v63 h r63 => ?_) (fun x63 h r63 => by obtain ⟨K9, -, -, ⟨x9, e9⟩, -⟩ := r63; cases e9)
          obtain ⟨K, hT, ev, rel63⟩ := r63
          obtain ⟨⟨x63, e63⟩, hg⟩ := rel63
          cases e63
          have ha := Ev.ty ev ha
          have hw := Ev.tx ev hw
          have hrl := Ev.ty ev hrl
          replace hE := Ev.trP hE (ev)
          refine g_istore cx (lv' := [(4, .int x63), (0, .ref a), (1, .ref w), (2, .ref rl), (3, .int (nI dd))]) d_1_33_66 (by decide) rfl ?_
          refine g_iload cx 0 d_1_33_68 rfl ?_
          exact g_iret cx d_1_33_70 rfl rfl ⟨K, hT.mono (by omega) (by omega), hE, ⟨_, rfl⟩, hg⟩
        · skip
          refine g_aload_n cx 2 d_1_33_51 rfl rfl ?_
          refine g_aload_n cx 3 d_1_33_52 rfl rfl ?_
          refine g_callS cx (As := [.ref w, .ref rl]) (n := 2) (tc_lookInItself (n := n) hB) d_1_33_53 t_855 t_856 t_1 t_857 ⟨by decide, by decide, by decide +kernel⟩ rfl ⟨rfl, hT, hw, hrl⟩ ⟨by show 7 + 1 ≤ lev + 1; omega, by show 8 + (4 + 11) + 60 * (7) ≤ 60 * (lev + 1); omega⟩ (Nat.le_of_ble_eq_true rfl) ⟨Nat.zero_le _, Nat.zero_le _⟩ (fun v53 h r53 => ?_) (fun x53 h r53 => by obtain ⟨K9, -, -, x9, e9⟩ := r53; cases e9)
          obtain ⟨K, hT, ev, rel53⟩ := r53
          obtain ⟨x53, e53⟩ := rel53
          cases e53
          replace hg := PG.ev hg ev (x6n (by decide))
          have ha := Ev.ty ev ha
          have hw := Ev.tx ev hw
          have hrl := Ev.ty ev hrl
          replace hE := Ev.trP hE (xsub (fun κ z => by rw [z]; decide) ev)
          refine g_goto cx d_1_33_56 rfl ?_
          refine g_istore cx (lv' := [(4, .int x53), (0, .ref a), (1, .ref w), (2, .ref rl), (3, .int (nI dd))]) d_1_33_66 (by decide) rfl ?_
          refine g_iload cx 0 d_1_33_68 rfl ?_
          exact g_iret cx d_1_33_70 rfl rfl ⟨K, hT.mono (by omega) (by omega), hE, ⟨_, rfl⟩, hg⟩
    · skip
      refine g_aload_n cx 1 d_1_33_21 rfl rfl ?_
      refine g_aload_n cx 2 d_1_33_22 rfl rfl ?_
      refine g_aload_n cx 3 d_1_33_23 rfl rfl ?_
      refine g_iload_n cx 4 d_1_33_24 rfl rfl ?_
      obtain ⟨la25, lr25, tr25, tn25, he25, hla25, hlr25, htr25, htn25, hlq25, hlaq25⟩ := TP.o (κ := 1) hT ha
      refine g_callV cx (As := [.ref w, .ref rl, .int (nI dd)]) (n := 3) (hLP K B (T + 4) a w n rl dd (fun z x => Gs z x ∨ (z = rl ∧ x = b115)) (by omega) (by omega) (by omega)) d_1_33_25 t_858 t_860 ts_25 t_1 t_861 ⟨by decide, by decide, by decide +kernel⟩ rfl (ci := 0) rfl ha.1 he25 ⟨rfl, hT, ha, hw, hrl, (hg.more hrl he15)⟩ ⟨by show lev + 1 ≤ lev + 1; omega, by show 8 + (5 + 11) + 60 * (lev) ≤ 60 * (lev + 1); omega⟩ (Nat.le_of_ble_eq_true rfl) ⟨by show cc ≤ cc + 8 - 8; omega, by show ss ≤ ss + 160 - 160; omega⟩ (fun v25 h r25 => ?_) (fun x25 h r25 => by obtain ⟨K9, -, -, ⟨x9, e9⟩, -⟩ := r25; cases e9)
      obtain ⟨K, hT, ev, rel25⟩ := r25
      obtain ⟨⟨x25, e25⟩, hg2⟩ := rel25
      cases e25
      have ha := Ev.ty ev ha
      have hw := Ev.tx ev hw
      have hrl := Ev.ty ev hrl
      have hpf := (hg2 rl b115 (Or.inr ⟨rfl, rfl⟩)).2
      replace hg : PG Gs K h := fun z x q => hg2 z x (Or.inl q)
      replace hE := Ev.trP hE (ev)
      refine g_goto cx d_1_33_28 rfl ?_
      refine g_istore cx (lv' := [(4, .int x25), (0, .ref a), (1, .ref w), (2, .ref rl), (3, .int (nI dd))]) d_1_33_36 (by decide) rfl ?_
      refine g_iload cx 0 d_1_33_38 rfl ?_
      refine g_iconst cx (v := (-1)) d_1_33_40 (by decide) ?_
      refine g_icmp_ne cx d_1_33_41 rfl (fun c41 => ?_) (fun c41 => ?_)
      · skip
        refine g_iload cx 0 d_1_33_68 rfl ?_
        exact g_iret cx d_1_33_70 rfl rfl ⟨K, hT.mono (by omega) (by omega), hE, ⟨_, rfl⟩, hg⟩
      · skip
        refine g_aload_n cx 3 d_1_33_44 rfl rfl ?_
        obtain ⟨n45, b145, b245, b345, w45, lo45, im45, fi45, pa45, he45, hw45, hlo45, him45, hfi45, hpa45, hwq45⟩ := TP.o (κ := 6) hT hrl
        obtain ⟨nw45, hw45⟩ : ∃ n, Tw k K h w45 n := ⟨_, Tx.tx hw45⟩
        refine g_getf cx (k := 6) d_1_33_45 in6 rfl (by decide) t_741 (Or.inl rfl) hrl.1 he45 rfl ?_
        refine g_if_eq cx d_1_33_48 rfl (fun c48 => absurd c48 (fun z => c18 ((Pf.eq hpf he45).trans z))) (fun c48 => ?_)
        refine g_aload_n cx 2 d_1_33_51 rfl rfl ?_
        refine g_aload_n cx 3 d_1_33_52 rfl rfl ?_
        refine g_callS cx (As := [.ref w, .ref rl]) (n := 2) (tc_lookInItself (n := n) (by omega)) d_1_33_53 t_855 t_856 t_1 t_857 ⟨by decide, by decide, by decide +kernel⟩ rfl ⟨rfl, hT, hw, hrl⟩ ⟨by show 7 + 1 ≤ lev + 1; omega, by show 8 + (4 + 11) + 60 * (7) ≤ 60 * (lev + 1); omega⟩ (Nat.le_of_ble_eq_true rfl) ⟨Nat.zero_le _, Nat.zero_le _⟩ (fun v53 h r53 => ?_) (fun x53 h r53 => by obtain ⟨K9, -, -, x9, e9⟩ := r53; cases e9)
        obtain ⟨K, hT, ev, rel53⟩ := r53
        obtain ⟨x53, e53⟩ := rel53
        cases e53
        replace hg := PG.ev hg ev (x6n (by decide))
        have ha := Ev.ty ev ha
        have hw := Ev.tx ev hw
        have hrl := Ev.ty ev hrl
        replace hE := Ev.trP hE (xsub (fun κ z => by rw [z]; decide) ev)
        refine g_goto cx d_1_33_56 rfl ?_
        refine g_istore cx (lv' := [(4, .int x53), (0, .ref a), (1, .ref w), (2, .ref rl), (3, .int (nI dd))]) d_1_33_66 (by decide) rfl ?_
        refine g_iload cx 0 d_1_33_68 rfl ?_
        exact g_iret cx d_1_33_70 rfl rfl ⟨K, hT.mono (by omega) (by omega), hE, ⟨_, rfl⟩, hg⟩
set_option maxHeartbeats 8000000 in
theorem tc_lookFor {a w n rl dd : Nat} (hLP : HLP l D z0 k M r lev cc ss) (hlev : 10 ≤ lev) (hdd : dd + r = 8) (hM : B + r + 1 ≤ M) (hMb : M < 2 ^ 17) (hTb : T + 5 * r + 5 < 2 ^ 20) : TC l y_145 prog_1_method_32_code 5 (Option.some Jvm.ClassFile.FieldType.int) (rmT (lev + 2) (cc + 10) (ss + (M + M / 2 + 180))) D z0 k [.ref a, .ref w, .ref rl, .int (nI dd)] K (B) (T) (fun h => Ty K h 1 a ∧ Tw k K h w n ∧ Ty K h 6 rl ∧ PG Gs K h) (B + r + 1) (T + 5 * r + 5) (XN K) (fun o K' h' => RetI o K' h' ∧ PG Gs K' h') := by
  refine tc_of (by decide) (Nat.le_of_ble_eq_true rfl) ?_
  intro h hT hp p e s m args below meth c cx hnm
  have hE : Ev k (XN K) K h K h := Ev.rf
  obtain ⟨ha, hw, hrl, hg⟩ := hp
  have hB : B < 2 ^ 20 := by omega
  refine g_aload_n cx 2 d_1_32_0 rfl rfl ?_
  refine g_aload_n cx 1 d_1_32_1 rfl rfl ?_
  obtain ⟨n2, b12, b22, b32, w2, lo2, im2, fi2, pa2, he2, hw2, hlo2, him2, hfi2, hpa2, hwq2⟩ := TP.o (κ := 6) hT hrl
  obtain ⟨nw2, hw2⟩ : ∃ n, Tw k K h w2 n := ⟨_, Tx.tx hw2⟩
  refine g_callV cx (As := [.ref w]) (n := 1) (pt_kept (K := K) (B := B) (T := T) (n := n) hB) d_1_32_2 t_834 t_835 t_836 t_25 t_837 ⟨by decide, by decide, by decide +kernel⟩ rfl (ci := 6) rfl hrl.1 he2 ⟨rfl, hT, hrl, hw⟩ ⟨by show 6 + 1 ≤ lev + 2; omega, by show 8 + (3 + 11) + 60 * (6) ≤ 60 * (lev + 2); omega⟩ (Nat.le_of_ble_eq_true rfl) ⟨Nat.zero_le _, Nat.zero_le _⟩ (fun v2 h r2 => ?_) (fun x2 h r2 => by obtain ⟨-, v9, e9, -⟩ := r2; cases e9)
  obtain ⟨rfl, wo2, e2, r2⟩ := r2
  cases e2
  obtain ⟨x2, rfl⟩ := r2
  refine g_istore cx (lv' := [(4, .int x2), (0, .ref a), (1, .ref w), (2, .ref rl), (3, .int (nI dd))]) d_1_32_5 (by decide) rfl ?_
  refine g_iload cx 0 d_1_32_7 rfl ?_
  refine g_iconst cx (v := (-1)) d_1_32_9 (by decide) ?_
  refine g_icmp_eq cx d_1_32_10 rfl (fun c10 => ?_) (fun c10 => ?_)
  · skip
    refine g_aload_n cx 1 d_1_32_16 rfl rfl ?_
    refine g_aload_n cx 3 d_1_32_17 rfl rfl ?_
    obtain ⟨la18, lr18, tr18, tn18, he18, hla18, hlr18, htr18, htn18, hlq18, hlaq18⟩ := TP.o (κ := 1) hT ha
    refine g_callV cx (As := [.ref rl]) (n := 1) (tc_noteAsked (T := T) (by omega)) d_1_32_18 t_840 t_842 ts_22 t_1 t_843 ⟨by decide, by decide, by decide +kernel⟩ rfl (ci := 0) rfl ha.1 he18 ⟨rfl, hT, ha, hrl⟩ ⟨by show 0 + 1 ≤ lev + 2; omega, by show 8 + (2 + 11) + 60 * (0) ≤ 60 * (lev + 2); omega⟩ (Nat.le_of_ble_eq_true rfl) ⟨Nat.zero_le _, Nat.zero_le _⟩ (fun v18 h r18 => ?_) (fun x18 h r18 => by obtain ⟨K9, -, -, e9⟩ := r18; cases e9)
    obtain ⟨K, hT, ev, rel18⟩ := r18
    cases rel18
    replace hg := PG.ev hg ev (x6n (by decide))
    have ha := Ev.ty ev ha
    have hw := Ev.tx ev hw
    have hrl := Ev.ty ev hrl
    replace hE := Ev.trP hE (xsub (fun κ z => z.elim (fun w => by rw [w]; decide) (fun w => by rw [w]; decide)) ev)
    refine g_aload_n cx 3 d_1_32_21 rfl rfl ?_
    refine g_iconst cx (v := 1) d_1_32_22 (by decide) ?_
    obtain ⟨n23, b123, b223, b323, w23, lo23, im23, fi23, pa23, he23, hw23, hlo23, him23, hfi23, hpa23, hwq23⟩ := TP.o (κ := 6) hT hrl
    obtain ⟨nw23, hw23⟩ : ∃ n, Tw k K h w23 n := ⟨_, Tx.tx hw23⟩
    refine g_putf cx d_1_32_23 in6 ty6_ok nm6 rfl (k := 8) (by decide) t_745 (Or.inl rfl) rfl (ty6_ok 8 (by decide)) rfl rfl hrl.1 he23 (Nat.le_of_ble_eq_true rfl) ?_
    refine t_put hT hrl (okcO hrl.2 (Or.inl (by decide)) ⟨n23, b123, b223, 1, w23, lo23, im23, fi23, pa23, rfl, hw23.tx, hlo23, him23, hfi23, hpa23, hwq23⟩) (fun h hT ev he23p => ?_)
    replace hg := PG.put hg he23 ev he23p
    have ha := Ev.ty ev ha
    have hw := Ev.tx ev hw
    have hrl := Ev.ty ev hrl
    replace hE := Ev.tr1 hE (Or.inr (by show PN (K rl).1; rw [hrl.2]; decide)) ev
    refine g_aload_n cx 1 d_1_32_26 rfl rfl ?_
    refine g_aload_n cx 2 d_1_32_27 rfl rfl ?_
    refine g_aload_n cx 3 d_1_32_28 rfl rfl ?_
    refine g_iload_n cx 4 d_1_32_29 rfl rfl ?_
    obtain ⟨la30, lr30, tr30, tn30, he30, hla30, hlr30, htr30, htn30, hlq30, hlaq30⟩ := TP.o (κ := 1) hT ha
    refine g_callV cx (As := [.ref w, .ref rl, .int (nI dd)]) (n := 3) (tc_lookInPlaces (K := K) (B := B) (T := T + 1) (Gs := Gs) (n := n) hLP hlev (by omega) (by omega) (by omega) (by omega)) d_1_32_30 t_844 t_846 ts_23 t_1 t_847 ⟨by decide, by decide, by decide +kernel⟩ rfl (ci := 0) rfl ha.1 he30 ⟨rfl, hT, ha, hw, hrl, hg⟩ ⟨by show lev + 1 + 1 ≤ lev + 2; omega, by show 8 + (5 + 11) + 60 * (lev + 1) ≤ 60 * (lev + 2); omega⟩ (Nat.le_of_ble_eq_true rfl) ⟨by show cc + 8 ≤ cc + 10 - 0 - 0; omega, by show ss + 160 ≤ ss + (M + M / 2 + 180) - 0 - 0; omega⟩ (fun v30 h r30 => ?_) (fun x30 h r30 => by obtain ⟨K9, -, -, ⟨x9, e9⟩, -⟩ := r30; cases e9)
    obtain ⟨K, hT, ev, rel30⟩ := r30
    obtain ⟨⟨x30, e30⟩, hg⟩ := rel30
    cases e30
    have ha := Ev.ty ev ha
    have hw := Ev.tx ev hw
    have hrl := Ev.ty ev hrl
    replace hE := Ev.trP hE (ev)
    refine g_istore cx (lv' := [(4, .int x30), (0, .ref a), (1, .ref w), (2, .ref rl), (3, .int (nI dd))]) d_1_32_33 (by decide) rfl ?_
    refine g_aload_n cx 3 d_1_32_35 rfl rfl ?_
    refine g_iconst cx (v := 0) d_1_32_36 (by decide) ?_
    obtain ⟨n37, b137, b237, b337, w37, lo37, im37, fi37, pa37, he37, hw37, hlo37, him37, hfi37, hpa37, hwq37⟩ := TP.o (κ := 6) hT hrl
    obtain ⟨nw37, hw37⟩ : ∃ n, Tw k K h w37 n := ⟨_, Tx.tx hw37⟩
    refine g_putf cx d_1_32_37 in6 ty6_ok nm6 rfl (k := 8) (by decide) t_745 (Or.inl rfl) rfl (ty6_ok 8 (by decide)) rfl rfl hrl.1 he37 (Nat.le_of_ble_eq_true rfl) ?_
    refine t_put hT hrl (okcO hrl.2 (Or.inl (by decide)) ⟨n37, b137, b237, 0, w37, lo37, im37, fi37, pa37, rfl, hw37.tx, hlo37, him37, hfi37, hpa37, hwq37⟩) (fun h hT ev he37p => ?_)
    replace hg := PG.put hg he37 ev he37p
    have ha := Ev.ty ev ha
    have hw := Ev.tx ev hw
    have hrl := Ev.ty ev hrl
    replace hE := Ev.tr1 hE (Or.inr (by show PN (K rl).1; rw [hrl.2]; decide)) ev
    refine g_iload cx 0 d_1_32_40 rfl ?_
    refine g_iconst cx (v := (-1)) d_1_32_42 (by decide) ?_
    refine g_icmp_eq cx d_1_32_43 rfl (fun c43 => ?_) (fun c43 => ?_)
    · skip
      refine g_iload cx 0 d_1_32_64 rfl ?_
      exact g_iret cx d_1_32_66 rfl rfl ⟨K, hT.mono (by omega) (by omega), hE, ⟨_, rfl⟩, hg⟩
    · skip
      refine g_aload_n cx 3 d_1_32_46 rfl rfl ?_
      obtain ⟨n47, b147, b247, b347, w47, lo47, im47, fi47, pa47, he47, hw47, hlo47, him47, hfi47, hpa47, hwq47⟩ := TP.o (κ := 6) hT hrl
      obtain ⟨nw47, hw47⟩ : ∃ n, Tw k K h w47 n := ⟨_, Tx.tx hw47⟩
      refine g_getf cx (k := 4) d_1_32_47 in6 rfl (by decide) t_737 (Or.inl rfl) hrl.1 he47 rfl ?_
      obtain ⟨-, hb47⟩ := TP.n28 hT hfi47
      obtain ⟨nf, hnf⟩ : ∃ nf, (K fi47).2.2 = nf := ⟨_, rfl⟩
      rw [hnf] at hb47
      replace hT := TP.mono (B' := B + r + 1) (by omega) (Nat.le_refl _) hT
      refine g_new cx (ci := 8) (fs := [.null, .int 0]) d_1_32_50 in8 ty8_ok t_862 t_863 t_27 rfl (by decide) ⟨by show 1 ≤ cc + 10 - 0 - 0 - (cc + 8); omega, by show 2 ≤ ss + (M + M / 2 + 180) - 0 - 0 - (ss + 160); omega⟩ (fun q50 hq50 hz50 => ?_)
      have hN50 := Ev.nin hE hq50
      have ne_50_fi47 : ¬ fi47 = q50 := fun z => hq50 (z ▸ hfi47.1)
      refine t_raw hT hq50 hz50 (fun K h hT ev hr50 hm50 he50 hol50 => ?_)
      replace hg := PG.ev hg ev (fun _ _ => id)
      replace hnf := (congrArg (fun z => z.2.2) ((ev.1 fi47 hfi47.1).2.2 id).1).trans hnf
      have ha := Ev.ty ev ha
      have hw := Ev.tx ev hw
      have hrl := Ev.ty ev hrl
      have hfi47 := Ev.ty ev hfi47
      replace hE := hE.tr ev
      refine g_dup cx d_1_32_53 rfl ?_
      refine g_aload_n cx 2 d_1_32_54 rfl rfl ?_
      refine g_iload cx 0 d_1_32_55 rfl ?_
      refine g_callI cx (ret' := none) (As := [.ref w, .int x30]) (n := 2) (tc_find (n := n)) d_1_32_57 t_864 t_865 t_27 t_866 rfl ⟨by decide, by decide, by decide +kernel⟩ rfl ⟨rfl, hT, ⟨⟨hr50, hm50, he50⟩, hw⟩⟩ ⟨Nat.le_of_ble_eq_true rfl, Nat.le_of_ble_eq_true rfl⟩ (Nat.le_of_ble_eq_true rfl) ⟨Nat.zero_le _, Nat.zero_le _⟩ (fun v57 h r57 => ?_) (fun x57 h r57 => by obtain ⟨K9, -, -, e9⟩ := r57; cases e9.1)
      obtain ⟨K, hT, ev, rel57⟩ := r57
      obtain ⟨e57, hn57, hnw57, hnz57⟩ := rel57
      cases e57
      replace hg := PG.ev hg ev (fun z hz y => by have y2 : z = q50 := y; rw [y2, hr50] at hz; exact absurd hz (by decide))
      replace hnf := (congrArg (fun z => z.2.2) ((ev.1 fi47 hfi47.1).2.2 ne_50_fi47).1).trans hnf
      have ha := Ev.ty ev ha
      have hw := Ev.tx ev hw
      have hrl := Ev.ty ev hrl
      have hfi47 := Ev.ty ev hfi47
      replace hE := hE.trN hN50 ev
      obtain ⟨⟨ea60, mo60, hm60, hl60⟩, hb60⟩ := TP.n28 hT hfi47
      refine g_callV cx (As := [.ref q50]) (n := 1) (tj_add (B := B + r + 1) (n := nf) (ce := 8) (g := (M + M / 2 + 12)) (by decide) (by rw [show bd (8 + 20) (B + r + 1) = (B + r + 1) from rfl]; omega) (by omega) (by rw [show bd (8 + 20) (B + r + 1) = (B + r + 1) from rfl]; omega)) d_1_32_60 t_571 t_572 t_573 t_8 t_574 ⟨by decide, by decide, by decide +kernel⟩ rfl (ci := 2) rfl hm60 hl60 ⟨rfl, hT, hfi47, hn57, hnf⟩ ⟨by show 9 + 1 ≤ lev + 2; omega, by show 8 + (2 + 11) + 60 * (9) ≤ 60 * (lev + 2); omega⟩ (Nat.le_of_ble_eq_true rfl) ⟨by show 1 ≤ cc + 10 - 0 - 0 - (cc + 8) - 1 - 0; omega, by show M + M / 2 + 12 ≤ ss + (M + M / 2 + 180) - 0 - 0 - (ss + 160) - 2 - 0; omega⟩ (fun v60 h r60 => ?_) (fun x60 h r60 => by obtain ⟨K9, -, -, e9, -⟩ := r60; cases e9)
      obtain ⟨K, hT, ev, e60, hnew60⟩ := r60
      cases e60
      have evr := ev
      replace ev := xn_add (e := X0) (ce := 8) (by decide) hfi47 ev
      replace hg := PG.ev hg evr (x6a (by decide) hfi47)
      have ha := Ev.ty ev ha
      have hw := Ev.tx ev hw
      have hrl := Ev.ty ev hrl
      replace hE := Ev.trP hE ev
      refine g_pop cx d_1_32_63 rfl ?_
      refine g_iload cx 0 d_1_32_64 rfl ?_
      exact g_iret cx d_1_32_66 rfl rfl ⟨K, hT.mono (by omega) (by omega), hE, ⟨_, rfl⟩, hg⟩
  · skip
    refine g_iload cx 0 d_1_32_13 rfl ?_
    exact g_iret cx d_1_32_15 rfl rfl ⟨K, hT.mono (by omega) (by omega), hE, ⟨_, rfl⟩, hg⟩
theorem hlp0 : HLP l D z0 k M 0 10 0 0 := by
  intro K B T a w n rl dd Gs hd hM hT
  obtain rfl : dd = 8 := by omega
  exact tc_LP0
theorem hlps (h : HLF l D z0 k M r lev cc ss) : HLP l D z0 k M (r + 1) (lev + 1) cc ss := fun K B T a w n rl dd Gs hd hM hT => tc_LPs h hd hM hT
theorem hlf (hM : M < 2 ^ 17) (h : HLP l D z0 k M r lev cc ss) (hlev : 10 ≤ lev) : HLF l D z0 k M r (lev + 2) (cc + 10) (ss + (M + M / 2 + 180)) := fun K B T a w n rl dd Gs hd hM2 hT => tc_lookFor h hlev hd hM2 hM hT
theorem hlf7 (hM : M < 2 ^ 17) : HLF l D z0 k M 7 33 80 (8 * (M + M / 2 + 180)) := by
  have h7 := hlf hM (hlps (hlf hM (hlps (hlf hM (hlps (hlf hM (hlps (hlf hM (hlps (hlf hM (hlps (hlf hM (hlps (hlf hM (hlp0 (l := l) (D := D) (z0 := z0) (k := k) (M := M)) (by omega))) (by omega))) (by omega))) (by omega))) (by omega))) (by omega))) (by omega))) (by omega)
  have e : 0 + (M + M / 2 + 180) + (M + M / 2 + 180) + (M + M / 2 + 180) + (M + M / 2 + 180) + (M + M / 2 + 180) + (M + M / 2 + 180) + (M + M / 2 + 180) + (M + M / 2 + 180) = 8 * (M + M / 2 + 180) := by omega
  rw [e] at h7
  exact h7
def lookS (B : Nat) : Nat := 1500 + 8 * (B + 8 + (B + 8) / 2 + 180)
set_option maxHeartbeats 8000000 in
theorem tc_look0 {S : Nat → Prop} {a ab v c0 cap cd : Nat} {v0 : Int32} (hc0 : c0 = 0) (hB : B < 2 ^ 16) (htr : l.stackTraces = false) : TC l y_144 prog_1_method_4_code 4 (Option.some Jvm.ClassFile.FieldType.int) (rmT 34 66 1500) D z0 k [.ref a, .int v0] K (B) (T) (fun h => Ty K h 1 a ∧ (K a).2.1 = ab ∧ BK D K h S ab v c0 cap cd) (B) (T) (XP (fun z => z = ab) PN K) (RL D S S2 ab) := by
  refine tc_of (by decide) (Nat.le_of_ble_eq_true rfl) ?_
  intro h hT hp p e s m args below meth c cx hnm
  have hE : Ev k (XP (fun z => z = ab) PN K) K h K h := Ev.rf
  have hB17 := hB
  replace hB : B < 2 ^ 20 := Nat.lt_trans hB (by decide)
  obtain ⟨ha, hab0, hbk⟩ := hp
  refine g_aload_n cx 0 d_1_4_0 rfl rfl ?_
  obtain ⟨la9, lr9, tr9, tn9, hed, -⟩ := TP.desk hT ha hab0
  refine g_callV cx (As := []) (n := 0) (tc_takeWritten (S := S) (ab := ab) (c0 := c0) (v := v) (cap := cap)) d_1_4_1 t_265 t_267 ts_1 t_1 t_268 ⟨by decide, by decide, by decide +kernel⟩ rfl (ci := 0) rfl ha.1 hed ⟨rfl, hT, ha, hab0, hbk⟩ ⟨Nat.le_of_ble_eq_true rfl, Nat.le_of_ble_eq_true rfl⟩ (Nat.le_of_ble_eq_true rfl) ⟨Nat.le_of_ble_eq_true rfl, Nat.le_of_ble_eq_true rfl⟩ (fun v1 h r1 => ?_) (fun x1 h r1 => by obtain ⟨K9, -, -, r9, v9, c9, e9, -⟩ := r1; cases e9)
  obtain ⟨K, hT, ev, rel1⟩ := r1
  obtain ⟨z1, v2, cap2, e1, hx1, hbk⟩ := rel1
  cases e1
  have hxt1 := hx1.1
  replace hab0 := Ev.ab ev ha hab0
  replace ha := Ev.ty ev ha
  replace hE := xab (P := PN) ev
  refine g_astore_n cx (lv' := [(2, .ref z1), (0, .ref a), (1, .int v0)]) d_1_4_4 rfl (by decide) rfl ?_
  refine g_aload_n cx 1 d_1_4_5 rfl rfl ?_
  refine g_iload_n cx 2 d_1_4_6 rfl rfl ?_
  obtain ⟨la7, lr7, tr7, tn7, he7, hla7, hlr7, htr7, htn7, hlq7, hlaq7⟩ := TP.desk hT ha hab0
  refine g_callV cx (As := [.int v0]) (n := 1) (pt_isThere (K := K) (B := B) (T := T) (ab := ab) (la := la7) (lr := lr7) (tr := tr7) (t := tn7) (v0 := v0) hB) d_1_4_7 t_231 t_233 ts_0 t_1 t_234 ⟨by decide, by decide, by decide +kernel⟩ rfl (ci := 0) rfl ha.1 he7 ⟨rfl, hT, ha.1, he7, hla7, hlr7, htr7⟩ ⟨Nat.le_of_ble_eq_true rfl, Nat.le_of_ble_eq_true rfl⟩ (Nat.le_of_ble_eq_true rfl) ⟨Nat.zero_le _, Nat.zero_le _⟩ (fun v7 h r7 => ?_) (fun x7 h r7 => by obtain ⟨-, v9, e9, -⟩ := r7; cases e9)
  obtain ⟨rfl, wo7, e7, r7⟩ := r7
  cases e7
  obtain ⟨x7, rfl, xj7⟩ := r7
  refine g_if_eq cx d_1_4_10 rfl (fun c10 => ?_) (fun c10 => ?_)
  · skip
    exact t_iae cx htr d_1_4_20 d_1_4_23 d_1_4_24 d_1_4_27  ⟨Nat.le_of_ble_eq_true rfl, Nat.le_of_ble_eq_true rfl⟩ (Nat.le_of_ble_eq_true rfl) ⟨Nat.le_of_ble_eq_true rfl, Nat.le_of_ble_eq_true rfl⟩ (fun x hx hz => lineOutN hE hbk (thrX (S := S2) (Or.inl rfl) (hT.mono (by omega) (by omega)) (Ev.rf (X := XN K)) hx hz))
  · skip
    obtain ⟨j, hv0, hj⟩ : ∃ j : Nat, v0 = nI j ∧ j < (K lr7).2.2 := xj7.elim (fun z => absurd z c10) (fun z => z.2)
    refine g_aload_n cx 0 d_1_4_13 rfl rfl ?_
    refine g_callS cx (As := [.ref z1]) (n := 1) (tc_isName (n := c0)) d_1_4_14 t_705 t_706 t_1 t_707 ⟨by decide, by decide, by decide +kernel⟩ rfl ⟨rfl, hT, hxt1⟩ ⟨Nat.le_of_ble_eq_true rfl, Nat.le_of_ble_eq_true rfl⟩ (Nat.le_of_ble_eq_true rfl) ⟨Nat.le_of_ble_eq_true rfl, Nat.le_of_ble_eq_true rfl⟩ (fun v14 h r14 => ?_) (fun x14 h r14 => by obtain ⟨K9, -, -, x9, e9, -⟩ := r14; cases e9)
    obtain ⟨K, hT, ev, rel14⟩ := r14
    obtain ⟨x14, e14, xb14, xz14⟩ := rel14
    cases e14
    replace hbk := BK.mv hbk ev (fun _ _ => id)
    replace he7 := ((ev.1 a ha.1).2.2 id).2.trans he7
    replace hlaq7 := hlaq7.trans (Ev.ab ev hlr7 rfl).symm
    replace hlq7 := hlq7.trans (Ev.fix ev ha (by unfold Gk; omega)).symm
    replace hab0 := Ev.ab ev ha hab0
    have hj := Ev.sz ev hlr7 hj
    have hxt1 := Ev.tx ev hxt1
    have ha := Ev.ty ev ha
    have hla7 := Ev.ty ev hla7
    have hlr7 := Ev.ty ev hlr7
    have htr7 := Ev.ty ev htr7
    replace hE := hE.tr ev
    refine g_if_ne cx d_1_4_17 rfl (fun c17 => absurd (xz14 hc0) c17) (fun c17 => ?_)
    exact t_iae cx htr d_1_4_20 d_1_4_23 d_1_4_24 d_1_4_27  ⟨Nat.le_of_ble_eq_true rfl, Nat.le_of_ble_eq_true rfl⟩ (Nat.le_of_ble_eq_true rfl) ⟨Nat.le_of_ble_eq_true rfl, Nat.le_of_ble_eq_true rfl⟩ (fun x hx hz => lineOutN hE hbk (thrX (S := S2) (Or.inl rfl) (hT.mono (by omega) (by omega)) (Ev.rf (X := XN K)) hx hz))
set_option maxHeartbeats 8000000 in
theorem tc_look {S : Nat → Prop} {a ab v c0 cap cd : Nat} {v0 : Int32} (hTb : T + 40 < 2 ^ 20) (hB : B < 2 ^ 16) (htr : l.stackTraces = false) : TC l y_144 prog_1_method_4_code 4 (Option.some Jvm.ClassFile.FieldType.int) (rmT 34 146 (lookS B)) D z0 k [.ref a, .int v0] K (B) (T) (fun h => Ty K h 1 a ∧ (K a).2.1 = ab ∧ BK D K h S ab v c0 cap cd) (B + 8) (T + 40) (XP (fun z => z = ab) PN K) (RL D S S2 ab) := by
  refine tc_of (by decide) (Nat.le_of_ble_eq_true rfl) ?_
  intro h hT hp p e s m args below meth c cx hnm
  have hE : Ev k (XP (fun z => z = ab) PN K) K h K h := Ev.rf
  have hB17 := hB
  replace hB : B < 2 ^ 20 := Nat.lt_trans hB (by decide)
  obtain ⟨ha, hab0, hbk⟩ := hp
  refine g_aload_n cx 0 d_1_4_0 rfl rfl ?_
  obtain ⟨la9, lr9, tr9, tn9, hed, -⟩ := TP.desk hT ha hab0
  refine g_callV cx (As := []) (n := 0) (tc_takeWritten (S := S) (ab := ab) (c0 := c0) (v := v) (cap := cap)) d_1_4_1 t_265 t_267 ts_1 t_1 t_268 ⟨by decide, by decide, by decide +kernel⟩ rfl (ci := 0) rfl ha.1 hed ⟨rfl, hT, ha, hab0, hbk⟩ ⟨Nat.le_of_ble_eq_true rfl, Nat.le_of_ble_eq_true rfl⟩ (Nat.le_of_ble_eq_true rfl) ⟨by first | (simp only [rmT, lookS]; omega) | simp [rmT, lookS], by first | (simp only [rmT, lookS]; omega) | simp [rmT, lookS]⟩ (fun v1 h r1 => ?_) (fun x1 h r1 => by obtain ⟨K9, -, -, r9, v9, c9, e9, -⟩ := r1; cases e9)
  obtain ⟨K, hT, ev, rel1⟩ := r1
  obtain ⟨z1, v2, cap2, e1, hx1, hbk⟩ := rel1
  cases e1
  have hxt1 := hx1.1
  replace hab0 := Ev.ab ev ha hab0
  replace ha := Ev.ty ev ha
  replace hE := xab (P := PN) ev
  refine g_astore_n cx (lv' := [(2, .ref z1), (0, .ref a), (1, .int v0)]) d_1_4_4 rfl (by decide) rfl ?_
  refine g_aload_n cx 1 d_1_4_5 rfl rfl ?_
  refine g_iload_n cx 2 d_1_4_6 rfl rfl ?_
  obtain ⟨la7, lr7, tr7, tn7, he7, hla7, hlr7, htr7, htn7, hlq7, hlaq7⟩ := TP.desk hT ha hab0
  refine g_callV cx (As := [.int v0]) (n := 1) (pt_isThere (K := K) (B := B) (T := T) (ab := ab) (la := la7) (lr := lr7) (tr := tr7) (t := tn7) (v0 := v0) hB) d_1_4_7 t_231 t_233 ts_0 t_1 t_234 ⟨by decide, by decide, by decide +kernel⟩ rfl (ci := 0) rfl ha.1 he7 ⟨rfl, hT, ha.1, he7, hla7, hlr7, htr7⟩ ⟨Nat.le_of_ble_eq_true rfl, Nat.le_of_ble_eq_true rfl⟩ (Nat.le_of_ble_eq_true rfl) ⟨Nat.zero_le _, Nat.zero_le _⟩ (fun v7 h r7 => ?_) (fun x7 h r7 => by obtain ⟨-, v9, e9, -⟩ := r7; cases e9)
  obtain ⟨rfl, wo7, e7, r7⟩ := r7
  cases e7
  obtain ⟨x7, rfl, xj7⟩ := r7
  refine g_if_eq cx d_1_4_10 rfl (fun c10 => ?_) (fun c10 => ?_)
  · skip
    exact t_iae cx htr d_1_4_20 d_1_4_23 d_1_4_24 d_1_4_27  ⟨Nat.le_of_ble_eq_true rfl, Nat.le_of_ble_eq_true rfl⟩ (Nat.le_of_ble_eq_true rfl) ⟨by first | (simp only [rmT, lookS]; omega) | simp [rmT, lookS], by first | (simp only [rmT, lookS]; omega) | simp [rmT, lookS]⟩ (fun x hx hz => lineOutN hE hbk (thrX (S := S2) (Or.inl rfl) (hT.mono (by omega) (by omega)) (Ev.rf (X := XN K)) hx hz))
  · skip
    obtain ⟨j, hv0, hj⟩ : ∃ j : Nat, v0 = nI j ∧ j < (K lr7).2.2 := xj7.elim (fun z => absurd z c10) (fun z => z.2)
    refine g_aload_n cx 0 d_1_4_13 rfl rfl ?_
    refine g_callS cx (As := [.ref z1]) (n := 1) (tc_isName (n := c0)) d_1_4_14 t_705 t_706 t_1 t_707 ⟨by decide, by decide, by decide +kernel⟩ rfl ⟨rfl, hT, hxt1⟩ ⟨Nat.le_of_ble_eq_true rfl, Nat.le_of_ble_eq_true rfl⟩ (Nat.le_of_ble_eq_true rfl) ⟨by first | (simp only [rmT, lookS]; omega) | simp [rmT, lookS], by first | (simp only [rmT, lookS]; omega) | simp [rmT, lookS]⟩ (fun v14 h r14 => ?_) (fun x14 h r14 => by obtain ⟨K9, -, -, x9, e9, -⟩ := r14; cases e9)
    obtain ⟨K, hT, ev, rel14⟩ := r14
    obtain ⟨x14, e14, xb14, xz14⟩ := rel14
    cases e14
    replace hbk := BK.mv hbk ev (fun _ _ => id)
    replace he7 := ((ev.1 a ha.1).2.2 id).2.trans he7
    replace hlaq7 := hlaq7.trans (Ev.ab ev hlr7 rfl).symm
    replace hlq7 := hlq7.trans (Ev.fix ev ha (by unfold Gk; omega)).symm
    replace hab0 := Ev.ab ev ha hab0
    have hj := Ev.sz ev hlr7 hj
    have hxt1 := Ev.tx ev hxt1
    have ha := Ev.ty ev ha
    have hla7 := Ev.ty ev hla7
    have hlr7 := Ev.ty ev hlr7
    have htr7 := Ev.ty ev htr7
    replace hE := hE.tr ev
    refine g_if_ne cx d_1_4_17 rfl (fun c17 => ?_) (fun c17 => ?_)
    · skip
      subst hv0
      refine g_aload_n cx 1 d_1_4_28 rfl rfl ?_
      refine g_iconst cx (v := 0) d_1_4_29 (by decide) ?_
      refine g_putf cx d_1_4_30 in0 ty0_ok nm0 rfl (k := 4) (by decide) t_100 (Or.inl rfl) rfl (ty0_ok 4 (by decide)) rfl rfl ha.1 he7 (Nat.le_of_ble_eq_true rfl) ?_
      refine t_put hT ha (okc1 (t := 0) ha.2 hab0 hla7 hlr7 htr7 (Nat.zero_le _) hlq7 hlaq7) (fun h hT ev he7 => ?_)
      replace hbk := BK.mv hbk ev (fun z hz y => by have y2 : z = a := y; rw [y2, ha.2] at hz; cases hz)
      replace hE := Ev.tr1 hE (Or.inr (by show PN (K a).1; rw [ha.2]; decide)) ev
      replace hla7 := Ev.ty ev hla7
      replace hlr7 := Ev.ty ev hlr7
      replace htr7 := Ev.ty ev htr7
      replace ha := Ev.ty ev ha
      replace hxt1 := Ev.tx ev hxt1
      refine g_aload_n cx 1 d_1_4_33 rfl rfl ?_
      refine g_aload_n cx 0 d_1_4_34 rfl rfl ?_
      refine g_aload_n cx 1 d_1_4_35 rfl rfl ?_
      refine g_getf cx (k := 2) d_1_4_36 in0 rfl (by decide) t_98 (Or.inl rfl) ha.1 he7 rfl ?_
      refine g_iload_n cx 2 d_1_4_39 rfl rfl ?_
      obtain ⟨⟨ea40, mo40, hm40, hl40⟩, hb40⟩ := TP.n26 hT hlr7
      refine g_callV cx (As := [.int (nI j)]) (n := 1) (gj_get (K := K) (B := B) (T := T) (ce := 6) (j := j) (by decide) hB) d_1_4_40 t_239 t_240 t_241 t_8 t_242 ⟨by decide, by decide, by decide +kernel⟩ rfl (ci := 2) rfl hm40 hl40 ⟨rfl, hT, hlr7, hj⟩ ⟨Nat.le_of_ble_eq_true rfl, Nat.le_of_ble_eq_true rfl⟩ (Nat.le_of_ble_eq_true rfl) ⟨Nat.zero_le _, Nat.zero_le _⟩ (fun v40 h r40 => ?_) (fun x40 h r40 => by obtain ⟨-, y9, e9, -⟩ := r40; cases e9)
      obtain ⟨rfl, y40, e40, hy40⟩ := r40
      cases e40
      replace hy40 : Ty K h 6 y40 := hy40
      obtain ⟨n43, b143, b243, b343, w43, lo43, im43, fi43, pa43, he43, hw43, hlo43, him43, hfi43, hpa43, hwq43⟩ := TP.o (κ := 6) hT hy40
      obtain ⟨nw43, hw43⟩ : ∃ n, Tw k K h w43 n := ⟨_, Tx.tx hw43⟩
      refine g_ccast cx (ci := 6) d_1_4_43 t_251 rfl hy40.1 he43 ?_
      refine g_iconst cx (v := 1) d_1_4_46 (by decide) ?_
      refine g_callV cx (As := [.ref z1, .ref y40, .int 1]) (n := 3) (hlf7 (M := B + 8) (by omega) K B T a z1 c0 y40 1 (fun _ _ => False) (by omega) (by omega) (by omega)) d_1_4_47 t_830 t_832 ts_21 t_1 t_833 ⟨by decide, by decide, by decide +kernel⟩ rfl (ci := 0) rfl ha.1 he7 ⟨rfl, hT, ha, hxt1, hy40, (fun z x q => q.elim)⟩ ⟨Nat.le_of_ble_eq_true rfl, Nat.le_of_ble_eq_true rfl⟩ (Nat.le_of_ble_eq_true rfl) ⟨by first | (simp only [rmT, lookS]; omega) | simp [rmT, lookS], by first | (simp only [rmT, lookS]; omega) | simp [rmT, lookS]⟩ (fun v47 h r47 => ?_) (fun x47 h r47 => by obtain ⟨K9, -, -, ⟨x9, e9⟩, -⟩ := r47; cases e9)
      obtain ⟨K, hT, ev, rel47⟩ := r47
      obtain ⟨⟨x47, e47⟩, -⟩ := rel47
      cases e47
      replace hbk := hbk.mvD (xnd ev)
      replace hab0 := Ev.ab ev ha hab0
      have hxt1 := Ev.tx ev hxt1
      have ha := Ev.ty ev ha
      replace hE := Ev.trP hE (xwN ev)
      refine g_istore_n cx (lv' := [(3, .int x47), (2, .ref z1), (0, .ref a), (1, .int (nI j))]) d_1_4_50 rfl (by decide) rfl ?_
      refine g_iload_n cx 0 d_1_4_51 rfl rfl ?_
      refine g_iconst cx (v := (-1)) d_1_4_52 (by decide) ?_
      refine g_icmp_ne cx d_1_4_53 rfl (fun c53 => ?_) (fun c53 => ?_)
      · skip
        refine g_iload_n cx 0 d_1_4_64 rfl rfl ?_
        exact g_iret cx d_1_4_65 rfl rfl (lineOutN hE hbk ⟨K, hT.mono (by omega) (by omega), Ev.rf, Or.inl ⟨_, rfl⟩⟩)
      · skip
        exact t_nse cx htr d_1_4_56 d_1_4_59 d_1_4_60 d_1_4_63  ⟨Nat.le_of_ble_eq_true rfl, Nat.le_of_ble_eq_true rfl⟩ (Nat.le_of_ble_eq_true rfl) ⟨by first | (simp only [rmT, lookS]; omega) | simp [rmT, lookS], by first | (simp only [rmT, lookS]; omega) | simp [rmT, lookS]⟩ (fun x hx hz => lineOutN hE hbk (thrX (S := S2) (Or.inr rfl) (hT.mono (by omega) (by omega)) (Ev.rf (X := XN K)) hx hz))
    · skip
      exact t_iae cx htr d_1_4_20 d_1_4_23 d_1_4_24 d_1_4_27  ⟨Nat.le_of_ble_eq_true rfl, Nat.le_of_ble_eq_true rfl⟩ (Nat.le_of_ble_eq_true rfl) ⟨by first | (simp only [rmT, lookS]; omega) | simp [rmT, lookS], by first | (simp only [rmT, lookS]; omega) | simp [rmT, lookS]⟩ (fun x hx hz => lineOutN hE hbk (thrX (S := S2) (Or.inl rfl) (hT.mono (by omega) (by omega)) (Ev.rf (X := XN K)) hx hz))
end C3
