/-! New strings and substring, typed. -/
theorem Ev.nin {k : Nat → Nat} {X : Nat → Prop} {K K' : KM} {h h' : hp} {q : Nat} (a : Ev k X K h K' h') (hq : q ∉ h'.1) : q ∉ h.1 := fun z => hq (a.1 q z).1
theorem Ev.rawm {k : Nat → Nat} {X : Nat → Prop} {K K' : KM} {h h' : hp} {q : Nat} {e : va_E} (a : Ev k X K h K' h') (hr : K q = (0, 0, 0)) (hm : q ∈ h.1) (he : h.2 q = e) (hX : ¬ X q := by exact id) : K' q = (0, 0, 0) ∧ q ∈ h'.1 ∧ h'.2 q = e := by
  obtain ⟨a1, -, a3⟩ := a.1 q hm
  obtain ⟨b1, b2⟩ := a3 hX
  exact ⟨b1.trans hr, a1, b2.trans he⟩
theorem Ev.trS {k : Nat → Nat} {X : Nat → Prop} {K K1 K2 : KM} {h h1 h2 : hp} (a : Ev k X K h K1 h1) (b : Ev k X K1 h1 K2 h2) : Ev k X K h K2 h2 := a.trX (fun _ _ x => x) (fun _ _ y => y) b
theorem va_O.lt {E : String} {t z0 : Nat} {U : State} {H : Heap} (h : va_O E t (AA z0) U H) : t < z0 := by
  obtain ⟨-, -, -, -, h4⟩ := h
  exact Nat.not_le.mp h4
section J3
variable {l : Launch} {D : va_G} {z0 : Nat} {k : Nat → Nat} {K : KM} {B T : Nat}
set_option maxHeartbeats 8000000 in
theorem tj_strInit {q v n : Nat} (hn : n ≤ 30) : TC l y_108 prog_19_method_151_code 3 (Option.none) (rmT 1 0 0) D z0 k [.ref q, .ref v, .int 0] K (B) (T) (fun h => (K q = (0, 0, 0) ∧ q ∈ h.1 ∧ h.2 q = .inr (3, [.null, .int 0, .int 0, .int 0])) ∧ Ty K h 40 v ∧ (K v).2.1 = n) (B) (T) (fun z => z = q) (fun o K' h' => o = .returned none ∧ Tw k K' h' q n) := by
  refine tc_of (by decide) (Nat.le_of_ble_eq_true rfl) ?_
  intro h hT hp p e s m args below meth c cx hnm
  have hE : Ev k (fun z => z = q) K h K h := Ev.rf
  obtain ⟨⟨hr, hm, he⟩, hv, hvn⟩ := hp
  refine g_aload_n cx 0 d_19_151_0 rfl rfl ?_
  refine g_objInit cx d_19_151_1 t_281 t_35 t_36 ⟨Nat.le_of_ble_eq_true rfl, Nat.le_of_ble_eq_true rfl⟩ (Nat.le_of_ble_eq_true rfl) ?_
  refine g_aload_n cx 0 d_19_151_4 rfl rfl ?_
  refine g_aload_n cx 1 d_19_151_5 rfl rfl ?_
  refine g_putF cx hnm d_19_151_6 in3 ty3_ok nm3 rfl (k := 0) (by decide) t_453 rfl rfl (ty3_ok 0 (by decide)) rfl rfl hm he (Nat.le_of_ble_eq_true rfl) ?_
  refine t_putR hT hm (Or.inl (congrArg Prod.fst hr)) (fun h hT ev hm he hot6 hL6 => ?_)
  have hv := Ev.ty ev hv
  replace hE := Ev.trS hE ev
  refine g_aload_n cx 0 d_19_151_9 rfl rfl ?_
  refine g_iload_n cx 2 d_19_151_10 rfl rfl ?_
  refine g_putF cx hnm d_19_151_11 in3 ty3_ok nm3 rfl (k := 1) (by decide) t_454 rfl rfl (ty3_ok 1 (by decide)) rfl rfl hm he (Nat.le_of_ble_eq_true rfl) ?_
  refine t_putR hT hm (Or.inl (congrArg Prod.fst hr)) (fun h hT ev hm he hot11 hL11 => ?_)
  have hv := Ev.ty ev hv
  replace hE := Ev.trS hE ev
  have hvq : v ≠ q := fun z => by have := hv.2; rw [z, hr] at this; cases this
  obtain ⟨t9, v9⟩ := t_kind (q := (3, n, 0)) hT hm (congrArg Prod.fst hr) he (okc.ob (by show ¬ (24 ≤ 3 ∧ 3 ≤ 28); decide) (by show ¬ (34 ≤ 3 ∧ 3 ≤ 38); decide) ⟨v, 0, 0, rfl, ⟨hv.1, by rw [va_up_ne _ _ hvq]; exact hv.2⟩, by rw [va_up_ne _ _ hvq]; exact hvn, hn⟩)
  exact g_vret cx d_19_151_14 rfl ⟨_, t9, Ev.trS hE v9, rfl, by rw [va_up_self], by rw [va_up_self], Or.inl hm⟩
set_option maxHeartbeats 8000000 in
theorem tj_newString {v n bg ln : Nat} (hbl : bg + ln ≤ n) (hln : ln ≤ 30) : TC l y_107 prog_21_method_47_code 3 (Option.some (Jvm.ClassFile.FieldType.object "java/lang/String")) (rmT 6 2 40) D z0 k [.ref v, .int (nI bg), .int (nI ln)] K (B) (T) (fun h => Byt D h v n) (B) (T) (X0) (fun o K' h' => ∃ r : Nat, o = .returned (some (.ref r)) ∧ Tw k K' h' r ln) := by
  refine tc_of (by decide) (Nat.le_of_ble_eq_true rfl) ?_
  intro h hT hp p e s m args below meth c cx hnm
  have hE : Ev k (X0) K h K h := Ev.rf
  have hle : n ≤ 200 := by
    obtain ⟨f, -, -, -, hle⟩ := hp
    exact hle
  refine g_iload_n cx 2 d_21_47_0 rfl rfl ?_
  refine g_if_ne cx d_21_47_1 rfl (fun c1 => ?_) (fun c1 => ?_)
  · skip
    refine g_new cx (ci := 3) (fs := [.null, .int 0, .int 0, .int 0]) d_21_47_7 in3 ty3_ok t_547 t_274 t_4 rfl (by decide) ⟨Nat.le_of_ble_eq_true rfl, Nat.le_of_ble_eq_true rfl⟩ (fun q7 hq7 hz7 => ?_)
    have hN7 := Ev.nin hE hq7
    refine t_raw hT hq7 hz7 (fun K h hT ev hr7 hm7 he7 hol7 => ?_)
    replace hE := hE.tr ev
    replace hp := Byt.old hp hol7
    refine g_dup cx d_21_47_10 rfl ?_
    refine g_aload_n cx 0 d_21_47_11 rfl rfl ?_
    refine g_iload_n cx 1 d_21_47_12 rfl rfl ?_
    refine g_iload_n cx 1 d_21_47_13 rfl rfl ?_
    refine g_iload_n cx 2 d_21_47_14 rfl rfl ?_
    refine g_iadd cx d_21_47_15 ?_
    refine g_topi (fun e15 ee15 => ?_)
    obtain rfl : e15 = nI (bg + ln) := ee15.trans (nI_add _ _)
    refine g_callS cx (As := [.ref v, .int (nI bg), .int (nI (bg + ln))]) (n := 3) (pj_copyRange (n := n) (bg := bg) (en := bg + ln) (by omega) (by omega)) d_21_47_16 t_548 t_290 t_12 t_291 ⟨by decide, by decide, by decide +kernel⟩ rfl ⟨rfl, hp⟩ ⟨Nat.le_of_ble_eq_true rfl, Nat.le_of_ble_eq_true rfl⟩ (Nat.le_of_ble_eq_true rfl) ⟨Nat.le_of_ble_eq_true rfl, by show bg + ln - bg ≤ 36; omega⟩ (fun v16 h16 r16 => ?_) (fun x16 h16 r16 => by obtain ⟨q9, f9, e9, -⟩ := r16; cases e9)
    obtain ⟨q16, f16, e16, hq16, hz16, hft16, rfl⟩ := r16
    cases e16
    rw [show bg + ln - bg = ln by omega]
    refine t_push (q := (40, ln, 0)) hT hq16 hz16 (okc.ob (by show ¬ (24 ≤ 40 ∧ 40 ≤ 28); decide) (by show ¬ (34 ≤ 40 ∧ 40 ≤ 38); decide) ⟨f16, rfl, hft16⟩) (fun K h hT ev hk16 hm16 he16 hol16 => ?_)
    obtain ⟨hr7, hm7, he7⟩ := Ev.rawm ev hr7 hm7 he7
    replace hE := hE.tr ev
    have hv40 : Ty K h 40 q16 := ⟨hm16, congrArg Prod.fst hk16⟩
    have hv4n : (K q16).2.1 = ln := congrArg (fun z => z.2.1) hk16
    refine g_iconst cx (v := 0) d_21_47_19 (by decide) ?_
    refine g_callI cx (ret' := none) (As := [.ref q16, .int 0]) (n := 2) (tj_strInit (n := ln) (by omega)) d_21_47_20 t_549 t_550 t_4 t_551 rfl ⟨by decide, by decide, by decide +kernel⟩ rfl ⟨rfl, hT, ⟨⟨hr7, hm7, he7⟩, ⟨hv40, hv4n⟩⟩⟩ ⟨Nat.le_of_ble_eq_true rfl, Nat.le_of_ble_eq_true rfl⟩ (Nat.le_of_ble_eq_true rfl) ⟨Nat.zero_le _, Nat.zero_le _⟩ (fun v20 h r20 => ?_) (fun x20 h r20 => by obtain ⟨K9, -, -, e9⟩ := r20; cases e9.1)
    obtain ⟨K, hT, ev, rel20⟩ := r20
    obtain ⟨e20, hn20⟩ := rel20
    cases e20
    replace hE := hE.trN hN7 ev
    exact g_aret cx d_21_47_23 rfl (Or.inl ⟨_, rfl⟩) (Or.inr ⟨_, rfl⟩) ⟨K, hT, hE, _, rfl, hn20⟩
  · skip
    have hl0 : ln = 0 := (nI_eq (by omega) (by decide)).mp c1
    refine g_ldcS cx d_21_47_4 cx.ee.2.2.2.2.2.2.2.2.1 ?_
    exact g_aret cx d_21_47_6 rfl (Or.inl ⟨_, rfl⟩) (Or.inr ⟨_, rfl⟩) ⟨K, hT, hE, _, rfl, hT.2.1, hT.2.2.1.trans hl0.symm, Or.inr rfl⟩
theorem Tw.byt {h : hp} (hk : ∀ i, i < 10 → k (10 + i) < z0) {a n : Nat} (hT : TP D z0 k K B T h) (q : Tw k K h a n) : ∃ v, StrP D k h a v n ∧ (0 < n → Byt D h v n) := by
  obtain ⟨v, hv⟩ := hT.str q
  refine ⟨v, hv, fun h0 => ?_⟩
  rcases q.2.2 with q3 | rfl
  · obtain ⟨v2, x, y, e1, ⟨e2, e3⟩, e4, e5⟩ : ∃ (v : Nat) (x y : Int32), h.2 a = .inr (3, [.ref v, .int 0, .int x, .int y]) ∧ (v ∈ h.1 ∧ (K v).1 = 40) ∧ (K v).2.1 = (K a).2.1 ∧ (K a).2.1 ≤ 30 := TP.o (κ := 3) hT ⟨q3, q.1⟩
    rcases hv with ⟨x', y', f, g1, g2, g3, g4, g5, g6⟩ | ⟨i, hi, ha, hv, hn⟩
    · exact ⟨f, g3, g4, g5, by omega⟩
    · subst ha hv hn
      have hz := hT.2.2.2.1 _ q3
      exact absurd hz (Nat.not_le.mpr (hk i hi))
  · exact absurd (q.2.1.symm.trans hT.2.2.1) (by omega)
set_option maxHeartbeats 8000000 in
theorem tj_substring {a n bg en : Nat} (hbe : bg ≤ en) (hen : en ≤ n) : TC l y_106 prog_19_method_92_code 5 (Option.some (Jvm.ClassFile.FieldType.object "java/lang/String")) (rmT 8 2 40) D z0 k [.ref a, .int (nI bg), .int (nI en)] K (B) (T) (fun h => Tw k K h a n) (B) (T) (X0) (fun o K' h' => ∃ r : Nat, o = .returned (some (.ref r)) ∧ Tw k K' h' r (en - bg)) := by
  refine tc_of (by decide) (Nat.le_of_ble_eq_true rfl) ?_
  intro h hT hp p e s m args below meth c cx hnm
  have hE : Ev k (X0) K h K h := Ev.rf
  have hle := Tw.le hp hT
  obtain ⟨v, hs, hby⟩ := Tw.byt (fun i hi => (cx.ee.2.2.2.2.2.2.1 i hi).1.lt) hT hp
  refine g_aload_n cx 0 d_19_92_0 rfl rfl ?_
  refine g_pcVS cx (As := []) (n := 0) (pj_length (n := n)) d_19_92_1 t_541 t_391 t_392 t_4 t_393 rfl (by decide +kernel) rfl hs ⟨_, hs⟩ ⟨Nat.le_of_ble_eq_true rfl, Nat.le_of_ble_eq_true rfl⟩ (Nat.le_of_ble_eq_true rfl) (fun v1 r1 => ?_)
  subst r1
  refine g_istore_n cx (lv' := [(3, .int (nI n)), (0, .ref a), (1, .int (nI bg)), (2, .int (nI en))]) d_19_92_4 rfl (by decide) rfl ?_
  refine g_iload_n cx 2 d_19_92_5 rfl rfl ?_
  refine g_iload_n cx 3 d_19_92_6 rfl rfl ?_
  refine g_iload_n cx 0 d_19_92_7 rfl rfl ?_
  refine g_pcS cx (As := [.int (nI bg), .int (nI en), .int (nI n)]) (n := 3) (pj_bounds hbe hen (by omega)) d_19_92_8 t_542 t_365 t_4 t_366 ⟨by decide, by decide, by decide +kernel⟩ rfl trivial ⟨Nat.le_of_ble_eq_true rfl, Nat.le_of_ble_eq_true rfl⟩ (Nat.le_of_ble_eq_true rfl) (fun v8 r8 => ?_)
  subst r8
  refine g_iload_n cx 2 d_19_92_11 rfl rfl ?_
  refine g_if_ne cx d_19_92_12 rfl (fun c12 => ?_) (fun c12 => ?_)
  · skip
    have hn0 : 0 < n := by
      refine Nat.pos_of_ne_zero (fun z => ?_)
      obtain rfl : bg = 0 := by omega
      obtain rfl : en = 0 := by omega
      first
        | exact c12 rfl
        | (subst z; exact c17 rfl)
    refine g_iload_n cx 3 d_19_92_22 rfl rfl ?_
    refine g_iload_n cx 2 d_19_92_23 rfl rfl ?_
    refine g_isub cx d_19_92_24 ?_
    refine g_topi (fun l4 el4 => ?_)
    obtain rfl : l4 = nI (en - bg) := el4.trans (pk_sub hbe)
    refine g_istore cx (lv' := [(4, .int (nI (en - bg))), (3, .int (nI n)), (0, .ref a), (1, .int (nI bg)), (2, .int (nI en))]) d_19_92_25 (by decide) rfl ?_
    refine g_aload_n cx 2 d_19_92_27 rfl rfl ?_
    refine g_pcVS cx (As := []) (n := 0) (pj_isLatin1 (n := n)) d_19_92_28 t_524 t_525 t_526 t_4 t_527 rfl (by decide +kernel) rfl hs ⟨_, hs⟩ ⟨Nat.le_of_ble_eq_true rfl, Nat.le_of_ble_eq_true rfl⟩ (Nat.le_of_ble_eq_true rfl) (fun v28 r28 => ?_)
    subst r28
    refine g_if_eq cx d_19_92_31 rfl (fun c31 => absurd c31 (by decide)) (fun c31 => ?_)
    refine g_aload_n cx 2 d_19_92_34 rfl rfl ?_
    refine g_gvS cx d_19_92_35 t_453 hs ?_
    refine g_iload_n cx 3 d_19_92_38 rfl rfl ?_
    refine g_iload cx 0 d_19_92_39 rfl ?_
    refine g_callS cx (As := [.ref v, .int (nI bg), .int (nI (en - bg))]) (n := 3) (tj_newString (n := n) (bg := bg) (ln := (en - bg)) (by omega) (by omega)) d_19_92_41 t_543 t_544 t_14 t_545 ⟨by decide, by decide, by decide +kernel⟩ rfl ⟨rfl, hT, (hby hn0)⟩ ⟨Nat.le_of_ble_eq_true rfl, Nat.le_of_ble_eq_true rfl⟩ (Nat.le_of_ble_eq_true rfl) ⟨Nat.le_of_ble_eq_true rfl, Nat.le_of_ble_eq_true rfl⟩ (fun v41 h r41 => ?_) (fun x41 h r41 => by obtain ⟨K9, -, -, r9, e9, -⟩ := r41; cases e9)
    obtain ⟨K, hT, ev, rel41⟩ := r41
    obtain ⟨z41, e41, hx41⟩ := rel41
    cases e41
    have hp := Ev.tx ev hp
    replace hE := hE.tr ev
    refine g_goto cx d_19_92_44 rfl ?_
    exact g_aret cx d_19_92_57 rfl (Or.inl ⟨_, rfl⟩) (Or.inr ⟨_, rfl⟩) ⟨K, hT, hE, _, rfl, hx41⟩
  · skip
    have hb0 : bg = 0 := (nI_eq (by omega) (by decide)).mp c12
    refine g_iload_n cx 3 d_19_92_15 rfl rfl ?_
    refine g_iload_n cx 0 d_19_92_16 rfl rfl ?_
    refine g_icmp_ne cx d_19_92_17 rfl (fun c17 => ?_) (fun c17 => ?_)
    · skip
      have hn0 : 0 < n := by
        refine Nat.pos_of_ne_zero (fun z => ?_)
        obtain rfl : bg = 0 := by omega
        obtain rfl : en = 0 := by omega
        first
          | exact c12 rfl
          | (subst z; exact c17 rfl)
      refine g_iload_n cx 3 d_19_92_22 rfl rfl ?_
      refine g_iload_n cx 2 d_19_92_23 rfl rfl ?_
      refine g_isub cx d_19_92_24 ?_
      refine g_topi (fun l4 el4 => ?_)
      obtain rfl : l4 = nI (en - bg) := el4.trans (pk_sub hbe)
      refine g_istore cx (lv' := [(4, .int (nI (en - bg))), (3, .int (nI n)), (0, .ref a), (1, .int (nI bg)), (2, .int (nI en))]) d_19_92_25 (by decide) rfl ?_
      refine g_aload_n cx 2 d_19_92_27 rfl rfl ?_
      refine g_pcVS cx (As := []) (n := 0) (pj_isLatin1 (n := n)) d_19_92_28 t_524 t_525 t_526 t_4 t_527 rfl (by decide +kernel) rfl hs ⟨_, hs⟩ ⟨Nat.le_of_ble_eq_true rfl, Nat.le_of_ble_eq_true rfl⟩ (Nat.le_of_ble_eq_true rfl) (fun v28 r28 => ?_)
      subst r28
      refine g_if_eq cx d_19_92_31 rfl (fun c31 => absurd c31 (by decide)) (fun c31 => ?_)
      refine g_aload_n cx 2 d_19_92_34 rfl rfl ?_
      refine g_gvS cx d_19_92_35 t_453 hs ?_
      refine g_iload_n cx 3 d_19_92_38 rfl rfl ?_
      refine g_iload cx 0 d_19_92_39 rfl ?_
      refine g_callS cx (As := [.ref v, .int (nI bg), .int (nI (en - bg))]) (n := 3) (tj_newString (n := n) (bg := bg) (ln := (en - bg)) (by omega) (by omega)) d_19_92_41 t_543 t_544 t_14 t_545 ⟨by decide, by decide, by decide +kernel⟩ rfl ⟨rfl, hT, (hby hn0)⟩ ⟨Nat.le_of_ble_eq_true rfl, Nat.le_of_ble_eq_true rfl⟩ (Nat.le_of_ble_eq_true rfl) ⟨Nat.le_of_ble_eq_true rfl, Nat.le_of_ble_eq_true rfl⟩ (fun v41 h r41 => ?_) (fun x41 h r41 => by obtain ⟨K9, -, -, r9, e9, -⟩ := r41; cases e9)
      obtain ⟨K, hT, ev, rel41⟩ := r41
      obtain ⟨z41, e41, hx41⟩ := rel41
      cases e41
      have hp := Ev.tx ev hp
      replace hE := hE.tr ev
      refine g_goto cx d_19_92_44 rfl ?_
      exact g_aret cx d_19_92_57 rfl (Or.inl ⟨_, rfl⟩) (Or.inr ⟨_, rfl⟩) ⟨K, hT, hE, _, rfl, hx41⟩
    · skip
      have he0 : en = n := (nI_eq (by omega) (by omega)).mp c17
      refine g_aload_n cx 1 d_19_92_20 rfl rfl ?_
      exact g_aret cx d_19_92_21 rfl (Or.inl ⟨_, rfl⟩) (Or.inr ⟨_, rfl⟩) ⟨K, hT, hE, _, rfl, by rw [hb0, he0]; exact hp⟩
end J3
