/-! New strings and substring, typed. -/
theorem Ev.nin {k : Nat → Nat} {X : Nat → Prop} {K K' : KM} {h h' : hp} {q : Nat} (a : Ev k X K h K' h') (hq : q ∉ h'.1) : q ∉ h.1 := fun z => hq (a.1 q z).1
theorem Ev.rawm {k : Nat → Nat} {X : Nat → Prop} {K K' : KM} {h h' : hp} {q : Nat} {e : va_E} (a : Ev k X K h K' h') (hr : K q = (0, 0, 0)) (hm : q ∈ h.1) (he : h.2 q = e) (hX : ¬ X q := by exact id) : K' q = (0, 0, 0) ∧ q ∈ h'.1 ∧ h'.2 q = e := by
  obtain ⟨a1, -, a3⟩ := a.1 q hm
  obtain ⟨b1, b2⟩ := a3 hX
  exact ⟨b1.trans hr, a1, b2.trans he⟩
theorem Ev.trS {k : Nat → Nat} {X : Nat → Prop} {K K1 K2 : KM} {h h1 h2 : hp} (a : Ev k X K h K1 h1) (b : Ev k X K1 h1 K2 h2) : Ev k X K h K2 h2 := a.trX (fun _ _ x => x) (fun _ _ y => y) b
/-- a piece of a text: m characters from the b-th on -/
def sub (c b m : Nat) : Nat := c / 128 ^ b % 128 ^ m
theorem sub_lt {c b m : Nat} : sub c b m < 128 ^ m := Nat.mod_lt _ (Nat.pow_pos (by decide))
theorem sub_0 {c n : Nat} (h : c < 128 ^ n) : sub c 0 n = c := by
  unfold sub
  rw [Nat.pow_zero, Nat.div_one, Nat.mod_eq_of_lt h]
theorem chr_sub {c b m j : Nat} (h : j < m) : chr (sub c b m) j = chr c (b + j) := by
  unfold chr sub
  rw [Nat.pow_add, ← Nat.div_div_eq_div_mul]
  generalize c / 128 ^ b = x
  have e : 128 ^ m = 128 ^ j * 128 ^ (m - j) := by rw [← Nat.pow_add]; congr 1; omega
  rw [e, Nat.mod_mul_right_div_self]
  have e2 : 128 ^ (m - j) = 128 * 128 ^ (m - j - 1) := by rw [← Nat.pow_succ']; congr 1; omega
  rw [e2, Nat.mod_mul_right_mod]
def Tc (k : Nat → Nat) (K : KM) (h : hp) (w n cd : Nat) : Prop := Tw k K h w n ∧ (0 < n → (K w).2.2 = cd) ∧ cd < 128 ^ n
theorem Ev.tc {k : Nat → Nat} {X : Nat → Prop} {K K' : KM} {h h' : hp} (ev : Ev k X K h K' h') {w n cd : Nat} (t : Tc k K h w n cd) : Tc k K' h' w n cd := by
  refine ⟨Ev.tx ev t.1, fun hn => ?_, t.2.2⟩
  obtain ⟨t1, t2, t3⟩ := t.1
  rcases t3 with t3 | rfl
  · obtain ⟨-, a2, -⟩ := ev.1 w t3
    exact ((a2 (by omega)).2.2.2 (by rw [t1]; unfold Gk; omega)).trans (t.2.1 hn)
  · rw [ev.2]
    exact t.2.1 hn
section J3
variable {l : Launch} {D : va_G} {z0 : Nat} {k : Nat → Nat} {K : KM} {B T : Nat}
set_option maxHeartbeats 8000000 in
theorem tj_strInit {q v n cd : Nat} (hn : n ≤ 30) (hcd : cd < 128 ^ n) : TC l y_108 prog_19_method_151_code 3 (Option.none) (rmT 1 0 0) D z0 k [.ref q, .ref v, .int 0] K (B) (T) (fun h => (K q = (0, 0, 0) ∧ q ∈ h.1 ∧ h.2 q = .inr (3, [.null, .int 0, .int 0, .int 0])) ∧ Ty K h 40 v ∧ (K v).2 = (n, cd)) (B) (T) (fun z => z = q) (fun o K' h' => o = .returned none ∧ Tc k K' h' q n cd) := by
  refine tc_of (by decide) (Nat.le_of_ble_eq_true rfl) ?_
  intro h hT hp p e s m args below meth c cx hnm
  have hE : Ev k (fun z => z = q) K h K h := Ev.rf
  obtain ⟨⟨hr, hm, he⟩, hv, hvn⟩ := hp
  refine g_aload_n cx 0 d_19_151_0 rfl rfl ?_
  refine g_objInit cx d_19_151_1 t_281 t_35 t_36 ⟨Nat.le_of_ble_eq_true rfl, Nat.le_of_ble_eq_true rfl⟩ (Nat.le_of_ble_eq_true rfl) ?_
  refine g_aload_n cx 0 d_19_151_4 rfl rfl ?_
  refine g_aload_n cx 1 d_19_151_5 rfl rfl ?_
  refine g_putF cx hnm d_19_151_6 in3 ty3_ok nm3 rfl (k := 0) (by decide) t_453 rfl rfl (ty3_ok 0 (by decide)) rfl rfl hm he (Nat.le_of_ble_eq_true rfl) ?_
  refine t_putR hT hm (Or.inl (congrArg Prod.fst hr)) (fun h hT ev hm he hot6 hL6 => ?_)
  have hv := Ev.ty ev hv
  replace hE := Ev.trS hE ev
  refine g_aload_n cx 0 d_19_151_9 rfl rfl ?_
  refine g_iload_n cx 2 d_19_151_10 rfl rfl ?_
  refine g_putF cx hnm d_19_151_11 in3 ty3_ok nm3 rfl (k := 1) (by decide) t_454 rfl rfl (ty3_ok 1 (by decide)) rfl rfl hm he (Nat.le_of_ble_eq_true rfl) ?_
  refine t_putR hT hm (Or.inl (congrArg Prod.fst hr)) (fun h hT ev hm he hot11 hL11 => ?_)
  have hv := Ev.ty ev hv
  replace hE := Ev.trS hE ev
  have hvq : v ≠ q := fun z => by have := hv.2; rw [z, hr] at this; cases this
  obtain ⟨t9, v9⟩ := t_kind (q := (3, n, cd)) hT hm (congrArg Prod.fst hr) he (okc.ob (by show ¬ (23 ≤ 3 ∧ 3 ≤ 29); decide) (by show ¬ (33 ≤ 3 ∧ 3 ≤ 39); decide) ⟨v, 0, 0, rfl, ⟨hv.1, by rw [va_up_ne _ _ hvq]; exact hv.2⟩, by rw [va_up_ne _ _ hvq]; exact hvn, hn, hcd⟩)
  exact g_vret cx d_19_151_14 rfl ⟨_, t9, Ev.trS hE v9, rfl, ⟨by rw [va_up_self], by rw [va_up_self], Or.inl hm⟩, fun _ => by rw [va_up_self], hcd⟩
set_option maxHeartbeats 8000000 in
theorem tj_newString {v n bg ln cd : Nat} {f : Nat → Int32} (hbl : bg + ln ≤ n) (hln : ln ≤ 30) (hcd : cd < 128 ^ ln) (hfd : ∀ j, j < ln → f (bg + j) = nI (chr cd j)) : TC l y_107 prog_21_method_47_code 3 (Option.some (Jvm.ClassFile.FieldType.object "java/lang/String")) (rmT 6 2 40) D z0 k [.ref v, .int (nI bg), .int (nI ln)] K (B) (T) (fun h => ByF D h v n f) (B) (T) (X0) (fun o K' h' => ∃ r : Nat, o = .returned (some (.ref r)) ∧ Tc k K' h' r ln cd) := by
  refine tc_of (by decide) (Nat.le_of_ble_eq_true rfl) ?_
  intro h hT hp p e s m args below meth c cx hnm
  have hE : Ev k (X0) K h K h := Ev.rf
  have hle : n ≤ 200 := hp.2.2.2
  refine g_iload_n cx 2 d_21_47_0 rfl rfl ?_
  refine g_if_ne cx d_21_47_1 rfl (fun c1 => ?_) (fun c1 => ?_)
  · skip
    refine g_new cx (ci := 3) (fs := [.null, .int 0, .int 0, .int 0]) d_21_47_7 in3 ty3_ok t_547 t_274 t_4 rfl (by decide) ⟨Nat.le_of_ble_eq_true rfl, Nat.le_of_ble_eq_true rfl⟩ (fun q7 hq7 hz7 => ?_)
    have hN7 := Ev.nin hE hq7
    refine t_raw hT hq7 hz7 (fun K h hT ev hr7 hm7 he7 hol7 => ?_)
    replace hE := hE.tr ev
    replace hp := ByF.old hp hol7
    refine g_dup cx d_21_47_10 rfl ?_
    refine g_aload_n cx 0 d_21_47_11 rfl rfl ?_
    refine g_iload_n cx 1 d_21_47_12 rfl rfl ?_
    refine g_iload_n cx 1 d_21_47_13 rfl rfl ?_
    refine g_iload_n cx 2 d_21_47_14 rfl rfl ?_
    refine g_iadd cx d_21_47_15 ?_
    refine g_topi (fun e15 ee15 => ?_)
    obtain rfl : e15 = nI (bg + ln) := ee15.trans (nI_add _ _)
    refine g_callS cx (As := [.ref v, .int (nI bg), .int (nI (bg + ln))]) (n := 3) (pj_copyRange (f := f) (n := n) (bg := bg) (en := bg + ln) (by omega) (by omega)) d_21_47_16 t_548 t_290 t_12 t_291 ⟨by decide, by decide, by decide +kernel⟩ rfl ⟨rfl, hp⟩ ⟨Nat.le_of_ble_eq_true rfl, Nat.le_of_ble_eq_true rfl⟩ (Nat.le_of_ble_eq_true rfl) ⟨Nat.le_of_ble_eq_true rfl, by show bg + ln - bg ≤ 36; omega⟩ (fun v16 h16 r16 => ?_) (fun x16 h16 r16 => by obtain ⟨q9, f9, e9, -⟩ := r16; cases e9)
    obtain ⟨q16, f16, e16, hq16, hz16, hft16, hfc16, rfl⟩ := r16
    cases e16
    rw [show bg + ln - bg = ln by omega]
    refine t_push (q := (40, ln, cd)) hT hq16 hz16 (okc.ob (by show ¬ (23 ≤ 40 ∧ 40 ≤ 29); decide) (by show ¬ (33 ≤ 40 ∧ 40 ≤ 39); decide) ⟨f16, rfl, hft16, fun j hj => (hfc16 j (by have : j < ln := hj; omega)).trans (hfd j hj)⟩) (fun K h hT ev hk16 hm16 he16 hol16 => ?_)
    obtain ⟨hr7, hm7, he7⟩ := Ev.rawm ev hr7 hm7 he7
    replace hE := hE.tr ev
    have hv40 : Ty K h 40 q16 := ⟨hm16, congrArg Prod.fst hk16⟩
    have hv4n : (K q16).2 = (ln, cd) := congrArg Prod.snd hk16
    refine g_iconst cx (v := 0) d_21_47_19 (by decide) ?_
    refine g_callI cx (ret' := none) (As := [.ref q16, .int 0]) (n := 2) (tj_strInit (n := ln) (cd := cd) (by omega) hcd) d_21_47_20 t_549 t_550 t_4 t_551 rfl ⟨by decide, by decide, by decide +kernel⟩ rfl ⟨rfl, hT, ⟨⟨hr7, hm7, he7⟩, ⟨hv40, hv4n⟩⟩⟩ ⟨Nat.le_of_ble_eq_true rfl, Nat.le_of_ble_eq_true rfl⟩ (Nat.le_of_ble_eq_true rfl) ⟨Nat.zero_le _, Nat.zero_le _⟩ (fun v20 h r20 => ?_) (fun x20 h r20 => by obtain ⟨K9, -, -, e9⟩ := r20; cases e9.1)
    obtain ⟨K, hT, ev, rel20⟩ := r20
    obtain ⟨e20, hn20⟩ := rel20
    cases e20
    replace hE := hE.trN hN7 ev
    exact g_aret cx d_21_47_23 rfl (Or.inl ⟨_, rfl⟩) (Or.inr ⟨_, rfl⟩) ⟨K, hT, hE, _, rfl, hn20⟩
  · skip
    have hl0 : ln = 0 := (nI_eq (by omega) (by decide)).mp c1
    refine g_ldcS cx d_21_47_4 cx.ee.2.2.2.2.2.2.2.2.1 ?_
    exact g_aret cx d_21_47_6 rfl (Or.inl ⟨_, rfl⟩) (Or.inr ⟨_, rfl⟩) ⟨K, hT, hE, _, rfl, ⟨hT.2.1, hT.2.2.1.trans hl0.symm, Or.inr rfl⟩, fun z => absurd z (by omega), hcd⟩
theorem Tc.byt {h : hp} {a n cd : Nat} (hT : TP D z0 k K B T h) (q : Tc k K h a n cd) : ∃ v, StrP D k h a v n ∧ BaF D k h v n cd ∧ (0 < n → ∃ f, ByF D h v n f ∧ ∀ j, j < n → f j = nI (chr cd j)) := by
  obtain ⟨q, qc, ql⟩ := q
  rcases q.2.2 with q3 | rfl
  · obtain ⟨v2, x, y, e1, ⟨e2, e3⟩, e4, e5, e6⟩ : ∃ (v : Nat) (x y : Int32), h.2 a = .inr (3, [.ref v, .int 0, .int x, .int y]) ∧ (v ∈ h.1 ∧ (K v).1 = 40) ∧ (K v).2 = (K a).2 ∧ (K a).2.1 ≤ 30 ∧ (K a).2.2 < 128 ^ (K a).2.1 := TP.o (κ := 3) hT ⟨q3, q.1⟩
    obtain ⟨f, g1, g2, g3⟩ : ∃ f : Nat → Int32, h.2 v2 = .inl (D.1 104, (K v2).2.1, .inl f) ∧ sb_Fit f ∧ ∀ j, j < (K v2).2.1 → f j = nI (chr (K v2).2.2 j) := TP.o (κ := 40) hT ⟨e2, e3⟩
    have q2 : (K a).2.1 = n := q.2.1
    rw [e4, q2] at g1
    rw [e4, q2] at g3
    refine ⟨v2, Or.inl ⟨x, y, f, q3, e1, e2, g1, g2, by omega⟩, Or.inl ⟨f, e2, g1, by omega, fun j hj => ?_⟩, fun h0 => ⟨f, ⟨e2, g1, g2, by omega⟩, fun j hj => ?_⟩⟩
    · rw [g3 j hj, qc (by omega)]
    · rw [g3 j hj, qc h0]
  · have hn : n = 0 := q.2.1.symm.trans hT.2.2.1
    subst hn
    have hc0 : cd = 0 := by rw [Nat.pow_zero] at ql; omega
    exact ⟨k 30, Or.inr ⟨0, by decide, rfl, rfl, rfl⟩, Or.inr ⟨0, by decide, rfl, rfl, hc0⟩, fun h0 => absurd h0 (by omega)⟩
theorem TP.tc {h : hp} {w n : Nat} (t : TP D z0 k K B T h) (q : Tw k K h w n) : ∃ cd, Tc k K h w n cd := by
  rcases q.2.2 with q3 | rfl
  · obtain ⟨v2, x, y, e1, ⟨e2, e3⟩, e4, e5, e6⟩ : ∃ (v : Nat) (x y : Int32), h.2 w = .inr (3, [.ref v, .int 0, .int x, .int y]) ∧ (v ∈ h.1 ∧ (K v).1 = 40) ∧ (K v).2 = (K w).2 ∧ (K w).2.1 ≤ 30 ∧ (K w).2.2 < 128 ^ (K w).2.1 := TP.o (κ := 3) t ⟨q3, q.1⟩
    exact ⟨(K w).2.2, q, fun _ => rfl, by rw [← q.2.1]; exact e6⟩
  · exact ⟨0, q, fun h0 => absurd (q.2.1.symm.trans t.2.2.1) (by omega), Nat.pow_pos (by decide)⟩
set_option maxHeartbeats 8000000 in
theorem tj_substring {a n bg en cd : Nat} (hbe : bg ≤ en) (hen : en ≤ n) : TC l y_106 prog_19_method_92_code 5 (Option.some (Jvm.ClassFile.FieldType.object "java/lang/String")) (rmT 8 2 40) D z0 k [.ref a, .int (nI bg), .int (nI en)] K (B) (T) (fun h => Tc k K h a n cd) (B) (T) (X0) (fun o K' h' => ∃ r : Nat, o = .returned (some (.ref r)) ∧ Tc k K' h' r (en - bg) (sub cd bg (en - bg))) := by
  refine tc_of (by decide) (Nat.le_of_ble_eq_true rfl) ?_
  intro h hT hp p e s m args below meth c cx hnm
  have hE : Ev k (X0) K h K h := Ev.rf
  have hle := Tw.le hp.1 hT
  obtain ⟨v, hs, hfa, hby⟩ := Tc.byt hT hp
  refine g_aload_n cx 0 d_19_92_0 rfl rfl ?_
  refine g_pcVS cx (As := []) (n := 0) (pj_length (n := n)) d_19_92_1 t_541 t_391 t_392 t_4 t_393 rfl (by decide +kernel) rfl hs ⟨_, hs⟩ ⟨Nat.le_of_ble_eq_true rfl, Nat.le_of_ble_eq_true rfl⟩ (Nat.le_of_ble_eq_true rfl) (fun v1 r1 => ?_)
  subst r1
  refine g_istore_n cx (lv' := [(3, .int (nI n)), (0, .ref a), (1, .int (nI bg)), (2, .int (nI en))]) d_19_92_4 rfl (by decide) rfl ?_
  refine g_iload_n cx 2 d_19_92_5 rfl rfl ?_
  refine g_iload_n cx 3 d_19_92_6 rfl rfl ?_
  refine g_iload_n cx 0 d_19_92_7 rfl rfl ?_
  refine g_pcS cx (As := [.int (nI bg), .int (nI en), .int (nI n)]) (n := 3) (pj_bounds hbe hen (by omega)) d_19_92_8 t_542 t_365 t_4 t_366 ⟨by decide, by decide, by decide +kernel⟩ rfl trivial ⟨Nat.le_of_ble_eq_true rfl, Nat.le_of_ble_eq_true rfl⟩ (Nat.le_of_ble_eq_true rfl) (fun v8 r8 => ?_)
  subst r8
  refine g_iload_n cx 2 d_19_92_11 rfl rfl ?_
  refine g_if_ne cx d_19_92_12 rfl (fun c12 => ?_) (fun c12 => ?_)
  · skip
    have hn0 : 0 < n := by
      refine Nat.pos_of_ne_zero (fun z => ?_)
      obtain rfl : bg = 0 := by omega
      obtain rfl : en = 0 := by omega
      first
        | exact c12 rfl
        | (subst z; exact c17 rfl)
    refine g_iload_n cx 3 d_19_92_22 rfl rfl ?_
    refine g_iload_n cx 2 d_19_92_23 rfl rfl ?_
    refine g_isub cx d_19_92_24 ?_
    refine g_topi (fun l4 el4 => ?_)
    obtain rfl : l4 = nI (en - bg) := el4.trans (pk_sub hbe)
    refine g_istore cx (lv' := [(4, .int (nI (en - bg))), (3, .int (nI n)), (0, .ref a), (1, .int (nI bg)), (2, .int (nI en))]) d_19_92_25 (by decide) rfl ?_
    refine g_aload_n cx 2 d_19_92_27 rfl rfl ?_
    refine g_pcVS cx (As := []) (n := 0) (pj_isLatin1 (n := n)) d_19_92_28 t_524 t_525 t_526 t_4 t_527 rfl (by decide +kernel) rfl hs ⟨_, hs⟩ ⟨Nat.le_of_ble_eq_true rfl, Nat.le_of_ble_eq_true rfl⟩ (Nat.le_of_ble_eq_true rfl) (fun v28 r28 => ?_)
    subst r28
    refine g_if_eq cx d_19_92_31 rfl (fun c31 => absurd c31 (by decide)) (fun c31 => ?_)
    refine g_aload_n cx 2 d_19_92_34 rfl rfl ?_
    refine g_gvS cx d_19_92_35 t_453 hs ?_
    refine g_iload_n cx 3 d_19_92_38 rfl rfl ?_
    refine g_iload cx 0 d_19_92_39 rfl ?_
    obtain ⟨f, hbyf, hfc⟩ := hby hn0
    refine g_callS cx (As := [.ref v, .int (nI bg), .int (nI (en - bg))]) (n := 3) (tj_newString (f := f) (cd := (sub cd bg (en - bg))) (n := n) (bg := bg) (ln := (en - bg)) (by omega) (by omega) sub_lt (fun j hj => (hfc (bg + j) (by omega)).trans (by rw [chr_sub hj]))) d_19_92_41 t_543 t_544 t_14 t_545 ⟨by decide, by decide, by decide +kernel⟩ rfl ⟨rfl, hT, hbyf⟩ ⟨Nat.le_of_ble_eq_true rfl, Nat.le_of_ble_eq_true rfl⟩ (Nat.le_of_ble_eq_true rfl) ⟨Nat.le_of_ble_eq_true rfl, Nat.le_of_ble_eq_true rfl⟩ (fun v41 h r41 => ?_) (fun x41 h r41 => by obtain ⟨K9, -, -, r9, e9, -⟩ := r41; cases e9)
    obtain ⟨K, hT, ev, rel41⟩ := r41
    obtain ⟨z41, e41, hx41⟩ := rel41
    cases e41
    have hp := Ev.tc ev hp
    replace hE := hE.tr ev
    refine g_goto cx d_19_92_44 rfl ?_
    exact g_aret cx d_19_92_57 rfl (Or.inl ⟨_, rfl⟩) (Or.inr ⟨_, rfl⟩) ⟨K, hT, hE, _, rfl, hx41⟩
  · skip
    have hb0 : bg = 0 := (nI_eq (by omega) (by decide)).mp c12
    refine g_iload_n cx 3 d_19_92_15 rfl rfl ?_
    refine g_iload_n cx 0 d_19_92_16 rfl rfl ?_
    refine g_icmp_ne cx d_19_92_17 rfl (fun c17 => ?_) (fun c17 => ?_)
    · skip
      have hn0 : 0 < n := by
        refine Nat.pos_of_ne_zero (fun z => ?_)
        obtain rfl : bg = 0 := by omega
        obtain rfl : en = 0 := by omega
        first
          | exact c12 rfl
          | (subst z; exact c17 rfl)
      refine g_iload_n cx 3 d_19_92_22 rfl rfl ?_
      refine g_iload_n cx 2 d_19_92_23 rfl rfl ?_
      refine g_isub cx d_19_92_24 ?_
      refine g_topi (fun l4 el4 => ?_)
      obtain rfl : l4 = nI (en - bg) := el4.trans (pk_sub hbe)
      refine g_istore cx (lv' := [(4, .int (nI (en - bg))), (3, .int (nI n)), (0, .ref a), (1, .int (nI bg)), (2, .int (nI en))]) d_19_92_25 (by decide) rfl ?_
      refine g_aload_n cx 2 d_19_92_27 rfl rfl ?_
      refine g_pcVS cx (As := []) (n := 0) (pj_isLatin1 (n := n)) d_19_92_28 t_524 t_525 t_526 t_4 t_527 rfl (by decide +kernel) rfl hs ⟨_, hs⟩ ⟨Nat.le_of_ble_eq_true rfl, Nat.le_of_ble_eq_true rfl⟩ (Nat.le_of_ble_eq_true rfl) (fun v28 r28 => ?_)
      subst r28
      refine g_if_eq cx d_19_92_31 rfl (fun c31 => absurd c31 (by decide)) (fun c31 => ?_)
      refine g_aload_n cx 2 d_19_92_34 rfl rfl ?_
      refine g_gvS cx d_19_92_35 t_453 hs ?_
      refine g_iload_n cx 3 d_19_92_38 rfl rfl ?_
      refine g_iload cx 0 d_19_92_39 rfl ?_
      obtain ⟨f, hbyf, hfc⟩ := hby hn0
      refine g_callS cx (As := [.ref v, .int (nI bg), .int (nI (en - bg))]) (n := 3) (tj_newString (f := f) (cd := (sub cd bg (en - bg))) (n := n) (bg := bg) (ln := (en - bg)) (by omega) (by omega) sub_lt (fun j hj => (hfc (bg + j) (by omega)).trans (by rw [chr_sub hj]))) d_19_92_41 t_543 t_544 t_14 t_545 ⟨by decide, by decide, by decide +kernel⟩ rfl ⟨rfl, hT, hbyf⟩ ⟨Nat.le_of_ble_eq_true rfl, Nat.le_of_ble_eq_true rfl⟩ (Nat.le_of_ble_eq_true rfl) ⟨Nat.le_of_ble_eq_true rfl, Nat.le_of_ble_eq_true rfl⟩ (fun v41 h r41 => ?_) (fun x41 h r41 => by obtain ⟨K9, -, -, r9, e9, -⟩ := r41; cases e9)
      obtain ⟨K, hT, ev, rel41⟩ := r41
      obtain ⟨z41, e41, hx41⟩ := rel41
      cases e41
      have hp := Ev.tc ev hp
      replace hE := hE.tr ev
      refine g_goto cx d_19_92_44 rfl ?_
      exact g_aret cx d_19_92_57 rfl (Or.inl ⟨_, rfl⟩) (Or.inr ⟨_, rfl⟩) ⟨K, hT, hE, _, rfl, hx41⟩
    · skip
      have he0 : en = n := (nI_eq (by omega) (by omega)).mp c17
      refine g_aload_n cx 1 d_19_92_20 rfl rfl ?_
      exact g_aret cx d_19_92_21 rfl (Or.inl ⟨_, rfl⟩) (Or.inr ⟨_, rfl⟩) ⟨K, hT, hE, _, rfl, by rw [hb0, he0, Nat.sub_zero, sub_0 hp.2.2]; exact hp⟩
end J3
