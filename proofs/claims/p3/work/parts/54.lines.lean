/-! Imports, pairs, lines and drop, with exact answers. -/
section LNS
variable {D : va_G} {z0 : Nat} {k : Nat → Nat} {K K' : KM} {h h' : hp} {B T lr : Nat} {rz az nt : Nat → Nat} {X : Nat → Prop} {S S' : SL} {Do Do' : Int32 → SL → Prop} {an : Int32} {pn : Nat} {n c : Nat → Nat}
/-- what line leaves: an empty builder, and the answer -/
def RLA (D : va_G) (k : Nat → Nat) (Sb : Nat → Prop) (ab lr : Nat) (Do : Int32 → SL → Prop) : Outcome → KM → hp → Prop := fun o K h => (∃ v cap, BK D K h Sb ab v 0 cap 0) ∧ AX D k lr Do o K h
theorem lineOutA {K0 : KM} {h0 h1 : hp} {e Sb : Nat → Prop} {o : Outcome} {ab v cap : Nat} (hE : Ev k (XP e PK K0) K0 h0 K h) (hbk : BK D K h Sb ab v 0 cap 0) (q : TQ D z0 k K h B T (XD K) (AX D k lr Do) o h1) (hM : ∀ an S', Do an S' → Do' an S') : TQ D z0 k K0 h0 B T (XP e PK K0) (RLA D k Sb ab lr Do') o h1 := by
  obtain ⟨K2, t, ev, r⟩ := q
  exact ⟨K2, t, Ev.trP hE (xw ev), ⟨v, cap, hbk.mvD ev⟩, r.mp hM⟩
theorem StpL.o (hp : pn = 1) (q : DoOO S (n 0) (c 0) an S') : StpL pn n c S an S' := by
  rcases q with q | ⟨q1, q2⟩
  · exact Or.inr (Or.inl ⟨hp, q⟩)
  · refine Or.inr (Or.inr (Or.inr (Or.inr (Or.inr (Or.inr (Or.inr (Or.inr ⟨⟨by omega, fun _ => q1, fun z => by omega, fun z => by omega⟩, q2⟩)))))))
theorem StpL.pr (hp : pn = 2) (q : DoPr S (n 0) (c 0) (n 1) (c 1) an S') : StpL pn n c S an S' := by
  rcases q with q | q | q | q | q | ⟨q1, q2⟩
  · exact Or.inr (Or.inr (Or.inl ⟨hp, q⟩))
  · exact Or.inr (Or.inr (Or.inr (Or.inl ⟨hp, q⟩)))
  · exact Or.inr (Or.inr (Or.inr (Or.inr (Or.inl ⟨hp, q⟩))))
  · exact Or.inr (Or.inr (Or.inr (Or.inr (Or.inr (Or.inl ⟨hp, q⟩)))))
  · exact Or.inr (Or.inr (Or.inr (Or.inr (Or.inr (Or.inr (Or.inl ⟨hp, q⟩))))))
  · refine Or.inr (Or.inr (Or.inr (Or.inr (Or.inr (Or.inr (Or.inr (Or.inr ⟨⟨by omega, fun z => by omega, fun _ => q1, fun z => by omega⟩, q2⟩)))))))
theorem StpL.fo (hp : pn = 4) (q : DoFo S n c an S') : StpL pn n c S an S' := by
  rcases q with q | ⟨q1, q2⟩
  · exact Or.inr (Or.inr (Or.inr (Or.inr (Or.inr (Or.inr (Or.inr (Or.inl ⟨hp, q⟩)))))))
  · refine Or.inr (Or.inr (Or.inr (Or.inr (Or.inr (Or.inr (Or.inr (Or.inr ⟨⟨by omega, fun z => by omega, fun z => by omega, fun _ => q1⟩, q2⟩)))))))
theorem StpL.x (h0 : pn ≠ 0) (h1 : pn ≠ 1) (h2 : pn ≠ 2) (h4 : pn ≠ 4) : StpL pn n c S (-1) S := Or.inr (Or.inr (Or.inr (Or.inr (Or.inr (Or.inr (Or.inr (Or.inr ⟨⟨h0, fun z => absurd z h1, fun z => absurd z h2, fun z => absurd z h4⟩, rfl, rfl⟩)))))))
/-- a cell of kind 6 is changed: lists and texts stay -/
theorem LsK.put6 {y la κ m : Nat} {es : Nat → Nat} {v : Nat × Nat × Nat} {e : va_E} (q : LsK D K h la κ m es) (hy : (K y).1 = 6) (hk : 23 ≤ κ ∧ κ ≤ 29) : LsK D (va_up K y v) (h.1, va_up h.2 y e) la κ m es := by
  obtain ⟨l1, l2, ea, n, mo, l3, l4⟩ := q
  have hne : ∀ z, (K z).1 ≠ 6 → z ≠ y := fun z hz x => hz (by rw [x]; exact hy)
  have hla : la ≠ y := hne la (by rw [l1.2]; omega)
  refine ⟨⟨l1.1, by rw [va_up_ne _ _ hla]; exact l1.2⟩, by rw [va_up_ne _ _ hla]; exact l2, ea, n, mo, (va_up_ne _ _ hla).trans l3, l4.imp id (fun w => ?_)⟩
  have hea : ea ≠ y := hne ea (by rw [w.2.1]; omega)
  refine ⟨w.1, by rw [va_up_ne _ _ hea]; exact w.2.1, ?_⟩
  obtain ⟨c, f, g1, g2⟩ := w.2.2
  exact ⟨c, f, (va_up_ne _ _ hea).trans g1, g2⟩
theorem Tc.put6 {y w n cd : Nat} {v : Nat × Nat × Nat} {e : va_E} (q : Tc k K h w n cd) (hy : (K y).1 = 6) : Tc k (va_up K y v) (h.1, va_up h.2 y e) w n cd := by
  have hw : w ≠ y := fun x => by
    have h1 := q.1.1
    rw [x, hy] at h1
    exact absurd h1 (by decide)
  unfold Tc Tw
  rw [va_up_ne _ _ hw]
  exact q
theorem Ty.put6 {y a κ : Nat} {v : Nat × Nat × Nat} {e : va_E} (q : Ty K h κ a) (hy : (K y).1 = 6) (hk : κ ≠ 6) : Ty (va_up K y v) (h.1, va_up h.2 y e) κ a ∧ va_up K y v a = K a := by
  have ha : a ≠ y := fun x => hk (q.2.symm.trans (by rw [x]; exact hy))
  have e := va_up_ne K v ha
  exact ⟨⟨q.1, by rw [e]; exact q.2⟩, e⟩
theorem CQ.drop {j : Nat} {e : va_E} (Q : CQ D k K h lr S rz az nt) (hj : j < S 0 0) : CQ D k (va_up K (rz j) (6, (K (rz j)).2.1, 2 * ((K (rz j)).2.2 / 2) + 1)) (h.1, va_up h.2 (rz j) e) lr (dropS S j) rz az nt := by
  obtain ⟨q1, q2, q3, q4⟩ := Q
  have hy := (q1.2.1 j hj).1.2
  obtain ⟨v, hv⟩ : ∃ v, v = (6, (K (rz j)).2.1, 2 * ((K (rz j)).2.2 / 2) + 1) := ⟨_, rfl⟩
  have hlr := Ty.put6 (v := v) (e := e) q1.1.1 hy (by decide)
  have hdiv : ∀ z, (va_up K (rz j) v z).2.2 / 2 = (K z).2.2 / 2 := fun z => by
    by_cases ez : z = rz j
    · rw [ez, va_up_self, hv]
      show (2 * ((K (rz j)).2.2 / 2) + 1) / 2 = _
      omega
    · rw [va_up_ne _ _ ez]
  rw [← hv]
  refine ⟨⟨q1.1.put6 hy (by decide), fun i hi => ?_, q1.2.2⟩, ?_, fun h0 => ?_, fun h0 => ⟨?_, (q4 h0).2⟩⟩
  · obtain ⟨a1, a2, a3, a4⟩ := q1.2.1 i hi
    show Ty _ _ 6 (rz i) ∧ Tc k _ _ _ (S 1 i) (S 2 i) ∧ WordOk (S 1 i) (S 2 i) ∧ _ = va_up (S 3) j 1 i
    by_cases ei : i = j
    · subst ei
      rw [va_up_self, va_up_self, hv]
      refine ⟨⟨a1.1, by rw [va_up_self]⟩, a2.put6 hy, a3, ?_⟩
      show (2 * ((K (rz i)).2.2 / 2) + 1) % 2 = 1
      omega
    · have hr : rz i ≠ rz j := fun x => ei (q1.2.2 i j hi hj x)
      rw [va_up_ne _ _ ei, va_up_ne _ _ hr]
      exact ⟨⟨a1.1, by rw [va_up_ne _ _ hr]; exact a1.2⟩, a2.put6 hy, a3, a4⟩
  · rw [hlr.2]
    refine ⟨q2.1.put6 hy (by decide), fun i hi => ?_, q2.2.2⟩
    obtain ⟨a1, a2, a3⟩ := q2.2.1 i hi
    have hb := Ty.put6 (v := v) (e := e) a1 hy (by decide)
    refine ⟨hb.1, ?_, a3⟩
    rw [hb.2]
    exact a2.put6 hy
  · have h0' : 0 < S 4 0 := h0
    show NQz D k _ _ (va_up K (rz j) v (az (S 4 0 - 1))).2.2 (S 7 0) nt (S 8) (S 9)
    have hb := Ty.put6 (v := v) (e := e) (q2.2.1 (S 4 0 - 1) (by omega)).1 hy (by decide)
    rw [hb.2]
    refine ⟨(q3 h0').1.put6 hy (by decide), fun t ht => ?_⟩
    obtain ⟨a1, a2, a3⟩ := (q3 h0').2 t ht
    have hc := Ty.put6 (v := v) (e := e) a1 hy (by decide)
    refine ⟨hc.1, ?_, a3⟩
    rw [hc.2]
    exact a2.put6 hy
  · have h0' : 0 < S 0 0 := h0
    show HQz D _ _ ((va_up K (rz j) v (rz (S 0 0 - 1))).2.2 / 2) (S 10 0) (fun t => az (S 11 t)) (S 12 0)
    rw [hdiv]
    obtain ⟨b1, b2, b3⟩ := (q4 h0').1
    have hb := Ty.put6 (v := v) (e := e) b1 hy (by decide)
    refine ⟨hb.1, by rw [hb.2]; exact b2, ?_⟩
    rw [hb.2]
    exact b3.put6 hy (by decide)
end LNS
section F6
variable {l : Launch} {D : va_G} {z0 : Nat} {k : Nat → Nat} {K : KM} {B T : Nat}
set_option maxHeartbeats 8000000 in
theorem tc_insertF {a b im nc : Nat} {x0 x1 x2 x4 x5 x6 x7 x8 : Value} (hB : B < 2 ^ 17) (hlt : nc < 4) : TC l y_140 prog_5_method_3_code 3 (Option.none) (rmT 10 1 20) D z0 k [.ref a, .ref b] K (B) (T) (fun h => a ∈ h.1 ∧ h.2 a = .inr (6, [x0, x1, x2, .ref im, x4, x5, x6, x7, x8]) ∧ Ty K h 27 im ∧ Ty K h 7 b ∧ (K im).2.2 = nc) (B) (T) (XP (fun z => z = im) (fun κ => κ = 7 + 30) K) (fun o K' h' => o = .returned none ∧ (K' im).2.2 = nc + 1) := by
  refine tc_of (by decide) (Nat.le_of_ble_eq_true rfl) ?_
  intro h hT hp p e s m args below meth c cx hnm
  have hE : Ev k (XP (fun z => z = im) (fun κ => κ = 7 + 30) K) K h K h := Ev.rf
  obtain ⟨hma, hea, him, hb, hnc⟩ := hp
  have lp : ∀ (n0 j : Nat), nc - j < n0 → j ≤ nc → G p l e (rmT 10 1 20) s m args below meth c 3 D z0 (EE z0 k) (TQ D z0 k K h B T (XP (fun z => z = im) (fun κ => κ = 7 + 30) K) (fun o K' h' => o = .returned none ∧ (K' im).2.2 = nc + 1)) 1 20 2 [(2, .int (nI j)), (0, .ref a), (1, .ref b)] [] h 1 20 := by
    intro n0
    induction n0 with
    | zero => intro j hj; exact absurd hj (Nat.not_lt_zero _)
    | succ n0 ih =>
      intro j hj0 hjn
      refine g_iload_n cx 0 d_5_3_2 rfl rfl ?_
      refine g_aload_n cx 1 d_5_3_3 rfl rfl ?_
      refine g_getf cx (k := 3) d_5_3_4 in6 rfl (by decide) t_734 (Or.inl rfl) hma hea rfl ?_
      obtain ⟨⟨ea7, mo7, hm7, hl7⟩, hb7⟩ := TP.n27 hT him
      refine g_pcV cx (As := []) (n := 0) (pj_size (n := (K im).2.2)) d_5_3_7 t_774 t_236 t_237 t_8 t_238 ⟨by decide, by decide, by decide +kernel⟩ rfl (ci := 2) rfl hm7 hl7 ⟨ea7, mo7, hm7, hl7⟩ ⟨Nat.le_of_ble_eq_true rfl, Nat.le_of_ble_eq_true rfl⟩ (Nat.le_of_ble_eq_true rfl) (fun v7 r7 => ?_)
      subst r7
      refine g_icmp_ge cx d_5_3_10 rfl (fun c10 => ?_) (fun c10 => ?_)
      · skip
        refine g_aload_n cx 1 d_5_3_46 rfl rfl ?_
        refine g_getf cx (k := 3) d_5_3_47 in6 rfl (by decide) t_734 (Or.inl rfl) hma hea rfl ?_
        refine g_iload_n cx 0 d_5_3_50 rfl rfl ?_
        refine g_aload_n cx 2 d_5_3_51 rfl rfl ?_
        obtain ⟨⟨ea52, mo52, hm52, hl52⟩, hb52⟩ := TP.n27 hT him
        refine g_callV cx (As := [.int (nI j), .ref b]) (n := 2) (tj_addAt (B := B) (n := nc) (ce := 7) (g := 20) (j := j) (by decide) (by rw [show bd (7 + 20) B = 4 from rfl]; omega) (by omega) (by rw [show bd (7 + 20) B = 4 from rfl]; omega) ((by omega))) d_5_3_52 t_813 t_814 t_815 t_8 t_816 ⟨by decide, by decide, by decide +kernel⟩ rfl (ci := 2) rfl hm52 hl52 ⟨rfl, hT, him, hb, hnc⟩ ⟨Nat.le_of_ble_eq_true rfl, Nat.le_of_ble_eq_true rfl⟩ (Nat.le_of_ble_eq_true rfl) ⟨Nat.le_of_ble_eq_true rfl, Nat.le_of_ble_eq_true rfl⟩ (fun v52 h r52 => ?_) (fun x52 h r52 => by obtain ⟨K9, -, -, e9, -⟩ := r52; cases e9)
        obtain ⟨K, hT, ev, e52, hnew52⟩ := r52
        cases e52
        exact g_vret cx d_5_3_55 rfl ⟨K, hT, ev, rfl, hnew52⟩
      · skip
        have hj : j < (K im).2.2 := Nat.lt_of_not_le (fun q => c10 (nI_le q (by omega)))
        refine g_aload_n cx 1 d_5_3_13 rfl rfl ?_
        refine g_getf cx (k := 3) d_5_3_14 in6 rfl (by decide) t_734 (Or.inl rfl) hma hea rfl ?_
        refine g_iload_n cx 0 d_5_3_17 rfl rfl ?_
        obtain ⟨⟨ea18, mo18, hm18, hl18⟩, hb18⟩ := TP.n27 hT him
        refine g_callV cx (As := [.int (nI j)]) (n := 1) (gj_get (K := K) (B := B) (T := T) (ce := 7) (j := j) (by decide) (by omega)) d_5_3_18 t_775 t_240 t_241 t_8 t_242 ⟨by decide, by decide, by decide +kernel⟩ rfl (ci := 2) rfl hm18 hl18 ⟨rfl, hT, him, hj⟩ ⟨Nat.le_of_ble_eq_true rfl, Nat.le_of_ble_eq_true rfl⟩ (Nat.le_of_ble_eq_true rfl) ⟨Nat.zero_le _, Nat.zero_le _⟩ (fun v18 h r18 => ?_) (fun x18 h r18 => by obtain ⟨-, y9, e9, -⟩ := r18; cases e9)
        obtain ⟨rfl, y18, e18, hy18⟩ := r18
        cases e18
        replace hy18 : Ty K h 7 y18 := hy18
        obtain ⟨w21, r21, he21, hw21, hr21⟩ := TP.o (κ := 7) hT hy18
        obtain ⟨nw21, hw21⟩ : ∃ n, Tw k K h w21 n := ⟨_, Tx.tx hw21⟩
        refine g_ccast cx (ci := 7) d_5_3_21 t_811 rfl hy18.1 he21 ?_
        refine g_getf cx (k := 0) d_5_3_24 in7 rfl (by decide) t_798 (Or.inl rfl) hy18.1 he21 rfl ?_
        obtain ⟨v27, hs27⟩ := TP.str hT hw21
        refine g_pcVS cx (As := []) (n := 0) (pj_length (n := nw21)) d_5_3_27 t_812 t_391 t_392 t_4 t_393 rfl (by decide +kernel) rfl hs27 ⟨_, hs27⟩ ⟨Nat.le_of_ble_eq_true rfl, Nat.le_of_ble_eq_true rfl⟩ (Nat.le_of_ble_eq_true rfl) (fun v27 r27 => ?_)
        subst r27
        refine g_aload_n cx 2 d_5_3_30 rfl rfl ?_
        obtain ⟨w31, r31, he31, hw31, hr31⟩ := TP.o (κ := 7) hT hb
        obtain ⟨nw31, hw31⟩ : ∃ n, Tw k K h w31 n := ⟨_, Tx.tx hw31⟩
        refine g_getf cx (k := 0) d_5_3_31 in7 rfl (by decide) t_798 (Or.inl rfl) hb.1 he31 rfl ?_
        obtain ⟨v34, hs34⟩ := TP.str hT hw31
        refine g_pcVS cx (As := []) (n := 0) (pj_length (n := nw31)) d_5_3_34 t_812 t_391 t_392 t_4 t_393 rfl (by decide +kernel) rfl hs34 ⟨_, hs34⟩ ⟨Nat.le_of_ble_eq_true rfl, Nat.le_of_ble_eq_true rfl⟩ (Nat.le_of_ble_eq_true rfl) (fun v34 r34 => ?_)
        subst r34
        refine g_icmp_lt cx d_5_3_37 rfl (fun c37 => ?_) (fun c37 => ?_)
        · skip
          refine g_aload_n cx 1 d_5_3_46 rfl rfl ?_
          refine g_getf cx (k := 3) d_5_3_47 in6 rfl (by decide) t_734 (Or.inl rfl) hma hea rfl ?_
          refine g_iload_n cx 0 d_5_3_50 rfl rfl ?_
          refine g_aload_n cx 2 d_5_3_51 rfl rfl ?_
          obtain ⟨⟨ea52, mo52, hm52, hl52⟩, hb52⟩ := TP.n27 hT him
          refine g_callV cx (As := [.int (nI j), .ref b]) (n := 2) (tj_addAt (B := B) (n := nc) (ce := 7) (g := 20) (j := j) (by decide) (by rw [show bd (7 + 20) B = 4 from rfl]; omega) (by omega) (by rw [show bd (7 + 20) B = 4 from rfl]; omega) ((by omega))) d_5_3_52 t_813 t_814 t_815 t_8 t_816 ⟨by decide, by decide, by decide +kernel⟩ rfl (ci := 2) rfl hm52 hl52 ⟨rfl, hT, him, hb, hnc⟩ ⟨Nat.le_of_ble_eq_true rfl, Nat.le_of_ble_eq_true rfl⟩ (Nat.le_of_ble_eq_true rfl) ⟨Nat.le_of_ble_eq_true rfl, Nat.le_of_ble_eq_true rfl⟩ (fun v52 h r52 => ?_) (fun x52 h r52 => by obtain ⟨K9, -, -, e9, -⟩ := r52; cases e9)
          obtain ⟨K, hT, ev, e52, hnew52⟩ := r52
          cases e52
          exact g_vret cx d_5_3_55 rfl ⟨K, hT, ev, rfl, hnew52⟩
        · skip
          refine g_iinc cx 0 (lv' := [(2, .int (nI (j + 1))), (0, .ref a), (1, .ref b)]) d_5_3_40 rfl (inc1 j) (by decide) rfl ?_
          refine g_goto cx d_5_3_43 rfl ?_
          exact ih (j + 1) (by omega) (by omega)
  refine g_iconst cx (v := 0) d_5_3_0 (by decide) ?_
  refine g_topi (fun j0 ej0 => ?_)
  obtain rfl : j0 = nI 0 := ej0
  refine g_istore_n cx (lv' := [(2, .int (nI 0)), (0, .ref a), (1, .ref b)]) d_5_3_1 rfl (by decide) rfl ?_
  exact lp (nc + 1) 0 (by omega) (Nat.zero_le _)
set_option maxHeartbeats 8000000 in
theorem tc_addImportF {a w n cd wb nb cb lr : Nat} {S : SL} {rz az nt : Nat → Nat} (hB : B < 2 ^ 17) (htr : l.stackTraces = false) : TC l y_138 prog_1_method_29_code 5 (Option.some Jvm.ClassFile.FieldType.int) (rmT 11 64 1270) D z0 k [.ref a, .ref w, .ref wb] K (B) (T) (fun h => Ty K h 1 a ∧ (K a).2.2 = lr ∧ Tc k K h w n cd ∧ Tc k K h wb nb cb ∧ CQ D k K h lr S rz az nt) (B) (T) (XD K) (AX D k lr (DoI S n cd nb cb)) := by
  refine tc_of (by decide) (Nat.le_of_ble_eq_true rfl) ?_
  intro h hT hp p e s m args below meth c cx hnm
  have hE : Ev k (XD K) K h K h := Ev.rf
  have hB17 := hB
  replace hB : B < 2 ^ 20 := Nat.lt_trans hB (by decide)
  obtain ⟨ha, hlrq, hw, hwb, hQ⟩ := hp
  have hwt := hw.1
  have hwbt := hwb.1
  refine g_aload_n cx 0 d_1_29_0 rfl rfl ?_
  refine g_aload_n cx 2 d_1_29_1 rfl rfl ?_
  obtain ⟨la2, lr2, tr2, tn2, he2, hla2, hlr2, htr2, htn2, hlq2, hlaq2⟩ := TP.o (κ := 1) hT ha
  refine g_callV cx (As := [.ref wb]) (n := 1) (pt_realmWithF (K := K) (B := B) (T := T) (n := nb) (cd := cb) (lr := lr) (S := S) (rz := rz) (az := az) (nt := nt) hB) d_1_29_2 t_487 t_489 ts_3 t_1 t_490 ⟨by decide, by decide, by decide +kernel⟩ rfl (ci := 0) rfl ha.1 he2 ⟨rfl, hT, ha, hlrq, hwb, hQ⟩ ⟨Nat.le_of_ble_eq_true rfl, Nat.le_of_ble_eq_true rfl⟩ (Nat.le_of_ble_eq_true rfl) ⟨Nat.zero_le _, Nat.zero_le _⟩ (fun v2 h r2 => ?_) (fun x2 h r2 => by obtain ⟨-, v9, e9, -⟩ := r2; cases e9)
  obtain ⟨rfl, wo2, e2, r2⟩ := r2
  cases e2
  rcases r2 with ⟨rfl, hnoR⟩ | ⟨y2, j2, rfl, hyq2, hyes2⟩
  · skip
    refine g_astore_nN cx (lv' := [(3, .null), (0, .ref a), (1, .ref w), (2, .ref wb)]) d_1_29_5 rfl (by decide) rfl ?_
    refine g_aload_n cx 1 d_1_29_6 rfl rfl ?_
    refine g_callV cx (As := []) (n := 0) (pt_latestRealmF (K := K) (B := B) (T := T) (lr := lr) (S := S) (rz := rz) (az := az) (nt := nt) hB) d_1_29_7 t_633 t_635 ts_9 t_1 t_636 ⟨by decide, by decide, by decide +kernel⟩ rfl (ci := 0) rfl ha.1 he2 ⟨rfl, hT, ha, hlrq, hQ⟩ ⟨Nat.le_of_ble_eq_true rfl, Nat.le_of_ble_eq_true rfl⟩ (Nat.le_of_ble_eq_true rfl) ⟨Nat.zero_le _, Nat.zero_le _⟩ (fun v7 h r7 => ?_) (fun x7 h r7 => by obtain ⟨-, v9, e9, -⟩ := r7; cases e9)
    obtain ⟨rfl, wo7, e7, r7⟩ := r7
    cases e7
    rcases r7 with ⟨rfl, hzR⟩ | ⟨y7, rfl, hyq7, hpos7⟩
    · skip
      refine g_astoreN cx (lv' := [(4, .null), (3, .null), (0, .ref a), (1, .ref w), (2, .ref wb)]) d_1_29_10 (by decide) rfl ?_
      refine g_aload_n cx 3 d_1_29_12 rfl rfl ?_
      refine g_callS cx (As := [.ref w]) (n := 1) (tc_isNameF (n := n) (cd := cd)) d_1_29_13 t_705 t_706 t_1 t_707 ⟨by decide, by decide, by decide +kernel⟩ rfl ⟨rfl, hT, hw⟩ ⟨Nat.le_of_ble_eq_true rfl, Nat.le_of_ble_eq_true rfl⟩ (Nat.le_of_ble_eq_true rfl) ⟨Nat.le_of_ble_eq_true rfl, Nat.le_of_ble_eq_true rfl⟩ (fun v13 h r13 => ?_) (fun x13 h r13 => by obtain ⟨K9, -, -, x9, e9, -⟩ := r13; cases e9)
      obtain ⟨K, hT, ev, rel13⟩ := r13
      obtain ⟨x13, e13, xb13⟩ := rel13
      cases e13
      replace hQ := hQ.ev ev (fun _ _ => id)
      have ha := Ev.ty ev ha
      have hwt := Ev.tx ev hwt
      have hw := Ev.tc ev hw
      have hwbt := Ev.tx ev hwbt
      have hwb := Ev.tc ev hwb
      replace hE := hE.tr ev
      refine g_if_eq cx d_1_29_16 rfl (fun c16 => ?_) (fun c16 => ?_)
      · skip
        have hnn : ¬ NmOk n cd := by
          rcases xb13 with z | z
          · exact absurd c16 (by rw [z.1]; decide)
          · exact z.2
        have hng : ¬ (NmOk n cd ∧ RGo S nb cb) := by
          first
            | exact fun q => hnn q.1
            | exact fun q => q.2.elim (fun j z => hnoR j z.1.1 z.1.2.1)
            | exact fun ⟨_, j, z1, z2⟩ => z2 (by
                rw [z1.u hyes2]
                exact hQ.1.2.2 _ _ hyes2.1 (Nat.sub_lt hpos7 Nat.one_pos) (by rw [← hyq2, ← hyq7]; exact Option.some.inj c26))
            | exact absurd c26 (fun z => by cases z)
        exact t_iae cx htr d_1_29_29 d_1_29_32 d_1_29_33 d_1_29_36  ⟨Nat.le_of_ble_eq_true rfl, Nat.le_of_ble_eq_true rfl⟩ (Nat.le_of_ble_eq_true rfl) ⟨Nat.le_of_ble_eq_true rfl, Nat.le_of_ble_eq_true rfl⟩ (fun x hx hz => thrA (-1) (Or.inl ⟨rfl, rfl⟩) hT hE hx hz (Or.inl ⟨rfl, rfl, hng⟩) hQ)
      · skip
        have hok : NmOk n cd := by
          rcases xb13 with z | z
          · exact z.2
          · exact absurd z.1 c16
        refine g_aload_nN cx 1 d_1_29_19 rfl rfl ?_
        refine g_ifnullN cx d_1_29_20 rfl ?_
        have hng : ¬ (NmOk n cd ∧ RGo S nb cb) := by
          first
            | exact fun q => hnn q.1
            | exact fun q => q.2.elim (fun j z => hnoR j z.1.1 z.1.2.1)
            | exact fun ⟨_, j, z1, z2⟩ => z2 (by
                rw [z1.u hyes2]
                exact hQ.1.2.2 _ _ hyes2.1 (Nat.sub_lt hpos7 Nat.one_pos) (by rw [← hyq2, ← hyq7]; exact Option.some.inj c26))
            | exact absurd c26 (fun z => by cases z)
        exact t_iae cx htr d_1_29_29 d_1_29_32 d_1_29_33 d_1_29_36  ⟨Nat.le_of_ble_eq_true rfl, Nat.le_of_ble_eq_true rfl⟩ (Nat.le_of_ble_eq_true rfl) ⟨Nat.le_of_ble_eq_true rfl, Nat.le_of_ble_eq_true rfl⟩ (fun x hx hz => thrA (-1) (Or.inl ⟨rfl, rfl⟩) hT hE hx hz (Or.inl ⟨rfl, rfl, hng⟩) hQ)
    · skip
      have hy7 : Ty K h 6 y7 := by rw [hyq7]; exact (hQ.1.2.1 _ (Nat.sub_lt hpos7 Nat.one_pos)).1
      refine g_astore cx (lv' := [(4, .ref y7), (3, .null), (0, .ref a), (1, .ref w), (2, .ref wb)]) d_1_29_10 (by decide) rfl ?_
      refine g_aload_n cx 3 d_1_29_12 rfl rfl ?_
      refine g_callS cx (As := [.ref w]) (n := 1) (tc_isNameF (n := n) (cd := cd)) d_1_29_13 t_705 t_706 t_1 t_707 ⟨by decide, by decide, by decide +kernel⟩ rfl ⟨rfl, hT, hw⟩ ⟨Nat.le_of_ble_eq_true rfl, Nat.le_of_ble_eq_true rfl⟩ (Nat.le_of_ble_eq_true rfl) ⟨Nat.le_of_ble_eq_true rfl, Nat.le_of_ble_eq_true rfl⟩ (fun v13 h r13 => ?_) (fun x13 h r13 => by obtain ⟨K9, -, -, x9, e9, -⟩ := r13; cases e9)
      obtain ⟨K, hT, ev, rel13⟩ := r13
      obtain ⟨x13, e13, xb13⟩ := rel13
      cases e13
      replace hQ := hQ.ev ev (fun _ _ => id)
      have hy7 := Ev.ty ev hy7
      have ha := Ev.ty ev ha
      have hwt := Ev.tx ev hwt
      have hw := Ev.tc ev hw
      have hwbt := Ev.tx ev hwbt
      have hwb := Ev.tc ev hwb
      replace hE := hE.tr ev
      refine g_if_eq cx d_1_29_16 rfl (fun c16 => ?_) (fun c16 => ?_)
      · skip
        have hnn : ¬ NmOk n cd := by
          rcases xb13 with z | z
          · exact absurd c16 (by rw [z.1]; decide)
          · exact z.2
        have hng : ¬ (NmOk n cd ∧ RGo S nb cb) := by
          first
            | exact fun q => hnn q.1
            | exact fun q => q.2.elim (fun j z => hnoR j z.1.1 z.1.2.1)
            | exact fun ⟨_, j, z1, z2⟩ => z2 (by
                rw [z1.u hyes2]
                exact hQ.1.2.2 _ _ hyes2.1 (Nat.sub_lt hpos7 Nat.one_pos) (by rw [← hyq2, ← hyq7]; exact Option.some.inj c26))
            | exact absurd c26 (fun z => by cases z)
        exact t_iae cx htr d_1_29_29 d_1_29_32 d_1_29_33 d_1_29_36  ⟨Nat.le_of_ble_eq_true rfl, Nat.le_of_ble_eq_true rfl⟩ (Nat.le_of_ble_eq_true rfl) ⟨Nat.le_of_ble_eq_true rfl, Nat.le_of_ble_eq_true rfl⟩ (fun x hx hz => thrA (-1) (Or.inl ⟨rfl, rfl⟩) hT hE hx hz (Or.inl ⟨rfl, rfl, hng⟩) hQ)
      · skip
        have hok : NmOk n cd := by
          rcases xb13 with z | z
          · exact z.2
          · exact absurd z.1 c16
        refine g_aload_nN cx 1 d_1_29_19 rfl rfl ?_
        refine g_ifnullN cx d_1_29_20 rfl ?_
        have hng : ¬ (NmOk n cd ∧ RGo S nb cb) := by
          first
            | exact fun q => hnn q.1
            | exact fun q => q.2.elim (fun j z => hnoR j z.1.1 z.1.2.1)
            | exact fun ⟨_, j, z1, z2⟩ => z2 (by
                rw [z1.u hyes2]
                exact hQ.1.2.2 _ _ hyes2.1 (Nat.sub_lt hpos7 Nat.one_pos) (by rw [← hyq2, ← hyq7]; exact Option.some.inj c26))
            | exact absurd c26 (fun z => by cases z)
        exact t_iae cx htr d_1_29_29 d_1_29_32 d_1_29_33 d_1_29_36  ⟨Nat.le_of_ble_eq_true rfl, Nat.le_of_ble_eq_true rfl⟩ (Nat.le_of_ble_eq_true rfl) ⟨Nat.le_of_ble_eq_true rfl, Nat.le_of_ble_eq_true rfl⟩ (fun x hx hz => thrA (-1) (Or.inl ⟨rfl, rfl⟩) hT hE hx hz (Or.inl ⟨rfl, rfl, hng⟩) hQ)
  · skip
    have hy2 : Ty K h 6 y2 := by rw [hyq2]; exact (hQ.1.2.1 j2 hyes2.1).1
    refine g_astore_n cx (lv' := [(3, .ref y2), (0, .ref a), (1, .ref w), (2, .ref wb)]) d_1_29_5 rfl (by decide) rfl ?_
    refine g_aload_n cx 1 d_1_29_6 rfl rfl ?_
    refine g_callV cx (As := []) (n := 0) (pt_latestRealmF (K := K) (B := B) (T := T) (lr := lr) (S := S) (rz := rz) (az := az) (nt := nt) hB) d_1_29_7 t_633 t_635 ts_9 t_1 t_636 ⟨by decide, by decide, by decide +kernel⟩ rfl (ci := 0) rfl ha.1 he2 ⟨rfl, hT, ha, hlrq, hQ⟩ ⟨Nat.le_of_ble_eq_true rfl, Nat.le_of_ble_eq_true rfl⟩ (Nat.le_of_ble_eq_true rfl) ⟨Nat.zero_le _, Nat.zero_le _⟩ (fun v7 h r7 => ?_) (fun x7 h r7 => by obtain ⟨-, v9, e9, -⟩ := r7; cases e9)
    obtain ⟨rfl, wo7, e7, r7⟩ := r7
    cases e7
    rcases r7 with ⟨rfl, hzR⟩ | ⟨y7, rfl, hyq7, hpos7⟩
    · skip
      refine g_astoreN cx (lv' := [(4, .null), (3, .ref y2), (0, .ref a), (1, .ref w), (2, .ref wb)]) d_1_29_10 (by decide) rfl ?_
      refine g_aload_n cx 3 d_1_29_12 rfl rfl ?_
      refine g_callS cx (As := [.ref w]) (n := 1) (tc_isNameF (n := n) (cd := cd)) d_1_29_13 t_705 t_706 t_1 t_707 ⟨by decide, by decide, by decide +kernel⟩ rfl ⟨rfl, hT, hw⟩ ⟨Nat.le_of_ble_eq_true rfl, Nat.le_of_ble_eq_true rfl⟩ (Nat.le_of_ble_eq_true rfl) ⟨Nat.le_of_ble_eq_true rfl, Nat.le_of_ble_eq_true rfl⟩ (fun v13 h r13 => ?_) (fun x13 h r13 => by obtain ⟨K9, -, -, x9, e9, -⟩ := r13; cases e9)
      obtain ⟨K, hT, ev, rel13⟩ := r13
      obtain ⟨x13, e13, xb13⟩ := rel13
      cases e13
      replace hQ := hQ.ev ev (fun _ _ => id)
      have hy2 := Ev.ty ev hy2
      have ha := Ev.ty ev ha
      have hwt := Ev.tx ev hwt
      have hw := Ev.tc ev hw
      have hwbt := Ev.tx ev hwbt
      have hwb := Ev.tc ev hwb
      replace hE := hE.tr ev
      refine g_if_eq cx d_1_29_16 rfl (fun c16 => ?_) (fun c16 => ?_)
      · skip
        have hnn : ¬ NmOk n cd := by
          rcases xb13 with z | z
          · exact absurd c16 (by rw [z.1]; decide)
          · exact z.2
        have hng : ¬ (NmOk n cd ∧ RGo S nb cb) := by
          first
            | exact fun q => hnn q.1
            | exact fun q => q.2.elim (fun j z => hnoR j z.1.1 z.1.2.1)
            | exact fun ⟨_, j, z1, z2⟩ => z2 (by
                rw [z1.u hyes2]
                exact hQ.1.2.2 _ _ hyes2.1 (Nat.sub_lt hpos7 Nat.one_pos) (by rw [← hyq2, ← hyq7]; exact Option.some.inj c26))
            | exact absurd c26 (fun z => by cases z)
        exact t_iae cx htr d_1_29_29 d_1_29_32 d_1_29_33 d_1_29_36  ⟨Nat.le_of_ble_eq_true rfl, Nat.le_of_ble_eq_true rfl⟩ (Nat.le_of_ble_eq_true rfl) ⟨Nat.le_of_ble_eq_true rfl, Nat.le_of_ble_eq_true rfl⟩ (fun x hx hz => thrA (-1) (Or.inl ⟨rfl, rfl⟩) hT hE hx hz (Or.inl ⟨rfl, rfl, hng⟩) hQ)
      · skip
        have hok : NmOk n cd := by
          rcases xb13 with z | z
          · exact z.2
          · exact absurd z.1 c16
        refine g_aload_n cx 1 d_1_29_19 rfl rfl ?_
        refine g_ifnull cx d_1_29_20 ?_
        refine g_aload_n cx 1 d_1_29_23 rfl rfl ?_
        refine g_aloadN cx 0 d_1_29_24 rfl ?_
        refine g_acmp_ne cx (rx := (some (y2))) (ry := none) d_1_29_26 rfl (fun c26 => ?_) (fun c26 => ?_)
        · skip
          have hg : NmOk n cd ∧ RGo S nb cb := by
            refine ⟨hok, ?_⟩
            first
              | exact ⟨j2, hyes2, fun z => c26 (by rw [hyq2, hyq7, z])⟩
              | exact absurd hyes2.1 (by omega)
          refine g_aloadN cx 0 d_1_29_37 rfl ?_
          refine g_ifnullN cx d_1_29_39 rfl ?_
          have hfull : Shut S ∨ ¬ S 12 0 < 4 := by
            first
              | exact Or.inl (Or.inl hzR)
              | exact Or.inl hsh
              | exact Or.inr hn4
          exact t_ise cx htr d_1_29_62 d_1_29_65 d_1_29_66 d_1_29_69  ⟨Nat.le_of_ble_eq_true rfl, Nat.le_of_ble_eq_true rfl⟩ (Nat.le_of_ble_eq_true rfl) ⟨Nat.le_of_ble_eq_true rfl, Nat.le_of_ble_eq_true rfl⟩ (fun x hx hz => thrA (-2) (Or.inr ⟨rfl, rfl⟩) hT hE hx hz (Or.inr (Or.inl ⟨rfl, rfl, hg, hfull⟩)) hQ)
        · skip
          have hng : ¬ (NmOk n cd ∧ RGo S nb cb) := by
            first
              | exact fun q => hnn q.1
              | exact fun q => q.2.elim (fun j z => hnoR j z.1.1 z.1.2.1)
              | exact fun ⟨_, j, z1, z2⟩ => z2 (by
                  rw [z1.u hyes2]
                  exact hQ.1.2.2 _ _ hyes2.1 (Nat.sub_lt hpos7 Nat.one_pos) (by rw [← hyq2, ← hyq7]; exact Option.some.inj c26))
              | exact absurd c26 (fun z => by cases z)
          exact t_iae cx htr d_1_29_29 d_1_29_32 d_1_29_33 d_1_29_36  ⟨Nat.le_of_ble_eq_true rfl, Nat.le_of_ble_eq_true rfl⟩ (Nat.le_of_ble_eq_true rfl) ⟨Nat.le_of_ble_eq_true rfl, Nat.le_of_ble_eq_true rfl⟩ (fun x hx hz => thrA (-1) (Or.inl ⟨rfl, rfl⟩) hT hE hx hz (Or.inl ⟨rfl, rfl, hng⟩) hQ)
    · skip
      have hy7 : Ty K h 6 y7 := by rw [hyq7]; exact (hQ.1.2.1 _ (Nat.sub_lt hpos7 Nat.one_pos)).1
      refine g_astore cx (lv' := [(4, .ref y7), (3, .ref y2), (0, .ref a), (1, .ref w), (2, .ref wb)]) d_1_29_10 (by decide) rfl ?_
      refine g_aload_n cx 3 d_1_29_12 rfl rfl ?_
      refine g_callS cx (As := [.ref w]) (n := 1) (tc_isNameF (n := n) (cd := cd)) d_1_29_13 t_705 t_706 t_1 t_707 ⟨by decide, by decide, by decide +kernel⟩ rfl ⟨rfl, hT, hw⟩ ⟨Nat.le_of_ble_eq_true rfl, Nat.le_of_ble_eq_true rfl⟩ (Nat.le_of_ble_eq_true rfl) ⟨Nat.le_of_ble_eq_true rfl, Nat.le_of_ble_eq_true rfl⟩ (fun v13 h r13 => ?_) (fun x13 h r13 => by obtain ⟨K9, -, -, x9, e9, -⟩ := r13; cases e9)
      obtain ⟨K, hT, ev, rel13⟩ := r13
      obtain ⟨x13, e13, xb13⟩ := rel13
      cases e13
      replace hQ := hQ.ev ev (fun _ _ => id)
      have hy7 := Ev.ty ev hy7
      have hy2 := Ev.ty ev hy2
      have ha := Ev.ty ev ha
      have hwt := Ev.tx ev hwt
      have hw := Ev.tc ev hw
      have hwbt := Ev.tx ev hwbt
      have hwb := Ev.tc ev hwb
      replace hE := hE.tr ev
      refine g_if_eq cx d_1_29_16 rfl (fun c16 => ?_) (fun c16 => ?_)
      · skip
        have hnn : ¬ NmOk n cd := by
          rcases xb13 with z | z
          · exact absurd c16 (by rw [z.1]; decide)
          · exact z.2
        have hng : ¬ (NmOk n cd ∧ RGo S nb cb) := by
          first
            | exact fun q => hnn q.1
            | exact fun q => q.2.elim (fun j z => hnoR j z.1.1 z.1.2.1)
            | exact fun ⟨_, j, z1, z2⟩ => z2 (by
                rw [z1.u hyes2]
                exact hQ.1.2.2 _ _ hyes2.1 (Nat.sub_lt hpos7 Nat.one_pos) (by rw [← hyq2, ← hyq7]; exact Option.some.inj c26))
            | exact absurd c26 (fun z => by cases z)
        exact t_iae cx htr d_1_29_29 d_1_29_32 d_1_29_33 d_1_29_36  ⟨Nat.le_of_ble_eq_true rfl, Nat.le_of_ble_eq_true rfl⟩ (Nat.le_of_ble_eq_true rfl) ⟨Nat.le_of_ble_eq_true rfl, Nat.le_of_ble_eq_true rfl⟩ (fun x hx hz => thrA (-1) (Or.inl ⟨rfl, rfl⟩) hT hE hx hz (Or.inl ⟨rfl, rfl, hng⟩) hQ)
      · skip
        have hok : NmOk n cd := by
          rcases xb13 with z | z
          · exact z.2
          · exact absurd z.1 c16
        refine g_aload_n cx 1 d_1_29_19 rfl rfl ?_
        refine g_ifnull cx d_1_29_20 ?_
        refine g_aload_n cx 1 d_1_29_23 rfl rfl ?_
        refine g_aload cx 0 d_1_29_24 rfl ?_
        refine g_acmp_ne cx (rx := (some (y2))) (ry := (some (y7))) d_1_29_26 rfl (fun c26 => ?_) (fun c26 => ?_)
        · skip
          have hg : NmOk n cd ∧ RGo S nb cb := by
            refine ⟨hok, ?_⟩
            first
              | exact ⟨j2, hyes2, fun z => c26 (by rw [hyq2, hyq7, z])⟩
              | exact absurd hyes2.1 (by omega)
          refine g_aload cx 0 d_1_29_37 rfl ?_
          refine g_ifnull cx d_1_29_39 ?_
          refine g_aload cx 0 d_1_29_42 rfl ?_
          obtain ⟨n44, b144, b244, b344, w44, lo44, im44, fi44, pa44, he44, hw44, hlo44, him44, hfi44, hpa44, hwq44⟩ := TP.o (κ := 6) hT hy7
          obtain ⟨nw44, hw44⟩ : ∃ n, Tw k K h w44 n := ⟨_, Tx.tx hw44⟩
          refine g_getf cx (k := 7) d_1_29_44 in6 rfl (by decide) t_743 (Or.inl rfl) hy7.1 he44 rfl ?_
          refine g_if_ne cx d_1_29_47 rfl (fun c47 => ?_) (fun c47 => ?_)
          · skip
            have hb2 : b244 = nI ((K y7).2.2 % 2) := hwq44.2.1
            rw [hyq7, (hQ.1.2.1 _ (Nat.sub_lt hpos7 Nat.one_pos)).2.2.2] at hb2
            have hsh : Shut S := Or.inr (fun z => c47 (by rw [hb2, z]; rfl))
            have hfull : Shut S ∨ ¬ S 12 0 < 4 := by
              first
                | exact Or.inl (Or.inl hzR)
                | exact Or.inl hsh
                | exact Or.inr hn4
            exact t_ise cx htr d_1_29_62 d_1_29_65 d_1_29_66 d_1_29_69  ⟨Nat.le_of_ble_eq_true rfl, Nat.le_of_ble_eq_true rfl⟩ (Nat.le_of_ble_eq_true rfl) ⟨Nat.le_of_ble_eq_true rfl, Nat.le_of_ble_eq_true rfl⟩ (fun x hx hz => thrA (-2) (Or.inr ⟨rfl, rfl⟩) hT hE hx hz (Or.inr (Or.inl ⟨rfl, rfl, hg, hfull⟩)) hQ)
          · skip
            have hb2 : b244 = nI ((K y7).2.2 % 2) := hwq44.2.1
            have hb3 : (K y7).2.2 % 2 < 2 := Nat.mod_lt _ (by decide)
            have hns : ¬ Shut S := by
              rw [hyq7, (hQ.1.2.1 _ (Nat.sub_lt hpos7 Nat.one_pos)).2.2.2] at hb2 hb3
              refine fun q => q.elim (fun z => by omega) (fun z => z ?_)
              exact (nI_eq (b := 0) (by omega) (by decide)).mp (hb2.symm.trans c47)
            refine g_aload cx 0 d_1_29_50 rfl ?_
            refine g_getf cx (k := 3) d_1_29_52 in6 rfl (by decide) t_735 (Or.inl rfl) hy7.1 he44 rfl ?_
            obtain ⟨⟨ea55, mo55, hm55, hl55⟩, hb55⟩ := TP.n27 hT him44
            refine g_pcV cx (As := []) (n := 0) (pj_size (n := (K im44).2.2)) d_1_29_55 t_235 t_236 t_237 t_8 t_238 ⟨by decide, by decide, by decide +kernel⟩ rfl (ci := 2) rfl hm55 hl55 ⟨ea55, mo55, hm55, hl55⟩ ⟨Nat.le_of_ble_eq_true rfl, Nat.le_of_ble_eq_true rfl⟩ (Nat.le_of_ble_eq_true rfl) (fun v55 r55 => ?_)
            subst r55
            refine g_iconst cx (v := 4) d_1_29_58 (by decide) ?_
            refine g_icmp_lt cx d_1_29_59 rfl (fun c59 => ?_) (fun c59 => ?_)
            · skip
              have hct : (K im44).2.2 = S 12 0 := by rw [hwq44.2.2.1, hyq7]; exact (hQ.2.2.2 hpos7).1.2.1
              have h6 : S 12 0 < 4 := by
                rw [← hct]
                exact (nI_ltI (b := 4) (by omega) (by decide)).mp c59
              have hnc : (K im44).2.2 = S 12 0 := hct
              have him9 : (K (rz (S 0 0 - 1))).2.2 / 2 = im44 := by rw [← hyq7]; exact hwq44.2.2.1.symm
              refine g_aload cx 0 d_1_29_70 rfl ?_
              refine g_new cx (ci := 7) (fs := [.null, .null]) d_1_29_72 in7 ty7_ok t_791 t_792 t_26 rfl (by decide) ⟨Nat.le_of_ble_eq_true rfl, Nat.le_of_ble_eq_true rfl⟩ (fun q72 hq72 hz72 => ?_)
              have hN72 := Ev.nin hE hq72
              have ne_72_y7 : ¬ y7 = q72 := fun z => hq72 (z ▸ hy7.1)
              have ne_72_im44 : ¬ im44 = q72 := fun z => hq72 (z ▸ him44.1)
              refine t_raw hT hq72 hz72 (fun K h hT ev hr72 hm72 he72 hol72 => ?_)
              replace him9 := (congrArg (fun z => z / 2) (Ev.fix (κ := 5) ev (hQ.1.2.1 _ (Nat.sub_lt hpos7 Nat.one_pos)).1 (by unfold Gk; omega))).trans him9
              replace hQ := hQ.ev ev (fun _ _ => id)
              replace he44 := ((ev.1 y7 hy7.1).2.2 id).2.trans he44
              replace hnc := (congrArg (fun z => z.2.2) ((ev.1 im44 him44.1).2.2 id).1).trans hnc
              have hy7 := Ev.ty ev hy7
              have hy2 := Ev.ty ev hy2
              have ha := Ev.ty ev ha
              have hwt := Ev.tx ev hwt
              have hw := Ev.tc ev hw
              have hwbt := Ev.tx ev hwbt
              have hwb := Ev.tc ev hwb
              have hw44 := Ev.tx ev hw44
              have hlo44 := Ev.ty ev hlo44
              have him44 := Ev.ty ev him44
              have hfi44 := Ev.ty ev hfi44
              replace hE := hE.tr ev
              refine g_dup cx d_1_29_75 rfl ?_
              refine g_aload_n cx 3 d_1_29_76 rfl rfl ?_
              refine g_aload_n cx 1 d_1_29_77 rfl rfl ?_
              refine g_callI cx (ret' := none) (As := [.ref w, .ref y2]) (n := 2) (tc_import (n := n)) d_1_29_78 t_793 t_794 t_26 t_795 rfl ⟨by decide, by decide, by decide +kernel⟩ rfl ⟨rfl, hT, ⟨⟨hr72, hm72, he72⟩, hwt, hy2⟩⟩ ⟨Nat.le_of_ble_eq_true rfl, Nat.le_of_ble_eq_true rfl⟩ (Nat.le_of_ble_eq_true rfl) ⟨Nat.le_of_ble_eq_true rfl, Nat.le_of_ble_eq_true rfl⟩ (fun v78 h r78 => ?_) (fun x78 h r78 => by obtain ⟨K9, -, -, e9⟩ := r78; cases e9.1)
              obtain ⟨K, hT, ev, rel78⟩ := r78
              obtain ⟨e78, hn78, hnw78, hnz78⟩ := rel78
              cases e78
              replace him9 := (congrArg (fun z => z / 2) (Ev.fix (κ := 5) ev (hQ.1.2.1 _ (Nat.sub_lt hpos7 Nat.one_pos)).1 (by unfold Gk; omega))).trans him9
              replace hQ := hQ.ev ev (x0Q hr72)
              replace he44 := ((ev.1 y7 hy7.1).2.2 ne_72_y7).2.trans he44
              replace hnc := (congrArg (fun z => z.2.2) ((ev.1 im44 him44.1).2.2 ne_72_im44).1).trans hnc
              have hy7 := Ev.ty ev hy7
              have hy2 := Ev.ty ev hy2
              have ha := Ev.ty ev ha
              have hwt := Ev.tx ev hwt
              have hw := Ev.tc ev hw
              have hwbt := Ev.tx ev hwbt
              have hwb := Ev.tc ev hwb
              have hw44 := Ev.tx ev hw44
              have hlo44 := Ev.ty ev hlo44
              have him44 := Ev.ty ev him44
              have hfi44 := Ev.ty ev hfi44
              replace hE := hE.trN hN72 ev
              refine g_callV cx (As := [.ref q72]) (n := 1) (tc_insertF (nc := S 12 0) hB17 h6) d_1_29_81 t_807 t_808 t_809 t_25 t_810 ⟨by decide, by decide, by decide +kernel⟩ rfl (ci := 6) rfl hy7.1 he44 ⟨rfl, hT, hy7.1, he44, him44, hn78, hnc⟩ ⟨Nat.le_of_ble_eq_true rfl, Nat.le_of_ble_eq_true rfl⟩ (Nat.le_of_ble_eq_true rfl) ⟨Nat.le_of_ble_eq_true rfl, Nat.le_of_ble_eq_true rfl⟩ (fun v81 h r81 => ?_) (fun x81 h r81 => by obtain ⟨K9, -, -, e9, -⟩ := r81; cases e9)
              obtain ⟨K, hT, ev, rel81⟩ := r81
              obtain ⟨e81, hnew⟩ := rel81
              cases e81
              have hQ2 := hQ.addI hpos7 him9 ev hnew
              replace ev := xd_add (e := X0) (ce := 7) (by decide) him44 ev
              have hy7 := Ev.ty ev hy7
              have hy2 := Ev.ty ev hy2
              have ha := Ev.ty ev ha
              have hwt := Ev.tx ev hwt
              have hw := Ev.tc ev hw
              have hwbt := Ev.tx ev hwbt
              have hwb := Ev.tc ev hwb
              replace hE := Ev.trP hE ev
              refine g_iconst cx (v := 4) d_1_29_84 (by decide) ?_
              exact g_iret cx d_1_29_85 rfl rfl ⟨K, hT, hE, 4, _, _, _, _, Or.inl ⟨by decide, rfl⟩, Or.inr (Or.inr ⟨rfl, rfl, hg, fun q => q.elim hns (fun z => z h6)⟩), hQ2⟩
            · skip
              have hct : (K im44).2.2 = S 12 0 := by rw [hwq44.2.2.1, hyq7]; exact (hQ.2.2.2 hpos7).1.2.1
              have hn4 : ¬ S 12 0 < 4 := fun q => c59 (by
                rw [hct]
                exact (nI_ltI (b := 4) (by omega) (by decide)).mpr q)
              have hfull : Shut S ∨ ¬ S 12 0 < 4 := by
                first
                  | exact Or.inl (Or.inl hzR)
                  | exact Or.inl hsh
                  | exact Or.inr hn4
              exact t_ise cx htr d_1_29_62 d_1_29_65 d_1_29_66 d_1_29_69  ⟨Nat.le_of_ble_eq_true rfl, Nat.le_of_ble_eq_true rfl⟩ (Nat.le_of_ble_eq_true rfl) ⟨Nat.le_of_ble_eq_true rfl, Nat.le_of_ble_eq_true rfl⟩ (fun x hx hz => thrA (-2) (Or.inr ⟨rfl, rfl⟩) hT hE hx hz (Or.inr (Or.inl ⟨rfl, rfl, hg, hfull⟩)) hQ)
        · skip
          have hng : ¬ (NmOk n cd ∧ RGo S nb cb) := by
            first
              | exact fun q => hnn q.1
              | exact fun q => q.2.elim (fun j z => hnoR j z.1.1 z.1.2.1)
              | exact fun ⟨_, j, z1, z2⟩ => z2 (by
                  rw [z1.u hyes2]
                  exact hQ.1.2.2 _ _ hyes2.1 (Nat.sub_lt hpos7 Nat.one_pos) (by rw [← hyq2, ← hyq7]; exact Option.some.inj c26))
              | exact absurd c26 (fun z => by cases z)
          exact t_iae cx htr d_1_29_29 d_1_29_32 d_1_29_33 d_1_29_36  ⟨Nat.le_of_ble_eq_true rfl, Nat.le_of_ble_eq_true rfl⟩ (Nat.le_of_ble_eq_true rfl) ⟨Nat.le_of_ble_eq_true rfl, Nat.le_of_ble_eq_true rfl⟩ (fun x hx hz => thrA (-1) (Or.inl ⟨rfl, rfl⟩) hT hE hx hz (Or.inl ⟨rfl, rfl, hng⟩) hQ)
set_option maxHeartbeats 8000000 in
theorem tc_readPairF {a w n cd wb nb cb lr : Nat} {S : SL} {rz az nt : Nat → Nat} (hB : B < 2 ^ 17) (htr : l.stackTraces = false) : TC l y_123 prog_1_method_23_code 3 (Option.some Jvm.ClassFile.FieldType.int) (rmT 11 64 1270) D z0 k [.ref a, .ref w, .ref wb] K (B) (T) (fun h => Ty K h 1 a ∧ (K a).2.2 = lr ∧ Tc k K h w n cd ∧ Tc k K h wb nb cb ∧ 1 ≤ n ∧ CQ D k K h lr S rz az nt) (B) (T) (XD K) (AX D k lr (DoPr S n cd nb cb)) := by
  refine tc_of (by decide) (Nat.le_of_ble_eq_true rfl) ?_
  intro h hT hp p e s m args below meth c cx hnm
  have hE : Ev k (XD K) K h K h := Ev.rf
  have hB17 := hB
  replace hB : B < 2 ^ 20 := Nat.lt_trans hB (by decide)
  obtain ⟨ha, hlrq, hw, hwb, hn1, hQ⟩ := hp
  have hwt := hw.1
  have hwbt := hwb.1
  refine g_aload_n cx 1 d_1_23_0 rfl rfl ?_
  refine g_ldcS cx d_1_23_1 cx.ee.2.2.2.2.2.2.2.2.2.1 ?_
  have hr3 : Tc k K h w (n) (cd) := hw
  have hm3 : w ∈ h.1 := Tc.mem hT hr3 hn1
  obtain ⟨va3, hsa3, hba3, -⟩ := Tc.byt hT hr3
  refine g_pcVS cx (As := [.ref (k 11)]) (n := 1) (pj_eqF (n := n) (n' := ln 1) (cd := cd) (ce := kc 1)) d_1_23_3 t_491 t_492 t_493 t_4 t_494 rfl (by decide +kernel) rfl hsa3 ⟨⟨hm3, hT.2.2.2.1⟩, ⟨_, hsa3, hba3⟩, ⟨k (30 + 1), Or.inr ⟨1, by decide, rfl, rfl, rfl⟩, Or.inr ⟨1, by decide, rfl, rfl, rfl⟩⟩⟩ ⟨Nat.le_of_ble_eq_true rfl, Nat.le_of_ble_eq_true rfl⟩ (Nat.le_of_ble_eq_true rfl) (fun v3 r3 => ?_)
  obtain ⟨x3, rfl, xb3⟩ := r3
  refine g_if_eq cx d_1_23_6 rfl (fun c6 => ?_) (fun c6 => ?_)
  · skip
    have hn_1 : ¬ CE n (ln 1) cd (kc 1) := by
      rcases xb3 with z | z
      · exact absurd c6 (by rw [z.1]; decide)
      · exact z.2
    refine g_aload_n cx 1 d_1_23_15 rfl rfl ?_
    refine g_ldcS cx d_1_23_16 cx.ee.2.2.2.2.2.2.2.2.2.2.1 ?_
    have hr18 : Tc k K h w (n) (cd) := hw
    have hm18 : w ∈ h.1 := Tc.mem hT hr18 hn1
    obtain ⟨va18, hsa18, hba18, -⟩ := Tc.byt hT hr18
    refine g_pcVS cx (As := [.ref (k 12)]) (n := 1) (pj_eqF (n := n) (n' := ln 2) (cd := cd) (ce := kc 2)) d_1_23_18 t_491 t_492 t_493 t_4 t_494 rfl (by decide +kernel) rfl hsa18 ⟨⟨hm18, hT.2.2.2.1⟩, ⟨_, hsa18, hba18⟩, ⟨k (30 + 2), Or.inr ⟨2, by decide, rfl, rfl, rfl⟩, Or.inr ⟨2, by decide, rfl, rfl, rfl⟩⟩⟩ ⟨Nat.le_of_ble_eq_true rfl, Nat.le_of_ble_eq_true rfl⟩ (Nat.le_of_ble_eq_true rfl) (fun v18 r18 => ?_)
    obtain ⟨x18, rfl, xb18⟩ := r18
    refine g_if_eq cx d_1_23_21 rfl (fun c21 => ?_) (fun c21 => ?_)
    · skip
      have hn_2 : ¬ CE n (ln 2) cd (kc 2) := by
        rcases xb18 with z | z
        · exact absurd c21 (by rw [z.1]; decide)
        · exact z.2
      refine g_aload_n cx 1 d_1_23_30 rfl rfl ?_
      refine g_ldcS cx d_1_23_31 cx.ee.2.2.2.2.2.2.2.2.2.2.2.1 ?_
      have hr33 : Tc k K h w (n) (cd) := hw
      have hm33 : w ∈ h.1 := Tc.mem hT hr33 hn1
      obtain ⟨va33, hsa33, hba33, -⟩ := Tc.byt hT hr33
      refine g_pcVS cx (As := [.ref (k 13)]) (n := 1) (pj_eqF (n := n) (n' := ln 3) (cd := cd) (ce := kc 3)) d_1_23_33 t_491 t_492 t_493 t_4 t_494 rfl (by decide +kernel) rfl hsa33 ⟨⟨hm33, hT.2.2.2.1⟩, ⟨_, hsa33, hba33⟩, ⟨k (30 + 3), Or.inr ⟨3, by decide, rfl, rfl, rfl⟩, Or.inr ⟨3, by decide, rfl, rfl, rfl⟩⟩⟩ ⟨Nat.le_of_ble_eq_true rfl, Nat.le_of_ble_eq_true rfl⟩ (Nat.le_of_ble_eq_true rfl) (fun v33 r33 => ?_)
      obtain ⟨x33, rfl, xb33⟩ := r33
      refine g_if_eq cx d_1_23_36 rfl (fun c36 => ?_) (fun c36 => ?_)
      · skip
        have hn_3 : ¬ CE n (ln 3) cd (kc 3) := by
          rcases xb33 with z | z
          · exact absurd c36 (by rw [z.1]; decide)
          · exact z.2
        refine g_aload_n cx 1 d_1_23_45 rfl rfl ?_
        refine g_ldcS cx d_1_23_46 cx.ee.2.2.2.2.2.2.2.2.2.2.2.2.1 ?_
        have hr48 : Tc k K h w (n) (cd) := hw
        have hm48 : w ∈ h.1 := Tc.mem hT hr48 hn1
        obtain ⟨va48, hsa48, hba48, -⟩ := Tc.byt hT hr48
        refine g_pcVS cx (As := [.ref (k 14)]) (n := 1) (pj_eqF (n := n) (n' := ln 4) (cd := cd) (ce := kc 4)) d_1_23_48 t_491 t_492 t_493 t_4 t_494 rfl (by decide +kernel) rfl hsa48 ⟨⟨hm48, hT.2.2.2.1⟩, ⟨_, hsa48, hba48⟩, ⟨k (30 + 4), Or.inr ⟨4, by decide, rfl, rfl, rfl⟩, Or.inr ⟨4, by decide, rfl, rfl, rfl⟩⟩⟩ ⟨Nat.le_of_ble_eq_true rfl, Nat.le_of_ble_eq_true rfl⟩ (Nat.le_of_ble_eq_true rfl) (fun v48 r48 => ?_)
        obtain ⟨x48, rfl, xb48⟩ := r48
        refine g_if_eq cx d_1_23_51 rfl (fun c51 => ?_) (fun c51 => ?_)
        · skip
          have hn_4 : ¬ CE n (ln 4) cd (kc 4) := by
            rcases xb48 with z | z
            · exact absurd c51 (by rw [z.1]; decide)
            · exact z.2
          refine g_aload_n cx 1 d_1_23_60 rfl rfl ?_
          refine g_ldcS cx d_1_23_61 cx.ee.2.2.2.2.2.2.2.2.2.2.2.2.2.1 ?_
          have hr63 : Tc k K h w (n) (cd) := hw
          have hm63 : w ∈ h.1 := Tc.mem hT hr63 hn1
          obtain ⟨va63, hsa63, hba63, -⟩ := Tc.byt hT hr63
          refine g_pcVS cx (As := [.ref (k 15)]) (n := 1) (pj_eqF (n := n) (n' := ln 5) (cd := cd) (ce := kc 5)) d_1_23_63 t_491 t_492 t_493 t_4 t_494 rfl (by decide +kernel) rfl hsa63 ⟨⟨hm63, hT.2.2.2.1⟩, ⟨_, hsa63, hba63⟩, ⟨k (30 + 5), Or.inr ⟨5, by decide, rfl, rfl, rfl⟩, Or.inr ⟨5, by decide, rfl, rfl, rfl⟩⟩⟩ ⟨Nat.le_of_ble_eq_true rfl, Nat.le_of_ble_eq_true rfl⟩ (Nat.le_of_ble_eq_true rfl) (fun v63 r63 => ?_)
          obtain ⟨x63, rfl, xb63⟩ := r63
          refine g_if_eq cx d_1_23_66 rfl (fun c66 => ?_) (fun c66 => ?_)
          · skip
            have hn_5 : ¬ CE n (ln 5) cd (kc 5) := by
              rcases xb63 with z | z
              · exact absurd c66 (by rw [z.1]; decide)
              · exact z.2
            exact t_iae cx htr d_1_23_75 d_1_23_78 d_1_23_79 d_1_23_82  ⟨Nat.le_of_ble_eq_true rfl, Nat.le_of_ble_eq_true rfl⟩ (Nat.le_of_ble_eq_true rfl) ⟨Nat.le_of_ble_eq_true rfl, Nat.le_of_ble_eq_true rfl⟩ (fun x hx hz => thrA (-1) (Or.inl ⟨rfl, rfl⟩) hT hE hx hz (Or.inr (Or.inr (Or.inr (Or.inr (Or.inr ⟨⟨hn_1, hn_2, hn_3, hn_4, hn_5⟩, rfl, rfl⟩))))) hQ)
          · skip
            have hy_5 : CE n (ln 5) cd (kc 5) := by
              rcases xb63 with z | z
              · exact z.2
              · exact absurd z.1 c66
            refine g_aload_n cx 0 d_1_23_69 rfl rfl ?_
            refine g_aload_n cx 2 d_1_23_70 rfl rfl ?_
            obtain ⟨la71, lr71, tr71, tn71, he71, hla71, hlr71, htr71, htn71, hlq71, hlaq71⟩ := TP.o (κ := 1) hT ha
            refine g_callV cx (As := [.ref wb]) (n := 1) (tc_setParentF (n := nb) (cd := cb) (lr := lr) (S := S) (rz := rz) (az := az) (nt := nt) hB17 htr) d_1_23_71 t_777 t_779 ts_17 t_1 t_780 ⟨by decide, by decide, by decide +kernel⟩ rfl (ci := 0) rfl ha.1 he71 ⟨rfl, hT, ha, hlrq, hwb, hQ⟩ ⟨Nat.le_of_ble_eq_true rfl, Nat.le_of_ble_eq_true rfl⟩ (Nat.le_of_ble_eq_true rfl) ⟨Nat.le_of_ble_eq_true rfl, Nat.le_of_ble_eq_true rfl⟩ (fun v71 h r71 => ?_) (fun x71 h r71 => tqA hE (tqN r71) (fun _ _ q => Or.inr (Or.inr (Or.inr (Or.inr (Or.inl ⟨hy_5, q⟩))))))
            obtain ⟨x71, ex71⟩ := tq_intA r71
            subst ex71
            exact g_iret cx d_1_23_74 rfl rfl (tqA hE (tqN r71) (fun _ _ q => Or.inr (Or.inr (Or.inr (Or.inr (Or.inl ⟨hy_5, q⟩))))))
        · skip
          have hy_4 : CE n (ln 4) cd (kc 4) := by
            rcases xb48 with z | z
            · exact z.2
            · exact absurd z.1 c51
          refine g_aload_n cx 0 d_1_23_54 rfl rfl ?_
          refine g_aload_n cx 2 d_1_23_55 rfl rfl ?_
          obtain ⟨la56, lr56, tr56, tn56, he56, hla56, hlr56, htr56, htn56, hlq56, hlaq56⟩ := TP.o (κ := 1) hT ha
          refine g_callV cx (As := [.ref wb]) (n := 1) (tc_addLoadedF (n := nb) (cd := cb) (lr := lr) (S := S) (rz := rz) (az := az) (nt := nt) hB17 htr) d_1_23_56 t_766 t_768 ts_16 t_1 t_769 ⟨by decide, by decide, by decide +kernel⟩ rfl (ci := 0) rfl ha.1 he56 ⟨rfl, hT, ha, hlrq, hwb, hQ⟩ ⟨Nat.le_of_ble_eq_true rfl, Nat.le_of_ble_eq_true rfl⟩ (Nat.le_of_ble_eq_true rfl) ⟨Nat.le_of_ble_eq_true rfl, Nat.le_of_ble_eq_true rfl⟩ (fun v56 h r56 => ?_) (fun x56 h r56 => tqA hE r56 (fun _ _ q => Or.inr (Or.inr (Or.inr (Or.inl ⟨hy_4, q⟩)))))
          obtain ⟨x56, ex56⟩ := tq_intA r56
          subst ex56
          exact g_iret cx d_1_23_59 rfl rfl (tqA hE r56 (fun _ _ q => Or.inr (Or.inr (Or.inr (Or.inl ⟨hy_4, q⟩)))))
      · skip
        have hy_3 : CE n (ln 3) cd (kc 3) := by
          rcases xb33 with z | z
          · exact z.2
          · exact absurd z.1 c36
        refine g_aload_n cx 0 d_1_23_39 rfl rfl ?_
        refine g_aload_n cx 2 d_1_23_40 rfl rfl ?_
        obtain ⟨la41, lr41, tr41, tn41, he41, hla41, hlr41, htr41, htn41, hlq41, hlaq41⟩ := TP.o (κ := 1) hT ha
        refine g_callV cx (As := [.ref wb]) (n := 1) (tc_addRealmF (n := nb) (cd := cb) (lr := lr) (S := S) (rz := rz) (az := az) (nt := nt) hB17 htr) d_1_23_41 t_717 t_719 ts_15 t_1 t_720 ⟨by decide, by decide, by decide +kernel⟩ rfl (ci := 0) rfl ha.1 he41 ⟨rfl, hT, ha, hlrq, hwb, hQ⟩ ⟨Nat.le_of_ble_eq_true rfl, Nat.le_of_ble_eq_true rfl⟩ (Nat.le_of_ble_eq_true rfl) ⟨Nat.le_of_ble_eq_true rfl, Nat.le_of_ble_eq_true rfl⟩ (fun v41 h r41 => ?_) (fun x41 h r41 => tqA hE r41 (fun _ _ q => Or.inr (Or.inr (Or.inl ⟨hy_3, q⟩))))
        obtain ⟨x41, ex41⟩ := tq_intA r41
        subst ex41
        exact g_iret cx d_1_23_44 rfl rfl (tqA hE r41 (fun _ _ q => Or.inr (Or.inr (Or.inl ⟨hy_3, q⟩))))
    · skip
      have hy_2 : CE n (ln 2) cd (kc 2) := by
        rcases xb18 with z | z
        · exact z.2
        · exact absurd z.1 c21
      refine g_aload_n cx 0 d_1_23_24 rfl rfl ?_
      refine g_aload_n cx 2 d_1_23_25 rfl rfl ?_
      obtain ⟨la26, lr26, tr26, tn26, he26, hla26, hlr26, htr26, htn26, hlq26, hlaq26⟩ := TP.o (κ := 1) hT ha
      refine g_callV cx (As := [.ref wb]) (n := 1) (tc_addNameF (n := nb) (cd := cb) (lr := lr) (S := S) (rz := rz) (az := az) (nt := nt) hB17 htr) d_1_23_26 t_697 t_699 ts_13 t_1 t_700 ⟨by decide, by decide, by decide +kernel⟩ rfl (ci := 0) rfl ha.1 he26 ⟨rfl, hT, ha, hlrq, hwb, hQ⟩ ⟨Nat.le_of_ble_eq_true rfl, Nat.le_of_ble_eq_true rfl⟩ (Nat.le_of_ble_eq_true rfl) ⟨Nat.le_of_ble_eq_true rfl, Nat.le_of_ble_eq_true rfl⟩ (fun v26 h r26 => ?_) (fun x26 h r26 => tqA hE r26 (fun _ _ q => Or.inr (Or.inl ⟨hy_2, q⟩)))
      obtain ⟨x26, ex26⟩ := tq_intA r26
      subst ex26
      exact g_iret cx d_1_23_29 rfl rfl (tqA hE r26 (fun _ _ q => Or.inr (Or.inl ⟨hy_2, q⟩)))
  · skip
    have hy_1 : CE n (ln 1) cd (kc 1) := by
      rcases xb3 with z | z
      · exact z.2
      · exact absurd z.1 c6
    refine g_aload_n cx 0 d_1_23_9 rfl rfl ?_
    refine g_aload_n cx 2 d_1_23_10 rfl rfl ?_
    obtain ⟨la11, lr11, tr11, tn11, he11, hla11, hlr11, htr11, htn11, hlq11, hlaq11⟩ := TP.o (κ := 1) hT ha
    refine g_callV cx (As := [.ref wb]) (n := 1) (tc_addArchiveF (n := nb) (cd := cb) (lr := lr) (S := S) (rz := rz) (az := az) (nt := nt) hB17 htr) d_1_23_11 t_661 t_663 ts_11 t_1 t_664 ⟨by decide, by decide, by decide +kernel⟩ rfl (ci := 0) rfl ha.1 he11 ⟨rfl, hT, ha, hlrq, hwb, hQ⟩ ⟨Nat.le_of_ble_eq_true rfl, Nat.le_of_ble_eq_true rfl⟩ (Nat.le_of_ble_eq_true rfl) ⟨Nat.le_of_ble_eq_true rfl, Nat.le_of_ble_eq_true rfl⟩ (fun v11 h r11 => ?_) (fun x11 h r11 => tqA hE r11 (fun _ _ q => Or.inl ⟨hy_1, q⟩))
    obtain ⟨x11, ex11⟩ := tq_intA r11
    subst ex11
    exact g_iret cx d_1_23_14 rfl rfl (tqA hE r11 (fun _ _ q => Or.inl ⟨hy_1, q⟩))
set_option maxHeartbeats 8000000 in
theorem tc_readFourF {a pl cd : Nat} {bg en es : Nat → Nat} {lr : Nat} {S : SL} {rz az nt : Nat → Nat} (hB : B < 2 ^ 17) (htr : l.stackTraces = false) : TC l y_137 prog_1_method_24_code 2 (Option.some Jvm.ClassFile.FieldType.int) (rmT 12 64 1270) D z0 k [.ref a, .ref pl] K (B) (T) (fun h => Ty K h 1 a ∧ (K a).2.2 = lr ∧ LsK D K h pl 24 4 es ∧ PTs k K h cd 4 bg en es ∧ (∀ i, i < 4 → bg i < en i) ∧ CQ D k K h lr S rz az nt) (B) (T) (XD K) (AX D k lr (DoFo S (fun i => en i - bg i) (fun i => sub cd (bg i) (en i - bg i)))) := by
  refine tc_of (by decide) (Nat.le_of_ble_eq_true rfl) ?_
  intro h hT hp p e s m args below meth c cx hnm
  have hE : Ev k (XD K) K h K h := Ev.rf
  have hB17 := hB
  replace hB : B < 2 ^ 20 := Nat.lt_trans hB (by decide)
  obtain ⟨ha, hlrq, hL, hPT, hlen, hQ⟩ := hp
  have hpl := hL.1
  have hct : (K pl).2.2 = 4 := hL.2.1
  refine g_aload_n cx 1 d_1_24_0 rfl rfl ?_
  obtain ⟨⟨ea1, mo1, hm1, hl1⟩, hb1⟩ := TP.n24 hT hpl
  refine g_pcV cx (As := []) (n := 0) (pj_size (n := (K pl).2.2)) d_1_24_1 t_235 t_236 t_237 t_8 t_238 ⟨by decide, by decide, by decide +kernel⟩ rfl (ci := 2) rfl hm1 hl1 ⟨ea1, mo1, hm1, hl1⟩ ⟨Nat.le_of_ble_eq_true rfl, Nat.le_of_ble_eq_true rfl⟩ (Nat.le_of_ble_eq_true rfl) (fun v1 r1 => ?_)
  subst r1
  refine g_iconst cx (v := 4) d_1_24_4 (by decide) ?_
  refine g_icmp_ne cx d_1_24_5 rfl (fun c5 => absurd (congrArg nI hct : nI (K pl).2.2 = nI 4) c5) (fun c5 => ?_)
  refine g_aload_n cx 1 d_1_24_8 rfl rfl ?_
  refine g_iconst cx (v := 0) d_1_24_9 (by decide) ?_
  refine g_callV cx (As := [.int 0]) (n := 1) (gj_getF (K := K) (B := B) (T := T) (ce := 4) (j := 0) (mm := 4) (es := es) (by decide) hB) d_1_24_10 t_239 t_240 t_241 t_8 t_242 ⟨by decide, by decide, by decide +kernel⟩ rfl (ci := 2) rfl hm1 hl1 ⟨rfl, hT, hpl, (by omega), hL.ls, (by decide)⟩ ⟨Nat.le_of_ble_eq_true rfl, Nat.le_of_ble_eq_true rfl⟩ (Nat.le_of_ble_eq_true rfl) ⟨Nat.zero_le _, Nat.zero_le _⟩ (fun v10 h r10 => ?_) (fun x10 h r10 => by obtain ⟨-, e9, -⟩ := r10; cases e9)
  obtain ⟨rfl, e10, hy10⟩ := r10
  obtain ⟨y10, hq10⟩ : ∃ y, y = es 0 := ⟨_, rfl⟩
  rw [← hq10] at e10 hy10
  cases e10
  replace hy10 : Ty K h 4 y10 := hy10
  obtain ⟨w13, he13, hw13, hwq13⟩ := TP.o (κ := 4) hT hy10
  obtain ⟨nw13, hw13⟩ : ∃ n, Tw k K h w13 n := ⟨_, Tx.tx hw13⟩
  refine g_ccast cx (ci := 4) d_1_24_13 t_535 rfl hy10.1 he13 ?_
  refine g_getf cx (k := 0) d_1_24_16 in4 rfl (by decide) t_567 (Or.inl rfl) hy10.1 he13 rfl ?_
  have hc13 : Tc k K h w13 (en 0 - bg 0) (sub cd (bg 0) (en 0 - bg 0)) := by
    rw [show w13 = (K y10).2.1 from hwq13, hq10]
    exact (hPT 0 (by decide)).2
  refine g_ldcS cx d_1_24_19 cx.ee.2.2.2.2.2.2.2.2.2.2.2.2.2.2.1 ?_
  have hr21 : Tc k K h w13 (en 0 - bg 0) (sub cd (bg 0) (en 0 - bg 0)) := hc13
  have hm21 : w13 ∈ h.1 := Tc.mem hT hr21 (by have := hlen 0 (by decide); omega)
  obtain ⟨va21, hsa21, hba21, -⟩ := Tc.byt hT hr21
  refine g_pcVS cx (As := [.ref (k 16)]) (n := 1) (pj_eqF (n := en 0 - bg 0) (n' := ln 6) (cd := sub cd (bg 0) (en 0 - bg 0)) (ce := kc 6)) d_1_24_21 t_491 t_492 t_493 t_4 t_494 rfl (by decide +kernel) rfl hsa21 ⟨⟨hm21, hT.2.2.2.1⟩, ⟨_, hsa21, hba21⟩, ⟨k (30 + 6), Or.inr ⟨6, by decide, rfl, rfl, rfl⟩, Or.inr ⟨6, by decide, rfl, rfl, rfl⟩⟩⟩ ⟨Nat.le_of_ble_eq_true rfl, Nat.le_of_ble_eq_true rfl⟩ (Nat.le_of_ble_eq_true rfl) (fun v21 r21 => ?_)
  obtain ⟨x21, rfl, xb21⟩ := r21
  refine g_if_eq cx d_1_24_24 rfl (fun c24 => ?_) (fun c24 => ?_)
  · skip
    have hn6 : ¬ CE (en 0 - bg 0) (ln 6) (sub cd (bg 0) (en 0 - bg 0)) (kc 6) := by
      rcases xb21 with z | z
      · exact absurd c24 (by rw [z.1]; decide)
      · exact z.2
    have hng : ¬ (IS (fun i => en i - bg i) (fun i => sub cd (bg i) (en i - bg i)) 0 6 ∧ IS (fun i => en i - bg i) (fun i => sub cd (bg i) (en i - bg i)) 2 7) := by
      first
        | exact fun q => hn6 q.1
        | exact fun q => hn7 q.2
    exact t_iae cx htr d_1_24_46 d_1_24_49 d_1_24_50 d_1_24_53  ⟨Nat.le_of_ble_eq_true rfl, Nat.le_of_ble_eq_true rfl⟩ (Nat.le_of_ble_eq_true rfl) ⟨Nat.le_of_ble_eq_true rfl, Nat.le_of_ble_eq_true rfl⟩ (fun x hx hz => thrA (-1) (Or.inl ⟨rfl, rfl⟩) hT hE hx hz (Or.inr ⟨hng, rfl, rfl⟩) hQ)
  · skip
    have hy6 : CE (en 0 - bg 0) (ln 6) (sub cd (bg 0) (en 0 - bg 0)) (kc 6) := by
      rcases xb21 with z | z
      · exact z.2
      · exact absurd z.1 c24
    refine g_aload_n cx 1 d_1_24_27 rfl rfl ?_
    refine g_iconst cx (v := 2) d_1_24_28 (by decide) ?_
    refine g_callV cx (As := [.int 2]) (n := 1) (gj_getF (K := K) (B := B) (T := T) (ce := 4) (j := 2) (mm := 4) (es := es) (by decide) hB) d_1_24_29 t_239 t_240 t_241 t_8 t_242 ⟨by decide, by decide, by decide +kernel⟩ rfl (ci := 2) rfl hm1 hl1 ⟨rfl, hT, hpl, (by omega), hL.ls, (by decide)⟩ ⟨Nat.le_of_ble_eq_true rfl, Nat.le_of_ble_eq_true rfl⟩ (Nat.le_of_ble_eq_true rfl) ⟨Nat.zero_le _, Nat.zero_le _⟩ (fun v29 h r29 => ?_) (fun x29 h r29 => by obtain ⟨-, e9, -⟩ := r29; cases e9)
    obtain ⟨rfl, e29, hy29⟩ := r29
    obtain ⟨y29, hq29⟩ : ∃ y, y = es 2 := ⟨_, rfl⟩
    rw [← hq29] at e29 hy29
    cases e29
    replace hy29 : Ty K h 4 y29 := hy29
    obtain ⟨w32, he32, hw32, hwq32⟩ := TP.o (κ := 4) hT hy29
    obtain ⟨nw32, hw32⟩ : ∃ n, Tw k K h w32 n := ⟨_, Tx.tx hw32⟩
    refine g_ccast cx (ci := 4) d_1_24_32 t_535 rfl hy29.1 he32 ?_
    refine g_getf cx (k := 0) d_1_24_35 in4 rfl (by decide) t_567 (Or.inl rfl) hy29.1 he32 rfl ?_
    have hc32 : Tc k K h w32 (en 2 - bg 2) (sub cd (bg 2) (en 2 - bg 2)) := by
      rw [show w32 = (K y29).2.1 from hwq32, hq29]
      exact (hPT 2 (by decide)).2
    refine g_ldcS cx d_1_24_38 cx.ee.2.2.2.2.2.2.2.2.2.2.2.2.2.2.2.1 ?_
    have hr40 : Tc k K h w32 (en 2 - bg 2) (sub cd (bg 2) (en 2 - bg 2)) := hc32
    have hm40 : w32 ∈ h.1 := Tc.mem hT hr40 (by have := hlen 2 (by decide); omega)
    obtain ⟨va40, hsa40, hba40, -⟩ := Tc.byt hT hr40
    refine g_pcVS cx (As := [.ref (k 17)]) (n := 1) (pj_eqF (n := en 2 - bg 2) (n' := ln 7) (cd := sub cd (bg 2) (en 2 - bg 2)) (ce := kc 7)) d_1_24_40 t_491 t_492 t_493 t_4 t_494 rfl (by decide +kernel) rfl hsa40 ⟨⟨hm40, hT.2.2.2.1⟩, ⟨_, hsa40, hba40⟩, ⟨k (30 + 7), Or.inr ⟨7, by decide, rfl, rfl, rfl⟩, Or.inr ⟨7, by decide, rfl, rfl, rfl⟩⟩⟩ ⟨Nat.le_of_ble_eq_true rfl, Nat.le_of_ble_eq_true rfl⟩ (Nat.le_of_ble_eq_true rfl) (fun v40 r40 => ?_)
    obtain ⟨x40, rfl, xb40⟩ := r40
    refine g_if_ne cx d_1_24_43 rfl (fun c43 => ?_) (fun c43 => ?_)
    · skip
      have hy7 : CE (en 2 - bg 2) (ln 7) (sub cd (bg 2) (en 2 - bg 2)) (kc 7) := by
        rcases xb40 with z | z
        · exact z.2
        · exact absurd z.1 c43
      refine g_aload_n cx 0 d_1_24_54 rfl rfl ?_
      refine g_aload_n cx 1 d_1_24_55 rfl rfl ?_
      refine g_iconst cx (v := 1) d_1_24_56 (by decide) ?_
      refine g_callV cx (As := [.int 1]) (n := 1) (gj_getF (K := K) (B := B) (T := T) (ce := 4) (j := 1) (mm := 4) (es := es) (by decide) hB) d_1_24_57 t_239 t_240 t_241 t_8 t_242 ⟨by decide, by decide, by decide +kernel⟩ rfl (ci := 2) rfl hm1 hl1 ⟨rfl, hT, hpl, (by omega), hL.ls, (by decide)⟩ ⟨Nat.le_of_ble_eq_true rfl, Nat.le_of_ble_eq_true rfl⟩ (Nat.le_of_ble_eq_true rfl) ⟨Nat.zero_le _, Nat.zero_le _⟩ (fun v57 h r57 => ?_) (fun x57 h r57 => by obtain ⟨-, e9, -⟩ := r57; cases e9)
      obtain ⟨rfl, e57, hy57⟩ := r57
      obtain ⟨y57, hq57⟩ : ∃ y, y = es 1 := ⟨_, rfl⟩
      rw [← hq57] at e57 hy57
      cases e57
      replace hy57 : Ty K h 4 y57 := hy57
      obtain ⟨w60, he60, hw60, hwq60⟩ := TP.o (κ := 4) hT hy57
      obtain ⟨nw60, hw60⟩ : ∃ n, Tw k K h w60 n := ⟨_, Tx.tx hw60⟩
      refine g_ccast cx (ci := 4) d_1_24_60 t_535 rfl hy57.1 he60 ?_
      refine g_getf cx (k := 0) d_1_24_63 in4 rfl (by decide) t_567 (Or.inl rfl) hy57.1 he60 rfl ?_
      have hc60 : Tc k K h w60 (en 1 - bg 1) (sub cd (bg 1) (en 1 - bg 1)) := by
        rw [show w60 = (K y57).2.1 from hwq60, hq57]
        exact (hPT 1 (by decide)).2
      refine g_aload_n cx 1 d_1_24_66 rfl rfl ?_
      refine g_iconst cx (v := 3) d_1_24_67 (by decide) ?_
      refine g_callV cx (As := [.int 3]) (n := 1) (gj_getF (K := K) (B := B) (T := T) (ce := 4) (j := 3) (mm := 4) (es := es) (by decide) hB) d_1_24_68 t_239 t_240 t_241 t_8 t_242 ⟨by decide, by decide, by decide +kernel⟩ rfl (ci := 2) rfl hm1 hl1 ⟨rfl, hT, hpl, (by omega), hL.ls, (by decide)⟩ ⟨Nat.le_of_ble_eq_true rfl, Nat.le_of_ble_eq_true rfl⟩ (Nat.le_of_ble_eq_true rfl) ⟨Nat.zero_le _, Nat.zero_le _⟩ (fun v68 h r68 => ?_) (fun x68 h r68 => by obtain ⟨-, e9, -⟩ := r68; cases e9)
      obtain ⟨rfl, e68, hy68⟩ := r68
      obtain ⟨y68, hq68⟩ : ∃ y, y = es 3 := ⟨_, rfl⟩
      rw [← hq68] at e68 hy68
      cases e68
      replace hy68 : Ty K h 4 y68 := hy68
      obtain ⟨w71, he71, hw71, hwq71⟩ := TP.o (κ := 4) hT hy68
      obtain ⟨nw71, hw71⟩ : ∃ n, Tw k K h w71 n := ⟨_, Tx.tx hw71⟩
      refine g_ccast cx (ci := 4) d_1_24_71 t_535 rfl hy68.1 he71 ?_
      refine g_getf cx (k := 0) d_1_24_74 in4 rfl (by decide) t_567 (Or.inl rfl) hy68.1 he71 rfl ?_
      have hc71 : Tc k K h w71 (en 3 - bg 3) (sub cd (bg 3) (en 3 - bg 3)) := by
        rw [show w71 = (K y68).2.1 from hwq71, hq68]
        exact (hPT 3 (by decide)).2
      obtain ⟨la77, lr77, tr77, tn77, he77, hla77, hlr77, htr77, htn77, hlq77, hlaq77⟩ := TP.o (κ := 1) hT ha
      refine g_callV cx (As := [.ref w60, .ref w71]) (n := 2) (tc_addImportF (n := en 1 - bg 1) (cd := sub cd (bg 1) (en 1 - bg 1)) (nb := en 3 - bg 3) (cb := sub cd (bg 3) (en 3 - bg 3)) (lr := lr) (S := S) (rz := rz) (az := az) (nt := nt) hB17 htr) d_1_24_77 t_787 t_789 ts_19 t_1 t_790 ⟨by decide, by decide, by decide +kernel⟩ rfl (ci := 0) rfl ha.1 he77 ⟨rfl, hT, ha, hlrq, hc60, hc71, hQ⟩ ⟨Nat.le_of_ble_eq_true rfl, Nat.le_of_ble_eq_true rfl⟩ (Nat.le_of_ble_eq_true rfl) ⟨Nat.le_of_ble_eq_true rfl, Nat.le_of_ble_eq_true rfl⟩ (fun v77 h r77 => ?_) (fun x77 h r77 => tqA hE r77 (fun _ _ q => Or.inl ⟨⟨hy6, hy7⟩, q⟩))
      obtain ⟨x77, ex77⟩ := tq_intA r77
      subst ex77
      exact g_iret cx d_1_24_80 rfl rfl (tqA hE r77 (fun _ _ q => Or.inl ⟨⟨hy6, hy7⟩, q⟩))
    · skip
      have hn7 : ¬ CE (en 2 - bg 2) (ln 7) (sub cd (bg 2) (en 2 - bg 2)) (kc 7) := by
        rcases xb40 with z | z
        · exact absurd c43 (by rw [z.1]; decide)
        · exact z.2
      have hng : ¬ (IS (fun i => en i - bg i) (fun i => sub cd (bg i) (en i - bg i)) 0 6 ∧ IS (fun i => en i - bg i) (fun i => sub cd (bg i) (en i - bg i)) 2 7) := by
        first
          | exact fun q => hn6 q.1
          | exact fun q => hn7 q.2
      exact t_iae cx htr d_1_24_46 d_1_24_49 d_1_24_50 d_1_24_53  ⟨Nat.le_of_ble_eq_true rfl, Nat.le_of_ble_eq_true rfl⟩ (Nat.le_of_ble_eq_true rfl) ⟨Nat.le_of_ble_eq_true rfl, Nat.le_of_ble_eq_true rfl⟩ (fun x hx hz => thrA (-1) (Or.inl ⟨rfl, rfl⟩) hT hE hx hz (Or.inr ⟨hng, rfl, rfl⟩) hQ)
set_option maxHeartbeats 8000000 in
theorem tc_lineF {Sb : Nat → Prop} {a ab v c0 cap cd lr : Nat} {S : SL} {rz az nt : Nat → Nat} (hB : B < 2 ^ 17) (htr : l.stackTraces = false) : TC l y_100 prog_1_method_3_code 2 (Option.some Jvm.ClassFile.FieldType.int) (rmT 13 132 3130) D z0 k [.ref a] K (B) (T) (fun h => Ty K h 1 a ∧ (K a).2.1 = ab ∧ BK D K h Sb ab v c0 cap cd ∧ (K a).2.2 = lr ∧ CQ D k K h lr S rz az nt) (B) (T) (XP (fun z => z = ab) PK K) (RLA D k Sb ab lr (StepL cd c0 S)) := by
  refine tc_of (by decide) (Nat.le_of_ble_eq_true rfl) ?_
  intro h hT hp p e s m args below meth c cx hnm
  have hE : Ev k (XP (fun z => z = ab) PK K) K h K h := Ev.rf
  have hB17 := hB
  replace hB : B < 2 ^ 20 := Nat.lt_trans hB (by decide)
  obtain ⟨ha, hab0, hbk, hlrq, hQ⟩ := hp
  refine g_aload_n cx 0 d_1_3_0 rfl rfl ?_
  have hab9 := hbk.2.1
  obtain ⟨la9, lr9, tr9, tn9, hed, -⟩ := TP.desk hT ha hab0
  refine g_callV cx (As := []) (n := 0) (tc_takeWritten (S := Sb) (ab := ab) (c0 := c0) (v := v) (cap := cap)) d_1_3_1 t_265 t_267 ts_1 t_1 t_268 ⟨by decide, by decide, by decide +kernel⟩ rfl (ci := 0) rfl ha.1 hed ⟨rfl, hT, ha, hab0, hbk⟩ ⟨Nat.le_of_ble_eq_true rfl, Nat.le_of_ble_eq_true rfl⟩ (Nat.le_of_ble_eq_true rfl) ⟨Nat.le_of_ble_eq_true rfl, Nat.le_of_ble_eq_true rfl⟩ (fun v1 h r1 => ?_) (fun x1 h r1 => by obtain ⟨K9, -, -, r9, v9, c9, e9, -⟩ := r1; cases e9)
  obtain ⟨K, hT, ev, rel1⟩ := r1
  obtain ⟨z1, v2, cap2, e1, hx1, hbk⟩ := rel1
  cases e1
  have hxt1 := hx1.1
  replace hQ := hQ.ev ev (x1Q hab9)
  replace hlrq := (Ev.fix (κ := 0) ev ha (by unfold Gk; omega)).trans hlrq
  replace hab0 := Ev.ab ev ha hab0
  replace ha := Ev.ty ev ha
  replace hE := xab (P := PK) ev
  refine g_callS cx (As := [.ref z1]) (n := 1) (tc_splitF (n := c0) (cd := cd)) d_1_3_4 t_516 t_517 t_1 t_518 ⟨by decide, by decide, by decide +kernel⟩ rfl ⟨rfl, hT, hx1⟩ ⟨Nat.le_of_ble_eq_true rfl, Nat.le_of_ble_eq_true rfl⟩ (Nat.le_of_ble_eq_true rfl) ⟨Nat.le_of_ble_eq_true rfl, Nat.le_of_ble_eq_true rfl⟩ (fun v4 h r4 => ?_) (fun x4 h r4 => by obtain ⟨K9, -, -, r9, p9, b9, n9, s9, e9, -⟩ := r4; cases e9)
  obtain ⟨K, hT, ev, rel4⟩ := r4
  replace hQ := hQ.ev ev xnQ
  replace ev := xnd ev
  obtain ⟨z4, pn, bg, en, es, e4, hL4, hSP, hPT⟩ := rel4
  cases e4
  have hz4 := hL4.1
  have hpn := hL4.2.1
  replace hbk := hbk.mvD ev
  replace hlrq := (Ev.fix (κ := 0) ev ha (by unfold Gk; omega)).trans hlrq
  replace hab0 := Ev.ab ev ha hab0
  replace ha := Ev.ty ev ha
  replace hE := Ev.trP hE (xw ev)
  refine g_astore_n cx (lv' := [(1, .ref z4), (0, .ref a)]) d_1_3_7 rfl (by decide) rfl ?_
  refine g_aload_n cx 0 d_1_3_8 rfl rfl ?_
  obtain ⟨⟨ea9, mo9, hm9, hl9⟩, hb9⟩ := TP.n24 hT hz4
  refine g_pcV cx (As := []) (n := 0) (pj_size (n := (K z4).2.2)) d_1_3_9 t_235 t_236 t_237 t_8 t_238 ⟨by decide, by decide, by decide +kernel⟩ rfl (ci := 2) rfl hm9 hl9 ⟨ea9, mo9, hm9, hl9⟩ ⟨Nat.le_of_ble_eq_true rfl, Nat.le_of_ble_eq_true rfl⟩ (Nat.le_of_ble_eq_true rfl) (fun v9 r9 => ?_)
  subst r9
  by_cases s0 : (K z4).2.2 = 0
  · skip
    refine g_tableIn cx (off := 36) (tgt := 48) d_1_3_12 (by rw [s0]; decide +kernel) (by rw [s0]; decide +kernel) (by rw [s0]; decide +kernel) rfl ?_
    have hp0 : pn = 0 := by omega
    refine g_iconst cx (v := 0) d_1_3_48 (by decide) ?_
    exact g_iret cx d_1_3_49 rfl rfl (lineOutA (Do := StepL cd c0 S) hE hbk ⟨K, hT, Ev.rf, 0, S, rz, az, nt, Or.inl ⟨by decide, rfl⟩, ⟨pn, bg, en, hSP, Or.inl ⟨hp0, rfl, rfl⟩⟩, hQ⟩ (fun _ _ q => q))
  by_cases s1 : (K z4).2.2 = 1
  · skip
    refine g_tableIn cx (off := 38) (tgt := 50) d_1_3_12 (by rw [s1]; decide +kernel) (by rw [s1]; decide +kernel) (by rw [s1]; decide +kernel) rfl ?_
    have hp1 : pn = 1 := by omega
    refine g_aload_n cx 1 d_1_3_50 rfl rfl ?_
    refine g_aload_n cx 0 d_1_3_51 rfl rfl ?_
    refine g_iconst cx (v := 0) d_1_3_52 (by decide) ?_
    refine g_callV cx (As := [.int 0]) (n := 1) (gj_getF (K := K) (B := B) (T := T) (ce := 4) (j := 0) (mm := pn) (es := es) (by decide) hB) d_1_3_53 t_239 t_240 t_241 t_8 t_242 ⟨by decide, by decide, by decide +kernel⟩ rfl (ci := 2) rfl hm9 hl9 ⟨rfl, hT, hz4, (by omega), hL4.ls, (by omega)⟩ ⟨Nat.le_of_ble_eq_true rfl, Nat.le_of_ble_eq_true rfl⟩ (Nat.le_of_ble_eq_true rfl) ⟨Nat.zero_le _, Nat.zero_le _⟩ (fun v53 h r53 => ?_) (fun x53 h r53 => by obtain ⟨-, e9, -⟩ := r53; cases e9)
    obtain ⟨rfl, e53, hy53⟩ := r53
    obtain ⟨y53, hq53⟩ : ∃ y, y = es 0 := ⟨_, rfl⟩
    rw [← hq53] at e53 hy53
    cases e53
    replace hy53 : Ty K h 4 y53 := hy53
    obtain ⟨w56, he56, hw56, hwq56⟩ := TP.o (κ := 4) hT hy53
    obtain ⟨nw56, hw56⟩ : ∃ n, Tw k K h w56 n := ⟨_, Tx.tx hw56⟩
    refine g_ccast cx (ci := 4) d_1_3_56 t_535 rfl hy53.1 he56 ?_
    refine g_getf cx (k := 0) d_1_3_59 in4 rfl (by decide) t_567 (Or.inl rfl) hy53.1 he56 rfl ?_
    have hc56 : Tc k K h w56 (en 0 - bg 0) (sub cd (bg 0) (en 0 - bg 0)) := by
      rw [show w56 = (K y53).2.1 from hwq56, hq53]
      exact (hPT 0 (by omega)).2
    obtain ⟨la62, lr62, tr62, tn62, he62, hla62, hlr62, htr62, htn62, hlq62, hlaq62⟩ := TP.desk hT ha hab0
    refine g_callV cx (As := [.ref w56]) (n := 1) (tc_setOrderF (n := en 0 - bg 0) (cd := sub cd (bg 0) (en 0 - bg 0)) (lr := lr) (S := S) (rz := rz) (az := az) (nt := nt) hB17 htr) d_1_3_62 t_616 t_618 ts_8 t_1 t_619 ⟨by decide, by decide, by decide +kernel⟩ rfl (ci := 0) rfl ha.1 he62 ⟨rfl, hT, ha, hlrq, hc56, hQ, (by have := (hSP.1 0 (by omega)).1; omega)⟩ ⟨Nat.le_of_ble_eq_true rfl, Nat.le_of_ble_eq_true rfl⟩ (Nat.le_of_ble_eq_true rfl) ⟨Nat.le_of_ble_eq_true rfl, Nat.le_of_ble_eq_true rfl⟩ (fun v62 h r62 => ?_) (fun x62 h r62 => lineOutA hE hbk (tqN r62) (fun _ _ q => ⟨pn, bg, en, hSP, StpL.o hp1 q⟩))
    obtain ⟨x62, ex62⟩ := tq_intA r62
    subst ex62
    exact g_iret cx d_1_3_65 rfl rfl (lineOutA hE hbk (tqN r62) (fun _ _ q => ⟨pn, bg, en, hSP, StpL.o hp1 q⟩))
  by_cases s2 : (K z4).2.2 = 2
  · skip
    refine g_tableIn cx (off := 54) (tgt := 66) d_1_3_12 (by rw [s2]; decide +kernel) (by rw [s2]; decide +kernel) (by rw [s2]; decide +kernel) rfl ?_
    have hp2 : pn = 2 := by omega
    refine g_aload_n cx 1 d_1_3_66 rfl rfl ?_
    refine g_aload_n cx 0 d_1_3_67 rfl rfl ?_
    refine g_iconst cx (v := 0) d_1_3_68 (by decide) ?_
    refine g_callV cx (As := [.int 0]) (n := 1) (gj_getF (K := K) (B := B) (T := T) (ce := 4) (j := 0) (mm := pn) (es := es) (by decide) hB) d_1_3_69 t_239 t_240 t_241 t_8 t_242 ⟨by decide, by decide, by decide +kernel⟩ rfl (ci := 2) rfl hm9 hl9 ⟨rfl, hT, hz4, (by omega), hL4.ls, (by omega)⟩ ⟨Nat.le_of_ble_eq_true rfl, Nat.le_of_ble_eq_true rfl⟩ (Nat.le_of_ble_eq_true rfl) ⟨Nat.zero_le _, Nat.zero_le _⟩ (fun v69 h r69 => ?_) (fun x69 h r69 => by obtain ⟨-, e9, -⟩ := r69; cases e9)
    obtain ⟨rfl, e69, hy69⟩ := r69
    obtain ⟨y69, hq69⟩ : ∃ y, y = es 0 := ⟨_, rfl⟩
    rw [← hq69] at e69 hy69
    cases e69
    replace hy69 : Ty K h 4 y69 := hy69
    obtain ⟨w72, he72, hw72, hwq72⟩ := TP.o (κ := 4) hT hy69
    obtain ⟨nw72, hw72⟩ : ∃ n, Tw k K h w72 n := ⟨_, Tx.tx hw72⟩
    refine g_ccast cx (ci := 4) d_1_3_72 t_535 rfl hy69.1 he72 ?_
    refine g_getf cx (k := 0) d_1_3_75 in4 rfl (by decide) t_567 (Or.inl rfl) hy69.1 he72 rfl ?_
    have hc72 : Tc k K h w72 (en 0 - bg 0) (sub cd (bg 0) (en 0 - bg 0)) := by
      rw [show w72 = (K y69).2.1 from hwq72, hq69]
      exact (hPT 0 (by omega)).2
    refine g_aload_n cx 0 d_1_3_78 rfl rfl ?_
    refine g_iconst cx (v := 1) d_1_3_79 (by decide) ?_
    refine g_callV cx (As := [.int 1]) (n := 1) (gj_getF (K := K) (B := B) (T := T) (ce := 4) (j := 1) (mm := pn) (es := es) (by decide) hB) d_1_3_80 t_239 t_240 t_241 t_8 t_242 ⟨by decide, by decide, by decide +kernel⟩ rfl (ci := 2) rfl hm9 hl9 ⟨rfl, hT, hz4, (by omega), hL4.ls, (by omega)⟩ ⟨Nat.le_of_ble_eq_true rfl, Nat.le_of_ble_eq_true rfl⟩ (Nat.le_of_ble_eq_true rfl) ⟨Nat.zero_le _, Nat.zero_le _⟩ (fun v80 h r80 => ?_) (fun x80 h r80 => by obtain ⟨-, e9, -⟩ := r80; cases e9)
    obtain ⟨rfl, e80, hy80⟩ := r80
    obtain ⟨y80, hq80⟩ : ∃ y, y = es 1 := ⟨_, rfl⟩
    rw [← hq80] at e80 hy80
    cases e80
    replace hy80 : Ty K h 4 y80 := hy80
    obtain ⟨w83, he83, hw83, hwq83⟩ := TP.o (κ := 4) hT hy80
    obtain ⟨nw83, hw83⟩ : ∃ n, Tw k K h w83 n := ⟨_, Tx.tx hw83⟩
    refine g_ccast cx (ci := 4) d_1_3_83 t_535 rfl hy80.1 he83 ?_
    refine g_getf cx (k := 0) d_1_3_86 in4 rfl (by decide) t_567 (Or.inl rfl) hy80.1 he83 rfl ?_
    have hc83 : Tc k K h w83 (en 1 - bg 1) (sub cd (bg 1) (en 1 - bg 1)) := by
      rw [show w83 = (K y80).2.1 from hwq83, hq80]
      exact (hPT 1 (by omega)).2
    obtain ⟨la89, lr89, tr89, tn89, he89, hla89, hlr89, htr89, htn89, hlq89, hlaq89⟩ := TP.desk hT ha hab0
    refine g_callV cx (As := [.ref w72, .ref w83]) (n := 2) (tc_readPairF (n := en 0 - bg 0) (cd := sub cd (bg 0) (en 0 - bg 0)) (nb := en 1 - bg 1) (cb := sub cd (bg 1) (en 1 - bg 1)) (lr := lr) (S := S) (rz := rz) (az := az) (nt := nt) hB17 htr) d_1_3_89 t_656 t_658 ts_10 t_1 t_659 ⟨by decide, by decide, by decide +kernel⟩ rfl (ci := 0) rfl ha.1 he89 ⟨rfl, hT, ha, hlrq, hc72, hc83, (by have := (hSP.1 0 (by omega)).1; omega), hQ⟩ ⟨Nat.le_of_ble_eq_true rfl, Nat.le_of_ble_eq_true rfl⟩ (Nat.le_of_ble_eq_true rfl) ⟨Nat.le_of_ble_eq_true rfl, Nat.le_of_ble_eq_true rfl⟩ (fun v89 h r89 => ?_) (fun x89 h r89 => lineOutA hE hbk r89 (fun _ _ q => ⟨pn, bg, en, hSP, StpL.pr hp2 q⟩))
    obtain ⟨x89, ex89⟩ := tq_intA r89
    subst ex89
    exact g_iret cx d_1_3_92 rfl rfl (lineOutA hE hbk r89 (fun _ _ q => ⟨pn, bg, en, hSP, StpL.pr hp2 q⟩))
  by_cases s3 : (K z4).2.2 = 3
  · skip
    refine g_tableIn cx (off := 87) (tgt := 99) d_1_3_12 (by rw [s3]; decide +kernel) (by rw [s3]; decide +kernel) (by rw [s3]; decide +kernel) rfl ?_
    exact t_iae cx htr d_1_3_99 d_1_3_102 d_1_3_103 d_1_3_106  ⟨Nat.le_of_ble_eq_true rfl, Nat.le_of_ble_eq_true rfl⟩ (Nat.le_of_ble_eq_true rfl) ⟨Nat.le_of_ble_eq_true rfl, Nat.le_of_ble_eq_true rfl⟩ (fun x hx hz => lineOutA (Do := StepL cd c0 S) hE hbk (thrA (-1) (Or.inl ⟨rfl, rfl⟩) hT (Ev.rf (X := XD K)) hx hz ⟨pn, bg, en, hSP, StpL.x (by omega) (by omega) (by omega) (by omega)⟩ hQ) (fun _ _ q => q))
  by_cases s4 : (K z4).2.2 = 4
  · skip
    refine g_tableIn cx (off := 81) (tgt := 93) d_1_3_12 (by rw [s4]; decide +kernel) (by rw [s4]; decide +kernel) (by rw [s4]; decide +kernel) rfl ?_
    have hp4 : pn = 4 := by omega
    refine g_aload_n cx 1 d_1_3_93 rfl rfl ?_
    refine g_aload_n cx 0 d_1_3_94 rfl rfl ?_
    obtain ⟨la95, lr95, tr95, tn95, he95, hla95, hlr95, htr95, htn95, hlq95, hlaq95⟩ := TP.desk hT ha hab0
    refine g_callV cx (As := [.ref z4]) (n := 1) (tc_readFourF (cd := cd) (bg := bg) (en := en) (es := es) (lr := lr) (S := S) (rz := rz) (az := az) (nt := nt) hB17 htr) d_1_3_95 t_781 t_783 ts_18 t_1 t_784 ⟨by decide, by decide, by decide +kernel⟩ rfl (ci := 0) rfl ha.1 he95 ⟨rfl, hT, ha, hlrq, (by rw [← hp4]; exact hL4), (by rw [← hp4]; exact hPT), (fun i hi => (hSP.1 i (by omega)).1), hQ⟩ ⟨Nat.le_of_ble_eq_true rfl, Nat.le_of_ble_eq_true rfl⟩ (Nat.le_of_ble_eq_true rfl) ⟨Nat.le_of_ble_eq_true rfl, Nat.le_of_ble_eq_true rfl⟩ (fun v95 h r95 => ?_) (fun x95 h r95 => lineOutA hE hbk r95 (fun _ _ q => ⟨pn, bg, en, hSP, StpL.fo hp4 q⟩))
    obtain ⟨x95, ex95⟩ := tq_intA r95
    subst ex95
    exact g_iret cx d_1_3_98 rfl rfl (lineOutA hE hbk r95 (fun _ _ q => ⟨pn, bg, en, hSP, StpL.fo hp4 q⟩))
  refine g_tableOut cx (tgt := 99) d_1_3_12 (Or.inr (by rw [nI_toInt (by omega)]; omega)) rfl ?_
  exact t_iae cx htr d_1_3_99 d_1_3_102 d_1_3_103 d_1_3_106  ⟨Nat.le_of_ble_eq_true rfl, Nat.le_of_ble_eq_true rfl⟩ (Nat.le_of_ble_eq_true rfl) ⟨Nat.le_of_ble_eq_true rfl, Nat.le_of_ble_eq_true rfl⟩ (fun x hx hz => lineOutA (Do := StepL cd c0 S) hE hbk (thrA (-1) (Or.inl ⟨rfl, rfl⟩) hT (Ev.rf (X := XD K)) hx hz ⟨pn, bg, en, hSP, StpL.x (by omega) (by omega) (by omega) (by omega)⟩ hQ) (fun _ _ q => q))
def DrP (D : va_G) (z0 : Nat) (k : Nat → Nat) (K : KM) (B T : Nat) (h : hp) (S : SL) (rz : Nat → Nat) (v0 : Int32) (o : Outcome) (h' : hp) : Prop := (∃ (j : Nat) (e : va_E), j < S 0 0 ∧ v0 = nI j ∧ S 3 j = 0 ∧ o = .returned (some (.int 1)) ∧ h' = (h.1, va_up h.2 (rz j) e) ∧ TP D z0 k (va_up K (rz j) (6, (K (rz j)).2.1, 2 * ((K (rz j)).2.2 / 2) + 1)) B T h') ∨ (h' = h ∧ o = .returned (some (.int 0)) ∧ ∀ t, t < S 0 0 → v0 = nI t → ¬ S 3 t = 0)
set_option maxHeartbeats 4000000 in
theorem tc_dropF {a lr : Nat} {S : SL} {rz az nt : Nat → Nat} {v0 : Int32} (hB : B < 2 ^ 20) : Ctr l y_47 prog_1_method_9_code 2 (Option.some Jvm.ClassFile.FieldType.boolean) (rmT 7 0 0) D z0 (EE z0 k) (fun as h => as = [.ref a, .int v0] ∧ TP D z0 k K B T h ∧ Ty K h 1 a ∧ (K a).2.2 = lr ∧ CQ D k K h lr S rz az nt) (fun _ h o h' => DrP D z0 k K B T h S rz v0 o h') := by
  refine ctr_of Cl.stb (by decide) (fun as h q => by rw [q.1]; exact Nat.le_of_ble_eq_true rfl) ?_
  intro as h q p e s m args below meth c cx
  obtain ⟨rfl, hT, ha, hlrq, hQ⟩ := q
  refine g_aload_n cx 0 d_1_9_0 rfl rfl ?_
  refine g_iload_n cx 1 d_1_9_1 rfl rfl ?_
  obtain ⟨la2, lr2, tr2, tn2, he2, hla2, hlr2, htr2, htn2, hlq2, hlaq2⟩ := TP.o (κ := 1) hT ha
  have hl2 : lr2 = lr := Eq.trans hlq2 hlrq
  refine g_callV cx (As := [.int v0]) (n := 1) (pt_isThereF (K := K) (B := B) (T := T) (v0 := v0) (lr := lr) (S := S) (rz := rz) (az := az) (nt := nt) hB) d_1_9_2 t_231 t_233 ts_0 t_1 t_234 ⟨by decide, by decide, by decide +kernel⟩ rfl (ci := 0) rfl ha.1 he2 ⟨rfl, hT, ha, hlrq, hQ⟩ ⟨Nat.le_of_ble_eq_true rfl, Nat.le_of_ble_eq_true rfl⟩ (Nat.le_of_ble_eq_true rfl) ⟨Nat.zero_le _, Nat.zero_le _⟩ (fun v2 h r2 => ?_) (fun x2 h r2 => by obtain ⟨-, v9, e9, -⟩ := r2; cases e9)
  obtain ⟨rfl, wo2, e2, r2⟩ := r2
  cases e2
  obtain ⟨x2, rfl, xj2⟩ := r2
  refine g_if_ne cx d_1_9_5 rfl (fun c5 => ?_) (fun c5 => ?_)
  · skip
    obtain ⟨j, hjn, hv0, hgo⟩ : ∃ j, j < S 0 0 ∧ v0 = nI j ∧ S 3 j = 0 := by
      rcases xj2 with z | z
      · exact z.2
      · exact absurd z.1 c5
    subst hv0
    have hLs : LsK D K h lr2 26 (S 0 0) rz := by rw [hl2]; exact hQ.1.1
    have hj : j < (K lr2).2.2 := by rw [hLs.2.1]; exact hjn
    refine g_aload_n cx 0 d_1_9_10 rfl rfl ?_
    refine g_getf cx (k := 2) d_1_9_11 in0 rfl (by decide) t_98 (Or.inl rfl) ha.1 he2 rfl ?_
    refine g_iload_n cx 1 d_1_9_14 rfl rfl ?_
    obtain ⟨⟨ea15, mo15, hm15, hl15⟩, hb15⟩ := TP.n26 hT hlr2
    refine g_callV cx (As := [.int (nI j)]) (n := 1) (gj_getF (K := K) (B := B) (T := T) (ce := 6) (j := j) (mm := (S 0 0)) (es := rz) (by decide) hB) d_1_9_15 t_239 t_240 t_241 t_8 t_242 ⟨by decide, by decide, by decide +kernel⟩ rfl (ci := 2) rfl hm15 hl15 ⟨rfl, hT, hlr2, hj, hLs.ls, hjn⟩ ⟨Nat.le_of_ble_eq_true rfl, Nat.le_of_ble_eq_true rfl⟩ (Nat.le_of_ble_eq_true rfl) ⟨Nat.zero_le _, Nat.zero_le _⟩ (fun v15 h r15 => ?_) (fun x15 h r15 => by obtain ⟨-, e9, -⟩ := r15; cases e9)
    obtain ⟨rfl, e15, hy15⟩ := r15
    obtain ⟨y15, hq15⟩ : ∃ y, y = rz j := ⟨_, rfl⟩
    rw [← hq15] at e15 hy15
    cases e15
    replace hy15 : Ty K h 6 y15 := hy15
    obtain ⟨n18, b118, b218, b318, w18, lo18, im18, fi18, pa18, he18, hw18, hlo18, him18, hfi18, hpa18, hwq18⟩ := TP.o (κ := 6) hT hy15
    obtain ⟨nw18, hw18⟩ : ∃ n, Tw k K h w18 n := ⟨_, Tx.tx hw18⟩
    refine g_ccast cx (ci := 6) d_1_9_18 t_251 rfl hy15.1 he18 ?_
    refine g_iconst cx (v := 1) d_1_9_21 (by decide) ?_
    refine g_putf cx d_1_9_22 in6 ty6_ok nm6 rfl (k := 7) (by decide) t_743 (Or.inl rfl) rfl (ty6_ok 7 (by decide)) rfl rfl hy15.1 he18 (Nat.le_of_ble_eq_true rfl) ?_
    refine g_iconst cx (v := 1) d_1_9_25 (by decide) ?_
    exact g_iret cx d_1_9_26 rfl rfl (Or.inl ⟨j, .inr (6, [.int n18, .ref w18, .ref lo18, .ref im18, .ref fi18, va_rf pa18, .int b118, .int 1, .int b318]), hjn, rfl, hgo, rfl, by first | (rw [← hq15]; done) | (rw [← hq15]; rfl), by rw [← hq15]; exact TP.went hT hy15 (okc.ob (by show ¬ (23 ≤ 6 ∧ 6 ≤ 29); decide) (by show ¬ (33 ≤ 6 ∧ 6 ≤ 39); decide) ⟨n18, b118, 1, b318, w18, lo18, im18, fi18, pa18, rfl, hw18.tx, hlo18, him18, hfi18, hpa18, hwq18.1, (by show (1 : Int32) = nI ((2 * ((K y15).2.2 / 2) + 1) % 2); rw [show (2 * ((K y15).2.2 / 2) + 1) % 2 = 1 by omega]; rfl), (by show im18 = (2 * ((K y15).2.2 / 2) + 1) / 2; rw [show (2 * ((K y15).2.2 / 2) + 1) / 2 = (K y15).2.2 / 2 by omega]; exact hwq18.2.2.1), hwq18.2.2.2⟩)⟩)
  · skip
    have hno : ∀ t, t < S 0 0 → v0 = nI t → ¬ S 3 t = 0 := by
      rcases xj2 with z | z
      · exact absurd c5 (by rw [z.1]; decide)
      · exact z.2
    refine g_iconst cx (v := 0) d_1_9_8 (by decide) ?_
    exact g_iret cx d_1_9_9 rfl rfl (Or.inr ⟨rfl, rfl, hno⟩)
end F6
