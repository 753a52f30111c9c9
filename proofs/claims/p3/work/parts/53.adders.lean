/-! What a line adds: the class's methods with exact answers. -/
/-- a method that answers as Do tells, and the cells follow -/
def AX (D : va_G) (k : Nat → Nat) (lr : Nat) (Do : Int32 → SL → Prop) : Outcome → KM → hp → Prop := fun o K h => ∃ (an : Int32) (S' : SL) (rz az nt : Nat → Nat), OA an o K h ∧ Do an S' ∧ CQ D k K h lr S' rz az nt
theorem OA.rt {an : Int32} {o : Outcome} {K : KM} {h : hp} (q : OA an o K h) : RT S1 o K h := by
  rcases q with ⟨-, q⟩ | ⟨-, x, c, e1, e2, e3, e4⟩ | ⟨-, x, c, e1, e2, e3, e4⟩
  · exact Or.inl ⟨an, q⟩
  · exact Or.inr ⟨x, c, e1, e2, Or.inl e3, e4⟩
  · exact Or.inr ⟨x, c, e1, e2, Or.inr e3, e4⟩
theorem NmOk.pos {n c : Nat} (h : NmOk n c) : 1 ≤ n := by
  rcases Nat.eq_zero_or_pos n with q | q
  · rw [q] at h
    exact absurd h NmR.none
  · exact q
section AXS
variable {D : va_G} {z0 : Nat} {k : Nat → Nat} {K K' : KM} {h h' : hp} {B T lr : Nat} {rz az nt : Nat → Nat} {X : Nat → Prop} {S : SL} {Do Do' : Int32 → SL → Prop}
theorem thrA {K0 : KM} {h0 : hp} {x ci : Nat} (an : Int32) (hc : (an = -1 ∧ ci = 10) ∨ (an = -2 ∧ ci = 11)) (hT : TP D z0 k K B T h) (hE : Ev k X K0 h0 K h) (hx : x ∉ h.1) (hz : z0 ≤ x) (hd : Do an S) (hQ : CQ D k K h lr S rz az nt) : TQ D z0 k K0 h0 B T X (AX D k lr Do) (.threw x) (h.1 ++ [x], va_up h.2 x (.inr (ci, []))) := by
  refine ⟨_, hT.frz hx hz, hE.tr (Ev.push hT hx hz), an, S, rz, az, nt, Or.inr (hc.imp (fun q => ⟨q.1, ?_⟩) (fun q => ⟨q.1, ?_⟩)), hd, hQ.ev (Ev.push hT hx hz) (fun _ _ => id)⟩
  · exact ⟨x, ci, rfl, List.mem_append_right _ (List.mem_singleton.mpr rfl), q.2, va_up_self _ _ _⟩
  · exact ⟨x, ci, rfl, List.mem_append_right _ (List.mem_singleton.mpr rfl), q.2, va_up_self _ _ _⟩
theorem AX.mp {o : Outcome} (q : AX D k lr Do o K h) (hM : ∀ an S', Do an S' → Do' an S') : AX D k lr Do' o K h := by
  obtain ⟨an, S', rz, az, nt, a1, a2, a3⟩ := q
  exact ⟨an, S', rz, az, nt, a1, hM _ _ a2, a3⟩
theorem tqA {K0 : KM} {h0 h1 : hp} {o : Outcome} (hE : Ev k (XD K0) K0 h0 K h) (q : TQ D z0 k K h B T (XD K) (AX D k lr Do) o h1) (hM : ∀ an S', Do an S' → Do' an S') : TQ D z0 k K0 h0 B T (XD K0) (AX D k lr Do') o h1 := by
  obtain ⟨K2, t, ev, r⟩ := q
  exact ⟨K2, t, Ev.trP hE ev, r.mp hM⟩
theorem tqN {h1 : hp} {o : Outcome} {Rel : Outcome → KM → hp → Prop} (q : TQ D z0 k K h B T (XN K) Rel o h1) : TQ D z0 k K h B T (XD K) Rel o h1 := by
  obtain ⟨K2, t, ev, r⟩ := q
  exact ⟨K2, t, xnd ev, r⟩
theorem tq_intA {h1 : hp} {v : Option Value} (q : TQ D z0 k K h B T X (AX D k lr Do) (.returned v) h1) : ∃ x : Int32, v = some (.int x) := by
  obtain ⟨K2, t, ev, an, S', rz, az, nt, r, -⟩ := q
  exact rt_int r.rt
theorem LIn.of {j y : Nat} (hQ : CQ D k K h lr S rz az nt) (h0 : 0 < S 0 0) (hj : j < S 4 0) (hy : y = az j) (q : ∃ t, t < S 10 0 ∧ az (S 11 t) = y) : LIn S j := by
  obtain ⟨t, ht, e⟩ := q
  exact ⟨t, ht, hQ.2.1.2.2 _ _ ((hQ.2.2.2 h0).2 t ht) hj (e.trans hy)⟩
theorem x6Q {y : Nat} (hy : Ty K h 6 y) : ∀ z, Pq (K z).1 → ¬ z = y := fun z hz e => by
  unfold Pq at hz
  rw [e, hy.2] at hz
  omega
end AXS
/-- the order's line -/
def DoOO (S : SL) (n c : Nat) (an : Int32) (S' : SL) : Prop := ((CE n (ln 8) c (kc 8) ∨ CE n (ln 9) c (kc 9)) ∧ DoO S an S') ∨ ((¬ CE n (ln 8) c (kc 8) ∧ ¬ CE n (ln 9) c (kc 9)) ∧ an = -1 ∧ S' = S)
def DoPr (S : SL) (n c nb cb : Nat) (an : Int32) (S' : SL) : Prop := (CE n (ln 1) c (kc 1) ∧ DoA S nb cb an S') ∨ (CE n (ln 2) c (kc 2) ∧ DoN S nb cb an S') ∨ (CE n (ln 3) c (kc 3) ∧ DoR S nb cb an S') ∨ (CE n (ln 4) c (kc 4) ∧ DoL S nb cb an S') ∨ (CE n (ln 5) c (kc 5) ∧ DoP S nb cb an S') ∨ ((¬ CE n (ln 1) c (kc 1) ∧ ¬ CE n (ln 2) c (kc 2) ∧ ¬ CE n (ln 3) c (kc 3) ∧ ¬ CE n (ln 4) c (kc 4) ∧ ¬ CE n (ln 5) c (kc 5)) ∧ an = -1 ∧ S' = S)
def DoFo (S : SL) (n c : Nat → Nat) (an : Int32) (S' : SL) : Prop := ((IS n c 0 6 ∧ IS n c 2 7) ∧ DoI S (n 1) (c 1) (n 3) (c 3) an S') ∨ (¬ (IS n c 0 6 ∧ IS n c 2 7) ∧ an = -1 ∧ S' = S)
section F5
variable {l : Launch} {D : va_G} {z0 : Nat} {k : Nat → Nat} {K : KM} {B T : Nat}
set_option maxHeartbeats 8000000 in
theorem tc_addRealmF {a w n cd lr : Nat} {S : SL} {rz az nt : Nat → Nat} (hB : B < 2 ^ 17) (htr : l.stackTraces = false) : TC l y_132 prog_1_method_27_code 2 (Option.some Jvm.ClassFile.FieldType.int) (rmT 10 5 42) D z0 k [.ref a, .ref w] K (B) (T) (fun h => Ty K h 1 a ∧ (K a).2.2 = lr ∧ Tc k K h w n cd ∧ CQ D k K h lr S rz az nt) (B) (T) (XD K) (AX D k lr (DoR S n cd)) := by
  refine tc_of (by decide) (Nat.le_of_ble_eq_true rfl) ?_
  intro h hT hp p e s m args below meth c cx hnm
  have hE : Ev k (XD K) K h K h := Ev.rf
  have hB17 := hB
  replace hB : B < 2 ^ 20 := Nat.lt_trans hB (by decide)
  obtain ⟨ha, hlrq, hw, hQ⟩ := hp
  have hwt := hw.1
  refine g_aload_n cx 1 d_1_27_0 rfl rfl ?_
  obtain ⟨vw1, hsw1, hbw1, -⟩ := Tc.byt hT hw
  refine g_pcS cx (As := [.ref w]) (n := 1) (pc_isWordF (n := n) (cd := cd)) d_1_27_1 t_665 t_666 t_1 t_667 ⟨by decide, by decide, by decide +kernel⟩ rfl ⟨_, hsw1, hbw1⟩ ⟨Nat.le_of_ble_eq_true rfl, Nat.le_of_ble_eq_true rfl⟩ (Nat.le_of_ble_eq_true rfl) (fun v1 r1 => ?_)
  obtain ⟨x1, rfl, xb1⟩ := r1
  refine g_if_eq cx d_1_27_4 rfl (fun c4 => ?_) (fun c4 => ?_)
  · skip
    have hnw : ¬ WordOk n cd := by
      rcases xb1 with z | z
      · exact absurd c4 (by rw [z.1]; decide)
      · exact z.2
    have hng : ¬ (WordOk n cd ∧ RNo S n cd) := by
      first
        | exact fun q => hnw q.1
        | exact fun q => q.2 j9 hyes9.1 hyes9.2.1
    exact t_iae cx htr d_1_27_15 d_1_27_18 d_1_27_19 d_1_27_22  ⟨Nat.le_of_ble_eq_true rfl, Nat.le_of_ble_eq_true rfl⟩ (Nat.le_of_ble_eq_true rfl) ⟨Nat.le_of_ble_eq_true rfl, Nat.le_of_ble_eq_true rfl⟩ (fun x hx hz => thrA (-1) (Or.inl ⟨rfl, rfl⟩) hT hE hx hz (Or.inl ⟨rfl, rfl, hng⟩) hQ)
  · skip
    have hok : WordOk n cd := by
      rcases xb1 with z | z
      · exact z.2
      · exact absurd z.1 c4
    refine g_aload_n cx 0 d_1_27_7 rfl rfl ?_
    refine g_aload_n cx 1 d_1_27_8 rfl rfl ?_
    obtain ⟨la9, lr9, tr9, tn9, he9, hla9, hlr9, htr9, htn9, hlq9, hlaq9⟩ := TP.o (κ := 1) hT ha
    have hl9 : lr9 = lr := Eq.trans hlq9 hlrq
    have hla99 : (K lr).2.1 = la9 := by rw [← hl9]; exact hlaq9.symm
    refine g_callV cx (As := [.ref w]) (n := 1) (pt_realmWithF (K := K) (B := B) (T := T) (n := n) (cd := cd) (lr := lr) (S := S) (rz := rz) (az := az) (nt := nt) hB) d_1_27_9 t_487 t_489 ts_3 t_1 t_490 ⟨by decide, by decide, by decide +kernel⟩ rfl (ci := 0) rfl ha.1 he9 ⟨rfl, hT, ha, hlrq, hw, hQ⟩ ⟨Nat.le_of_ble_eq_true rfl, Nat.le_of_ble_eq_true rfl⟩ (Nat.le_of_ble_eq_true rfl) ⟨Nat.zero_le _, Nat.zero_le _⟩ (fun v9 h r9 => ?_) (fun x9 h r9 => by obtain ⟨-, v9, e9, -⟩ := r9; cases e9)
    obtain ⟨rfl, wo9, e9, r9⟩ := r9
    cases e9
    rcases r9 with ⟨rfl, hnoR⟩ | ⟨y9, j9, rfl, hyq9, hyes9⟩
    · skip
      refine g_ifnullN cx d_1_27_12 rfl ?_
      refine g_aload_n cx 0 d_1_27_23 rfl rfl ?_
      refine g_getf cx (k := 2) d_1_27_24 in0 rfl (by decide) t_98 (Or.inl rfl) ha.1 he9 rfl ?_
      obtain ⟨⟨ea27, mo27, hm27, hl27⟩, hb27⟩ := TP.n26 hT hlr9
      refine g_pcV cx (As := []) (n := 0) (pj_size (n := (K lr9).2.2)) d_1_27_27 t_235 t_236 t_237 t_8 t_238 ⟨by decide, by decide, by decide +kernel⟩ rfl (ci := 2) rfl hm27 hl27 ⟨ea27, mo27, hm27, hl27⟩ ⟨Nat.le_of_ble_eq_true rfl, Nat.le_of_ble_eq_true rfl⟩ (Nat.le_of_ble_eq_true rfl) (fun v27 r27 => ?_)
      subst r27
      refine g_bipush cx (v := 8) d_1_27_30 (by decide) ?_
      refine g_icmp_lt cx d_1_27_32 rfl (fun c32 => ?_) (fun c32 => ?_)
      · skip
        have hr8 : S 0 0 < 8 := by
          have h9 : (K lr9).2.2 = S 0 0 := by rw [hl9]; exact hQ.1.1.2.1
          rw [← h9]
          exact (nI_ltI (b := 8) (by omega) (by decide)).mp c32
        refine g_aload_n cx 0 d_1_27_43 rfl rfl ?_
        refine g_getf cx (k := 2) d_1_27_44 in0 rfl (by decide) t_98 (Or.inl rfl) ha.1 he9 rfl ?_
        have hnc : (K lr9).2.2 = S 0 0 := by rw [hl9]; exact hQ.1.1.2.1
        refine g_new cx (ci := 6) (fs := [.int 0, .null, .null, .null, .null, .null, .int 0, .int 0, .int 0]) d_1_27_47 in6 ty6_ok t_251 t_721 t_25 rfl (by decide) ⟨Nat.le_of_ble_eq_true rfl, Nat.le_of_ble_eq_true rfl⟩ (fun q47 hq47 hz47 => ?_)
        have hN47 := Ev.nin hE hq47
        have ne_47_lr9 : ¬ lr9 = q47 := fun z => hq47 (z ▸ hlr9.1)
        refine t_raw hT hq47 hz47 (fun K h hT ev hr47 hm47 he47 hol47 => ?_)
        have hfr : ∀ j, j < S 0 0 → rz j ≠ q47 := fun j hj z => hq47 (z ▸ (hQ.1.2.1 j hj).1.1)
        replace hQ := hQ.ev ev (fun _ _ => id)
        replace hnc := (congrArg (fun z => z.2.2) ((ev.1 lr9 hlr9.1).2.2 id).1).trans hnc
        have ha := Ev.ty ev ha
        have hwt := Ev.tx ev hwt
        have hw := Ev.tc ev hw
        have hlr9 := Ev.ty ev hlr9
        replace hE := hE.tr ev
        refine g_dup cx d_1_27_50 rfl ?_
        refine g_aload_n cx 0 d_1_27_51 rfl rfl ?_
        obtain ⟨la52, lr52, tr52, tn52, he52, hla52, hlr52, htr52, htn52, hlq52, hlaq52⟩ := TP.o (κ := 1) hT ha
        refine g_getf cx (k := 2) d_1_27_52 in0 rfl (by decide) t_98 (Or.inl rfl) ha.1 he52 rfl ?_
        obtain ⟨⟨ea55, mo55, hm55, hl55⟩, hb55⟩ := TP.n26 hT hlr52
        refine g_pcV cx (As := []) (n := 0) (pj_size (n := (K lr52).2.2)) d_1_27_55 t_235 t_236 t_237 t_8 t_238 ⟨by decide, by decide, by decide +kernel⟩ rfl (ci := 2) rfl hm55 hl55 ⟨ea55, mo55, hm55, hl55⟩ ⟨Nat.le_of_ble_eq_true rfl, Nat.le_of_ble_eq_true rfl⟩ (Nat.le_of_ble_eq_true rfl) (fun v55 r55 => ?_)
        subst r55
        refine g_aload_n cx 1 d_1_27_58 rfl rfl ?_
        refine g_callI cx (ret' := none) (As := [.int (nI (K lr52).2.2), .ref w]) (n := 2) (tc_realm (n := n)) d_1_27_59 t_722 t_723 t_25 t_724 rfl ⟨by decide, by decide, by decide +kernel⟩ rfl ⟨rfl, hT, ⟨⟨hr47, hm47, he47⟩, hwt⟩⟩ ⟨Nat.le_of_ble_eq_true rfl, Nat.le_of_ble_eq_true rfl⟩ (Nat.le_of_ble_eq_true rfl) ⟨Nat.le_of_ble_eq_true rfl, Nat.le_of_ble_eq_true rfl⟩ (fun v59 h r59 => ?_) (fun x59 h r59 => by obtain ⟨K9, -, -, e9⟩ := r59; cases e9.1)
        obtain ⟨K, hT, ev, rel59⟩ := r59
        obtain ⟨e59, hn59, hnw59, hnz59⟩ := rel59
        cases e59
        replace hQ := hQ.ev ev (x0Q hr47)
        replace hnc := (congrArg (fun z => z.2.2) ((ev.1 lr9 hlr9.1).2.2 ne_47_lr9).1).trans hnc
        have ha := Ev.ty ev ha
        have hwt := Ev.tx ev hwt
        have hw := Ev.tc ev hw
        have hlr9 := Ev.ty ev hlr9
        replace hE := hE.trN hN47 ev
        obtain ⟨⟨ea62, mo62, hm62, hl62⟩, hb62⟩ := TP.n26 hT hlr9
        have hQ9 : CQ D k K h lr9 S rz az nt := by rw [hl9]; exact hQ
        obtain ⟨im9, lo9, zz1, zz2, zz3, zz4, zz5, zz6⟩ := hnz59
        refine g_callV cx (As := [.ref q47]) (n := 1) (tj_addF (B := B) (n := S 0 0) (ce := 6) (g := 24) (es := rz) (by decide) (by rw [show bd (6 + 20) B = 8 from rfl]; omega) (by omega) (by rw [show bd (6 + 20) B = 8 from rfl]; omega)) d_1_27_62 t_571 t_572 t_573 t_8 t_574 ⟨by decide, by decide, by decide +kernel⟩ rfl (ci := 2) rfl hm62 hl62 ⟨rfl, hT, hlr9, hn59, hnc, hQ9.1.1.ls⟩ ⟨Nat.le_of_ble_eq_true rfl, Nat.le_of_ble_eq_true rfl⟩ (Nat.le_of_ble_eq_true rfl) ⟨Nat.le_of_ble_eq_true rfl, Nat.le_of_ble_eq_true rfl⟩ (fun v62 h r62 => ?_) (fun x62 h r62 => by obtain ⟨K9, -, -, e9, -⟩ := r62; cases e9)
        obtain ⟨K, hT, ev, e62, hnew, hls⟩ := r62
        cases e62
        have hQ2 := hQ9.addR hT ev hn59 hnw59 zz1 zz2 zz3 zz4 zz5 zz6 hw hok hfr hnew hls
        rw [hl9] at hQ2
        replace ev := xd_add (e := X0) (ce := 6) (by decide) hlr9 ev
        have ha := Ev.ty ev ha
        have hwt := Ev.tx ev hwt
        have hw := Ev.tc ev hw
        replace hE := Ev.trP hE ev
        refine g_pop cx d_1_27_65 rfl ?_
        refine g_iconst cx (v := 3) d_1_27_66 (by decide) ?_
        exact g_iret cx d_1_27_67 rfl rfl ⟨K, hT, hE, 3, _, _, _, _, Or.inl ⟨by decide, rfl⟩, Or.inr (Or.inr ⟨rfl, rfl, ⟨hok, hnoR⟩, hr8⟩), hQ2⟩
      · skip
        have hn8 : ¬ S 0 0 < 8 := fun q => c32 (by
          have h9 : (K lr9).2.2 = S 0 0 := by rw [hl9]; exact hQ.1.1.2.1
          rw [h9]
          exact (nI_ltI (b := 8) (by omega) (by decide)).mpr q)
        exact t_ise cx htr d_1_27_35 d_1_27_38 d_1_27_39 d_1_27_42  ⟨Nat.le_of_ble_eq_true rfl, Nat.le_of_ble_eq_true rfl⟩ (Nat.le_of_ble_eq_true rfl) ⟨Nat.le_of_ble_eq_true rfl, Nat.le_of_ble_eq_true rfl⟩ (fun x hx hz => thrA (-2) (Or.inr ⟨rfl, rfl⟩) hT hE hx hz (Or.inr (Or.inl ⟨rfl, rfl, ⟨hok, hnoR⟩, hn8⟩)) hQ)
    · skip
      have hy9 : Ty K h 6 y9 := by rw [hyq9]; exact (hQ.1.2.1 j9 hyes9.1).1
      refine g_ifnull cx d_1_27_12 ?_
      have hng : ¬ (WordOk n cd ∧ RNo S n cd) := by
        first
          | exact fun q => hnw q.1
          | exact fun q => q.2 j9 hyes9.1 hyes9.2.1
      exact t_iae cx htr d_1_27_15 d_1_27_18 d_1_27_19 d_1_27_22  ⟨Nat.le_of_ble_eq_true rfl, Nat.le_of_ble_eq_true rfl⟩ (Nat.le_of_ble_eq_true rfl) ⟨Nat.le_of_ble_eq_true rfl, Nat.le_of_ble_eq_true rfl⟩ (fun x hx hz => thrA (-1) (Or.inl ⟨rfl, rfl⟩) hT hE hx hz (Or.inl ⟨rfl, rfl, hng⟩) hQ)
set_option maxHeartbeats 8000000 in
theorem tc_addArchiveF {a w n cd lr : Nat} {S : SL} {rz az nt : Nat → Nat} (hB : B < 2 ^ 17) (htr : l.stackTraces = false) : TC l y_124 prog_1_method_25_code 2 (Option.some Jvm.ClassFile.FieldType.int) (rmT 10 3 31) D z0 k [.ref a, .ref w] K (B) (T) (fun h => Ty K h 1 a ∧ (K a).2.2 = lr ∧ Tc k K h w n cd ∧ CQ D k K h lr S rz az nt) (B) (T) (XD K) (AX D k lr (DoA S n cd)) := by
  refine tc_of (by decide) (Nat.le_of_ble_eq_true rfl) ?_
  intro h hT hp p e s m args below meth c cx hnm
  have hE : Ev k (XD K) K h K h := Ev.rf
  have hB17 := hB
  replace hB : B < 2 ^ 20 := Nat.lt_trans hB (by decide)
  obtain ⟨ha, hlrq, hw, hQ⟩ := hp
  have hwt := hw.1
  refine g_aload_n cx 1 d_1_25_0 rfl rfl ?_
  obtain ⟨vw1, hsw1, hbw1, -⟩ := Tc.byt hT hw
  refine g_pcS cx (As := [.ref w]) (n := 1) (pc_isWordF (n := n) (cd := cd)) d_1_25_1 t_665 t_666 t_1 t_667 ⟨by decide, by decide, by decide +kernel⟩ rfl ⟨_, hsw1, hbw1⟩ ⟨Nat.le_of_ble_eq_true rfl, Nat.le_of_ble_eq_true rfl⟩ (Nat.le_of_ble_eq_true rfl) (fun v1 r1 => ?_)
  obtain ⟨x1, rfl, xb1⟩ := r1
  refine g_if_eq cx d_1_25_4 rfl (fun c4 => ?_) (fun c4 => ?_)
  · skip
    have hnw : ¬ WordOk n cd := by
      rcases xb1 with z | z
      · exact absurd c4 (by rw [z.1]; decide)
      · exact z.2
    have hng : ¬ (WordOk n cd ∧ ANo S n cd) := by
      first
        | exact fun q => hnw q.1
        | exact fun q => q.2 j9 hyes9.1 hyes9.2.1
    exact t_iae cx htr d_1_25_15 d_1_25_18 d_1_25_19 d_1_25_22  ⟨Nat.le_of_ble_eq_true rfl, Nat.le_of_ble_eq_true rfl⟩ (Nat.le_of_ble_eq_true rfl) ⟨Nat.le_of_ble_eq_true rfl, Nat.le_of_ble_eq_true rfl⟩ (fun x hx hz => thrA (-1) (Or.inl ⟨rfl, rfl⟩) hT hE hx hz (Or.inl ⟨rfl, rfl, hng⟩) hQ)
  · skip
    have hok : WordOk n cd := by
      rcases xb1 with z | z
      · exact z.2
      · exact absurd z.1 c4
    refine g_aload_n cx 0 d_1_25_7 rfl rfl ?_
    refine g_aload_n cx 1 d_1_25_8 rfl rfl ?_
    obtain ⟨la9, lr9, tr9, tn9, he9, hla9, hlr9, htr9, htn9, hlq9, hlaq9⟩ := TP.o (κ := 1) hT ha
    have hl9 : lr9 = lr := Eq.trans hlq9 hlrq
    have hla99 : (K lr).2.1 = la9 := by rw [← hl9]; exact hlaq9.symm
    refine g_callV cx (As := [.ref w]) (n := 1) (pt_archiveWithF (K := K) (B := B) (T := T) (n := n) (cd := cd) (lr := lr) (S := S) (rz := rz) (az := az) (nt := nt) hB) d_1_25_9 t_668 t_670 ts_12 t_1 t_671 ⟨by decide, by decide, by decide +kernel⟩ rfl (ci := 0) rfl ha.1 he9 ⟨rfl, hT, ha, hlrq, hw, hQ⟩ ⟨Nat.le_of_ble_eq_true rfl, Nat.le_of_ble_eq_true rfl⟩ (Nat.le_of_ble_eq_true rfl) ⟨Nat.zero_le _, Nat.zero_le _⟩ (fun v9 h r9 => ?_) (fun x9 h r9 => by obtain ⟨-, v9, e9, -⟩ := r9; cases e9)
    obtain ⟨rfl, wo9, e9, r9⟩ := r9
    cases e9
    rcases r9 with ⟨rfl, hnoA⟩ | ⟨y9, j9, rfl, hyq9, hyes9⟩
    · skip
      refine g_ifnullN cx d_1_25_12 rfl ?_
      refine g_aload_n cx 0 d_1_25_23 rfl rfl ?_
      refine g_getf cx (k := 1) d_1_25_24 in0 rfl (by decide) t_97 (Or.inl rfl) ha.1 he9 rfl ?_
      obtain ⟨⟨ea27, mo27, hm27, hl27⟩, hb27⟩ := TP.n25 hT hla9
      refine g_pcV cx (As := []) (n := 0) (pj_size (n := (K la9).2.2)) d_1_25_27 t_235 t_236 t_237 t_8 t_238 ⟨by decide, by decide, by decide +kernel⟩ rfl (ci := 2) rfl hm27 hl27 ⟨ea27, mo27, hm27, hl27⟩ ⟨Nat.le_of_ble_eq_true rfl, Nat.le_of_ble_eq_true rfl⟩ (Nat.le_of_ble_eq_true rfl) (fun v27 r27 => ?_)
      subst r27
      refine g_bipush cx (v := 6) d_1_25_30 (by decide) ?_
      refine g_icmp_lt cx d_1_25_32 rfl (fun c32 => ?_) (fun c32 => ?_)
      · skip
        have hr8 : S 4 0 < 6 := by
          have h9 : (K la9).2.2 = S 4 0 := by rw [← hla99]; exact hQ.2.1.1.2.1
          rw [← h9]
          exact (nI_ltI (b := 6) (by omega) (by decide)).mp c32
        refine g_aload_n cx 0 d_1_25_43 rfl rfl ?_
        refine g_getf cx (k := 1) d_1_25_44 in0 rfl (by decide) t_97 (Or.inl rfl) ha.1 he9 rfl ?_
        have hnc : (K la9).2.2 = S 4 0 := by rw [← hla99]; exact hQ.2.1.1.2.1
        refine g_new cx (ci := 5) (fs := [.int 0, .null, .null, .int 0]) d_1_25_47 in5 ty5_ok t_256 t_672 t_24 rfl (by decide) ⟨Nat.le_of_ble_eq_true rfl, Nat.le_of_ble_eq_true rfl⟩ (fun q47 hq47 hz47 => ?_)
        have hN47 := Ev.nin hE hq47
        have ne_47_la9 : ¬ la9 = q47 := fun z => hq47 (z ▸ hla9.1)
        refine t_raw hT hq47 hz47 (fun K h hT ev hr47 hm47 he47 hol47 => ?_)
        have hfr : ∀ j, j < S 4 0 → az j ≠ q47 := fun j hj z => hq47 (z ▸ (hQ.2.1.2.1 j hj).1.1)
        replace hla99 := Ev.ab (κ := 25) ev hQ.1.1.1 hla99
        replace hQ := hQ.ev ev (fun _ _ => id)
        replace hnc := (congrArg (fun z => z.2.2) ((ev.1 la9 hla9.1).2.2 id).1).trans hnc
        have ha := Ev.ty ev ha
        have hwt := Ev.tx ev hwt
        have hw := Ev.tc ev hw
        have hla9 := Ev.ty ev hla9
        replace hE := hE.tr ev
        refine g_dup cx d_1_25_50 rfl ?_
        refine g_aload_n cx 0 d_1_25_51 rfl rfl ?_
        obtain ⟨la52, lr52, tr52, tn52, he52, hla52, hlr52, htr52, htn52, hlq52, hlaq52⟩ := TP.o (κ := 1) hT ha
        refine g_getf cx (k := 1) d_1_25_52 in0 rfl (by decide) t_97 (Or.inl rfl) ha.1 he52 rfl ?_
        obtain ⟨⟨ea55, mo55, hm55, hl55⟩, hb55⟩ := TP.n25 hT hla52
        refine g_pcV cx (As := []) (n := 0) (pj_size (n := (K la52).2.2)) d_1_25_55 t_235 t_236 t_237 t_8 t_238 ⟨by decide, by decide, by decide +kernel⟩ rfl (ci := 2) rfl hm55 hl55 ⟨ea55, mo55, hm55, hl55⟩ ⟨Nat.le_of_ble_eq_true rfl, Nat.le_of_ble_eq_true rfl⟩ (Nat.le_of_ble_eq_true rfl) (fun v55 r55 => ?_)
        subst r55
        refine g_aload_n cx 1 d_1_25_58 rfl rfl ?_
        refine g_callI cx (ret' := none) (As := [.int (nI (K la52).2.2), .ref w]) (n := 2) (tc_archive (n := n)) d_1_25_59 t_673 t_674 t_24 t_675 rfl ⟨by decide, by decide, by decide +kernel⟩ rfl ⟨rfl, hT, ⟨⟨hr47, hm47, he47⟩, hwt⟩⟩ ⟨Nat.le_of_ble_eq_true rfl, Nat.le_of_ble_eq_true rfl⟩ (Nat.le_of_ble_eq_true rfl) ⟨Nat.le_of_ble_eq_true rfl, Nat.le_of_ble_eq_true rfl⟩ (fun v59 h r59 => ?_) (fun x59 h r59 => by obtain ⟨K9, -, -, e9⟩ := r59; cases e9.1)
        obtain ⟨K, hT, ev, rel59⟩ := r59
        obtain ⟨e59, hn59, hnw59, hnz59⟩ := rel59
        cases e59
        replace hla99 := Ev.ab (κ := 25) ev hQ.1.1.1 hla99
        replace hQ := hQ.ev ev (x0Q hr47)
        replace hnc := (congrArg (fun z => z.2.2) ((ev.1 la9 hla9.1).2.2 ne_47_la9).1).trans hnc
        have ha := Ev.ty ev ha
        have hwt := Ev.tx ev hwt
        have hw := Ev.tc ev hw
        have hla9 := Ev.ty ev hla9
        replace hE := hE.trN hN47 ev
        obtain ⟨⟨ea62, mo62, hm62, hl62⟩, hb62⟩ := TP.n25 hT hla9
        have hA9 : AQz D k K h la9 (S 4 0) az (S 5) (S 6) := by rw [← hla99]; exact hQ.2.1
        refine g_callV cx (As := [.ref q47]) (n := 1) (tj_addF (B := B) (n := S 4 0) (ce := 5) (g := 24) (es := az) (by decide) (by rw [show bd (5 + 20) B = 6 from rfl]; omega) (by omega) (by rw [show bd (5 + 20) B = 6 from rfl]; omega)) d_1_25_62 t_571 t_572 t_573 t_8 t_574 ⟨by decide, by decide, by decide +kernel⟩ rfl (ci := 2) rfl hm62 hl62 ⟨rfl, hT, hla9, hn59, hnc, hA9.1.ls⟩ ⟨Nat.le_of_ble_eq_true rfl, Nat.le_of_ble_eq_true rfl⟩ (Nat.le_of_ble_eq_true rfl) ⟨Nat.le_of_ble_eq_true rfl, Nat.le_of_ble_eq_true rfl⟩ (fun v62 h r62 => ?_) (fun x62 h r62 => by obtain ⟨K9, -, -, e9, -⟩ := r62; cases e9)
        obtain ⟨K, hT, ev, e62, hnew, hls⟩ := r62
        cases e62
        have hQ2 := hQ.addA hla99 hT ev hn59 hnw59 rfl hnz59.1 hnz59.2 hw hok hfr hnew hls
        replace ev := xd_add (e := X0) (ce := 5) (by decide) hla9 ev
        have ha := Ev.ty ev ha
        have hwt := Ev.tx ev hwt
        have hw := Ev.tc ev hw
        replace hE := Ev.trP hE ev
        refine g_pop cx d_1_25_65 rfl ?_
        refine g_iconst cx (v := 1) d_1_25_66 (by decide) ?_
        exact g_iret cx d_1_25_67 rfl rfl ⟨K, hT, hE, 1, _, _, _, _, Or.inl ⟨by decide, rfl⟩, Or.inr (Or.inr ⟨rfl, rfl, ⟨hok, hnoA⟩, hr8⟩), hQ2⟩
      · skip
        have hn8 : ¬ S 4 0 < 6 := fun q => c32 (by
          have h9 : (K la9).2.2 = S 4 0 := by rw [← hla99]; exact hQ.2.1.1.2.1
          rw [h9]
          exact (nI_ltI (b := 6) (by omega) (by decide)).mpr q)
        exact t_ise cx htr d_1_25_35 d_1_25_38 d_1_25_39 d_1_25_42  ⟨Nat.le_of_ble_eq_true rfl, Nat.le_of_ble_eq_true rfl⟩ (Nat.le_of_ble_eq_true rfl) ⟨Nat.le_of_ble_eq_true rfl, Nat.le_of_ble_eq_true rfl⟩ (fun x hx hz => thrA (-2) (Or.inr ⟨rfl, rfl⟩) hT hE hx hz (Or.inr (Or.inl ⟨rfl, rfl, ⟨hok, hnoA⟩, hn8⟩)) hQ)
    · skip
      have hy9 : Ty K h 5 y9 := by rw [hyq9]; exact (hQ.2.1.2.1 j9 hyes9.1).1
      refine g_ifnull cx d_1_25_12 ?_
      have hng : ¬ (WordOk n cd ∧ ANo S n cd) := by
        first
          | exact fun q => hnw q.1
          | exact fun q => q.2 j9 hyes9.1 hyes9.2.1
      exact t_iae cx htr d_1_25_15 d_1_25_18 d_1_25_19 d_1_25_22  ⟨Nat.le_of_ble_eq_true rfl, Nat.le_of_ble_eq_true rfl⟩ (Nat.le_of_ble_eq_true rfl) ⟨Nat.le_of_ble_eq_true rfl, Nat.le_of_ble_eq_true rfl⟩ (fun x hx hz => thrA (-1) (Or.inl ⟨rfl, rfl⟩) hT hE hx hz (Or.inl ⟨rfl, rfl, hng⟩) hQ)
set_option maxHeartbeats 8000000 in
theorem tc_addNameF {a w n cd lr : Nat} {S : SL} {rz az nt : Nat → Nat} (hB : B < 2 ^ 17) (htr : l.stackTraces = false) : TC l y_128 prog_1_method_26_code 3 (Option.some Jvm.ClassFile.FieldType.int) (rmT 10 64 1270) D z0 k [.ref a, .ref w] K (B) (T) (fun h => Ty K h 1 a ∧ (K a).2.2 = lr ∧ Tc k K h w n cd ∧ CQ D k K h lr S rz az nt) (B) (T) (XD K) (AX D k lr (DoN S n cd)) := by
  refine tc_of (by decide) (Nat.le_of_ble_eq_true rfl) ?_
  intro h hT hp p e s m args below meth c cx hnm
  have hE : Ev k (XD K) K h K h := Ev.rf
  have hB17 := hB
  replace hB : B < 2 ^ 20 := Nat.lt_trans hB (by decide)
  obtain ⟨ha, hlrq, hw, hQ⟩ := hp
  have hwt := hw.1
  refine g_aload_n cx 0 d_1_26_0 rfl rfl ?_
  obtain ⟨la1, lr1, tr1, tn1, he1, hla1, hlr1, htr1, htn1, hlq1, hlaq1⟩ := TP.o (κ := 1) hT ha
  refine g_callV cx (As := []) (n := 0) (pt_latestArchiveF (K := K) (B := B) (T := T) (lr := lr) (S := S) (rz := rz) (az := az) (nt := nt) hB) d_1_26_1 t_701 t_703 ts_14 t_1 t_704 ⟨by decide, by decide, by decide +kernel⟩ rfl (ci := 0) rfl ha.1 he1 ⟨rfl, hT, ha, hlrq, hQ⟩ ⟨Nat.le_of_ble_eq_true rfl, Nat.le_of_ble_eq_true rfl⟩ (Nat.le_of_ble_eq_true rfl) ⟨Nat.zero_le _, Nat.zero_le _⟩ (fun v1 h r1 => ?_) (fun x1 h r1 => by obtain ⟨-, v9, e9, -⟩ := r1; cases e9)
  obtain ⟨rfl, wo1, e1, r1⟩ := r1
  cases e1
  rcases r1 with ⟨rfl, hzA⟩ | ⟨y1, rfl, hyq1, hpos1⟩
  · skip
    refine g_astore_nN cx (lv' := [(2, .null), (0, .ref a), (1, .ref w)]) d_1_26_4 rfl (by decide) rfl ?_
    refine g_aload_n cx 2 d_1_26_5 rfl rfl ?_
    refine g_callS cx (As := [.ref w]) (n := 1) (tc_isNameF (n := n) (cd := cd)) d_1_26_6 t_705 t_706 t_1 t_707 ⟨by decide, by decide, by decide +kernel⟩ rfl ⟨rfl, hT, hw⟩ ⟨Nat.le_of_ble_eq_true rfl, Nat.le_of_ble_eq_true rfl⟩ (Nat.le_of_ble_eq_true rfl) ⟨Nat.le_of_ble_eq_true rfl, Nat.le_of_ble_eq_true rfl⟩ (fun v6 h r6 => ?_) (fun x6 h r6 => by obtain ⟨K9, -, -, x9, e9, -⟩ := r6; cases e9)
    obtain ⟨K, hT, ev, rel6⟩ := r6
    obtain ⟨x6, e6, xb6⟩ := rel6
    cases e6
    replace hQ := hQ.ev ev (fun _ _ => id)
    have ha := Ev.ty ev ha
    have hwt := Ev.tx ev hwt
    have hw := Ev.tc ev hw
    replace hE := hE.tr ev
    refine g_if_eq cx d_1_26_9 rfl (fun c9 => ?_) (fun c9 => ?_)
    · skip
      have hnn : ¬ NmOk n cd := by
        rcases xb6 with z | z
        · exact absurd c9 (by rw [z.1]; decide)
        · exact z.2
      have hng : ¬ (NmOk n cd ∧ (0 < S 4 0 → NNo S n cd)) := by
        first
          | exact fun q => hnn q.1
          | exact fun q => hinN (q.2 hpos1)
      exact t_iae cx htr d_1_26_24 d_1_26_27 d_1_26_28 d_1_26_31  ⟨Nat.le_of_ble_eq_true rfl, Nat.le_of_ble_eq_true rfl⟩ (Nat.le_of_ble_eq_true rfl) ⟨Nat.le_of_ble_eq_true rfl, Nat.le_of_ble_eq_true rfl⟩ (fun x hx hz => thrA (-1) (Or.inl ⟨rfl, rfl⟩) hT hE hx hz (Or.inl ⟨rfl, rfl, hng⟩) hQ)
    · skip
      have hok : NmOk n cd := by
        rcases xb6 with z | z
        · exact z.2
        · exact absurd z.1 c9
      refine g_aload_nN cx 0 d_1_26_12 rfl rfl ?_
      refine g_ifnullN cx d_1_26_13 rfl ?_
      have hgd : NmOk n cd ∧ (0 < S 4 0 → NNo S n cd) := by
        first
          | exact ⟨hok, fun _ => hnoN⟩
          | exact ⟨hok, fun q => absurd q (by omega)⟩
      refine g_aload_nN cx 0 d_1_26_32 rfl rfl ?_
      refine g_ifnullN cx d_1_26_33 rfl ?_
      have hfull : ¬ (0 < S 4 0 ∧ S 7 0 < 6) := by
        first
          | exact fun q => hn6 q.2
          | exact fun q => absurd q.1 (by omega)
      exact t_ise cx htr d_1_26_48 d_1_26_51 d_1_26_52 d_1_26_55  ⟨Nat.le_of_ble_eq_true rfl, Nat.le_of_ble_eq_true rfl⟩ (Nat.le_of_ble_eq_true rfl) ⟨Nat.le_of_ble_eq_true rfl, Nat.le_of_ble_eq_true rfl⟩ (fun x hx hz => thrA (-2) (Or.inr ⟨rfl, rfl⟩) hT hE hx hz (Or.inr (Or.inl ⟨rfl, rfl, hgd, hfull⟩)) hQ)
  · skip
    have hy1 : Ty K h 5 y1 := by rw [hyq1]; exact (hQ.2.1.2.1 _ (Nat.sub_lt hpos1 Nat.one_pos)).1
    refine g_astore_n cx (lv' := [(2, .ref y1), (0, .ref a), (1, .ref w)]) d_1_26_4 rfl (by decide) rfl ?_
    refine g_aload_n cx 2 d_1_26_5 rfl rfl ?_
    refine g_callS cx (As := [.ref w]) (n := 1) (tc_isNameF (n := n) (cd := cd)) d_1_26_6 t_705 t_706 t_1 t_707 ⟨by decide, by decide, by decide +kernel⟩ rfl ⟨rfl, hT, hw⟩ ⟨Nat.le_of_ble_eq_true rfl, Nat.le_of_ble_eq_true rfl⟩ (Nat.le_of_ble_eq_true rfl) ⟨Nat.le_of_ble_eq_true rfl, Nat.le_of_ble_eq_true rfl⟩ (fun v6 h r6 => ?_) (fun x6 h r6 => by obtain ⟨K9, -, -, x9, e9, -⟩ := r6; cases e9)
    obtain ⟨K, hT, ev, rel6⟩ := r6
    obtain ⟨x6, e6, xb6⟩ := rel6
    cases e6
    replace hQ := hQ.ev ev (fun _ _ => id)
    have hy1 := Ev.ty ev hy1
    have ha := Ev.ty ev ha
    have hwt := Ev.tx ev hwt
    have hw := Ev.tc ev hw
    replace hE := hE.tr ev
    refine g_if_eq cx d_1_26_9 rfl (fun c9 => ?_) (fun c9 => ?_)
    · skip
      have hnn : ¬ NmOk n cd := by
        rcases xb6 with z | z
        · exact absurd c9 (by rw [z.1]; decide)
        · exact z.2
      have hng : ¬ (NmOk n cd ∧ (0 < S 4 0 → NNo S n cd)) := by
        first
          | exact fun q => hnn q.1
          | exact fun q => hinN (q.2 hpos1)
      exact t_iae cx htr d_1_26_24 d_1_26_27 d_1_26_28 d_1_26_31  ⟨Nat.le_of_ble_eq_true rfl, Nat.le_of_ble_eq_true rfl⟩ (Nat.le_of_ble_eq_true rfl) ⟨Nat.le_of_ble_eq_true rfl, Nat.le_of_ble_eq_true rfl⟩ (fun x hx hz => thrA (-1) (Or.inl ⟨rfl, rfl⟩) hT hE hx hz (Or.inl ⟨rfl, rfl, hng⟩) hQ)
    · skip
      have hok : NmOk n cd := by
        rcases xb6 with z | z
        · exact z.2
        · exact absurd z.1 c9
      refine g_aload_n cx 0 d_1_26_12 rfl rfl ?_
      refine g_ifnull cx d_1_26_13 ?_
      refine g_aload_n cx 0 d_1_26_16 rfl rfl ?_
      refine g_aload_n cx 2 d_1_26_17 rfl rfl ?_
      obtain ⟨n18, t18, w18, l18, he18, hw18, hl18, hwq18⟩ := TP.o (κ := 5) hT hy1
      obtain ⟨nw18, hw18⟩ : ∃ n, Tw k K h w18 n := ⟨_, Tx.tx hw18⟩
      refine g_callV cx (As := [.ref w]) (n := 1) (pt_hasF (K := K) (B := B) (T := T) (n := n) (cd := cd) (nn := S 7 0) (nt := nt) (nl := S 8) (nc := S 9) hB) d_1_26_18 t_708 t_709 t_710 t_24 t_711 ⟨by decide, by decide, by decide +kernel⟩ rfl (ci := 5) rfl hy1.1 he18 ⟨rfl, hT, hy1, hw, (by rw [hyq1]; exact hQ.2.2.1 hpos1)⟩ ⟨Nat.le_of_ble_eq_true rfl, Nat.le_of_ble_eq_true rfl⟩ (Nat.le_of_ble_eq_true rfl) ⟨Nat.zero_le _, Nat.zero_le _⟩ (fun v18 h r18 => ?_) (fun x18 h r18 => by obtain ⟨-, v9, e9, -⟩ := r18; cases e9)
      obtain ⟨rfl, wo18, e18, r18⟩ := r18
      cases e18
      obtain ⟨x18, rfl, xb18⟩ := r18
      refine g_if_eq cx d_1_26_21 rfl (fun c21 => ?_) (fun c21 => ?_)
      · skip
        have hnoN : NNo S n cd := by
          rcases xb18 with z | z
          · exact absurd c21 (by rw [z.1]; decide)
          · exact z.2
        have hgd : NmOk n cd ∧ (0 < S 4 0 → NNo S n cd) := by
          first
            | exact ⟨hok, fun _ => hnoN⟩
            | exact ⟨hok, fun q => absurd q (by omega)⟩
        refine g_aload_n cx 0 d_1_26_32 rfl rfl ?_
        refine g_ifnull cx d_1_26_33 ?_
        refine g_aload_n cx 0 d_1_26_36 rfl rfl ?_
        refine g_getf cx (k := 2) d_1_26_37 in5 rfl (by decide) t_684 (Or.inl rfl) hy1.1 he18 rfl ?_
        obtain ⟨⟨ea40, mo40, hm40, hl40⟩, hb40⟩ := TP.n23 hT hl18
        refine g_pcV cx (As := []) (n := 0) (pj_size (n := (K l18).2.2)) d_1_26_40 t_235 t_236 t_237 t_8 t_238 ⟨by decide, by decide, by decide +kernel⟩ rfl (ci := 2) rfl hm40 hl40 ⟨ea40, mo40, hm40, hl40⟩ ⟨Nat.le_of_ble_eq_true rfl, Nat.le_of_ble_eq_true rfl⟩ (Nat.le_of_ble_eq_true rfl) (fun v40 r40 => ?_)
        subst r40
        refine g_bipush cx (v := 6) d_1_26_43 (by decide) ?_
        refine g_icmp_lt cx d_1_26_45 rfl (fun c45 => ?_) (fun c45 => ?_)
        · skip
          have hct : (K l18).2.2 = S 7 0 := by rw [hwq18.2, hyq1]; exact (hQ.2.2.1 hpos1).1.2.1
          have h6 : S 7 0 < 6 := by
            rw [← hct]
            exact (nI_ltI (b := 6) (by omega) (by decide)).mp c45
          refine g_aload_n cx 0 d_1_26_56 rfl rfl ?_
          refine g_getf cx (k := 2) d_1_26_57 in5 rfl (by decide) t_684 (Or.inl rfl) hy1.1 he18 rfl ?_
          have hnc : (K l18).2.2 = S 7 0 := hct
          have hl9 : (K (az (S 4 0 - 1))).2.2 = l18 := by rw [← hyq1]; exact hwq18.2.symm
          refine g_new cx (ci := 4) (fs := [.null]) d_1_26_60 in4 ty4_ok t_535 t_536 t_21 rfl (by decide) ⟨Nat.le_of_ble_eq_true rfl, Nat.le_of_ble_eq_true rfl⟩ (fun q60 hq60 hz60 => ?_)
          have hN60 := Ev.nin hE hq60
          have ne_60_l18 : ¬ l18 = q60 := fun z => hq60 (z ▸ hl18.1)
          refine t_raw hT hq60 hz60 (fun K h hT ev hr60 hm60 he60 hol60 => ?_)
          replace hl9 := (Ev.fix (κ := 4) ev (hQ.2.1.2.1 _ (Nat.sub_lt hpos1 Nat.one_pos)).1 (by unfold Gk; omega)).trans hl9
          replace hQ := hQ.ev ev (fun _ _ => id)
          replace hnc := (congrArg (fun z => z.2.2) ((ev.1 l18 hl18.1).2.2 id).1).trans hnc
          have hy1 := Ev.ty ev hy1
          have ha := Ev.ty ev ha
          have hwt := Ev.tx ev hwt
          have hw := Ev.tc ev hw
          have hl18 := Ev.ty ev hl18
          replace hE := hE.tr ev
          refine g_dup cx d_1_26_63 rfl ?_
          refine g_aload_n cx 2 d_1_26_64 rfl rfl ?_
          refine g_callI cx (ret' := none) (As := [.ref w]) (n := 1) (tc_text (n := n)) d_1_26_65 t_561 t_562 t_21 t_563 rfl ⟨by decide, by decide, by decide +kernel⟩ rfl ⟨rfl, hT, ⟨⟨hr60, hm60, he60⟩, hwt⟩⟩ ⟨Nat.le_of_ble_eq_true rfl, Nat.le_of_ble_eq_true rfl⟩ (Nat.le_of_ble_eq_true rfl) ⟨Nat.zero_le _, Nat.zero_le _⟩ (fun v65 h r65 => ?_) (fun x65 h r65 => by obtain ⟨K9, -, -, e9⟩ := r65; cases e9.1)
          obtain ⟨K, hT, ev, rel65⟩ := r65
          obtain ⟨e65, hn65, hnw65, hnz65⟩ := rel65
          cases e65
          replace hl9 := (Ev.fix (κ := 4) ev (hQ.2.1.2.1 _ (Nat.sub_lt hpos1 Nat.one_pos)).1 (by unfold Gk; omega)).trans hl9
          replace hQ := hQ.ev ev (x0Q hr60)
          replace hnc := (congrArg (fun z => z.2.2) ((ev.1 l18 hl18.1).2.2 ne_60_l18).1).trans hnc
          have hy1 := Ev.ty ev hy1
          have ha := Ev.ty ev ha
          have hwt := Ev.tx ev hwt
          have hw := Ev.tc ev hw
          have hl18 := Ev.ty ev hl18
          replace hE := hE.trN hN60 ev
          obtain ⟨⟨ea68, mo68, hm68, hl68⟩, hb68⟩ := TP.n23 hT hl18
          have hL9 : LsK D K h l18 23 (S 7 0) nt := by rw [← hl9]; exact (hQ.2.2.1 hpos1).1
          refine g_callV cx (As := [.ref q60]) (n := 1) (tj_addF (B := B) (n := S 7 0) (ce := 3) (g := 24) (es := nt) (by decide) (by rw [show bd (3 + 20) B = 6 from rfl]; omega) (by omega) (by rw [show bd (3 + 20) B = 6 from rfl]; omega)) d_1_26_68 t_571 t_572 t_573 t_8 t_574 ⟨by decide, by decide, by decide +kernel⟩ rfl (ci := 2) rfl hm68 hl68 ⟨rfl, hT, hl18, hn65, hnc, hL9.ls⟩ ⟨Nat.le_of_ble_eq_true rfl, Nat.le_of_ble_eq_true rfl⟩ (Nat.le_of_ble_eq_true rfl) ⟨Nat.le_of_ble_eq_true rfl, Nat.le_of_ble_eq_true rfl⟩ (fun v68 h r68 => ?_) (fun x68 h r68 => by obtain ⟨K9, -, -, e9, -⟩ := r68; cases e9)
          obtain ⟨K, hT, ev, e68, hnew, hls⟩ := r68
          cases e68
          have hQ2 := hQ.addN hpos1 hl9 hT ev hn65 hnw65 hw hok.pos hnew hls
          replace ev := xd_add (e := X0) (ce := 3) (by decide) hl18 ev
          have hy1 := Ev.ty ev hy1
          have ha := Ev.ty ev ha
          have hwt := Ev.tx ev hwt
          have hw := Ev.tc ev hw
          replace hE := Ev.trP hE ev
          refine g_pop cx d_1_26_71 rfl ?_
          refine g_iconst cx (v := 2) d_1_26_72 (by decide) ?_
          exact g_iret cx d_1_26_73 rfl rfl ⟨K, hT, hE, 2, _, _, _, _, Or.inl ⟨by decide, rfl⟩, Or.inr (Or.inr ⟨rfl, rfl, hgd, hpos1, h6⟩), hQ2⟩
        · skip
          have hct : (K l18).2.2 = S 7 0 := by rw [hwq18.2, hyq1]; exact (hQ.2.2.1 hpos1).1.2.1
          have hn6 : ¬ S 7 0 < 6 := fun q => c45 (by
            rw [hct]
            exact (nI_ltI (b := 6) (by omega) (by decide)).mpr q)
          have hfull : ¬ (0 < S 4 0 ∧ S 7 0 < 6) := by
            first
              | exact fun q => hn6 q.2
              | exact fun q => absurd q.1 (by omega)
          exact t_ise cx htr d_1_26_48 d_1_26_51 d_1_26_52 d_1_26_55  ⟨Nat.le_of_ble_eq_true rfl, Nat.le_of_ble_eq_true rfl⟩ (Nat.le_of_ble_eq_true rfl) ⟨Nat.le_of_ble_eq_true rfl, Nat.le_of_ble_eq_true rfl⟩ (fun x hx hz => thrA (-2) (Or.inr ⟨rfl, rfl⟩) hT hE hx hz (Or.inr (Or.inl ⟨rfl, rfl, hgd, hfull⟩)) hQ)
      · skip
        have hinN : ¬ NNo S n cd := by
          rcases xb18 with z | z
          · exact z.2
          · exact absurd z.1 c21
        have hng : ¬ (NmOk n cd ∧ (0 < S 4 0 → NNo S n cd)) := by
          first
            | exact fun q => hnn q.1
            | exact fun q => hinN (q.2 hpos1)
        exact t_iae cx htr d_1_26_24 d_1_26_27 d_1_26_28 d_1_26_31  ⟨Nat.le_of_ble_eq_true rfl, Nat.le_of_ble_eq_true rfl⟩ (Nat.le_of_ble_eq_true rfl) ⟨Nat.le_of_ble_eq_true rfl, Nat.le_of_ble_eq_true rfl⟩ (fun x hx hz => thrA (-1) (Or.inl ⟨rfl, rfl⟩) hT hE hx hz (Or.inl ⟨rfl, rfl, hng⟩) hQ)
set_option maxHeartbeats 8000000 in
theorem tc_addLoadedF {a w n cd lr : Nat} {S : SL} {rz az nt : Nat → Nat} (hB : B < 2 ^ 17) (htr : l.stackTraces = false) : TC l y_134 prog_1_method_28_code 4 (Option.some Jvm.ClassFile.FieldType.int) (rmT 10 1 24) D z0 k [.ref a, .ref w] K (B) (T) (fun h => Ty K h 1 a ∧ (K a).2.2 = lr ∧ Tc k K h w n cd ∧ CQ D k K h lr S rz az nt) (B) (T) (XD K) (AX D k lr (DoL S n cd)) := by
  refine tc_of (by decide) (Nat.le_of_ble_eq_true rfl) ?_
  intro h hT hp p e s m args below meth c cx hnm
  have hE : Ev k (XD K) K h K h := Ev.rf
  have hB17 := hB
  replace hB : B < 2 ^ 20 := Nat.lt_trans hB (by decide)
  obtain ⟨ha, hlrq, hw, hQ⟩ := hp
  have hwt := hw.1
  refine g_aload_n cx 0 d_1_28_0 rfl rfl ?_
  refine g_aload_n cx 1 d_1_28_1 rfl rfl ?_
  obtain ⟨la2, lr2, tr2, tn2, he2, hla2, hlr2, htr2, htn2, hlq2, hlaq2⟩ := TP.o (κ := 1) hT ha
  have hl2 : lr2 = lr := Eq.trans hlq2 hlrq
  have hla29 : (K lr).2.1 = la2 := by rw [← hl2]; exact hlaq2.symm
  refine g_callV cx (As := [.ref w]) (n := 1) (pt_archiveWithF (K := K) (B := B) (T := T) (n := n) (cd := cd) (lr := lr) (S := S) (rz := rz) (az := az) (nt := nt) hB) d_1_28_2 t_668 t_670 ts_12 t_1 t_671 ⟨by decide, by decide, by decide +kernel⟩ rfl (ci := 0) rfl ha.1 he2 ⟨rfl, hT, ha, hlrq, hw, hQ⟩ ⟨Nat.le_of_ble_eq_true rfl, Nat.le_of_ble_eq_true rfl⟩ (Nat.le_of_ble_eq_true rfl) ⟨Nat.zero_le _, Nat.zero_le _⟩ (fun v2 h r2 => ?_) (fun x2 h r2 => by obtain ⟨-, v9, e9, -⟩ := r2; cases e9)
  obtain ⟨rfl, wo2, e2, r2⟩ := r2
  cases e2
  rcases r2 with ⟨rfl, hnoA⟩ | ⟨y2, j2, rfl, hyq2, hyes2⟩
  · skip
    refine g_astore_nN cx (lv' := [(2, .null), (0, .ref a), (1, .ref w)]) d_1_28_5 rfl (by decide) rfl ?_
    refine g_aload_n cx 1 d_1_28_6 rfl rfl ?_
    refine g_callV cx (As := []) (n := 0) (pt_latestRealmF (K := K) (B := B) (T := T) (lr := lr) (S := S) (rz := rz) (az := az) (nt := nt) hB) d_1_28_7 t_633 t_635 ts_9 t_1 t_636 ⟨by decide, by decide, by decide +kernel⟩ rfl (ci := 0) rfl ha.1 he2 ⟨rfl, hT, ha, hlrq, hQ⟩ ⟨Nat.le_of_ble_eq_true rfl, Nat.le_of_ble_eq_true rfl⟩ (Nat.le_of_ble_eq_true rfl) ⟨Nat.zero_le _, Nat.zero_le _⟩ (fun v7 h r7 => ?_) (fun x7 h r7 => by obtain ⟨-, v9, e9, -⟩ := r7; cases e9)
    obtain ⟨rfl, wo7, e7, r7⟩ := r7
    cases e7
    rcases r7 with ⟨rfl, hzR⟩ | ⟨y7, rfl, hyq7, hpos7⟩
    · skip
      refine g_astore_nN cx (lv' := [(3, .null), (2, .null), (0, .ref a), (1, .ref w)]) d_1_28_10 rfl (by decide) rfl ?_
      refine g_aload_nN cx 1 d_1_28_11 rfl rfl ?_
      refine g_ifnullN cx d_1_28_12 rfl ?_
      have hbad : ANo S n cd ∨ ∃ j, AFst S n cd j ∧ 0 < S 0 0 ∧ LIn S j := by
        first
          | exact Or.inl hnoA
          | exact Or.inr ⟨j2, hyes2, hpos7, LIn.of hQ hpos7 hyes2.1 hyq2 hil⟩
      exact t_iae cx htr d_1_28_27 d_1_28_30 d_1_28_31 d_1_28_34  ⟨Nat.le_of_ble_eq_true rfl, Nat.le_of_ble_eq_true rfl⟩ (Nat.le_of_ble_eq_true rfl) ⟨Nat.le_of_ble_eq_true rfl, Nat.le_of_ble_eq_true rfl⟩ (fun x hx hz => thrA (-1) (Or.inl ⟨rfl, rfl⟩) hT hE hx hz (Or.inl ⟨rfl, rfl, hbad⟩) hQ)
    · skip
      have hy7 : Ty K h 6 y7 := by rw [hyq7]; exact (hQ.1.2.1 _ (Nat.sub_lt hpos7 Nat.one_pos)).1
      refine g_astore_n cx (lv' := [(3, .ref y7), (2, .null), (0, .ref a), (1, .ref w)]) d_1_28_10 rfl (by decide) rfl ?_
      refine g_aload_nN cx 1 d_1_28_11 rfl rfl ?_
      refine g_ifnullN cx d_1_28_12 rfl ?_
      have hbad : ANo S n cd ∨ ∃ j, AFst S n cd j ∧ 0 < S 0 0 ∧ LIn S j := by
        first
          | exact Or.inl hnoA
          | exact Or.inr ⟨j2, hyes2, hpos7, LIn.of hQ hpos7 hyes2.1 hyq2 hil⟩
      exact t_iae cx htr d_1_28_27 d_1_28_30 d_1_28_31 d_1_28_34  ⟨Nat.le_of_ble_eq_true rfl, Nat.le_of_ble_eq_true rfl⟩ (Nat.le_of_ble_eq_true rfl) ⟨Nat.le_of_ble_eq_true rfl, Nat.le_of_ble_eq_true rfl⟩ (fun x hx hz => thrA (-1) (Or.inl ⟨rfl, rfl⟩) hT hE hx hz (Or.inl ⟨rfl, rfl, hbad⟩) hQ)
  · skip
    have hy2 : Ty K h 5 y2 := by rw [hyq2]; exact (hQ.2.1.2.1 j2 hyes2.1).1
    refine g_astore_n cx (lv' := [(2, .ref y2), (0, .ref a), (1, .ref w)]) d_1_28_5 rfl (by decide) rfl ?_
    refine g_aload_n cx 1 d_1_28_6 rfl rfl ?_
    refine g_callV cx (As := []) (n := 0) (pt_latestRealmF (K := K) (B := B) (T := T) (lr := lr) (S := S) (rz := rz) (az := az) (nt := nt) hB) d_1_28_7 t_633 t_635 ts_9 t_1 t_636 ⟨by decide, by decide, by decide +kernel⟩ rfl (ci := 0) rfl ha.1 he2 ⟨rfl, hT, ha, hlrq, hQ⟩ ⟨Nat.le_of_ble_eq_true rfl, Nat.le_of_ble_eq_true rfl⟩ (Nat.le_of_ble_eq_true rfl) ⟨Nat.zero_le _, Nat.zero_le _⟩ (fun v7 h r7 => ?_) (fun x7 h r7 => by obtain ⟨-, v9, e9, -⟩ := r7; cases e9)
    obtain ⟨rfl, wo7, e7, r7⟩ := r7
    cases e7
    rcases r7 with ⟨rfl, hzR⟩ | ⟨y7, rfl, hyq7, hpos7⟩
    · skip
      refine g_astore_nN cx (lv' := [(3, .null), (2, .ref y2), (0, .ref a), (1, .ref w)]) d_1_28_10 rfl (by decide) rfl ?_
      refine g_aload_n cx 1 d_1_28_11 rfl rfl ?_
      refine g_ifnull cx d_1_28_12 ?_
      refine g_aload_nN cx 0 d_1_28_15 rfl rfl ?_
      refine g_ifnullN cx d_1_28_16 rfl ?_
      have hgd : ¬ (0 < S 0 0 ∧ LIn S j2) := by
        first
          | exact fun ⟨_, t, ht, e⟩ => hnl t ht (by rw [e, hyq2])
          | exact fun q => absurd q.1 (by omega)
      refine g_aload_nN cx 0 d_1_28_35 rfl rfl ?_
      refine g_ifnullN cx d_1_28_36 rfl ?_
      have hfull : Shut S ∨ ¬ S 10 0 < 4 := by
        first
          | exact Or.inl (Or.inl hzR)
          | exact Or.inl hsh
          | exact Or.inr hn4
      exact t_ise cx htr d_1_28_57 d_1_28_60 d_1_28_61 d_1_28_64  ⟨Nat.le_of_ble_eq_true rfl, Nat.le_of_ble_eq_true rfl⟩ (Nat.le_of_ble_eq_true rfl) ⟨Nat.le_of_ble_eq_true rfl, Nat.le_of_ble_eq_true rfl⟩ (fun x hx hz => thrA (-2) (Or.inr ⟨rfl, rfl⟩) hT hE hx hz (Or.inr (Or.inl ⟨rfl, rfl, ⟨j2, hyes2, hgd⟩, hfull⟩)) hQ)
    · skip
      have hy7 : Ty K h 6 y7 := by rw [hyq7]; exact (hQ.1.2.1 _ (Nat.sub_lt hpos7 Nat.one_pos)).1
      refine g_astore_n cx (lv' := [(3, .ref y7), (2, .ref y2), (0, .ref a), (1, .ref w)]) d_1_28_10 rfl (by decide) rfl ?_
      refine g_aload_n cx 1 d_1_28_11 rfl rfl ?_
      refine g_ifnull cx d_1_28_12 ?_
      refine g_aload_n cx 0 d_1_28_15 rfl rfl ?_
      refine g_ifnull cx d_1_28_16 ?_
      refine g_aload_n cx 0 d_1_28_19 rfl rfl ?_
      refine g_aload_n cx 1 d_1_28_20 rfl rfl ?_
      obtain ⟨n21, b121, b221, b321, w21, lo21, im21, fi21, pa21, he21, hw21, hlo21, him21, hfi21, hpa21, hwq21⟩ := TP.o (κ := 6) hT hy7
      obtain ⟨nw21, hw21⟩ : ∃ n, Tw k K h w21 n := ⟨_, Tx.tx hw21⟩
      refine g_callV cx (As := [.ref y2]) (n := 1) (pt_hasLoadedF (K := K) (B := B) (T := T) (m9 := S 10 0) (ls := fun t => az (S 11 t)) hB) d_1_28_21 t_770 t_771 t_772 t_25 t_773 ⟨by decide, by decide, by decide +kernel⟩ rfl (ci := 6) rfl hy7.1 he21 ⟨rfl, hT, hy7, (by rw [hyq7]; exact (hQ.2.2.2 hpos7).1.2.2)⟩ ⟨Nat.le_of_ble_eq_true rfl, Nat.le_of_ble_eq_true rfl⟩ (Nat.le_of_ble_eq_true rfl) ⟨Nat.zero_le _, Nat.zero_le _⟩ (fun v21 h r21 => ?_) (fun x21 h r21 => by obtain ⟨-, v9, e9, -⟩ := r21; cases e9)
      obtain ⟨rfl, wo21, e21, r21⟩ := r21
      cases e21
      obtain ⟨x21, rfl, xb21⟩ := r21
      refine g_if_eq cx d_1_28_24 rfl (fun c24 => ?_) (fun c24 => ?_)
      · skip
        have hnl : ∀ t, t < S 10 0 → az (S 11 t) ≠ y2 := by
          rcases xb21 with z | z
          · exact absurd c24 (by rw [z.1]; decide)
          · exact z.2
        have hgd : ¬ (0 < S 0 0 ∧ LIn S j2) := by
          first
            | exact fun ⟨_, t, ht, e⟩ => hnl t ht (by rw [e, hyq2])
            | exact fun q => absurd q.1 (by omega)
        refine g_aload_n cx 0 d_1_28_35 rfl rfl ?_
        refine g_ifnull cx d_1_28_36 ?_
        refine g_aload_n cx 0 d_1_28_39 rfl rfl ?_
        refine g_getf cx (k := 7) d_1_28_40 in6 rfl (by decide) t_743 (Or.inl rfl) hy7.1 he21 rfl ?_
        refine g_if_ne cx d_1_28_43 rfl (fun c43 => ?_) (fun c43 => ?_)
        · skip
          have hb2 : b221 = nI ((K y7).2.2 % 2) := hwq21.2.1
          rw [hyq7, (hQ.1.2.1 _ (Nat.sub_lt hpos7 Nat.one_pos)).2.2.2] at hb2
          have hsh : Shut S := Or.inr (fun z => c43 (by rw [hb2, z]; rfl))
          have hfull : Shut S ∨ ¬ S 10 0 < 4 := by
            first
              | exact Or.inl (Or.inl hzR)
              | exact Or.inl hsh
              | exact Or.inr hn4
          exact t_ise cx htr d_1_28_57 d_1_28_60 d_1_28_61 d_1_28_64  ⟨Nat.le_of_ble_eq_true rfl, Nat.le_of_ble_eq_true rfl⟩ (Nat.le_of_ble_eq_true rfl) ⟨Nat.le_of_ble_eq_true rfl, Nat.le_of_ble_eq_true rfl⟩ (fun x hx hz => thrA (-2) (Or.inr ⟨rfl, rfl⟩) hT hE hx hz (Or.inr (Or.inl ⟨rfl, rfl, ⟨j2, hyes2, hgd⟩, hfull⟩)) hQ)
        · skip
          have hb2 : b221 = nI ((K y7).2.2 % 2) := hwq21.2.1
          have hb3 : (K y7).2.2 % 2 < 2 := Nat.mod_lt _ (by decide)
          have hns : ¬ Shut S := by
            rw [hyq7, (hQ.1.2.1 _ (Nat.sub_lt hpos7 Nat.one_pos)).2.2.2] at hb2 hb3
            refine fun q => q.elim (fun z => by omega) (fun z => z ?_)
            exact (nI_eq (b := 0) (by omega) (by decide)).mp (hb2.symm.trans c43)
          refine g_aload_n cx 0 d_1_28_46 rfl rfl ?_
          refine g_getf cx (k := 2) d_1_28_47 in6 rfl (by decide) t_733 (Or.inl rfl) hy7.1 he21 rfl ?_
          obtain ⟨⟨ea50, mo50, hm50, hl50⟩, hb50⟩ := TP.n29 hT hlo21
          refine g_pcV cx (As := []) (n := 0) (pj_size (n := (K lo21).2.2)) d_1_28_50 t_235 t_236 t_237 t_8 t_238 ⟨by decide, by decide, by decide +kernel⟩ rfl (ci := 2) rfl hm50 hl50 ⟨ea50, mo50, hm50, hl50⟩ ⟨Nat.le_of_ble_eq_true rfl, Nat.le_of_ble_eq_true rfl⟩ (Nat.le_of_ble_eq_true rfl) (fun v50 r50 => ?_)
          subst r50
          refine g_iconst cx (v := 4) d_1_28_53 (by decide) ?_
          refine g_icmp_lt cx d_1_28_54 rfl (fun c54 => ?_) (fun c54 => ?_)
          · skip
            have hct : (K lo21).2.2 = S 10 0 := by rw [hwq21.2.2.2, hwq21.2.2.1, hyq7]; exact (hQ.2.2.2 hpos7).1.2.2.2.1
            have h4 : S 10 0 < 4 := by
              rw [← hct]
              exact (nI_ltI (b := 4) (by omega) (by decide)).mp c54
            refine g_aload_n cx 0 d_1_28_65 rfl rfl ?_
            refine g_getf cx (k := 2) d_1_28_66 in6 rfl (by decide) t_733 (Or.inl rfl) hy7.1 he21 rfl ?_
            have hnc : (K lo21).2.2 = S 10 0 := hct
            refine g_aload_n cx 1 d_1_28_69 rfl rfl ?_
            obtain ⟨⟨ea70, mo70, hm70, hl70⟩, hb70⟩ := TP.n29 hT hlo21
            have hL9 : LsK D K h lo21 29 (S 10 0) (fun t => az (S 11 t)) := by rw [hwq21.2.2.2, hwq21.2.2.1, hyq7]; exact (hQ.2.2.2 hpos7).1.2.2
            refine g_callV cx (As := [.ref y2]) (n := 1) (tj_addF (B := B) (n := S 10 0) (ce := 9) (g := 24) (es := (fun t => az (S 11 t))) (by decide) (by rw [show bd (9 + 20) B = 4 from rfl]; omega) (by omega) (by rw [show bd (9 + 20) B = 4 from rfl]; omega)) d_1_28_70 t_571 t_572 t_573 t_8 t_574 ⟨by decide, by decide, by decide +kernel⟩ rfl (ci := 2) rfl hm70 hl70 ⟨rfl, hT, hlo21, hy2, hnc, hL9.ls⟩ ⟨Nat.le_of_ble_eq_true rfl, Nat.le_of_ble_eq_true rfl⟩ (Nat.le_of_ble_eq_true rfl) ⟨Nat.le_of_ble_eq_true rfl, Nat.le_of_ble_eq_true rfl⟩ (fun v70 h r70 => ?_) (fun x70 h r70 => by obtain ⟨K9, -, -, e9, -⟩ := r70; cases e9)
            obtain ⟨K, hT, ev, e70, hnew, hls⟩ := r70
            cases e70
            rw [hyq2] at hls
            have hQ2 := hQ.addL hpos7 (by rw [← hyq7]; exact hwq21.2.2.1.symm) hwq21.2.2.2.symm hT ev hyes2.1 hnew hls
            replace ev := xd_add (e := X0) (ce := 9) (by decide) hlo21 ev
            have hy7 := Ev.ty ev hy7
            have hy2 := Ev.ty ev hy2
            have ha := Ev.ty ev ha
            have hwt := Ev.tx ev hwt
            have hw := Ev.tc ev hw
            replace hE := Ev.trP hE ev
            refine g_pop cx d_1_28_73 rfl ?_
            refine g_iconst cx (v := 4) d_1_28_74 (by decide) ?_
            exact g_iret cx d_1_28_75 rfl rfl ⟨K, hT, hE, 4, _, _, _, _, Or.inl ⟨by decide, rfl⟩, Or.inr (Or.inr ⟨rfl, ⟨j2, hyes2, hgd, rfl⟩, fun q => q.elim hns (fun z => z h4)⟩), hQ2⟩
          · skip
            have hct : (K lo21).2.2 = S 10 0 := by rw [hwq21.2.2.2, hwq21.2.2.1, hyq7]; exact (hQ.2.2.2 hpos7).1.2.2.2.1
            have hn4 : ¬ S 10 0 < 4 := fun q => c54 (by
              rw [hct]
              exact (nI_ltI (b := 4) (by omega) (by decide)).mpr q)
            have hfull : Shut S ∨ ¬ S 10 0 < 4 := by
              first
                | exact Or.inl (Or.inl hzR)
                | exact Or.inl hsh
                | exact Or.inr hn4
            exact t_ise cx htr d_1_28_57 d_1_28_60 d_1_28_61 d_1_28_64  ⟨Nat.le_of_ble_eq_true rfl, Nat.le_of_ble_eq_true rfl⟩ (Nat.le_of_ble_eq_true rfl) ⟨Nat.le_of_ble_eq_true rfl, Nat.le_of_ble_eq_true rfl⟩ (fun x hx hz => thrA (-2) (Or.inr ⟨rfl, rfl⟩) hT hE hx hz (Or.inr (Or.inl ⟨rfl, rfl, ⟨j2, hyes2, hgd⟩, hfull⟩)) hQ)
      · skip
        have hil : ∃ t, t < S 10 0 ∧ az (S 11 t) = y2 := by
          rcases xb21 with z | z
          · exact z.2
          · exact absurd z.1 c24
        have hbad : ANo S n cd ∨ ∃ j, AFst S n cd j ∧ 0 < S 0 0 ∧ LIn S j := by
          first
            | exact Or.inl hnoA
            | exact Or.inr ⟨j2, hyes2, hpos7, LIn.of hQ hpos7 hyes2.1 hyq2 hil⟩
        exact t_iae cx htr d_1_28_27 d_1_28_30 d_1_28_31 d_1_28_34  ⟨Nat.le_of_ble_eq_true rfl, Nat.le_of_ble_eq_true rfl⟩ (Nat.le_of_ble_eq_true rfl) ⟨Nat.le_of_ble_eq_true rfl, Nat.le_of_ble_eq_true rfl⟩ (fun x hx hz => thrA (-1) (Or.inl ⟨rfl, rfl⟩) hT hE hx hz (Or.inl ⟨rfl, rfl, hbad⟩) hQ)
set_option maxHeartbeats 8000000 in
theorem tc_setParentF {a w n cd lr : Nat} {S : SL} {rz az nt : Nat → Nat} (hB : B < 2 ^ 17) (htr : l.stackTraces = false) : TC l y_136 prog_1_method_30_code 4 (Option.some Jvm.ClassFile.FieldType.int) (rmT 7 1 6) D z0 k [.ref a, .ref w] K (B) (T) (fun h => Ty K h 1 a ∧ (K a).2.2 = lr ∧ Tc k K h w n cd ∧ CQ D k K h lr S rz az nt) (B) (T) (XN K) (AX D k lr (DoP S n cd)) := by
  refine tc_of (by decide) (Nat.le_of_ble_eq_true rfl) ?_
  intro h hT hp p e s m args below meth c cx hnm
  have hE : Ev k (XN K) K h K h := Ev.rf
  have hB17 := hB
  replace hB : B < 2 ^ 20 := Nat.lt_trans hB (by decide)
  obtain ⟨ha, hlrq, hw, hQ⟩ := hp
  have hwt := hw.1
  refine g_aload_n cx 0 d_1_30_0 rfl rfl ?_
  refine g_aload_n cx 1 d_1_30_1 rfl rfl ?_
  obtain ⟨la2, lr2, tr2, tn2, he2, hla2, hlr2, htr2, htn2, hlq2, hlaq2⟩ := TP.o (κ := 1) hT ha
  have hl2 : lr2 = lr := Eq.trans hlq2 hlrq
  have hla29 : (K lr).2.1 = la2 := by rw [← hl2]; exact hlaq2.symm
  refine g_callV cx (As := [.ref w]) (n := 1) (pt_realmWithF (K := K) (B := B) (T := T) (n := n) (cd := cd) (lr := lr) (S := S) (rz := rz) (az := az) (nt := nt) hB) d_1_30_2 t_487 t_489 ts_3 t_1 t_490 ⟨by decide, by decide, by decide +kernel⟩ rfl (ci := 0) rfl ha.1 he2 ⟨rfl, hT, ha, hlrq, hw, hQ⟩ ⟨Nat.le_of_ble_eq_true rfl, Nat.le_of_ble_eq_true rfl⟩ (Nat.le_of_ble_eq_true rfl) ⟨Nat.zero_le _, Nat.zero_le _⟩ (fun v2 h r2 => ?_) (fun x2 h r2 => by obtain ⟨-, v9, e9, -⟩ := r2; cases e9)
  obtain ⟨rfl, wo2, e2, r2⟩ := r2
  cases e2
  rcases r2 with ⟨rfl, hnoR⟩ | ⟨y2, j2, rfl, hyq2, hyes2⟩
  · skip
    refine g_astore_nN cx (lv' := [(2, .null), (0, .ref a), (1, .ref w)]) d_1_30_5 rfl (by decide) rfl ?_
    refine g_aload_n cx 1 d_1_30_6 rfl rfl ?_
    refine g_callV cx (As := []) (n := 0) (pt_latestRealmF (K := K) (B := B) (T := T) (lr := lr) (S := S) (rz := rz) (az := az) (nt := nt) hB) d_1_30_7 t_633 t_635 ts_9 t_1 t_636 ⟨by decide, by decide, by decide +kernel⟩ rfl (ci := 0) rfl ha.1 he2 ⟨rfl, hT, ha, hlrq, hQ⟩ ⟨Nat.le_of_ble_eq_true rfl, Nat.le_of_ble_eq_true rfl⟩ (Nat.le_of_ble_eq_true rfl) ⟨Nat.zero_le _, Nat.zero_le _⟩ (fun v7 h r7 => ?_) (fun x7 h r7 => by obtain ⟨-, v9, e9, -⟩ := r7; cases e9)
    obtain ⟨rfl, wo7, e7, r7⟩ := r7
    cases e7
    rcases r7 with ⟨rfl, hzR⟩ | ⟨y7, rfl, hyq7, hpos7⟩
    · skip
      refine g_astore_nN cx (lv' := [(3, .null), (2, .null), (0, .ref a), (1, .ref w)]) d_1_30_10 rfl (by decide) rfl ?_
      refine g_aload_nN cx 1 d_1_30_11 rfl rfl ?_
      refine g_ifnullN cx d_1_30_12 rfl ?_
      have hng : ¬ RGo S n cd := by
        first
          | exact fun q => q.elim (fun j z => hnoR j z.1.1 z.1.2.1)
          | exact fun ⟨j, z1, z2⟩ => z2 (by
              rw [z1.u hyes2]
              exact hQ.1.2.2 _ _ hyes2.1 (Nat.sub_lt hpos7 Nat.one_pos) (by rw [← hyq2, ← hyq7]; exact Option.some.inj c17))
          | exact absurd c17 (fun z => by cases z)
      exact t_iae cx htr d_1_30_20 d_1_30_23 d_1_30_24 d_1_30_27  ⟨Nat.le_of_ble_eq_true rfl, Nat.le_of_ble_eq_true rfl⟩ (Nat.le_of_ble_eq_true rfl) ⟨Nat.le_of_ble_eq_true rfl, Nat.le_of_ble_eq_true rfl⟩ (fun x hx hz => thrA (-1) (Or.inl ⟨rfl, rfl⟩) hT hE hx hz (⟨rfl, Or.inl ⟨rfl, hng⟩⟩) hQ)
    · skip
      have hy7 : Ty K h 6 y7 := by rw [hyq7]; exact (hQ.1.2.1 _ (Nat.sub_lt hpos7 Nat.one_pos)).1
      refine g_astore_n cx (lv' := [(3, .ref y7), (2, .null), (0, .ref a), (1, .ref w)]) d_1_30_10 rfl (by decide) rfl ?_
      refine g_aload_nN cx 1 d_1_30_11 rfl rfl ?_
      refine g_ifnullN cx d_1_30_12 rfl ?_
      have hng : ¬ RGo S n cd := by
        first
          | exact fun q => q.elim (fun j z => hnoR j z.1.1 z.1.2.1)
          | exact fun ⟨j, z1, z2⟩ => z2 (by
              rw [z1.u hyes2]
              exact hQ.1.2.2 _ _ hyes2.1 (Nat.sub_lt hpos7 Nat.one_pos) (by rw [← hyq2, ← hyq7]; exact Option.some.inj c17))
          | exact absurd c17 (fun z => by cases z)
      exact t_iae cx htr d_1_30_20 d_1_30_23 d_1_30_24 d_1_30_27  ⟨Nat.le_of_ble_eq_true rfl, Nat.le_of_ble_eq_true rfl⟩ (Nat.le_of_ble_eq_true rfl) ⟨Nat.le_of_ble_eq_true rfl, Nat.le_of_ble_eq_true rfl⟩ (fun x hx hz => thrA (-1) (Or.inl ⟨rfl, rfl⟩) hT hE hx hz (⟨rfl, Or.inl ⟨rfl, hng⟩⟩) hQ)
  · skip
    have hy2 : Ty K h 6 y2 := by rw [hyq2]; exact (hQ.1.2.1 j2 hyes2.1).1
    refine g_astore_n cx (lv' := [(2, .ref y2), (0, .ref a), (1, .ref w)]) d_1_30_5 rfl (by decide) rfl ?_
    refine g_aload_n cx 1 d_1_30_6 rfl rfl ?_
    refine g_callV cx (As := []) (n := 0) (pt_latestRealmF (K := K) (B := B) (T := T) (lr := lr) (S := S) (rz := rz) (az := az) (nt := nt) hB) d_1_30_7 t_633 t_635 ts_9 t_1 t_636 ⟨by decide, by decide, by decide +kernel⟩ rfl (ci := 0) rfl ha.1 he2 ⟨rfl, hT, ha, hlrq, hQ⟩ ⟨Nat.le_of_ble_eq_true rfl, Nat.le_of_ble_eq_true rfl⟩ (Nat.le_of_ble_eq_true rfl) ⟨Nat.zero_le _, Nat.zero_le _⟩ (fun v7 h r7 => ?_) (fun x7 h r7 => by obtain ⟨-, v9, e9, -⟩ := r7; cases e9)
    obtain ⟨rfl, wo7, e7, r7⟩ := r7
    cases e7
    rcases r7 with ⟨rfl, hzR⟩ | ⟨y7, rfl, hyq7, hpos7⟩
    · skip
      refine g_astore_nN cx (lv' := [(3, .null), (2, .ref y2), (0, .ref a), (1, .ref w)]) d_1_30_10 rfl (by decide) rfl ?_
      refine g_aload_n cx 1 d_1_30_11 rfl rfl ?_
      refine g_ifnull cx d_1_30_12 ?_
      refine g_aload_n cx 1 d_1_30_15 rfl rfl ?_
      refine g_aload_nN cx 0 d_1_30_16 rfl rfl ?_
      refine g_acmp_ne cx (rx := (some (y2))) (ry := none) d_1_30_17 rfl (fun c17 => ?_) (fun c17 => ?_)
      · skip
        have hg : RGo S n cd := by
          first
            | exact ⟨j2, hyes2, fun z => c17 (by rw [hyq2, hyq7, z])⟩
            | exact absurd hyes2.1 (by omega)
        refine g_aload_nN cx 0 d_1_30_28 rfl rfl ?_
        refine g_ifnullN cx d_1_30_29 rfl ?_
        have hs9 : Shut S := by
          first
            | exact Or.inl hzR
            | exact hsh
        exact t_ise cx htr d_1_30_39 d_1_30_42 d_1_30_43 d_1_30_46  ⟨Nat.le_of_ble_eq_true rfl, Nat.le_of_ble_eq_true rfl⟩ (Nat.le_of_ble_eq_true rfl) ⟨Nat.le_of_ble_eq_true rfl, Nat.le_of_ble_eq_true rfl⟩ (fun x hx hz => thrA (-2) (Or.inr ⟨rfl, rfl⟩) hT hE hx hz (⟨rfl, Or.inr (Or.inl ⟨rfl, hg, hs9⟩)⟩) hQ)
      · skip
        have hng : ¬ RGo S n cd := by
          first
            | exact fun q => q.elim (fun j z => hnoR j z.1.1 z.1.2.1)
            | exact fun ⟨j, z1, z2⟩ => z2 (by
                rw [z1.u hyes2]
                exact hQ.1.2.2 _ _ hyes2.1 (Nat.sub_lt hpos7 Nat.one_pos) (by rw [← hyq2, ← hyq7]; exact Option.some.inj c17))
            | exact absurd c17 (fun z => by cases z)
        exact t_iae cx htr d_1_30_20 d_1_30_23 d_1_30_24 d_1_30_27  ⟨Nat.le_of_ble_eq_true rfl, Nat.le_of_ble_eq_true rfl⟩ (Nat.le_of_ble_eq_true rfl) ⟨Nat.le_of_ble_eq_true rfl, Nat.le_of_ble_eq_true rfl⟩ (fun x hx hz => thrA (-1) (Or.inl ⟨rfl, rfl⟩) hT hE hx hz (⟨rfl, Or.inl ⟨rfl, hng⟩⟩) hQ)
    · skip
      have hy7 : Ty K h 6 y7 := by rw [hyq7]; exact (hQ.1.2.1 _ (Nat.sub_lt hpos7 Nat.one_pos)).1
      refine g_astore_n cx (lv' := [(3, .ref y7), (2, .ref y2), (0, .ref a), (1, .ref w)]) d_1_30_10 rfl (by decide) rfl ?_
      refine g_aload_n cx 1 d_1_30_11 rfl rfl ?_
      refine g_ifnull cx d_1_30_12 ?_
      refine g_aload_n cx 1 d_1_30_15 rfl rfl ?_
      refine g_aload_n cx 0 d_1_30_16 rfl rfl ?_
      refine g_acmp_ne cx (rx := (some (y2))) (ry := (some (y7))) d_1_30_17 rfl (fun c17 => ?_) (fun c17 => ?_)
      · skip
        have hg : RGo S n cd := by
          first
            | exact ⟨j2, hyes2, fun z => c17 (by rw [hyq2, hyq7, z])⟩
            | exact absurd hyes2.1 (by omega)
        refine g_aload_n cx 0 d_1_30_28 rfl rfl ?_
        refine g_ifnull cx d_1_30_29 ?_
        refine g_aload_n cx 0 d_1_30_32 rfl rfl ?_
        obtain ⟨n33, b133, b233, b333, w33, lo33, im33, fi33, pa33, he33, hw33, hlo33, him33, hfi33, hpa33, hwq33⟩ := TP.o (κ := 6) hT hy7
        obtain ⟨nw33, hw33⟩ : ∃ n, Tw k K h w33 n := ⟨_, Tx.tx hw33⟩
        refine g_getf cx (k := 7) d_1_30_33 in6 rfl (by decide) t_743 (Or.inl rfl) hy7.1 he33 rfl ?_
        refine g_if_eq cx d_1_30_36 rfl (fun c36 => ?_) (fun c36 => ?_)
        · skip
          have hb2 : b233 = nI ((K y7).2.2 % 2) := hwq33.2.1
          have hb3 : (K y7).2.2 % 2 < 2 := Nat.mod_lt _ (by decide)
          have hns : ¬ Shut S := by
            rw [hyq7, (hQ.1.2.1 _ (Nat.sub_lt hpos7 Nat.one_pos)).2.2.2] at hb2 hb3
            refine fun q => q.elim (fun z => by omega) (fun z => z ?_)
            exact (nI_eq (b := 0) (by omega) (by decide)).mp (hb2.symm.trans c36)
          refine g_aload_n cx 0 d_1_30_47 rfl rfl ?_
          refine g_aload_n cx 1 d_1_30_48 rfl rfl ?_
          refine g_putf cx d_1_30_49 in6 ty6_ok nm6 rfl (k := 5) (by decide) t_739 (Or.inl rfl) rfl (ty6_ok 5 (by decide)) rfl rfl hy7.1 he33 (Nat.le_of_ble_eq_true rfl) ?_
          refine t_put hT hy7 (okcO hy7.2 (Or.inl (by decide)) ⟨n33, b133, b233, b333, w33, lo33, im33, fi33, some y2, rfl, hw33.tx, hlo33, him33, hfi33, fun z hz => (by cases hz; exact hy2), hwq33⟩) (fun h hT ev he49p => ?_)
          replace hQ := hQ.ev ev (x6Q hy7)
          have hy7 := Ev.ty ev hy7
          have hy2 := Ev.ty ev hy2
          have ha := Ev.ty ev ha
          have hwt := Ev.tx ev hwt
          have hw := Ev.tc ev hw
          replace hE := Ev.tr1 hE (Or.inr (by show PN (K y7).1; rw [hy7.2]; decide)) ev
          refine g_iconst cx (v := 4) d_1_30_52 (by decide) ?_
          exact g_iret cx d_1_30_53 rfl rfl ⟨K, hT, hE, 4, _, _, _, _, Or.inl ⟨by decide, rfl⟩, ⟨rfl, Or.inr (Or.inr ⟨rfl, hg, hns⟩)⟩, hQ⟩
        · skip
          have hb2 : b233 = nI ((K y7).2.2 % 2) := hwq33.2.1
          rw [hyq7, (hQ.1.2.1 _ (Nat.sub_lt hpos7 Nat.one_pos)).2.2.2] at hb2
          have hsh : Shut S := Or.inr (fun z => c36 (by rw [hb2, z]; rfl))
          have hs9 : Shut S := by
            first
              | exact Or.inl hzR
              | exact hsh
          exact t_ise cx htr d_1_30_39 d_1_30_42 d_1_30_43 d_1_30_46  ⟨Nat.le_of_ble_eq_true rfl, Nat.le_of_ble_eq_true rfl⟩ (Nat.le_of_ble_eq_true rfl) ⟨Nat.le_of_ble_eq_true rfl, Nat.le_of_ble_eq_true rfl⟩ (fun x hx hz => thrA (-2) (Or.inr ⟨rfl, rfl⟩) hT hE hx hz (⟨rfl, Or.inr (Or.inl ⟨rfl, hg, hs9⟩)⟩) hQ)
      · skip
        have hng : ¬ RGo S n cd := by
          first
            | exact fun q => q.elim (fun j z => hnoR j z.1.1 z.1.2.1)
            | exact fun ⟨j, z1, z2⟩ => z2 (by
                rw [z1.u hyes2]
                exact hQ.1.2.2 _ _ hyes2.1 (Nat.sub_lt hpos7 Nat.one_pos) (by rw [← hyq2, ← hyq7]; exact Option.some.inj c17))
            | exact absurd c17 (fun z => by cases z)
        exact t_iae cx htr d_1_30_20 d_1_30_23 d_1_30_24 d_1_30_27  ⟨Nat.le_of_ble_eq_true rfl, Nat.le_of_ble_eq_true rfl⟩ (Nat.le_of_ble_eq_true rfl) ⟨Nat.le_of_ble_eq_true rfl, Nat.le_of_ble_eq_true rfl⟩ (fun x hx hz => thrA (-1) (Or.inl ⟨rfl, rfl⟩) hT hE hx hz (⟨rfl, Or.inl ⟨rfl, hng⟩⟩) hQ)
set_option maxHeartbeats 8000000 in
theorem tc_setOrderF {a w n cd lr : Nat} {S : SL} {rz az nt : Nat → Nat} (hB : B < 2 ^ 17) (htr : l.stackTraces = false) : TC l y_118 prog_1_method_31_code 4 (Option.some Jvm.ClassFile.FieldType.int) (rmT 7 1 6) D z0 k [.ref a, .ref w] K (B) (T) (fun h => Ty K h 1 a ∧ (K a).2.2 = lr ∧ Tc k K h w n cd ∧ CQ D k K h lr S rz az nt ∧ 1 ≤ n) (B) (T) (XN K) (AX D k lr (DoOO S n cd)) := by
  refine tc_of (by decide) (Nat.le_of_ble_eq_true rfl) ?_
  intro h hT hp p e s m args below meth c cx hnm
  have hE : Ev k (XN K) K h K h := Ev.rf
  have hB17 := hB
  replace hB : B < 2 ^ 20 := Nat.lt_trans hB (by decide)
  obtain ⟨ha, hlrq, hw, hQ, hn1⟩ := hp
  have hwt := hw.1
  refine g_aload_n cx 1 d_1_31_0 rfl rfl ?_
  refine g_ldcS cx d_1_31_1 cx.ee.2.2.2.2.2.2.2.2.2.2.2.2.2.2.2.2.1 ?_
  have hr3 : Tc k K h w (n) (cd) := hw
  have hm3 : w ∈ h.1 := Tc.mem hT hr3 hn1
  obtain ⟨va3, hsa3, hba3, -⟩ := Tc.byt hT hr3
  refine g_pcVS cx (As := [.ref (k 18)]) (n := 1) (pj_eqF (n := n) (n' := ln 8) (cd := cd) (ce := kc 8)) d_1_31_3 t_491 t_492 t_493 t_4 t_494 rfl (by decide +kernel) rfl hsa3 ⟨⟨hm3, hT.2.2.2.1⟩, ⟨_, hsa3, hba3⟩, ⟨k (30 + 8), Or.inr ⟨8, by decide, rfl, rfl, rfl⟩, Or.inr ⟨8, by decide, rfl, rfl, rfl⟩⟩⟩ ⟨Nat.le_of_ble_eq_true rfl, Nat.le_of_ble_eq_true rfl⟩ (Nat.le_of_ble_eq_true rfl) (fun v3 r3 => ?_)
  obtain ⟨x3, rfl, xb3⟩ := r3
  refine g_istore_n cx (lv' := [(2, .int x3), (0, .ref a), (1, .ref w)]) d_1_31_6 rfl (by decide) rfl ?_
  refine g_iload_n cx 0 d_1_31_7 rfl rfl ?_
  refine g_if_ne cx d_1_31_8 rfl (fun c8 => ?_) (fun c8 => ?_)
  · skip
    have he8 : CE n (ln 8) cd (kc 8) := by
      rcases xb3 with z | z
      · exact z.2
      · exact absurd z.1 c8
    have hor : CE n (ln 8) cd (kc 8) ∨ CE n (ln 9) cd (kc 9) := by
      first
        | exact Or.inl he8
        | exact Or.inr he9
    refine g_aload_n cx 1 d_1_31_28 rfl rfl ?_
    obtain ⟨la29, lr29, tr29, tn29, he29, hla29, hlr29, htr29, htn29, hlq29, hlaq29⟩ := TP.o (κ := 1) hT ha
    refine g_callV cx (As := []) (n := 0) (pt_latestRealmF (K := K) (B := B) (T := T) (lr := lr) (S := S) (rz := rz) (az := az) (nt := nt) hB) d_1_31_29 t_633 t_635 ts_9 t_1 t_636 ⟨by decide, by decide, by decide +kernel⟩ rfl (ci := 0) rfl ha.1 he29 ⟨rfl, hT, ha, hlrq, hQ⟩ ⟨Nat.le_of_ble_eq_true rfl, Nat.le_of_ble_eq_true rfl⟩ (Nat.le_of_ble_eq_true rfl) ⟨Nat.zero_le _, Nat.zero_le _⟩ (fun v29 h r29 => ?_) (fun x29 h r29 => by obtain ⟨-, v9, e9, -⟩ := r29; cases e9)
    obtain ⟨rfl, wo29, e29, r29⟩ := r29
    cases e29
    rcases r29 with ⟨rfl, hzR⟩ | ⟨y29, rfl, hyq29, hpos29⟩
    · skip
      refine g_astore_nN cx (lv' := [(3, .null), (2, .int x3), (0, .ref a), (1, .ref w)]) d_1_31_32 rfl (by decide) rfl ?_
      refine g_aload_nN cx 0 d_1_31_33 rfl rfl ?_
      refine g_ifnullN cx d_1_31_34 rfl ?_
      have hs9 : Shut S := by
        first
          | exact Or.inl hzR
          | exact hsh
      exact t_ise cx htr d_1_31_44 d_1_31_47 d_1_31_48 d_1_31_51  ⟨Nat.le_of_ble_eq_true rfl, Nat.le_of_ble_eq_true rfl⟩ (Nat.le_of_ble_eq_true rfl) ⟨Nat.le_of_ble_eq_true rfl, Nat.le_of_ble_eq_true rfl⟩ (fun x hx hz => thrA (-2) (Or.inr ⟨rfl, rfl⟩) hT hE hx hz (Or.inl ⟨hor, rfl, Or.inl ⟨rfl, hs9⟩⟩) hQ)
    · skip
      have hy29 : Ty K h 6 y29 := by rw [hyq29]; exact (hQ.1.2.1 _ (Nat.sub_lt hpos29 Nat.one_pos)).1
      refine g_astore_n cx (lv' := [(3, .ref y29), (2, .int x3), (0, .ref a), (1, .ref w)]) d_1_31_32 rfl (by decide) rfl ?_
      refine g_aload_n cx 0 d_1_31_33 rfl rfl ?_
      refine g_ifnull cx d_1_31_34 ?_
      refine g_aload_n cx 0 d_1_31_37 rfl rfl ?_
      obtain ⟨n38, b138, b238, b338, w38, lo38, im38, fi38, pa38, he38, hw38, hlo38, him38, hfi38, hpa38, hwq38⟩ := TP.o (κ := 6) hT hy29
      obtain ⟨nw38, hw38⟩ : ∃ n, Tw k K h w38 n := ⟨_, Tx.tx hw38⟩
      refine g_getf cx (k := 7) d_1_31_38 in6 rfl (by decide) t_743 (Or.inl rfl) hy29.1 he38 rfl ?_
      refine g_if_eq cx d_1_31_41 rfl (fun c41 => ?_) (fun c41 => ?_)
      · skip
        have hb2 : b238 = nI ((K y29).2.2 % 2) := hwq38.2.1
        have hb3 : (K y29).2.2 % 2 < 2 := Nat.mod_lt _ (by decide)
        have hns : ¬ Shut S := by
          rw [hyq29, (hQ.1.2.1 _ (Nat.sub_lt hpos29 Nat.one_pos)).2.2.2] at hb2 hb3
          refine fun q => q.elim (fun z => by omega) (fun z => z ?_)
          exact (nI_eq (b := 0) (by omega) (by decide)).mp (hb2.symm.trans c41)
        refine g_aload_n cx 0 d_1_31_52 rfl rfl ?_
        refine g_iload_n cx 1 d_1_31_53 rfl rfl ?_
        refine g_putf cx d_1_31_54 in6 ty6_ok nm6 rfl (k := 6) (by decide) t_741 (Or.inl rfl) rfl (ty6_ok 6 (by decide)) (by rcases xb3 with ⟨rfl, -⟩ | ⟨rfl, -⟩ <;> rfl) (by rcases xb3 with ⟨rfl, -⟩ | ⟨rfl, -⟩ <;> rfl) hy29.1 he38 (Nat.le_of_ble_eq_true rfl) ?_
        refine t_put hT hy29 (okcO hy29.2 (Or.inl (by decide)) ⟨n38, x3, b238, b338, w38, lo38, im38, fi38, pa38, rfl, hw38.tx, hlo38, him38, hfi38, hpa38, hwq38⟩) (fun h hT ev he54p => ?_)
        replace hQ := hQ.ev ev (x6Q hy29)
        have hy29 := Ev.ty ev hy29
        have ha := Ev.ty ev ha
        have hwt := Ev.tx ev hwt
        have hw := Ev.tc ev hw
        replace hE := Ev.tr1 hE (Or.inr (by show PN (K y29).1; rw [hy29.2]; decide)) ev
        refine g_iconst cx (v := 4) d_1_31_57 (by decide) ?_
        exact g_iret cx d_1_31_58 rfl rfl ⟨K, hT, hE, 4, _, _, _, _, Or.inl ⟨by decide, rfl⟩, Or.inl ⟨hor, rfl, Or.inr ⟨rfl, hns⟩⟩, hQ⟩
      · skip
        have hb2 : b238 = nI ((K y29).2.2 % 2) := hwq38.2.1
        rw [hyq29, (hQ.1.2.1 _ (Nat.sub_lt hpos29 Nat.one_pos)).2.2.2] at hb2
        have hsh : Shut S := Or.inr (fun z => c41 (by rw [hb2, z]; rfl))
        have hs9 : Shut S := by
          first
            | exact Or.inl hzR
            | exact hsh
        exact t_ise cx htr d_1_31_44 d_1_31_47 d_1_31_48 d_1_31_51  ⟨Nat.le_of_ble_eq_true rfl, Nat.le_of_ble_eq_true rfl⟩ (Nat.le_of_ble_eq_true rfl) ⟨Nat.le_of_ble_eq_true rfl, Nat.le_of_ble_eq_true rfl⟩ (fun x hx hz => thrA (-2) (Or.inr ⟨rfl, rfl⟩) hT hE hx hz (Or.inl ⟨hor, rfl, Or.inl ⟨rfl, hs9⟩⟩) hQ)
  · skip
    have hn8 : ¬ CE n (ln 8) cd (kc 8) := by
      rcases xb3 with z | z
      · exact absurd c8 (by rw [z.1]; decide)
      · exact z.2
    refine g_aload_n cx 2 d_1_31_11 rfl rfl ?_
    refine g_ldcS cx d_1_31_12 cx.ee.2.2.2.2.2.2.2.2.2.2.2.2.2.2.2.2.2 ?_
    have hr14 : Tc k K h w (n) (cd) := hw
    have hm14 : w ∈ h.1 := Tc.mem hT hr14 hn1
    obtain ⟨va14, hsa14, hba14, -⟩ := Tc.byt hT hr14
    refine g_pcVS cx (As := [.ref (k 19)]) (n := 1) (pj_eqF (n := n) (n' := ln 9) (cd := cd) (ce := kc 9)) d_1_31_14 t_491 t_492 t_493 t_4 t_494 rfl (by decide +kernel) rfl hsa14 ⟨⟨hm14, hT.2.2.2.1⟩, ⟨_, hsa14, hba14⟩, ⟨k (30 + 9), Or.inr ⟨9, by decide, rfl, rfl, rfl⟩, Or.inr ⟨9, by decide, rfl, rfl, rfl⟩⟩⟩ ⟨Nat.le_of_ble_eq_true rfl, Nat.le_of_ble_eq_true rfl⟩ (Nat.le_of_ble_eq_true rfl) (fun v14 r14 => ?_)
    obtain ⟨x14, rfl, xb14⟩ := r14
    refine g_if_ne cx d_1_31_17 rfl (fun c17 => ?_) (fun c17 => ?_)
    · skip
      have he9 : CE n (ln 9) cd (kc 9) := by
        rcases xb14 with z | z
        · exact z.2
        · exact absurd z.1 c17
      have hor : CE n (ln 8) cd (kc 8) ∨ CE n (ln 9) cd (kc 9) := by
        first
          | exact Or.inl he8
          | exact Or.inr he9
      refine g_aload_n cx 1 d_1_31_28 rfl rfl ?_
      obtain ⟨la29, lr29, tr29, tn29, he29, hla29, hlr29, htr29, htn29, hlq29, hlaq29⟩ := TP.o (κ := 1) hT ha
      refine g_callV cx (As := []) (n := 0) (pt_latestRealmF (K := K) (B := B) (T := T) (lr := lr) (S := S) (rz := rz) (az := az) (nt := nt) hB) d_1_31_29 t_633 t_635 ts_9 t_1 t_636 ⟨by decide, by decide, by decide +kernel⟩ rfl (ci := 0) rfl ha.1 he29 ⟨rfl, hT, ha, hlrq, hQ⟩ ⟨Nat.le_of_ble_eq_true rfl, Nat.le_of_ble_eq_true rfl⟩ (Nat.le_of_ble_eq_true rfl) ⟨Nat.zero_le _, Nat.zero_le _⟩ (fun v29 h r29 => ?_) (fun x29 h r29 => by obtain ⟨-, v9, e9, -⟩ := r29; cases e9)
      obtain ⟨rfl, wo29, e29, r29⟩ := r29
      cases e29
      rcases r29 with ⟨rfl, hzR⟩ | ⟨y29, rfl, hyq29, hpos29⟩
      · skip
        refine g_astore_nN cx (lv' := [(3, .null), (2, .int x3), (0, .ref a), (1, .ref w)]) d_1_31_32 rfl (by decide) rfl ?_
        refine g_aload_nN cx 0 d_1_31_33 rfl rfl ?_
        refine g_ifnullN cx d_1_31_34 rfl ?_
        have hs9 : Shut S := by
          first
            | exact Or.inl hzR
            | exact hsh
        exact t_ise cx htr d_1_31_44 d_1_31_47 d_1_31_48 d_1_31_51  ⟨Nat.le_of_ble_eq_true rfl, Nat.le_of_ble_eq_true rfl⟩ (Nat.le_of_ble_eq_true rfl) ⟨Nat.le_of_ble_eq_true rfl, Nat.le_of_ble_eq_true rfl⟩ (fun x hx hz => thrA (-2) (Or.inr ⟨rfl, rfl⟩) hT hE hx hz (Or.inl ⟨hor, rfl, Or.inl ⟨rfl, hs9⟩⟩) hQ)
      · skip
        have hy29 : Ty K h 6 y29 := by rw [hyq29]; exact (hQ.1.2.1 _ (Nat.sub_lt hpos29 Nat.one_pos)).1
        refine g_astore_n cx (lv' := [(3, .ref y29), (2, .int x3), (0, .ref a), (1, .ref w)]) d_1_31_32 rfl (by decide) rfl ?_
        refine g_aload_n cx 0 d_1_31_33 rfl rfl ?_
        refine g_ifnull cx d_1_31_34 ?_
        refine g_aload_n cx 0 d_1_31_37 rfl rfl ?_
        obtain ⟨n38, b138, b238, b338, w38, lo38, im38, fi38, pa38, he38, hw38, hlo38, him38, hfi38, hpa38, hwq38⟩ := TP.o (κ := 6) hT hy29
        obtain ⟨nw38, hw38⟩ : ∃ n, Tw k K h w38 n := ⟨_, Tx.tx hw38⟩
        refine g_getf cx (k := 7) d_1_31_38 in6 rfl (by decide) t_743 (Or.inl rfl) hy29.1 he38 rfl ?_
        refine g_if_eq cx d_1_31_41 rfl (fun c41 => ?_) (fun c41 => ?_)
        · skip
          have hb2 : b238 = nI ((K y29).2.2 % 2) := hwq38.2.1
          have hb3 : (K y29).2.2 % 2 < 2 := Nat.mod_lt _ (by decide)
          have hns : ¬ Shut S := by
            rw [hyq29, (hQ.1.2.1 _ (Nat.sub_lt hpos29 Nat.one_pos)).2.2.2] at hb2 hb3
            refine fun q => q.elim (fun z => by omega) (fun z => z ?_)
            exact (nI_eq (b := 0) (by omega) (by decide)).mp (hb2.symm.trans c41)
          refine g_aload_n cx 0 d_1_31_52 rfl rfl ?_
          refine g_iload_n cx 1 d_1_31_53 rfl rfl ?_
          refine g_putf cx d_1_31_54 in6 ty6_ok nm6 rfl (k := 6) (by decide) t_741 (Or.inl rfl) rfl (ty6_ok 6 (by decide)) (by rcases xb3 with ⟨rfl, -⟩ | ⟨rfl, -⟩ <;> rfl) (by rcases xb3 with ⟨rfl, -⟩ | ⟨rfl, -⟩ <;> rfl) hy29.1 he38 (Nat.le_of_ble_eq_true rfl) ?_
          refine t_put hT hy29 (okcO hy29.2 (Or.inl (by decide)) ⟨n38, x3, b238, b338, w38, lo38, im38, fi38, pa38, rfl, hw38.tx, hlo38, him38, hfi38, hpa38, hwq38⟩) (fun h hT ev he54p => ?_)
          replace hQ := hQ.ev ev (x6Q hy29)
          have hy29 := Ev.ty ev hy29
          have ha := Ev.ty ev ha
          have hwt := Ev.tx ev hwt
          have hw := Ev.tc ev hw
          replace hE := Ev.tr1 hE (Or.inr (by show PN (K y29).1; rw [hy29.2]; decide)) ev
          refine g_iconst cx (v := 4) d_1_31_57 (by decide) ?_
          exact g_iret cx d_1_31_58 rfl rfl ⟨K, hT, hE, 4, _, _, _, _, Or.inl ⟨by decide, rfl⟩, Or.inl ⟨hor, rfl, Or.inr ⟨rfl, hns⟩⟩, hQ⟩
        · skip
          have hb2 : b238 = nI ((K y29).2.2 % 2) := hwq38.2.1
          rw [hyq29, (hQ.1.2.1 _ (Nat.sub_lt hpos29 Nat.one_pos)).2.2.2] at hb2
          have hsh : Shut S := Or.inr (fun z => c41 (by rw [hb2, z]; rfl))
          have hs9 : Shut S := by
            first
              | exact Or.inl hzR
              | exact hsh
          exact t_ise cx htr d_1_31_44 d_1_31_47 d_1_31_48 d_1_31_51  ⟨Nat.le_of_ble_eq_true rfl, Nat.le_of_ble_eq_true rfl⟩ (Nat.le_of_ble_eq_true rfl) ⟨Nat.le_of_ble_eq_true rfl, Nat.le_of_ble_eq_true rfl⟩ (fun x hx hz => thrA (-2) (Or.inr ⟨rfl, rfl⟩) hT hE hx hz (Or.inl ⟨hor, rfl, Or.inl ⟨rfl, hs9⟩⟩) hQ)
    · skip
      have hn9 : ¬ CE n (ln 9) cd (kc 9) := by
        rcases xb14 with z | z
        · exact absurd c17 (by rw [z.1]; decide)
        · exact z.2
      exact t_iae cx htr d_1_31_20 d_1_31_23 d_1_31_24 d_1_31_27  ⟨Nat.le_of_ble_eq_true rfl, Nat.le_of_ble_eq_true rfl⟩ (Nat.le_of_ble_eq_true rfl) ⟨Nat.le_of_ble_eq_true rfl, Nat.le_of_ble_eq_true rfl⟩ (fun x hx hz => thrA (-1) (Or.inl ⟨rfl, rfl⟩) hT hE hx hz (Or.inr ⟨⟨hn8, hn9⟩, rfl, rfl⟩) hQ)
end F5
