/-! The class: texts and lines. -/
section TPD
variable {D : va_G} {z0 : Nat} {k : Nat → Nat} {K K' : KM} {B T : Nat} {h h' : hp} {a : Nat} {X : Nat → Prop}
theorem TP.desk (t : TP D z0 k K B T h) (ha : Ty K h 1 a) {ab : Nat} (hab : (K a).2.1 = ab) : ∃ la lr tr tn : Nat, h.2 a = .inr (0, [.ref ab, .ref la, .ref lr, .ref tr, .int (nI tn)]) ∧ Ty K h 25 la ∧ Ty K h 26 lr ∧ Ty K h 50 tr ∧ tn ≤ T ∧ lr = (K a).2.2 ∧ la = (K lr).2.1 := by
  subst hab
  exact TP.o (κ := 1) t ha
theorem Ev.ab (ev : Ev k X K h K' h') {κ ab : Nat} (ha : Ty K h (κ + 1) a) (hab : (K a).2.1 = ab) : (K' a).2.1 = ab := by
  obtain ⟨-, a2, -⟩ := ev.1 a ha.1
  have hk : (K a).1 = κ + 1 := ha.2
  exact (a2 (by omega)).2.1.trans hab
theorem BK.mv {S : Nat → Prop} {ab v c0 cap cd : Nat} (b : BK D K h S ab v c0 cap cd) (ev : Ev k X K h K' h') (hX : ∀ z, (K z).1 = 99 → ¬ X z) : BK D K' h' S ab v c0 cap cd := by
  obtain ⟨b1, b2, b3, b4, b5, b6⟩ := b
  obtain ⟨c1, c2, c3⟩ := Bd.kept b1 ev b2 b3 (hX _ b2) (hX _ b3)
  exact ⟨c1, c2, c3, fun z hz => (ev.1 z (b4 z hz)).1, b5, b6⟩
theorem x99 : ∀ z, (K z).1 = 99 → ¬ XD K z := fun z hz y => y.elim id (fun w => w.2 hz)
theorem BK.mvD {S : Nat → Prop} {ab v c0 cap cd : Nat} (b : BK D K h S ab v c0 cap cd) (ev : Ev k (XD K) K h K' h') : BK D K' h' S ab v c0 cap cd := b.mv ev x99
theorem xw {e : Nat → Prop} (ev : Ev k (XD K) K h K' h') : Ev k (XP e PK K) K h K' h' := ev.wk (fun _ _ y => y.elim (fun w => w.elim) (fun w => Or.inr w))
theorem xwN {e : Nat → Prop} (ev : Ev k (XN K) K h K' h') : Ev k (XP e PN K) K h K' h' := ev.wk (fun _ _ y => y.elim (fun w => w.elim) (fun w => Or.inr w))
theorem tq_nd {e : Nat → Prop} {Rel : Outcome → KM → hp → Prop} {o : Outcome} {h1 : hp} (q : TQ D z0 k K h B T (XP e PN K) Rel o h1) : TQ D z0 k K h B T (XP e PK K) Rel o h1 := by
  obtain ⟨K2, t, ev, r⟩ := q
  exact ⟨K2, t, xnd ev, r⟩
theorem xab {ab : Nat} {P : Nat → Prop} (ev : Ev k (fun z => z = ab) K h K' h') : Ev k (XP (fun z => z = ab) P K) K h K' h' := ev.wk (fun _ _ y => Or.inl y)
theorem thrX {K0 : KM} {h0 : hp} {x ci : Nat} {S : Nat → Prop} (hS : S ci) (hT : TP D z0 k K B T h) (hE : Ev k X K0 h0 K h) (hx : x ∉ h.1) (hz : z0 ≤ x) : TQ D z0 k K0 h0 B T X (RT S) (.threw x) (h.1 ++ [x], va_up h.2 x (.inr (ci, []))) :=
  ⟨_, hT.frz hx hz, hE.tr (Ev.push hT hx hz), Or.inr ⟨x, ci, rfl, List.mem_append_right _ (List.mem_singleton.mpr rfl), hS, va_up_self _ _ _⟩⟩
theorem thrP {K0 : KM} {h0 h1 : hp} {e P : Nat → Prop} {o : Outcome} {Rel : Outcome → KM → hp → Prop} (hE : Ev k (XP e P K0) K0 h0 K h) (q : TQ D z0 k K h B T (XP e P K) Rel o h1) : TQ D z0 k K0 h0 B T (XP e P K0) Rel o h1 := by
  obtain ⟨K2, t, ev, r⟩ := q
  exact ⟨K2, t, Ev.trP hE ev, r⟩
theorem rt_int {S : Nat → Prop} {v : Option Value} (r : RT S (.returned v) K h) : ∃ x : Int32, v = some (.int x) := by
  rcases r with ⟨x, e⟩ | ⟨x, c, e, -⟩
  · cases e
    exact ⟨x, rfl⟩
  · cases e
def RL (D : va_G) (S R : Nat → Prop) (ab : Nat) : Outcome → KM → hp → Prop := fun o K' h' => RT R o K' h' ∧ ∃ v' cap', BK D K' h' S ab v' 0 cap' 0
theorem lineOut {K0 : KM} {h0 h1 : hp} {e S R : Nat → Prop} {o : Outcome} {ab v cap : Nat} (hE : Ev k (XP e PK K0) K0 h0 K h) (hbk : BK D K h S ab v 0 cap 0) (q : TQ D z0 k K h B T (XD K) (RT R) o h1) : TQ D z0 k K0 h0 B T (XP e PK K0) (RL D S R ab) o h1 := by
  obtain ⟨K2, t, ev, r⟩ := q
  exact ⟨K2, t, Ev.trP hE (xw ev), r, v, cap, hbk.mvD ev⟩
theorem lineOutN {K0 : KM} {h0 h1 : hp} {e S R : Nat → Prop} {o : Outcome} {ab v cap : Nat} (hE : Ev k (XP e PN K0) K0 h0 K h) (hbk : BK D K h S ab v 0 cap 0) (q : TQ D z0 k K h B T (XN K) (RT R) o h1) : TQ D z0 k K0 h0 B T (XP e PN K0) (RL D S R ab) o h1 := by
  obtain ⟨K2, t, ev, r⟩ := q
  exact ⟨K2, t, Ev.trP hE (xwN ev), r, v, cap, hbk.mvD (xnd ev)⟩
end TPD
section C2
variable {l : Launch} {D : va_G} {z0 : Nat} {k : Nat → Nat} {K : KM} {B T : Nat}
set_option maxHeartbeats 8000000 in
theorem tc_isName {w n : Nat} : TC l y_130 prog_1_method_15_code 4 (Option.some Jvm.ClassFile.FieldType.boolean) (rmT 9 62 1240) D z0 k [.ref w] K (B) (T) (fun h => Tw k K h w n) (B) (T) (X0) (fun o _ _ => ∃ x : Int32, o = .returned (some (.int x)) ∧ (x = 0 ∨ x = 1) ∧ (n = 0 → x = 0)) := by
  refine tc_of (by decide) (Nat.le_of_ble_eq_true rfl) ?_
  intro h hT hp p e s m args below meth c cx hnm
  have hE : Ev k (X0) K h K h := Ev.rf
  have hle := Tw.le hp hT
  have hw := hp
  clear hp
  have lp : ∀ (n0 j : Nat) (st : Nat) (wd : Int32) (K1 : KM) (h1 : hp) (rc rs : Nat), (n + 1) - j < n0 → j ≤ (n + 1) → TP D z0 k K1 (B) (T) h1 → Ev k (X0) K h K1 h1 → st ≤ j → Tw k K1 h1 w n → (n = 0 → j = 0) → 2 * (n + 1 - j) ≤ rc → 40 * (n + 1 - j) ≤ rs → G p l e (rmT 9 62 1240) s m args below meth c 4 D z0 (EE z0 k) (TQ D z0 k K h (B) (T) (X0) (fun o _ _ => ∃ x : Int32, o = .returned (some (.int x)) ∧ (x = 0 ∨ x = 1) ∧ (n = 0 → x = 0))) (62) (1240) 6 [(3, .int (nI j)), (2, .int (nI st)), (1, .int wd), (0, .ref w)] [] h1 rc rs := by
    clear hT hE hw
    intro n0
    induction n0 with
    | zero => intro j _ _ _ _ _ _ hj; exact absurd hj (Nat.not_lt_zero _)
    | succ n0 ih =>
      intro j st wd K h rc rs hj0 hjn hT hE hst hw hz hc1 hc2
      refine g_iload_n cx 0 d_1_15_6 rfl rfl ?_
      refine g_aload_n cx 3 d_1_15_7 rfl rfl ?_
      obtain ⟨v8, hs8⟩ := TP.str hT hw
      refine g_pcVS cx (As := []) (n := 0) (pj_length (n := n)) d_1_15_8 t_519 t_391 t_392 t_4 t_393 rfl (by decide +kernel) rfl hs8 ⟨_, hs8⟩ ⟨Nat.le_of_ble_eq_true rfl, Nat.le_of_ble_eq_true rfl⟩ (Nat.le_of_ble_eq_true rfl) (fun v8 r8 => ?_)
      subst r8
      refine g_icmp_gt cx d_1_15_11 rfl (fun c11 => ?_) (fun c11 => ?_)
      · skip
        refine g_iload_n cx 2 d_1_15_59 rfl rfl ?_
        refine g_iconst cx (v := 3) d_1_15_60 (by decide) ?_
        refine g_icmp_gt cx d_1_15_61 rfl (fun c61 => ?_) (fun c61 => ?_)
        · skip
          refine g_iconst cx (v := 0) d_1_15_68 (by decide) ?_
          exact g_iret cx d_1_15_69 rfl rfl ⟨K, hT, hE, _, rfl, Or.inl rfl, fun _ => rfl⟩
        · skip
          refine g_iconst cx (v := 1) d_1_15_64 (by decide) ?_
          refine g_goto cx d_1_15_65 rfl ?_
          exact g_iret cx d_1_15_69 rfl rfl ⟨K, hT, hE, _, rfl, Or.inr rfl, fun z => absurd (hz z) (by have := (nI_ltI (by omega) (by omega)).mp c11; omega)⟩
      · skip
        have hjn2 : j ≤ n := Nat.le_of_not_lt (fun q => c11 (nI_lt q (by omega)))
        refine g_iload_n cx 0 d_1_15_14 rfl rfl ?_
        refine g_aload_n cx 3 d_1_15_15 rfl rfl ?_
        obtain ⟨v16, hs16⟩ := TP.str hT hw
        refine g_pcVS cx (As := []) (n := 0) (pj_length (n := n)) d_1_15_16 t_519 t_391 t_392 t_4 t_393 rfl (by decide +kernel) rfl hs16 ⟨_, hs16⟩ ⟨Nat.le_of_ble_eq_true rfl, Nat.le_of_ble_eq_true rfl⟩ (Nat.le_of_ble_eq_true rfl) (fun v16 r16 => ?_)
        subst r16
        refine g_icmp_eq cx d_1_15_19 rfl (fun c19 => ?_) (fun c19 => ?_)
        · skip
          refine g_aload_n cx 3 d_1_15_32 rfl rfl ?_
          refine g_iload_n cx 1 d_1_15_33 rfl rfl ?_
          refine g_iload_n cx 0 d_1_15_34 rfl rfl ?_
          obtain ⟨cd35, hc35⟩ := TP.tc hT hw
          obtain ⟨v35, hs35⟩ := TP.str hT hc35.1
          refine g_callVS cx (As := [.int (nI st), .int (nI j)]) (n := 2) (tj_substring (cd := cd35) (n := n) (bg := st) (en := j) hst hjn2) d_1_15_35 t_537 t_538 t_539 t_4 t_540 rfl (by decide +kernel) rfl hs35 ⟨rfl, hT, hc35⟩ ⟨Nat.le_of_ble_eq_true rfl, Nat.le_of_ble_eq_true rfl⟩ (Nat.le_of_ble_eq_true rfl) ⟨by show 2 ≤ rc; omega, by show 40 ≤ rs; omega⟩ (fun v35 h r35 => ?_) (fun x35 h r35 => by obtain ⟨K9, -, -, r9, e9, -⟩ := r35; cases e9)
          obtain ⟨K, hT, ev, rel35⟩ := r35
          obtain ⟨z35, e35, hx35⟩ := rel35
          cases e35
          have hw := Ev.tx ev hw
          replace hE := hE.tr ev
          have hxt35 := hx35.1
          obtain ⟨vs38, hss38⟩ := TP.str hT hxt35
          refine g_pcS cx (As := [.ref z35]) (n := 1) (pc_isWord (n := (j - st))) d_1_15_38 t_665 t_666 t_1 t_667 ⟨by decide, by decide, by decide +kernel⟩ rfl ⟨_, hss38⟩ ⟨Nat.le_of_ble_eq_true rfl, Nat.le_of_ble_eq_true rfl⟩ (Nat.le_of_ble_eq_true rfl) (fun v38 r38 => ?_)
          obtain ⟨x38, rfl, xb38, xz38⟩ := r38
          refine g_if_ne cx d_1_15_41 rfl (fun c41 => ?_) (fun c41 => ?_)
          · skip
            refine g_iinc cx 2 (lv' := [(1, .int (wd + Int32.ofInt 1)), (3, .int (nI j)), (2, .int (nI st)), (0, .ref w)]) d_1_15_46 rfl rfl (by decide) rfl ?_
            refine g_iload_n cx 1 d_1_15_49 rfl rfl ?_
            refine g_iconst cx (v := 1) d_1_15_50 (by decide) ?_
            refine g_iadd cx d_1_15_51 ?_
            refine g_topi (fun s2 es2 => ?_)
            obtain rfl : s2 = nI (j + 1) := es2.trans (nI_1 j)
            refine g_istore_n cx (lv' := [(2, .int (nI (j + 1))), (1, .int (wd + Int32.ofInt 1)), (3, .int (nI j)), (0, .ref w)]) d_1_15_52 rfl (by decide) rfl ?_
            refine g_iinc cx 2 (lv' := [(3, .int (nI (j + 1))), (2, .int (nI (j + 1))), (1, .int (wd + Int32.ofInt 1)), (0, .ref w)]) d_1_15_53 rfl (inc1 j) (by decide) rfl ?_
            refine g_goto cx d_1_15_56 rfl ?_
            exact ih (j + 1) (j + 1) _ K h _ _ (by omega) (by omega) hT hE (by omega) hw (fun z => absurd (xz38 (by have := hz z; omega)) c41) (by show 2 * (n + 1 - (j + 1)) ≤ rc - 2; omega) (by show 40 * (n + 1 - (j + 1)) ≤ rs - 40; omega)
          · skip
            refine g_iconst cx (v := 0) d_1_15_44 (by decide) ?_
            exact g_iret cx d_1_15_45 rfl rfl ⟨K, hT, hE, _, rfl, Or.inl rfl, fun _ => rfl⟩
        · skip
          have hjl : j < n := by
            have : j ≠ n := fun z => c19 (by rw [z])
            omega
          refine g_aload_n cx 3 d_1_15_22 rfl rfl ?_
          refine g_iload_n cx 0 d_1_15_23 rfl rfl ?_
          obtain ⟨v24, hs24⟩ := TP.str hT hw
          refine g_pcVS cx (As := [.int (nI j)]) (n := 1) (pj_charAt (n := n) (j := j) hjl) d_1_15_24 t_520 t_521 t_522 t_4 t_523 rfl (by decide +kernel) rfl hs24 ⟨_, hs24⟩ ⟨Nat.le_of_ble_eq_true rfl, Nat.le_of_ble_eq_true rfl⟩ (Nat.le_of_ble_eq_true rfl) (fun v24 r24 => ?_)
          obtain ⟨x24, rfl⟩ := r24
          refine g_bipush cx (v := 46) d_1_15_27 (by decide) ?_
          refine g_icmp_ne cx d_1_15_29 rfl (fun c29 => ?_) (fun c29 => ?_)
          · skip
            refine g_iinc cx 0 (lv' := [(3, .int (nI (j + 1))), (2, .int (nI st)), (1, .int wd), (0, .ref w)]) d_1_15_53 rfl (inc1 j) (by decide) rfl ?_
            refine g_goto cx d_1_15_56 rfl ?_
            exact ih (j + 1) st wd K h _ _ (by omega) (by omega) hT hE (by omega) hw (fun z => by omega) (by omega) (by omega)
          · skip
            refine g_aload_n cx 3 d_1_15_32 rfl rfl ?_
            refine g_iload_n cx 1 d_1_15_33 rfl rfl ?_
            refine g_iload_n cx 0 d_1_15_34 rfl rfl ?_
            obtain ⟨cd35, hc35⟩ := TP.tc hT hw
            obtain ⟨v35, hs35⟩ := TP.str hT hc35.1
            refine g_callVS cx (As := [.int (nI st), .int (nI j)]) (n := 2) (tj_substring (cd := cd35) (n := n) (bg := st) (en := j) hst hjn2) d_1_15_35 t_537 t_538 t_539 t_4 t_540 rfl (by decide +kernel) rfl hs35 ⟨rfl, hT, hc35⟩ ⟨Nat.le_of_ble_eq_true rfl, Nat.le_of_ble_eq_true rfl⟩ (Nat.le_of_ble_eq_true rfl) ⟨by show 2 ≤ rc; omega, by show 40 ≤ rs; omega⟩ (fun v35 h r35 => ?_) (fun x35 h r35 => by obtain ⟨K9, -, -, r9, e9, -⟩ := r35; cases e9)
            obtain ⟨K, hT, ev, rel35⟩ := r35
            obtain ⟨z35, e35, hx35⟩ := rel35
            cases e35
            have hw := Ev.tx ev hw
            replace hE := hE.tr ev
            have hxt35 := hx35.1
            obtain ⟨vs38, hss38⟩ := TP.str hT hxt35
            refine g_pcS cx (As := [.ref z35]) (n := 1) (pc_isWord (n := (j - st))) d_1_15_38 t_665 t_666 t_1 t_667 ⟨by decide, by decide, by decide +kernel⟩ rfl ⟨_, hss38⟩ ⟨Nat.le_of_ble_eq_true rfl, Nat.le_of_ble_eq_true rfl⟩ (Nat.le_of_ble_eq_true rfl) (fun v38 r38 => ?_)
            obtain ⟨x38, rfl, xb38, xz38⟩ := r38
            refine g_if_ne cx d_1_15_41 rfl (fun c41 => ?_) (fun c41 => ?_)
            · skip
              refine g_iinc cx 2 (lv' := [(1, .int (wd + Int32.ofInt 1)), (3, .int (nI j)), (2, .int (nI st)), (0, .ref w)]) d_1_15_46 rfl rfl (by decide) rfl ?_
              refine g_iload_n cx 1 d_1_15_49 rfl rfl ?_
              refine g_iconst cx (v := 1) d_1_15_50 (by decide) ?_
              refine g_iadd cx d_1_15_51 ?_
              refine g_topi (fun s2 es2 => ?_)
              obtain rfl : s2 = nI (j + 1) := es2.trans (nI_1 j)
              refine g_istore_n cx (lv' := [(2, .int (nI (j + 1))), (1, .int (wd + Int32.ofInt 1)), (3, .int (nI j)), (0, .ref w)]) d_1_15_52 rfl (by decide) rfl ?_
              refine g_iinc cx 2 (lv' := [(3, .int (nI (j + 1))), (2, .int (nI (j + 1))), (1, .int (wd + Int32.ofInt 1)), (0, .ref w)]) d_1_15_53 rfl (inc1 j) (by decide) rfl ?_
              refine g_goto cx d_1_15_56 rfl ?_
              exact ih (j + 1) (j + 1) _ K h _ _ (by omega) (by omega) hT hE (by omega) hw (fun z => absurd (xz38 (by have := hz z; omega)) c41) (by show 2 * (n + 1 - (j + 1)) ≤ rc - 2; omega) (by show 40 * (n + 1 - (j + 1)) ≤ rs - 40; omega)
            · skip
              refine g_iconst cx (v := 0) d_1_15_44 (by decide) ?_
              exact g_iret cx d_1_15_45 rfl rfl ⟨K, hT, hE, _, rfl, Or.inl rfl, fun _ => rfl⟩
  refine g_iconst cx (v := 0) d_1_15_0 (by decide) ?_
  refine g_istore_n cx (lv' := [(1, .int 0), (0, .ref w)]) d_1_15_1 rfl (by decide) rfl ?_
  refine g_iconst cx (v := 0) d_1_15_2 (by decide) ?_
  refine g_topi (fun s0 es0 => ?_)
  obtain rfl : s0 = nI 0 := es0
  refine g_istore_n cx (lv' := [(2, .int (nI 0)), (1, .int 0), (0, .ref w)]) d_1_15_3 rfl (by decide) rfl ?_
  refine g_iconst cx (v := 0) d_1_15_4 (by decide) ?_
  refine g_topi (fun j0 ej0 => ?_)
  obtain rfl : j0 = nI 0 := ej0
  refine g_istore_n cx (lv' := [(3, .int (nI 0)), (2, .int (nI 0)), (1, .int 0), (0, .ref w)]) d_1_15_5 rfl (by decide) rfl ?_
  exact lp (n + 2) 0 0 _ K h _ _ (by omega) (by omega) hT hE (Nat.le_refl _) hw (fun _ => rfl) (by show 2 * (n + 1 - 0) ≤ 62; omega) (by show 40 * (n + 1 - 0) ≤ 1240; omega)
set_option maxHeartbeats 8000000 in
theorem tc_liesIn {wa wb na nb : Nat} : TC l y_150 prog_1_method_16_code 3 (Option.some Jvm.ClassFile.FieldType.boolean) (rmT 9 2 40) D z0 k [.ref wa, .ref wb] K (B) (T) (fun h => Tw k K h wa na ∧ Tw k K h wb nb) (B) (T) (X0) (RetI) := by
  refine tc_of (by decide) (Nat.le_of_ble_eq_true rfl) ?_
  intro h hT hp p e s m args below meth c cx hnm
  have hE : Ev k (X0) K h K h := Ev.rf
  obtain ⟨hwa, hwb⟩ := hp
  have hle9 := Tw.le hwa hT
  have hle8 := Tw.le hwb hT
  refine g_aload_n cx 1 d_1_16_0 rfl rfl ?_
  obtain ⟨v1, hs1⟩ := TP.str hT hwb
  refine g_pcVS cx (As := []) (n := 0) (pj_length (n := nb)) d_1_16_1 t_519 t_391 t_392 t_4 t_393 rfl (by decide +kernel) rfl hs1 ⟨_, hs1⟩ ⟨Nat.le_of_ble_eq_true rfl, Nat.le_of_ble_eq_true rfl⟩ (Nat.le_of_ble_eq_true rfl) (fun v1 r1 => ?_)
  subst r1
  refine g_istore_n cx (lv' := [(2, .int (nI nb)), (0, .ref wa), (1, .ref wb)]) d_1_16_4 rfl (by decide) rfl ?_
  refine g_aload_n cx 1 d_1_16_5 rfl rfl ?_
  obtain ⟨v6, hs6⟩ := TP.str hT hwa
  refine g_pcVS cx (As := []) (n := 0) (pj_length (n := na)) d_1_16_6 t_519 t_391 t_392 t_4 t_393 rfl (by decide +kernel) rfl hs6 ⟨_, hs6⟩ ⟨Nat.le_of_ble_eq_true rfl, Nat.le_of_ble_eq_true rfl⟩ (Nat.le_of_ble_eq_true rfl) (fun v6 r6 => ?_)
  subst r6
  refine g_iload_n cx 0 d_1_16_9 rfl rfl ?_
  refine g_icmp_lt cx d_1_16_10 rfl (fun c10 => ?_) (fun c10 => ?_)
  · skip
    refine g_iconst cx (v := 0) d_1_16_26 (by decide) ?_
    exact g_iret cx d_1_16_27 rfl rfl ⟨K, hT, hE, _, rfl⟩
  · skip
    have hle2 : nb ≤ na := Nat.le_of_not_lt (fun q => c10 (nI_lt q (by omega)))
    refine g_aload_n cx 1 d_1_16_13 rfl rfl ?_
    refine g_iconst cx (v := 0) d_1_16_14 (by decide) ?_
    refine g_iload_n cx 0 d_1_16_15 rfl rfl ?_
    obtain ⟨cd16, hc16⟩ := TP.tc hT hwa
    obtain ⟨v16, hs16⟩ := TP.str hT hc16.1
    refine g_callVS cx (As := [.int 0, .int (nI nb)]) (n := 2) (tj_substring (cd := cd16) (n := na) (bg := 0) (en := nb) (Nat.zero_le _) hle2) d_1_16_16 t_537 t_538 t_539 t_4 t_540 rfl (by decide +kernel) rfl hs16 ⟨rfl, hT, hc16⟩ ⟨Nat.le_of_ble_eq_true rfl, Nat.le_of_ble_eq_true rfl⟩ (Nat.le_of_ble_eq_true rfl) ⟨Nat.le_of_ble_eq_true rfl, Nat.le_of_ble_eq_true rfl⟩ (fun v16 h r16 => ?_) (fun x16 h r16 => by obtain ⟨K9, -, -, r9, e9, -⟩ := r16; cases e9)
    obtain ⟨K, hT, ev, rel16⟩ := r16
    obtain ⟨z16, e16, hx16⟩ := rel16
    cases e16
    have hwa := Ev.tx ev hwa
    have hwb := Ev.tx ev hwb
    replace hE := hE.tr ev
    have hxt16 := hx16.1
    refine g_aload_n cx 2 d_1_16_19 rfl rfl ?_
    obtain ⟨v20, hs20⟩ := TP.str hT hxt16
    obtain ⟨va20, ha20⟩ := TP.str hT hwb
    refine g_pcVS cx (As := [.ref wb]) (n := 1) (pj_equals (n := (nb - 0)) (n' := nb)) d_1_16_20 t_491 t_492 t_493 t_4 t_494 rfl (by decide +kernel) rfl hs20 ⟨⟨_, hs20⟩, ⟨_, ha20⟩⟩ ⟨Nat.le_of_ble_eq_true rfl, Nat.le_of_ble_eq_true rfl⟩ (Nat.le_of_ble_eq_true rfl) (fun v20 r20 => ?_)
    obtain ⟨x20, rfl, xb20⟩ := r20
    refine g_if_ne cx d_1_16_23 rfl (fun c23 => ?_) (fun c23 => ?_)
    · skip
      refine g_aload_n cx 1 d_1_16_28 rfl rfl ?_
      obtain ⟨v29, hs29⟩ := TP.str hT hwa
      refine g_pcVS cx (As := []) (n := 0) (pj_length (n := na)) d_1_16_29 t_519 t_391 t_392 t_4 t_393 rfl (by decide +kernel) rfl hs29 ⟨_, hs29⟩ ⟨Nat.le_of_ble_eq_true rfl, Nat.le_of_ble_eq_true rfl⟩ (Nat.le_of_ble_eq_true rfl) (fun v29 r29 => ?_)
      subst r29
      refine g_iload_n cx 0 d_1_16_32 rfl rfl ?_
      refine g_icmp_eq cx d_1_16_33 rfl (fun c33 => ?_) (fun c33 => ?_)
      · skip
        refine g_iconst cx (v := 1) d_1_16_46 (by decide) ?_
        refine g_goto cx d_1_16_47 rfl ?_
        exact g_iret cx d_1_16_51 rfl rfl ⟨K, hT, hE, _, rfl⟩
      · skip
        have hlt : nb < na := by
          have : na ≠ nb := fun z => c33 (by rw [z])
          omega
        refine g_aload_n cx 1 d_1_16_36 rfl rfl ?_
        refine g_iload_n cx 0 d_1_16_37 rfl rfl ?_
        obtain ⟨v38, hs38⟩ := TP.str hT hwa
        refine g_pcVS cx (As := [.int (nI nb)]) (n := 1) (pj_charAt (n := na) (j := nb) hlt) d_1_16_38 t_520 t_521 t_522 t_4 t_523 rfl (by decide +kernel) rfl hs38 ⟨_, hs38⟩ ⟨Nat.le_of_ble_eq_true rfl, Nat.le_of_ble_eq_true rfl⟩ (Nat.le_of_ble_eq_true rfl) (fun v38 r38 => ?_)
        obtain ⟨x38, rfl⟩ := r38
        refine g_bipush cx (v := 46) d_1_16_41 (by decide) ?_
        refine g_icmp_ne cx d_1_16_43 rfl (fun c43 => ?_) (fun c43 => ?_)
        · skip
          refine g_iconst cx (v := 0) d_1_16_50 (by decide) ?_
          exact g_iret cx d_1_16_51 rfl rfl ⟨K, hT, hE, _, rfl⟩
        · skip
          refine g_iconst cx (v := 1) d_1_16_46 (by decide) ?_
          refine g_goto cx d_1_16_47 rfl ?_
          exact g_iret cx d_1_16_51 rfl rfl ⟨K, hT, hE, _, rfl⟩
    · skip
      refine g_iconst cx (v := 0) d_1_16_26 (by decide) ?_
      exact g_iret cx d_1_16_27 rfl rfl ⟨K, hT, hE, _, rfl⟩
set_option maxHeartbeats 8000000 in
theorem tc_split {w n : Nat} : TC l y_101 prog_1_method_13_code 4 (Option.some (Jvm.ClassFile.FieldType.object "java/util/ArrayList")) (rmT 10 65 1603) D z0 k [.ref w] K (B) (T) (fun h => Tw k K h w n) (B) (T) (XN K) (fun o K' h' => ∃ r : Nat, o = .returned (some (.ref r)) ∧ Ty K' h' 24 r) := by
  refine tc_of (by decide) (Nat.le_of_ble_eq_true rfl) ?_
  intro h hT hp p e s m args below meth c cx hnm
  have hE : Ev k (XN K) K h K h := Ev.rf
  have hle := Tw.le hp hT
  have hw := hp
  clear hp
  have lp : ∀ (n0 j : Nat) (st nc q0 : Nat) (K1 : KM) (h1 : hp) (rc rs : Nat), (n + 1) - j < n0 → j ≤ (n + 1) → TP D z0 k K1 (B) (T) h1 → Ev k (XN K) K h K1 h1 → st ≤ j → Tw k K1 h1 w n → Ty K1 h1 24 q0 → (K1 q0).2.2 = nc → nc ≤ j → 2 * (n + 2 - st) ≤ rc → 50 * (n + 2 - st) ≤ rs → G p l e (rmT 10 65 1603) s m args below meth c 4 D z0 (EE z0 k) (TQ D z0 k K h (B) (T) (XN K) (fun o K' h' => ∃ r : Nat, o = .returned (some (.ref r)) ∧ Ty K' h' 24 r)) (65) (1603) 12 [(3, .int (nI j)), (2, .int (nI st)), (1, .ref q0), (0, .ref w)] [] h1 rc rs := by
    clear hT hE hw
    intro n0
    induction n0 with
    | zero => intro j _ _ _ _ _ _ _ hj; exact absurd hj (Nat.not_lt_zero _)
    | succ n0 ih =>
      intro j st nc q0 K h rc rs hj0 hjn hT hE hst hw hq hnc hncj hc1 hc2
      refine g_iload_n cx 0 d_1_13_12 rfl rfl ?_
      refine g_aload_n cx 3 d_1_13_13 rfl rfl ?_
      obtain ⟨v14, hs14⟩ := TP.str hT hw
      refine g_pcVS cx (As := []) (n := 0) (pj_length (n := n)) d_1_13_14 t_519 t_391 t_392 t_4 t_393 rfl (by decide +kernel) rfl hs14 ⟨_, hs14⟩ ⟨Nat.le_of_ble_eq_true rfl, Nat.le_of_ble_eq_true rfl⟩ (Nat.le_of_ble_eq_true rfl) (fun v14 r14 => ?_)
      subst r14
      refine g_icmp_gt cx d_1_13_17 rfl (fun c17 => ?_) (fun c17 => ?_)
      · skip
        refine g_aload_n cx 2 d_1_13_71 rfl rfl ?_
        exact g_aret cx d_1_13_72 rfl (Or.inl ⟨_, rfl⟩) (Or.inr ⟨_, rfl⟩) ⟨K, hT, hE, _, rfl, hq⟩
      · skip
        have hjn2 : j ≤ n := Nat.le_of_not_lt (fun q => c17 (nI_lt q (by omega)))
        refine g_iload_n cx 0 d_1_13_20 rfl rfl ?_
        refine g_aload_n cx 3 d_1_13_21 rfl rfl ?_
        obtain ⟨v22, hs22⟩ := TP.str hT hw
        refine g_pcVS cx (As := []) (n := 0) (pj_length (n := n)) d_1_13_22 t_519 t_391 t_392 t_4 t_393 rfl (by decide +kernel) rfl hs22 ⟨_, hs22⟩ ⟨Nat.le_of_ble_eq_true rfl, Nat.le_of_ble_eq_true rfl⟩ (Nat.le_of_ble_eq_true rfl) (fun v22 r22 => ?_)
        subst r22
        refine g_icmp_eq cx d_1_13_25 rfl (fun c25 => ?_) (fun c25 => ?_)
        · skip
          refine g_iload_n cx 1 d_1_13_38 rfl rfl ?_
          refine g_iload_n cx 0 d_1_13_39 rfl rfl ?_
          refine g_icmp_ge cx d_1_13_40 rfl (fun c40 => ?_) (fun c40 => ?_)
          · skip
            refine g_iload_n cx 0 d_1_13_61 rfl rfl ?_
            refine g_iconst cx (v := 1) d_1_13_62 (by decide) ?_
            refine g_iadd cx d_1_13_63 ?_
            refine g_topi (fun s2 es2 => ?_)
            obtain rfl : s2 = nI (j + 1) := es2.trans (nI_1 j)
            refine g_istore_n cx (lv' := [(2, .int (nI (j + 1))), (3, .int (nI j)), (1, .ref q0), (0, .ref w)]) d_1_13_64 rfl (by decide) rfl ?_
            refine g_iinc cx 1 (lv' := [(3, .int (nI (j + 1))), (2, .int (nI (j + 1))), (1, .ref q0), (0, .ref w)]) d_1_13_65 rfl (inc1 j) (by decide) rfl ?_
            refine g_goto cx d_1_13_68 rfl ?_
            exact ih (j + 1) (j + 1) (nc) q0 K h _ _ (by omega) (by omega) hT hE (by omega) hw hq hnc (by omega) (by omega) (by omega)
          · skip
            have hsj : st < j := Nat.lt_of_not_le (fun q => c40 (nI_le q (by omega)))
            refine g_aload_n cx 2 d_1_13_43 rfl rfl ?_
            refine g_new cx (ci := 4) (fs := [.null]) d_1_13_44 in4 ty4_ok t_535 t_536 t_21 rfl (by decide) ⟨by omega, by omega⟩ (fun q44 hq44 hz44 => ?_)
            have hN44 := Ev.nin hE hq44
            have ne_44_q0 : ¬ q0 = q44 := fun z => hq44 (z ▸ hq.1)
            refine t_raw hT hq44 hz44 (fun K h hT ev hr44 hm44 he44 hol44 => ?_)
            replace hnc := (congrArg (fun z => z.2.2) ((ev.1 q0 hq.1).2.2 id).1).trans hnc
            have hq := Ev.ty ev hq
            have hw := Ev.tx ev hw
            replace hE := hE.tr ev
            refine g_dup cx d_1_13_47 rfl ?_
            refine g_aload_n cx 3 d_1_13_48 rfl rfl ?_
            refine g_iload_n cx 1 d_1_13_49 rfl rfl ?_
            refine g_iload_n cx 0 d_1_13_50 rfl rfl ?_
            obtain ⟨cd51, hc51⟩ := TP.tc hT hw
            obtain ⟨v51, hs51⟩ := TP.str hT hc51.1
            refine g_callVS cx (As := [.int (nI st), .int (nI j)]) (n := 2) (tj_substring (cd := cd51) (n := n) (bg := st) (en := j) (by omega) hjn2) d_1_13_51 t_537 t_538 t_539 t_4 t_540 rfl (by decide +kernel) rfl hs51 ⟨rfl, hT, hc51⟩ ⟨Nat.le_of_ble_eq_true rfl, Nat.le_of_ble_eq_true rfl⟩ (Nat.le_of_ble_eq_true rfl) ⟨by show 2 ≤ rc - 1; omega, by show 40 ≤ rs - 1; omega⟩ (fun v51 h r51 => ?_) (fun x51 h r51 => by obtain ⟨K9, -, -, r9, e9, -⟩ := r51; cases e9)
            obtain ⟨K, hT, ev, rel51⟩ := r51
            obtain ⟨z51, e51, hx51⟩ := rel51
            cases e51
            replace hnc := (congrArg (fun z => z.2.2) ((ev.1 q0 hq.1).2.2 id).1).trans hnc
            have hq := Ev.ty ev hq
            have hw := Ev.tx ev hw
            obtain ⟨hr44, hm44, he44⟩ := Ev.rawm ev hr44 hm44 he44
            replace hE := hE.tr ev
            have hxt51 := hx51.1
            refine g_callI cx (ret' := none) (As := [.ref z51]) (n := 1) (tc_text (n := (j - st))) d_1_13_54 t_561 t_562 t_21 t_563 rfl ⟨by decide, by decide, by decide +kernel⟩ rfl ⟨rfl, hT, ⟨⟨hr44, hm44, he44⟩, hxt51⟩⟩ ⟨Nat.le_of_ble_eq_true rfl, Nat.le_of_ble_eq_true rfl⟩ (Nat.le_of_ble_eq_true rfl) ⟨Nat.zero_le _, Nat.zero_le _⟩ (fun v54 h r54 => ?_) (fun x54 h r54 => by obtain ⟨K9, -, -, e9⟩ := r54; cases e9.1)
            obtain ⟨K, hT, ev, rel54⟩ := r54
            obtain ⟨e54, hn54, hnw54, hnz54⟩ := rel54
            cases e54
            replace hnc := (congrArg (fun z => z.2.2) ((ev.1 q0 hq.1).2.2 ne_44_q0).1).trans hnc
            have hq := Ev.ty ev hq
            have hw := Ev.tx ev hw
            have hxt51 := Ev.tx ev hxt51
            have hx51 := Ev.tc ev hx51
            replace hE := hE.trN hN44 ev
            obtain ⟨⟨ea57, mo57, hm57, hl57⟩, hb57⟩ := TP.n24 hT hq
            refine g_callV cx (As := [.ref q44]) (n := 1) (tj_add (B := B) (n := nc) (ce := 4) (g := 58) (by decide) (by rw [show bd (4 + 20) B = 40 from rfl]; omega) (by omega) (by rw [show bd (4 + 20) B = 40 from rfl]; omega)) d_1_13_57 t_571 t_572 t_573 t_8 t_574 ⟨by decide, by decide, by decide +kernel⟩ rfl (ci := 2) rfl hm57 hl57 ⟨rfl, hT, hq, hn54, hnc⟩ ⟨Nat.le_of_ble_eq_true rfl, Nat.le_of_ble_eq_true rfl⟩ (Nat.le_of_ble_eq_true rfl) ⟨by show 1 ≤ rc - 1 - 2 - 0; omega, by show 58 ≤ rs - 1 - 40 - 0; omega⟩ (fun v57 h r57 => ?_) (fun x57 h r57 => by obtain ⟨K9, -, -, e9, -⟩ := r57; cases e9)
            obtain ⟨K, hT, ev, e57, hnew57⟩ := r57
            cases e57
            have evr := ev
            replace ev := xn_add (e := X0) (ce := 4) (by decide) hq ev
            have hq := Ev.ty ev hq
            have hw := Ev.tx ev hw
            replace hE := Ev.trP hE ev
            refine g_pop cx d_1_13_60 rfl ?_
            refine g_iload_n cx 0 d_1_13_61 rfl rfl ?_
            refine g_iconst cx (v := 1) d_1_13_62 (by decide) ?_
            refine g_iadd cx d_1_13_63 ?_
            refine g_topi (fun s2 es2 => ?_)
            obtain rfl : s2 = nI (j + 1) := es2.trans (nI_1 j)
            refine g_istore_n cx (lv' := [(2, .int (nI (j + 1))), (3, .int (nI j)), (1, .ref q0), (0, .ref w)]) d_1_13_64 rfl (by decide) rfl ?_
            refine g_iinc cx 1 (lv' := [(3, .int (nI (j + 1))), (2, .int (nI (j + 1))), (1, .ref q0), (0, .ref w)]) d_1_13_65 rfl (inc1 j) (by decide) rfl ?_
            refine g_goto cx d_1_13_68 rfl ?_
            exact ih (j + 1) (j + 1) (nc + 1) q0 K h _ _ (by omega) (by omega) hT hE (by omega) hw hq hnew57 (by omega) (by show 2 * (n + 2 - (j + 1)) ≤ rc - 1 - 2 - 0 - 1; omega) (by show 50 * (n + 2 - (j + 1)) ≤ rs - 1 - 40 - 0 - 58; omega)
        · skip
          have hjl : j < n := by
            have : j ≠ n := fun z => c25 (by rw [z])
            omega
          refine g_aload_n cx 3 d_1_13_28 rfl rfl ?_
          refine g_iload_n cx 0 d_1_13_29 rfl rfl ?_
          obtain ⟨v30, hs30⟩ := TP.str hT hw
          refine g_pcVS cx (As := [.int (nI j)]) (n := 1) (pj_charAt (n := n) (j := j) hjl) d_1_13_30 t_520 t_521 t_522 t_4 t_523 rfl (by decide +kernel) rfl hs30 ⟨_, hs30⟩ ⟨Nat.le_of_ble_eq_true rfl, Nat.le_of_ble_eq_true rfl⟩ (Nat.le_of_ble_eq_true rfl) (fun v30 r30 => ?_)
          obtain ⟨x30, rfl⟩ := r30
          refine g_bipush cx (v := 32) d_1_13_33 (by decide) ?_
          refine g_icmp_ne cx d_1_13_35 rfl (fun c35 => ?_) (fun c35 => ?_)
          · skip
            refine g_iinc cx 0 (lv' := [(3, .int (nI (j + 1))), (2, .int (nI st)), (1, .ref q0), (0, .ref w)]) d_1_13_65 rfl (inc1 j) (by decide) rfl ?_
            refine g_goto cx d_1_13_68 rfl ?_
            exact ih (j + 1) st (nc) q0 K h _ _ (by omega) (by omega) hT hE (by omega) hw hq hnc (by omega) (by omega) (by omega)
          · skip
            refine g_iload_n cx 1 d_1_13_38 rfl rfl ?_
            refine g_iload_n cx 0 d_1_13_39 rfl rfl ?_
            refine g_icmp_ge cx d_1_13_40 rfl (fun c40 => ?_) (fun c40 => ?_)
            · skip
              refine g_iload_n cx 0 d_1_13_61 rfl rfl ?_
              refine g_iconst cx (v := 1) d_1_13_62 (by decide) ?_
              refine g_iadd cx d_1_13_63 ?_
              refine g_topi (fun s2 es2 => ?_)
              obtain rfl : s2 = nI (j + 1) := es2.trans (nI_1 j)
              refine g_istore_n cx (lv' := [(2, .int (nI (j + 1))), (3, .int (nI j)), (1, .ref q0), (0, .ref w)]) d_1_13_64 rfl (by decide) rfl ?_
              refine g_iinc cx 1 (lv' := [(3, .int (nI (j + 1))), (2, .int (nI (j + 1))), (1, .ref q0), (0, .ref w)]) d_1_13_65 rfl (inc1 j) (by decide) rfl ?_
              refine g_goto cx d_1_13_68 rfl ?_
              exact ih (j + 1) (j + 1) (nc) q0 K h _ _ (by omega) (by omega) hT hE (by omega) hw hq hnc (by omega) (by omega) (by omega)
            · skip
              have hsj : st < j := Nat.lt_of_not_le (fun q => c40 (nI_le q (by omega)))
              refine g_aload_n cx 2 d_1_13_43 rfl rfl ?_
              refine g_new cx (ci := 4) (fs := [.null]) d_1_13_44 in4 ty4_ok t_535 t_536 t_21 rfl (by decide) ⟨by omega, by omega⟩ (fun q44 hq44 hz44 => ?_)
              have hN44 := Ev.nin hE hq44
              have ne_44_q0 : ¬ q0 = q44 := fun z => hq44 (z ▸ hq.1)
              refine t_raw hT hq44 hz44 (fun K h hT ev hr44 hm44 he44 hol44 => ?_)
              replace hnc := (congrArg (fun z => z.2.2) ((ev.1 q0 hq.1).2.2 id).1).trans hnc
              have hq := Ev.ty ev hq
              have hw := Ev.tx ev hw
              replace hE := hE.tr ev
              refine g_dup cx d_1_13_47 rfl ?_
              refine g_aload_n cx 3 d_1_13_48 rfl rfl ?_
              refine g_iload_n cx 1 d_1_13_49 rfl rfl ?_
              refine g_iload_n cx 0 d_1_13_50 rfl rfl ?_
              obtain ⟨cd51, hc51⟩ := TP.tc hT hw
              obtain ⟨v51, hs51⟩ := TP.str hT hc51.1
              refine g_callVS cx (As := [.int (nI st), .int (nI j)]) (n := 2) (tj_substring (cd := cd51) (n := n) (bg := st) (en := j) (by omega) hjn2) d_1_13_51 t_537 t_538 t_539 t_4 t_540 rfl (by decide +kernel) rfl hs51 ⟨rfl, hT, hc51⟩ ⟨Nat.le_of_ble_eq_true rfl, Nat.le_of_ble_eq_true rfl⟩ (Nat.le_of_ble_eq_true rfl) ⟨by show 2 ≤ rc - 1; omega, by show 40 ≤ rs - 1; omega⟩ (fun v51 h r51 => ?_) (fun x51 h r51 => by obtain ⟨K9, -, -, r9, e9, -⟩ := r51; cases e9)
              obtain ⟨K, hT, ev, rel51⟩ := r51
              obtain ⟨z51, e51, hx51⟩ := rel51
              cases e51
              replace hnc := (congrArg (fun z => z.2.2) ((ev.1 q0 hq.1).2.2 id).1).trans hnc
              have hq := Ev.ty ev hq
              have hw := Ev.tx ev hw
              obtain ⟨hr44, hm44, he44⟩ := Ev.rawm ev hr44 hm44 he44
              replace hE := hE.tr ev
              have hxt51 := hx51.1
              refine g_callI cx (ret' := none) (As := [.ref z51]) (n := 1) (tc_text (n := (j - st))) d_1_13_54 t_561 t_562 t_21 t_563 rfl ⟨by decide, by decide, by decide +kernel⟩ rfl ⟨rfl, hT, ⟨⟨hr44, hm44, he44⟩, hxt51⟩⟩ ⟨Nat.le_of_ble_eq_true rfl, Nat.le_of_ble_eq_true rfl⟩ (Nat.le_of_ble_eq_true rfl) ⟨Nat.zero_le _, Nat.zero_le _⟩ (fun v54 h r54 => ?_) (fun x54 h r54 => by obtain ⟨K9, -, -, e9⟩ := r54; cases e9.1)
              obtain ⟨K, hT, ev, rel54⟩ := r54
              obtain ⟨e54, hn54, hnw54, hnz54⟩ := rel54
              cases e54
              replace hnc := (congrArg (fun z => z.2.2) ((ev.1 q0 hq.1).2.2 ne_44_q0).1).trans hnc
              have hq := Ev.ty ev hq
              have hw := Ev.tx ev hw
              have hxt51 := Ev.tx ev hxt51
              have hx51 := Ev.tc ev hx51
              replace hE := hE.trN hN44 ev
              obtain ⟨⟨ea57, mo57, hm57, hl57⟩, hb57⟩ := TP.n24 hT hq
              refine g_callV cx (As := [.ref q44]) (n := 1) (tj_add (B := B) (n := nc) (ce := 4) (g := 58) (by decide) (by rw [show bd (4 + 20) B = 40 from rfl]; omega) (by omega) (by rw [show bd (4 + 20) B = 40 from rfl]; omega)) d_1_13_57 t_571 t_572 t_573 t_8 t_574 ⟨by decide, by decide, by decide +kernel⟩ rfl (ci := 2) rfl hm57 hl57 ⟨rfl, hT, hq, hn54, hnc⟩ ⟨Nat.le_of_ble_eq_true rfl, Nat.le_of_ble_eq_true rfl⟩ (Nat.le_of_ble_eq_true rfl) ⟨by show 1 ≤ rc - 1 - 2 - 0; omega, by show 58 ≤ rs - 1 - 40 - 0; omega⟩ (fun v57 h r57 => ?_) (fun x57 h r57 => by obtain ⟨K9, -, -, e9, -⟩ := r57; cases e9)
              obtain ⟨K, hT, ev, e57, hnew57⟩ := r57
              cases e57
              have evr := ev
              replace ev := xn_add (e := X0) (ce := 4) (by decide) hq ev
              have hq := Ev.ty ev hq
              have hw := Ev.tx ev hw
              replace hE := Ev.trP hE ev
              refine g_pop cx d_1_13_60 rfl ?_
              refine g_iload_n cx 0 d_1_13_61 rfl rfl ?_
              refine g_iconst cx (v := 1) d_1_13_62 (by decide) ?_
              refine g_iadd cx d_1_13_63 ?_
              refine g_topi (fun s2 es2 => ?_)
              obtain rfl : s2 = nI (j + 1) := es2.trans (nI_1 j)
              refine g_istore_n cx (lv' := [(2, .int (nI (j + 1))), (3, .int (nI j)), (1, .ref q0), (0, .ref w)]) d_1_13_64 rfl (by decide) rfl ?_
              refine g_iinc cx 1 (lv' := [(3, .int (nI (j + 1))), (2, .int (nI (j + 1))), (1, .ref q0), (0, .ref w)]) d_1_13_65 rfl (inc1 j) (by decide) rfl ?_
              refine g_goto cx d_1_13_68 rfl ?_
              exact ih (j + 1) (j + 1) (nc + 1) q0 K h _ _ (by omega) (by omega) hT hE (by omega) hw hq hnew57 (by omega) (by show 2 * (n + 2 - (j + 1)) ≤ rc - 1 - 2 - 0 - 1; omega) (by show 50 * (n + 2 - (j + 1)) ≤ rs - 1 - 40 - 0 - 58; omega)
  refine g_new cx (ci := 2) (fs := [.null, .int 0, .int 0]) d_1_13_0 in2 ty2_ok t_70 t_71 t_8 rfl (by decide) ⟨Nat.le_of_ble_eq_true rfl, Nat.le_of_ble_eq_true rfl⟩ (fun q0 hq0 hz0 => ?_)
  have hN0 := Ev.nin hE hq0
  refine t_raw hT hq0 hz0 (fun K h hT ev hr0 hm0 he0 hol0 => ?_)
  have hw := Ev.tx ev hw
  replace hE := hE.tr ev
  refine g_dup cx d_1_13_3 rfl ?_
  refine g_callI cx (ret' := none) (As := []) (n := 0) (tj_listInit (κ := 24) (tg := 0) (by decide)) d_1_13_4 t_72 t_73 t_8 t_74 rfl ⟨by decide, by decide, by decide +kernel⟩ rfl ⟨rfl, hT, ⟨hr0, hm0, he0⟩⟩ ⟨Nat.le_of_ble_eq_true rfl, Nat.le_of_ble_eq_true rfl⟩ (Nat.le_of_ble_eq_true rfl) ⟨Nat.le_of_ble_eq_true rfl, Nat.le_of_ble_eq_true rfl⟩ (fun v4 h r4 => ?_) (fun x4 h r4 => by obtain ⟨K9, -, -, e9⟩ := r4; cases e9.1)
  obtain ⟨K, hT, ev, rel4⟩ := r4
  obtain ⟨e4, hn4, hz04, htg4⟩ := rel4
  cases e4
  have hw := Ev.tx ev hw
  replace hE := hE.trN hN0 ev
  refine g_astore_n cx (lv' := [(1, .ref q0), (0, .ref w)]) d_1_13_7 rfl (by decide) rfl ?_
  refine g_iconst cx (v := 0) d_1_13_8 (by decide) ?_
  refine g_topi (fun s0 es0 => ?_)
  obtain rfl : s0 = nI 0 := es0
  refine g_istore_n cx (lv' := [(2, .int (nI 0)), (1, .ref q0), (0, .ref w)]) d_1_13_9 rfl (by decide) rfl ?_
  refine g_iconst cx (v := 0) d_1_13_10 (by decide) ?_
  refine g_topi (fun j0 ej0 => ?_)
  obtain rfl : j0 = nI 0 := ej0
  refine g_istore_n cx (lv' := [(3, .int (nI 0)), (2, .int (nI 0)), (1, .ref q0), (0, .ref w)]) d_1_13_11 rfl (by decide) rfl ?_
  exact lp (n + 2) 0 0 0 q0 K h _ _ (by omega) (by omega) hT hE (Nat.le_refl _) hw hn4 hz04 (Nat.le_refl _) (by show 2 * (n + 2 - 0) ≤ 65 - 1 - 0; omega) (by show 50 * (n + 2 - 0) ≤ 1603 - 3 - 0; omega)
set_option maxHeartbeats 8000000 in
theorem tc_takeWritten {S : Nat → Prop} {a ab v c0 cap cd : Nat} : TC l y_49 prog_1_method_12_code 2 (Option.some (Jvm.ClassFile.FieldType.object "java/lang/String")) (rmT 11 3 254) D z0 k [.ref a] K (B) (T) (fun h => Ty K h 1 a ∧ (K a).2.1 = ab ∧ BK D K h S ab v c0 cap cd) (B) (T) (fun z => z = ab) (fun o K' h' => ∃ r v' cap' : Nat, o = .returned (some (.ref r)) ∧ Tc k K' h' r c0 cd ∧ BK D K' h' S ab v' 0 cap' 0) := by
  refine tc_of (by decide) (Nat.le_of_ble_eq_true rfl) ?_
  intro h hT hp p e s m args below meth c cx hnm
  have hE : Ev k (fun z => z = ab) K h K h := Ev.rf
  obtain ⟨ha, hab0, hbk⟩ := hp
  refine g_aload_n cx 0 d_1_12_0 rfl rfl ?_
  obtain ⟨la1, lr1, tr1, tn1, he1, hla1, hlr1, htr1, htn1, hlq1, hlaq1⟩ := TP.desk hT ha hab0
  refine g_getf cx (k := 0) d_1_12_1 in0 rfl (by decide) t_96 (Or.inl rfl) ha.1 he1 rfl ?_
  obtain ⟨mb, f, hab, heb, -⟩ := id hbk.1
  refine g_callV cx (As := []) (n := 0) (tj_toString (c0 := c0) (v := v) (cap := cap)) d_1_12_4 t_269 t_270 t_271 t_3 t_272 ⟨by decide, by decide, by decide +kernel⟩ rfl (ci := 1) rfl hab heb ⟨rfl, hT, hbk.1, hbk.2.1, hbk.2.2.1⟩ ⟨Nat.le_of_ble_eq_true rfl, Nat.le_of_ble_eq_true rfl⟩ (Nat.le_of_ble_eq_true rfl) ⟨Nat.le_of_ble_eq_true rfl, Nat.le_of_ble_eq_true rfl⟩ (fun v4 h r4 => ?_) (fun x4 h r4 => by obtain ⟨K9, -, -, r9, e9, -⟩ := r4; cases e9)
  obtain ⟨K, hT, ev, z4, e4, hx4⟩ := r4
  cases e4
  replace hbk := BK.mv hbk ev (fun _ _ => id)
  replace hab0 := Ev.ab ev ha hab0
  replace ha := Ev.ty ev ha
  replace hE := hE.tr ev
  refine g_astore_n cx (lv' := [(1, .ref z4), (0, .ref a)]) d_1_12_7 rfl (by decide) rfl ?_
  refine g_aload_n cx 1 d_1_12_8 rfl rfl ?_
  obtain ⟨la9, lr9, tr9, tn9, he9, hla9, hlr9, htr9, htn9, hlq9, hlaq9⟩ := TP.desk hT ha hab0
  refine g_getf cx (k := 0) d_1_12_9 in0 rfl (by decide) t_96 (Or.inl rfl) ha.1 he9 rfl ?_
  refine g_iconst cx (v := 0) d_1_12_12 (by decide) ?_
  obtain ⟨mb, f, hab, heb, -⟩ := id hbk.1
  refine g_callV cx (As := [.int 0]) (n := 1) (tj_sbSetLen (S := S) (c0 := c0) (v := v) (cap := cap)) d_1_12_13 t_464 t_465 t_466 t_3 t_467 ⟨by decide, by decide, by decide +kernel⟩ rfl (ci := 1) rfl hab heb ⟨rfl, hT, hbk⟩ ⟨Nat.le_of_ble_eq_true rfl, Nat.le_of_ble_eq_true rfl⟩ (Nat.le_of_ble_eq_true rfl) ⟨Nat.le_of_ble_eq_true rfl, Nat.le_of_ble_eq_true rfl⟩ (fun v13 h r13 => ?_) (fun x13 h r13 => by obtain ⟨K9, -, -, e9, -⟩ := r13; cases e9)
  obtain ⟨K, hT, ev, e13, v2, cap2, hbk2⟩ := r13
  cases e13
  replace hx4 := Ev.tc ev hx4
  replace hE := Ev.trS hE ev
  refine g_aload_n cx 0 d_1_12_16 rfl rfl ?_
  exact g_aret cx d_1_12_17 rfl (Or.inl ⟨_, rfl⟩) (Or.inr ⟨_, rfl⟩) ⟨K, hT, hE, _, v2, cap2, rfl, hx4, hbk2⟩
set_option maxHeartbeats 8000000 in
theorem tc_insert {a b im nc : Nat} {x0 x1 x2 x4 x5 x6 x7 x8 : Value} (hB : B < 2 ^ 17) (hlt : nc < 4) : TC l y_140 prog_5_method_3_code 3 (Option.none) (rmT 10 1 20) D z0 k [.ref a, .ref b] K (B) (T) (fun h => a ∈ h.1 ∧ h.2 a = .inr (6, [x0, x1, x2, .ref im, x4, x5, x6, x7, x8]) ∧ Ty K h 27 im ∧ Ty K h 7 b ∧ (K im).2.2 = nc) (B) (T) (XD K) (fun o _ _ => o = .returned none) := by
  refine tc_of (by decide) (Nat.le_of_ble_eq_true rfl) ?_
  intro h hT hp p e s m args below meth c cx hnm
  have hE : Ev k (XD K) K h K h := Ev.rf
  obtain ⟨hma, hea, him, hb, hnc⟩ := hp
  have lp : ∀ (n0 j : Nat), nc - j < n0 → j ≤ nc → G p l e (rmT 10 1 20) s m args below meth c 3 D z0 (EE z0 k) (TQ D z0 k K h B T (XD K) (fun o _ _ => o = .returned none)) 1 20 2 [(2, .int (nI j)), (0, .ref a), (1, .ref b)] [] h 1 20 := by
    intro n0
    induction n0 with
    | zero => intro j hj; exact absurd hj (Nat.not_lt_zero _)
    | succ n0 ih =>
      intro j hj0 hjn
      refine g_iload_n cx 0 d_5_3_2 rfl rfl ?_
      refine g_aload_n cx 1 d_5_3_3 rfl rfl ?_
      refine g_getf cx (k := 3) d_5_3_4 in6 rfl (by decide) t_734 (Or.inl rfl) hma hea rfl ?_
      obtain ⟨⟨ea7, mo7, hm7, hl7⟩, hb7⟩ := TP.n27 hT him
      refine g_pcV cx (As := []) (n := 0) (pj_size (n := (K im).2.2)) d_5_3_7 t_774 t_236 t_237 t_8 t_238 ⟨by decide, by decide, by decide +kernel⟩ rfl (ci := 2) rfl hm7 hl7 ⟨ea7, mo7, hm7, hl7⟩ ⟨Nat.le_of_ble_eq_true rfl, Nat.le_of_ble_eq_true rfl⟩ (Nat.le_of_ble_eq_true rfl) (fun v7 r7 => ?_)
      subst r7
      refine g_icmp_ge cx d_5_3_10 rfl (fun c10 => ?_) (fun c10 => ?_)
      · skip
        refine g_aload_n cx 1 d_5_3_46 rfl rfl ?_
        refine g_getf cx (k := 3) d_5_3_47 in6 rfl (by decide) t_734 (Or.inl rfl) hma hea rfl ?_
        refine g_iload_n cx 0 d_5_3_50 rfl rfl ?_
        refine g_aload_n cx 2 d_5_3_51 rfl rfl ?_
        obtain ⟨⟨ea52, mo52, hm52, hl52⟩, hb52⟩ := TP.n27 hT him
        refine g_callV cx (As := [.int (nI j), .ref b]) (n := 2) (tj_addAt (B := B) (n := nc) (ce := 7) (g := 20) (j := j) (by decide) (by rw [show bd (7 + 20) B = 4 from rfl]; omega) (by omega) (by rw [show bd (7 + 20) B = 4 from rfl]; omega) ((by omega))) d_5_3_52 t_813 t_814 t_815 t_8 t_816 ⟨by decide, by decide, by decide +kernel⟩ rfl (ci := 2) rfl hm52 hl52 ⟨rfl, hT, him, hb, hnc⟩ ⟨Nat.le_of_ble_eq_true rfl, Nat.le_of_ble_eq_true rfl⟩ (Nat.le_of_ble_eq_true rfl) ⟨Nat.le_of_ble_eq_true rfl, Nat.le_of_ble_eq_true rfl⟩ (fun v52 h r52 => ?_) (fun x52 h r52 => by obtain ⟨K9, -, -, e9, -⟩ := r52; cases e9)
        obtain ⟨K, hT, ev, e52, hnew52⟩ := r52
        cases e52
        have evr := ev
        replace ev := xd_add (e := X0) (ce := 7) (by decide) him ev
        have hb := Ev.ty ev hb
        replace hE := Ev.trP hE ev
        exact g_vret cx d_5_3_55 rfl ⟨K, hT, hE, rfl⟩
      · skip
        have hj : j < (K im).2.2 := Nat.lt_of_not_le (fun q => c10 (nI_le q (by omega)))
        refine g_aload_n cx 1 d_5_3_13 rfl rfl ?_
        refine g_getf cx (k := 3) d_5_3_14 in6 rfl (by decide) t_734 (Or.inl rfl) hma hea rfl ?_
        refine g_iload_n cx 0 d_5_3_17 rfl rfl ?_
        obtain ⟨⟨ea18, mo18, hm18, hl18⟩, hb18⟩ := TP.n27 hT him
        refine g_callV cx (As := [.int (nI j)]) (n := 1) (gj_get (K := K) (B := B) (T := T) (ce := 7) (j := j) (by decide) (by omega)) d_5_3_18 t_775 t_240 t_241 t_8 t_242 ⟨by decide, by decide, by decide +kernel⟩ rfl (ci := 2) rfl hm18 hl18 ⟨rfl, hT, him, hj⟩ ⟨Nat.le_of_ble_eq_true rfl, Nat.le_of_ble_eq_true rfl⟩ (Nat.le_of_ble_eq_true rfl) ⟨Nat.zero_le _, Nat.zero_le _⟩ (fun v18 h r18 => ?_) (fun x18 h r18 => by obtain ⟨-, y9, e9, -⟩ := r18; cases e9)
        obtain ⟨rfl, y18, e18, hy18⟩ := r18
        cases e18
        replace hy18 : Ty K h 7 y18 := hy18
        obtain ⟨w21, r21, he21, hw21, hr21⟩ := TP.o (κ := 7) hT hy18
        obtain ⟨nw21, hw21⟩ : ∃ n, Tw k K h w21 n := ⟨_, Tx.tx hw21⟩
        refine g_ccast cx (ci := 7) d_5_3_21 t_811 rfl hy18.1 he21 ?_
        refine g_getf cx (k := 0) d_5_3_24 in7 rfl (by decide) t_798 (Or.inl rfl) hy18.1 he21 rfl ?_
        obtain ⟨v27, hs27⟩ := TP.str hT hw21
        refine g_pcVS cx (As := []) (n := 0) (pj_length (n := nw21)) d_5_3_27 t_812 t_391 t_392 t_4 t_393 rfl (by decide +kernel) rfl hs27 ⟨_, hs27⟩ ⟨Nat.le_of_ble_eq_true rfl, Nat.le_of_ble_eq_true rfl⟩ (Nat.le_of_ble_eq_true rfl) (fun v27 r27 => ?_)
        subst r27
        refine g_aload_n cx 2 d_5_3_30 rfl rfl ?_
        obtain ⟨w31, r31, he31, hw31, hr31⟩ := TP.o (κ := 7) hT hb
        obtain ⟨nw31, hw31⟩ : ∃ n, Tw k K h w31 n := ⟨_, Tx.tx hw31⟩
        refine g_getf cx (k := 0) d_5_3_31 in7 rfl (by decide) t_798 (Or.inl rfl) hb.1 he31 rfl ?_
        obtain ⟨v34, hs34⟩ := TP.str hT hw31
        refine g_pcVS cx (As := []) (n := 0) (pj_length (n := nw31)) d_5_3_34 t_812 t_391 t_392 t_4 t_393 rfl (by decide +kernel) rfl hs34 ⟨_, hs34⟩ ⟨Nat.le_of_ble_eq_true rfl, Nat.le_of_ble_eq_true rfl⟩ (Nat.le_of_ble_eq_true rfl) (fun v34 r34 => ?_)
        subst r34
        refine g_icmp_lt cx d_5_3_37 rfl (fun c37 => ?_) (fun c37 => ?_)
        · skip
          refine g_aload_n cx 1 d_5_3_46 rfl rfl ?_
          refine g_getf cx (k := 3) d_5_3_47 in6 rfl (by decide) t_734 (Or.inl rfl) hma hea rfl ?_
          refine g_iload_n cx 0 d_5_3_50 rfl rfl ?_
          refine g_aload_n cx 2 d_5_3_51 rfl rfl ?_
          obtain ⟨⟨ea52, mo52, hm52, hl52⟩, hb52⟩ := TP.n27 hT him
          refine g_callV cx (As := [.int (nI j), .ref b]) (n := 2) (tj_addAt (B := B) (n := nc) (ce := 7) (g := 20) (j := j) (by decide) (by rw [show bd (7 + 20) B = 4 from rfl]; omega) (by omega) (by rw [show bd (7 + 20) B = 4 from rfl]; omega) ((by omega))) d_5_3_52 t_813 t_814 t_815 t_8 t_816 ⟨by decide, by decide, by decide +kernel⟩ rfl (ci := 2) rfl hm52 hl52 ⟨rfl, hT, him, hb, hnc⟩ ⟨Nat.le_of_ble_eq_true rfl, Nat.le_of_ble_eq_true rfl⟩ (Nat.le_of_ble_eq_true rfl) ⟨Nat.le_of_ble_eq_true rfl, Nat.le_of_ble_eq_true rfl⟩ (fun v52 h r52 => ?_) (fun x52 h r52 => by obtain ⟨K9, -, -, e9, -⟩ := r52; cases e9)
          obtain ⟨K, hT, ev, e52, hnew52⟩ := r52
          cases e52
          have evr := ev
          replace ev := xd_add (e := X0) (ce := 7) (by decide) him ev
          have hb := Ev.ty ev hb
          replace hE := Ev.trP hE ev
          exact g_vret cx d_5_3_55 rfl ⟨K, hT, hE, rfl⟩
        · skip
          refine g_iinc cx 0 (lv' := [(2, .int (nI (j + 1))), (0, .ref a), (1, .ref b)]) d_5_3_40 rfl (inc1 j) (by decide) rfl ?_
          refine g_goto cx d_5_3_43 rfl ?_
          exact ih (j + 1) (by omega) (by omega)
  refine g_iconst cx (v := 0) d_5_3_0 (by decide) ?_
  refine g_topi (fun j0 ej0 => ?_)
  obtain rfl : j0 = nI 0 := ej0
  refine g_istore_n cx (lv' := [(2, .int (nI 0)), (0, .ref a), (1, .ref b)]) d_5_3_1 rfl (by decide) rfl ?_
  exact lp (nc + 1) 0 (by omega) (Nat.zero_le _)
set_option maxHeartbeats 8000000 in
theorem tc_addArchive {a w n : Nat} (hB : B < 2 ^ 17) (htr : l.stackTraces = false) : TC l y_124 prog_1_method_25_code 2 (Option.some Jvm.ClassFile.FieldType.int) (rmT 10 3 31) D z0 k [.ref a, .ref w] K (B) (T) (fun h => Ty K h 1 a ∧ Tw k K h w n) (B) (T) (XD K) (RT S1) := by
  refine tc_of (by decide) (Nat.le_of_ble_eq_true rfl) ?_
  intro h hT hp p e s m args below meth c cx hnm
  have hE : Ev k (XD K) K h K h := Ev.rf
  replace hB := hB
  have hB17 := hB
  replace hB : B < 2 ^ 20 := Nat.lt_trans hB (by decide)
  obtain ⟨ha, hw⟩ := hp
  refine g_aload_n cx 1 d_1_25_0 rfl rfl ?_
  obtain ⟨vs1, hss1⟩ := TP.str hT hw
  refine g_pcS cx (As := [.ref w]) (n := 1) (pc_isWord (n := n)) d_1_25_1 t_665 t_666 t_1 t_667 ⟨by decide, by decide, by decide +kernel⟩ rfl ⟨_, hss1⟩ ⟨Nat.le_of_ble_eq_true rfl, Nat.le_of_ble_eq_true rfl⟩ (Nat.le_of_ble_eq_true rfl) (fun v1 r1 => ?_)
  obtain ⟨x1, rfl, xb1, xz1⟩ := r1
  refine g_if_eq cx d_1_25_4 rfl (fun c4 => ?_) (fun c4 => ?_)
  · skip
    exact t_iae cx htr d_1_25_15 d_1_25_18 d_1_25_19 d_1_25_22  ⟨Nat.le_of_ble_eq_true rfl, Nat.le_of_ble_eq_true rfl⟩ (Nat.le_of_ble_eq_true rfl) ⟨Nat.le_of_ble_eq_true rfl, Nat.le_of_ble_eq_true rfl⟩ (fun x hx hz => thrX (S := S1) (Or.inl rfl) hT hE hx hz)
  · skip
    refine g_aload_n cx 0 d_1_25_7 rfl rfl ?_
    refine g_aload_n cx 1 d_1_25_8 rfl rfl ?_
    obtain ⟨la9, lr9, tr9, tn9, he9, hla9, hlr9, htr9, htn9, hlq9, hlaq9⟩ := TP.o (κ := 1) hT ha
    refine g_callV cx (As := [.ref w]) (n := 1) (pt_archiveWith (K := K) (B := B) (T := T) (n := n) hB) d_1_25_9 t_668 t_670 ts_12 t_1 t_671 ⟨by decide, by decide, by decide +kernel⟩ rfl (ci := 0) rfl ha.1 he9 ⟨rfl, hT, ha, hw⟩ ⟨Nat.le_of_ble_eq_true rfl, Nat.le_of_ble_eq_true rfl⟩ (Nat.le_of_ble_eq_true rfl) ⟨Nat.zero_le _, Nat.zero_le _⟩ (fun v9 h r9 => ?_) (fun x9 h r9 => by obtain ⟨-, v9, e9, -⟩ := r9; cases e9)
    obtain ⟨rfl, wo9, e9, r9⟩ := r9
    cases e9
    rcases r9 with rfl | ⟨y9, rfl, hy9⟩
    · skip
      refine g_ifnullN cx d_1_25_12 rfl ?_
      refine g_aload_n cx 0 d_1_25_23 rfl rfl ?_
      refine g_getf cx (k := 1) d_1_25_24 in0 rfl (by decide) t_97 (Or.inl rfl) ha.1 he9 rfl ?_
      obtain ⟨⟨ea27, mo27, hm27, hl27⟩, hb27⟩ := TP.n25 hT hla9
      refine g_pcV cx (As := []) (n := 0) (pj_size (n := (K la9).2.2)) d_1_25_27 t_235 t_236 t_237 t_8 t_238 ⟨by decide, by decide, by decide +kernel⟩ rfl (ci := 2) rfl hm27 hl27 ⟨ea27, mo27, hm27, hl27⟩ ⟨Nat.le_of_ble_eq_true rfl, Nat.le_of_ble_eq_true rfl⟩ (Nat.le_of_ble_eq_true rfl) (fun v27 r27 => ?_)
      subst r27
      refine g_bipush cx (v := 6) d_1_25_30 (by decide) ?_
      refine g_icmp_lt cx d_1_25_32 rfl (fun c32 => ?_) (fun c32 => ?_)
      · skip
        have h6 : (K la9).2.2 < 6 := (nI_ltI (b := 6) (by omega) (by decide)).mp c32
        refine g_aload_n cx 0 d_1_25_43 rfl rfl ?_
        refine g_getf cx (k := 1) d_1_25_44 in0 rfl (by decide) t_97 (Or.inl rfl) ha.1 he9 rfl ?_
        obtain ⟨nc, hnc⟩ : ∃ nc, (K la9).2.2 = nc := ⟨_, rfl⟩
        rw [hnc] at h6
        refine g_new cx (ci := 5) (fs := [.int 0, .null, .null, .int 0]) d_1_25_47 in5 ty5_ok t_256 t_672 t_24 rfl (by decide) ⟨Nat.le_of_ble_eq_true rfl, Nat.le_of_ble_eq_true rfl⟩ (fun q47 hq47 hz47 => ?_)
        have hN47 := Ev.nin hE hq47
        have ne_47_la9 : ¬ la9 = q47 := fun z => hq47 (z ▸ hla9.1)
        refine t_raw hT hq47 hz47 (fun K h hT ev hr47 hm47 he47 hol47 => ?_)
        replace hnc := (congrArg (fun z => z.2.2) ((ev.1 la9 hla9.1).2.2 id).1).trans hnc
        have ha := Ev.ty ev ha
        have hw := Ev.tx ev hw
        have hla9 := Ev.ty ev hla9
        replace hE := hE.tr ev
        refine g_dup cx d_1_25_50 rfl ?_
        refine g_aload_n cx 0 d_1_25_51 rfl rfl ?_
        obtain ⟨la52, lr52, tr52, tn52, he52, hla52, hlr52, htr52, htn52, hlq52, hlaq52⟩ := TP.o (κ := 1) hT ha
        refine g_getf cx (k := 1) d_1_25_52 in0 rfl (by decide) t_97 (Or.inl rfl) ha.1 he52 rfl ?_
        obtain ⟨⟨ea55, mo55, hm55, hl55⟩, hb55⟩ := TP.n25 hT hla52
        refine g_pcV cx (As := []) (n := 0) (pj_size (n := (K la52).2.2)) d_1_25_55 t_235 t_236 t_237 t_8 t_238 ⟨by decide, by decide, by decide +kernel⟩ rfl (ci := 2) rfl hm55 hl55 ⟨ea55, mo55, hm55, hl55⟩ ⟨Nat.le_of_ble_eq_true rfl, Nat.le_of_ble_eq_true rfl⟩ (Nat.le_of_ble_eq_true rfl) (fun v55 r55 => ?_)
        subst r55
        refine g_aload_n cx 1 d_1_25_58 rfl rfl ?_
        refine g_callI cx (ret' := none) (As := [.int (nI (K la52).2.2), .ref w]) (n := 2) (tc_archive (n := n)) d_1_25_59 t_673 t_674 t_24 t_675 rfl ⟨by decide, by decide, by decide +kernel⟩ rfl ⟨rfl, hT, ⟨⟨hr47, hm47, he47⟩, hw⟩⟩ ⟨Nat.le_of_ble_eq_true rfl, Nat.le_of_ble_eq_true rfl⟩ (Nat.le_of_ble_eq_true rfl) ⟨Nat.le_of_ble_eq_true rfl, Nat.le_of_ble_eq_true rfl⟩ (fun v59 h r59 => ?_) (fun x59 h r59 => by obtain ⟨K9, -, -, e9⟩ := r59; cases e9.1)
        obtain ⟨K, hT, ev, rel59⟩ := r59
        obtain ⟨e59, hn59, hnw59, hnz59⟩ := rel59
        cases e59
        replace hnc := (congrArg (fun z => z.2.2) ((ev.1 la9 hla9.1).2.2 ne_47_la9).1).trans hnc
        have ha := Ev.ty ev ha
        have hw := Ev.tx ev hw
        have hla9 := Ev.ty ev hla9
        replace hE := hE.trN hN47 ev
        obtain ⟨⟨ea62, mo62, hm62, hl62⟩, hb62⟩ := TP.n25 hT hla9
        refine g_callV cx (As := [.ref q47]) (n := 1) (tj_add (B := B) (n := nc) (ce := 5) (g := 24) (by decide) (by rw [show bd (5 + 20) B = 6 from rfl]; omega) (by omega) (by rw [show bd (5 + 20) B = 6 from rfl]; omega)) d_1_25_62 t_571 t_572 t_573 t_8 t_574 ⟨by decide, by decide, by decide +kernel⟩ rfl (ci := 2) rfl hm62 hl62 ⟨rfl, hT, hla9, hn59, hnc⟩ ⟨Nat.le_of_ble_eq_true rfl, Nat.le_of_ble_eq_true rfl⟩ (Nat.le_of_ble_eq_true rfl) ⟨Nat.le_of_ble_eq_true rfl, Nat.le_of_ble_eq_true rfl⟩ (fun v62 h r62 => ?_) (fun x62 h r62 => by obtain ⟨K9, -, -, e9, -⟩ := r62; cases e9)
        obtain ⟨K, hT, ev, e62, hnew62⟩ := r62
        cases e62
        have evr := ev
        replace ev := xd_add (e := X0) (ce := 5) (by decide) hla9 ev
        have ha := Ev.ty ev ha
        have hw := Ev.tx ev hw
        replace hE := Ev.trP hE ev
        refine g_pop cx d_1_25_65 rfl ?_
        refine g_iconst cx (v := 1) d_1_25_66 (by decide) ?_
        exact g_iret cx d_1_25_67 rfl rfl ⟨K, hT, hE, Or.inl ⟨_, rfl⟩⟩
      · skip
        exact t_ise cx htr d_1_25_35 d_1_25_38 d_1_25_39 d_1_25_42  ⟨Nat.le_of_ble_eq_true rfl, Nat.le_of_ble_eq_true rfl⟩ (Nat.le_of_ble_eq_true rfl) ⟨Nat.le_of_ble_eq_true rfl, Nat.le_of_ble_eq_true rfl⟩ (fun x hx hz => thrX (S := S1) (Or.inr rfl) hT hE hx hz)
    · skip
      refine g_ifnull cx d_1_25_12 ?_
      exact t_iae cx htr d_1_25_15 d_1_25_18 d_1_25_19 d_1_25_22  ⟨Nat.le_of_ble_eq_true rfl, Nat.le_of_ble_eq_true rfl⟩ (Nat.le_of_ble_eq_true rfl) ⟨Nat.le_of_ble_eq_true rfl, Nat.le_of_ble_eq_true rfl⟩ (fun x hx hz => thrX (S := S1) (Or.inl rfl) hT hE hx hz)
set_option maxHeartbeats 8000000 in
theorem tc_addRealm {a w n : Nat} (hB : B < 2 ^ 17) (htr : l.stackTraces = false) : TC l y_132 prog_1_method_27_code 2 (Option.some Jvm.ClassFile.FieldType.int) (rmT 10 5 42) D z0 k [.ref a, .ref w] K (B) (T) (fun h => Ty K h 1 a ∧ Tw k K h w n) (B) (T) (XD K) (RT S1) := by
  refine tc_of (by decide) (Nat.le_of_ble_eq_true rfl) ?_
  intro h hT hp p e s m args below meth c cx hnm
  have hE : Ev k (XD K) K h K h := Ev.rf
  replace hB := hB
  have hB17 := hB
  replace hB : B < 2 ^ 20 := Nat.lt_trans hB (by decide)
  obtain ⟨ha, hw⟩ := hp
  refine g_aload_n cx 1 d_1_27_0 rfl rfl ?_
  obtain ⟨vs1, hss1⟩ := TP.str hT hw
  refine g_pcS cx (As := [.ref w]) (n := 1) (pc_isWord (n := n)) d_1_27_1 t_665 t_666 t_1 t_667 ⟨by decide, by decide, by decide +kernel⟩ rfl ⟨_, hss1⟩ ⟨Nat.le_of_ble_eq_true rfl, Nat.le_of_ble_eq_true rfl⟩ (Nat.le_of_ble_eq_true rfl) (fun v1 r1 => ?_)
  obtain ⟨x1, rfl, xb1, xz1⟩ := r1
  refine g_if_eq cx d_1_27_4 rfl (fun c4 => ?_) (fun c4 => ?_)
  · skip
    exact t_iae cx htr d_1_27_15 d_1_27_18 d_1_27_19 d_1_27_22  ⟨Nat.le_of_ble_eq_true rfl, Nat.le_of_ble_eq_true rfl⟩ (Nat.le_of_ble_eq_true rfl) ⟨Nat.le_of_ble_eq_true rfl, Nat.le_of_ble_eq_true rfl⟩ (fun x hx hz => thrX (S := S1) (Or.inl rfl) hT hE hx hz)
  · skip
    refine g_aload_n cx 0 d_1_27_7 rfl rfl ?_
    refine g_aload_n cx 1 d_1_27_8 rfl rfl ?_
    obtain ⟨la9, lr9, tr9, tn9, he9, hla9, hlr9, htr9, htn9, hlq9, hlaq9⟩ := TP.o (κ := 1) hT ha
    refine g_callV cx (As := [.ref w]) (n := 1) (pt_realmWith (K := K) (B := B) (T := T) (n := n) hB) d_1_27_9 t_487 t_489 ts_3 t_1 t_490 ⟨by decide, by decide, by decide +kernel⟩ rfl (ci := 0) rfl ha.1 he9 ⟨rfl, hT, ha, hw⟩ ⟨Nat.le_of_ble_eq_true rfl, Nat.le_of_ble_eq_true rfl⟩ (Nat.le_of_ble_eq_true rfl) ⟨Nat.zero_le _, Nat.zero_le _⟩ (fun v9 h r9 => ?_) (fun x9 h r9 => by obtain ⟨-, v9, e9, -⟩ := r9; cases e9)
    obtain ⟨rfl, wo9, e9, r9⟩ := r9
    cases e9
    rcases r9 with rfl | ⟨y9, rfl, hy9⟩
    · skip
      refine g_ifnullN cx d_1_27_12 rfl ?_
      refine g_aload_n cx 0 d_1_27_23 rfl rfl ?_
      refine g_getf cx (k := 2) d_1_27_24 in0 rfl (by decide) t_98 (Or.inl rfl) ha.1 he9 rfl ?_
      obtain ⟨⟨ea27, mo27, hm27, hl27⟩, hb27⟩ := TP.n26 hT hlr9
      refine g_pcV cx (As := []) (n := 0) (pj_size (n := (K lr9).2.2)) d_1_27_27 t_235 t_236 t_237 t_8 t_238 ⟨by decide, by decide, by decide +kernel⟩ rfl (ci := 2) rfl hm27 hl27 ⟨ea27, mo27, hm27, hl27⟩ ⟨Nat.le_of_ble_eq_true rfl, Nat.le_of_ble_eq_true rfl⟩ (Nat.le_of_ble_eq_true rfl) (fun v27 r27 => ?_)
      subst r27
      refine g_bipush cx (v := 8) d_1_27_30 (by decide) ?_
      refine g_icmp_lt cx d_1_27_32 rfl (fun c32 => ?_) (fun c32 => ?_)
      · skip
        have h6 : (K lr9).2.2 < 8 := (nI_ltI (b := 8) (by omega) (by decide)).mp c32
        refine g_aload_n cx 0 d_1_27_43 rfl rfl ?_
        refine g_getf cx (k := 2) d_1_27_44 in0 rfl (by decide) t_98 (Or.inl rfl) ha.1 he9 rfl ?_
        obtain ⟨nc, hnc⟩ : ∃ nc, (K lr9).2.2 = nc := ⟨_, rfl⟩
        rw [hnc] at h6
        refine g_new cx (ci := 6) (fs := [.int 0, .null, .null, .null, .null, .null, .int 0, .int 0, .int 0]) d_1_27_47 in6 ty6_ok t_251 t_721 t_25 rfl (by decide) ⟨Nat.le_of_ble_eq_true rfl, Nat.le_of_ble_eq_true rfl⟩ (fun q47 hq47 hz47 => ?_)
        have hN47 := Ev.nin hE hq47
        have ne_47_lr9 : ¬ lr9 = q47 := fun z => hq47 (z ▸ hlr9.1)
        refine t_raw hT hq47 hz47 (fun K h hT ev hr47 hm47 he47 hol47 => ?_)
        replace hnc := (congrArg (fun z => z.2.2) ((ev.1 lr9 hlr9.1).2.2 id).1).trans hnc
        have ha := Ev.ty ev ha
        have hw := Ev.tx ev hw
        have hlr9 := Ev.ty ev hlr9
        replace hE := hE.tr ev
        refine g_dup cx d_1_27_50 rfl ?_
        refine g_aload_n cx 0 d_1_27_51 rfl rfl ?_
        obtain ⟨la52, lr52, tr52, tn52, he52, hla52, hlr52, htr52, htn52, hlq52, hlaq52⟩ := TP.o (κ := 1) hT ha
        refine g_getf cx (k := 2) d_1_27_52 in0 rfl (by decide) t_98 (Or.inl rfl) ha.1 he52 rfl ?_
        obtain ⟨⟨ea55, mo55, hm55, hl55⟩, hb55⟩ := TP.n26 hT hlr52
        refine g_pcV cx (As := []) (n := 0) (pj_size (n := (K lr52).2.2)) d_1_27_55 t_235 t_236 t_237 t_8 t_238 ⟨by decide, by decide, by decide +kernel⟩ rfl (ci := 2) rfl hm55 hl55 ⟨ea55, mo55, hm55, hl55⟩ ⟨Nat.le_of_ble_eq_true rfl, Nat.le_of_ble_eq_true rfl⟩ (Nat.le_of_ble_eq_true rfl) (fun v55 r55 => ?_)
        subst r55
        refine g_aload_n cx 1 d_1_27_58 rfl rfl ?_
        refine g_callI cx (ret' := none) (As := [.int (nI (K lr52).2.2), .ref w]) (n := 2) (tc_realm (n := n)) d_1_27_59 t_722 t_723 t_25 t_724 rfl ⟨by decide, by decide, by decide +kernel⟩ rfl ⟨rfl, hT, ⟨⟨hr47, hm47, he47⟩, hw⟩⟩ ⟨Nat.le_of_ble_eq_true rfl, Nat.le_of_ble_eq_true rfl⟩ (Nat.le_of_ble_eq_true rfl) ⟨Nat.le_of_ble_eq_true rfl, Nat.le_of_ble_eq_true rfl⟩ (fun v59 h r59 => ?_) (fun x59 h r59 => by obtain ⟨K9, -, -, e9⟩ := r59; cases e9.1)
        obtain ⟨K, hT, ev, rel59⟩ := r59
        obtain ⟨e59, hn59, hnw59, hnz59⟩ := rel59
        cases e59
        replace hnc := (congrArg (fun z => z.2.2) ((ev.1 lr9 hlr9.1).2.2 ne_47_lr9).1).trans hnc
        have ha := Ev.ty ev ha
        have hw := Ev.tx ev hw
        have hlr9 := Ev.ty ev hlr9
        replace hE := hE.trN hN47 ev
        obtain ⟨⟨ea62, mo62, hm62, hl62⟩, hb62⟩ := TP.n26 hT hlr9
        refine g_callV cx (As := [.ref q47]) (n := 1) (tj_add (B := B) (n := nc) (ce := 6) (g := 24) (by decide) (by rw [show bd (6 + 20) B = 8 from rfl]; omega) (by omega) (by rw [show bd (6 + 20) B = 8 from rfl]; omega)) d_1_27_62 t_571 t_572 t_573 t_8 t_574 ⟨by decide, by decide, by decide +kernel⟩ rfl (ci := 2) rfl hm62 hl62 ⟨rfl, hT, hlr9, hn59, hnc⟩ ⟨Nat.le_of_ble_eq_true rfl, Nat.le_of_ble_eq_true rfl⟩ (Nat.le_of_ble_eq_true rfl) ⟨Nat.le_of_ble_eq_true rfl, Nat.le_of_ble_eq_true rfl⟩ (fun v62 h r62 => ?_) (fun x62 h r62 => by obtain ⟨K9, -, -, e9, -⟩ := r62; cases e9)
        obtain ⟨K, hT, ev, e62, hnew62⟩ := r62
        cases e62
        have evr := ev
        replace ev := xd_add (e := X0) (ce := 6) (by decide) hlr9 ev
        have ha := Ev.ty ev ha
        have hw := Ev.tx ev hw
        replace hE := Ev.trP hE ev
        refine g_pop cx d_1_27_65 rfl ?_
        refine g_iconst cx (v := 3) d_1_27_66 (by decide) ?_
        exact g_iret cx d_1_27_67 rfl rfl ⟨K, hT, hE, Or.inl ⟨_, rfl⟩⟩
      · skip
        exact t_ise cx htr d_1_27_35 d_1_27_38 d_1_27_39 d_1_27_42  ⟨Nat.le_of_ble_eq_true rfl, Nat.le_of_ble_eq_true rfl⟩ (Nat.le_of_ble_eq_true rfl) ⟨Nat.le_of_ble_eq_true rfl, Nat.le_of_ble_eq_true rfl⟩ (fun x hx hz => thrX (S := S1) (Or.inr rfl) hT hE hx hz)
    · skip
      refine g_ifnull cx d_1_27_12 ?_
      exact t_iae cx htr d_1_27_15 d_1_27_18 d_1_27_19 d_1_27_22  ⟨Nat.le_of_ble_eq_true rfl, Nat.le_of_ble_eq_true rfl⟩ (Nat.le_of_ble_eq_true rfl) ⟨Nat.le_of_ble_eq_true rfl, Nat.le_of_ble_eq_true rfl⟩ (fun x hx hz => thrX (S := S1) (Or.inl rfl) hT hE hx hz)
set_option maxHeartbeats 8000000 in
theorem tc_addName {a w n : Nat} (hB : B < 2 ^ 17) (htr : l.stackTraces = false) : TC l y_128 prog_1_method_26_code 3 (Option.some Jvm.ClassFile.FieldType.int) (rmT 10 64 1270) D z0 k [.ref a, .ref w] K (B) (T) (fun h => Ty K h 1 a ∧ Tw k K h w n) (B) (T) (XD K) (RT S1) := by
  refine tc_of (by decide) (Nat.le_of_ble_eq_true rfl) ?_
  intro h hT hp p e s m args below meth c cx hnm
  have hE : Ev k (XD K) K h K h := Ev.rf
  replace hB := hB
  have hB17 := hB
  replace hB : B < 2 ^ 20 := Nat.lt_trans hB (by decide)
  obtain ⟨ha, hw⟩ := hp
  refine g_aload_n cx 0 d_1_26_0 rfl rfl ?_
  obtain ⟨la1, lr1, tr1, tn1, he1, hla1, hlr1, htr1, htn1, hlq1, hlaq1⟩ := TP.o (κ := 1) hT ha
  refine g_callV cx (As := []) (n := 0) (pt_latestArchive (K := K) (B := B) (T := T) hB) d_1_26_1 t_701 t_703 ts_14 t_1 t_704 ⟨by decide, by decide, by decide +kernel⟩ rfl (ci := 0) rfl ha.1 he1 ⟨rfl, hT, ha⟩ ⟨Nat.le_of_ble_eq_true rfl, Nat.le_of_ble_eq_true rfl⟩ (Nat.le_of_ble_eq_true rfl) ⟨Nat.zero_le _, Nat.zero_le _⟩ (fun v1 h r1 => ?_) (fun x1 h r1 => by obtain ⟨-, v9, e9, -⟩ := r1; cases e9)
  obtain ⟨rfl, wo1, e1, r1⟩ := r1
  cases e1
  rcases r1 with rfl | ⟨y1, rfl, hy1⟩
  · skip
    refine g_astore_nN cx (lv' := [(2, .null), (0, .ref a), (1, .ref w)]) d_1_26_4 rfl (by decide) rfl ?_
    refine g_aload_n cx 2 d_1_26_5 rfl rfl ?_
    refine g_callS cx (As := [.ref w]) (n := 1) (tc_isName (n := n)) d_1_26_6 t_705 t_706 t_1 t_707 ⟨by decide, by decide, by decide +kernel⟩ rfl ⟨rfl, hT, hw⟩ ⟨Nat.le_of_ble_eq_true rfl, Nat.le_of_ble_eq_true rfl⟩ (Nat.le_of_ble_eq_true rfl) ⟨Nat.le_of_ble_eq_true rfl, Nat.le_of_ble_eq_true rfl⟩ (fun v6 h r6 => ?_) (fun x6 h r6 => by obtain ⟨K9, -, -, x9, e9, -⟩ := r6; cases e9)
    obtain ⟨K, hT, ev, rel6⟩ := r6
    obtain ⟨x6, e6, xb6, xz6⟩ := rel6
    cases e6
    have ha := Ev.ty ev ha
    have hw := Ev.tx ev hw
    replace hE := hE.tr ev
    refine g_if_eq cx d_1_26_9 rfl (fun c9 => ?_) (fun c9 => ?_)
    · skip
      exact t_iae cx htr d_1_26_24 d_1_26_27 d_1_26_28 d_1_26_31  ⟨Nat.le_of_ble_eq_true rfl, Nat.le_of_ble_eq_true rfl⟩ (Nat.le_of_ble_eq_true rfl) ⟨Nat.le_of_ble_eq_true rfl, Nat.le_of_ble_eq_true rfl⟩ (fun x hx hz => thrX (S := S1) (Or.inl rfl) hT hE hx hz)
    · skip
      refine g_aload_nN cx 0 d_1_26_12 rfl rfl ?_
      refine g_ifnullN cx d_1_26_13 rfl ?_
      refine g_aload_nN cx 0 d_1_26_32 rfl rfl ?_
      refine g_ifnullN cx d_1_26_33 rfl ?_
      exact t_ise cx htr d_1_26_48 d_1_26_51 d_1_26_52 d_1_26_55  ⟨Nat.le_of_ble_eq_true rfl, Nat.le_of_ble_eq_true rfl⟩ (Nat.le_of_ble_eq_true rfl) ⟨Nat.le_of_ble_eq_true rfl, Nat.le_of_ble_eq_true rfl⟩ (fun x hx hz => thrX (S := S1) (Or.inr rfl) hT hE hx hz)
  · skip
    refine g_astore_n cx (lv' := [(2, .ref y1), (0, .ref a), (1, .ref w)]) d_1_26_4 rfl (by decide) rfl ?_
    refine g_aload_n cx 2 d_1_26_5 rfl rfl ?_
    refine g_callS cx (As := [.ref w]) (n := 1) (tc_isName (n := n)) d_1_26_6 t_705 t_706 t_1 t_707 ⟨by decide, by decide, by decide +kernel⟩ rfl ⟨rfl, hT, hw⟩ ⟨Nat.le_of_ble_eq_true rfl, Nat.le_of_ble_eq_true rfl⟩ (Nat.le_of_ble_eq_true rfl) ⟨Nat.le_of_ble_eq_true rfl, Nat.le_of_ble_eq_true rfl⟩ (fun v6 h r6 => ?_) (fun x6 h r6 => by obtain ⟨K9, -, -, x9, e9, -⟩ := r6; cases e9)
    obtain ⟨K, hT, ev, rel6⟩ := r6
    obtain ⟨x6, e6, xb6, xz6⟩ := rel6
    cases e6
    have hy1 := Ev.ty ev hy1
    have ha := Ev.ty ev ha
    have hw := Ev.tx ev hw
    replace hE := hE.tr ev
    refine g_if_eq cx d_1_26_9 rfl (fun c9 => ?_) (fun c9 => ?_)
    · skip
      exact t_iae cx htr d_1_26_24 d_1_26_27 d_1_26_28 d_1_26_31  ⟨Nat.le_of_ble_eq_true rfl, Nat.le_of_ble_eq_true rfl⟩ (Nat.le_of_ble_eq_true rfl) ⟨Nat.le_of_ble_eq_true rfl, Nat.le_of_ble_eq_true rfl⟩ (fun x hx hz => thrX (S := S1) (Or.inl rfl) hT hE hx hz)
    · skip
      refine g_aload_n cx 0 d_1_26_12 rfl rfl ?_
      refine g_ifnull cx d_1_26_13 ?_
      refine g_aload_n cx 0 d_1_26_16 rfl rfl ?_
      refine g_aload_n cx 2 d_1_26_17 rfl rfl ?_
      obtain ⟨n18, t18, w18, l18, he18, hw18, hl18, hwq18⟩ := TP.o (κ := 5) hT hy1
      obtain ⟨nw18, hw18⟩ : ∃ n, Tw k K h w18 n := ⟨_, Tx.tx hw18⟩
      refine g_callV cx (As := [.ref w]) (n := 1) (pt_has (K := K) (B := B) (T := T) (n := n) hB) d_1_26_18 t_708 t_709 t_710 t_24 t_711 ⟨by decide, by decide, by decide +kernel⟩ rfl (ci := 5) rfl hy1.1 he18 ⟨rfl, hT, hy1, hw⟩ ⟨Nat.le_of_ble_eq_true rfl, Nat.le_of_ble_eq_true rfl⟩ (Nat.le_of_ble_eq_true rfl) ⟨Nat.zero_le _, Nat.zero_le _⟩ (fun v18 h r18 => ?_) (fun x18 h r18 => by obtain ⟨-, v9, e9, -⟩ := r18; cases e9)
      obtain ⟨rfl, wo18, e18, r18⟩ := r18
      cases e18
      obtain ⟨x18, rfl, xb18⟩ := r18
      refine g_if_eq cx d_1_26_21 rfl (fun c21 => ?_) (fun c21 => ?_)
      · skip
        refine g_aload_n cx 0 d_1_26_32 rfl rfl ?_
        refine g_ifnull cx d_1_26_33 ?_
        refine g_aload_n cx 0 d_1_26_36 rfl rfl ?_
        refine g_getf cx (k := 2) d_1_26_37 in5 rfl (by decide) t_684 (Or.inl rfl) hy1.1 he18 rfl ?_
        obtain ⟨⟨ea40, mo40, hm40, hl40⟩, hb40⟩ := TP.n23 hT hl18
        refine g_pcV cx (As := []) (n := 0) (pj_size (n := (K l18).2.2)) d_1_26_40 t_235 t_236 t_237 t_8 t_238 ⟨by decide, by decide, by decide +kernel⟩ rfl (ci := 2) rfl hm40 hl40 ⟨ea40, mo40, hm40, hl40⟩ ⟨Nat.le_of_ble_eq_true rfl, Nat.le_of_ble_eq_true rfl⟩ (Nat.le_of_ble_eq_true rfl) (fun v40 r40 => ?_)
        subst r40
        refine g_bipush cx (v := 6) d_1_26_43 (by decide) ?_
        refine g_icmp_lt cx d_1_26_45 rfl (fun c45 => ?_) (fun c45 => ?_)
        · skip
          have h6 : (K l18).2.2 < 6 := (nI_ltI (b := 6) (by omega) (by decide)).mp c45
          refine g_aload_n cx 0 d_1_26_56 rfl rfl ?_
          refine g_getf cx (k := 2) d_1_26_57 in5 rfl (by decide) t_684 (Or.inl rfl) hy1.1 he18 rfl ?_
          obtain ⟨nc, hnc⟩ : ∃ nc, (K l18).2.2 = nc := ⟨_, rfl⟩
          rw [hnc] at h6
          refine g_new cx (ci := 4) (fs := [.null]) d_1_26_60 in4 ty4_ok t_535 t_536 t_21 rfl (by decide) ⟨Nat.le_of_ble_eq_true rfl, Nat.le_of_ble_eq_true rfl⟩ (fun q60 hq60 hz60 => ?_)
          have hN60 := Ev.nin hE hq60
          have ne_60_l18 : ¬ l18 = q60 := fun z => hq60 (z ▸ hl18.1)
          refine t_raw hT hq60 hz60 (fun K h hT ev hr60 hm60 he60 hol60 => ?_)
          replace hnc := (congrArg (fun z => z.2.2) ((ev.1 l18 hl18.1).2.2 id).1).trans hnc
          have hy1 := Ev.ty ev hy1
          have ha := Ev.ty ev ha
          have hw := Ev.tx ev hw
          have hl18 := Ev.ty ev hl18
          replace hE := hE.tr ev
          refine g_dup cx d_1_26_63 rfl ?_
          refine g_aload_n cx 2 d_1_26_64 rfl rfl ?_
          refine g_callI cx (ret' := none) (As := [.ref w]) (n := 1) (tc_text (n := n)) d_1_26_65 t_561 t_562 t_21 t_563 rfl ⟨by decide, by decide, by decide +kernel⟩ rfl ⟨rfl, hT, ⟨⟨hr60, hm60, he60⟩, hw⟩⟩ ⟨Nat.le_of_ble_eq_true rfl, Nat.le_of_ble_eq_true rfl⟩ (Nat.le_of_ble_eq_true rfl) ⟨Nat.zero_le _, Nat.zero_le _⟩ (fun v65 h r65 => ?_) (fun x65 h r65 => by obtain ⟨K9, -, -, e9⟩ := r65; cases e9.1)
          obtain ⟨K, hT, ev, rel65⟩ := r65
          obtain ⟨e65, hn65, hnw65, hnz65⟩ := rel65
          cases e65
          replace hnc := (congrArg (fun z => z.2.2) ((ev.1 l18 hl18.1).2.2 ne_60_l18).1).trans hnc
          have hy1 := Ev.ty ev hy1
          have ha := Ev.ty ev ha
          have hw := Ev.tx ev hw
          have hl18 := Ev.ty ev hl18
          replace hE := hE.trN hN60 ev
          obtain ⟨⟨ea68, mo68, hm68, hl68⟩, hb68⟩ := TP.n23 hT hl18
          refine g_callV cx (As := [.ref q60]) (n := 1) (tj_add (B := B) (n := nc) (ce := 3) (g := 24) (by decide) (by rw [show bd (3 + 20) B = 6 from rfl]; omega) (by omega) (by rw [show bd (3 + 20) B = 6 from rfl]; omega)) d_1_26_68 t_571 t_572 t_573 t_8 t_574 ⟨by decide, by decide, by decide +kernel⟩ rfl (ci := 2) rfl hm68 hl68 ⟨rfl, hT, hl18, hn65, hnc⟩ ⟨Nat.le_of_ble_eq_true rfl, Nat.le_of_ble_eq_true rfl⟩ (Nat.le_of_ble_eq_true rfl) ⟨Nat.le_of_ble_eq_true rfl, Nat.le_of_ble_eq_true rfl⟩ (fun v68 h r68 => ?_) (fun x68 h r68 => by obtain ⟨K9, -, -, e9, -⟩ := r68; cases e9)
          obtain ⟨K, hT, ev, e68, hnew68⟩ := r68
          cases e68
          have evr := ev
          replace ev := xd_add (e := X0) (ce := 3) (by decide) hl18 ev
          have hy1 := Ev.ty ev hy1
          have ha := Ev.ty ev ha
          have hw := Ev.tx ev hw
          replace hE := Ev.trP hE ev
          refine g_pop cx d_1_26_71 rfl ?_
          refine g_iconst cx (v := 2) d_1_26_72 (by decide) ?_
          exact g_iret cx d_1_26_73 rfl rfl ⟨K, hT, hE, Or.inl ⟨_, rfl⟩⟩
        · skip
          exact t_ise cx htr d_1_26_48 d_1_26_51 d_1_26_52 d_1_26_55  ⟨Nat.le_of_ble_eq_true rfl, Nat.le_of_ble_eq_true rfl⟩ (Nat.le_of_ble_eq_true rfl) ⟨Nat.le_of_ble_eq_true rfl, Nat.le_of_ble_eq_true rfl⟩ (fun x hx hz => thrX (S := S1) (Or.inr rfl) hT hE hx hz)
      · skip
        exact t_iae cx htr d_1_26_24 d_1_26_27 d_1_26_28 d_1_26_31  ⟨Nat.le_of_ble_eq_true rfl, Nat.le_of_ble_eq_true rfl⟩ (Nat.le_of_ble_eq_true rfl) ⟨Nat.le_of_ble_eq_true rfl, Nat.le_of_ble_eq_true rfl⟩ (fun x hx hz => thrX (S := S1) (Or.inl rfl) hT hE hx hz)
set_option maxHeartbeats 8000000 in
theorem tc_addLoaded {a w n : Nat} (hB : B < 2 ^ 17) (htr : l.stackTraces = false) : TC l y_134 prog_1_method_28_code 4 (Option.some Jvm.ClassFile.FieldType.int) (rmT 10 1 24) D z0 k [.ref a, .ref w] K (B) (T) (fun h => Ty K h 1 a ∧ Tw k K h w n) (B) (T) (XD K) (RT S1) := by
  refine tc_of (by decide) (Nat.le_of_ble_eq_true rfl) ?_
  intro h hT hp p e s m args below meth c cx hnm
  have hE : Ev k (XD K) K h K h := Ev.rf
  replace hB := hB
  have hB17 := hB
  replace hB : B < 2 ^ 20 := Nat.lt_trans hB (by decide)
  obtain ⟨ha, hw⟩ := hp
  refine g_aload_n cx 0 d_1_28_0 rfl rfl ?_
  refine g_aload_n cx 1 d_1_28_1 rfl rfl ?_
  obtain ⟨la2, lr2, tr2, tn2, he2, hla2, hlr2, htr2, htn2, hlq2, hlaq2⟩ := TP.o (κ := 1) hT ha
  refine g_callV cx (As := [.ref w]) (n := 1) (pt_archiveWith (K := K) (B := B) (T := T) (n := n) hB) d_1_28_2 t_668 t_670 ts_12 t_1 t_671 ⟨by decide, by decide, by decide +kernel⟩ rfl (ci := 0) rfl ha.1 he2 ⟨rfl, hT, ha, hw⟩ ⟨Nat.le_of_ble_eq_true rfl, Nat.le_of_ble_eq_true rfl⟩ (Nat.le_of_ble_eq_true rfl) ⟨Nat.zero_le _, Nat.zero_le _⟩ (fun v2 h r2 => ?_) (fun x2 h r2 => by obtain ⟨-, v9, e9, -⟩ := r2; cases e9)
  obtain ⟨rfl, wo2, e2, r2⟩ := r2
  cases e2
  rcases r2 with rfl | ⟨y2, rfl, hy2⟩
  · skip
    refine g_astore_nN cx (lv' := [(2, .null), (0, .ref a), (1, .ref w)]) d_1_28_5 rfl (by decide) rfl ?_
    refine g_aload_n cx 1 d_1_28_6 rfl rfl ?_
    refine g_callV cx (As := []) (n := 0) (pt_latestRealm (K := K) (B := B) (T := T) hB) d_1_28_7 t_633 t_635 ts_9 t_1 t_636 ⟨by decide, by decide, by decide +kernel⟩ rfl (ci := 0) rfl ha.1 he2 ⟨rfl, hT, ha⟩ ⟨Nat.le_of_ble_eq_true rfl, Nat.le_of_ble_eq_true rfl⟩ (Nat.le_of_ble_eq_true rfl) ⟨Nat.zero_le _, Nat.zero_le _⟩ (fun v7 h r7 => ?_) (fun x7 h r7 => by obtain ⟨-, v9, e9, -⟩ := r7; cases e9)
    obtain ⟨rfl, wo7, e7, r7⟩ := r7
    cases e7
    rcases r7 with rfl | ⟨y7, rfl, hy7⟩
    · skip
      refine g_astore_nN cx (lv' := [(3, .null), (2, .null), (0, .ref a), (1, .ref w)]) d_1_28_10 rfl (by decide) rfl ?_
      refine g_aload_nN cx 1 d_1_28_11 rfl rfl ?_
      refine g_ifnullN cx d_1_28_12 rfl ?_
      exact t_iae cx htr d_1_28_27 d_1_28_30 d_1_28_31 d_1_28_34  ⟨Nat.le_of_ble_eq_true rfl, Nat.le_of_ble_eq_true rfl⟩ (Nat.le_of_ble_eq_true rfl) ⟨Nat.le_of_ble_eq_true rfl, Nat.le_of_ble_eq_true rfl⟩ (fun x hx hz => thrX (S := S1) (Or.inl rfl) hT hE hx hz)
    · skip
      refine g_astore_n cx (lv' := [(3, .ref y7), (2, .null), (0, .ref a), (1, .ref w)]) d_1_28_10 rfl (by decide) rfl ?_
      refine g_aload_nN cx 1 d_1_28_11 rfl rfl ?_
      refine g_ifnullN cx d_1_28_12 rfl ?_
      exact t_iae cx htr d_1_28_27 d_1_28_30 d_1_28_31 d_1_28_34  ⟨Nat.le_of_ble_eq_true rfl, Nat.le_of_ble_eq_true rfl⟩ (Nat.le_of_ble_eq_true rfl) ⟨Nat.le_of_ble_eq_true rfl, Nat.le_of_ble_eq_true rfl⟩ (fun x hx hz => thrX (S := S1) (Or.inl rfl) hT hE hx hz)
  · skip
    refine g_astore_n cx (lv' := [(2, .ref y2), (0, .ref a), (1, .ref w)]) d_1_28_5 rfl (by decide) rfl ?_
    refine g_aload_n cx 1 d_1_28_6 rfl rfl ?_
    refine g_callV cx (As := []) (n := 0) (pt_latestRealm (K := K) (B := B) (T := T) hB) d_1_28_7 t_633 t_635 ts_9 t_1 t_636 ⟨by decide, by decide, by decide +kernel⟩ rfl (ci := 0) rfl ha.1 he2 ⟨rfl, hT, ha⟩ ⟨Nat.le_of_ble_eq_true rfl, Nat.le_of_ble_eq_true rfl⟩ (Nat.le_of_ble_eq_true rfl) ⟨Nat.zero_le _, Nat.zero_le _⟩ (fun v7 h r7 => ?_) (fun x7 h r7 => by obtain ⟨-, v9, e9, -⟩ := r7; cases e9)
    obtain ⟨rfl, wo7, e7, r7⟩ := r7
    cases e7
    rcases r7 with rfl | ⟨y7, rfl, hy7⟩
    · skip
      refine g_astore_nN cx (lv' := [(3, .null), (2, .ref y2), (0, .ref a), (1, .ref w)]) d_1_28_10 rfl (by decide) rfl ?_
      refine g_aload_n cx 1 d_1_28_11 rfl rfl ?_
      refine g_ifnull cx d_1_28_12 ?_
      refine g_aload_nN cx 0 d_1_28_15 rfl rfl ?_
      refine g_ifnullN cx d_1_28_16 rfl ?_
      refine g_aload_nN cx 0 d_1_28_35 rfl rfl ?_
      refine g_ifnullN cx d_1_28_36 rfl ?_
      exact t_ise cx htr d_1_28_57 d_1_28_60 d_1_28_61 d_1_28_64  ⟨Nat.le_of_ble_eq_true rfl, Nat.le_of_ble_eq_true rfl⟩ (Nat.le_of_ble_eq_true rfl) ⟨Nat.le_of_ble_eq_true rfl, Nat.le_of_ble_eq_true rfl⟩ (fun x hx hz => thrX (S := S1) (Or.inr rfl) hT hE hx hz)
    · skip
      refine g_astore_n cx (lv' := [(3, .ref y7), (2, .ref y2), (0, .ref a), (1, .ref w)]) d_1_28_10 rfl (by decide) rfl ?_
      refine g_aload_n cx 1 d_1_28_11 rfl rfl ?_
      refine g_ifnull cx d_1_28_12 ?_
      refine g_aload_n cx 0 d_1_28_15 rfl rfl ?_
      refine g_ifnull cx d_1_28_16 ?_
      refine g_aload_n cx 0 d_1_28_19 rfl rfl ?_
      refine g_aload_n cx 1 d_1_28_20 rfl rfl ?_
      obtain ⟨n21, b121, b221, b321, w21, lo21, im21, fi21, pa21, he21, hw21, hlo21, him21, hfi21, hpa21, hwq21⟩ := TP.o (κ := 6) hT hy7
      obtain ⟨nw21, hw21⟩ : ∃ n, Tw k K h w21 n := ⟨_, Tx.tx hw21⟩
      refine g_callV cx (As := [.ref y2]) (n := 1) (pt_hasLoaded (K := K) (B := B) (T := T) hB) d_1_28_21 t_770 t_771 t_772 t_25 t_773 ⟨by decide, by decide, by decide +kernel⟩ rfl (ci := 6) rfl hy7.1 he21 ⟨rfl, hT, hy7⟩ ⟨Nat.le_of_ble_eq_true rfl, Nat.le_of_ble_eq_true rfl⟩ (Nat.le_of_ble_eq_true rfl) ⟨Nat.zero_le _, Nat.zero_le _⟩ (fun v21 h r21 => ?_) (fun x21 h r21 => by obtain ⟨-, v9, e9, -⟩ := r21; cases e9)
      obtain ⟨rfl, wo21, e21, r21⟩ := r21
      cases e21
      obtain ⟨x21, rfl, xb21⟩ := r21
      refine g_if_eq cx d_1_28_24 rfl (fun c24 => ?_) (fun c24 => ?_)
      · skip
        refine g_aload_n cx 0 d_1_28_35 rfl rfl ?_
        refine g_ifnull cx d_1_28_36 ?_
        refine g_aload_n cx 0 d_1_28_39 rfl rfl ?_
        refine g_getf cx (k := 7) d_1_28_40 in6 rfl (by decide) t_743 (Or.inl rfl) hy7.1 he21 rfl ?_
        refine g_if_ne cx d_1_28_43 rfl (fun c43 => ?_) (fun c43 => ?_)
        · skip
          exact t_ise cx htr d_1_28_57 d_1_28_60 d_1_28_61 d_1_28_64  ⟨Nat.le_of_ble_eq_true rfl, Nat.le_of_ble_eq_true rfl⟩ (Nat.le_of_ble_eq_true rfl) ⟨Nat.le_of_ble_eq_true rfl, Nat.le_of_ble_eq_true rfl⟩ (fun x hx hz => thrX (S := S1) (Or.inr rfl) hT hE hx hz)
        · skip
          refine g_aload_n cx 0 d_1_28_46 rfl rfl ?_
          refine g_getf cx (k := 2) d_1_28_47 in6 rfl (by decide) t_733 (Or.inl rfl) hy7.1 he21 rfl ?_
          obtain ⟨⟨ea50, mo50, hm50, hl50⟩, hb50⟩ := TP.n29 hT hlo21
          refine g_pcV cx (As := []) (n := 0) (pj_size (n := (K lo21).2.2)) d_1_28_50 t_235 t_236 t_237 t_8 t_238 ⟨by decide, by decide, by decide +kernel⟩ rfl (ci := 2) rfl hm50 hl50 ⟨ea50, mo50, hm50, hl50⟩ ⟨Nat.le_of_ble_eq_true rfl, Nat.le_of_ble_eq_true rfl⟩ (Nat.le_of_ble_eq_true rfl) (fun v50 r50 => ?_)
          subst r50
          refine g_iconst cx (v := 4) d_1_28_53 (by decide) ?_
          refine g_icmp_lt cx d_1_28_54 rfl (fun c54 => ?_) (fun c54 => ?_)
          · skip
            have h6 : (K lo21).2.2 < 4 := (nI_ltI (b := 4) (by omega) (by decide)).mp c54
            refine g_aload_n cx 0 d_1_28_65 rfl rfl ?_
            refine g_getf cx (k := 2) d_1_28_66 in6 rfl (by decide) t_733 (Or.inl rfl) hy7.1 he21 rfl ?_
            obtain ⟨nc, hnc⟩ : ∃ nc, (K lo21).2.2 = nc := ⟨_, rfl⟩
            rw [hnc] at h6
            refine g_aload_n cx 1 d_1_28_69 rfl rfl ?_
            obtain ⟨⟨ea70, mo70, hm70, hl70⟩, hb70⟩ := TP.n29 hT hlo21
            refine g_callV cx (As := [.ref y2]) (n := 1) (tj_add (B := B) (n := nc) (ce := 9) (g := 24) (by decide) (by rw [show bd (9 + 20) B = 4 from rfl]; omega) (by omega) (by rw [show bd (9 + 20) B = 4 from rfl]; omega)) d_1_28_70 t_571 t_572 t_573 t_8 t_574 ⟨by decide, by decide, by decide +kernel⟩ rfl (ci := 2) rfl hm70 hl70 ⟨rfl, hT, hlo21, hy2, hnc⟩ ⟨Nat.le_of_ble_eq_true rfl, Nat.le_of_ble_eq_true rfl⟩ (Nat.le_of_ble_eq_true rfl) ⟨Nat.le_of_ble_eq_true rfl, Nat.le_of_ble_eq_true rfl⟩ (fun v70 h r70 => ?_) (fun x70 h r70 => by obtain ⟨K9, -, -, e9, -⟩ := r70; cases e9)
            obtain ⟨K, hT, ev, e70, hnew70⟩ := r70
            cases e70
            have evr := ev
            replace ev := xd_add (e := X0) (ce := 9) (by decide) hlo21 ev
            have hy7 := Ev.ty ev hy7
            have hy2 := Ev.ty ev hy2
            have ha := Ev.ty ev ha
            have hw := Ev.tx ev hw
            replace hE := Ev.trP hE ev
            refine g_pop cx d_1_28_73 rfl ?_
            refine g_iconst cx (v := 4) d_1_28_74 (by decide) ?_
            exact g_iret cx d_1_28_75 rfl rfl ⟨K, hT, hE, Or.inl ⟨_, rfl⟩⟩
          · skip
            exact t_ise cx htr d_1_28_57 d_1_28_60 d_1_28_61 d_1_28_64  ⟨Nat.le_of_ble_eq_true rfl, Nat.le_of_ble_eq_true rfl⟩ (Nat.le_of_ble_eq_true rfl) ⟨Nat.le_of_ble_eq_true rfl, Nat.le_of_ble_eq_true rfl⟩ (fun x hx hz => thrX (S := S1) (Or.inr rfl) hT hE hx hz)
      · skip
        exact t_iae cx htr d_1_28_27 d_1_28_30 d_1_28_31 d_1_28_34  ⟨Nat.le_of_ble_eq_true rfl, Nat.le_of_ble_eq_true rfl⟩ (Nat.le_of_ble_eq_true rfl) ⟨Nat.le_of_ble_eq_true rfl, Nat.le_of_ble_eq_true rfl⟩ (fun x hx hz => thrX (S := S1) (Or.inl rfl) hT hE hx hz)
set_option maxHeartbeats 8000000 in
theorem tc_addImport {a w n wb nb : Nat} (hB : B < 2 ^ 17) (htr : l.stackTraces = false) : TC l y_138 prog_1_method_29_code 5 (Option.some Jvm.ClassFile.FieldType.int) (rmT 11 64 1270) D z0 k [.ref a, .ref w, .ref wb] K (B) (T) (fun h => Ty K h 1 a ∧ Tw k K h w n ∧ Tw k K h wb nb) (B) (T) (XD K) (RT S1) := by
  refine tc_of (by decide) (Nat.le_of_ble_eq_true rfl) ?_
  intro h hT hp p e s m args below meth c cx hnm
  have hE : Ev k (XD K) K h K h := Ev.rf
  replace hB := hB
  have hB17 := hB
  replace hB : B < 2 ^ 20 := Nat.lt_trans hB (by decide)
  obtain ⟨ha, hw, hwb⟩ := hp
  refine g_aload_n cx 0 d_1_29_0 rfl rfl ?_
  refine g_aload_n cx 2 d_1_29_1 rfl rfl ?_
  obtain ⟨la2, lr2, tr2, tn2, he2, hla2, hlr2, htr2, htn2, hlq2, hlaq2⟩ := TP.o (κ := 1) hT ha
  refine g_callV cx (As := [.ref wb]) (n := 1) (pt_realmWith (K := K) (B := B) (T := T) (n := nb) hB) d_1_29_2 t_487 t_489 ts_3 t_1 t_490 ⟨by decide, by decide, by decide +kernel⟩ rfl (ci := 0) rfl ha.1 he2 ⟨rfl, hT, ha, hwb⟩ ⟨Nat.le_of_ble_eq_true rfl, Nat.le_of_ble_eq_true rfl⟩ (Nat.le_of_ble_eq_true rfl) ⟨Nat.zero_le _, Nat.zero_le _⟩ (fun v2 h r2 => ?_) (fun x2 h r2 => by obtain ⟨-, v9, e9, -⟩ := r2; cases e9)
  obtain ⟨rfl, wo2, e2, r2⟩ := r2
  cases e2
  rcases r2 with rfl | ⟨y2, rfl, hy2⟩
  · skip
    refine g_astore_nN cx (lv' := [(3, .null), (0, .ref a), (1, .ref w), (2, .ref wb)]) d_1_29_5 rfl (by decide) rfl ?_
    refine g_aload_n cx 1 d_1_29_6 rfl rfl ?_
    refine g_callV cx (As := []) (n := 0) (pt_latestRealm (K := K) (B := B) (T := T) hB) d_1_29_7 t_633 t_635 ts_9 t_1 t_636 ⟨by decide, by decide, by decide +kernel⟩ rfl (ci := 0) rfl ha.1 he2 ⟨rfl, hT, ha⟩ ⟨Nat.le_of_ble_eq_true rfl, Nat.le_of_ble_eq_true rfl⟩ (Nat.le_of_ble_eq_true rfl) ⟨Nat.zero_le _, Nat.zero_le _⟩ (fun v7 h r7 => ?_) (fun x7 h r7 => by obtain ⟨-, v9, e9, -⟩ := r7; cases e9)
    obtain ⟨rfl, wo7, e7, r7⟩ := r7
    cases e7
    rcases r7 with rfl | ⟨y7, rfl, hy7⟩
    · skip
      refine g_astoreN cx (lv' := [(4, .null), (3, .null), (0, .ref a), (1, .ref w), (2, .ref wb)]) d_1_29_10 (by decide) rfl ?_
      refine g_aload_n cx 3 d_1_29_12 rfl rfl ?_
      refine g_callS cx (As := [.ref w]) (n := 1) (tc_isName (n := n)) d_1_29_13 t_705 t_706 t_1 t_707 ⟨by decide, by decide, by decide +kernel⟩ rfl ⟨rfl, hT, hw⟩ ⟨Nat.le_of_ble_eq_true rfl, Nat.le_of_ble_eq_true rfl⟩ (Nat.le_of_ble_eq_true rfl) ⟨Nat.le_of_ble_eq_true rfl, Nat.le_of_ble_eq_true rfl⟩ (fun v13 h r13 => ?_) (fun x13 h r13 => by obtain ⟨K9, -, -, x9, e9, -⟩ := r13; cases e9)
      obtain ⟨K, hT, ev, rel13⟩ := r13
      obtain ⟨x13, e13, xb13, xz13⟩ := rel13
      cases e13
      have ha := Ev.ty ev ha
      have hw := Ev.tx ev hw
      have hwb := Ev.tx ev hwb
      replace hE := hE.tr ev
      refine g_if_eq cx d_1_29_16 rfl (fun c16 => ?_) (fun c16 => ?_)
      · skip
        exact t_iae cx htr d_1_29_29 d_1_29_32 d_1_29_33 d_1_29_36  ⟨Nat.le_of_ble_eq_true rfl, Nat.le_of_ble_eq_true rfl⟩ (Nat.le_of_ble_eq_true rfl) ⟨Nat.le_of_ble_eq_true rfl, Nat.le_of_ble_eq_true rfl⟩ (fun x hx hz => thrX (S := S1) (Or.inl rfl) hT hE hx hz)
      · skip
        refine g_aload_nN cx 1 d_1_29_19 rfl rfl ?_
        refine g_ifnullN cx d_1_29_20 rfl ?_
        exact t_iae cx htr d_1_29_29 d_1_29_32 d_1_29_33 d_1_29_36  ⟨Nat.le_of_ble_eq_true rfl, Nat.le_of_ble_eq_true rfl⟩ (Nat.le_of_ble_eq_true rfl) ⟨Nat.le_of_ble_eq_true rfl, Nat.le_of_ble_eq_true rfl⟩ (fun x hx hz => thrX (S := S1) (Or.inl rfl) hT hE hx hz)
    · skip
      refine g_astore cx (lv' := [(4, .ref y7), (3, .null), (0, .ref a), (1, .ref w), (2, .ref wb)]) d_1_29_10 (by decide) rfl ?_
      refine g_aload_n cx 3 d_1_29_12 rfl rfl ?_
      refine g_callS cx (As := [.ref w]) (n := 1) (tc_isName (n := n)) d_1_29_13 t_705 t_706 t_1 t_707 ⟨by decide, by decide, by decide +kernel⟩ rfl ⟨rfl, hT, hw⟩ ⟨Nat.le_of_ble_eq_true rfl, Nat.le_of_ble_eq_true rfl⟩ (Nat.le_of_ble_eq_true rfl) ⟨Nat.le_of_ble_eq_true rfl, Nat.le_of_ble_eq_true rfl⟩ (fun v13 h r13 => ?_) (fun x13 h r13 => by obtain ⟨K9, -, -, x9, e9, -⟩ := r13; cases e9)
      obtain ⟨K, hT, ev, rel13⟩ := r13
      obtain ⟨x13, e13, xb13, xz13⟩ := rel13
      cases e13
      have hy7 := Ev.ty ev hy7
      have ha := Ev.ty ev ha
      have hw := Ev.tx ev hw
      have hwb := Ev.tx ev hwb
      replace hE := hE.tr ev
      refine g_if_eq cx d_1_29_16 rfl (fun c16 => ?_) (fun c16 => ?_)
      · skip
        exact t_iae cx htr d_1_29_29 d_1_29_32 d_1_29_33 d_1_29_36  ⟨Nat.le_of_ble_eq_true rfl, Nat.le_of_ble_eq_true rfl⟩ (Nat.le_of_ble_eq_true rfl) ⟨Nat.le_of_ble_eq_true rfl, Nat.le_of_ble_eq_true rfl⟩ (fun x hx hz => thrX (S := S1) (Or.inl rfl) hT hE hx hz)
      · skip
        refine g_aload_nN cx 1 d_1_29_19 rfl rfl ?_
        refine g_ifnullN cx d_1_29_20 rfl ?_
        exact t_iae cx htr d_1_29_29 d_1_29_32 d_1_29_33 d_1_29_36  ⟨Nat.le_of_ble_eq_true rfl, Nat.le_of_ble_eq_true rfl⟩ (Nat.le_of_ble_eq_true rfl) ⟨Nat.le_of_ble_eq_true rfl, Nat.le_of_ble_eq_true rfl⟩ (fun x hx hz => thrX (S := S1) (Or.inl rfl) hT hE hx hz)
  · skip
    refine g_astore_n cx (lv' := [(3, .ref y2), (0, .ref a), (1, .ref w), (2, .ref wb)]) d_1_29_5 rfl (by decide) rfl ?_
    refine g_aload_n cx 1 d_1_29_6 rfl rfl ?_
    refine g_callV cx (As := []) (n := 0) (pt_latestRealm (K := K) (B := B) (T := T) hB) d_1_29_7 t_633 t_635 ts_9 t_1 t_636 ⟨by decide, by decide, by decide +kernel⟩ rfl (ci := 0) rfl ha.1 he2 ⟨rfl, hT, ha⟩ ⟨Nat.le_of_ble_eq_true rfl, Nat.le_of_ble_eq_true rfl⟩ (Nat.le_of_ble_eq_true rfl) ⟨Nat.zero_le _, Nat.zero_le _⟩ (fun v7 h r7 => ?_) (fun x7 h r7 => by obtain ⟨-, v9, e9, -⟩ := r7; cases e9)
    obtain ⟨rfl, wo7, e7, r7⟩ := r7
    cases e7
    rcases r7 with rfl | ⟨y7, rfl, hy7⟩
    · skip
      refine g_astoreN cx (lv' := [(4, .null), (3, .ref y2), (0, .ref a), (1, .ref w), (2, .ref wb)]) d_1_29_10 (by decide) rfl ?_
      refine g_aload_n cx 3 d_1_29_12 rfl rfl ?_
      refine g_callS cx (As := [.ref w]) (n := 1) (tc_isName (n := n)) d_1_29_13 t_705 t_706 t_1 t_707 ⟨by decide, by decide, by decide +kernel⟩ rfl ⟨rfl, hT, hw⟩ ⟨Nat.le_of_ble_eq_true rfl, Nat.le_of_ble_eq_true rfl⟩ (Nat.le_of_ble_eq_true rfl) ⟨Nat.le_of_ble_eq_true rfl, Nat.le_of_ble_eq_true rfl⟩ (fun v13 h r13 => ?_) (fun x13 h r13 => by obtain ⟨K9, -, -, x9, e9, -⟩ := r13; cases e9)
      obtain ⟨K, hT, ev, rel13⟩ := r13
      obtain ⟨x13, e13, xb13, xz13⟩ := rel13
      cases e13
      have hy2 := Ev.ty ev hy2
      have ha := Ev.ty ev ha
      have hw := Ev.tx ev hw
      have hwb := Ev.tx ev hwb
      replace hE := hE.tr ev
      refine g_if_eq cx d_1_29_16 rfl (fun c16 => ?_) (fun c16 => ?_)
      · skip
        exact t_iae cx htr d_1_29_29 d_1_29_32 d_1_29_33 d_1_29_36  ⟨Nat.le_of_ble_eq_true rfl, Nat.le_of_ble_eq_true rfl⟩ (Nat.le_of_ble_eq_true rfl) ⟨Nat.le_of_ble_eq_true rfl, Nat.le_of_ble_eq_true rfl⟩ (fun x hx hz => thrX (S := S1) (Or.inl rfl) hT hE hx hz)
      · skip
        refine g_aload_n cx 1 d_1_29_19 rfl rfl ?_
        refine g_ifnull cx d_1_29_20 ?_
        refine g_aload_n cx 1 d_1_29_23 rfl rfl ?_
        refine g_aloadN cx 0 d_1_29_24 rfl ?_
        refine g_acmp_ne cx (rx := (some (y2))) (ry := none) d_1_29_26 rfl (fun c26 => ?_) (fun c26 => ?_)
        · skip
          refine g_aloadN cx 0 d_1_29_37 rfl ?_
          refine g_ifnullN cx d_1_29_39 rfl ?_
          exact t_ise cx htr d_1_29_62 d_1_29_65 d_1_29_66 d_1_29_69  ⟨Nat.le_of_ble_eq_true rfl, Nat.le_of_ble_eq_true rfl⟩ (Nat.le_of_ble_eq_true rfl) ⟨Nat.le_of_ble_eq_true rfl, Nat.le_of_ble_eq_true rfl⟩ (fun x hx hz => thrX (S := S1) (Or.inr rfl) hT hE hx hz)
        · skip
          exact t_iae cx htr d_1_29_29 d_1_29_32 d_1_29_33 d_1_29_36  ⟨Nat.le_of_ble_eq_true rfl, Nat.le_of_ble_eq_true rfl⟩ (Nat.le_of_ble_eq_true rfl) ⟨Nat.le_of_ble_eq_true rfl, Nat.le_of_ble_eq_true rfl⟩ (fun x hx hz => thrX (S := S1) (Or.inl rfl) hT hE hx hz)
    · skip
      refine g_astore cx (lv' := [(4, .ref y7), (3, .ref y2), (0, .ref a), (1, .ref w), (2, .ref wb)]) d_1_29_10 (by decide) rfl ?_
      refine g_aload_n cx 3 d_1_29_12 rfl rfl ?_
      refine g_callS cx (As := [.ref w]) (n := 1) (tc_isName (n := n)) d_1_29_13 t_705 t_706 t_1 t_707 ⟨by decide, by decide, by decide +kernel⟩ rfl ⟨rfl, hT, hw⟩ ⟨Nat.le_of_ble_eq_true rfl, Nat.le_of_ble_eq_true rfl⟩ (Nat.le_of_ble_eq_true rfl) ⟨Nat.le_of_ble_eq_true rfl, Nat.le_of_ble_eq_true rfl⟩ (fun v13 h r13 => ?_) (fun x13 h r13 => by obtain ⟨K9, -, -, x9, e9, -⟩ := r13; cases e9)
      obtain ⟨K, hT, ev, rel13⟩ := r13
      obtain ⟨x13, e13, xb13, xz13⟩ := rel13
      cases e13
      have hy7 := Ev.ty ev hy7
      have hy2 := Ev.ty ev hy2
      have ha := Ev.ty ev ha
      have hw := Ev.tx ev hw
      have hwb := Ev.tx ev hwb
      replace hE := hE.tr ev
      refine g_if_eq cx d_1_29_16 rfl (fun c16 => ?_) (fun c16 => ?_)
      · skip
        exact t_iae cx htr d_1_29_29 d_1_29_32 d_1_29_33 d_1_29_36  ⟨Nat.le_of_ble_eq_true rfl, Nat.le_of_ble_eq_true rfl⟩ (Nat.le_of_ble_eq_true rfl) ⟨Nat.le_of_ble_eq_true rfl, Nat.le_of_ble_eq_true rfl⟩ (fun x hx hz => thrX (S := S1) (Or.inl rfl) hT hE hx hz)
      · skip
        refine g_aload_n cx 1 d_1_29_19 rfl rfl ?_
        refine g_ifnull cx d_1_29_20 ?_
        refine g_aload_n cx 1 d_1_29_23 rfl rfl ?_
        refine g_aload cx 0 d_1_29_24 rfl ?_
        refine g_acmp_ne cx (rx := (some (y2))) (ry := (some (y7))) d_1_29_26 rfl (fun c26 => ?_) (fun c26 => ?_)
        · skip
          refine g_aload cx 0 d_1_29_37 rfl ?_
          refine g_ifnull cx d_1_29_39 ?_
          refine g_aload cx 0 d_1_29_42 rfl ?_
          obtain ⟨n44, b144, b244, b344, w44, lo44, im44, fi44, pa44, he44, hw44, hlo44, him44, hfi44, hpa44, hwq44⟩ := TP.o (κ := 6) hT hy7
          obtain ⟨nw44, hw44⟩ : ∃ n, Tw k K h w44 n := ⟨_, Tx.tx hw44⟩
          refine g_getf cx (k := 7) d_1_29_44 in6 rfl (by decide) t_743 (Or.inl rfl) hy7.1 he44 rfl ?_
          refine g_if_ne cx d_1_29_47 rfl (fun c47 => ?_) (fun c47 => ?_)
          · skip
            exact t_ise cx htr d_1_29_62 d_1_29_65 d_1_29_66 d_1_29_69  ⟨Nat.le_of_ble_eq_true rfl, Nat.le_of_ble_eq_true rfl⟩ (Nat.le_of_ble_eq_true rfl) ⟨Nat.le_of_ble_eq_true rfl, Nat.le_of_ble_eq_true rfl⟩ (fun x hx hz => thrX (S := S1) (Or.inr rfl) hT hE hx hz)
          · skip
            refine g_aload cx 0 d_1_29_50 rfl ?_
            refine g_getf cx (k := 3) d_1_29_52 in6 rfl (by decide) t_735 (Or.inl rfl) hy7.1 he44 rfl ?_
            obtain ⟨⟨ea55, mo55, hm55, hl55⟩, hb55⟩ := TP.n27 hT him44
            refine g_pcV cx (As := []) (n := 0) (pj_size (n := (K im44).2.2)) d_1_29_55 t_235 t_236 t_237 t_8 t_238 ⟨by decide, by decide, by decide +kernel⟩ rfl (ci := 2) rfl hm55 hl55 ⟨ea55, mo55, hm55, hl55⟩ ⟨Nat.le_of_ble_eq_true rfl, Nat.le_of_ble_eq_true rfl⟩ (Nat.le_of_ble_eq_true rfl) (fun v55 r55 => ?_)
            subst r55
            refine g_iconst cx (v := 4) d_1_29_58 (by decide) ?_
            refine g_icmp_lt cx d_1_29_59 rfl (fun c59 => ?_) (fun c59 => ?_)
            · skip
              have h6 : (K im44).2.2 < 4 := (nI_ltI (b := 4) (by omega) (by decide)).mp c59
              obtain ⟨nc, hnc⟩ : ∃ nc, (K im44).2.2 = nc := ⟨_, rfl⟩
              rw [hnc] at h6
              refine g_aload cx 0 d_1_29_70 rfl ?_
              refine g_new cx (ci := 7) (fs := [.null, .null]) d_1_29_72 in7 ty7_ok t_791 t_792 t_26 rfl (by decide) ⟨Nat.le_of_ble_eq_true rfl, Nat.le_of_ble_eq_true rfl⟩ (fun q72 hq72 hz72 => ?_)
              have hN72 := Ev.nin hE hq72
              have ne_72_y7 : ¬ y7 = q72 := fun z => hq72 (z ▸ hy7.1)
              have ne_72_im44 : ¬ im44 = q72 := fun z => hq72 (z ▸ him44.1)
              refine t_raw hT hq72 hz72 (fun K h hT ev hr72 hm72 he72 hol72 => ?_)
              replace he44 := ((ev.1 y7 hy7.1).2.2 id).2.trans he44
              replace hnc := (congrArg (fun z => z.2.2) ((ev.1 im44 him44.1).2.2 id).1).trans hnc
              have hy7 := Ev.ty ev hy7
              have hy2 := Ev.ty ev hy2
              have ha := Ev.ty ev ha
              have hw := Ev.tx ev hw
              have hwb := Ev.tx ev hwb
              have hw44 := Ev.tx ev hw44
              have hlo44 := Ev.ty ev hlo44
              have him44 := Ev.ty ev him44
              have hfi44 := Ev.ty ev hfi44
              replace hE := hE.tr ev
              refine g_dup cx d_1_29_75 rfl ?_
              refine g_aload_n cx 3 d_1_29_76 rfl rfl ?_
              refine g_aload_n cx 1 d_1_29_77 rfl rfl ?_
              refine g_callI cx (ret' := none) (As := [.ref w, .ref y2]) (n := 2) (tc_import (n := n)) d_1_29_78 t_793 t_794 t_26 t_795 rfl ⟨by decide, by decide, by decide +kernel⟩ rfl ⟨rfl, hT, ⟨⟨hr72, hm72, he72⟩, hw, hy2⟩⟩ ⟨Nat.le_of_ble_eq_true rfl, Nat.le_of_ble_eq_true rfl⟩ (Nat.le_of_ble_eq_true rfl) ⟨Nat.le_of_ble_eq_true rfl, Nat.le_of_ble_eq_true rfl⟩ (fun v78 h r78 => ?_) (fun x78 h r78 => by obtain ⟨K9, -, -, e9⟩ := r78; cases e9.1)
              obtain ⟨K, hT, ev, rel78⟩ := r78
              obtain ⟨e78, hn78, hnw78, hnz78⟩ := rel78
              cases e78
              replace he44 := ((ev.1 y7 hy7.1).2.2 ne_72_y7).2.trans he44
              replace hnc := (congrArg (fun z => z.2.2) ((ev.1 im44 him44.1).2.2 ne_72_im44).1).trans hnc
              have hy7 := Ev.ty ev hy7
              have hy2 := Ev.ty ev hy2
              have ha := Ev.ty ev ha
              have hw := Ev.tx ev hw
              have hwb := Ev.tx ev hwb
              have hw44 := Ev.tx ev hw44
              have hlo44 := Ev.ty ev hlo44
              have him44 := Ev.ty ev him44
              have hfi44 := Ev.ty ev hfi44
              replace hE := hE.trN hN72 ev
              refine g_callV cx (As := [.ref q72]) (n := 1) (tc_insert (nc := nc) hB17 h6) d_1_29_81 t_807 t_808 t_809 t_25 t_810 ⟨by decide, by decide, by decide +kernel⟩ rfl (ci := 6) rfl hy7.1 he44 ⟨rfl, hT, hy7.1, he44, him44, hn78, hnc⟩ ⟨Nat.le_of_ble_eq_true rfl, Nat.le_of_ble_eq_true rfl⟩ (Nat.le_of_ble_eq_true rfl) ⟨Nat.le_of_ble_eq_true rfl, Nat.le_of_ble_eq_true rfl⟩ (fun v81 h r81 => ?_) (fun x81 h r81 => by obtain ⟨K9, -, -, e9⟩ := r81; cases e9)
              obtain ⟨K, hT, ev, rel81⟩ := r81
              cases rel81
              have hy7 := Ev.ty ev hy7
              have hy2 := Ev.ty ev hy2
              have ha := Ev.ty ev ha
              have hw := Ev.tx ev hw
              have hwb := Ev.tx ev hwb
              replace hE := Ev.trP hE ev
              refine g_iconst cx (v := 4) d_1_29_84 (by decide) ?_
              exact g_iret cx d_1_29_85 rfl rfl ⟨K, hT, hE, Or.inl ⟨_, rfl⟩⟩
            · skip
              exact t_ise cx htr d_1_29_62 d_1_29_65 d_1_29_66 d_1_29_69  ⟨Nat.le_of_ble_eq_true rfl, Nat.le_of_ble_eq_true rfl⟩ (Nat.le_of_ble_eq_true rfl) ⟨Nat.le_of_ble_eq_true rfl, Nat.le_of_ble_eq_true rfl⟩ (fun x hx hz => thrX (S := S1) (Or.inr rfl) hT hE hx hz)
        · skip
          exact t_iae cx htr d_1_29_29 d_1_29_32 d_1_29_33 d_1_29_36  ⟨Nat.le_of_ble_eq_true rfl, Nat.le_of_ble_eq_true rfl⟩ (Nat.le_of_ble_eq_true rfl) ⟨Nat.le_of_ble_eq_true rfl, Nat.le_of_ble_eq_true rfl⟩ (fun x hx hz => thrX (S := S1) (Or.inl rfl) hT hE hx hz)
set_option maxHeartbeats 8000000 in
theorem tc_setParent {a w n : Nat} (hB : B < 2 ^ 17) (htr : l.stackTraces = false) : TC l y_136 prog_1_method_30_code 4 (Option.some Jvm.ClassFile.FieldType.int) (rmT 7 1 6) D z0 k [.ref a, .ref w] K (B) (T) (fun h => Ty K h 1 a ∧ Tw k K h w n) (B) (T) (XN K) (RT S1) := by
  refine tc_of (by decide) (Nat.le_of_ble_eq_true rfl) ?_
  intro h hT hp p e s m args below meth c cx hnm
  have hE : Ev k (XN K) K h K h := Ev.rf
  replace hB := hB
  have hB17 := hB
  replace hB : B < 2 ^ 20 := Nat.lt_trans hB (by decide)
  obtain ⟨ha, hw⟩ := hp
  refine g_aload_n cx 0 d_1_30_0 rfl rfl ?_
  refine g_aload_n cx 1 d_1_30_1 rfl rfl ?_
  obtain ⟨la2, lr2, tr2, tn2, he2, hla2, hlr2, htr2, htn2, hlq2, hlaq2⟩ := TP.o (κ := 1) hT ha
  refine g_callV cx (As := [.ref w]) (n := 1) (pt_realmWith (K := K) (B := B) (T := T) (n := n) hB) d_1_30_2 t_487 t_489 ts_3 t_1 t_490 ⟨by decide, by decide, by decide +kernel⟩ rfl (ci := 0) rfl ha.1 he2 ⟨rfl, hT, ha, hw⟩ ⟨Nat.le_of_ble_eq_true rfl, Nat.le_of_ble_eq_true rfl⟩ (Nat.le_of_ble_eq_true rfl) ⟨Nat.zero_le _, Nat.zero_le _⟩ (fun v2 h r2 => ?_) (fun x2 h r2 => by obtain ⟨-, v9, e9, -⟩ := r2; cases e9)
  obtain ⟨rfl, wo2, e2, r2⟩ := r2
  cases e2
  rcases r2 with rfl | ⟨y2, rfl, hy2⟩
  · skip
    refine g_astore_nN cx (lv' := [(2, .null), (0, .ref a), (1, .ref w)]) d_1_30_5 rfl (by decide) rfl ?_
    refine g_aload_n cx 1 d_1_30_6 rfl rfl ?_
    refine g_callV cx (As := []) (n := 0) (pt_latestRealm (K := K) (B := B) (T := T) hB) d_1_30_7 t_633 t_635 ts_9 t_1 t_636 ⟨by decide, by decide, by decide +kernel⟩ rfl (ci := 0) rfl ha.1 he2 ⟨rfl, hT, ha⟩ ⟨Nat.le_of_ble_eq_true rfl, Nat.le_of_ble_eq_true rfl⟩ (Nat.le_of_ble_eq_true rfl) ⟨Nat.zero_le _, Nat.zero_le _⟩ (fun v7 h r7 => ?_) (fun x7 h r7 => by obtain ⟨-, v9, e9, -⟩ := r7; cases e9)
    obtain ⟨rfl, wo7, e7, r7⟩ := r7
    cases e7
    rcases r7 with rfl | ⟨y7, rfl, hy7⟩
    · skip
      refine g_astore_nN cx (lv' := [(3, .null), (2, .null), (0, .ref a), (1, .ref w)]) d_1_30_10 rfl (by decide) rfl ?_
      refine g_aload_nN cx 1 d_1_30_11 rfl rfl ?_
      refine g_ifnullN cx d_1_30_12 rfl ?_
      exact t_iae cx htr d_1_30_20 d_1_30_23 d_1_30_24 d_1_30_27  ⟨Nat.le_of_ble_eq_true rfl, Nat.le_of_ble_eq_true rfl⟩ (Nat.le_of_ble_eq_true rfl) ⟨Nat.le_of_ble_eq_true rfl, Nat.le_of_ble_eq_true rfl⟩ (fun x hx hz => thrX (S := S1) (Or.inl rfl) hT hE hx hz)
    · skip
      refine g_astore_n cx (lv' := [(3, .ref y7), (2, .null), (0, .ref a), (1, .ref w)]) d_1_30_10 rfl (by decide) rfl ?_
      refine g_aload_nN cx 1 d_1_30_11 rfl rfl ?_
      refine g_ifnullN cx d_1_30_12 rfl ?_
      exact t_iae cx htr d_1_30_20 d_1_30_23 d_1_30_24 d_1_30_27  ⟨Nat.le_of_ble_eq_true rfl, Nat.le_of_ble_eq_true rfl⟩ (Nat.le_of_ble_eq_true rfl) ⟨Nat.le_of_ble_eq_true rfl, Nat.le_of_ble_eq_true rfl⟩ (fun x hx hz => thrX (S := S1) (Or.inl rfl) hT hE hx hz)
  · skip
    refine g_astore_n cx (lv' := [(2, .ref y2), (0, .ref a), (1, .ref w)]) d_1_30_5 rfl (by decide) rfl ?_
    refine g_aload_n cx 1 d_1_30_6 rfl rfl ?_
    refine g_callV cx (As := []) (n := 0) (pt_latestRealm (K := K) (B := B) (T := T) hB) d_1_30_7 t_633 t_635 ts_9 t_1 t_636 ⟨by decide, by decide, by decide +kernel⟩ rfl (ci := 0) rfl ha.1 he2 ⟨rfl, hT, ha⟩ ⟨Nat.le_of_ble_eq_true rfl, Nat.le_of_ble_eq_true rfl⟩ (Nat.le_of_ble_eq_true rfl) ⟨Nat.zero_le _, Nat.zero_le _⟩ (fun v7 h r7 => ?_) (fun x7 h r7 => by obtain ⟨-, v9, e9, -⟩ := r7; cases e9)
    obtain ⟨rfl, wo7, e7, r7⟩ := r7
    cases e7
    rcases r7 with rfl | ⟨y7, rfl, hy7⟩
    · skip
      refine g_astore_nN cx (lv' := [(3, .null), (2, .ref y2), (0, .ref a), (1, .ref w)]) d_1_30_10 rfl (by decide) rfl ?_
      refine g_aload_n cx 1 d_1_30_11 rfl rfl ?_
      refine g_ifnull cx d_1_30_12 ?_
      refine g_aload_n cx 1 d_1_30_15 rfl rfl ?_
      refine g_aload_nN cx 0 d_1_30_16 rfl rfl ?_
      refine g_acmp_ne cx (rx := (some (y2))) (ry := none) d_1_30_17 rfl (fun c17 => ?_) (fun c17 => ?_)
      · skip
        refine g_aload_nN cx 0 d_1_30_28 rfl rfl ?_
        refine g_ifnullN cx d_1_30_29 rfl ?_
        exact t_ise cx htr d_1_30_39 d_1_30_42 d_1_30_43 d_1_30_46  ⟨Nat.le_of_ble_eq_true rfl, Nat.le_of_ble_eq_true rfl⟩ (Nat.le_of_ble_eq_true rfl) ⟨Nat.le_of_ble_eq_true rfl, Nat.le_of_ble_eq_true rfl⟩ (fun x hx hz => thrX (S := S1) (Or.inr rfl) hT hE hx hz)
      · skip
        exact t_iae cx htr d_1_30_20 d_1_30_23 d_1_30_24 d_1_30_27  ⟨Nat.le_of_ble_eq_true rfl, Nat.le_of_ble_eq_true rfl⟩ (Nat.le_of_ble_eq_true rfl) ⟨Nat.le_of_ble_eq_true rfl, Nat.le_of_ble_eq_true rfl⟩ (fun x hx hz => thrX (S := S1) (Or.inl rfl) hT hE hx hz)
    · skip
      refine g_astore_n cx (lv' := [(3, .ref y7), (2, .ref y2), (0, .ref a), (1, .ref w)]) d_1_30_10 rfl (by decide) rfl ?_
      refine g_aload_n cx 1 d_1_30_11 rfl rfl ?_
      refine g_ifnull cx d_1_30_12 ?_
      refine g_aload_n cx 1 d_1_30_15 rfl rfl ?_
      refine g_aload_n cx 0 d_1_30_16 rfl rfl ?_
      refine g_acmp_ne cx (rx := (some (y2))) (ry := (some (y7))) d_1_30_17 rfl (fun c17 => ?_) (fun c17 => ?_)
      · skip
        refine g_aload_n cx 0 d_1_30_28 rfl rfl ?_
        refine g_ifnull cx d_1_30_29 ?_
        refine g_aload_n cx 0 d_1_30_32 rfl rfl ?_
        obtain ⟨n33, b133, b233, b333, w33, lo33, im33, fi33, pa33, he33, hw33, hlo33, him33, hfi33, hpa33, hwq33⟩ := TP.o (κ := 6) hT hy7
        obtain ⟨nw33, hw33⟩ : ∃ n, Tw k K h w33 n := ⟨_, Tx.tx hw33⟩
        refine g_getf cx (k := 7) d_1_30_33 in6 rfl (by decide) t_743 (Or.inl rfl) hy7.1 he33 rfl ?_
        refine g_if_eq cx d_1_30_36 rfl (fun c36 => ?_) (fun c36 => ?_)
        · skip
          refine g_aload_n cx 0 d_1_30_47 rfl rfl ?_
          refine g_aload_n cx 1 d_1_30_48 rfl rfl ?_
          refine g_putf cx d_1_30_49 in6 ty6_ok nm6 rfl (k := 5) (by decide) t_739 (Or.inl rfl) rfl (ty6_ok 5 (by decide)) rfl rfl hy7.1 he33 (Nat.le_of_ble_eq_true rfl) ?_
          refine t_put hT hy7 (okcO hy7.2 (Or.inl (by decide)) ⟨n33, b133, b233, b333, w33, lo33, im33, fi33, some y2, rfl, hw33.tx, hlo33, him33, hfi33, fun z hz => (by cases hz; exact hy2), hwq33⟩) (fun h hT ev he49p => ?_)
          have hy7 := Ev.ty ev hy7
          have hy2 := Ev.ty ev hy2
          have ha := Ev.ty ev ha
          have hw := Ev.tx ev hw
          replace hE := Ev.tr1 hE (Or.inr (by show PN (K y7).1; rw [hy7.2]; decide)) ev
          refine g_iconst cx (v := 4) d_1_30_52 (by decide) ?_
          exact g_iret cx d_1_30_53 rfl rfl ⟨K, hT, hE, Or.inl ⟨_, rfl⟩⟩
        · skip
          exact t_ise cx htr d_1_30_39 d_1_30_42 d_1_30_43 d_1_30_46  ⟨Nat.le_of_ble_eq_true rfl, Nat.le_of_ble_eq_true rfl⟩ (Nat.le_of_ble_eq_true rfl) ⟨Nat.le_of_ble_eq_true rfl, Nat.le_of_ble_eq_true rfl⟩ (fun x hx hz => thrX (S := S1) (Or.inr rfl) hT hE hx hz)
      · skip
        exact t_iae cx htr d_1_30_20 d_1_30_23 d_1_30_24 d_1_30_27  ⟨Nat.le_of_ble_eq_true rfl, Nat.le_of_ble_eq_true rfl⟩ (Nat.le_of_ble_eq_true rfl) ⟨Nat.le_of_ble_eq_true rfl, Nat.le_of_ble_eq_true rfl⟩ (fun x hx hz => thrX (S := S1) (Or.inl rfl) hT hE hx hz)
set_option maxHeartbeats 8000000 in
theorem tc_setOrder {a w n : Nat} (hB : B < 2 ^ 17) (htr : l.stackTraces = false) : TC l y_118 prog_1_method_31_code 4 (Option.some Jvm.ClassFile.FieldType.int) (rmT 7 1 6) D z0 k [.ref a, .ref w] K (B) (T) (fun h => Ty K h 1 a ∧ Tw k K h w n) (B) (T) (XN K) (RT S1) := by
  refine tc_of (by decide) (Nat.le_of_ble_eq_true rfl) ?_
  intro h hT hp p e s m args below meth c cx hnm
  have hE : Ev k (XN K) K h K h := Ev.rf
  replace hB := hB
  have hB17 := hB
  replace hB : B < 2 ^ 20 := Nat.lt_trans hB (by decide)
  obtain ⟨ha, hw⟩ := hp
  refine g_aload_n cx 1 d_1_31_0 rfl rfl ?_
  refine g_ldcS cx d_1_31_1 cx.ee.2.2.2.2.2.2.2.2.2.2.2.2.2.2.2.2.1 ?_
  obtain ⟨v3, hs3⟩ := TP.str hT hw
  refine g_pcVS cx (As := [.ref (k 18)]) (n := 1) (pj_equals (n := n) (n' := _)) d_1_31_3 t_491 t_492 t_493 t_4 t_494 rfl (by decide +kernel) rfl hs3 ⟨⟨_, hs3⟩, ⟨_, (Or.inr ⟨8, by decide, rfl, rfl, rfl⟩)⟩⟩ ⟨Nat.le_of_ble_eq_true rfl, Nat.le_of_ble_eq_true rfl⟩ (Nat.le_of_ble_eq_true rfl) (fun v3 r3 => ?_)
  obtain ⟨x3, rfl, xb3⟩ := r3
  refine g_istore_n cx (lv' := [(2, .int x3), (0, .ref a), (1, .ref w)]) d_1_31_6 rfl (by decide) rfl ?_
  refine g_iload_n cx 0 d_1_31_7 rfl rfl ?_
  refine g_if_ne cx d_1_31_8 rfl (fun c8 => ?_) (fun c8 => ?_)
  · skip
    refine g_aload_n cx 1 d_1_31_28 rfl rfl ?_
    obtain ⟨la29, lr29, tr29, tn29, he29, hla29, hlr29, htr29, htn29, hlq29, hlaq29⟩ := TP.o (κ := 1) hT ha
    refine g_callV cx (As := []) (n := 0) (pt_latestRealm (K := K) (B := B) (T := T) hB) d_1_31_29 t_633 t_635 ts_9 t_1 t_636 ⟨by decide, by decide, by decide +kernel⟩ rfl (ci := 0) rfl ha.1 he29 ⟨rfl, hT, ha⟩ ⟨Nat.le_of_ble_eq_true rfl, Nat.le_of_ble_eq_true rfl⟩ (Nat.le_of_ble_eq_true rfl) ⟨Nat.zero_le _, Nat.zero_le _⟩ (fun v29 h r29 => ?_) (fun x29 h r29 => by obtain ⟨-, v9, e9, -⟩ := r29; cases e9)
    obtain ⟨rfl, wo29, e29, r29⟩ := r29
    cases e29
    rcases r29 with rfl | ⟨y29, rfl, hy29⟩
    · skip
      refine g_astore_nN cx (lv' := [(3, .null), (2, .int x3), (0, .ref a), (1, .ref w)]) d_1_31_32 rfl (by decide) rfl ?_
      refine g_aload_nN cx 0 d_1_31_33 rfl rfl ?_
      refine g_ifnullN cx d_1_31_34 rfl ?_
      exact t_ise cx htr d_1_31_44 d_1_31_47 d_1_31_48 d_1_31_51  ⟨Nat.le_of_ble_eq_true rfl, Nat.le_of_ble_eq_true rfl⟩ (Nat.le_of_ble_eq_true rfl) ⟨Nat.le_of_ble_eq_true rfl, Nat.le_of_ble_eq_true rfl⟩ (fun x hx hz => thrX (S := S1) (Or.inr rfl) hT hE hx hz)
    · skip
      refine g_astore_n cx (lv' := [(3, .ref y29), (2, .int x3), (0, .ref a), (1, .ref w)]) d_1_31_32 rfl (by decide) rfl ?_
      refine g_aload_n cx 0 d_1_31_33 rfl rfl ?_
      refine g_ifnull cx d_1_31_34 ?_
      refine g_aload_n cx 0 d_1_31_37 rfl rfl ?_
      obtain ⟨n38, b138, b238, b338, w38, lo38, im38, fi38, pa38, he38, hw38, hlo38, him38, hfi38, hpa38, hwq38⟩ := TP.o (κ := 6) hT hy29
      obtain ⟨nw38, hw38⟩ : ∃ n, Tw k K h w38 n := ⟨_, Tx.tx hw38⟩
      refine g_getf cx (k := 7) d_1_31_38 in6 rfl (by decide) t_743 (Or.inl rfl) hy29.1 he38 rfl ?_
      refine g_if_eq cx d_1_31_41 rfl (fun c41 => ?_) (fun c41 => ?_)
      · skip
        refine g_aload_n cx 0 d_1_31_52 rfl rfl ?_
        refine g_iload_n cx 1 d_1_31_53 rfl rfl ?_
        refine g_putf cx d_1_31_54 in6 ty6_ok nm6 rfl (k := 6) (by decide) t_741 (Or.inl rfl) rfl (ty6_ok 6 (by decide)) (by rcases xb3 with rfl | rfl <;> rfl) (by rcases xb3 with rfl | rfl <;> rfl) hy29.1 he38 (Nat.le_of_ble_eq_true rfl) ?_
        refine t_put hT hy29 (okcO hy29.2 (Or.inl (by decide)) ⟨n38, x3, b238, b338, w38, lo38, im38, fi38, pa38, rfl, hw38.tx, hlo38, him38, hfi38, hpa38, hwq38⟩) (fun h hT ev he54p => ?_)
        have hy29 := Ev.ty ev hy29
        have ha := Ev.ty ev ha
        have hw := Ev.tx ev hw
        replace hE := Ev.tr1 hE (Or.inr (by show PN (K y29).1; rw [hy29.2]; decide)) ev
        refine g_iconst cx (v := 4) d_1_31_57 (by decide) ?_
        exact g_iret cx d_1_31_58 rfl rfl ⟨K, hT, hE, Or.inl ⟨_, rfl⟩⟩
      · skip
        exact t_ise cx htr d_1_31_44 d_1_31_47 d_1_31_48 d_1_31_51  ⟨Nat.le_of_ble_eq_true rfl, Nat.le_of_ble_eq_true rfl⟩ (Nat.le_of_ble_eq_true rfl) ⟨Nat.le_of_ble_eq_true rfl, Nat.le_of_ble_eq_true rfl⟩ (fun x hx hz => thrX (S := S1) (Or.inr rfl) hT hE hx hz)
  · skip
    refine g_aload_n cx 2 d_1_31_11 rfl rfl ?_
    refine g_ldcS cx d_1_31_12 cx.ee.2.2.2.2.2.2.2.2.2.2.2.2.2.2.2.2.2 ?_
    obtain ⟨v14, hs14⟩ := TP.str hT hw
    refine g_pcVS cx (As := [.ref (k 19)]) (n := 1) (pj_equals (n := n) (n' := _)) d_1_31_14 t_491 t_492 t_493 t_4 t_494 rfl (by decide +kernel) rfl hs14 ⟨⟨_, hs14⟩, ⟨_, (Or.inr ⟨9, by decide, rfl, rfl, rfl⟩)⟩⟩ ⟨Nat.le_of_ble_eq_true rfl, Nat.le_of_ble_eq_true rfl⟩ (Nat.le_of_ble_eq_true rfl) (fun v14 r14 => ?_)
    obtain ⟨x14, rfl, xb14⟩ := r14
    refine g_if_ne cx d_1_31_17 rfl (fun c17 => ?_) (fun c17 => ?_)
    · skip
      refine g_aload_n cx 1 d_1_31_28 rfl rfl ?_
      obtain ⟨la29, lr29, tr29, tn29, he29, hla29, hlr29, htr29, htn29, hlq29, hlaq29⟩ := TP.o (κ := 1) hT ha
      refine g_callV cx (As := []) (n := 0) (pt_latestRealm (K := K) (B := B) (T := T) hB) d_1_31_29 t_633 t_635 ts_9 t_1 t_636 ⟨by decide, by decide, by decide +kernel⟩ rfl (ci := 0) rfl ha.1 he29 ⟨rfl, hT, ha⟩ ⟨Nat.le_of_ble_eq_true rfl, Nat.le_of_ble_eq_true rfl⟩ (Nat.le_of_ble_eq_true rfl) ⟨Nat.zero_le _, Nat.zero_le _⟩ (fun v29 h r29 => ?_) (fun x29 h r29 => by obtain ⟨-, v9, e9, -⟩ := r29; cases e9)
      obtain ⟨rfl, wo29, e29, r29⟩ := r29
      cases e29
      rcases r29 with rfl | ⟨y29, rfl, hy29⟩
      · skip
        refine g_astore_nN cx (lv' := [(3, .null), (2, .int x3), (0, .ref a), (1, .ref w)]) d_1_31_32 rfl (by decide) rfl ?_
        refine g_aload_nN cx 0 d_1_31_33 rfl rfl ?_
        refine g_ifnullN cx d_1_31_34 rfl ?_
        exact t_ise cx htr d_1_31_44 d_1_31_47 d_1_31_48 d_1_31_51  ⟨Nat.le_of_ble_eq_true rfl, Nat.le_of_ble_eq_true rfl⟩ (Nat.le_of_ble_eq_true rfl) ⟨Nat.le_of_ble_eq_true rfl, Nat.le_of_ble_eq_true rfl⟩ (fun x hx hz => thrX (S := S1) (Or.inr rfl) hT hE hx hz)
      · skip
        refine g_astore_n cx (lv' := [(3, .ref y29), (2, .int x3), (0, .ref a), (1, .ref w)]) d_1_31_32 rfl (by decide) rfl ?_
        refine g_aload_n cx 0 d_1_31_33 rfl rfl ?_
        refine g_ifnull cx d_1_31_34 ?_
        refine g_aload_n cx 0 d_1_31_37 rfl rfl ?_
        obtain ⟨n38, b138, b238, b338, w38, lo38, im38, fi38, pa38, he38, hw38, hlo38, him38, hfi38, hpa38, hwq38⟩ := TP.o (κ := 6) hT hy29
        obtain ⟨nw38, hw38⟩ : ∃ n, Tw k K h w38 n := ⟨_, Tx.tx hw38⟩
        refine g_getf cx (k := 7) d_1_31_38 in6 rfl (by decide) t_743 (Or.inl rfl) hy29.1 he38 rfl ?_
        refine g_if_eq cx d_1_31_41 rfl (fun c41 => ?_) (fun c41 => ?_)
        · skip
          refine g_aload_n cx 0 d_1_31_52 rfl rfl ?_
          refine g_iload_n cx 1 d_1_31_53 rfl rfl ?_
          refine g_putf cx d_1_31_54 in6 ty6_ok nm6 rfl (k := 6) (by decide) t_741 (Or.inl rfl) rfl (ty6_ok 6 (by decide)) (by rcases xb3 with rfl | rfl <;> rfl) (by rcases xb3 with rfl | rfl <;> rfl) hy29.1 he38 (Nat.le_of_ble_eq_true rfl) ?_
          refine t_put hT hy29 (okcO hy29.2 (Or.inl (by decide)) ⟨n38, x3, b238, b338, w38, lo38, im38, fi38, pa38, rfl, hw38.tx, hlo38, him38, hfi38, hpa38, hwq38⟩) (fun h hT ev he54p => ?_)
          have hy29 := Ev.ty ev hy29
          have ha := Ev.ty ev ha
          have hw := Ev.tx ev hw
          replace hE := Ev.tr1 hE (Or.inr (by show PN (K y29).1; rw [hy29.2]; decide)) ev
          refine g_iconst cx (v := 4) d_1_31_57 (by decide) ?_
          exact g_iret cx d_1_31_58 rfl rfl ⟨K, hT, hE, Or.inl ⟨_, rfl⟩⟩
        · skip
          exact t_ise cx htr d_1_31_44 d_1_31_47 d_1_31_48 d_1_31_51  ⟨Nat.le_of_ble_eq_true rfl, Nat.le_of_ble_eq_true rfl⟩ (Nat.le_of_ble_eq_true rfl) ⟨Nat.le_of_ble_eq_true rfl, Nat.le_of_ble_eq_true rfl⟩ (fun x hx hz => thrX (S := S1) (Or.inr rfl) hT hE hx hz)
    · skip
      exact t_iae cx htr d_1_31_20 d_1_31_23 d_1_31_24 d_1_31_27  ⟨Nat.le_of_ble_eq_true rfl, Nat.le_of_ble_eq_true rfl⟩ (Nat.le_of_ble_eq_true rfl) ⟨Nat.le_of_ble_eq_true rfl, Nat.le_of_ble_eq_true rfl⟩ (fun x hx hz => thrX (S := S1) (Or.inl rfl) hT hE hx hz)
set_option maxHeartbeats 8000000 in
theorem tc_readPair {a w n wb nb : Nat} (hB : B < 2 ^ 17) (htr : l.stackTraces = false) : TC l y_123 prog_1_method_23_code 3 (Option.some Jvm.ClassFile.FieldType.int) (rmT 11 64 1270) D z0 k [.ref a, .ref w, .ref wb] K (B) (T) (fun h => Ty K h 1 a ∧ Tw k K h w n ∧ Tw k K h wb nb) (B) (T) (XD K) (RT S1) := by
  refine tc_of (by decide) (Nat.le_of_ble_eq_true rfl) ?_
  intro h hT hp p e s m args below meth c cx hnm
  have hE : Ev k (XD K) K h K h := Ev.rf
  replace hB := hB
  have hB17 := hB
  replace hB : B < 2 ^ 20 := Nat.lt_trans hB (by decide)
  obtain ⟨ha, hw, hwb⟩ := hp
  refine g_aload_n cx 1 d_1_23_0 rfl rfl ?_
  refine g_ldcS cx d_1_23_1 cx.ee.2.2.2.2.2.2.2.2.2.1 ?_
  obtain ⟨v3, hs3⟩ := TP.str hT hw
  refine g_pcVS cx (As := [.ref (k 11)]) (n := 1) (pj_equals (n := n) (n' := _)) d_1_23_3 t_491 t_492 t_493 t_4 t_494 rfl (by decide +kernel) rfl hs3 ⟨⟨_, hs3⟩, ⟨_, (Or.inr ⟨1, by decide, rfl, rfl, rfl⟩)⟩⟩ ⟨Nat.le_of_ble_eq_true rfl, Nat.le_of_ble_eq_true rfl⟩ (Nat.le_of_ble_eq_true rfl) (fun v3 r3 => ?_)
  obtain ⟨x3, rfl, xb3⟩ := r3
  refine g_if_eq cx d_1_23_6 rfl (fun c6 => ?_) (fun c6 => ?_)
  · skip
    refine g_aload_n cx 1 d_1_23_15 rfl rfl ?_
    refine g_ldcS cx d_1_23_16 cx.ee.2.2.2.2.2.2.2.2.2.2.1 ?_
    obtain ⟨v18, hs18⟩ := TP.str hT hw
    refine g_pcVS cx (As := [.ref (k 12)]) (n := 1) (pj_equals (n := n) (n' := _)) d_1_23_18 t_491 t_492 t_493 t_4 t_494 rfl (by decide +kernel) rfl hs18 ⟨⟨_, hs18⟩, ⟨_, (Or.inr ⟨2, by decide, rfl, rfl, rfl⟩)⟩⟩ ⟨Nat.le_of_ble_eq_true rfl, Nat.le_of_ble_eq_true rfl⟩ (Nat.le_of_ble_eq_true rfl) (fun v18 r18 => ?_)
    obtain ⟨x18, rfl, xb18⟩ := r18
    refine g_if_eq cx d_1_23_21 rfl (fun c21 => ?_) (fun c21 => ?_)
    · skip
      refine g_aload_n cx 1 d_1_23_30 rfl rfl ?_
      refine g_ldcS cx d_1_23_31 cx.ee.2.2.2.2.2.2.2.2.2.2.2.1 ?_
      obtain ⟨v33, hs33⟩ := TP.str hT hw
      refine g_pcVS cx (As := [.ref (k 13)]) (n := 1) (pj_equals (n := n) (n' := _)) d_1_23_33 t_491 t_492 t_493 t_4 t_494 rfl (by decide +kernel) rfl hs33 ⟨⟨_, hs33⟩, ⟨_, (Or.inr ⟨3, by decide, rfl, rfl, rfl⟩)⟩⟩ ⟨Nat.le_of_ble_eq_true rfl, Nat.le_of_ble_eq_true rfl⟩ (Nat.le_of_ble_eq_true rfl) (fun v33 r33 => ?_)
      obtain ⟨x33, rfl, xb33⟩ := r33
      refine g_if_eq cx d_1_23_36 rfl (fun c36 => ?_) (fun c36 => ?_)
      · skip
        refine g_aload_n cx 1 d_1_23_45 rfl rfl ?_
        refine g_ldcS cx d_1_23_46 cx.ee.2.2.2.2.2.2.2.2.2.2.2.2.1 ?_
        obtain ⟨v48, hs48⟩ := TP.str hT hw
        refine g_pcVS cx (As := [.ref (k 14)]) (n := 1) (pj_equals (n := n) (n' := _)) d_1_23_48 t_491 t_492 t_493 t_4 t_494 rfl (by decide +kernel) rfl hs48 ⟨⟨_, hs48⟩, ⟨_, (Or.inr ⟨4, by decide, rfl, rfl, rfl⟩)⟩⟩ ⟨Nat.le_of_ble_eq_true rfl, Nat.le_of_ble_eq_true rfl⟩ (Nat.le_of_ble_eq_true rfl) (fun v48 r48 => ?_)
        obtain ⟨x48, rfl, xb48⟩ := r48
        refine g_if_eq cx d_1_23_51 rfl (fun c51 => ?_) (fun c51 => ?_)
        · skip
          refine g_aload_n cx 1 d_1_23_60 rfl rfl ?_
          refine g_ldcS cx d_1_23_61 cx.ee.2.2.2.2.2.2.2.2.2.2.2.2.2.1 ?_
          obtain ⟨v63, hs63⟩ := TP.str hT hw
          refine g_pcVS cx (As := [.ref (k 15)]) (n := 1) (pj_equals (n := n) (n' := _)) d_1_23_63 t_491 t_492 t_493 t_4 t_494 rfl (by decide +kernel) rfl hs63 ⟨⟨_, hs63⟩, ⟨_, (Or.inr ⟨5, by decide, rfl, rfl, rfl⟩)⟩⟩ ⟨Nat.le_of_ble_eq_true rfl, Nat.le_of_ble_eq_true rfl⟩ (Nat.le_of_ble_eq_true rfl) (fun v63 r63 => ?_)
          obtain ⟨x63, rfl, xb63⟩ := r63
          refine g_if_eq cx d_1_23_66 rfl (fun c66 => ?_) (fun c66 => ?_)
          · skip
            exact t_iae cx htr d_1_23_75 d_1_23_78 d_1_23_79 d_1_23_82  ⟨Nat.le_of_ble_eq_true rfl, Nat.le_of_ble_eq_true rfl⟩ (Nat.le_of_ble_eq_true rfl) ⟨Nat.le_of_ble_eq_true rfl, Nat.le_of_ble_eq_true rfl⟩ (fun x hx hz => thrX (S := S1) (Or.inl rfl) hT hE hx hz)
          · skip
            refine g_aload_n cx 0 d_1_23_69 rfl rfl ?_
            refine g_aload_n cx 2 d_1_23_70 rfl rfl ?_
            obtain ⟨la71, lr71, tr71, tn71, he71, hla71, hlr71, htr71, htn71, hlq71, hlaq71⟩ := TP.o (κ := 1) hT ha
            refine g_callV cx (As := [.ref wb]) (n := 1) (tc_setParent (n := nb) hB17 htr) d_1_23_71 t_777 t_779 ts_17 t_1 t_780 ⟨by decide, by decide, by decide +kernel⟩ rfl (ci := 0) rfl ha.1 he71 ⟨rfl, hT, ha, hwb⟩ ⟨Nat.le_of_ble_eq_true rfl, Nat.le_of_ble_eq_true rfl⟩ (Nat.le_of_ble_eq_true rfl) ⟨Nat.le_of_ble_eq_true rfl, Nat.le_of_ble_eq_true rfl⟩ (fun v71 h r71 => ?_) (fun x71 h r71 => thrP hE (tq_nd r71))
            obtain ⟨K, hT, ev, rel71⟩ := r71
            replace ev := xnd ev
            obtain ⟨x71, ex71⟩ : ∃ x : Int32, v71 = some (.int x) := rt_int rel71
            subst ex71
            exact g_iret cx d_1_23_74 rfl rfl ⟨K, hT, Ev.trP hE ev, Or.inl ⟨_, rfl⟩⟩
        · skip
          refine g_aload_n cx 0 d_1_23_54 rfl rfl ?_
          refine g_aload_n cx 2 d_1_23_55 rfl rfl ?_
          obtain ⟨la56, lr56, tr56, tn56, he56, hla56, hlr56, htr56, htn56, hlq56, hlaq56⟩ := TP.o (κ := 1) hT ha
          refine g_callV cx (As := [.ref wb]) (n := 1) (tc_addLoaded (n := nb) hB17 htr) d_1_23_56 t_766 t_768 ts_16 t_1 t_769 ⟨by decide, by decide, by decide +kernel⟩ rfl (ci := 0) rfl ha.1 he56 ⟨rfl, hT, ha, hwb⟩ ⟨Nat.le_of_ble_eq_true rfl, Nat.le_of_ble_eq_true rfl⟩ (Nat.le_of_ble_eq_true rfl) ⟨Nat.le_of_ble_eq_true rfl, Nat.le_of_ble_eq_true rfl⟩ (fun v56 h r56 => ?_) (fun x56 h r56 => thrP hE r56)
          obtain ⟨K, hT, ev, rel56⟩ := r56
          obtain ⟨x56, ex56⟩ : ∃ x : Int32, v56 = some (.int x) := rt_int rel56
          subst ex56
          exact g_iret cx d_1_23_59 rfl rfl ⟨K, hT, Ev.trP hE ev, Or.inl ⟨_, rfl⟩⟩
      · skip
        refine g_aload_n cx 0 d_1_23_39 rfl rfl ?_
        refine g_aload_n cx 2 d_1_23_40 rfl rfl ?_
        obtain ⟨la41, lr41, tr41, tn41, he41, hla41, hlr41, htr41, htn41, hlq41, hlaq41⟩ := TP.o (κ := 1) hT ha
        refine g_callV cx (As := [.ref wb]) (n := 1) (tc_addRealm (n := nb) hB17 htr) d_1_23_41 t_717 t_719 ts_15 t_1 t_720 ⟨by decide, by decide, by decide +kernel⟩ rfl (ci := 0) rfl ha.1 he41 ⟨rfl, hT, ha, hwb⟩ ⟨Nat.le_of_ble_eq_true rfl, Nat.le_of_ble_eq_true rfl⟩ (Nat.le_of_ble_eq_true rfl) ⟨Nat.le_of_ble_eq_true rfl, Nat.le_of_ble_eq_true rfl⟩ (fun v41 h r41 => ?_) (fun x41 h r41 => thrP hE r41)
        obtain ⟨K, hT, ev, rel41⟩ := r41
        obtain ⟨x41, ex41⟩ : ∃ x : Int32, v41 = some (.int x) := rt_int rel41
        subst ex41
        exact g_iret cx d_1_23_44 rfl rfl ⟨K, hT, Ev.trP hE ev, Or.inl ⟨_, rfl⟩⟩
    · skip
      refine g_aload_n cx 0 d_1_23_24 rfl rfl ?_
      refine g_aload_n cx 2 d_1_23_25 rfl rfl ?_
      obtain ⟨la26, lr26, tr26, tn26, he26, hla26, hlr26, htr26, htn26, hlq26, hlaq26⟩ := TP.o (κ := 1) hT ha
      refine g_callV cx (As := [.ref wb]) (n := 1) (tc_addName (n := nb) hB17 htr) d_1_23_26 t_697 t_699 ts_13 t_1 t_700 ⟨by decide, by decide, by decide +kernel⟩ rfl (ci := 0) rfl ha.1 he26 ⟨rfl, hT, ha, hwb⟩ ⟨Nat.le_of_ble_eq_true rfl, Nat.le_of_ble_eq_true rfl⟩ (Nat.le_of_ble_eq_true rfl) ⟨Nat.le_of_ble_eq_true rfl, Nat.le_of_ble_eq_true rfl⟩ (fun v26 h r26 => ?_) (fun x26 h r26 => thrP hE r26)
      obtain ⟨K, hT, ev, rel26⟩ := r26
      obtain ⟨x26, ex26⟩ : ∃ x : Int32, v26 = some (.int x) := rt_int rel26
      subst ex26
      exact g_iret cx d_1_23_29 rfl rfl ⟨K, hT, Ev.trP hE ev, Or.inl ⟨_, rfl⟩⟩
  · skip
    refine g_aload_n cx 0 d_1_23_9 rfl rfl ?_
    refine g_aload_n cx 2 d_1_23_10 rfl rfl ?_
    obtain ⟨la11, lr11, tr11, tn11, he11, hla11, hlr11, htr11, htn11, hlq11, hlaq11⟩ := TP.o (κ := 1) hT ha
    refine g_callV cx (As := [.ref wb]) (n := 1) (tc_addArchive (n := nb) hB17 htr) d_1_23_11 t_661 t_663 ts_11 t_1 t_664 ⟨by decide, by decide, by decide +kernel⟩ rfl (ci := 0) rfl ha.1 he11 ⟨rfl, hT, ha, hwb⟩ ⟨Nat.le_of_ble_eq_true rfl, Nat.le_of_ble_eq_true rfl⟩ (Nat.le_of_ble_eq_true rfl) ⟨Nat.le_of_ble_eq_true rfl, Nat.le_of_ble_eq_true rfl⟩ (fun v11 h r11 => ?_) (fun x11 h r11 => thrP hE r11)
    obtain ⟨K, hT, ev, rel11⟩ := r11
    obtain ⟨x11, ex11⟩ : ∃ x : Int32, v11 = some (.int x) := rt_int rel11
    subst ex11
    exact g_iret cx d_1_23_14 rfl rfl ⟨K, hT, Ev.trP hE ev, Or.inl ⟨_, rfl⟩⟩
set_option maxHeartbeats 8000000 in
theorem tc_readFour {a pl : Nat} (hB : B < 2 ^ 17) (htr : l.stackTraces = false) : TC l y_137 prog_1_method_24_code 2 (Option.some Jvm.ClassFile.FieldType.int) (rmT 12 64 1270) D z0 k [.ref a, .ref pl] K (B) (T) (fun h => Ty K h 1 a ∧ Ty K h 24 pl) (B) (T) (XD K) (RT S1) := by
  refine tc_of (by decide) (Nat.le_of_ble_eq_true rfl) ?_
  intro h hT hp p e s m args below meth c cx hnm
  have hE : Ev k (XD K) K h K h := Ev.rf
  replace hB := hB
  have hB17 := hB
  replace hB : B < 2 ^ 20 := Nat.lt_trans hB (by decide)
  obtain ⟨ha, hpl⟩ := hp
  refine g_aload_n cx 1 d_1_24_0 rfl rfl ?_
  obtain ⟨⟨ea1, mo1, hm1, hl1⟩, hb1⟩ := TP.n24 hT hpl
  refine g_pcV cx (As := []) (n := 0) (pj_size (n := (K pl).2.2)) d_1_24_1 t_235 t_236 t_237 t_8 t_238 ⟨by decide, by decide, by decide +kernel⟩ rfl (ci := 2) rfl hm1 hl1 ⟨ea1, mo1, hm1, hl1⟩ ⟨Nat.le_of_ble_eq_true rfl, Nat.le_of_ble_eq_true rfl⟩ (Nat.le_of_ble_eq_true rfl) (fun v1 r1 => ?_)
  subst r1
  refine g_iconst cx (v := 4) d_1_24_4 (by decide) ?_
  refine g_icmp_ne cx d_1_24_5 rfl (fun c5 => ?_) (fun c5 => ?_)
  · skip
    exact t_iae cx htr d_1_24_46 d_1_24_49 d_1_24_50 d_1_24_53  ⟨Nat.le_of_ble_eq_true rfl, Nat.le_of_ble_eq_true rfl⟩ (Nat.le_of_ble_eq_true rfl) ⟨Nat.le_of_ble_eq_true rfl, Nat.le_of_ble_eq_true rfl⟩ (fun x hx hz => thrX (S := S1) (Or.inl rfl) hT hE hx hz)
  · skip
    have h4 : (K pl).2.2 = 4 := (nI_eq (b := 4) (by omega) (by decide)).mp c5
    refine g_aload_n cx 1 d_1_24_8 rfl rfl ?_
    refine g_iconst cx (v := 0) d_1_24_9 (by decide) ?_
    refine g_callV cx (As := [.int 0]) (n := 1) (gj_get (K := K) (B := B) (T := T) (ce := 4) (j := 0) (by decide) hB) d_1_24_10 t_239 t_240 t_241 t_8 t_242 ⟨by decide, by decide, by decide +kernel⟩ rfl (ci := 2) rfl hm1 hl1 ⟨rfl, hT, hpl, (by omega)⟩ ⟨Nat.le_of_ble_eq_true rfl, Nat.le_of_ble_eq_true rfl⟩ (Nat.le_of_ble_eq_true rfl) ⟨Nat.zero_le _, Nat.zero_le _⟩ (fun v10 h r10 => ?_) (fun x10 h r10 => by obtain ⟨-, y9, e9, -⟩ := r10; cases e9)
    obtain ⟨rfl, y10, e10, hy10⟩ := r10
    cases e10
    replace hy10 : Ty K h 4 y10 := hy10
    obtain ⟨w13, he13, hw13, hwq13⟩ := TP.o (κ := 4) hT hy10
    obtain ⟨nw13, hw13⟩ : ∃ n, Tw k K h w13 n := ⟨_, Tx.tx hw13⟩
    refine g_ccast cx (ci := 4) d_1_24_13 t_535 rfl hy10.1 he13 ?_
    refine g_getf cx (k := 0) d_1_24_16 in4 rfl (by decide) t_567 (Or.inl rfl) hy10.1 he13 rfl ?_
    refine g_ldcS cx d_1_24_19 cx.ee.2.2.2.2.2.2.2.2.2.2.2.2.2.2.1 ?_
    obtain ⟨v21, hs21⟩ := TP.str hT hw13
    refine g_pcVS cx (As := [.ref (k 16)]) (n := 1) (pj_equals (n := nw13) (n' := _)) d_1_24_21 t_491 t_492 t_493 t_4 t_494 rfl (by decide +kernel) rfl hs21 ⟨⟨_, hs21⟩, ⟨_, (Or.inr ⟨6, by decide, rfl, rfl, rfl⟩)⟩⟩ ⟨Nat.le_of_ble_eq_true rfl, Nat.le_of_ble_eq_true rfl⟩ (Nat.le_of_ble_eq_true rfl) (fun v21 r21 => ?_)
    obtain ⟨x21, rfl, xb21⟩ := r21
    refine g_if_eq cx d_1_24_24 rfl (fun c24 => ?_) (fun c24 => ?_)
    · skip
      exact t_iae cx htr d_1_24_46 d_1_24_49 d_1_24_50 d_1_24_53  ⟨Nat.le_of_ble_eq_true rfl, Nat.le_of_ble_eq_true rfl⟩ (Nat.le_of_ble_eq_true rfl) ⟨Nat.le_of_ble_eq_true rfl, Nat.le_of_ble_eq_true rfl⟩ (fun x hx hz => thrX (S := S1) (Or.inl rfl) hT hE hx hz)
    · skip
      refine g_aload_n cx 1 d_1_24_27 rfl rfl ?_
      refine g_iconst cx (v := 2) d_1_24_28 (by decide) ?_
      refine g_callV cx (As := [.int 2]) (n := 1) (gj_get (K := K) (B := B) (T := T) (ce := 4) (j := 2) (by decide) hB) d_1_24_29 t_239 t_240 t_241 t_8 t_242 ⟨by decide, by decide, by decide +kernel⟩ rfl (ci := 2) rfl hm1 hl1 ⟨rfl, hT, hpl, (by omega)⟩ ⟨Nat.le_of_ble_eq_true rfl, Nat.le_of_ble_eq_true rfl⟩ (Nat.le_of_ble_eq_true rfl) ⟨Nat.zero_le _, Nat.zero_le _⟩ (fun v29 h r29 => ?_) (fun x29 h r29 => by obtain ⟨-, y9, e9, -⟩ := r29; cases e9)
      obtain ⟨rfl, y29, e29, hy29⟩ := r29
      cases e29
      replace hy29 : Ty K h 4 y29 := hy29
      obtain ⟨w32, he32, hw32, hwq32⟩ := TP.o (κ := 4) hT hy29
      obtain ⟨nw32, hw32⟩ : ∃ n, Tw k K h w32 n := ⟨_, Tx.tx hw32⟩
      refine g_ccast cx (ci := 4) d_1_24_32 t_535 rfl hy29.1 he32 ?_
      refine g_getf cx (k := 0) d_1_24_35 in4 rfl (by decide) t_567 (Or.inl rfl) hy29.1 he32 rfl ?_
      refine g_ldcS cx d_1_24_38 cx.ee.2.2.2.2.2.2.2.2.2.2.2.2.2.2.2.1 ?_
      obtain ⟨v40, hs40⟩ := TP.str hT hw32
      refine g_pcVS cx (As := [.ref (k 17)]) (n := 1) (pj_equals (n := nw32) (n' := _)) d_1_24_40 t_491 t_492 t_493 t_4 t_494 rfl (by decide +kernel) rfl hs40 ⟨⟨_, hs40⟩, ⟨_, (Or.inr ⟨7, by decide, rfl, rfl, rfl⟩)⟩⟩ ⟨Nat.le_of_ble_eq_true rfl, Nat.le_of_ble_eq_true rfl⟩ (Nat.le_of_ble_eq_true rfl) (fun v40 r40 => ?_)
      obtain ⟨x40, rfl, xb40⟩ := r40
      refine g_if_ne cx d_1_24_43 rfl (fun c43 => ?_) (fun c43 => ?_)
      · skip
        refine g_aload_n cx 0 d_1_24_54 rfl rfl ?_
        refine g_aload_n cx 1 d_1_24_55 rfl rfl ?_
        refine g_iconst cx (v := 1) d_1_24_56 (by decide) ?_
        refine g_callV cx (As := [.int 1]) (n := 1) (gj_get (K := K) (B := B) (T := T) (ce := 4) (j := 1) (by decide) hB) d_1_24_57 t_239 t_240 t_241 t_8 t_242 ⟨by decide, by decide, by decide +kernel⟩ rfl (ci := 2) rfl hm1 hl1 ⟨rfl, hT, hpl, (by omega)⟩ ⟨Nat.le_of_ble_eq_true rfl, Nat.le_of_ble_eq_true rfl⟩ (Nat.le_of_ble_eq_true rfl) ⟨Nat.zero_le _, Nat.zero_le _⟩ (fun v57 h r57 => ?_) (fun x57 h r57 => by obtain ⟨-, y9, e9, -⟩ := r57; cases e9)
        obtain ⟨rfl, y57, e57, hy57⟩ := r57
        cases e57
        replace hy57 : Ty K h 4 y57 := hy57
        obtain ⟨w60, he60, hw60, hwq60⟩ := TP.o (κ := 4) hT hy57
        obtain ⟨nw60, hw60⟩ : ∃ n, Tw k K h w60 n := ⟨_, Tx.tx hw60⟩
        refine g_ccast cx (ci := 4) d_1_24_60 t_535 rfl hy57.1 he60 ?_
        refine g_getf cx (k := 0) d_1_24_63 in4 rfl (by decide) t_567 (Or.inl rfl) hy57.1 he60 rfl ?_
        refine g_aload_n cx 1 d_1_24_66 rfl rfl ?_
        refine g_iconst cx (v := 3) d_1_24_67 (by decide) ?_
        refine g_callV cx (As := [.int 3]) (n := 1) (gj_get (K := K) (B := B) (T := T) (ce := 4) (j := 3) (by decide) hB) d_1_24_68 t_239 t_240 t_241 t_8 t_242 ⟨by decide, by decide, by decide +kernel⟩ rfl (ci := 2) rfl hm1 hl1 ⟨rfl, hT, hpl, (by omega)⟩ ⟨Nat.le_of_ble_eq_true rfl, Nat.le_of_ble_eq_true rfl⟩ (Nat.le_of_ble_eq_true rfl) ⟨Nat.zero_le _, Nat.zero_le _⟩ (fun v68 h r68 => ?_) (fun x68 h r68 => by obtain ⟨-, y9, e9, -⟩ := r68; cases e9)
        obtain ⟨rfl, y68, e68, hy68⟩ := r68
        cases e68
        replace hy68 : Ty K h 4 y68 := hy68
        obtain ⟨w71, he71, hw71, hwq71⟩ := TP.o (κ := 4) hT hy68
        obtain ⟨nw71, hw71⟩ : ∃ n, Tw k K h w71 n := ⟨_, Tx.tx hw71⟩
        refine g_ccast cx (ci := 4) d_1_24_71 t_535 rfl hy68.1 he71 ?_
        refine g_getf cx (k := 0) d_1_24_74 in4 rfl (by decide) t_567 (Or.inl rfl) hy68.1 he71 rfl ?_
        obtain ⟨la77, lr77, tr77, tn77, he77, hla77, hlr77, htr77, htn77, hlq77, hlaq77⟩ := TP.o (κ := 1) hT ha
        refine g_callV cx (As := [.ref w60, .ref w71]) (n := 2) (tc_addImport (n := nw60) (nb := nw71) hB17 htr) d_1_24_77 t_787 t_789 ts_19 t_1 t_790 ⟨by decide, by decide, by decide +kernel⟩ rfl (ci := 0) rfl ha.1 he77 ⟨rfl, hT, ha, hw60, hw71⟩ ⟨Nat.le_of_ble_eq_true rfl, Nat.le_of_ble_eq_true rfl⟩ (Nat.le_of_ble_eq_true rfl) ⟨Nat.le_of_ble_eq_true rfl, Nat.le_of_ble_eq_true rfl⟩ (fun v77 h r77 => ?_) (fun x77 h r77 => thrP hE r77)
        obtain ⟨K, hT, ev, rel77⟩ := r77
        obtain ⟨x77, ex77⟩ : ∃ x : Int32, v77 = some (.int x) := rt_int rel77
        subst ex77
        exact g_iret cx d_1_24_80 rfl rfl ⟨K, hT, Ev.trP hE ev, Or.inl ⟨_, rfl⟩⟩
      · skip
        exact t_iae cx htr d_1_24_46 d_1_24_49 d_1_24_50 d_1_24_53  ⟨Nat.le_of_ble_eq_true rfl, Nat.le_of_ble_eq_true rfl⟩ (Nat.le_of_ble_eq_true rfl) ⟨Nat.le_of_ble_eq_true rfl, Nat.le_of_ble_eq_true rfl⟩ (fun x hx hz => thrX (S := S1) (Or.inl rfl) hT hE hx hz)
set_option maxHeartbeats 8000000 in
theorem tc_line {S : Nat → Prop} {a ab v c0 cap cd : Nat} (hB : B < 2 ^ 17) (htr : l.stackTraces = false) : TC l y_100 prog_1_method_3_code 2 (Option.some Jvm.ClassFile.FieldType.int) (rmT 13 132 3130) D z0 k [.ref a] K (B) (T) (fun h => Ty K h 1 a ∧ (K a).2.1 = ab ∧ BK D K h S ab v c0 cap cd) (B) (T) (XP (fun z => z = ab) PK K) (RL D S S1 ab) := by
  refine tc_of (by decide) (Nat.le_of_ble_eq_true rfl) ?_
  intro h hT hp p e s m args below meth c cx hnm
  have hE : Ev k (XP (fun z => z = ab) PK K) K h K h := Ev.rf
  replace hB := hB
  have hB17 := hB
  replace hB : B < 2 ^ 20 := Nat.lt_trans hB (by decide)
  obtain ⟨ha, hab0, hbk⟩ := hp
  refine g_aload_n cx 0 d_1_3_0 rfl rfl ?_
  obtain ⟨la9, lr9, tr9, tn9, hed, -⟩ := TP.desk hT ha hab0
  refine g_callV cx (As := []) (n := 0) (tc_takeWritten (S := S) (ab := ab) (c0 := c0) (v := v) (cap := cap)) d_1_3_1 t_265 t_267 ts_1 t_1 t_268 ⟨by decide, by decide, by decide +kernel⟩ rfl (ci := 0) rfl ha.1 hed ⟨rfl, hT, ha, hab0, hbk⟩ ⟨Nat.le_of_ble_eq_true rfl, Nat.le_of_ble_eq_true rfl⟩ (Nat.le_of_ble_eq_true rfl) ⟨Nat.le_of_ble_eq_true rfl, Nat.le_of_ble_eq_true rfl⟩ (fun v1 h r1 => ?_) (fun x1 h r1 => by obtain ⟨K9, -, -, r9, v9, c9, e9, -⟩ := r1; cases e9)
  obtain ⟨K, hT, ev, rel1⟩ := r1
  obtain ⟨z1, v2, cap2, e1, hx1, hbk⟩ := rel1
  cases e1
  have hxt1 := hx1.1
  replace hab0 := Ev.ab ev ha hab0
  replace ha := Ev.ty ev ha
  replace hE := xab (P := PK) ev
  refine g_callS cx (As := [.ref z1]) (n := 1) (tc_split (n := c0)) d_1_3_4 t_516 t_517 t_1 t_518 ⟨by decide, by decide, by decide +kernel⟩ rfl ⟨rfl, hT, hxt1⟩ ⟨Nat.le_of_ble_eq_true rfl, Nat.le_of_ble_eq_true rfl⟩ (Nat.le_of_ble_eq_true rfl) ⟨Nat.le_of_ble_eq_true rfl, Nat.le_of_ble_eq_true rfl⟩ (fun v4 h r4 => ?_) (fun x4 h r4 => by obtain ⟨K9, -, -, r9, e9, -⟩ := r4; cases e9)
  obtain ⟨K, hT, ev, rel4⟩ := r4
  replace ev := xnd ev
  obtain ⟨z4, e4, hz4⟩ := rel4
  cases e4
  replace hbk := hbk.mvD ev
  replace hab0 := Ev.ab ev ha hab0
  replace ha := Ev.ty ev ha
  replace hE := Ev.trP hE (xw ev)
  refine g_astore_n cx (lv' := [(1, .ref z4), (0, .ref a)]) d_1_3_7 rfl (by decide) rfl ?_
  refine g_aload_n cx 0 d_1_3_8 rfl rfl ?_
  obtain ⟨⟨ea9, mo9, hm9, hl9⟩, hb9⟩ := TP.n24 hT hz4
  refine g_pcV cx (As := []) (n := 0) (pj_size (n := (K z4).2.2)) d_1_3_9 t_235 t_236 t_237 t_8 t_238 ⟨by decide, by decide, by decide +kernel⟩ rfl (ci := 2) rfl hm9 hl9 ⟨ea9, mo9, hm9, hl9⟩ ⟨Nat.le_of_ble_eq_true rfl, Nat.le_of_ble_eq_true rfl⟩ (Nat.le_of_ble_eq_true rfl) (fun v9 r9 => ?_)
  subst r9
  
  by_cases s0 : (K z4).2.2 = 0
  · skip
    refine g_tableIn cx (off := 36) (tgt := 48) d_1_3_12 (by rw [s0]; decide +kernel) (by rw [s0]; decide +kernel) (by rw [s0]; decide +kernel) rfl ?_
    refine g_iconst cx (v := 0) d_1_3_48 (by decide) ?_
    exact g_iret cx d_1_3_49 rfl rfl (lineOut hE hbk ⟨K, hT, Ev.rf, Or.inl ⟨_, rfl⟩⟩)
  by_cases s1 : (K z4).2.2 = 1
  · skip
    refine g_tableIn cx (off := 38) (tgt := 50) d_1_3_12 (by rw [s1]; decide +kernel) (by rw [s1]; decide +kernel) (by rw [s1]; decide +kernel) rfl ?_
    refine g_aload_n cx 1 d_1_3_50 rfl rfl ?_
    refine g_aload_n cx 0 d_1_3_51 rfl rfl ?_
    refine g_iconst cx (v := 0) d_1_3_52 (by decide) ?_
    refine g_callV cx (As := [.int 0]) (n := 1) (gj_get (K := K) (B := B) (T := T) (ce := 4) (j := 0) (by decide) hB) d_1_3_53 t_239 t_240 t_241 t_8 t_242 ⟨by decide, by decide, by decide +kernel⟩ rfl (ci := 2) rfl hm9 hl9 ⟨rfl, hT, hz4, (by omega)⟩ ⟨Nat.le_of_ble_eq_true rfl, Nat.le_of_ble_eq_true rfl⟩ (Nat.le_of_ble_eq_true rfl) ⟨Nat.zero_le _, Nat.zero_le _⟩ (fun v53 h r53 => ?_) (fun x53 h r53 => by obtain ⟨-, y9, e9, -⟩ := r53; cases e9)
    obtain ⟨rfl, y53, e53, hy53⟩ := r53
    cases e53
    replace hy53 : Ty K h 4 y53 := hy53
    obtain ⟨w56, he56, hw56, hwq56⟩ := TP.o (κ := 4) hT hy53
    obtain ⟨nw56, hw56⟩ : ∃ n, Tw k K h w56 n := ⟨_, Tx.tx hw56⟩
    refine g_ccast cx (ci := 4) d_1_3_56 t_535 rfl hy53.1 he56 ?_
    refine g_getf cx (k := 0) d_1_3_59 in4 rfl (by decide) t_567 (Or.inl rfl) hy53.1 he56 rfl ?_
    obtain ⟨la62, lr62, tr62, tn62, he62, hla62, hlr62, htr62, htn62, hlq62, hlaq62⟩ := TP.desk hT ha hab0
    refine g_callV cx (As := [.ref w56]) (n := 1) (tc_setOrder (n := nw56) hB17 htr) d_1_3_62 t_616 t_618 ts_8 t_1 t_619 ⟨by decide, by decide, by decide +kernel⟩ rfl (ci := 0) rfl ha.1 he62 ⟨rfl, hT, ha, hw56⟩ ⟨Nat.le_of_ble_eq_true rfl, Nat.le_of_ble_eq_true rfl⟩ (Nat.le_of_ble_eq_true rfl) ⟨Nat.le_of_ble_eq_true rfl, Nat.le_of_ble_eq_true rfl⟩ (fun v62 h r62 => ?_) (fun x62 h r62 => lineOut hE hbk (tq_nd r62))
    obtain ⟨K, hT, ev, rel62⟩ := r62
    replace ev := xnd ev
    obtain ⟨x62, ex62⟩ : ∃ x : Int32, v62 = some (.int x) := rt_int rel62
    subst ex62
    exact g_iret cx d_1_3_65 rfl rfl (lineOut hE hbk ⟨K, hT, ev, Or.inl ⟨_, rfl⟩⟩)
  by_cases s2 : (K z4).2.2 = 2
  · skip
    refine g_tableIn cx (off := 54) (tgt := 66) d_1_3_12 (by rw [s2]; decide +kernel) (by rw [s2]; decide +kernel) (by rw [s2]; decide +kernel) rfl ?_
    refine g_aload_n cx 1 d_1_3_66 rfl rfl ?_
    refine g_aload_n cx 0 d_1_3_67 rfl rfl ?_
    refine g_iconst cx (v := 0) d_1_3_68 (by decide) ?_
    refine g_callV cx (As := [.int 0]) (n := 1) (gj_get (K := K) (B := B) (T := T) (ce := 4) (j := 0) (by decide) hB) d_1_3_69 t_239 t_240 t_241 t_8 t_242 ⟨by decide, by decide, by decide +kernel⟩ rfl (ci := 2) rfl hm9 hl9 ⟨rfl, hT, hz4, (by omega)⟩ ⟨Nat.le_of_ble_eq_true rfl, Nat.le_of_ble_eq_true rfl⟩ (Nat.le_of_ble_eq_true rfl) ⟨Nat.zero_le _, Nat.zero_le _⟩ (fun v69 h r69 => ?_) (fun x69 h r69 => by obtain ⟨-, y9, e9, -⟩ := r69; cases e9)
    obtain ⟨rfl, y69, e69, hy69⟩ := r69
    cases e69
    replace hy69 : Ty K h 4 y69 := hy69
    obtain ⟨w72, he72, hw72, hwq72⟩ := TP.o (κ := 4) hT hy69
    obtain ⟨nw72, hw72⟩ : ∃ n, Tw k K h w72 n := ⟨_, Tx.tx hw72⟩
    refine g_ccast cx (ci := 4) d_1_3_72 t_535 rfl hy69.1 he72 ?_
    refine g_getf cx (k := 0) d_1_3_75 in4 rfl (by decide) t_567 (Or.inl rfl) hy69.1 he72 rfl ?_
    refine g_aload_n cx 0 d_1_3_78 rfl rfl ?_
    refine g_iconst cx (v := 1) d_1_3_79 (by decide) ?_
    refine g_callV cx (As := [.int 1]) (n := 1) (gj_get (K := K) (B := B) (T := T) (ce := 4) (j := 1) (by decide) hB) d_1_3_80 t_239 t_240 t_241 t_8 t_242 ⟨by decide, by decide, by decide +kernel⟩ rfl (ci := 2) rfl hm9 hl9 ⟨rfl, hT, hz4, (by omega)⟩ ⟨Nat.le_of_ble_eq_true rfl, Nat.le_of_ble_eq_true rfl⟩ (Nat.le_of_ble_eq_true rfl) ⟨Nat.zero_le _, Nat.zero_le _⟩ (fun v80 h r80 => ?_) (fun x80 h r80 => by obtain ⟨-, y9, e9, -⟩ := r80; cases e9)
    obtain ⟨rfl, y80, e80, hy80⟩ := r80
    cases e80
    replace hy80 : Ty K h 4 y80 := hy80
    obtain ⟨w83, he83, hw83, hwq83⟩ := TP.o (κ := 4) hT hy80
    obtain ⟨nw83, hw83⟩ : ∃ n, Tw k K h w83 n := ⟨_, Tx.tx hw83⟩
    refine g_ccast cx (ci := 4) d_1_3_83 t_535 rfl hy80.1 he83 ?_
    refine g_getf cx (k := 0) d_1_3_86 in4 rfl (by decide) t_567 (Or.inl rfl) hy80.1 he83 rfl ?_
    obtain ⟨la89, lr89, tr89, tn89, he89, hla89, hlr89, htr89, htn89, hlq89, hlaq89⟩ := TP.desk hT ha hab0
    refine g_callV cx (As := [.ref w72, .ref w83]) (n := 2) (tc_readPair (n := nw72) (nb := nw83) hB17 htr) d_1_3_89 t_656 t_658 ts_10 t_1 t_659 ⟨by decide, by decide, by decide +kernel⟩ rfl (ci := 0) rfl ha.1 he89 ⟨rfl, hT, ha, hw72, hw83⟩ ⟨Nat.le_of_ble_eq_true rfl, Nat.le_of_ble_eq_true rfl⟩ (Nat.le_of_ble_eq_true rfl) ⟨Nat.le_of_ble_eq_true rfl, Nat.le_of_ble_eq_true rfl⟩ (fun v89 h r89 => ?_) (fun x89 h r89 => lineOut hE hbk r89)
    obtain ⟨K, hT, ev, rel89⟩ := r89
    obtain ⟨x89, ex89⟩ : ∃ x : Int32, v89 = some (.int x) := rt_int rel89
    subst ex89
    exact g_iret cx d_1_3_92 rfl rfl (lineOut hE hbk ⟨K, hT, ev, Or.inl ⟨_, rfl⟩⟩)
  by_cases s3 : (K z4).2.2 = 3
  · skip
    refine g_tableIn cx (off := 87) (tgt := 99) d_1_3_12 (by rw [s3]; decide +kernel) (by rw [s3]; decide +kernel) (by rw [s3]; decide +kernel) rfl ?_
    exact t_iae cx htr d_1_3_99 d_1_3_102 d_1_3_103 d_1_3_106  ⟨Nat.le_of_ble_eq_true rfl, Nat.le_of_ble_eq_true rfl⟩ (Nat.le_of_ble_eq_true rfl) ⟨Nat.le_of_ble_eq_true rfl, Nat.le_of_ble_eq_true rfl⟩ (fun x hx hz => lineOut hE hbk (thrX (S := S1) (Or.inl rfl) hT (Ev.rf (X := XD K)) hx hz))
  by_cases s4 : (K z4).2.2 = 4
  · skip
    refine g_tableIn cx (off := 81) (tgt := 93) d_1_3_12 (by rw [s4]; decide +kernel) (by rw [s4]; decide +kernel) (by rw [s4]; decide +kernel) rfl ?_
    refine g_aload_n cx 1 d_1_3_93 rfl rfl ?_
    refine g_aload_n cx 0 d_1_3_94 rfl rfl ?_
    obtain ⟨la95, lr95, tr95, tn95, he95, hla95, hlr95, htr95, htn95, hlq95, hlaq95⟩ := TP.desk hT ha hab0
    refine g_callV cx (As := [.ref z4]) (n := 1) (tc_readFour  hB17 htr) d_1_3_95 t_781 t_783 ts_18 t_1 t_784 ⟨by decide, by decide, by decide +kernel⟩ rfl (ci := 0) rfl ha.1 he95 ⟨rfl, hT, ha, hz4⟩ ⟨Nat.le_of_ble_eq_true rfl, Nat.le_of_ble_eq_true rfl⟩ (Nat.le_of_ble_eq_true rfl) ⟨Nat.le_of_ble_eq_true rfl, Nat.le_of_ble_eq_true rfl⟩ (fun v95 h r95 => ?_) (fun x95 h r95 => lineOut hE hbk r95)
    obtain ⟨K, hT, ev, rel95⟩ := r95
    obtain ⟨x95, ex95⟩ : ∃ x : Int32, v95 = some (.int x) := rt_int rel95
    subst ex95
    exact g_iret cx d_1_3_98 rfl rfl (lineOut hE hbk ⟨K, hT, ev, Or.inl ⟨_, rfl⟩⟩)
  refine g_tableOut cx (tgt := 99) d_1_3_12 (Or.inr (by rw [nI_toInt (by omega)]; omega)) rfl ?_
  exact t_iae cx htr d_1_3_99 d_1_3_102 d_1_3_103 d_1_3_106  ⟨Nat.le_of_ble_eq_true rfl, Nat.le_of_ble_eq_true rfl⟩ (Nat.le_of_ble_eq_true rfl) ⟨Nat.le_of_ble_eq_true rfl, Nat.le_of_ble_eq_true rfl⟩ (fun x hx hz => lineOut hE hbk (thrX (S := S1) (Or.inl rfl) hT (Ev.rf (X := XD K)) hx hz))
end C2
