/-! split, with the parts it makes. -/
/-- the parts of a text as far as they have been read -/
def SPp (cd n j st nc : Nat) (bg en : Nat → Nat) : Prop := (∀ i, i < nc → bg i < en i ∧ en i < st ∧ en i ≤ n ∧ ∀ x, bg i ≤ x → x < en i → chr cd x ≠ 32) ∧ (∀ i, i + 1 < nc → en i < bg (i + 1)) ∧ (∀ x, x < st → x < n → chr cd x ≠ 32 → ∃ i, i < nc ∧ bg i ≤ x ∧ x < en i) ∧ ∀ x, st ≤ x → x < j → chr cd x ≠ 32
theorem SPp.zero {cd n : Nat} {bg en : Nat → Nat} : SPp cd n 0 0 0 bg en := ⟨fun i hi => absurd hi (Nat.not_lt_zero _), fun i hi => absurd hi (Nat.not_lt_zero _), fun x hx => absurd hx (Nat.not_lt_zero _), fun x _ hx => absurd hx (Nat.not_lt_zero _)⟩
theorem SPp.char {cd n j st nc : Nat} {bg en : Nat → Nat} (h : SPp cd n j st nc bg en) (hc : chr cd j ≠ 32) : SPp cd n (j + 1) st nc bg en := by
  refine ⟨h.1, h.2.1, h.2.2.1, fun x h1 h2 => ?_⟩
  by_cases e : x = j
  · rw [e]
    exact hc
  · exact h.2.2.2 x h1 (by omega)
theorem SPp.skip {cd n j st nc : Nat} {bg en : Nat → Nat} (h : SPp cd n j st nc bg en) (hst : j ≤ st) (hst2 : st ≤ j) (hb : j < n → chr cd j = 32) : SPp cd n (j + 1) (j + 1) nc bg en := by
  refine ⟨fun i hi => ⟨(h.1 i hi).1, by have := (h.1 i hi).2.1; omega, (h.1 i hi).2.2⟩, h.2.1, fun x hx hx2 hn => ?_, fun x h1 h2 => absurd h2 (by omega)⟩
  by_cases e : x = j
  · rw [e] at hn hx2
    exact absurd (hb hx2) hn
  · exact h.2.2.1 x (by omega) hx2 hn
theorem SPp.close {cd n j st nc : Nat} {bg en : Nat → Nat} (h : SPp cd n j st nc bg en) (hst : st < j) (hjn : j ≤ n) (hb : j < n → chr cd j = 32) : SPp cd n (j + 1) (j + 1) (nc + 1) (va_up bg nc st) (va_up en nc j) := by
  refine ⟨fun i hi => ?_, fun i hi => ?_, fun x hx hx2 hn => ?_, fun x h1 h2 => absurd h2 (by omega)⟩
  · by_cases e : i = nc
    · subst e
      rw [va_up_self, va_up_self]
      exact ⟨hst, by omega, hjn, fun x h1 h2 => h.2.2.2 x h1 h2⟩
    · rw [va_up_ne _ _ e, va_up_ne _ _ e]
      obtain ⟨a1, a2, a3, a4⟩ := h.1 i (by omega)
      exact ⟨a1, by omega, a3, a4⟩
  · have e : i ≠ nc := by omega
    rw [va_up_ne _ _ e]
    by_cases e2 : i + 1 = nc
    · rw [e2, va_up_self]
      exact (h.1 i (by omega)).2.1
    · rw [va_up_ne _ _ e2]
      exact h.2.1 i (by omega)
  · by_cases e : x = j
    · rw [e] at hn hx2
      exact absurd (hb hx2) hn
    · by_cases e2 : x < st
      · obtain ⟨i, a1, a2, a3⟩ := h.2.2.1 x e2 hx2 hn
        have e3 : i ≠ nc := by omega
        exact ⟨i, by omega, by rw [va_up_ne _ _ e3]; exact a2, by rw [va_up_ne _ _ e3]; exact a3⟩
      · exact ⟨nc, by omega, by rw [va_up_self]; omega, by rw [va_up_self]; omega⟩
theorem SPp.done {cd n j nc : Nat} {bg en : Nat → Nat} (h : SPp cd n j (n + 1) nc bg en) : SPL cd n nc bg en := ⟨fun i hi => ⟨(h.1 i hi).1, (h.1 i hi).2.2.1, (h.1 i hi).2.2.2⟩, h.2.1, fun x hx hn => h.2.2.1 x (by omega) hx hn⟩
/-- the i-th of the texts es is the i-th part -/
def PTs (k : Nat → Nat) (K : KM) (h : hp) (cd nc : Nat) (bg en es : Nat → Nat) : Prop := ∀ i, i < nc → Ty K h 4 (es i) ∧ Tc k K h (K (es i)).2.1 (en i - bg i) (sub cd (bg i) (en i - bg i))
theorem PTs.ev {k : Nat → Nat} {K K' : KM} {h h' : hp} {X : Nat → Prop} {cd nc : Nat} {bg en es : Nat → Nat} (q : PTs k K h cd nc bg en es) (ev : Ev k X K h K' h') : PTs k K' h' cd nc bg en es := fun i hi => by
  obtain ⟨a1, a2⟩ := q i hi
  exact ⟨Ev.ty ev a1, by rw [Ev.ab ev a1 rfl]; exact Ev.tc ev a2⟩
theorem PTs.add {k : Nat → Nat} {K : KM} {h : hp} {cd nc st j t : Nat} {bg en es : Nat → Nat} (q : PTs k K h cd nc bg en es) (ht : Ty K h 4 t) (hc : Tc k K h (K t).2.1 (j - st) (sub cd st (j - st))) : PTs k K h cd (nc + 1) (va_up bg nc st) (va_up en nc j) (va_up es nc t) := fun i hi => by
  by_cases e : i = nc
  · subst e
    rw [va_up_self, va_up_self, va_up_self]
    exact ⟨ht, hc⟩
  · rw [va_up_ne _ _ e, va_up_ne _ _ e, va_up_ne _ _ e]
    exact q i (by omega)
section F3
variable {l : Launch} {D : va_G} {z0 : Nat} {k : Nat → Nat} {K : KM} {B T : Nat}
set_option maxHeartbeats 8000000 in
theorem tc_splitF {w n cd : Nat} : TC l y_101 prog_1_method_13_code 4 (Option.some (Jvm.ClassFile.FieldType.object "java/util/ArrayList")) (rmT 10 65 1603) D z0 k [.ref w] K (B) (T) (fun h => Tc k K h w n cd) (B) (T) (XN K) (fun o K' h' => ∃ (r pn : Nat) (bg en es : Nat → Nat), o = .returned (some (.ref r)) ∧ LsK D K' h' r 24 pn es ∧ SPL cd n pn bg en ∧ PTs k K' h' cd pn bg en es) := by
  refine tc_of (by decide) (Nat.le_of_ble_eq_true rfl) ?_
  intro h hT hp p e s m args below meth c cx hnm
  have hE : Ev k (XN K) K h K h := Ev.rf
  have hle := Tw.le hp.1 hT
  have hw := hp
  have hwt := hp.1
  clear hp
  have lp : ∀ (n0 j : Nat) (st nc q0 : Nat) (bg en es : Nat → Nat) (K1 : KM) (h1 : hp) (rc rs : Nat), (n + 1) - j < n0 → j ≤ (n + 1) → TP D z0 k K1 (B) (T) h1 → Ev k (XN K) K h K1 h1 → st ≤ j → Tw k K1 h1 w n → Tc k K1 h1 w n cd → Ty K1 h1 24 q0 → (K1 q0).2.2 = nc → nc ≤ j → LsK D K1 h1 q0 24 nc es → SPp cd n j st nc bg en → PTs k K1 h1 cd nc bg en es → (j = n + 1 → st = n + 1) → 2 * (n + 2 - st) ≤ rc → 50 * (n + 2 - st) ≤ rs → G p l e (rmT 10 65 1603) s m args below meth c 4 D z0 (EE z0 k) (TQ D z0 k K h (B) (T) (XN K) (fun o K' h' => ∃ (r pn : Nat) (bg en es : Nat → Nat), o = .returned (some (.ref r)) ∧ LsK D K' h' r 24 pn es ∧ SPL cd n pn bg en ∧ PTs k K' h' cd pn bg en es)) (65) (1603) 12 [(3, .int (nI j)), (2, .int (nI st)), (1, .ref q0), (0, .ref w)] [] h1 rc rs := by
    clear hT hE hw hwt
    intro n0
    induction n0 with
    | zero => intro j _ _ _ _ _ _ _ _ _ _ hj; exact absurd hj (Nat.not_lt_zero _)
    | succ n0 ih =>
      intro j st nc q0 bg en es K h rc rs hj0 hjn hT hE hst hwt hw hq hnc hncj hL hSP hPT hz1 hc1 hc2
      refine g_iload_n cx 0 d_1_13_12 rfl rfl ?_
      refine g_aload_n cx 3 d_1_13_13 rfl rfl ?_
      obtain ⟨v14, hs14⟩ := TP.str hT hwt
      refine g_pcVS cx (As := []) (n := 0) (pj_length (n := n)) d_1_13_14 t_519 t_391 t_392 t_4 t_393 rfl (by decide +kernel) rfl hs14 ⟨_, hs14⟩ ⟨Nat.le_of_ble_eq_true rfl, Nat.le_of_ble_eq_true rfl⟩ (Nat.le_of_ble_eq_true rfl) (fun v14 r14 => ?_)
      subst r14
      refine g_icmp_gt cx d_1_13_17 rfl (fun c17 => ?_) (fun c17 => ?_)
      · skip
        have hjx : j = n + 1 := by have := (nI_ltI (by omega) (by omega)).mp c17; omega
        refine g_aload_n cx 2 d_1_13_71 rfl rfl ?_
        exact g_aret cx d_1_13_72 rfl (Or.inl ⟨_, rfl⟩) (Or.inr ⟨_, rfl⟩) ⟨K, hT, hE, _, nc, bg, en, es, rfl, hL, by rw [hz1 hjx] at hSP; exact hSP.done, hPT⟩
      · skip
        have hjn2 : j ≤ n := Nat.le_of_not_lt (fun q => c17 (nI_lt q (by omega)))
        refine g_iload_n cx 0 d_1_13_20 rfl rfl ?_
        refine g_aload_n cx 3 d_1_13_21 rfl rfl ?_
        obtain ⟨v22, hs22⟩ := TP.str hT hwt
        refine g_pcVS cx (As := []) (n := 0) (pj_length (n := n)) d_1_13_22 t_519 t_391 t_392 t_4 t_393 rfl (by decide +kernel) rfl hs22 ⟨_, hs22⟩ ⟨Nat.le_of_ble_eq_true rfl, Nat.le_of_ble_eq_true rfl⟩ (Nat.le_of_ble_eq_true rfl) (fun v22 r22 => ?_)
        subst r22
        refine g_icmp_eq cx d_1_13_25 rfl (fun c25 => ?_) (fun c25 => ?_)
        · skip
          have hbl : j < n → chr cd j = 32 := fun z => absurd ((nI_eq (by omega) (by omega)).mp c25) (by omega)
          refine g_iload_n cx 1 d_1_13_38 rfl rfl ?_
          refine g_iload_n cx 0 d_1_13_39 rfl rfl ?_
          refine g_icmp_ge cx d_1_13_40 rfl (fun c40 => ?_) (fun c40 => ?_)
          · skip
            have hjs : j ≤ st := (nI_leI (by omega) (by omega)).mp c40
            refine g_iload_n cx 0 d_1_13_61 rfl rfl ?_
            refine g_iconst cx (v := 1) d_1_13_62 (by decide) ?_
            refine g_iadd cx d_1_13_63 ?_
            refine g_topi (fun s2 es2 => ?_)
            obtain rfl : s2 = nI (j + 1) := es2.trans (nI_1 j)
            refine g_istore_n cx (lv' := [(2, .int (nI (j + 1))), (3, .int (nI j)), (1, .ref q0), (0, .ref w)]) d_1_13_64 rfl (by decide) rfl ?_
            refine g_iinc cx 1 (lv' := [(3, .int (nI (j + 1))), (2, .int (nI (j + 1))), (1, .ref q0), (0, .ref w)]) d_1_13_65 rfl (inc1 j) (by decide) rfl ?_
            refine g_goto cx d_1_13_68 rfl ?_
            exact ih (j + 1) (j + 1) (nc) q0 bg en es K h _ _ (by omega) (by omega) hT hE (by omega) hwt hw hq hnc (by omega) hL (hSP.skip hjs hst hbl) hPT (fun z => by omega) (by omega) (by omega)
          · skip
            have hsj : st < j := Nat.lt_of_not_le (fun q => c40 (nI_le q (by omega)))
            refine g_aload_n cx 2 d_1_13_43 rfl rfl ?_
            refine g_new cx (ci := 4) (fs := [.null]) d_1_13_44 in4 ty4_ok t_535 t_536 t_21 rfl (by decide) ⟨by omega, by omega⟩ (fun q44 hq44 hz44 => ?_)
            have hN44 := Ev.nin hE hq44
            have ne_44_q0 : ¬ q0 = q44 := fun z => hq44 (z ▸ hq.1)
            refine t_raw hT hq44 hz44 (fun K h hT ev hr44 hm44 he44 hol44 => ?_)
            replace hL := hL.ev ev (fun _ _ => id)
            replace hPT := hPT.ev ev
            replace hnc := (congrArg (fun z => z.2.2) ((ev.1 q0 hq.1).2.2 id).1).trans hnc
            have hq := Ev.ty ev hq
            have hwt := Ev.tx ev hwt
            have hw := Ev.tc ev hw
            replace hE := hE.tr ev
            refine g_dup cx d_1_13_47 rfl ?_
            refine g_aload_n cx 3 d_1_13_48 rfl rfl ?_
            refine g_iload_n cx 1 d_1_13_49 rfl rfl ?_
            refine g_iload_n cx 0 d_1_13_50 rfl rfl ?_
            obtain ⟨v51, hs51⟩ := TP.str hT hw.1
            refine g_callVS cx (As := [.int (nI st), .int (nI j)]) (n := 2) (tj_substring (cd := cd) (n := n) (bg := st) (en := j) (by omega) hjn2) d_1_13_51 t_537 t_538 t_539 t_4 t_540 rfl (by decide +kernel) rfl hs51 ⟨rfl, hT, hw⟩ ⟨Nat.le_of_ble_eq_true rfl, Nat.le_of_ble_eq_true rfl⟩ (Nat.le_of_ble_eq_true rfl) ⟨by show 2 ≤ rc - 1; omega, by show 40 ≤ rs - 1; omega⟩ (fun v51 h r51 => ?_) (fun x51 h r51 => by obtain ⟨K9, -, -, r9, e9, -⟩ := r51; cases e9)
            obtain ⟨K, hT, ev, rel51⟩ := r51
            obtain ⟨z51, e51, hx51⟩ := rel51
            cases e51
            replace hL := hL.ev ev (fun _ _ => id)
            replace hPT := hPT.ev ev
            replace hnc := (congrArg (fun z => z.2.2) ((ev.1 q0 hq.1).2.2 id).1).trans hnc
            have hq := Ev.ty ev hq
            have hwt := Ev.tx ev hwt
            have hw := Ev.tc ev hw
            obtain ⟨hr44, hm44, he44⟩ := Ev.rawm ev hr44 hm44 he44
            replace hE := hE.tr ev
            have hxt51 := hx51.1
            refine g_callI cx (ret' := none) (As := [.ref z51]) (n := 1) (tc_text (n := (j - st))) d_1_13_54 t_561 t_562 t_21 t_563 rfl ⟨by decide, by decide, by decide +kernel⟩ rfl ⟨rfl, hT, ⟨⟨hr44, hm44, he44⟩, hxt51⟩⟩ ⟨Nat.le_of_ble_eq_true rfl, Nat.le_of_ble_eq_true rfl⟩ (Nat.le_of_ble_eq_true rfl) ⟨Nat.zero_le _, Nat.zero_le _⟩ (fun v54 h r54 => ?_) (fun x54 h r54 => by obtain ⟨K9, -, -, e9⟩ := r54; cases e9.1)
            obtain ⟨K, hT, ev, rel54⟩ := r54
            obtain ⟨e54, hn54, hnw54, hnz54⟩ := rel54
            cases e54
            replace hL := hL.ev ev (fun z hz y => by have y2 : z = q44 := y; rw [y2, hr44] at hz; rcases hz with hz | hz <;> exact absurd hz (by decide))
            replace hPT := hPT.ev ev
            replace hnc := (congrArg (fun z => z.2.2) ((ev.1 q0 hq.1).2.2 ne_44_q0).1).trans hnc
            have hq := Ev.ty ev hq
            have hwt := Ev.tx ev hwt
            have hw := Ev.tc ev hw
            have hxt51 := Ev.tx ev hxt51
            have hx51 := Ev.tc ev hx51
            replace hE := hE.trN hN44 ev
            obtain ⟨⟨ea57, mo57, hm57, hl57⟩, hb57⟩ := TP.n24 hT hq
            refine g_callV cx (As := [.ref q44]) (n := 1) (tj_addF (B := B) (n := nc) (ce := 4) (g := 58) (es := es) (by decide) (by rw [show bd (4 + 20) B = 40 from rfl]; omega) (by omega) (by rw [show bd (4 + 20) B = 40 from rfl]; omega)) d_1_13_57 t_571 t_572 t_573 t_8 t_574 ⟨by decide, by decide, by decide +kernel⟩ rfl (ci := 2) rfl hm57 hl57 ⟨rfl, hT, hq, hn54, hnc, hL.ls⟩ ⟨Nat.le_of_ble_eq_true rfl, Nat.le_of_ble_eq_true rfl⟩ (Nat.le_of_ble_eq_true rfl) ⟨by show 1 ≤ rc - 1 - 2 - 0; omega, by show 58 ≤ rs - 1 - 40 - 0; omega⟩ (fun v57 h r57 => ?_) (fun x57 h r57 => by obtain ⟨K9, -, -, e9, -⟩ := r57; cases e9)
            obtain ⟨K, hT, ev, e57, hnew57, hls57⟩ := r57
            cases e57
            replace ev := xn_add (e := X0) (ce := 4) (by decide) hq ev
            replace hnw54 := Ev.ab ev hn54 hnw54
            replace hn54 := Ev.ty ev hn54
            replace hx51 := Ev.tc ev hx51
            replace hPT := hPT.ev ev
            have hq := Ev.ty ev hq
            have hwt := Ev.tx ev hwt
            have hw := Ev.tc ev hw
            replace hL := LsK.of hT hq (by decide) hnew57 hls57
            replace hE := Ev.trP hE ev
            refine g_pop cx d_1_13_60 rfl ?_
            refine g_iload_n cx 0 d_1_13_61 rfl rfl ?_
            refine g_iconst cx (v := 1) d_1_13_62 (by decide) ?_
            refine g_iadd cx d_1_13_63 ?_
            refine g_topi (fun s2 es2 => ?_)
            obtain rfl : s2 = nI (j + 1) := es2.trans (nI_1 j)
            refine g_istore_n cx (lv' := [(2, .int (nI (j + 1))), (3, .int (nI j)), (1, .ref q0), (0, .ref w)]) d_1_13_64 rfl (by decide) rfl ?_
            refine g_iinc cx 1 (lv' := [(3, .int (nI (j + 1))), (2, .int (nI (j + 1))), (1, .ref q0), (0, .ref w)]) d_1_13_65 rfl (inc1 j) (by decide) rfl ?_
            refine g_goto cx d_1_13_68 rfl ?_
            exact ih (j + 1) (j + 1) (nc + 1) q0 (va_up bg nc st) (va_up en nc j) (va_up es nc q44) K h _ _ (by omega) (by omega) hT hE (by omega) hwt hw hq hnew57 (by omega) hL (hSP.close hsj hjn2 hbl) (hPT.add hn54 (by rw [hnw54]; exact hx51)) (fun z => by omega) (by show 2 * (n + 2 - (j + 1)) ≤ rc - 1 - 2 - 0 - 1; omega) (by show 50 * (n + 2 - (j + 1)) ≤ rs - 1 - 40 - 0 - 58; omega)
        · skip
          have hjl : j < n := by
            have : j ≠ n := fun z => c25 (by rw [z])
            omega
          refine g_aload_n cx 3 d_1_13_28 rfl rfl ?_
          refine g_iload_n cx 0 d_1_13_29 rfl rfl ?_
          obtain ⟨vc30, hsc30, hfc30, -⟩ := Tc.byt hT hw
          refine g_pcVS cx (As := [.int (nI j)]) (n := 1) (pj_charF (n := n) (j := j) (cd := cd) hjl) d_1_13_30 t_520 t_521 t_522 t_4 t_523 rfl (by decide +kernel) rfl hsc30 ⟨_, hsc30, hfc30⟩ ⟨Nat.le_of_ble_eq_true rfl, Nat.le_of_ble_eq_true rfl⟩ (Nat.le_of_ble_eq_true rfl) (fun v30 r30 => ?_)
          subst r30
          refine g_bipush cx (v := 32) d_1_13_33 (by decide) ?_
          refine g_icmp_ne cx d_1_13_35 rfl (fun c35 => ?_) (fun c35 => ?_)
          · skip
            have hcb : chr cd j ≠ 32 := fun z => c35 (congrArg nI z)
            refine g_iinc cx 0 (lv' := [(3, .int (nI (j + 1))), (2, .int (nI st)), (1, .ref q0), (0, .ref w)]) d_1_13_65 rfl (inc1 j) (by decide) rfl ?_
            refine g_goto cx d_1_13_68 rfl ?_
            exact ih (j + 1) st (nc) q0 bg en es K h _ _ (by omega) (by omega) hT hE (by omega) hwt hw hq hnc (by omega) hL (hSP.char hcb) hPT (fun z => by omega) (by omega) (by omega)
          · skip
            have hbl : j < n → chr cd j = 32 := fun _ => (nI_eq (b := 32) (Nat.lt_trans chr_lt (by decide)) (by decide)).mp c35
            refine g_iload_n cx 1 d_1_13_38 rfl rfl ?_
            refine g_iload_n cx 0 d_1_13_39 rfl rfl ?_
            refine g_icmp_ge cx d_1_13_40 rfl (fun c40 => ?_) (fun c40 => ?_)
            · skip
              have hjs : j ≤ st := (nI_leI (by omega) (by omega)).mp c40
              refine g_iload_n cx 0 d_1_13_61 rfl rfl ?_
              refine g_iconst cx (v := 1) d_1_13_62 (by decide) ?_
              refine g_iadd cx d_1_13_63 ?_
              refine g_topi (fun s2 es2 => ?_)
              obtain rfl : s2 = nI (j + 1) := es2.trans (nI_1 j)
              refine g_istore_n cx (lv' := [(2, .int (nI (j + 1))), (3, .int (nI j)), (1, .ref q0), (0, .ref w)]) d_1_13_64 rfl (by decide) rfl ?_
              refine g_iinc cx 1 (lv' := [(3, .int (nI (j + 1))), (2, .int (nI (j + 1))), (1, .ref q0), (0, .ref w)]) d_1_13_65 rfl (inc1 j) (by decide) rfl ?_
              refine g_goto cx d_1_13_68 rfl ?_
              exact ih (j + 1) (j + 1) (nc) q0 bg en es K h _ _ (by omega) (by omega) hT hE (by omega) hwt hw hq hnc (by omega) hL (hSP.skip hjs hst hbl) hPT (fun z => by omega) (by omega) (by omega)
            · skip
              have hsj : st < j := Nat.lt_of_not_le (fun q => c40 (nI_le q (by omega)))
              refine g_aload_n cx 2 d_1_13_43 rfl rfl ?_
              refine g_new cx (ci := 4) (fs := [.null]) d_1_13_44 in4 ty4_ok t_535 t_536 t_21 rfl (by decide) ⟨by omega, by omega⟩ (fun q44 hq44 hz44 => ?_)
              have hN44 := Ev.nin hE hq44
              have ne_44_q0 : ¬ q0 = q44 := fun z => hq44 (z ▸ hq.1)
              refine t_raw hT hq44 hz44 (fun K h hT ev hr44 hm44 he44 hol44 => ?_)
              replace hL := hL.ev ev (fun _ _ => id)
              replace hPT := hPT.ev ev
              replace hnc := (congrArg (fun z => z.2.2) ((ev.1 q0 hq.1).2.2 id).1).trans hnc
              have hq := Ev.ty ev hq
              have hwt := Ev.tx ev hwt
              have hw := Ev.tc ev hw
              replace hE := hE.tr ev
              refine g_dup cx d_1_13_47 rfl ?_
              refine g_aload_n cx 3 d_1_13_48 rfl rfl ?_
              refine g_iload_n cx 1 d_1_13_49 rfl rfl ?_
              refine g_iload_n cx 0 d_1_13_50 rfl rfl ?_
              obtain ⟨v51, hs51⟩ := TP.str hT hw.1
              refine g_callVS cx (As := [.int (nI st), .int (nI j)]) (n := 2) (tj_substring (cd := cd) (n := n) (bg := st) (en := j) (by omega) hjn2) d_1_13_51 t_537 t_538 t_539 t_4 t_540 rfl (by decide +kernel) rfl hs51 ⟨rfl, hT, hw⟩ ⟨Nat.le_of_ble_eq_true rfl, Nat.le_of_ble_eq_true rfl⟩ (Nat.le_of_ble_eq_true rfl) ⟨by show 2 ≤ rc - 1; omega, by show 40 ≤ rs - 1; omega⟩ (fun v51 h r51 => ?_) (fun x51 h r51 => by obtain ⟨K9, -, -, r9, e9, -⟩ := r51; cases e9)
              obtain ⟨K, hT, ev, rel51⟩ := r51
              obtain ⟨z51, e51, hx51⟩ := rel51
              cases e51
              replace hL := hL.ev ev (fun _ _ => id)
              replace hPT := hPT.ev ev
              replace hnc := (congrArg (fun z => z.2.2) ((ev.1 q0 hq.1).2.2 id).1).trans hnc
              have hq := Ev.ty ev hq
              have hwt := Ev.tx ev hwt
              have hw := Ev.tc ev hw
              obtain ⟨hr44, hm44, he44⟩ := Ev.rawm ev hr44 hm44 he44
              replace hE := hE.tr ev
              have hxt51 := hx51.1
              refine g_callI cx (ret' := none) (As := [.ref z51]) (n := 1) (tc_text (n := (j - st))) d_1_13_54 t_561 t_562 t_21 t_563 rfl ⟨by decide, by decide, by decide +kernel⟩ rfl ⟨rfl, hT, ⟨⟨hr44, hm44, he44⟩, hxt51⟩⟩ ⟨Nat.le_of_ble_eq_true rfl, Nat.le_of_ble_eq_true rfl⟩ (Nat.le_of_ble_eq_true rfl) ⟨Nat.zero_le _, Nat.zero_le _⟩ (fun v54 h r54 => ?_) (fun x54 h r54 => by obtain ⟨K9, -, -, e9⟩ := r54; cases e9.1)
              obtain ⟨K, hT, ev, rel54⟩ := r54
              obtain ⟨e54, hn54, hnw54, hnz54⟩ := rel54
              cases e54
              replace hL := hL.ev ev (fun z hz y => by have y2 : z = q44 := y; rw [y2, hr44] at hz; rcases hz with hz | hz <;> exact absurd hz (by decide))
              replace hPT := hPT.ev ev
              replace hnc := (congrArg (fun z => z.2.2) ((ev.1 q0 hq.1).2.2 ne_44_q0).1).trans hnc
              have hq := Ev.ty ev hq
              have hwt := Ev.tx ev hwt
              have hw := Ev.tc ev hw
              have hxt51 := Ev.tx ev hxt51
              have hx51 := Ev.tc ev hx51
              replace hE := hE.trN hN44 ev
              obtain ⟨⟨ea57, mo57, hm57, hl57⟩, hb57⟩ := TP.n24 hT hq
              refine g_callV cx (As := [.ref q44]) (n := 1) (tj_addF (B := B) (n := nc) (ce := 4) (g := 58) (es := es) (by decide) (by rw [show bd (4 + 20) B = 40 from rfl]; omega) (by omega) (by rw [show bd (4 + 20) B = 40 from rfl]; omega)) d_1_13_57 t_571 t_572 t_573 t_8 t_574 ⟨by decide, by decide, by decide +kernel⟩ rfl (ci := 2) rfl hm57 hl57 ⟨rfl, hT, hq, hn54, hnc, hL.ls⟩ ⟨Nat.le_of_ble_eq_true rfl, Nat.le_of_ble_eq_true rfl⟩ (Nat.le_of_ble_eq_true rfl) ⟨by show 1 ≤ rc - 1 - 2 - 0; omega, by show 58 ≤ rs - 1 - 40 - 0; omega⟩ (fun v57 h r57 => ?_) (fun x57 h r57 => by obtain ⟨K9, -, -, e9, -⟩ := r57; cases e9)
              obtain ⟨K, hT, ev, e57, hnew57, hls57⟩ := r57
              cases e57
              replace ev := xn_add (e := X0) (ce := 4) (by decide) hq ev
              replace hnw54 := Ev.ab ev hn54 hnw54
              replace hn54 := Ev.ty ev hn54
              replace hx51 := Ev.tc ev hx51
              replace hPT := hPT.ev ev
              have hq := Ev.ty ev hq
              have hwt := Ev.tx ev hwt
              have hw := Ev.tc ev hw
              replace hL := LsK.of hT hq (by decide) hnew57 hls57
              replace hE := Ev.trP hE ev
              refine g_pop cx d_1_13_60 rfl ?_
              refine g_iload_n cx 0 d_1_13_61 rfl rfl ?_
              refine g_iconst cx (v := 1) d_1_13_62 (by decide) ?_
              refine g_iadd cx d_1_13_63 ?_
              refine g_topi (fun s2 es2 => ?_)
              obtain rfl : s2 = nI (j + 1) := es2.trans (nI_1 j)
              refine g_istore_n cx (lv' := [(2, .int (nI (j + 1))), (3, .int (nI j)), (1, .ref q0), (0, .ref w)]) d_1_13_64 rfl (by decide) rfl ?_
              refine g_iinc cx 1 (lv' := [(3, .int (nI (j + 1))), (2, .int (nI (j + 1))), (1, .ref q0), (0, .ref w)]) d_1_13_65 rfl (inc1 j) (by decide) rfl ?_
              refine g_goto cx d_1_13_68 rfl ?_
              exact ih (j + 1) (j + 1) (nc + 1) q0 (va_up bg nc st) (va_up en nc j) (va_up es nc q44) K h _ _ (by omega) (by omega) hT hE (by omega) hwt hw hq hnew57 (by omega) hL (hSP.close hsj hjn2 hbl) (hPT.add hn54 (by rw [hnw54]; exact hx51)) (fun z => by omega) (by show 2 * (n + 2 - (j + 1)) ≤ rc - 1 - 2 - 0 - 1; omega) (by show 50 * (n + 2 - (j + 1)) ≤ rs - 1 - 40 - 0 - 58; omega)
  refine g_new cx (ci := 2) (fs := [.null, .int 0, .int 0]) d_1_13_0 in2 ty2_ok t_70 t_71 t_8 rfl (by decide) ⟨Nat.le_of_ble_eq_true rfl, Nat.le_of_ble_eq_true rfl⟩ (fun q0 hq0 hz0 => ?_)
  have hN0 := Ev.nin hE hq0
  refine t_raw hT hq0 hz0 (fun K h hT ev hr0 hm0 he0 hol0 => ?_)
  have hwt := Ev.tx ev hwt
  have hw := Ev.tc ev hw
  replace hE := hE.tr ev
  refine g_dup cx d_1_13_3 rfl ?_
  refine g_callI cx (ret' := none) (As := []) (n := 0) (tj_listInit (κ := 24) (tg := 0) (by decide)) d_1_13_4 t_72 t_73 t_8 t_74 rfl ⟨by decide, by decide, by decide +kernel⟩ rfl ⟨rfl, hT, ⟨hr0, hm0, he0⟩⟩ ⟨Nat.le_of_ble_eq_true rfl, Nat.le_of_ble_eq_true rfl⟩ (Nat.le_of_ble_eq_true rfl) ⟨Nat.le_of_ble_eq_true rfl, Nat.le_of_ble_eq_true rfl⟩ (fun v4 h r4 => ?_) (fun x4 h r4 => by obtain ⟨K9, -, -, e9⟩ := r4; cases e9.1)
  obtain ⟨K, hT, ev, rel4⟩ := r4
  obtain ⟨e4, hn4, hz04, htg4⟩ := rel4
  cases e4
  have hwt := Ev.tx ev hwt
  have hw := Ev.tc ev hw
  replace hE := hE.trN hN0 ev
  refine g_astore_n cx (lv' := [(1, .ref q0), (0, .ref w)]) d_1_13_7 rfl (by decide) rfl ?_
  refine g_iconst cx (v := 0) d_1_13_8 (by decide) ?_
  refine g_topi (fun s0 es0 => ?_)
  obtain rfl : s0 = nI 0 := es0
  refine g_istore_n cx (lv' := [(2, .int (nI 0)), (1, .ref q0), (0, .ref w)]) d_1_13_9 rfl (by decide) rfl ?_
  refine g_iconst cx (v := 0) d_1_13_10 (by decide) ?_
  refine g_topi (fun j0 ej0 => ?_)
  obtain rfl : j0 = nI 0 := ej0
  refine g_istore_n cx (lv' := [(3, .int (nI 0)), (2, .int (nI 0)), (1, .ref q0), (0, .ref w)]) d_1_13_11 rfl (by decide) rfl ?_
  exact lp (n + 2) 0 0 0 q0 (fun _ => 0) (fun _ => 0) (fun _ => 0) K h _ _ (by omega) (by omega) hT hE (Nat.le_refl _) hwt hw hn4 hz04 (Nat.le_refl _) (LsK.nil hT hn4 (by decide) hz04) SPp.zero (fun i hi => absurd hi (Nat.not_lt_zero _)) (fun z => absurd z (by omega)) (by show 2 * (n + 2 - 0) ≤ 65 - 1 - 0; omega) (by show 50 * (n + 2 - 0) ≤ 1603 - 3 - 0; omega)
end F3
