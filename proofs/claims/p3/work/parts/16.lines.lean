/-! What always holds of the reference's tables; the methods that a line leads to. -/
def IA (x : MS) (a : Nat) : Prop := x.1 6 = nI a ∧ a ≤ 6
def IR (x : MS) (r : Nat) : Prop := x.1 11 = nI r ∧ r ≤ 8
def INm (x : MS) (nm : Nat → Nat) : Prop := ∀ i, i < 6 → x.2.1 8 i = nI (nm i) ∧ nm i ≤ 6
def ILd (x : MS) (ld : Nat → Nat) : Prop := ∀ i, i < 8 → x.2.1 13 i = nI (ld i) ∧ ld i ≤ 4
def ILo (x : MS) : Prop := ∀ k, k < 32 → ∃ g, g < 6 ∧ x.2.1 14 k = nI g
def IIm (x : MS) (im : Nat → Nat) : Prop := ∀ i, i < 8 → x.2.1 15 i = nI (im i) ∧ im i ≤ 4
def IFr (x : MS) : Prop := ∀ k, k < 32 → ∃ g, g < 8 ∧ x.2.1 16 k = nI g
def IPa (x : MS) (r : Nat) : Prop := ∀ i, i < r → x.2.1 17 i = -1 ∨ ∃ g, g < i ∧ x.2.1 17 i = nI g
def IKp (x : MS) (nm kp : Nat → Nat) : Prop := ∀ i, i < 8 → x.2.1 18 i = nI (kp i) ∧ (∀ j, j < kp i → (∃ g, g < 128 ∧ x.2.1 19 (36 * i + j) = nI g) ∧ ∃ b t, b < 6 ∧ t < nm b ∧ x.2.2 21 (36 * i + j) = x.2.2 10 (6 * b + t)) ∧ ∀ j j', j < kp i → j' < kp i → x.2.2 21 (36 * i + j) = x.2.2 21 (36 * i + j') → j = j'
def IMn (x : MS) (mn : Nat) : Prop := x.1 25 = nI mn ∧ mn < 2 ^ 20
def MI (x : MS) (a r : Nat) (nm ld im kp : Nat → Nat) (mn : Nat) : Prop := IA x a ∧ IR x r ∧ INm x nm ∧ ILd x ld ∧ ILo x ∧ IIm x im ∧ IFr x ∧ IPa x r ∧ IKp x nm kp ∧ IMn x mn
def KpF (x x' : MS) : Prop := (x'.1 11 = x.1 11 ∧ x'.1 6 = x.1 6) ∧ (x'.2.1 12 = x.2.1 12 ∧ x'.2.1 22 = x.2.1 22 ∧ x'.2.1 7 = x.2.1 7 ∧ x'.2.1 8 = x.2.1 8 ∧ x'.2.1 13 = x.2.1 13 ∧ x'.2.1 14 = x.2.1 14 ∧ x'.2.1 15 = x.2.1 15) ∧ x'.2.2 10 = x.2.2 10
theorem KpF.rf {x : MS} : KpF x x := ⟨⟨rfl, rfl⟩, ⟨rfl, rfl, rfl, rfl, rfl, rfl, rfl⟩, rfl⟩
theorem KpF.tr {x y z : MS} (a : KpF x y) (b : KpF y z) : KpF x z := ⟨⟨b.1.1.trans a.1.1, b.1.2.trans a.1.2⟩, ⟨b.2.1.1.trans a.2.1.1, b.2.1.2.1.trans a.2.1.2.1, b.2.1.2.2.1.trans a.2.1.2.2.1, b.2.1.2.2.2.1.trans a.2.1.2.2.2.1, b.2.1.2.2.2.2.1.trans a.2.1.2.2.2.2.1, b.2.1.2.2.2.2.2.1.trans a.2.1.2.2.2.2.2.1, b.2.1.2.2.2.2.2.2.trans a.2.1.2.2.2.2.2.2⟩, b.2.2.trans a.2.2⟩
theorem Fx.kf {si sa sl : List Nat} {x y : MS} (f : Fx si sa sl x y) (h : (11 ∉ si ∧ 6 ∉ si) ∧ (12 ∉ sa ∧ 22 ∉ sa ∧ 7 ∉ sa ∧ 8 ∉ sa ∧ 13 ∉ sa ∧ 14 ∉ sa ∧ 15 ∉ sa) ∧ 10 ∉ sl) : KpF x y := ⟨⟨f.1 11 h.1.1, f.1 6 h.1.2⟩, ⟨f.2.1 12 h.2.1.1, f.2.1 22 h.2.1.2.1, f.2.1 7 h.2.1.2.2.1, f.2.1 8 h.2.1.2.2.2.1, f.2.1 13 h.2.1.2.2.2.2.1, f.2.1 14 h.2.1.2.2.2.2.2.1, f.2.1 15 h.2.1.2.2.2.2.2.2⟩, f.2.2 10 h.2.2⟩
def KpR (x x' : MS) : Prop := x'.1 2 = x.1 2 ∧ KpF x x'
theorem Fx.kp {si sa sl : List Nat} {x y : MS} (f : Fx si sa sl x y) (h : 2 ∉ si ∧ (11 ∉ si ∧ 6 ∉ si) ∧ (12 ∉ sa ∧ 22 ∉ sa ∧ 7 ∉ sa ∧ 8 ∉ sa ∧ 13 ∉ sa ∧ 14 ∉ sa ∧ 15 ∉ sa) ∧ 10 ∉ sl) : KpR x y := ⟨f.1 2 h.1, f.kf h.2⟩
def KpZ (x x' : MS) : Prop := x'.1 2 = nI 0 ∧ KpF x x'
theorem KpR.z {x y z : MS} (a : KpZ x y) (b : KpR y z) : KpZ x z := ⟨b.1.trans a.1, a.2.tr b.2⟩
def MIx (x : MS) : Prop := ∃ a r nm ld im kp mn, MI x a r nm ld im kp mn
theorem MIx.of {x : MS} {a r : Nat} {nm ld im kp : Nat → Nat} {mn : Nat} (h : MI x a r nm ld im kp mn) : MIx x := ⟨a, r, nm, ld, im, kp, mn, h⟩
/-- a number of things that go into N places without meeting is at most N -/
theorem pigeon : ∀ (N n : Nat) (f : Nat → Nat), (∀ i, i < n → f i < N) → (∀ i j, i < n → j < n → f i = f j → i = j) → n ≤ N := by
  intro N
  induction N with
  | zero =>
    intro n f h1 h2
    rcases Nat.eq_zero_or_pos n with h | h
    · omega
    · exact absurd (h1 0 h) (Nat.not_lt_zero _)
  | succ N ih =>
    intro n f h1 h2
    rcases Nat.eq_zero_or_pos n with h | h
    · omega
    · have hlast : n - 1 < n := by omega
      have := ih (n - 1) (fun i => if f i = N then f (n - 1) else f i) (fun i hi => by
        have q1 := h1 i (by omega)
        have q2 := h1 (n - 1) hlast
        by_cases he : f i = N
        · simp only [if_pos he]
          have : f (n - 1) ≠ N := fun e => by have := h2 i (n - 1) (by omega) hlast (he.trans e.symm); omega
          omega
        · simp only [if_neg he]
          omega) (fun i j hi hj e => by
        by_cases h3 : f i = N <;> by_cases h4 : f j = N
        · exact h2 i j (by omega) (by omega) (h3.trans h4.symm)
        · simp only [if_pos h3, if_neg h4] at e
          have := h2 (n - 1) j hlast (by omega) e
          omega
        · simp only [if_neg h3, if_pos h4] at e
          have := h2 i (n - 1) (by omega) hlast e
          omega
        · simp only [if_neg h3, if_neg h4] at e
          exact h2 i j (by omega) (by omega) e)
      omega
theorem IKp.le {x : MS} {nm kp : Nat → Nat} (h : IKp x nm kp) (hn : INm x nm) {i : Nat} (hi : i < 8) : kp i ≤ 36 := by
  obtain ⟨-, h2, h3⟩ := h i hi
  have h4 : ∀ j, ∃ b, j < kp i → b < 36 ∧ x.2.2 21 (36 * i + j) = x.2.2 10 b := by
    intro j
    by_cases hj : j < kp i
    · obtain ⟨-, b, t, hb, ht, e⟩ := h2 j hj
      have := (hn b hb).2
      exact ⟨6 * b + t, fun _ => ⟨by omega, e⟩⟩
    · exact ⟨0, fun q => absurd q hj⟩
  refine pigeon 36 (kp i) (fun j => Classical.choose (h4 j)) (fun j hj => (Classical.choose_spec (h4 j) hj).1) (fun j k hj hk e => ?_)
  have q1 := (Classical.choose_spec (h4 j) hj).2
  have q2 := (Classical.choose_spec (h4 k) hk).2
  exact h3 j k hj hk (by rw [q1, q2]; exact congrArg (x.2.2 10) e)
section M5
variable {l : Launch} {D : va_G} {z0 : Nat} {E : State → Prop} {am : Nat} {ad : Nat → Nat}
set_option maxHeartbeats 4000000 in
theorem mc_newArchive (hSt : Stb z0 E) (hA : Ad am ad) (x : MS) (pn : Nat) (bg en : Nat → Nat) (a r : Nat) (nm ld im kp : Nat → Nat) (mn : Nat) (hpt : PT x pn bg en) (hM : MI x a r nm ld im kp mn) : MC l y_163 prog_8_method_14_code 2 (Option.some Jvm.ClassFile.FieldType.int) 2 D z0 E am ad [] x (fun r x' => (∃ v, r = some (.int v)) ∧ MIx x' ∧ x'.1 2 = x.1 2) := by
  refine mc_of hSt rfl (Nat.le_of_ble_eq_true rfl) ?_
  intro h0 h p e s m args below meth c cx hm hs
  obtain ⟨hIA, hIR, hNm, hLd, hLo, hIm, hFr, hPa, hKp, hMn⟩ := id hM
  have hMx : MIx x := MIx.of hM
  have hal := hIA.2
  have hrl := hIR.2
  have c18 : ∀ (w1 : Int32) (h : hp) (hm : Mo D am ad x h) (hs : Sm am ad h0 h), G p l e (rmL 2) s m args below meth c 2 D z0 E (MQp D am ad h0 (fun r x' => (∃ v, r = some (.int v)) ∧ MIx x' ∧ x'.1 2 = x.1 2)) 0 0 18 [(1, .int w1), (0, .ref am)] [] h 0 0 := by
    intro w1 h hm hs
    refine g_iload_n cx 0 d_8_14_18 rfl rfl ?_
    refine g_if_eq cx d_8_14_19 rfl (fun c19 => ?_) (fun c19 => ?_)
    · skip
      refine g_iconst cx (v := (-1)) d_8_14_30 (by decide) ?_
      exact m_iret cx d_8_14_31 rfl rfl hm hs ⟨⟨_, rfl⟩, hMx, rfl⟩
    · skip
      refine g_aload_n cx 1 d_8_14_22 rfl rfl ?_
      refine g_iload_n cx 0 d_8_14_23 rfl rfl ?_
      refine m_call 2 cx (As := [.int w1]) (n := 1) (mc_archiveOf hSt hA x w1 a hIA.1 hIA.2) d_8_14_24 t_1030 t_1032 ts_33 t_1033 rfl ⟨rfl, by decide +kernel⟩ rfl ⟨by decide, by decide⟩ (Nat.le_of_ble_eq_true rfl) hm hs (fun v24 x24 h hm hs r24 => ?_)
      obtain ⟨e24, r24⟩ := r24
      rw [e24] at hm
      rcases r24 with ⟨j, hj, rfl⟩ | rfl
      · skip
        refine g_if_lt cx d_8_14_27 rfl (fun c27 => absurd c27 (nI_pos (by omega))) (fun c27 => ?_)
        refine g_iconst cx (v := (-1)) d_8_14_30 (by decide) ?_
        exact m_iret cx d_8_14_31 rfl rfl hm hs ⟨⟨_, rfl⟩, hMx, rfl⟩
      · skip
        refine g_if_lt cx d_8_14_27 rfl (fun c27 => ?_) (fun c27 => absurd (by decide) c27)
        refine g_aload_n cx 1 d_8_14_32 rfl rfl ?_
        refine m_get cx (k := 6) d_8_14_33 t_904 ⟨by decide, rfl⟩ hm rfl ?_
        refine g_bipush cx (v := 6) d_8_14_36 (by decide) ?_
        refine g_icmp_ne cx d_8_14_38 rfl (fun c38 => ?_) (fun c38 => ?_)
        · skip
          have ha6 : a < 6 := by
            rcases Nat.lt_or_ge a 6 with q | q
            · exact q
            · exact absurd (by show x.1 6 = 6; rw [hIA.1, show a = 6 by omega]; rfl) c38
          refine g_aload_n cx 1 d_8_14_44 rfl rfl ?_
          refine m_get cx (k := 7) d_8_14_45 t_905 ⟨by decide, rfl⟩ hm rfl ?_
          refine g_aload_n cx 1 d_8_14_48 rfl rfl ?_
          refine m_get cx (k := 6) d_8_14_49 t_904 ⟨by decide, rfl⟩ hm rfl ?_
          refine g_iload_n cx 0 d_8_14_52 rfl rfl ?_
          refine m_st1 cx hA d_8_14_53 (by decide) hm hs hIA.1 ⟨(show a < 6 from ha6), by decide⟩ (fun h hm hs => ?_)
          refine g_aload_n cx 1 d_8_14_54 rfl rfl ?_
          refine g_dup cx d_8_14_55 rfl ?_
          refine m_get cx (k := 6) d_8_14_56 t_904 ⟨by decide, rfl⟩ hm rfl ?_
          refine g_iconst cx (v := 1) d_8_14_59 (by decide) ?_
          refine g_iadd cx d_8_14_60 ?_
          refine g_topi (fun t1 et1 => ?_)
          obtain rfl : t1 = nI (a + 1) := et1.trans (by show x.1 6 + 1 = _; rw [hIA.1, nI_1])
          refine m_put cx (k := 6) hA d_8_14_61 t_904 ⟨by decide, rfl, rfl, rfl, by decide +kernel⟩ hm hs (fun h hm hs => ?_)
          refine g_iconst cx (v := 1) d_8_14_64 (by decide) ?_
          exact m_iret cx d_8_14_65 rfl rfl hm hs ⟨⟨_, rfl⟩, ⟨a + 1, r, nm, ld, im, kp, mn, ⟨rfl, by omega⟩, hIR, hNm, hLd, hLo, hIm, hFr, hPa, hKp, hMn⟩, rfl⟩
        · skip
          refine g_bipush cx (v := (-2)) d_8_14_41 (by decide) ?_
          exact m_iret cx d_8_14_43 rfl rfl hm hs ⟨⟨_, rfl⟩, hMx, rfl⟩
  refine g_aload_n cx 0 d_8_14_0 rfl rfl ?_
  refine m_get cx (k := 3) d_8_14_1 t_901 ⟨by decide, rfl⟩ hm rfl ?_
  refine g_iconst cx (v := 2) d_8_14_4 (by decide) ?_
  refine g_icmp_ne cx d_8_14_5 rfl (fun c5 => ?_) (fun c5 => ?_)
  · skip
    refine g_iconst cx (v := 0) d_8_14_16 (by decide) ?_
    refine g_topi (fun w1 ew1 => ?_)
    refine g_istore_n cx (lv' := [(1, .int w1), (0, .ref am)]) d_8_14_17 rfl (by decide) rfl ?_
    exact c18 w1 h hm hs
  · skip
    refine g_aload_n cx 0 d_8_14_8 rfl rfl ?_
    refine g_iconst cx (v := 1) d_8_14_9 (by decide) ?_
    refine m_call 2 cx (As := [.int (nI 1)]) (n := 1) (mc_wordOf hSt hA x 1 pn bg en hpt (by decide)) d_8_14_10 t_1021 t_1023 ts_31 t_1024 rfl ⟨rfl, by decide +kernel⟩ rfl ⟨by decide, by decide⟩ (Nat.le_of_ble_eq_true rfl) hm hs (fun v10 x10 h hm hs r10 => ?_)
    obtain ⟨e10, V10, rfl⟩ := r10
    rw [e10] at hm
    refine g_goto cx d_8_14_13 rfl ?_
    refine g_topi (fun w1 ew1 => ?_)
    refine g_istore_n cx (lv' := [(1, .int w1), (0, .ref am)]) d_8_14_17 rfl (by decide) rfl ?_
    exact c18 w1 h hm hs
set_option maxHeartbeats 4000000 in
theorem mc_newRealm (hSt : Stb z0 E) (hA : Ad am ad) (x : MS) (pn : Nat) (bg en : Nat → Nat) (a r : Nat) (nm ld im kp : Nat → Nat) (mn : Nat) (hpt : PT x pn bg en) (hM : MI x a r nm ld im kp mn) : MC l y_169 prog_8_method_17_code 2 (Option.some Jvm.ClassFile.FieldType.int) 2 D z0 E am ad [] x (fun r x' => (∃ v, r = some (.int v)) ∧ MIx x' ∧ x'.1 2 = x.1 2) := by
  refine mc_of hSt rfl (Nat.le_of_ble_eq_true rfl) ?_
  intro h0 h p e s m args below meth c cx hm hs
  obtain ⟨hIA, hIR, hNm, hLd, hLo, hIm, hFr, hPa, hKp, hMn⟩ := id hM
  have hMx : MIx x := MIx.of hM
  have hal := hIA.2
  have hrl := hIR.2
  have c18 : ∀ (w1 : Int32) (h : hp) (hm : Mo D am ad x h) (hs : Sm am ad h0 h), G p l e (rmL 2) s m args below meth c 2 D z0 E (MQp D am ad h0 (fun r x' => (∃ v, r = some (.int v)) ∧ MIx x' ∧ x'.1 2 = x.1 2)) 0 0 18 [(1, .int w1), (0, .ref am)] [] h 0 0 := by
    intro w1 h hm hs
    refine g_iload_n cx 0 d_8_17_18 rfl rfl ?_
    refine g_if_eq cx d_8_17_19 rfl (fun c19 => ?_) (fun c19 => ?_)
    · skip
      refine g_iconst cx (v := (-1)) d_8_17_30 (by decide) ?_
      exact m_iret cx d_8_17_31 rfl rfl hm hs ⟨⟨_, rfl⟩, hMx, rfl⟩
    · skip
      refine g_aload_n cx 1 d_8_17_22 rfl rfl ?_
      refine g_iload_n cx 0 d_8_17_23 rfl rfl ?_
      refine m_call 2 cx (As := [.int w1]) (n := 1) (mc_realmOf hSt hA x w1 r hIR.1 hIR.2) d_8_17_24 t_1046 t_1048 ts_37 t_1049 rfl ⟨rfl, by decide +kernel⟩ rfl ⟨by decide, by decide⟩ (Nat.le_of_ble_eq_true rfl) hm hs (fun v24 x24 h hm hs r24 => ?_)
      obtain ⟨e24, r24⟩ := r24
      rw [e24] at hm
      rcases r24 with ⟨j, hj, rfl⟩ | rfl
      · skip
        refine g_if_lt cx d_8_17_27 rfl (fun c27 => absurd c27 (nI_pos (by omega))) (fun c27 => ?_)
        refine g_iconst cx (v := (-1)) d_8_17_30 (by decide) ?_
        exact m_iret cx d_8_17_31 rfl rfl hm hs ⟨⟨_, rfl⟩, hMx, rfl⟩
      · skip
        refine g_if_lt cx d_8_17_27 rfl (fun c27 => ?_) (fun c27 => absurd (by decide) c27)
        refine g_aload_n cx 1 d_8_17_32 rfl rfl ?_
        refine m_get cx (k := 11) d_8_17_33 t_909 ⟨by decide, rfl⟩ hm rfl ?_
        refine g_bipush cx (v := 8) d_8_17_36 (by decide) ?_
        refine g_icmp_ne cx d_8_17_38 rfl (fun c38 => ?_) (fun c38 => ?_)
        · skip
          have hr8 : r < 8 := by
            rcases Nat.lt_or_ge r 8 with q | q
            · exact q
            · exact absurd (by show x.1 11 = 8; rw [hIR.1, show r = 8 by omega]; rfl) c38
          refine g_aload_n cx 1 d_8_17_44 rfl rfl ?_
          refine m_get cx (k := 12) d_8_17_45 t_910 ⟨by decide, rfl⟩ hm rfl ?_
          refine g_aload_n cx 1 d_8_17_48 rfl rfl ?_
          refine m_get cx (k := 11) d_8_17_49 t_909 ⟨by decide, rfl⟩ hm rfl ?_
          refine g_iload_n cx 0 d_8_17_52 rfl rfl ?_
          refine m_st1 cx hA d_8_17_53 (by decide) hm hs hIR.1 ⟨(show r < 8 from hr8), by decide⟩ (fun h hm hs => ?_)
          refine g_aload_n cx 1 d_8_17_54 rfl rfl ?_
          refine m_get cx (k := 17) d_8_17_55 t_915 ⟨by decide, rfl⟩ hm rfl ?_
          refine g_aload_n cx 1 d_8_17_58 rfl rfl ?_
          refine m_get cx (k := 11) d_8_17_59 t_909 ⟨by decide, rfl⟩ hm rfl ?_
          refine g_iconst cx (v := (-1)) d_8_17_62 (by decide) ?_
          refine m_st1 cx hA d_8_17_63 (by decide) hm hs hIR.1 ⟨(show r < 8 from hr8), by decide⟩ (fun h hm hs => ?_)
          refine g_aload_n cx 1 d_8_17_64 rfl rfl ?_
          refine g_dup cx d_8_17_65 rfl ?_
          refine m_get cx (k := 11) d_8_17_66 t_909 ⟨by decide, rfl⟩ hm rfl ?_
          refine g_iconst cx (v := 1) d_8_17_69 (by decide) ?_
          refine g_iadd cx d_8_17_70 ?_
          refine g_topi (fun t1 et1 => ?_)
          obtain rfl : t1 = nI (r + 1) := et1.trans (by show x.1 11 + 1 = _; rw [hIR.1, nI_1])
          refine m_put cx (k := 11) hA d_8_17_71 t_909 ⟨by decide, rfl, rfl, rfl, by decide +kernel⟩ hm hs (fun h hm hs => ?_)
          refine g_iconst cx (v := 3) d_8_17_74 (by decide) ?_
          exact m_iret cx d_8_17_75 rfl rfl hm hs ⟨⟨_, rfl⟩, ⟨a, r + 1, nm, ld, im, kp, mn, hIA, ⟨rfl, by omega⟩, hNm, hLd, hLo, hIm, hFr, (fun i hi => by
    show upd (x.2.1 17) r (-1) i = -1 ∨ ∃ g, g < i ∧ upd (x.2.1 17) r (-1) i = nI g
    by_cases hir : i = r
    · left; rw [hir]; exact pk_us
    · rw [pk_un hir]; exact hPa i (by omega)), hKp, hMn⟩, rfl⟩
        · skip
          refine g_bipush cx (v := (-2)) d_8_17_41 (by decide) ?_
          exact m_iret cx d_8_17_43 rfl rfl hm hs ⟨⟨_, rfl⟩, hMx, rfl⟩
  refine g_aload_n cx 0 d_8_17_0 rfl rfl ?_
  refine m_get cx (k := 3) d_8_17_1 t_901 ⟨by decide, rfl⟩ hm rfl ?_
  refine g_iconst cx (v := 2) d_8_17_4 (by decide) ?_
  refine g_icmp_ne cx d_8_17_5 rfl (fun c5 => ?_) (fun c5 => ?_)
  · skip
    refine g_iconst cx (v := 0) d_8_17_16 (by decide) ?_
    refine g_topi (fun w1 ew1 => ?_)
    refine g_istore_n cx (lv' := [(1, .int w1), (0, .ref am)]) d_8_17_17 rfl (by decide) rfl ?_
    exact c18 w1 h hm hs
  · skip
    refine g_aload_n cx 0 d_8_17_8 rfl rfl ?_
    refine g_iconst cx (v := 1) d_8_17_9 (by decide) ?_
    refine m_call 2 cx (As := [.int (nI 1)]) (n := 1) (mc_wordOf hSt hA x 1 pn bg en hpt (by decide)) d_8_17_10 t_1021 t_1023 ts_31 t_1024 rfl ⟨rfl, by decide +kernel⟩ rfl ⟨by decide, by decide⟩ (Nat.le_of_ble_eq_true rfl) hm hs (fun v10 x10 h hm hs r10 => ?_)
    obtain ⟨e10, V10, rfl⟩ := r10
    rw [e10] at hm
    refine g_goto cx d_8_17_13 rfl ?_
    refine g_topi (fun w1 ew1 => ?_)
    refine g_istore_n cx (lv' := [(1, .int w1), (0, .ref am)]) d_8_17_17 rfl (by decide) rfl ?_
    exact c18 w1 h hm hs
set_option maxHeartbeats 4000000 in
theorem mc_ordered (hSt : Stb z0 E) (hA : Ad am ad) (x : MS) (v : Int32) (a r : Nat) (nm ld im kp : Nat → Nat) (mn : Nat) (hM : MI x a r nm ld im kp mn) : MC l y_175 prog_8_method_22_code 2 (Option.some Jvm.ClassFile.FieldType.int) 1 D z0 E am ad [.int v] x (fun r x' => (∃ v, r = some (.int v)) ∧ MIx x' ∧ x'.1 2 = x.1 2) := by
  refine mc_of hSt rfl (Nat.le_of_ble_eq_true rfl) ?_
  intro h0 h p e s m args below meth c cx hm hs
  obtain ⟨hIA, hIR, hNm, hLd, hLo, hIm, hFr, hPa, hKp, hMn⟩ := id hM
  have hMx : MIx x := MIx.of hM
  have hal := hIA.2
  have hrl := hIR.2
  refine g_aload_n cx 0 d_8_22_0 rfl rfl ?_
  refine m_call 1 cx (As := []) (n := 0) (mc_isShut hSt hA x r hIR.1 hIR.2) d_8_22_1 t_1054 t_1056 ts_39 t_1057 rfl ⟨rfl, by decide +kernel⟩ rfl ⟨by decide, by decide⟩ (Nat.le_of_ble_eq_true rfl) hm hs (fun v1 x1 h hm hs r1 => ?_)
  obtain ⟨e1, r1⟩ := r1
  rw [e1] at hm
  rcases r1 with rfl | ⟨rfl, hr0, -⟩
  · skip
    refine g_if_eq cx d_8_22_4 rfl (fun c4 => absurd c4 (by decide)) (fun c4 => ?_)
    refine g_bipush cx (v := (-2)) d_8_22_7 (by decide) ?_
    exact m_iret cx d_8_22_9 rfl rfl hm hs ⟨⟨_, rfl⟩, hMx, rfl⟩
  · skip
    refine g_if_eq cx d_8_22_4 rfl (fun c4 => ?_) (fun c4 => absurd rfl c4)
    refine g_aload_n cx 0 d_8_22_10 rfl rfl ?_
    refine m_get cx (k := 23) d_8_22_11 t_921 ⟨by decide, rfl⟩ hm rfl ?_
    refine g_aload_n cx 0 d_8_22_14 rfl rfl ?_
    refine m_get cx (k := 11) d_8_22_15 t_909 ⟨by decide, rfl⟩ hm rfl ?_
    refine g_iconst cx (v := 1) d_8_22_18 (by decide) ?_
    refine g_isub cx d_8_22_19 ?_
    refine g_iload_n cx 1 d_8_22_20 rfl rfl ?_
    refine m_st4 cx hA d_8_22_21 (by decide) hm hs (show x.1 11 - 1 = nI (r - 1) by rw [hIR.1]; exact pk_sub (b := 1) hr0) ⟨(show r - 1 < 8 by omega), by decide⟩ (fun h hm hs => ?_)
    refine g_iconst cx (v := 4) d_8_22_22 (by decide) ?_
    exact m_iret cx d_8_22_23 rfl rfl hm hs ⟨⟨_, rfl⟩, ⟨a, r, nm, ld, im, kp, mn, hM⟩, rfl⟩
set_option maxHeartbeats 4000000 in
theorem mc_newParent (hSt : Stb z0 E) (hA : Ad am ad) (x : MS) (pn : Nat) (bg en : Nat → Nat) (a r : Nat) (nm ld im kp : Nat → Nat) (mn : Nat) (hpt : PT x pn bg en) (hM : MI x a r nm ld im kp mn) : MC l y_174 prog_8_method_21_code 3 (Option.some Jvm.ClassFile.FieldType.int) 2 D z0 E am ad [] x (fun r x' => (∃ v, r = some (.int v)) ∧ MIx x' ∧ x'.1 2 = x.1 2) := by
  refine mc_of hSt rfl (Nat.le_of_ble_eq_true rfl) ?_
  intro h0 h p e s m args below meth c cx hm hs
  obtain ⟨hIA, hIR, hNm, hLd, hLo, hIm, hFr, hPa, hKp, hMn⟩ := id hM
  have hMx : MIx x := MIx.of hM
  have hal := hIA.2
  have hrl := hIR.2
  have c32 : ∀ (o2 w1 : Int32) (ho : o2 = -1 ∨ ∃ g, g < r ∧ o2 = nI g) (h : hp) (hm : Mo D am ad x h) (hs : Sm am ad h0 h), G p l e (rmL 2) s m args below meth c 3 D z0 E (MQp D am ad h0 (fun r x' => (∃ v, r = some (.int v)) ∧ MIx x' ∧ x'.1 2 = x.1 2)) 0 0 32 [(2, .int o2), (1, .int w1), (0, .ref am)] [] h 0 0 := by
    intro o2 w1 ho h hm hs
    refine g_iload_n cx 0 d_8_21_32 rfl rfl ?_
    refine g_if_lt cx d_8_21_33 rfl (fun c33 => ?_) (fun c33 => ?_)
    · skip
      refine g_iconst cx (v := (-1)) d_8_21_46 (by decide) ?_
      exact m_iret cx d_8_21_47 rfl rfl hm hs ⟨⟨_, rfl⟩, hMx, rfl⟩
    · skip
      refine g_iload_n cx 0 d_8_21_36 rfl rfl ?_
      refine g_aload_n cx 2 d_8_21_37 rfl rfl ?_
      refine m_get cx (k := 11) d_8_21_38 t_909 ⟨by decide, rfl⟩ hm rfl ?_
      refine g_iconst cx (v := 1) d_8_21_41 (by decide) ?_
      refine g_isub cx d_8_21_42 ?_
      refine g_icmp_ne cx d_8_21_43 rfl (fun c43 => ?_) (fun c43 => ?_)
      · skip
        refine g_aload_n cx 2 d_8_21_48 rfl rfl ?_
        refine m_call 2 cx (As := []) (n := 0) (mc_isShut hSt hA x r hIR.1 hIR.2) d_8_21_49 t_1054 t_1056 ts_39 t_1057 rfl ⟨rfl, by decide +kernel⟩ rfl ⟨by decide, by decide⟩ (Nat.le_of_ble_eq_true rfl) hm hs (fun v49 x49 h hm hs r49 => ?_)
        obtain ⟨e49, r49⟩ := r49
        rw [e49] at hm
        rcases r49 with rfl | ⟨rfl, hr0, -⟩
        · skip
          refine g_if_eq cx d_8_21_52 rfl (fun c52 => absurd c52 (by decide)) (fun c52 => ?_)
          refine g_bipush cx (v := (-2)) d_8_21_55 (by decide) ?_
          exact m_iret cx d_8_21_57 rfl rfl hm hs ⟨⟨_, rfl⟩, hMx, rfl⟩
        · skip
          refine g_if_eq cx d_8_21_52 rfl (fun c52 => ?_) (fun c52 => absurd rfl c52)
          refine g_aload_n cx 2 d_8_21_58 rfl rfl ?_
          refine m_get cx (k := 17) d_8_21_59 t_915 ⟨by decide, rfl⟩ hm rfl ?_
          refine g_aload_n cx 2 d_8_21_62 rfl rfl ?_
          refine m_get cx (k := 11) d_8_21_63 t_909 ⟨by decide, rfl⟩ hm rfl ?_
          refine g_iconst cx (v := 1) d_8_21_66 (by decide) ?_
          refine g_isub cx d_8_21_67 ?_
          refine g_iload_n cx 0 d_8_21_68 rfl rfl ?_
          refine m_st1 cx hA d_8_21_69 (by decide) hm hs (show x.1 11 - 1 = nI (r - 1) by rw [hIR.1]; exact pk_sub (b := 1) hr0) ⟨(show r - 1 < 8 by omega), by decide⟩ (fun h hm hs => ?_)
          refine g_iconst cx (v := 4) d_8_21_70 (by decide) ?_
          exact m_iret cx d_8_21_71 rfl rfl hm hs ⟨⟨_, rfl⟩, ⟨a, r, nm, ld, im, kp, mn, hIA, hIR, hNm, hLd, hLo, hIm, hFr, (fun i hi => by
    show upd (x.2.1 17) (r - 1) o2 i = -1 ∨ ∃ g, g < i ∧ upd (x.2.1 17) (r - 1) o2 i = nI g
    by_cases hir : i = r - 1
    · right
      rcases ho with e | ⟨g, hg, e⟩
      · exact absurd (by rw [e]; decide) c33
      · refine ⟨g, ?_, by rw [hir]; exact pk_us.trans e⟩
        rcases Nat.lt_or_ge g (r - 1) with q | q
        · omega
        · exact absurd (by show o2 = x.1 11 - 1; rw [e, hIR.1, show g = r - 1 by omega]; exact (pk_sub (b := 1) hr0).symm) c43
    · rw [pk_un hir]; exact hPa i hi), hKp, hMn⟩, rfl⟩
      · skip
        refine g_iconst cx (v := (-1)) d_8_21_46 (by decide) ?_
        exact m_iret cx d_8_21_47 rfl rfl hm hs ⟨⟨_, rfl⟩, hMx, rfl⟩
  have c18 : ∀ (w1 : Int32) (h : hp) (hm : Mo D am ad x h) (hs : Sm am ad h0 h), G p l e (rmL 2) s m args below meth c 3 D z0 E (MQp D am ad h0 (fun r x' => (∃ v, r = some (.int v)) ∧ MIx x' ∧ x'.1 2 = x.1 2)) 0 0 18 [(1, .int w1), (0, .ref am)] [] h 0 0 := by
    intro w1 h hm hs
    refine g_iload_n cx 0 d_8_21_18 rfl rfl ?_
    refine g_if_ne cx d_8_21_19 rfl (fun c19 => ?_) (fun c19 => ?_)
    · skip
      refine g_aload_n cx 1 d_8_21_26 rfl rfl ?_
      refine g_iload_n cx 0 d_8_21_27 rfl rfl ?_
      refine m_call 2 cx (As := [.int w1]) (n := 1) (mc_realmOf hSt hA x w1 r hIR.1 hIR.2) d_8_21_28 t_1046 t_1048 ts_37 t_1049 rfl ⟨rfl, by decide +kernel⟩ rfl ⟨by decide, by decide⟩ (Nat.le_of_ble_eq_true rfl) hm hs (fun v28 x28 h hm hs r28 => ?_)
      obtain ⟨e28, r28⟩ := r28
      rw [e28] at hm
      rcases r28 with ⟨j, hj, rfl⟩ | rfl
      · skip
        refine g_topi (fun o2 eo2 => ?_)
        refine g_istore_n cx (lv' := [(2, .int o2), (1, .int w1), (0, .ref am)]) d_8_21_31 rfl (by decide) rfl ?_
        exact c32 o2 w1 (Or.inr ⟨j, hj, eo2⟩) h hm hs
      · skip
        refine g_topi (fun o2 eo2 => ?_)
        refine g_istore_n cx (lv' := [(2, .int o2), (1, .int w1), (0, .ref am)]) d_8_21_31 rfl (by decide) rfl ?_
        exact c32 o2 w1 (Or.inl eo2) h hm hs
    · skip
      refine g_iconst cx (v := (-1)) d_8_21_22 (by decide) ?_
      refine g_goto cx d_8_21_23 rfl ?_
      refine g_topi (fun o2 eo2 => ?_)
      refine g_istore_n cx (lv' := [(2, .int o2), (1, .int w1), (0, .ref am)]) d_8_21_31 rfl (by decide) rfl ?_
      exact c32 o2 w1 (Or.inl eo2) h hm hs
  refine g_aload_n cx 0 d_8_21_0 rfl rfl ?_
  refine m_get cx (k := 3) d_8_21_1 t_901 ⟨by decide, rfl⟩ hm rfl ?_
  refine g_iconst cx (v := 2) d_8_21_4 (by decide) ?_
  refine g_icmp_ne cx d_8_21_5 rfl (fun c5 => ?_) (fun c5 => ?_)
  · skip
    refine g_iconst cx (v := 0) d_8_21_16 (by decide) ?_
    refine g_topi (fun w1 ew1 => ?_)
    refine g_istore_n cx (lv' := [(1, .int w1), (0, .ref am)]) d_8_21_17 rfl (by decide) rfl ?_
    exact c18 w1 h hm hs
  · skip
    refine g_aload_n cx 0 d_8_21_8 rfl rfl ?_
    refine g_iconst cx (v := 1) d_8_21_9 (by decide) ?_
    refine m_call 2 cx (As := [.int (nI 1)]) (n := 1) (mc_wordOf hSt hA x 1 pn bg en hpt (by decide)) d_8_21_10 t_1021 t_1023 ts_31 t_1024 rfl ⟨rfl, by decide +kernel⟩ rfl ⟨by decide, by decide⟩ (Nat.le_of_ble_eq_true rfl) hm hs (fun v10 x10 h hm hs r10 => ?_)
    obtain ⟨e10, V10, rfl⟩ := r10
    rw [e10] at hm
    refine g_goto cx d_8_21_13 rfl ?_
    refine g_topi (fun w1 ew1 => ?_)
    refine g_istore_n cx (lv' := [(1, .int w1), (0, .ref am)]) d_8_21_17 rfl (by decide) rfl ?_
    exact c18 w1 h hm hs
end M5
