/-! The reference's split, with the parts it finds. -/
/-- the parts among the first k characters; bl: where a blank is -/
def SPm (bl : Nat → Prop) (w k pn : Nat) (bg en : Nat → Nat) : Prop := (∀ i, i < pn → bg i < en i ∧ en i ≤ k ∧ (en i = k → k = w ∨ bl k) ∧ ∀ z, bg i ≤ z → z < en i → ¬ bl z) ∧ (∀ i, i + 1 < pn → en i < bg (i + 1)) ∧ ∀ z, z < k → ¬ bl z → ∃ i, i < pn ∧ bg i ≤ z ∧ z < en i
theorem SPm.zero {bl : Nat → Prop} {w : Nat} {bg en : Nat → Nat} : SPm bl w 0 0 bg en := ⟨fun i hi => absurd hi (Nat.not_lt_zero _), fun i hi => absurd hi (Nat.not_lt_zero _), fun z hz => absurd hz (Nat.not_lt_zero _)⟩
theorem SPm.blank {bl : Nat → Prop} {w k pn : Nat} {bg en : Nat → Nat} (h : SPm bl w k pn bg en) (hb : bl k) : SPm bl w (k + 1) pn bg en := by
  refine ⟨fun i hi => ?_, h.2.1, fun z hz hn => ?_⟩
  · obtain ⟨a1, a2, a3, a4⟩ := h.1 i hi
    exact ⟨a1, by omega, fun e => absurd e (by omega), a4⟩
  · by_cases e : z = k
    · rw [e] at hn
      exact absurd hb hn
    · exact h.2.2 z (by omega) hn
theorem SPm.add {bl : Nat → Prop} {w k0 k2 pn : Nat} {bg en : Nat → Nat} (h : SPm bl w k0 pn bg en) (h1 : k0 < k2) (h2 : k2 ≤ w) (hr : ∀ z, k0 ≤ z → z < k2 → ¬ bl z) (he : k2 = w ∨ bl k2) : SPm bl w k2 (pn + 1) (fun j => if j = pn then k0 else bg j) (fun j => if j = pn then k2 else en j) := by
  refine ⟨fun i hi => ?_, fun i hi => ?_, fun z hz hn => ?_⟩
  · by_cases e : i = pn
    · simp only [if_pos e]
      exact ⟨h1, Nat.le_refl _, fun _ => he, hr⟩
    · simp only [if_neg e]
      obtain ⟨a1, a2, a3, a4⟩ := h.1 i (by omega)
      exact ⟨a1, by omega, fun q => absurd q (by omega), a4⟩
  · have e : i ≠ pn := by omega
    simp only [if_neg e]
    by_cases e2 : i + 1 = pn
    · simp only [if_pos e2]
      obtain ⟨a1, a2, a3, a4⟩ := h.1 i (by omega)
      rcases Nat.eq_or_lt_of_le a2 with q | q
      · rcases a3 q with r | r
        · omega
        · exact absurd r (hr k0 (Nat.le_refl _) h1)
      · exact q
    · simp only [if_neg e2]
      exact h.2.1 i (by omega)
  · by_cases e : z < k0
    · obtain ⟨i, a1, a2, a3⟩ := h.2.2 z e hn
      have e3 : i ≠ pn := by omega
      exact ⟨i, by omega, by simp only [if_neg e3]; exact a2, by simp only [if_neg e3]; exact a3⟩
    · exact ⟨pn, by omega, by simp; omega, by simp; omega⟩
section M9
variable {l : Launch} {D : va_G} {z0 : Nat} {E : State → Prop} {am : Nat} {ad : Nat → Nat}
set_option maxHeartbeats 4000000 in
theorem mc_splitF (hSt : Stb z0 E) (hA : Ad am ad) (x : MS) (w : Nat) (hw : x.1 2 = nI w) (hwl : w ≤ 30) : MC l y_159 prog_8_method_5_code 2 (Option.none) 0 D z0 E am ad [] x (fun r x' => r = none ∧ ∃ pn bg en, PT x' pn bg en ∧ x'.1 2 = nI 0 ∧ Fx [2, 3] [4, 5] [] x x' ∧ SPm (fun j => x.2.1 1 j = 32) w w pn bg en) := by
  refine mc_of hSt rfl (Nat.le_of_ble_eq_true rfl) ?_
  intro h0 h p e s m args below meth c cx hm hs
  have hx : ∀ (pn : Nat) (bg en : Nat → Nat) (y : MS) (h : hp) (hm : Mo D am ad y h) (hs : Sm am ad h0 h) (hpt : PT y pn bg en) (hf : Fx [2, 3] [4, 5] [] x y) (hw2 : y.1 2 = nI w), SPm (fun j => x.2.1 1 j = 32) w w pn bg en → G p l e (rmL 0) s m args below meth c 2 D z0 E (MQp D am ad h0 (fun r x' => r = none ∧ ∃ pn bg en, PT x' pn bg en ∧ x'.1 2 = nI 0 ∧ Fx [2, 3] [4, 5] [] x x' ∧ SPm (fun j => x.2.1 1 j = 32) w w pn bg en)) 0 0 7 [(1, .int (nI w)), (0, .ref am)] [] h 0 0 := by
    intro pn bg en y h hm hs hpt hf hw2 hsp
    refine g_iload_n cx 0 d_8_5_7 rfl rfl ?_
    refine g_aload_n cx 1 d_8_5_8 rfl rfl ?_
    refine m_get cx (k := 2) d_8_5_9 t_900 ⟨by decide, rfl⟩ hm rfl ?_
    refine g_icmp_ge cx d_8_5_12 rfl (fun c12 => ?_) (fun c12 => absurd (by show y.1 2 ≤ nI w; rw [hw2]; exact nI_le (Nat.le_refl _) (by omega)) c12)
    refine g_aload_n cx 1 d_8_5_106 rfl rfl ?_
    refine g_iconst cx (v := 0) d_8_5_107 (by decide) ?_
    refine m_put cx (k := 2) hA d_8_5_108 t_900 ⟨by decide, rfl, rfl, rfl, by decide +kernel⟩ hm hs (fun h hm hs => ?_)
    exact m_vret cx d_8_5_111 rfl hm hs ⟨rfl, pn, bg, en, hpt, rfl, hf.i (by decide), hsp⟩
  have lp : ∀ (n k : Nat) (pn : Nat) (bg en : Nat → Nat) (y : MS) (h : hp) (hm : Mo D am ad y h) (hs : Sm am ad h0 h) (hpt : PT y pn bg en) (hf : Fx [2, 3] [4, 5] [] x y) (hw2 : y.1 2 = nI w), k ≤ w → (2 * pn ≤ k ∨ (2 * pn ≤ k + 1 ∧ (k = w ∨ x.2.1 1 k = 32))) → SPm (fun j => x.2.1 1 j = 32) w k pn bg en → w - k < n → G p l e (rmL 0) s m args below meth c 2 D z0 E (MQp D am ad h0 (fun r x' => r = none ∧ ∃ pn bg en, PT x' pn bg en ∧ x'.1 2 = nI 0 ∧ Fx [2, 3] [4, 5] [] x x' ∧ SPm (fun j => x.2.1 1 j = 32) w w pn bg en)) 0 0 7 [(1, .int (nI k)), (0, .ref am)] [] h 0 0 := by
    intro n
    induction n with
    | zero => intro k pn bg en y h hm hs hpt hf hw2 hkw hv hsp hn; exact absurd hn (Nat.not_lt_zero _)
    | succ n ih =>
      intro k pn bg en y h hm hs hpt hf hw2 hkw hv hsp hn
      have l2 : ∀ (n2 k2 k0 : Nat) (pn : Nat) (bg en : Nat → Nat) (y : MS) (h : hp) (hm : Mo D am ad y h) (hs : Sm am ad h0 h) (hpt : PT y pn bg en) (hf : Fx [2, 3] [4, 5] [] x y) (hw2 : y.1 2 = nI w), y.2.1 4 pn = nI k0 → pn < 15 → 2 * pn ≤ k0 → k ≤ k0 → k0 ≤ k2 → k2 ≤ w → (k0 < k2 ∨ (k2 = k0 ∧ k0 < w ∧ ¬ x.2.1 1 k0 = 32)) → SPm (fun j => x.2.1 1 j = 32) w k0 pn bg en → (∀ z, k0 ≤ z → z < k2 → ¬ x.2.1 1 z = 32) → w - k2 < n2 → G p l e (rmL 0) s m args below meth c 2 D z0 E (MQp D am ad h0 (fun r x' => r = none ∧ ∃ pn bg en, PT x' pn bg en ∧ x'.1 2 = nI 0 ∧ Fx [2, 3] [4, 5] [] x x' ∧ SPm (fun j => x.2.1 1 j = 32) w w pn bg en)) 0 0 58 [(1, .int (nI k2)), (0, .ref am)] [] h 0 0 := by
        intro n2
        induction n2 with
        | zero => intro k2 k0 pn bg en y h hm hs hpt hf hw2 hb0 hpn h2p hkk hk02 hk2w hd hsp2 hrun hn2; exact absurd hn2 (Nat.not_lt_zero _)
        | succ n2 ih2 =>
          intro k2 k0 pn bg en y h hm hs hpt hf hw2 hb0 hpn h2p hkk hk02 hk2w hd hsp2 hrun hn2
          refine g_iload_n cx 0 d_8_5_58 rfl rfl ?_
          refine g_aload_n cx 1 d_8_5_59 rfl rfl ?_
          refine m_get cx (k := 2) d_8_5_60 t_900 ⟨by decide, rfl⟩ hm rfl ?_
          refine g_icmp_ge cx d_8_5_63 rfl (fun c63 => ?_) (fun c63 => ?_)
          · skip
            have hex : k2 = w ∨ x.2.1 1 k2 = 32 := by
              first
                | exact Or.inr (by rw [← hf.2.1 1 (by decide)]; exact c74)
                | exact Or.inl (Nat.le_antisymm hk2w (Nat.le_of_not_lt (fun q => absurd c63 (by show ¬ y.1 2 ≤ nI k2; rw [hw2]; exact nI_ge q (by omega)))))
            have hk02' : k0 < k2 := by
              rcases hd with q | ⟨q1, q2, q3⟩
              · exact q
              · rcases hex with q4 | q4
                · omega
                · exact absurd (q1 ▸ q4) q3
            refine g_aload_n cx 1 d_8_5_83 rfl rfl ?_
            refine m_get cx (k := 5) d_8_5_84 t_903 ⟨by decide, rfl⟩ hm rfl ?_
            refine g_aload_n cx 1 d_8_5_87 rfl rfl ?_
            refine m_get cx (k := 3) d_8_5_88 t_901 ⟨by decide, rfl⟩ hm rfl ?_
            refine g_iload_n cx 0 d_8_5_91 rfl rfl ?_
            refine m_st1 cx hA d_8_5_92 (by decide) hm hs hpt.1 ⟨(show pn < 15 from hpn), by decide⟩ (fun h hm hs => ?_)
            refine g_aload_n cx 1 d_8_5_93 rfl rfl ?_
            refine g_dup cx d_8_5_94 rfl ?_
            refine m_get cx (k := 3) d_8_5_95 t_901 ⟨by decide, rfl⟩ hm rfl ?_
            refine g_iconst cx (v := 1) d_8_5_98 (by decide) ?_
            refine g_iadd cx d_8_5_99 ?_
            refine g_topi (fun q1 eq1 => ?_)
            obtain rfl : q1 = nI (pn + 1) := eq1.trans (by show y.1 3 + 1 = _; rw [hpt.1, nI_1])
            refine m_put cx (k := 3) hA d_8_5_100 t_901 ⟨by decide, rfl, rfl, rfl, by decide +kernel⟩ hm hs (fun h hm hs => ?_)
            refine g_goto cx d_8_5_103 rfl ?_
            exact ih k2 (pn + 1) _ _ _ h hm hs (PT.add hpt hb0 hk02' (by omega) hpn) ((hf.a (by decide)).i (by decide)) hw2 hk2w (Or.inr ⟨by omega, hex⟩) (hsp2.add hk02' hk2w hrun hex) (by omega)
          · skip
            have hk2 : k2 < w := Nat.lt_of_not_le (fun q => c63 (by show y.1 2 ≤ nI k2; rw [hw2]; exact nI_le q (by omega)))
            refine g_aload_n cx 1 d_8_5_66 rfl rfl ?_
            refine m_get cx (k := 1) d_8_5_67 t_899 ⟨by decide, rfl⟩ hm rfl ?_
            refine g_iload_n cx 0 d_8_5_70 rfl rfl ?_
            refine m_ld2 cx d_8_5_71 (by decide) hm rfl ⟨(show k2 < 30 by omega), by decide⟩ ?_
            refine g_bipush cx (v := 32) d_8_5_72 (by decide) ?_
            refine g_icmp_eq cx d_8_5_74 rfl (fun c74 => ?_) (fun c74 => ?_)
            · skip
              have hex : k2 = w ∨ x.2.1 1 k2 = 32 := by
                first
                  | exact Or.inr (by rw [← hf.2.1 1 (by decide)]; exact c74)
                  | exact Or.inl (Nat.le_antisymm hk2w (Nat.le_of_not_lt (fun q => absurd c63 (by show ¬ y.1 2 ≤ nI k2; rw [hw2]; exact nI_ge q (by omega)))))
              have hk02' : k0 < k2 := by
                rcases hd with q | ⟨q1, q2, q3⟩
                · exact q
                · rcases hex with q4 | q4
                  · omega
                  · exact absurd (q1 ▸ q4) q3
              refine g_aload_n cx 1 d_8_5_83 rfl rfl ?_
              refine m_get cx (k := 5) d_8_5_84 t_903 ⟨by decide, rfl⟩ hm rfl ?_
              refine g_aload_n cx 1 d_8_5_87 rfl rfl ?_
              refine m_get cx (k := 3) d_8_5_88 t_901 ⟨by decide, rfl⟩ hm rfl ?_
              refine g_iload_n cx 0 d_8_5_91 rfl rfl ?_
              refine m_st1 cx hA d_8_5_92 (by decide) hm hs hpt.1 ⟨(show pn < 15 from hpn), by decide⟩ (fun h hm hs => ?_)
              refine g_aload_n cx 1 d_8_5_93 rfl rfl ?_
              refine g_dup cx d_8_5_94 rfl ?_
              refine m_get cx (k := 3) d_8_5_95 t_901 ⟨by decide, rfl⟩ hm rfl ?_
              refine g_iconst cx (v := 1) d_8_5_98 (by decide) ?_
              refine g_iadd cx d_8_5_99 ?_
              refine g_topi (fun q1 eq1 => ?_)
              obtain rfl : q1 = nI (pn + 1) := eq1.trans (by show y.1 3 + 1 = _; rw [hpt.1, nI_1])
              refine m_put cx (k := 3) hA d_8_5_100 t_901 ⟨by decide, rfl, rfl, rfl, by decide +kernel⟩ hm hs (fun h hm hs => ?_)
              refine g_goto cx d_8_5_103 rfl ?_
              exact ih k2 (pn + 1) _ _ _ h hm hs (PT.add hpt hb0 hk02' (by omega) hpn) ((hf.a (by decide)).i (by decide)) hw2 hk2w (Or.inr ⟨by omega, hex⟩) (hsp2.add hk02' hk2w hrun hex) (by omega)
            · skip
              refine g_iinc cx 0 (lv' := [(1, .int (nI (k2 + 1))), (0, .ref am)]) d_8_5_77 rfl (inc1 k2) (by decide) rfl ?_
              refine g_goto cx d_8_5_80 rfl ?_
              exact ih2 (k2 + 1) k0 pn bg en y h hm hs hpt hf hw2 hb0 hpn h2p hkk (by omega) (by omega) (Or.inl (by omega)) hsp2 (fun z z1 z2 => (Nat.lt_or_ge z k2).elim (hrun z z1) (fun q => by rw [show z = k2 by omega]; exact fun r => c74 (by show y.2.1 1 k2 = 32; rw [hf.2.1 1 (by decide)]; exact r))) (by omega)
      have l1 : ∀ (n1 k1 : Nat), k ≤ k1 → k1 ≤ w → (2 * pn ≤ k1 ∨ (2 * pn ≤ k1 + 1 ∧ (k1 = w ∨ x.2.1 1 k1 = 32))) → SPm (fun j => x.2.1 1 j = 32) w k1 pn bg en → w - k1 < n1 → G p l e (rmL 0) s m args below meth c 2 D z0 E (MQp D am ad h0 (fun r x' => r = none ∧ ∃ pn bg en, PT x' pn bg en ∧ x'.1 2 = nI 0 ∧ Fx [2, 3] [4, 5] [] x x' ∧ SPm (fun j => x.2.1 1 j = 32) w w pn bg en)) 0 0 15 [(1, .int (nI k1)), (0, .ref am)] [] h 0 0 := by
        intro n1
        induction n1 with
        | zero => intro k1 hkk hk1w hv1 hsp1 hn1; exact absurd hn1 (Nat.not_lt_zero _)
        | succ n1 ih1 =>
          intro k1 hkk hk1w hv1 hsp1 hn1
          refine g_iload_n cx 0 d_8_5_15 rfl rfl ?_
          refine g_aload_n cx 1 d_8_5_16 rfl rfl ?_
          refine m_get cx (k := 2) d_8_5_17 t_900 ⟨by decide, rfl⟩ hm rfl ?_
          refine g_icmp_ge cx d_8_5_20 rfl (fun c20 => ?_) (fun c20 => ?_)
          · skip
            refine g_iload_n cx 0 d_8_5_40 rfl rfl ?_
            refine g_aload_n cx 1 d_8_5_41 rfl rfl ?_
            refine m_get cx (k := 2) d_8_5_42 t_900 ⟨by decide, rfl⟩ hm rfl ?_
            refine g_icmp_ge cx d_8_5_45 rfl (fun c45 => (by
                obtain rfl : k1 = w := Nat.le_antisymm hk1w (Nat.le_of_not_lt (fun q => absurd c45 (by show ¬ y.1 2 ≤ nI k1; rw [hw2]; exact nI_ge q (by omega))))
                exact hx pn bg en y h hm hs hpt hf hw2 hsp1)) (fun c45 => ?_)
            have hk1' : k1 < w := Nat.lt_of_not_le (fun q => c45 (by show y.1 2 ≤ nI k1; rw [hw2]; exact nI_le q (by omega)))
            have ht1 : ¬ x.2.1 1 k1 = 32 := by
              first
                | exact fun q => c31 (by show y.2.1 1 k1 = 32; rw [hf.2.1 1 (by decide)]; exact q)
                | exact absurd c20 c45
            have h2p : 2 * pn ≤ k1 := by
              rcases hv1 with q | ⟨q1, q2 | q2⟩
              · exact q
              · omega
              · exact absurd q2 ht1
            refine g_aload_n cx 1 d_8_5_48 rfl rfl ?_
            refine m_get cx (k := 4) d_8_5_49 t_902 ⟨by decide, rfl⟩ hm rfl ?_
            refine g_aload_n cx 1 d_8_5_52 rfl rfl ?_
            refine m_get cx (k := 3) d_8_5_53 t_901 ⟨by decide, rfl⟩ hm rfl ?_
            refine g_iload_n cx 0 d_8_5_56 rfl rfl ?_
            refine m_st1 cx hA d_8_5_57 (by decide) hm hs hpt.1 ⟨(show pn < 15 by omega), by decide⟩ (fun h hm hs => ?_)
            exact l2 (w - k1 + 1) k1 k1 pn bg en _ h hm hs hpt.begin (hf.a (by decide)) hw2 pk_us (by omega) h2p hkk (Nat.le_refl _) hk1w (Or.inr ⟨rfl, hk1', ht1⟩) hsp1 (fun z z1 z2 => absurd z2 (by omega)) (by omega)
          · skip
            have hk1 : k1 < w := Nat.lt_of_not_le (fun q => c20 (by show y.1 2 ≤ nI k1; rw [hw2]; exact nI_le q (by omega)))
            refine g_aload_n cx 1 d_8_5_23 rfl rfl ?_
            refine m_get cx (k := 1) d_8_5_24 t_899 ⟨by decide, rfl⟩ hm rfl ?_
            refine g_iload_n cx 0 d_8_5_27 rfl rfl ?_
            refine m_ld2 cx d_8_5_28 (by decide) hm rfl ⟨(show k1 < 30 by omega), by decide⟩ ?_
            refine g_bipush cx (v := 32) d_8_5_29 (by decide) ?_
            refine g_icmp_ne cx d_8_5_31 rfl (fun c31 => ?_) (fun c31 => ?_)
            · skip
              refine g_iload_n cx 0 d_8_5_40 rfl rfl ?_
              refine g_aload_n cx 1 d_8_5_41 rfl rfl ?_
              refine m_get cx (k := 2) d_8_5_42 t_900 ⟨by decide, rfl⟩ hm rfl ?_
              refine g_icmp_ge cx d_8_5_45 rfl (fun c45 => (by
                  obtain rfl : k1 = w := Nat.le_antisymm hk1w (Nat.le_of_not_lt (fun q => absurd c45 (by show ¬ y.1 2 ≤ nI k1; rw [hw2]; exact nI_ge q (by omega))))
                  exact hx pn bg en y h hm hs hpt hf hw2 hsp1)) (fun c45 => ?_)
              have hk1' : k1 < w := Nat.lt_of_not_le (fun q => c45 (by show y.1 2 ≤ nI k1; rw [hw2]; exact nI_le q (by omega)))
              have ht1 : ¬ x.2.1 1 k1 = 32 := by
                first
                  | exact fun q => c31 (by show y.2.1 1 k1 = 32; rw [hf.2.1 1 (by decide)]; exact q)
                  | exact absurd c20 c45
              have h2p : 2 * pn ≤ k1 := by
                rcases hv1 with q | ⟨q1, q2 | q2⟩
                · exact q
                · omega
                · exact absurd q2 ht1
              refine g_aload_n cx 1 d_8_5_48 rfl rfl ?_
              refine m_get cx (k := 4) d_8_5_49 t_902 ⟨by decide, rfl⟩ hm rfl ?_
              refine g_aload_n cx 1 d_8_5_52 rfl rfl ?_
              refine m_get cx (k := 3) d_8_5_53 t_901 ⟨by decide, rfl⟩ hm rfl ?_
              refine g_iload_n cx 0 d_8_5_56 rfl rfl ?_
              refine m_st1 cx hA d_8_5_57 (by decide) hm hs hpt.1 ⟨(show pn < 15 by omega), by decide⟩ (fun h hm hs => ?_)
              exact l2 (w - k1 + 1) k1 k1 pn bg en _ h hm hs hpt.begin (hf.a (by decide)) hw2 pk_us (by omega) h2p hkk (Nat.le_refl _) hk1w (Or.inr ⟨rfl, hk1', ht1⟩) hsp1 (fun z z1 z2 => absurd z2 (by omega)) (by omega)
            · skip
              refine g_iinc cx 0 (lv' := [(1, .int (nI (k1 + 1))), (0, .ref am)]) d_8_5_34 rfl (inc1 k1) (by decide) rfl ?_
              refine g_goto cx d_8_5_37 rfl ?_
              exact ih1 (k1 + 1) (by omega) (by omega) (Or.inl (by rcases hv1 with q | q <;> omega)) (hsp1.blank (by show x.2.1 1 k1 = 32; rw [← hf.2.1 1 (by decide)]; exact c31)) (by omega)
      refine g_iload_n cx 0 d_8_5_7 rfl rfl ?_
      refine g_aload_n cx 1 d_8_5_8 rfl rfl ?_
      refine m_get cx (k := 2) d_8_5_9 t_900 ⟨by decide, rfl⟩ hm rfl ?_
      refine g_icmp_ge cx d_8_5_12 rfl (fun c12 => ?_) (fun c12 => ?_)
      · skip
        refine g_aload_n cx 1 d_8_5_106 rfl rfl ?_
        refine g_iconst cx (v := 0) d_8_5_107 (by decide) ?_
        refine m_put cx (k := 2) hA d_8_5_108 t_900 ⟨by decide, rfl, rfl, rfl, by decide +kernel⟩ hm hs (fun h hm hs => ?_)
        exact m_vret cx d_8_5_111 rfl hm hs ⟨rfl, pn, bg, en, hpt, rfl, hf.i (by decide), (by have e9 : k = w := Nat.le_antisymm hkw (Nat.le_of_not_lt (fun q => absurd c12 (by show ¬ y.1 2 ≤ nI k; rw [hw2]; exact nI_ge q (by omega)))); rw [e9] at hsp; exact hsp)⟩
      · skip
        exact l1 (w - k + 1) k (Nat.le_refl _) hkw hv hsp (by omega)
  refine g_aload_n cx 0 d_8_5_0 rfl rfl ?_
  refine g_iconst cx (v := 0) d_8_5_1 (by decide) ?_
  refine m_put cx (k := 3) hA d_8_5_2 t_901 ⟨by decide, rfl, rfl, rfl, by decide +kernel⟩ hm hs (fun h hm hs => ?_)
  refine g_iconst cx (v := 0) d_8_5_5 (by decide) ?_
  refine g_topi (fun k0 ek0 => ?_)
  obtain rfl : k0 = nI 0 := ek0
  refine g_istore_n cx (lv' := [(1, .int (nI 0)), (0, .ref am)]) d_8_5_6 rfl (by decide) rfl ?_
  exact lp (w + 1) 0 0 (fun _ => 0) (fun _ => 0) _ h hm hs ⟨rfl, by omega, fun i hi => absurd hi (Nat.not_lt_zero _)⟩ (Fx.rf.i (by decide)) hw (by omega) (Or.inl (by omega)) SPm.zero (by omega)
end M9
