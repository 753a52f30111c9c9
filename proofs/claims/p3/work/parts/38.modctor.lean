/-! The reference's constructor. -/
def zMS : MS := (fun _ => 0, fun _ _ => 0, fun _ _ => 0)
def pfM (ad : Nat → Nat) (n i : Nat) : Value := if i < n then .ref (ad i) else .null
def mfsP (ad : Nat → Nat) (n : Nat) : List Value := [.int 0, pfM ad n 1, .int 0, .int 0, pfM ad n 4, pfM ad n 5, .int 0, pfM ad n 7, pfM ad n 8, pfM ad n 9, pfM ad n 10, .int 0, pfM ad n 12, pfM ad n 13, pfM ad n 14, pfM ad n 15, pfM ad n 16, pfM ad n 17, pfM ad n 18, pfM ad n 19, pfM ad n 20, pfM ad n 21, pfM ad n 22, pfM ad n 23, .int 0, .int 0, pfM ad n 26, pfM ad n 27, pfM ad n 28]
def MP (D : va_G) (S : Nat → Prop) (q : Nat) (ad : Nat → Nat) (n : Nat) (K : KM) (h : hp) : Prop := q ∈ h.1 ∧ h.2 q = .inr (9, mfsP ad n) ∧ K q = (0, 0, 0) ∧ (∀ z, S z → z ∈ h.1) ∧ (∀ i, i < n → mkd i ≠ 0 → ad i ∈ h.1 ∧ h.2 (ad i) = mcell D zMS i ∧ (K (ad i)).1 = 99 ∧ ¬ S (ad i) ∧ ad i ≠ q) ∧ ∀ i j, i < n → j < n → mkd i ≠ 0 → mkd j ≠ 0 → ad i = ad j → i = j
theorem MP.step {D : va_G} {S : Nat → Prop} {q n w : Nat} {ad : Nat → Nat} {K K1 : KM} {h h1 h2 : hp} (M : MP D S q ad n K h) (hw : w ∉ h.1) (hol : ∀ b, b ∈ h.1 → b ∈ h1.1 ∧ K1 b = K b ∧ h1.2 b = h.2 b) (hkw : K1 w = (99, 0, 0)) (hmw : w ∈ h1.1) (hew : h1.2 w = mcell D zMS n) (he2 : h2.2 q = .inr (9, mfsP (va_up ad n w) (n + 1))) (hot : ∀ b, b ≠ q → h2.2 b = h1.2 b) (hL : h2.1 = h1.1) : MP D S q (va_up ad n w) (n + 1) K1 h2 := by
  obtain ⟨m1, m2, m3, m4, m5, m6⟩ := M
  have hwq : w ≠ q := fun z => hw (z ▸ m1)
  refine ⟨by rw [hL]; exact (hol q m1).1, he2, (hol q m1).2.1.trans m3, fun z hz => by rw [hL]; exact (hol z (m4 z hz)).1, fun i hi hm => ?_, fun i j hi hj hmi hmj e => ?_⟩
  · by_cases hin : i = n
    · subst hin
      rw [va_up_self]
      exact ⟨by rw [hL]; exact hmw, (hot w hwq).trans hew, by rw [hkw], fun z => hw (m4 w z), hwq⟩
    · rw [va_up_ne _ _ hin]
      obtain ⟨a1, a2, a3, a4, a5⟩ := m5 i (by omega) hm
      exact ⟨by rw [hL]; exact (hol _ a1).1, (hot _ a5).trans ((hol _ a1).2.2.trans a2), by rw [(hol _ a1).2.1]; exact a3, a4, a5⟩
  · by_cases hin : i = n
    · by_cases hjn : j = n
      · omega
      · subst hin
        rw [va_up_self, va_up_ne _ _ hjn] at e
        obtain ⟨a1, -⟩ := m5 j (by omega) hmj
        exact absurd (by rw [e]; exact a1) hw
    · by_cases hjn : j = n
      · subst hjn
        rw [va_up_self, va_up_ne _ _ hin] at e
        obtain ⟨a1, -⟩ := m5 i (by omega) hmi
        exact absurd (by rw [← e]; exact a1) hw
      · rw [va_up_ne _ _ hin, va_up_ne _ _ hjn] at e
        exact m6 i j (by omega) (by omega) hmi hmj e
theorem MP.skip {D : va_G} {S : Nat → Prop} {q n : Nat} {ad : Nat → Nat} {K : KM} {h : hp} (M : MP D S q ad n K h) (hk : mkd n = 0) (he : mfsP ad n = mfsP ad (n + 1)) : MP D S q ad (n + 1) K h := by
  obtain ⟨m1, m2, m3, m4, m5, m6⟩ := M
  have lt : ∀ i, i < n + 1 → mkd i ≠ 0 → i < n := fun i hi hm => by
    have : i ≠ n := fun z => hm (by rw [z]; exact hk)
    omega
  exact ⟨m1, by rw [← he]; exact m2, m3, m4, fun i hi hm => m5 i (lt i hi hm) hm, fun i j hi hj hmi hmj e => m6 i j (lt i hi hmi) (lt j hj hmj) hmi hmj e⟩
theorem mi0 : MI zMS 0 0 (fun _ => 0) (fun _ => 0) (fun _ => 0) (fun _ => 0) 0 := by
  refine ⟨⟨rfl, by decide⟩, ⟨rfl, by decide⟩, fun _ _ => ⟨rfl, Nat.zero_le _⟩, fun _ _ => ⟨rfl, Nat.zero_le _⟩, fun _ _ => ⟨0, by decide, rfl⟩, fun _ _ => ⟨rfl, Nat.zero_le _⟩, fun _ _ => ⟨0, by decide, rfl⟩, fun i hi => absurd hi (Nat.not_lt_zero _), fun i _ => ⟨rfl, fun j hj => absurd hj (Nat.not_lt_zero _), fun j _ hj => absurd hj (Nat.not_lt_zero _)⟩, rfl, by decide⟩
section MCT
variable {l : Launch} {D : va_G} {z0 : Nat} {k : Nat → Nat} {K : KM} {B T : Nat}
set_option maxHeartbeats 8000000 in
theorem tc_model {S : Nat → Prop} {q : Nat} : TC l y_155 prog_8_method_1_code 1 (Option.none) (rmT 1 22 878) D z0 k [.ref q] K (B) (T) (fun h => K q = (0, 0, 0) ∧ q ∈ h.1 ∧ h.2 q = .inr (9, [.int 0, .null, .int 0, .int 0, .null, .null, .int 0, .null, .null, .null, .null, .int 0, .null, .null, .null, .null, .null, .null, .null, .null, .null, .null, .null, .null, .int 0, .int 0, .null, .null, .null]) ∧ ∀ z, S z → z ∈ h.1) (B) (T) (fun z => z = q) (fun o K' h' => o = .returned none ∧ (K' q).1 = 99 ∧ ∃ ad, Ad q ad ∧ Mo D q ad zMS h' ∧ ∀ i, i < 29 → mkd i ≠ 0 → (K' (ad i)).1 = 99 ∧ ¬ S (ad i)) := by
  refine tc_of (by decide) (Nat.le_of_ble_eq_true rfl) ?_
  intro h hT hp p e s m args below meth c cx hnm
  have hE : Ev k (fun z => z = q) K h K h := Ev.rf
  obtain ⟨hr, hm, he, hS⟩ := hp
  have hM : MP D S q (fun _ => 0) 0 K h := ⟨hm, he, hr, hS, fun i hi => absurd hi (Nat.not_lt_zero _), fun i _ hi => absurd hi (Nat.not_lt_zero _)⟩
  refine g_aload_n cx 0 d_8_1_0 rfl rfl ?_
  refine g_objInit cx d_8_1_1 t_897 t_35 t_36 ⟨Nat.le_of_ble_eq_true rfl, Nat.le_of_ble_eq_true rfl⟩ (Nat.le_of_ble_eq_true rfl) ?_
  replace hM := hM.skip rfl rfl
  refine g_aload_n cx 0 d_8_1_4 rfl rfl ?_
  refine g_bipush cx (v := 30) d_8_1_5 (by decide) ?_
  refine g_newarr cx (k := 1) (n := 30) (a0 := (30, .inl (fun _ => 0))) d_8_1_7 rfl t_986 rfl rfl rfl (by decide) (by decide) (fun cA => rfl) ⟨Nat.le_of_ble_eq_true rfl, Nat.le_of_ble_eq_true rfl⟩ (fun w1 hw hz => ?_)
  refine t_push (q := (99, 0, 0)) hT hw hz ⟨fun x => absurd x.2 (by decide), fun x => absurd x.2 (by decide), trivial⟩ (fun K h hT ev hkw hmw hew hol => ?_)
  replace hE := hE.tr ev
  refine g_putF cx hnm d_8_1_9 in9 ty9_ok nm9 rfl (k := 1) (by decide) t_899 rfl rfl (ty9_ok 1 (by decide)) rfl rfl (hol q hM.1).1 ((hol q hM.1).2.2.trans hM.2.1) (Nat.le_of_ble_eq_true rfl) ?_
  refine t_putR hT (hol q hM.1).1 (Or.inl (congrArg Prod.fst ((hol q hM.1).2.1.trans hM.2.2.1))) (fun h hT ev hm2 he2 hot2 hL2 => ?_)
  replace hE := Ev.trS hE ev
  replace hM := MP.step (n := 1) hM hw hol hkw hmw hew he2 hot2 hL2
  replace hM := hM.skip rfl rfl
  replace hM := hM.skip rfl rfl
  refine g_aload_n cx 0 d_8_1_12 rfl rfl ?_
  refine g_bipush cx (v := 15) d_8_1_13 (by decide) ?_
  refine g_newarr cx (k := 0) (n := 15) (a0 := (15, .inl (fun _ => 0))) d_8_1_15 rfl t_112 rfl rfl rfl (by decide) (by decide) (fun cA => rfl) ⟨Nat.le_of_ble_eq_true rfl, Nat.le_of_ble_eq_true rfl⟩ (fun w4 hw hz => ?_)
  refine t_push (q := (99, 0, 0)) hT hw hz ⟨fun x => absurd x.2 (by decide), fun x => absurd x.2 (by decide), trivial⟩ (fun K h hT ev hkw hmw hew hol => ?_)
  replace hE := hE.tr ev
  refine g_putF cx hnm d_8_1_17 in9 ty9_ok nm9 rfl (k := 4) (by decide) t_902 rfl rfl (ty9_ok 4 (by decide)) rfl rfl (hol q hM.1).1 ((hol q hM.1).2.2.trans hM.2.1) (Nat.le_of_ble_eq_true rfl) ?_
  refine t_putR hT (hol q hM.1).1 (Or.inl (congrArg Prod.fst ((hol q hM.1).2.1.trans hM.2.2.1))) (fun h hT ev hm2 he2 hot2 hL2 => ?_)
  replace hE := Ev.trS hE ev
  replace hM := MP.step (n := 4) hM hw hol hkw hmw hew he2 hot2 hL2
  refine g_aload_n cx 0 d_8_1_20 rfl rfl ?_
  refine g_bipush cx (v := 15) d_8_1_21 (by decide) ?_
  refine g_newarr cx (k := 0) (n := 15) (a0 := (15, .inl (fun _ => 0))) d_8_1_23 rfl t_112 rfl rfl rfl (by decide) (by decide) (fun cA => rfl) ⟨Nat.le_of_ble_eq_true rfl, Nat.le_of_ble_eq_true rfl⟩ (fun w5 hw hz => ?_)
  refine t_push (q := (99, 0, 0)) hT hw hz ⟨fun x => absurd x.2 (by decide), fun x => absurd x.2 (by decide), trivial⟩ (fun K h hT ev hkw hmw hew hol => ?_)
  replace hE := hE.tr ev
  refine g_putF cx hnm d_8_1_25 in9 ty9_ok nm9 rfl (k := 5) (by decide) t_903 rfl rfl (ty9_ok 5 (by decide)) rfl rfl (hol q hM.1).1 ((hol q hM.1).2.2.trans hM.2.1) (Nat.le_of_ble_eq_true rfl) ?_
  refine t_putR hT (hol q hM.1).1 (Or.inl (congrArg Prod.fst ((hol q hM.1).2.1.trans hM.2.2.1))) (fun h hT ev hm2 he2 hot2 hL2 => ?_)
  replace hE := Ev.trS hE ev
  replace hM := MP.step (n := 5) hM hw hol hkw hmw hew he2 hot2 hL2
  replace hM := hM.skip rfl rfl
  refine g_aload_n cx 0 d_8_1_28 rfl rfl ?_
  refine g_bipush cx (v := 6) d_8_1_29 (by decide) ?_
  refine g_newarr cx (k := 0) (n := 6) (a0 := (6, .inl (fun _ => 0))) d_8_1_31 rfl t_112 rfl rfl rfl (by decide) (by decide) (fun cA => rfl) ⟨Nat.le_of_ble_eq_true rfl, Nat.le_of_ble_eq_true rfl⟩ (fun w7 hw hz => ?_)
  refine t_push (q := (99, 0, 0)) hT hw hz ⟨fun x => absurd x.2 (by decide), fun x => absurd x.2 (by decide), trivial⟩ (fun K h hT ev hkw hmw hew hol => ?_)
  replace hE := hE.tr ev
  refine g_putF cx hnm d_8_1_33 in9 ty9_ok nm9 rfl (k := 7) (by decide) t_905 rfl rfl (ty9_ok 7 (by decide)) rfl rfl (hol q hM.1).1 ((hol q hM.1).2.2.trans hM.2.1) (Nat.le_of_ble_eq_true rfl) ?_
  refine t_putR hT (hol q hM.1).1 (Or.inl (congrArg Prod.fst ((hol q hM.1).2.1.trans hM.2.2.1))) (fun h hT ev hm2 he2 hot2 hL2 => ?_)
  replace hE := Ev.trS hE ev
  replace hM := MP.step (n := 7) hM hw hol hkw hmw hew he2 hot2 hL2
  refine g_aload_n cx 0 d_8_1_36 rfl rfl ?_
  refine g_bipush cx (v := 6) d_8_1_37 (by decide) ?_
  refine g_newarr cx (k := 0) (n := 6) (a0 := (6, .inl (fun _ => 0))) d_8_1_39 rfl t_112 rfl rfl rfl (by decide) (by decide) (fun cA => rfl) ⟨Nat.le_of_ble_eq_true rfl, Nat.le_of_ble_eq_true rfl⟩ (fun w8 hw hz => ?_)
  refine t_push (q := (99, 0, 0)) hT hw hz ⟨fun x => absurd x.2 (by decide), fun x => absurd x.2 (by decide), trivial⟩ (fun K h hT ev hkw hmw hew hol => ?_)
  replace hE := hE.tr ev
  refine g_putF cx hnm d_8_1_41 in9 ty9_ok nm9 rfl (k := 8) (by decide) t_906 rfl rfl (ty9_ok 8 (by decide)) rfl rfl (hol q hM.1).1 ((hol q hM.1).2.2.trans hM.2.1) (Nat.le_of_ble_eq_true rfl) ?_
  refine t_putR hT (hol q hM.1).1 (Or.inl (congrArg Prod.fst ((hol q hM.1).2.1.trans hM.2.2.1))) (fun h hT ev hm2 he2 hot2 hL2 => ?_)
  replace hE := Ev.trS hE ev
  replace hM := MP.step (n := 8) hM hw hol hkw hmw hew he2 hot2 hL2
  refine g_aload_n cx 0 d_8_1_44 rfl rfl ?_
  refine g_bipush cx (v := 6) d_8_1_45 (by decide) ?_
  refine g_newarr cx (k := 0) (n := 6) (a0 := (6, .inl (fun _ => 0))) d_8_1_47 rfl t_112 rfl rfl rfl (by decide) (by decide) (fun cA => rfl) ⟨Nat.le_of_ble_eq_true rfl, Nat.le_of_ble_eq_true rfl⟩ (fun w9 hw hz => ?_)
  refine t_push (q := (99, 0, 0)) hT hw hz ⟨fun x => absurd x.2 (by decide), fun x => absurd x.2 (by decide), trivial⟩ (fun K h hT ev hkw hmw hew hol => ?_)
  replace hE := hE.tr ev
  refine g_putF cx hnm d_8_1_49 in9 ty9_ok nm9 rfl (k := 9) (by decide) t_907 rfl rfl (ty9_ok 9 (by decide)) rfl rfl (hol q hM.1).1 ((hol q hM.1).2.2.trans hM.2.1) (Nat.le_of_ble_eq_true rfl) ?_
  refine t_putR hT (hol q hM.1).1 (Or.inl (congrArg Prod.fst ((hol q hM.1).2.1.trans hM.2.2.1))) (fun h hT ev hm2 he2 hot2 hL2 => ?_)
  replace hE := Ev.trS hE ev
  replace hM := MP.step (n := 9) hM hw hol hkw hmw hew he2 hot2 hL2
  refine g_aload_n cx 0 d_8_1_52 rfl rfl ?_
  refine g_bipush cx (v := 36) d_8_1_53 (by decide) ?_
  refine g_newarr cx (k := 2) (n := 36) (a0 := (36, .inr (.inl (fun _ => 0)))) d_8_1_55 rfl t_987 rfl rfl rfl (by decide) (by decide) (fun cA => rfl) ⟨Nat.le_of_ble_eq_true rfl, Nat.le_of_ble_eq_true rfl⟩ (fun w10 hw hz => ?_)
  refine t_push (q := (99, 0, 0)) hT hw hz ⟨fun x => absurd x.2 (by decide), fun x => absurd x.2 (by decide), trivial⟩ (fun K h hT ev hkw hmw hew hol => ?_)
  replace hE := hE.tr ev
  refine g_putF cx hnm d_8_1_57 in9 ty9_ok nm9 rfl (k := 10) (by decide) t_908 rfl rfl (ty9_ok 10 (by decide)) rfl rfl (hol q hM.1).1 ((hol q hM.1).2.2.trans hM.2.1) (Nat.le_of_ble_eq_true rfl) ?_
  refine t_putR hT (hol q hM.1).1 (Or.inl (congrArg Prod.fst ((hol q hM.1).2.1.trans hM.2.2.1))) (fun h hT ev hm2 he2 hot2 hL2 => ?_)
  replace hE := Ev.trS hE ev
  replace hM := MP.step (n := 10) hM hw hol hkw hmw hew he2 hot2 hL2
  replace hM := hM.skip rfl rfl
  refine g_aload_n cx 0 d_8_1_60 rfl rfl ?_
  refine g_bipush cx (v := 8) d_8_1_61 (by decide) ?_
  refine g_newarr cx (k := 0) (n := 8) (a0 := (8, .inl (fun _ => 0))) d_8_1_63 rfl t_112 rfl rfl rfl (by decide) (by decide) (fun cA => rfl) ⟨Nat.le_of_ble_eq_true rfl, Nat.le_of_ble_eq_true rfl⟩ (fun w12 hw hz => ?_)
  refine t_push (q := (99, 0, 0)) hT hw hz ⟨fun x => absurd x.2 (by decide), fun x => absurd x.2 (by decide), trivial⟩ (fun K h hT ev hkw hmw hew hol => ?_)
  replace hE := hE.tr ev
  refine g_putF cx hnm d_8_1_65 in9 ty9_ok nm9 rfl (k := 12) (by decide) t_910 rfl rfl (ty9_ok 12 (by decide)) rfl rfl (hol q hM.1).1 ((hol q hM.1).2.2.trans hM.2.1) (Nat.le_of_ble_eq_true rfl) ?_
  refine t_putR hT (hol q hM.1).1 (Or.inl (congrArg Prod.fst ((hol q hM.1).2.1.trans hM.2.2.1))) (fun h hT ev hm2 he2 hot2 hL2 => ?_)
  replace hE := Ev.trS hE ev
  replace hM := MP.step (n := 12) hM hw hol hkw hmw hew he2 hot2 hL2
  refine g_aload_n cx 0 d_8_1_68 rfl rfl ?_
  refine g_bipush cx (v := 8) d_8_1_69 (by decide) ?_
  refine g_newarr cx (k := 0) (n := 8) (a0 := (8, .inl (fun _ => 0))) d_8_1_71 rfl t_112 rfl rfl rfl (by decide) (by decide) (fun cA => rfl) ⟨Nat.le_of_ble_eq_true rfl, Nat.le_of_ble_eq_true rfl⟩ (fun w13 hw hz => ?_)
  refine t_push (q := (99, 0, 0)) hT hw hz ⟨fun x => absurd x.2 (by decide), fun x => absurd x.2 (by decide), trivial⟩ (fun K h hT ev hkw hmw hew hol => ?_)
  replace hE := hE.tr ev
  refine g_putF cx hnm d_8_1_73 in9 ty9_ok nm9 rfl (k := 13) (by decide) t_911 rfl rfl (ty9_ok 13 (by decide)) rfl rfl (hol q hM.1).1 ((hol q hM.1).2.2.trans hM.2.1) (Nat.le_of_ble_eq_true rfl) ?_
  refine t_putR hT (hol q hM.1).1 (Or.inl (congrArg Prod.fst ((hol q hM.1).2.1.trans hM.2.2.1))) (fun h hT ev hm2 he2 hot2 hL2 => ?_)
  replace hE := Ev.trS hE ev
  replace hM := MP.step (n := 13) hM hw hol hkw hmw hew he2 hot2 hL2
  refine g_aload_n cx 0 d_8_1_76 rfl rfl ?_
  refine g_bipush cx (v := 32) d_8_1_77 (by decide) ?_
  refine g_newarr cx (k := 0) (n := 32) (a0 := (32, .inl (fun _ => 0))) d_8_1_79 rfl t_112 rfl rfl rfl (by decide) (by decide) (fun cA => rfl) ⟨Nat.le_of_ble_eq_true rfl, Nat.le_of_ble_eq_true rfl⟩ (fun w14 hw hz => ?_)
  refine t_push (q := (99, 0, 0)) hT hw hz ⟨fun x => absurd x.2 (by decide), fun x => absurd x.2 (by decide), trivial⟩ (fun K h hT ev hkw hmw hew hol => ?_)
  replace hE := hE.tr ev
  refine g_putF cx hnm d_8_1_81 in9 ty9_ok nm9 rfl (k := 14) (by decide) t_912 rfl rfl (ty9_ok 14 (by decide)) rfl rfl (hol q hM.1).1 ((hol q hM.1).2.2.trans hM.2.1) (Nat.le_of_ble_eq_true rfl) ?_
  refine t_putR hT (hol q hM.1).1 (Or.inl (congrArg Prod.fst ((hol q hM.1).2.1.trans hM.2.2.1))) (fun h hT ev hm2 he2 hot2 hL2 => ?_)
  replace hE := Ev.trS hE ev
  replace hM := MP.step (n := 14) hM hw hol hkw hmw hew he2 hot2 hL2
  refine g_aload_n cx 0 d_8_1_84 rfl rfl ?_
  refine g_bipush cx (v := 8) d_8_1_85 (by decide) ?_
  refine g_newarr cx (k := 0) (n := 8) (a0 := (8, .inl (fun _ => 0))) d_8_1_87 rfl t_112 rfl rfl rfl (by decide) (by decide) (fun cA => rfl) ⟨Nat.le_of_ble_eq_true rfl, Nat.le_of_ble_eq_true rfl⟩ (fun w15 hw hz => ?_)
  refine t_push (q := (99, 0, 0)) hT hw hz ⟨fun x => absurd x.2 (by decide), fun x => absurd x.2 (by decide), trivial⟩ (fun K h hT ev hkw hmw hew hol => ?_)
  replace hE := hE.tr ev
  refine g_putF cx hnm d_8_1_89 in9 ty9_ok nm9 rfl (k := 15) (by decide) t_913 rfl rfl (ty9_ok 15 (by decide)) rfl rfl (hol q hM.1).1 ((hol q hM.1).2.2.trans hM.2.1) (Nat.le_of_ble_eq_true rfl) ?_
  refine t_putR hT (hol q hM.1).1 (Or.inl (congrArg Prod.fst ((hol q hM.1).2.1.trans hM.2.2.1))) (fun h hT ev hm2 he2 hot2 hL2 => ?_)
  replace hE := Ev.trS hE ev
  replace hM := MP.step (n := 15) hM hw hol hkw hmw hew he2 hot2 hL2
  refine g_aload_n cx 0 d_8_1_92 rfl rfl ?_
  refine g_bipush cx (v := 32) d_8_1_93 (by decide) ?_
  refine g_newarr cx (k := 0) (n := 32) (a0 := (32, .inl (fun _ => 0))) d_8_1_95 rfl t_112 rfl rfl rfl (by decide) (by decide) (fun cA => rfl) ⟨Nat.le_of_ble_eq_true rfl, Nat.le_of_ble_eq_true rfl⟩ (fun w16 hw hz => ?_)
  refine t_push (q := (99, 0, 0)) hT hw hz ⟨fun x => absurd x.2 (by decide), fun x => absurd x.2 (by decide), trivial⟩ (fun K h hT ev hkw hmw hew hol => ?_)
  replace hE := hE.tr ev
  refine g_putF cx hnm d_8_1_97 in9 ty9_ok nm9 rfl (k := 16) (by decide) t_914 rfl rfl (ty9_ok 16 (by decide)) rfl rfl (hol q hM.1).1 ((hol q hM.1).2.2.trans hM.2.1) (Nat.le_of_ble_eq_true rfl) ?_
  refine t_putR hT (hol q hM.1).1 (Or.inl (congrArg Prod.fst ((hol q hM.1).2.1.trans hM.2.2.1))) (fun h hT ev hm2 he2 hot2 hL2 => ?_)
  replace hE := Ev.trS hE ev
  replace hM := MP.step (n := 16) hM hw hol hkw hmw hew he2 hot2 hL2
  refine g_aload_n cx 0 d_8_1_100 rfl rfl ?_
  refine g_bipush cx (v := 8) d_8_1_101 (by decide) ?_
  refine g_newarr cx (k := 0) (n := 8) (a0 := (8, .inl (fun _ => 0))) d_8_1_103 rfl t_112 rfl rfl rfl (by decide) (by decide) (fun cA => rfl) ⟨Nat.le_of_ble_eq_true rfl, Nat.le_of_ble_eq_true rfl⟩ (fun w17 hw hz => ?_)
  refine t_push (q := (99, 0, 0)) hT hw hz ⟨fun x => absurd x.2 (by decide), fun x => absurd x.2 (by decide), trivial⟩ (fun K h hT ev hkw hmw hew hol => ?_)
  replace hE := hE.tr ev
  refine g_putF cx hnm d_8_1_105 in9 ty9_ok nm9 rfl (k := 17) (by decide) t_915 rfl rfl (ty9_ok 17 (by decide)) rfl rfl (hol q hM.1).1 ((hol q hM.1).2.2.trans hM.2.1) (Nat.le_of_ble_eq_true rfl) ?_
  refine t_putR hT (hol q hM.1).1 (Or.inl (congrArg Prod.fst ((hol q hM.1).2.1.trans hM.2.2.1))) (fun h hT ev hm2 he2 hot2 hL2 => ?_)
  replace hE := Ev.trS hE ev
  replace hM := MP.step (n := 17) hM hw hol hkw hmw hew he2 hot2 hL2
  refine g_aload_n cx 0 d_8_1_108 rfl rfl ?_
  refine g_bipush cx (v := 8) d_8_1_109 (by decide) ?_
  refine g_newarr cx (k := 0) (n := 8) (a0 := (8, .inl (fun _ => 0))) d_8_1_111 rfl t_112 rfl rfl rfl (by decide) (by decide) (fun cA => rfl) ⟨Nat.le_of_ble_eq_true rfl, Nat.le_of_ble_eq_true rfl⟩ (fun w18 hw hz => ?_)
  refine t_push (q := (99, 0, 0)) hT hw hz ⟨fun x => absurd x.2 (by decide), fun x => absurd x.2 (by decide), trivial⟩ (fun K h hT ev hkw hmw hew hol => ?_)
  replace hE := hE.tr ev
  refine g_putF cx hnm d_8_1_113 in9 ty9_ok nm9 rfl (k := 18) (by decide) t_916 rfl rfl (ty9_ok 18 (by decide)) rfl rfl (hol q hM.1).1 ((hol q hM.1).2.2.trans hM.2.1) (Nat.le_of_ble_eq_true rfl) ?_
  refine t_putR hT (hol q hM.1).1 (Or.inl (congrArg Prod.fst ((hol q hM.1).2.1.trans hM.2.2.1))) (fun h hT ev hm2 he2 hot2 hL2 => ?_)
  replace hE := Ev.trS hE ev
  replace hM := MP.step (n := 18) hM hw hol hkw hmw hew he2 hot2 hL2
  refine g_aload_n cx 0 d_8_1_116 rfl rfl ?_
  refine g_sipush cx (v := 288) d_8_1_117 (by decide) ?_
  refine g_newarr cx (k := 0) (n := 288) (a0 := (288, .inl (fun _ => 0))) d_8_1_120 rfl t_112 rfl rfl rfl (by decide) (by decide) (fun cA => rfl) ⟨Nat.le_of_ble_eq_true rfl, Nat.le_of_ble_eq_true rfl⟩ (fun w19 hw hz => ?_)
  refine t_push (q := (99, 0, 0)) hT hw hz ⟨fun x => absurd x.2 (by decide), fun x => absurd x.2 (by decide), trivial⟩ (fun K h hT ev hkw hmw hew hol => ?_)
  replace hE := hE.tr ev
  refine g_putF cx hnm d_8_1_122 in9 ty9_ok nm9 rfl (k := 19) (by decide) t_917 rfl rfl (ty9_ok 19 (by decide)) rfl rfl (hol q hM.1).1 ((hol q hM.1).2.2.trans hM.2.1) (Nat.le_of_ble_eq_true rfl) ?_
  refine t_putR hT (hol q hM.1).1 (Or.inl (congrArg Prod.fst ((hol q hM.1).2.1.trans hM.2.2.1))) (fun h hT ev hm2 he2 hot2 hL2 => ?_)
  replace hE := Ev.trS hE ev
  replace hM := MP.step (n := 19) hM hw hol hkw hmw hew he2 hot2 hL2
  refine g_aload_n cx 0 d_8_1_125 rfl rfl ?_
  refine g_bipush cx (v := 32) d_8_1_126 (by decide) ?_
  refine g_newarr cx (k := 2) (n := 32) (a0 := (32, .inr (.inl (fun _ => 0)))) d_8_1_128 rfl t_987 rfl rfl rfl (by decide) (by decide) (fun cA => rfl) ⟨Nat.le_of_ble_eq_true rfl, Nat.le_of_ble_eq_true rfl⟩ (fun w20 hw hz => ?_)
  refine t_push (q := (99, 0, 0)) hT hw hz ⟨fun x => absurd x.2 (by decide), fun x => absurd x.2 (by decide), trivial⟩ (fun K h hT ev hkw hmw hew hol => ?_)
  replace hE := hE.tr ev
  refine g_putF cx hnm d_8_1_130 in9 ty9_ok nm9 rfl (k := 20) (by decide) t_918 rfl rfl (ty9_ok 20 (by decide)) rfl rfl (hol q hM.1).1 ((hol q hM.1).2.2.trans hM.2.1) (Nat.le_of_ble_eq_true rfl) ?_
  refine t_putR hT (hol q hM.1).1 (Or.inl (congrArg Prod.fst ((hol q hM.1).2.1.trans hM.2.2.1))) (fun h hT ev hm2 he2 hot2 hL2 => ?_)
  replace hE := Ev.trS hE ev
  replace hM := MP.step (n := 20) hM hw hol hkw hmw hew he2 hot2 hL2
  refine g_aload_n cx 0 d_8_1_133 rfl rfl ?_
  refine g_sipush cx (v := 288) d_8_1_134 (by decide) ?_
  refine g_newarr cx (k := 2) (n := 288) (a0 := (288, .inr (.inl (fun _ => 0)))) d_8_1_137 rfl t_987 rfl rfl rfl (by decide) (by decide) (fun cA => rfl) ⟨Nat.le_of_ble_eq_true rfl, Nat.le_of_ble_eq_true rfl⟩ (fun w21 hw hz => ?_)
  refine t_push (q := (99, 0, 0)) hT hw hz ⟨fun x => absurd x.2 (by decide), fun x => absurd x.2 (by decide), trivial⟩ (fun K h hT ev hkw hmw hew hol => ?_)
  replace hE := hE.tr ev
  refine g_putF cx hnm d_8_1_139 in9 ty9_ok nm9 rfl (k := 21) (by decide) t_919 rfl rfl (ty9_ok 21 (by decide)) rfl rfl (hol q hM.1).1 ((hol q hM.1).2.2.trans hM.2.1) (Nat.le_of_ble_eq_true rfl) ?_
  refine t_putR hT (hol q hM.1).1 (Or.inl (congrArg Prod.fst ((hol q hM.1).2.1.trans hM.2.2.1))) (fun h hT ev hm2 he2 hot2 hL2 => ?_)
  replace hE := Ev.trS hE ev
  replace hM := MP.step (n := 21) hM hw hol hkw hmw hew he2 hot2 hL2
  refine g_aload_n cx 0 d_8_1_142 rfl rfl ?_
  refine g_bipush cx (v := 8) d_8_1_143 (by decide) ?_
  refine g_newarr cx (k := 3) (n := 8) (a0 := (8, .inl (fun _ => 0))) d_8_1_145 rfl t_988 rfl rfl rfl (by decide) (by decide) (fun cA => rfl) ⟨Nat.le_of_ble_eq_true rfl, Nat.le_of_ble_eq_true rfl⟩ (fun w22 hw hz => ?_)
  refine t_push (q := (99, 0, 0)) hT hw hz ⟨fun x => absurd x.2 (by decide), fun x => absurd x.2 (by decide), trivial⟩ (fun K h hT ev hkw hmw hew hol => ?_)
  replace hE := hE.tr ev
  refine g_putF cx hnm d_8_1_147 in9 ty9_ok nm9 rfl (k := 22) (by decide) t_920 rfl rfl (ty9_ok 22 (by decide)) rfl rfl (hol q hM.1).1 ((hol q hM.1).2.2.trans hM.2.1) (Nat.le_of_ble_eq_true rfl) ?_
  refine t_putR hT (hol q hM.1).1 (Or.inl (congrArg Prod.fst ((hol q hM.1).2.1.trans hM.2.2.1))) (fun h hT ev hm2 he2 hot2 hL2 => ?_)
  replace hE := Ev.trS hE ev
  replace hM := MP.step (n := 22) hM hw hol hkw hmw hew he2 hot2 hL2
  refine g_aload_n cx 0 d_8_1_150 rfl rfl ?_
  refine g_bipush cx (v := 8) d_8_1_151 (by decide) ?_
  refine g_newarr cx (k := 3) (n := 8) (a0 := (8, .inl (fun _ => 0))) d_8_1_153 rfl t_988 rfl rfl rfl (by decide) (by decide) (fun cA => rfl) ⟨Nat.le_of_ble_eq_true rfl, Nat.le_of_ble_eq_true rfl⟩ (fun w23 hw hz => ?_)
  refine t_push (q := (99, 0, 0)) hT hw hz ⟨fun x => absurd x.2 (by decide), fun x => absurd x.2 (by decide), trivial⟩ (fun K h hT ev hkw hmw hew hol => ?_)
  replace hE := hE.tr ev
  refine g_putF cx hnm d_8_1_155 in9 ty9_ok nm9 rfl (k := 23) (by decide) t_921 rfl rfl (ty9_ok 23 (by decide)) rfl rfl (hol q hM.1).1 ((hol q hM.1).2.2.trans hM.2.1) (Nat.le_of_ble_eq_true rfl) ?_
  refine t_putR hT (hol q hM.1).1 (Or.inl (congrArg Prod.fst ((hol q hM.1).2.1.trans hM.2.2.1))) (fun h hT ev hm2 he2 hot2 hL2 => ?_)
  replace hE := Ev.trS hE ev
  replace hM := MP.step (n := 23) hM hw hol hkw hmw hew he2 hot2 hL2
  replace hM := hM.skip rfl rfl
  replace hM := hM.skip rfl rfl
  refine g_aload_n cx 0 d_8_1_158 rfl rfl ?_
  refine g_bipush cx (v := 8) d_8_1_159 (by decide) ?_
  refine g_newarr cx (k := 0) (n := 8) (a0 := (8, .inl (fun _ => 0))) d_8_1_161 rfl t_112 rfl rfl rfl (by decide) (by decide) (fun cA => rfl) ⟨Nat.le_of_ble_eq_true rfl, Nat.le_of_ble_eq_true rfl⟩ (fun w26 hw hz => ?_)
  refine t_push (q := (99, 0, 0)) hT hw hz ⟨fun x => absurd x.2 (by decide), fun x => absurd x.2 (by decide), trivial⟩ (fun K h hT ev hkw hmw hew hol => ?_)
  replace hE := hE.tr ev
  refine g_putF cx hnm d_8_1_163 in9 ty9_ok nm9 rfl (k := 26) (by decide) t_924 rfl rfl (ty9_ok 26 (by decide)) rfl rfl (hol q hM.1).1 ((hol q hM.1).2.2.trans hM.2.1) (Nat.le_of_ble_eq_true rfl) ?_
  refine t_putR hT (hol q hM.1).1 (Or.inl (congrArg Prod.fst ((hol q hM.1).2.1.trans hM.2.2.1))) (fun h hT ev hm2 he2 hot2 hL2 => ?_)
  replace hE := Ev.trS hE ev
  replace hM := MP.step (n := 26) hM hw hol hkw hmw hew he2 hot2 hL2
  refine g_aload_n cx 0 d_8_1_166 rfl rfl ?_
  refine g_bipush cx (v := 8) d_8_1_167 (by decide) ?_
  refine g_newarr cx (k := 0) (n := 8) (a0 := (8, .inl (fun _ => 0))) d_8_1_169 rfl t_112 rfl rfl rfl (by decide) (by decide) (fun cA => rfl) ⟨Nat.le_of_ble_eq_true rfl, Nat.le_of_ble_eq_true rfl⟩ (fun w27 hw hz => ?_)
  refine t_push (q := (99, 0, 0)) hT hw hz ⟨fun x => absurd x.2 (by decide), fun x => absurd x.2 (by decide), trivial⟩ (fun K h hT ev hkw hmw hew hol => ?_)
  replace hE := hE.tr ev
  refine g_putF cx hnm d_8_1_171 in9 ty9_ok nm9 rfl (k := 27) (by decide) t_925 rfl rfl (ty9_ok 27 (by decide)) rfl rfl (hol q hM.1).1 ((hol q hM.1).2.2.trans hM.2.1) (Nat.le_of_ble_eq_true rfl) ?_
  refine t_putR hT (hol q hM.1).1 (Or.inl (congrArg Prod.fst ((hol q hM.1).2.1.trans hM.2.2.1))) (fun h hT ev hm2 he2 hot2 hL2 => ?_)
  replace hE := Ev.trS hE ev
  replace hM := MP.step (n := 27) hM hw hol hkw hmw hew he2 hot2 hL2
  refine g_aload_n cx 0 d_8_1_174 rfl rfl ?_
  refine g_bipush cx (v := 20) d_8_1_175 (by decide) ?_
  refine g_newarr cx (k := 0) (n := 20) (a0 := (20, .inl (fun _ => 0))) d_8_1_177 rfl t_112 rfl rfl rfl (by decide) (by decide) (fun cA => rfl) ⟨Nat.le_of_ble_eq_true rfl, Nat.le_of_ble_eq_true rfl⟩ (fun w28 hw hz => ?_)
  refine t_push (q := (99, 0, 0)) hT hw hz ⟨fun x => absurd x.2 (by decide), fun x => absurd x.2 (by decide), trivial⟩ (fun K h hT ev hkw hmw hew hol => ?_)
  replace hE := hE.tr ev
  refine g_putF cx hnm d_8_1_179 in9 ty9_ok nm9 rfl (k := 28) (by decide) t_926 rfl rfl (ty9_ok 28 (by decide)) rfl rfl (hol q hM.1).1 ((hol q hM.1).2.2.trans hM.2.1) (Nat.le_of_ble_eq_true rfl) ?_
  refine t_putR hT (hol q hM.1).1 (Or.inl (congrArg Prod.fst ((hol q hM.1).2.1.trans hM.2.2.1))) (fun h hT ev hm2 he2 hot2 hL2 => ?_)
  replace hE := Ev.trS hE ev
  replace hM := MP.step (n := 28) hM hw hol hkw hmw hew he2 hot2 hL2
  obtain ⟨m1, m2, m3, m4, m5, m6⟩ := hM
  obtain ⟨t9, v9⟩ := t_kind (q := (99, 0, 0)) hT m1 (congrArg Prod.fst m3) m2 ⟨fun x => absurd x.2 (by decide), fun x => absurd x.2 (by decide), trivial⟩
  exact g_vret cx d_8_1_182 rfl ⟨_, t9, Ev.trS hE v9, rfl, by rw [va_up_self], _, ⟨m6, fun i hi hm => (m5 i hi hm).2.2.2.2⟩, ⟨m1, m2, fun i hi hm => ⟨(m5 i hi hm).1, (m5 i hi hm).2.1⟩⟩, fun i hi hm => ⟨by rw [va_up_ne _ _ (m5 i hi hm).2.2.2.2]; exact (m5 i hi hm).2.2.1, (m5 i hi hm).2.2.2.1⟩⟩
end MCT
