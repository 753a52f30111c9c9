/-! Words and parts of a line, by their characters. -/
def Let (c : Nat) : Prop := 97 ≤ c ∧ c ≤ 122
def WordOk (n cd : Nat) : Prop := 1 ≤ n ∧ n ≤ 4 ∧ ∀ j, j < n → Let (chr cd j)
/-- the parts of a text: its longest runs without blanks, in their order -/
def SPL (cd n pn : Nat) (bg en : Nat → Nat) : Prop := (∀ i, i < pn → bg i < en i ∧ en i ≤ n ∧ ∀ j, bg i ≤ j → j < en i → chr cd j ≠ 32) ∧ (∀ i, i + 1 < pn → en i < bg (i + 1)) ∧ ∀ j, j < n → chr cd j ≠ 32 → ∃ i, i < pn ∧ bg i ≤ j ∧ j < en i
theorem SPL.lt {cd n pn : Nat} {bg en : Nat → Nat} (h : SPL cd n pn bg en) : ∀ d i, i + d + 1 < pn → en i < bg (i + d + 1) := by
  intro d
  induction d with
  | zero => intro i hi; exact h.2.1 i hi
  | succ d ih =>
    intro i hi
    have h1 := ih i (by omega)
    have h2 := (h.1 (i + d + 1) (by omega)).1
    have h3 := h.2.1 (i + d + 1) (by omega)
    show en i < bg (i + d + 1 + 1)
    omega
theorem SPL.ord {cd n pn : Nat} {bg en : Nat → Nat} (h : SPL cd n pn bg en) {i i' : Nat} (hi : i < i') (hp : i' < pn) : en i < bg i' := by
  obtain ⟨d, rfl⟩ : ∃ d, i' = i + d + 1 := ⟨i' - i - 1, by omega⟩
  exact h.lt d i hp
/-- where a part begins a blank lies before it, or nothing -/
theorem SPL.before {cd n pn : Nat} {bg en : Nat → Nat} (h : SPL cd n pn bg en) {i : Nat} (hi : i < pn) (h0 : 0 < bg i) : chr cd (bg i - 1) = 32 := by
  refine Classical.byContradiction (fun hc => ?_)
  have a := h.1 i hi
  obtain ⟨i', hp, h1, h2⟩ := h.2.2 (bg i - 1) (by omega) hc
  rcases Nat.lt_trichotomy i' i with q | q | q
  · have := h.ord q hi
    omega
  · subst q
    omega
  · have := h.ord q hp
    have := (h.1 i' hp).1
    omega
theorem SPL.behind {cd n pn : Nat} {bg en : Nat → Nat} (h : SPL cd n pn bg en) {i : Nat} (hi : i < pn) (h0 : en i < n) : chr cd (en i) = 32 := by
  refine Classical.byContradiction (fun hc => ?_)
  have a := h.1 i hi
  obtain ⟨i', hp, h1, h2⟩ := h.2.2 (en i) h0 hc
  rcases Nat.lt_trichotomy i' i with q | q | q
  · have := h.ord q hi
    omega
  · subst q
    omega
  · have := h.ord q hp
    omega
/-- a part of one splitting is a part of the other -/
theorem SPL.one {cd n pn pn' : Nat} {bg en bg' en' : Nat → Nat} (h : SPL cd n pn bg en) (h' : SPL cd n pn' bg' en') {i : Nat} (hi : i < pn) : ∃ i', i' < pn' ∧ bg' i' = bg i ∧ en' i' = en i := by
  obtain ⟨a1, a2, a3⟩ := h.1 i hi
  obtain ⟨i', hp, h1, h2⟩ := h'.2.2 (bg i) (by omega) (a3 (bg i) (Nat.le_refl _) a1)
  obtain ⟨b1, b2, b3⟩ := h'.1 i' hp
  refine ⟨i', hp, ?_, ?_⟩
  · refine Classical.byContradiction (fun hc => ?_)
    have hlt : bg' i' < bg i := by omega
    exact b3 (bg i - 1) (by omega) (by omega) (h.before hi (by omega))
  · rcases Nat.lt_trichotomy (en' i') (en i) with q | q | q
    · exact absurd (h'.behind hp (by omega)) (a3 (en' i') (by omega) q)
    · exact q
    · exact absurd (h.behind hi (by omega)) (b3 (en i) (by omega) q)
theorem SPL.eq {cd n pn pn' : Nat} {bg en bg' en' : Nat → Nat} (h : SPL cd n pn bg en) (h' : SPL cd n pn' bg' en') : ∀ i, i < pn → i < pn' ∧ bg' i = bg i ∧ en' i = en i := by
  intro i
  induction i using Nat.strongRecOn with
  | _ i ih =>
    intro hi
    obtain ⟨i', hp, e1, e2⟩ := h.one h' hi
    rcases Nat.lt_trichotomy i' i with q | q | q
    · obtain ⟨c1, c2, c3⟩ := ih i' q (by omega)
      have := h.ord q hi
      have := (h.1 i hi).1
      have := (h.1 i' (by omega)).1
      omega
    · subst q
      exact ⟨hp, e1, e2⟩
    · have hip : i < pn' := by omega
      obtain ⟨j, hj, f1, f2⟩ := h'.one h hip
      rcases Nat.lt_trichotomy j i with r | r | r
      · obtain ⟨c1, c2, c3⟩ := ih j r hj
        have := h'.ord r hip
        have := (h'.1 j c1).1
        have := (h'.1 i hip).1
        omega
      · subst r
        exact ⟨hip, f1.symm, f2.symm⟩
      · have g1 := h'.ord q hp
        have g2 := h.ord r hj
        have g3 := (h.1 i hi).1
        have g4 := (h'.1 i hip).1
        omega
theorem SPL.num {cd n pn pn' : Nat} {bg en bg' en' : Nat → Nat} (h : SPL cd n pn bg en) (h' : SPL cd n pn' bg' en') : pn = pn' := by
  rcases Nat.lt_trichotomy pn pn' with q | q | q
  · have := (h'.eq h pn q).1
    omega
  · exact q
  · have := (h.eq h' pn' q).1
    omega
section F1
variable {l : Launch} {D : va_G} {z0 : Nat} {k : Nat → Nat} {K : KM} {B T : Nat}
set_option maxHeartbeats 4000000 in
theorem pc_isWordF {a n cd : Nat} : PC l y_125 prog_1_method_14_code 2 (Option.some Jvm.ClassFile.FieldType.boolean) 6 D z0 k [.ref a] (fun h => ∃ v, StrP D k h a v n ∧ BaF D k h v n cd) (fun v => ∃ x : Int32, v = some (.int x) ∧ ((x = 1 ∧ WordOk n cd) ∨ (x = 0 ∧ ¬ WordOk n cd))) := by
  refine pc_of (by decide) (Nat.le_of_ble_eq_true rfl) ?_
  intro h hp p e s m args below meth c cx
  obtain ⟨v, hs, hf⟩ := hp
  have hle := hs.ba.le
  have lp : ∀ (n0 j : Nat), n - j < n0 → j ≤ n → (∀ i, i < j → Let (chr cd i)) → G p l e (rmT 6 0 0) s m args below meth c 2 D z0 (EE z0 k) (PQ h (fun v => ∃ x : Int32, v = some (.int x) ∧ ((x = 1 ∧ WordOk n cd) ∨ (x = 0 ∧ ¬ WordOk n cd)))) 0 0 2 [(1, .int (nI j)), (0, .ref a)] [] h 0 0 := by
    intro n0
    induction n0 with
    | zero => intro j hj; exact absurd hj (Nat.not_lt_zero _)
    | succ n0 ih =>
      intro j hj0 hjn hall
      refine g_iload_n cx 0 d_1_14_2 rfl rfl ?_
      refine g_aload_n cx 1 d_1_14_3 rfl rfl ?_
      refine g_pcVS cx (As := []) (n := 0) (pj_length (n := n)) d_1_14_4 t_519 t_391 t_392 t_4 t_393 rfl (by decide +kernel) rfl hs ⟨_, hs⟩ ⟨Nat.le_of_ble_eq_true rfl, Nat.le_of_ble_eq_true rfl⟩ (Nat.le_of_ble_eq_true rfl) (fun v4 r4 => ?_)
      subst r4
      refine g_icmp_ge cx d_1_14_7 rfl (fun c7 => ?_) (fun c7 => ?_)
      · skip
        have hjn2 : n ≤ j := (nI_leI (by omega) (by omega)).mp c7
        refine g_aload_n cx 1 d_1_14_38 rfl rfl ?_
        refine g_pcVS cx (As := []) (n := 0) (pj_length (n := n)) d_1_14_39 t_519 t_391 t_392 t_4 t_393 rfl (by decide +kernel) rfl hs ⟨_, hs⟩ ⟨Nat.le_of_ble_eq_true rfl, Nat.le_of_ble_eq_true rfl⟩ (Nat.le_of_ble_eq_true rfl) (fun v39 r39 => ?_)
        subst r39
        refine g_iconst cx (v := 1) d_1_14_42 (by decide) ?_
        refine g_icmp_lt cx d_1_14_43 rfl (fun c43 => ?_) (fun c43 => ?_)
        · skip
          have hs1 : n < 1 := (nI_ltI (b := 1) (by omega) (by decide)).mp c43
          refine g_iconst cx (v := 0) d_1_14_58 (by decide) ?_
          exact g_iret cx d_1_14_59 rfl rfl ⟨rfl, _, rfl, _, rfl, Or.inr ⟨rfl, fun q => by have := q.1; have := q.2.1; omega⟩⟩
        · skip
          have hs1 : 1 ≤ n := Nat.le_of_not_lt (fun q => c43 ((nI_ltI (b := 1) (by omega) (by decide)).mpr q))
          refine g_aload_n cx 1 d_1_14_46 rfl rfl ?_
          refine g_pcVS cx (As := []) (n := 0) (pj_length (n := n)) d_1_14_47 t_519 t_391 t_392 t_4 t_393 rfl (by decide +kernel) rfl hs ⟨_, hs⟩ ⟨Nat.le_of_ble_eq_true rfl, Nat.le_of_ble_eq_true rfl⟩ (Nat.le_of_ble_eq_true rfl) (fun v47 r47 => ?_)
          subst r47
          refine g_iconst cx (v := 4) d_1_14_50 (by decide) ?_
          refine g_icmp_gt cx d_1_14_51 rfl (fun c51 => ?_) (fun c51 => ?_)
          · skip
            have hs2 : 4 < n := (nI_ltI (a := 4) (by decide) (by omega)).mp c51
            refine g_iconst cx (v := 0) d_1_14_58 (by decide) ?_
            exact g_iret cx d_1_14_59 rfl rfl ⟨rfl, _, rfl, _, rfl, Or.inr ⟨rfl, fun q => by have := q.1; have := q.2.1; omega⟩⟩
          · skip
            have hs2 : n ≤ 4 := Nat.le_of_not_lt (fun q => c51 ((nI_ltI (a := 4) (by decide) (by omega)).mpr q))
            refine g_iconst cx (v := 1) d_1_14_54 (by decide) ?_
            refine g_goto cx d_1_14_55 rfl ?_
            exact g_iret cx d_1_14_59 rfl rfl ⟨rfl, _, rfl, _, rfl, Or.inl ⟨rfl, hs1, hs2, fun i hi => hall i (by omega)⟩⟩
      · skip
        have hj : j < n := Nat.lt_of_not_le (fun q => c7 (nI_le q (by omega)))
        refine g_aload_n cx 1 d_1_14_10 rfl rfl ?_
        refine g_iload_n cx 0 d_1_14_11 rfl rfl ?_
        refine g_pcVS cx (As := [.int (nI j)]) (n := 1) (pj_charF (n := n) (j := j) (cd := cd) hj) d_1_14_12 t_520 t_521 t_522 t_4 t_523 rfl (by decide +kernel) rfl hs ⟨_, hs, hf⟩ ⟨Nat.le_of_ble_eq_true rfl, Nat.le_of_ble_eq_true rfl⟩ (Nat.le_of_ble_eq_true rfl) (fun v12 r12 => ?_)
        subst r12
        refine g_bipush cx (v := 97) d_1_14_15 (by decide) ?_
        refine g_icmp_lt cx d_1_14_17 rfl (fun c17 => ?_) (fun c17 => ?_)
        · skip
          have hb : ¬ Let (chr cd j) := fun q => absurd ((nI_ltI (b := 97) (Nat.lt_trans chr_lt (by decide)) (by decide)).mp c17) (by have := q.1; omega)
          refine g_iconst cx (v := 0) d_1_14_30 (by decide) ?_
          exact g_iret cx d_1_14_31 rfl rfl ⟨rfl, _, rfl, _, rfl, Or.inr ⟨rfl, fun q => hb (q.2.2 j hj)⟩⟩
        · skip
          have hb1 : 97 ≤ chr cd j := Nat.le_of_not_lt (fun q => c17 ((nI_ltI (b := 97) (Nat.lt_trans chr_lt (by decide)) (by decide)).mpr q))
          refine g_aload_n cx 1 d_1_14_20 rfl rfl ?_
          refine g_iload_n cx 0 d_1_14_21 rfl rfl ?_
          refine g_pcVS cx (As := [.int (nI j)]) (n := 1) (pj_charF (n := n) (j := j) (cd := cd) hj) d_1_14_22 t_520 t_521 t_522 t_4 t_523 rfl (by decide +kernel) rfl hs ⟨_, hs, hf⟩ ⟨Nat.le_of_ble_eq_true rfl, Nat.le_of_ble_eq_true rfl⟩ (Nat.le_of_ble_eq_true rfl) (fun v22 r22 => ?_)
          subst r22
          refine g_bipush cx (v := 122) d_1_14_25 (by decide) ?_
          refine g_icmp_le cx d_1_14_27 rfl (fun c27 => ?_) (fun c27 => ?_)
          · skip
            have hb2 : chr cd j ≤ 122 := (nI_leI (b := 122) (Nat.lt_trans chr_lt (by decide)) (by decide)).mp c27
            refine g_iinc cx 0 (lv' := [(1, .int (nI (j + 1))), (0, .ref a)]) d_1_14_32 rfl (inc1 j) (by decide) rfl ?_
            refine g_goto cx d_1_14_35 rfl ?_
            exact ih (j + 1) (by omega) (by omega) (fun i hi => (Nat.lt_or_ge i j).elim (hall i) (fun q => by rw [show i = j by omega]; exact ⟨hb1, hb2⟩))
          · skip
            have hb : ¬ Let (chr cd j) := fun q => c27 ((nI_leI (b := 122) (Nat.lt_trans chr_lt (by decide)) (by decide)).mpr q.2)
            refine g_iconst cx (v := 0) d_1_14_30 (by decide) ?_
            exact g_iret cx d_1_14_31 rfl rfl ⟨rfl, _, rfl, _, rfl, Or.inr ⟨rfl, fun q => hb (q.2.2 j hj)⟩⟩
  refine g_iconst cx (v := 0) d_1_14_0 (by decide) ?_
  refine g_topi (fun j0 ej0 => ?_)
  obtain rfl : j0 = nI 0 := ej0
  refine g_istore_n cx (lv' := [(1, .int (nI 0)), (0, .ref a)]) d_1_14_1 rfl (by decide) rfl ?_
  exact lp (n + 1) 0 (by omega) (Nat.zero_le _) (fun i hi => absurd hi (Nat.not_lt_zero _))
end F1
