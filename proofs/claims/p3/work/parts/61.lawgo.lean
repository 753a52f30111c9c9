/-! The law from its entry to its loop. -/
section LGO
set_option maxHeartbeats 8000000 in
theorem lawGo {p : Program} {l : Launch} {e : Env} {R : Room} {s : State} {m : MethodId} {args : Array Value} {below : List Frame} {meth : Method} {c : Code} {D : va_G} {z0 : Nat} {k : Nat → Nat} {MC MS : Nat} (cx : Cx p R s m args meth c code "RealmDeskLaw" 7 (some .boolean) D z0 (EE z0 k) MC MS) (hR : 100 ≤ R.frames ∧ 4000 ≤ R.locals) (htr : l.stackTraces = false) {b L : Nat} {xs : Nat → Int32} (hX : va_X b L xs s s.heap) (hbs : b < s.heap.size) (hbz : b < z0) (hL : L ≤ 1024) {K : KM} {h : hp} {rc rs : Nat} (hT : TP D z0 k K 16 0 h) (hrc : 103000 ≤ rc) (hrs : 4800000 ≤ rs) : G p l e R s m args below meth c 7 D z0 (EE z0 k) (fun o _ => o = .returned (some (.int 1))) MC MS 0 [(0, .ref b)] [] h rc rs := by
  obtain ⟨hR1, hR2⟩ := hR
  refine g_new cx (ci := 0) (fs := [.null, .null, .null, .null, .int 0]) d_code_0 in0 ty0_ok t_29 t_30 t_1 rfl (by decide) ⟨by omega, by omega⟩ (fun q0 hq0 hz0 => ?_)
  refine t_raw hT hq0 hz0 (fun K h hT ev hr hm he hol => ?_)
  refine g_dup cx d_code_3 rfl ?_
  refine g_callI cx (ret' := none) (As := []) (n := 0) (tc_desk) d_code_4 t_31 t_32 t_1 t_33 rfl ⟨by decide, by decide, by decide +kernel⟩ rfl ⟨rfl, hT, hr, hm, he⟩ ⟨by show 5 + 1 ≤ R.frames; omega, by show 8 + (1 + 11) + 60 * 5 ≤ R.locals; omega⟩ (Nat.le_of_ble_eq_true rfl) ⟨by show 5 ≤ rc - 1; omega, by show 46 ≤ rs - 5; omega⟩ (fun v4 h r4 => ?_) (fun x4 h r4 => by obtain ⟨K9, -, -, e9, -⟩ := r4; cases e9)
  obtain ⟨K, hT, ev, e4, ha, ab, vb, hab, hbk, hz0, hza⟩ := r4
  cases e4
  obtain ⟨lr, hlrq⟩ : ∃ z, (K q0).2.2 = z := ⟨_, rfl⟩
  rw [hlrq] at hz0 hza
  have hQ : CQ D k K h lr (fun _ _ => 0) (fun _ => 0) (fun _ => 0) (fun _ => 0) := by
    obtain ⟨la9, lr9, tr9, tn9, -, hla9, hlr9, -, -, hq9, hl9⟩ := TP.desk hT ha rfl
    have e9 : lr9 = lr := hq9.trans hlrq
    rw [e9] at hlr9 hl9
    rw [hl9] at hla9
    exact ⟨⟨LsK.nil hT hlr9 (by decide) hz0, fun j hj => absurd hj (Nat.not_lt_zero _), fun i j hi => absurd hi (Nat.not_lt_zero _)⟩, ⟨LsK.nil hT hla9 (by decide) hza, fun j hj => absurd hj (Nat.not_lt_zero _), fun i j hi => absurd hi (Nat.not_lt_zero _)⟩, fun h0 => absurd h0 (Nat.lt_irrefl _), fun h0 => absurd h0 (Nat.lt_irrefl _)⟩
  refine g_astore_n cx (lv' := [(1, .ref q0), (0, .ref b)]) d_code_7 rfl (by decide) rfl ?_
  obtain ⟨L0, hL0⟩ : ∃ L0, L0 = h.1 := ⟨_, rfl⟩
  have hab0 : ab ∈ L0 := by obtain ⟨_, _, z, _⟩ := id hbk.1; rw [hL0]; exact z
  have hvb0 : vb ∈ L0 := by obtain ⟨_, _, _, _, z, _⟩ := id hbk.1; rw [hL0]; exact z
  refine g_new cx (ci := 9) (fs := [.int 0, .null, .int 0, .int 0, .null, .null, .int 0, .null, .null, .null, .null, .int 0, .null, .null, .null, .null, .null, .null, .null, .null, .null, .null, .null, .null, .int 0, .int 0, .null, .null, .null]) d_code_8 in9 ty9_ok t_892 t_893 t_9 rfl (by decide) ⟨by show 1 ≤ rc - 1 - 5; omega, by show 29 ≤ rs - 5 - 46; omega⟩ (fun q8 hq8 hz8 => ?_)
  have hq8L : q8 ∉ L0 := by rw [hL0]; exact hq8
  refine t_raw hT hq8 hz8 (fun K h hT ev hr hm he hol => ?_)
  have hS : ∀ z, z ∈ L0 → z ∈ h.1 := fun z hz => (hol z (by rw [← hL0]; exact hz)).1
  replace hQ := hQ.ev ev (fun _ _ => id)
  replace hlrq := (Ev.fix (κ := 0) ev ha (by unfold Gk; omega)).trans hlrq
  replace hab := Ev.ab ev ha hab
  replace ha := Ev.ty ev ha
  replace hbk := hbk.mv ev (fun _ _ => id)
  refine g_dup cx d_code_11 rfl ?_
  refine g_callI cx (ret' := none) (As := []) (n := 0) (tc_model (S := fun z => z ∈ L0)) d_code_12 t_894 t_895 t_9 t_896 rfl ⟨by decide, by decide, by decide +kernel⟩ rfl ⟨rfl, hT, hr, hm, he, hS⟩ ⟨by show 1 + 1 ≤ R.frames; omega, by show 8 + (1 + 11) + 60 * 1 ≤ R.locals; omega⟩ (Nat.le_of_ble_eq_true rfl) ⟨by show 22 ≤ rc - 1 - 5 - 1; omega, by show 878 ≤ rs - 5 - 46 - 29; omega⟩ (fun v12 h r12 => ?_) (fun x12 h r12 => by obtain ⟨K9, -, -, e9, -⟩ := r12; cases e9)
  obtain ⟨K, hT, ev, e12, hk8, ad, hAd, hMo, had⟩ := r12
  cases e12
  replace hQ := hQ.ev ev (x0Q hr)
  replace hlrq := (Ev.fix (κ := 0) ev ha (by unfold Gk; omega)).trans hlrq
  replace hab := Ev.ab ev ha hab
  replace ha := Ev.ty ev ha
  replace hbk := hbk.mv ev (fun z hz y => by have y2 : z = q8 := y; rw [y2, hr] at hz; exact absurd hz (by decide))
  refine g_astore_n cx (lv' := [(2, .ref q8), (1, .ref q0), (0, .ref b)]) d_code_15 rfl (by decide) rfl ?_
  refine g_iconst cx (v := 1) d_code_16 (by decide) ?_
  refine g_newarr cx (k := 2) (n := 1) (a0 := (1, .inr (.inl (fun _ => 0)))) d_code_17 rfl t_987 rfl rfl rfl (by decide) (by decide) (fun cA => rfl) ⟨by show 1 ≤ rc - 1 - 5 - 1 - 22; omega, by show 1 ≤ rs - 5 - 46 - 29 - 878; omega⟩ (fun q17 hq17 hz17 => ?_)
  have hmi : ∀ z, Mi q8 ad z → z ∈ h.1 ∧ (K z).1 = 99 ∧ z ∉ L0 := fun z hz => by
    rcases hz with rfl | ⟨i, hi, hm9, rfl⟩
    · exact ⟨hMo.1, hk8, hq8L⟩
    · exact ⟨(hMo.2.2 i hi hm9).1, had i hi hm9⟩
  have hnm : ¬ Mi q8 ad q17 := fun z => hq17 (hmi _ z).1
  have habm : ab ∈ h.1 := by obtain ⟨_, _, z, _⟩ := id hbk.1; exact z
  have hvbm : vb ∈ h.1 := by obtain ⟨_, _, _, _, z, _⟩ := id hbk.1; exact z
  refine t_push (q := (99, 0, 0)) hT hq17 hz17 ⟨fun x => absurd x.2 (by decide), fun x => absurd x.2 (by decide), trivial⟩ (fun K h hT ev hk17 hm17 he17 hol17 => ?_)
  replace hQ := hQ.ev ev (fun _ _ => id)
  replace hlrq := (Ev.fix (κ := 0) ev ha (by unfold Gk; omega)).trans hlrq
  replace hab := Ev.ab ev ha hab
  replace ha := Ev.ty ev ha
  obtain ⟨b1, b2, b3, -, -, -⟩ := hbk.mv ev (fun _ _ => id)
  have hLM : LM D q8 ad h 0 0 (fun _ _ => 0) := LM.ev ⟨zMS, hMo, MIx.of mi0, rfl, fun j hj => absurd hj (Nat.not_lt_zero _), ⟨Nat.zero_le _, rfl⟩, fun j hj => absurd hj (Nat.not_lt_zero _), fun j _ _ => ⟨rfl, rfl, rfl⟩, ⟨Nat.zero_le _, rfl⟩, fun j hj => absurd hj (Nat.not_lt_zero _), fun j _ _ => rfl, fun h0 => absurd h0 (Nat.lt_irrefl _), fun h0 => absurd h0 (Nat.lt_irrefl _)⟩ ev (fun _ _ => id)
  have hS2 : ∀ z, LSe q8 ad q17 z → z ∈ h.1 := fun z hz => by
    rcases hz with hz | rfl
    · exact (hol17 z (hmi z hz).1).1
    · exact hm17
  have nS : ∀ z, z ∈ L0 → z ≠ q17 → ¬ LSe q8 ad q17 z := fun z hz hne y => by
    rcases y with y | y
    · exact (hmi z y).2.2 hz
    · exact hne y
  have hLC : LC D z0 k q0 q8 q17 ad K 16 0 h 0 0 lr := ⟨hT, ha, ⟨vb, 16, by rw [hab]; exact ⟨b1, b2, b3, hS2, nS ab hab0 (fun z => hq17 (z ▸ habm)), nS vb hvb0 (fun z => hq17 (z ▸ hvbm))⟩⟩, ⟨Or.inr rfl, by rw [hk17], _, he17⟩, hAd, hnm, fun z hz => by rw [(hol17 z (hmi z hz).1).2.1]; exact (hmi z hz).2.1, hlrq⟩
  refine g_astore_n cx (lv' := [(3, .ref q17), (2, .ref q8), (1, .ref q0), (0, .ref b)]) d_code_19 rfl (by decide) rfl ?_
  refine g_iconst cx (v := 0) d_code_20 (by decide) ?_
  refine g_istore cx (lv' := [(4, .int (nI (2 * 0))), (3, .ref q17), (2, .ref q8), (1, .ref q0), (0, .ref b)]) d_code_21 (by decide) rfl ?_
  exact lawLoop cx ⟨hR1, hR2⟩ htr hX hbs hbz hL 513 0 0 0 16 0 0 0 lr _ _ _ _ K h _ _ rfl (Nat.zero_le _) rfl ⟨Nat.le_refl _, Or.inl rfl⟩ (Nat.zero_le _) hLC hQ hLM (by show 102400 ≤ rc - 1 - 5 - 1 - 22 - 1 + 200 * 0; omega) (Or.inl rfl) (by show 4790272 + 0 ≤ rs - 5 - 46 - 29 - 878 - 1 + 12 * 0 + 3200 * 0; omega)
end LGO
