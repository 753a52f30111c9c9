/-! The class's searches, with what they find. -/
/-- a name as far as it has been read: ws words end before st, from st to j there is no dot -/
def NmI (cd n j st ws : Nat) : Prop := (j ≤ n → (∀ x, st ≤ x → x < j → chr cd x ≠ 46) ∧ (ws ≤ 2 → (NmR cd 2 0 n ↔ NmR cd (2 - ws) st (n - st))) ∧ (3 ≤ ws → ¬ NmR cd 2 0 n)) ∧ (j = n + 1 → (ws ≤ 3 ↔ NmR cd 2 0 n))
theorem NmI.zero {cd n : Nat} : NmI cd n 0 0 0 := ⟨fun _ => ⟨fun x _ h => absurd h (Nat.not_lt_zero _), fun _ => by rw [Nat.sub_zero, Nat.sub_zero], fun h => absurd h (by decide)⟩, fun h => by omega⟩
theorem NmI.char {cd n j st ws : Nat} (h : NmI cd n j st ws) (hj : j < n) (hc : chr cd j ≠ 46) : NmI cd n (j + 1) st ws := by
  obtain ⟨h1, h2, h3⟩ := h.1 (by omega)
  refine ⟨fun _ => ⟨fun x hx1 hx2 => ?_, h2, h3⟩, fun z => by omega⟩
  by_cases e : x = j
  · rw [e]
    exact hc
  · exact h1 x hx1 (by omega)
theorem NmI.stop {cd n j st ws : Nat} (h : NmI cd n j st ws) (hst : st ≤ j) (hjn : j ≤ n) (hb : j < n → chr cd j = 46) : (WordOk (j - st) (sub cd st (j - st)) → NmI cd n (j + 1) (j + 1) (ws + 1)) ∧ (¬ WordOk (j - st) (sub cd st (j - st)) → ¬ NmR cd 2 0 n) := by
  obtain ⟨h1, h2, h3⟩ := h.1 hjn
  rw [← WordP.ok]
  have nd : ∀ i, i < j - st → chr cd (st + i) ≠ 46 := fun i hi => h1 (st + i) (by omega) (by omega)
  by_cases hjl : j < n
  · have hd : chr cd (st + (j - st)) = 46 := by rw [show st + (j - st) = j by omega]; exact hb hjl
    by_cases hw2 : ws ≤ 1
    · have hD := NmR.dot (t := 1 - ws) (n := n - st) nd hd (by omega)
      rw [show 1 - ws + 1 = 2 - ws by omega, ← h2 (by omega), show st + (j - st) + 1 = j + 1 by omega, show n - st - (j - st) - 1 = n - (j + 1) by omega, show 1 - ws = 2 - (ws + 1) by omega] at hD
      refine ⟨fun hw => ⟨fun _ => ⟨fun x q1 q2 => absurd q2 (by omega), fun _ => ?_, fun q => absurd q (by omega)⟩, fun q => absurd q (by omega)⟩, fun hw q => hw (hD.mp q).1⟩
      exact ⟨fun q => (hD.mp q).2, fun q => hD.mpr ⟨hw, q⟩⟩
    · have hno : ¬ NmR cd 2 0 n := by
        by_cases h9 : ws = 2
        · subst h9
          intro q
          exact NmR.dot0 (l := j - st) hd (by omega) ((h2 (by decide)).mp q)
        · exact h3 (by omega)
      exact ⟨fun _ => ⟨fun _ => ⟨fun x q1 q2 => absurd q2 (by omega), fun q => absurd q (by omega), fun _ => hno⟩, fun q => absurd q (by omega)⟩, fun _ => hno⟩
  · have hj : j = n := by omega
    subst hj
    by_cases hw2 : ws ≤ 2
    · have hD := (h2 hw2).trans (NmR.nodot (t := 2 - ws) nd)
      exact ⟨fun hw => ⟨fun q => absurd q (by omega), fun _ => ⟨fun _ => hD.mpr hw, fun _ => by omega⟩⟩, fun hw q => hw (hD.mp q)⟩
    · exact ⟨fun _ => ⟨fun q => absurd q (by omega), fun _ => ⟨fun q => absurd q (by omega), fun q => absurd q (h3 (by omega))⟩⟩, fun _ => h3 (by omega)⟩
section F4
variable {l : Launch} {D : va_G} {z0 : Nat} {k : Nat → Nat} {K : KM} {B T : Nat}
set_option maxHeartbeats 8000000 in
theorem pt_realmWithF {a w n cd lr : Nat} {S : SL} {rz az nt : Nat → Nat} (hB : B < 2 ^ 20) : PU l y_94 prog_1_method_20_code 3 (Option.some (Jvm.ClassFile.FieldType.object "RealmDesk$Realm")) 6 D z0 k [.ref a, .ref w] K B T (fun h => Ty K h 1 a ∧ (K a).2.2 = lr ∧ Tc k K h w n cd ∧ CQ D k K h lr S rz az nt) (fun v _ => (v = some .null ∧ RNo S n cd) ∨ ∃ y j, v = some (.ref y) ∧ y = rz j ∧ RFst S n cd j) := by
  refine pu_of (by decide) (Nat.le_of_ble_eq_true rfl) ?_
  intro h hT hp p e s m args below meth c cx
  obtain ⟨ha, hlrq, hw, hQ⟩ := hp
  have hwt := hw.1
  obtain ⟨la0, lr0, tr0, tn0, he0, hla0, hlr0, htr0, htn0, hlq0, hlaq0⟩ := TP.o (κ := 1) hT ha
  obtain ⟨-, hbb⟩ := TP.n26 hT hlr0
  have hl0 : lr0 = lr := Eq.trans hlq0 hlrq
  have hLs : LsK D K h lr0 26 (S 0 0) rz := by rw [hl0]; exact hQ.1.1
  have hnr : (K lr0).2.2 = S 0 0 := hLs.2.1
  have lp : ∀ (n0 j : Nat), (K lr0).2.2 - j < n0 → j ≤ (K lr0).2.2 → (∀ t, t < j → ¬ RSam S t n cd) → G p l e (rmT 6 0 0) s m args below meth c 3 D z0 (EE z0 k) (PUQ h (fun v _ => (v = some .null ∧ RNo S n cd) ∨ ∃ y j, v = some (.ref y) ∧ y = rz j ∧ RFst S n cd j)) 0 0 2 [(2, .int (nI j)), (0, .ref a), (1, .ref w)] [] h 0 0 := by
    intro n0
    induction n0 with
    | zero => intro j hj; exact absurd hj (Nat.not_lt_zero _)
    | succ n0 ih =>
      intro j hj0 hjn0 hall
      refine g_iload_n cx 0 d_1_20_2 rfl rfl ?_
      refine g_aload_n cx 1 d_1_20_3 rfl rfl ?_
      refine g_getf cx (k := 2) d_1_20_4 in0 rfl (by decide) t_98 (Or.inl rfl) ha.1 he0 rfl ?_
      obtain ⟨⟨ea7, mo7, hm7, hl7⟩, hb7⟩ := TP.n26 hT hlr0
      refine g_pcV cx (As := []) (n := 0) (pj_size (n := (K lr0).2.2)) d_1_20_7 t_235 t_236 t_237 t_8 t_238 ⟨by decide, by decide, by decide +kernel⟩ rfl (ci := 2) rfl hm7 hl7 ⟨ea7, mo7, hm7, hl7⟩ ⟨Nat.le_of_ble_eq_true rfl, Nat.le_of_ble_eq_true rfl⟩ (Nat.le_of_ble_eq_true rfl) (fun v7 r7 => ?_)
      subst r7
      refine g_icmp_ge cx d_1_20_10 rfl (fun c10 => ?_) (fun c10 => ?_)
      · skip
        have hge : S 0 0 ≤ j := by have := (nI_leI (by omega) (by omega)).mp c10; omega
        refine g_null cx d_1_20_69 ?_
        exact g_aret cx d_1_20_70 rfl (Or.inl ⟨_, rfl⟩) (Or.inl rfl) ⟨rfl, _, rfl, Or.inl ⟨rfl, fun t ht => hall t (by omega)⟩⟩
      · skip
        have hj : j < (K lr0).2.2 := Nat.lt_of_not_le (fun q => c10 (nI_le q (by omega)))
        have hjn : j < S 0 0 := by omega
        refine g_aload_n cx 1 d_1_20_13 rfl rfl ?_
        refine g_getf cx (k := 2) d_1_20_14 in0 rfl (by decide) t_98 (Or.inl rfl) ha.1 he0 rfl ?_
        refine g_iload_n cx 0 d_1_20_17 rfl rfl ?_
        obtain ⟨⟨ea18, mo18, hm18, hl18⟩, hb18⟩ := TP.n26 hT hlr0
        refine g_callV cx (As := [.int (nI j)]) (n := 1) (gj_getF (K := K) (B := B) (T := T) (ce := 6) (j := j) (mm := (S 0 0)) (es := rz) (by decide) hB) d_1_20_18 t_239 t_240 t_241 t_8 t_242 ⟨by decide, by decide, by decide +kernel⟩ rfl (ci := 2) rfl hm18 hl18 ⟨rfl, hT, hlr0, hj, hLs.ls, hjn⟩ ⟨Nat.le_of_ble_eq_true rfl, Nat.le_of_ble_eq_true rfl⟩ (Nat.le_of_ble_eq_true rfl) ⟨Nat.zero_le _, Nat.zero_le _⟩ (fun v18 h r18 => ?_) (fun x18 h r18 => by obtain ⟨-, e9, -⟩ := r18; cases e9)
        obtain ⟨rfl, e18, hy18⟩ := r18
        obtain ⟨y18, hq18⟩ : ∃ y, y = rz j := ⟨_, rfl⟩
        rw [← hq18] at e18 hy18
        cases e18
        replace hy18 : Ty K h 6 y18 := hy18
        obtain ⟨n21, b121, b221, b321, w21, lo21, im21, fi21, pa21, he21, hw21, hlo21, him21, hfi21, hpa21, hwq21⟩ := TP.o (κ := 6) hT hy18
        obtain ⟨nw21, hw21⟩ : ∃ n, Tw k K h w21 n := ⟨_, Tx.tx hw21⟩
        refine g_ccast cx (ci := 6) d_1_20_21 t_251 rfl hy18.1 he21 ?_
        refine g_getf cx (k := 7) d_1_20_24 in6 rfl (by decide) t_743 (Or.inl rfl) hy18.1 he21 rfl ?_
        refine g_if_ne cx d_1_20_27 rfl (fun c27 => ?_) (fun c27 => ?_)
        · skip
          have hb2 : b221 = nI ((K y18).2.2 % 2) := hwq21.2.1
          have hgo : ¬ S 3 j = 0 := fun z => c27 (by rw [hb2, hq18, (hQ.1.2.1 j hjn).2.2.2, z]; rfl)
          have hnj : ¬ RSam S j n cd := by
            first
              | exact fun q => hgo q.1
              | exact fun q => hce q.2
          refine g_iinc cx 0 (lv' := [(2, .int (nI (j + 1))), (0, .ref a), (1, .ref w)]) d_1_20_63 rfl (inc1 j) (by decide) rfl ?_
          refine g_goto cx d_1_20_66 rfl ?_
          exact ih (j + 1) (by omega) (by omega) (fun t ht => (Nat.lt_or_ge t j).elim (hall t) (fun q => by rw [show t = j by omega]; exact hnj))
        · skip
          have hb2 : b221 = nI ((K y18).2.2 % 2) := hwq21.2.1
          have hb3 : (K y18).2.2 % 2 < 2 := Nat.mod_lt _ (by decide)
          have hgo : S 3 j = 0 := by
            rw [hq18, (hQ.1.2.1 j hjn).2.2.2] at hb2 hb3
            exact (nI_eq (b := 0) (by omega) (by decide)).mp (hb2.symm.trans c27)
          refine g_aload_n cx 1 d_1_20_30 rfl rfl ?_
          refine g_getf cx (k := 2) d_1_20_31 in0 rfl (by decide) t_98 (Or.inl rfl) ha.1 he0 rfl ?_
          refine g_iload_n cx 0 d_1_20_34 rfl rfl ?_
          obtain ⟨⟨ea35, mo35, hm35, hl35⟩, hb35⟩ := TP.n26 hT hlr0
          refine g_callV cx (As := [.int (nI j)]) (n := 1) (gj_getF (K := K) (B := B) (T := T) (ce := 6) (j := j) (mm := (S 0 0)) (es := rz) (by decide) hB) d_1_20_35 t_239 t_240 t_241 t_8 t_242 ⟨by decide, by decide, by decide +kernel⟩ rfl (ci := 2) rfl hm35 hl35 ⟨rfl, hT, hlr0, hj, hLs.ls, hjn⟩ ⟨Nat.le_of_ble_eq_true rfl, Nat.le_of_ble_eq_true rfl⟩ (Nat.le_of_ble_eq_true rfl) ⟨Nat.zero_le _, Nat.zero_le _⟩ (fun v35 h r35 => ?_) (fun x35 h r35 => by obtain ⟨-, e9, -⟩ := r35; cases e9)
          obtain ⟨rfl, e35, hy35⟩ := r35
          obtain ⟨y35, hq35⟩ : ∃ y, y = rz j := ⟨_, rfl⟩
          rw [← hq35] at e35 hy35
          cases e35
          replace hy35 : Ty K h 6 y35 := hy35
          obtain ⟨n38, b138, b238, b338, w38, lo38, im38, fi38, pa38, he38, hw38, hlo38, him38, hfi38, hpa38, hwq38⟩ := TP.o (κ := 6) hT hy35
          obtain ⟨nw38, hw38⟩ : ∃ n, Tw k K h w38 n := ⟨_, Tx.tx hw38⟩
          refine g_ccast cx (ci := 6) d_1_20_38 t_251 rfl hy35.1 he38 ?_
          refine g_getf cx (k := 1) d_1_20_41 in6 rfl (by decide) t_731 (Or.inl rfl) hy35.1 he38 rfl ?_
          refine g_aload_n cx 2 d_1_20_44 rfl rfl ?_
          have hr45 : Tc k K h w38 (S 1 j) (S 2 j) := by
            rw [show w38 = (K y35).2.1 from hwq38.1, hq35]
            exact (hQ.1.2.1 j hjn).2.1
          have hm45 : w38 ∈ h.1 := Tc.mem hT hr45 (hQ.1.2.1 j hjn).2.2.1.1
          obtain ⟨va45, hsa45, hba45, -⟩ := Tc.byt hT hr45
          obtain ⟨vb45, hsb45, hbb45, -⟩ := Tc.byt hT hw
          refine g_pcVS cx (As := [.ref w]) (n := 1) (pj_eqF (n := S 1 j) (n' := n) (cd := S 2 j) (ce := cd)) d_1_20_45 t_491 t_492 t_493 t_4 t_494 rfl (by decide +kernel) rfl hsa45 ⟨⟨hm45, hT.2.2.2.1⟩, ⟨_, hsa45, hba45⟩, ⟨_, hsb45, hbb45⟩⟩ ⟨Nat.le_of_ble_eq_true rfl, Nat.le_of_ble_eq_true rfl⟩ (Nat.le_of_ble_eq_true rfl) (fun v45 r45 => ?_)
          obtain ⟨x45, rfl, xb45⟩ := r45
          refine g_if_eq cx d_1_20_48 rfl (fun c48 => ?_) (fun c48 => ?_)
          · skip
            have hce : ¬ CE (S 1 j) n (S 2 j) cd := by
              rcases xb45 with z | z
              · exact absurd c48 (by rw [z.1]; decide)
              · exact z.2
            have hnj : ¬ RSam S j n cd := by
              first
                | exact fun q => hgo q.1
                | exact fun q => hce q.2
            refine g_iinc cx 0 (lv' := [(2, .int (nI (j + 1))), (0, .ref a), (1, .ref w)]) d_1_20_63 rfl (inc1 j) (by decide) rfl ?_
            refine g_goto cx d_1_20_66 rfl ?_
            exact ih (j + 1) (by omega) (by omega) (fun t ht => (Nat.lt_or_ge t j).elim (hall t) (fun q => by rw [show t = j by omega]; exact hnj))
          · skip
            have hce : CE (S 1 j) n (S 2 j) cd := by
              rcases xb45 with z | z
              · exact z.2
              · exact absurd z.1 c48
            refine g_aload_n cx 1 d_1_20_51 rfl rfl ?_
            refine g_getf cx (k := 2) d_1_20_52 in0 rfl (by decide) t_98 (Or.inl rfl) ha.1 he0 rfl ?_
            refine g_iload_n cx 0 d_1_20_55 rfl rfl ?_
            obtain ⟨⟨ea56, mo56, hm56, hl56⟩, hb56⟩ := TP.n26 hT hlr0
            refine g_callV cx (As := [.int (nI j)]) (n := 1) (gj_getF (K := K) (B := B) (T := T) (ce := 6) (j := j) (mm := (S 0 0)) (es := rz) (by decide) hB) d_1_20_56 t_239 t_240 t_241 t_8 t_242 ⟨by decide, by decide, by decide +kernel⟩ rfl (ci := 2) rfl hm56 hl56 ⟨rfl, hT, hlr0, hj, hLs.ls, hjn⟩ ⟨Nat.le_of_ble_eq_true rfl, Nat.le_of_ble_eq_true rfl⟩ (Nat.le_of_ble_eq_true rfl) ⟨Nat.zero_le _, Nat.zero_le _⟩ (fun v56 h r56 => ?_) (fun x56 h r56 => by obtain ⟨-, e9, -⟩ := r56; cases e9)
            obtain ⟨rfl, e56, hy56⟩ := r56
            obtain ⟨y56, hq56⟩ : ∃ y, y = rz j := ⟨_, rfl⟩
            rw [← hq56] at e56 hy56
            cases e56
            replace hy56 : Ty K h 6 y56 := hy56
            obtain ⟨n59, b159, b259, b359, w59, lo59, im59, fi59, pa59, he59, hw59, hlo59, him59, hfi59, hpa59, hwq59⟩ := TP.o (κ := 6) hT hy56
            obtain ⟨nw59, hw59⟩ : ∃ n, Tw k K h w59 n := ⟨_, Tx.tx hw59⟩
            refine g_ccast cx (ci := 6) d_1_20_59 t_251 rfl hy56.1 he59 ?_
            exact g_aret cx d_1_20_62 rfl (Or.inl ⟨_, rfl⟩) (Or.inr ⟨_, rfl⟩) ⟨rfl, _, rfl, Or.inr ⟨_, j, rfl, hq56, hjn, ⟨hgo, hce⟩, hall⟩⟩
  refine g_iconst cx (v := 0) d_1_20_0 (by decide) ?_
  refine g_topi (fun j0 ej0 => ?_)
  obtain rfl : j0 = nI 0 := ej0
  refine g_istore_n cx (lv' := [(2, .int (nI 0)), (0, .ref a), (1, .ref w)]) d_1_20_1 rfl (by decide) rfl ?_
  exact lp ((K lr0).2.2 + 1) 0 (by omega) (Nat.zero_le _) (fun t ht => absurd ht (Nat.not_lt_zero _))
set_option maxHeartbeats 8000000 in
theorem pt_isThereF {a lr : Nat} {S : SL} {rz az nt : Nat → Nat} {v0 : Int32} (hB : B < 2 ^ 20) : PU l y_41 prog_1_method_17_code 2 (Option.some Jvm.ClassFile.FieldType.boolean) 6 D z0 k [.ref a, .int v0] K B T (fun h => Ty K h 1 a ∧ (K a).2.2 = lr ∧ CQ D k K h lr S rz az nt) (fun v _ => ∃ x : Int32, v = some (.int x) ∧ ((x = 1 ∧ ∃ t, t < S 0 0 ∧ v0 = nI t ∧ S 3 t = 0) ∨ (x = 0 ∧ ∀ t, t < S 0 0 → v0 = nI t → ¬ S 3 t = 0))) := by
  refine pu_of (by decide) (Nat.le_of_ble_eq_true rfl) ?_
  intro h hT hp p e s m args below meth c cx
  obtain ⟨ha, hlrq, hQ⟩ := hp
  obtain ⟨la0, lr0, tr0, tn0, he0, hla0, hlr0, htr0, htn0, hlq0, hlaq0⟩ := TP.o (κ := 1) hT ha
  obtain ⟨-, hbb⟩ := TP.n26 hT hlr0
  have hl0 : lr0 = lr := Eq.trans hlq0 hlrq
  have hLs : LsK D K h lr0 26 (S 0 0) rz := by rw [hl0]; exact hQ.1.1
  have hnr : (K lr0).2.2 = S 0 0 := hLs.2.1
  refine g_iload_n cx 1 d_1_17_0 rfl rfl ?_
  refine g_if_lt cx d_1_17_1 rfl (fun c1 => ?_) (fun c1 => ?_)
  · skip
    have hno : ∀ t, t < S 0 0 → v0 = nI t → ¬ S 3 t = 0 := fun t ht z => absurd c1 (by rw [z]; exact nI_pos (by omega))
    refine g_iconst cx (v := 0) d_1_17_36 (by decide) ?_
    exact g_iret cx d_1_17_37 rfl rfl ⟨rfl, _, rfl, _, rfl, Or.inr ⟨rfl, hno⟩⟩
  · skip
    obtain ⟨j, hj31, hv0⟩ := nI_of c1
    refine g_iload_n cx 1 d_1_17_4 rfl rfl ?_
    refine g_aload_n cx 0 d_1_17_5 rfl rfl ?_
    refine g_getf cx (k := 2) d_1_17_6 in0 rfl (by decide) t_98 (Or.inl rfl) ha.1 he0 rfl ?_
    obtain ⟨⟨ea9, mo9, hm9, hl9⟩, hb9⟩ := TP.n26 hT hlr0
    refine g_pcV cx (As := []) (n := 0) (pj_size (n := (K lr0).2.2)) d_1_17_9 t_235 t_236 t_237 t_8 t_238 ⟨by decide, by decide, by decide +kernel⟩ rfl (ci := 2) rfl hm9 hl9 ⟨ea9, mo9, hm9, hl9⟩ ⟨Nat.le_of_ble_eq_true rfl, Nat.le_of_ble_eq_true rfl⟩ (Nat.le_of_ble_eq_true rfl) (fun v9 r9 => ?_)
    subst r9
    refine g_icmp_ge cx d_1_17_12 rfl (fun c12 => ?_) (fun c12 => ?_)
    · skip
      have hno : ∀ t, t < S 0 0 → v0 = nI t → ¬ S 3 t = 0 := fun t ht z => absurd c12 (by rw [z]; exact nI_ge (by omega) (by omega))
      refine g_iconst cx (v := 0) d_1_17_36 (by decide) ?_
      exact g_iret cx d_1_17_37 rfl rfl ⟨rfl, _, rfl, _, rfl, Or.inr ⟨rfl, hno⟩⟩
    · skip
      have hj : j < (K lr0).2.2 := Nat.lt_of_not_le (fun q => c12 (by rw [hv0]; exact nI_le q hj31))
      have hjn : j < S 0 0 := by omega
      subst hv0
      refine g_aload_n cx 0 d_1_17_15 rfl rfl ?_
      refine g_getf cx (k := 2) d_1_17_16 in0 rfl (by decide) t_98 (Or.inl rfl) ha.1 he0 rfl ?_
      refine g_iload_n cx 1 d_1_17_19 rfl rfl ?_
      obtain ⟨⟨ea20, mo20, hm20, hl20⟩, hb20⟩ := TP.n26 hT hlr0
      refine g_callV cx (As := [.int (nI j)]) (n := 1) (gj_getF (K := K) (B := B) (T := T) (ce := 6) (j := j) (mm := (S 0 0)) (es := rz) (by decide) hB) d_1_17_20 t_239 t_240 t_241 t_8 t_242 ⟨by decide, by decide, by decide +kernel⟩ rfl (ci := 2) rfl hm20 hl20 ⟨rfl, hT, hlr0, hj, hLs.ls, hjn⟩ ⟨Nat.le_of_ble_eq_true rfl, Nat.le_of_ble_eq_true rfl⟩ (Nat.le_of_ble_eq_true rfl) ⟨Nat.zero_le _, Nat.zero_le _⟩ (fun v20 h r20 => ?_) (fun x20 h r20 => by obtain ⟨-, e9, -⟩ := r20; cases e9)
      obtain ⟨rfl, e20, hy20⟩ := r20
      obtain ⟨y20, hq20⟩ : ∃ y, y = rz j := ⟨_, rfl⟩
      rw [← hq20] at e20 hy20
      cases e20
      replace hy20 : Ty K h 6 y20 := hy20
      obtain ⟨n23, b123, b223, b323, w23, lo23, im23, fi23, pa23, he23, hw23, hlo23, him23, hfi23, hpa23, hwq23⟩ := TP.o (κ := 6) hT hy20
      obtain ⟨nw23, hw23⟩ : ∃ n, Tw k K h w23 n := ⟨_, Tx.tx hw23⟩
      refine g_ccast cx (ci := 6) d_1_17_23 t_251 rfl hy20.1 he23 ?_
      refine g_getf cx (k := 7) d_1_17_26 in6 rfl (by decide) t_743 (Or.inl rfl) hy20.1 he23 rfl ?_
      refine g_if_ne cx d_1_17_29 rfl (fun c29 => ?_) (fun c29 => ?_)
      · skip
        have hb2 : b223 = nI ((K y20).2.2 % 2) := hwq23.2.1
        have hno : ∀ t, t < S 0 0 → nI j = nI t → ¬ S 3 t = 0 := fun t ht z => by
          have e9 : t = j := ((nI_eq (by omega) (by omega)).mp z).symm
          rw [e9]
          exact fun z2 => c29 (by rw [hb2, hq20, (hQ.1.2.1 j hjn).2.2.2, z2]; rfl)
        refine g_iconst cx (v := 0) d_1_17_36 (by decide) ?_
        exact g_iret cx d_1_17_37 rfl rfl ⟨rfl, _, rfl, _, rfl, Or.inr ⟨rfl, hno⟩⟩
      · skip
        have hb2 : b223 = nI ((K y20).2.2 % 2) := hwq23.2.1
        have hb3 : (K y20).2.2 % 2 < 2 := Nat.mod_lt _ (by decide)
        have hgo : S 3 j = 0 := by
          rw [hq20, (hQ.1.2.1 j hjn).2.2.2] at hb2 hb3
          exact (nI_eq (b := 0) (by omega) (by decide)).mp (hb2.symm.trans c29)
        refine g_iconst cx (v := 1) d_1_17_32 (by decide) ?_
        refine g_goto cx d_1_17_33 rfl ?_
        exact g_iret cx d_1_17_37 rfl rfl ⟨rfl, _, rfl, _, rfl, Or.inl ⟨rfl, j, hjn, rfl, hgo⟩⟩
set_option maxHeartbeats 8000000 in
theorem pt_archiveWithF {a w n cd lr : Nat} {S : SL} {rz az nt : Nat → Nat} (hB : B < 2 ^ 20) : PU l y_126 prog_1_method_19_code 3 (Option.some (Jvm.ClassFile.FieldType.object "RealmDesk$Archive")) 6 D z0 k [.ref a, .ref w] K B T (fun h => Ty K h 1 a ∧ (K a).2.2 = lr ∧ Tc k K h w n cd ∧ CQ D k K h lr S rz az nt) (fun v _ => (v = some .null ∧ ANo S n cd) ∨ ∃ y j, v = some (.ref y) ∧ y = az j ∧ AFst S n cd j) := by
  refine pu_of (by decide) (Nat.le_of_ble_eq_true rfl) ?_
  intro h hT hp p e s m args below meth c cx
  obtain ⟨ha, hlrq, hw, hQ⟩ := hp
  have hwt := hw.1
  obtain ⟨la0, lr0, tr0, tn0, he0, hla0, hlr0, htr0, htn0, hlq0, hlaq0⟩ := TP.o (κ := 1) hT ha
  obtain ⟨-, hbb⟩ := TP.n25 hT hla0
  have hl0 : lr0 = lr := Eq.trans hlq0 hlrq
  have hLs : LsK D K h la0 25 (S 4 0) az := by rw [hlaq0, hl0]; exact hQ.2.1.1
  have hnr : (K la0).2.2 = S 4 0 := hLs.2.1
  have lp : ∀ (n0 j : Nat), (K la0).2.2 - j < n0 → j ≤ (K la0).2.2 → (∀ t, t < j → ¬ CE (S 5 t) n (S 6 t) cd) → G p l e (rmT 6 0 0) s m args below meth c 3 D z0 (EE z0 k) (PUQ h (fun v _ => (v = some .null ∧ ANo S n cd) ∨ ∃ y j, v = some (.ref y) ∧ y = az j ∧ AFst S n cd j)) 0 0 2 [(2, .int (nI j)), (0, .ref a), (1, .ref w)] [] h 0 0 := by
    intro n0
    induction n0 with
    | zero => intro j hj; exact absurd hj (Nat.not_lt_zero _)
    | succ n0 ih =>
      intro j hj0 hjn0 hall
      refine g_iload_n cx 0 d_1_19_2 rfl rfl ?_
      refine g_aload_n cx 1 d_1_19_3 rfl rfl ?_
      refine g_getf cx (k := 1) d_1_19_4 in0 rfl (by decide) t_97 (Or.inl rfl) ha.1 he0 rfl ?_
      obtain ⟨⟨ea7, mo7, hm7, hl7⟩, hb7⟩ := TP.n25 hT hla0
      refine g_pcV cx (As := []) (n := 0) (pj_size (n := (K la0).2.2)) d_1_19_7 t_235 t_236 t_237 t_8 t_238 ⟨by decide, by decide, by decide +kernel⟩ rfl (ci := 2) rfl hm7 hl7 ⟨ea7, mo7, hm7, hl7⟩ ⟨Nat.le_of_ble_eq_true rfl, Nat.le_of_ble_eq_true rfl⟩ (Nat.le_of_ble_eq_true rfl) (fun v7 r7 => ?_)
      subst r7
      refine g_icmp_ge cx d_1_19_10 rfl (fun c10 => ?_) (fun c10 => ?_)
      · skip
        have hge : S 4 0 ≤ j := by have := (nI_leI (by omega) (by omega)).mp c10; omega
        refine g_null cx d_1_19_52 ?_
        exact g_aret cx d_1_19_53 rfl (Or.inl ⟨_, rfl⟩) (Or.inl rfl) ⟨rfl, _, rfl, Or.inl ⟨rfl, fun t ht => hall t (by omega)⟩⟩
      · skip
        have hj : j < (K la0).2.2 := Nat.lt_of_not_le (fun q => c10 (nI_le q (by omega)))
        have hjn : j < S 4 0 := by omega
        refine g_aload_n cx 1 d_1_19_13 rfl rfl ?_
        refine g_getf cx (k := 1) d_1_19_14 in0 rfl (by decide) t_97 (Or.inl rfl) ha.1 he0 rfl ?_
        refine g_iload_n cx 0 d_1_19_17 rfl rfl ?_
        obtain ⟨⟨ea18, mo18, hm18, hl18⟩, hb18⟩ := TP.n25 hT hla0
        refine g_callV cx (As := [.int (nI j)]) (n := 1) (gj_getF (K := K) (B := B) (T := T) (ce := 5) (j := j) (mm := (S 4 0)) (es := az) (by decide) hB) d_1_19_18 t_239 t_240 t_241 t_8 t_242 ⟨by decide, by decide, by decide +kernel⟩ rfl (ci := 2) rfl hm18 hl18 ⟨rfl, hT, hla0, hj, hLs.ls, hjn⟩ ⟨Nat.le_of_ble_eq_true rfl, Nat.le_of_ble_eq_true rfl⟩ (Nat.le_of_ble_eq_true rfl) ⟨Nat.zero_le _, Nat.zero_le _⟩ (fun v18 h r18 => ?_) (fun x18 h r18 => by obtain ⟨-, e9, -⟩ := r18; cases e9)
        obtain ⟨rfl, e18, hy18⟩ := r18
        obtain ⟨y18, hq18⟩ : ∃ y, y = az j := ⟨_, rfl⟩
        rw [← hq18] at e18 hy18
        cases e18
        replace hy18 : Ty K h 5 y18 := hy18
        obtain ⟨n21, t21, w21, l21, he21, hw21, hl21, hwq21⟩ := TP.o (κ := 5) hT hy18
        obtain ⟨nw21, hw21⟩ : ∃ n, Tw k K h w21 n := ⟨_, Tx.tx hw21⟩
        refine g_ccast cx (ci := 5) d_1_19_21 t_256 rfl hy18.1 he21 ?_
        refine g_getf cx (k := 1) d_1_19_24 in5 rfl (by decide) t_682 (Or.inl rfl) hy18.1 he21 rfl ?_
        refine g_aload_n cx 2 d_1_19_27 rfl rfl ?_
        have hr28 : Tc k K h w21 (S 5 j) (S 6 j) := by
          rw [show w21 = (K y18).2.1 from hwq21.1, hq18]
          exact (hQ.2.1.2.1 j hjn).2.1
        have hm28 : w21 ∈ h.1 := Tc.mem hT hr28 (hQ.2.1.2.1 j hjn).2.2.1
        obtain ⟨va28, hsa28, hba28, -⟩ := Tc.byt hT hr28
        obtain ⟨vb28, hsb28, hbb28, -⟩ := Tc.byt hT hw
        refine g_pcVS cx (As := [.ref w]) (n := 1) (pj_eqF (n := S 5 j) (n' := n) (cd := S 6 j) (ce := cd)) d_1_19_28 t_491 t_492 t_493 t_4 t_494 rfl (by decide +kernel) rfl hsa28 ⟨⟨hm28, hT.2.2.2.1⟩, ⟨_, hsa28, hba28⟩, ⟨_, hsb28, hbb28⟩⟩ ⟨Nat.le_of_ble_eq_true rfl, Nat.le_of_ble_eq_true rfl⟩ (Nat.le_of_ble_eq_true rfl) (fun v28 r28 => ?_)
        obtain ⟨x28, rfl, xb28⟩ := r28
        refine g_if_eq cx d_1_19_31 rfl (fun c31 => ?_) (fun c31 => ?_)
        · skip
          have hce : ¬ CE (S 5 j) n (S 6 j) cd := by
            rcases xb28 with z | z
            · exact absurd c31 (by rw [z.1]; decide)
            · exact z.2
          refine g_iinc cx 0 (lv' := [(2, .int (nI (j + 1))), (0, .ref a), (1, .ref w)]) d_1_19_46 rfl (inc1 j) (by decide) rfl ?_
          refine g_goto cx d_1_19_49 rfl ?_
          exact ih (j + 1) (by omega) (by omega) (fun t ht => (Nat.lt_or_ge t j).elim (hall t) (fun q => by rw [show t = j by omega]; exact hce))
        · skip
          have hce : CE (S 5 j) n (S 6 j) cd := by
            rcases xb28 with z | z
            · exact z.2
            · exact absurd z.1 c31
          refine g_aload_n cx 1 d_1_19_34 rfl rfl ?_
          refine g_getf cx (k := 1) d_1_19_35 in0 rfl (by decide) t_97 (Or.inl rfl) ha.1 he0 rfl ?_
          refine g_iload_n cx 0 d_1_19_38 rfl rfl ?_
          obtain ⟨⟨ea39, mo39, hm39, hl39⟩, hb39⟩ := TP.n25 hT hla0
          refine g_callV cx (As := [.int (nI j)]) (n := 1) (gj_getF (K := K) (B := B) (T := T) (ce := 5) (j := j) (mm := (S 4 0)) (es := az) (by decide) hB) d_1_19_39 t_239 t_240 t_241 t_8 t_242 ⟨by decide, by decide, by decide +kernel⟩ rfl (ci := 2) rfl hm39 hl39 ⟨rfl, hT, hla0, hj, hLs.ls, hjn⟩ ⟨Nat.le_of_ble_eq_true rfl, Nat.le_of_ble_eq_true rfl⟩ (Nat.le_of_ble_eq_true rfl) ⟨Nat.zero_le _, Nat.zero_le _⟩ (fun v39 h r39 => ?_) (fun x39 h r39 => by obtain ⟨-, e9, -⟩ := r39; cases e9)
          obtain ⟨rfl, e39, hy39⟩ := r39
          obtain ⟨y39, hq39⟩ : ∃ y, y = az j := ⟨_, rfl⟩
          rw [← hq39] at e39 hy39
          cases e39
          replace hy39 : Ty K h 5 y39 := hy39
          obtain ⟨n42, t42, w42, l42, he42, hw42, hl42, hwq42⟩ := TP.o (κ := 5) hT hy39
          obtain ⟨nw42, hw42⟩ : ∃ n, Tw k K h w42 n := ⟨_, Tx.tx hw42⟩
          refine g_ccast cx (ci := 5) d_1_19_42 t_256 rfl hy39.1 he42 ?_
          exact g_aret cx d_1_19_45 rfl (Or.inl ⟨_, rfl⟩) (Or.inr ⟨_, rfl⟩) ⟨rfl, _, rfl, Or.inr ⟨_, j, rfl, hq39, hjn, hce, hall⟩⟩
  refine g_iconst cx (v := 0) d_1_19_0 (by decide) ?_
  refine g_topi (fun j0 ej0 => ?_)
  obtain rfl : j0 = nI 0 := ej0
  refine g_istore_n cx (lv' := [(2, .int (nI 0)), (0, .ref a), (1, .ref w)]) d_1_19_1 rfl (by decide) rfl ?_
  exact lp ((K la0).2.2 + 1) 0 (by omega) (Nat.zero_le _) (fun t ht => absurd ht (Nat.not_lt_zero _))
set_option maxHeartbeats 8000000 in
theorem pt_latestArchiveF {a lr : Nat} {S : SL} {rz az nt : Nat → Nat} (hB : B < 2 ^ 20) : PU l y_129 prog_1_method_21_code 1 (Option.some (Jvm.ClassFile.FieldType.object "RealmDesk$Archive")) 6 D z0 k [.ref a] K B T (fun h => Ty K h 1 a ∧ (K a).2.2 = lr ∧ CQ D k K h lr S rz az nt) (fun v _ => (v = some .null ∧ S 4 0 = 0) ∨ ∃ y, v = some (.ref y) ∧ y = az (S 4 0 - 1) ∧ 0 < S 4 0) := by
  refine pu_of (by decide) (Nat.le_of_ble_eq_true rfl) ?_
  intro h hT hp p e s m args below meth c cx
  obtain ⟨ha, hlrq, hQ⟩ := hp
  obtain ⟨la0, lr0, tr0, tn0, he0, hla0, hlr0, htr0, htn0, hlq0, hlaq0⟩ := TP.o (κ := 1) hT ha
  obtain ⟨-, hbb⟩ := TP.n25 hT hla0
  have hl0 : lr0 = lr := Eq.trans hlq0 hlrq
  have hLs : LsK D K h la0 25 (S 4 0) az := by rw [hlaq0, hl0]; exact hQ.2.1.1
  have hnr : (K la0).2.2 = S 4 0 := hLs.2.1
  refine g_aload_n cx 0 d_1_21_0 rfl rfl ?_
  refine g_getf cx (k := 1) d_1_21_1 in0 rfl (by decide) t_97 (Or.inl rfl) ha.1 he0 rfl ?_
  obtain ⟨⟨ea4, mo4, hm4, hl4⟩, hb4⟩ := TP.n25 hT hla0
  refine g_pcV cx (As := []) (n := 0) (pj_isEmpty (n := (K la0).2.2) (by omega)) d_1_21_4 t_637 t_638 t_639 t_8 t_640 ⟨by decide, by decide, by decide +kernel⟩ rfl (ci := 2) rfl hm4 hl4 ⟨ea4, mo4, hm4, hl4⟩ ⟨Nat.le_of_ble_eq_true rfl, Nat.le_of_ble_eq_true rfl⟩ (Nat.le_of_ble_eq_true rfl) (fun v4 r4 => ?_)
  obtain ⟨x4, rfl, xe4⟩ : ∃ x : Int32, v4 = some (.int x) ∧ (((K la0).2.2 = 0 ∧ x = 1) ∨ (0 < (K la0).2.2 ∧ x = 0)) := r4.elim (fun z => ⟨1, z.2, Or.inl ⟨z.1, rfl⟩⟩) (fun z => ⟨0, z.2, Or.inr ⟨z.1, rfl⟩⟩)
  refine g_if_eq cx d_1_21_7 rfl (fun c7 => ?_) (fun c7 => ?_)
  · skip
    have hpos : 0 < (K la0).2.2 := by
      rcases xe4 with z | z
      · rw [z.2] at c7
        exact absurd c7 (by decide)
      · exact z.1
    refine g_aload_n cx 0 d_1_21_14 rfl rfl ?_
    refine g_getf cx (k := 1) d_1_21_15 in0 rfl (by decide) t_97 (Or.inl rfl) ha.1 he0 rfl ?_
    refine g_aload_n cx 0 d_1_21_18 rfl rfl ?_
    refine g_getf cx (k := 1) d_1_21_19 in0 rfl (by decide) t_97 (Or.inl rfl) ha.1 he0 rfl ?_
    obtain ⟨⟨ea22, mo22, hm22, hl22⟩, hb22⟩ := TP.n25 hT hla0
    refine g_pcV cx (As := []) (n := 0) (pj_size (n := (K la0).2.2)) d_1_21_22 t_235 t_236 t_237 t_8 t_238 ⟨by decide, by decide, by decide +kernel⟩ rfl (ci := 2) rfl hm22 hl22 ⟨ea22, mo22, hm22, hl22⟩ ⟨Nat.le_of_ble_eq_true rfl, Nat.le_of_ble_eq_true rfl⟩ (Nat.le_of_ble_eq_true rfl) (fun v22 r22 => ?_)
    subst r22
    refine g_iconst cx (v := 1) d_1_21_25 (by decide) ?_
    refine g_isub cx d_1_21_26 ?_
    refine g_topi (fun m26 em26 => ?_)
    obtain rfl : m26 = nI ((K la0).2.2 - 1) := em26.trans (pk_sub hpos)
    obtain ⟨⟨ea27, mo27, hm27, hl27⟩, hb27⟩ := TP.n25 hT hla0
    refine g_callV cx (As := [.int (nI ((K la0).2.2 - 1))]) (n := 1) (gj_getF (K := K) (B := B) (T := T) (ce := 5) (j := (K la0).2.2 - 1) (mm := (S 4 0)) (es := az) (by decide) hB) d_1_21_27 t_239 t_240 t_241 t_8 t_242 ⟨by decide, by decide, by decide +kernel⟩ rfl (ci := 2) rfl hm27 hl27 ⟨rfl, hT, hla0, (by omega), hLs.ls, (by omega)⟩ ⟨Nat.le_of_ble_eq_true rfl, Nat.le_of_ble_eq_true rfl⟩ (Nat.le_of_ble_eq_true rfl) ⟨Nat.zero_le _, Nat.zero_le _⟩ (fun v27 h r27 => ?_) (fun x27 h r27 => by obtain ⟨-, e9, -⟩ := r27; cases e9)
    obtain ⟨rfl, e27, hy27⟩ := r27
    obtain ⟨y27, hq27⟩ : ∃ y, y = az ((K la0).2.2 - 1) := ⟨_, rfl⟩
    rw [← hq27] at e27 hy27
    cases e27
    replace hy27 : Ty K h 5 y27 := hy27
    obtain ⟨n30, t30, w30, l30, he30, hw30, hl30, hwq30⟩ := TP.o (κ := 5) hT hy27
    obtain ⟨nw30, hw30⟩ : ∃ n, Tw k K h w30 n := ⟨_, Tx.tx hw30⟩
    refine g_ccast cx (ci := 5) d_1_21_30 t_256 rfl hy27.1 he30 ?_
    exact g_aret cx d_1_21_33 rfl (Or.inl ⟨_, rfl⟩) (Or.inr ⟨_, rfl⟩) ⟨rfl, _, rfl, Or.inr ⟨_, rfl, by rw [hq27, hnr], by omega⟩⟩
  · skip
    have hz : (K la0).2.2 = 0 := by
      rcases xe4 with z | z
      · exact z.1
      · exact absurd z.2 c7
    refine g_null cx d_1_21_10 ?_
    refine g_goto cx d_1_21_11 rfl ?_
    exact g_aret cx d_1_21_33 rfl (Or.inl ⟨_, rfl⟩) (Or.inl rfl) ⟨rfl, _, rfl, Or.inl ⟨rfl, by omega⟩⟩
set_option maxHeartbeats 8000000 in
theorem pt_latestRealmF {a lr : Nat} {S : SL} {rz az nt : Nat → Nat} (hB : B < 2 ^ 20) : PU l y_120 prog_1_method_22_code 1 (Option.some (Jvm.ClassFile.FieldType.object "RealmDesk$Realm")) 6 D z0 k [.ref a] K B T (fun h => Ty K h 1 a ∧ (K a).2.2 = lr ∧ CQ D k K h lr S rz az nt) (fun v _ => (v = some .null ∧ S 0 0 = 0) ∨ ∃ y, v = some (.ref y) ∧ y = rz (S 0 0 - 1) ∧ 0 < S 0 0) := by
  refine pu_of (by decide) (Nat.le_of_ble_eq_true rfl) ?_
  intro h hT hp p e s m args below meth c cx
  obtain ⟨ha, hlrq, hQ⟩ := hp
  obtain ⟨la0, lr0, tr0, tn0, he0, hla0, hlr0, htr0, htn0, hlq0, hlaq0⟩ := TP.o (κ := 1) hT ha
  obtain ⟨-, hbb⟩ := TP.n26 hT hlr0
  have hl0 : lr0 = lr := Eq.trans hlq0 hlrq
  have hLs : LsK D K h lr0 26 (S 0 0) rz := by rw [hl0]; exact hQ.1.1
  have hnr : (K lr0).2.2 = S 0 0 := hLs.2.1
  refine g_aload_n cx 0 d_1_22_0 rfl rfl ?_
  refine g_getf cx (k := 2) d_1_22_1 in0 rfl (by decide) t_98 (Or.inl rfl) ha.1 he0 rfl ?_
  obtain ⟨⟨ea4, mo4, hm4, hl4⟩, hb4⟩ := TP.n26 hT hlr0
  refine g_pcV cx (As := []) (n := 0) (pj_isEmpty (n := (K lr0).2.2) (by omega)) d_1_22_4 t_637 t_638 t_639 t_8 t_640 ⟨by decide, by decide, by decide +kernel⟩ rfl (ci := 2) rfl hm4 hl4 ⟨ea4, mo4, hm4, hl4⟩ ⟨Nat.le_of_ble_eq_true rfl, Nat.le_of_ble_eq_true rfl⟩ (Nat.le_of_ble_eq_true rfl) (fun v4 r4 => ?_)
  obtain ⟨x4, rfl, xe4⟩ : ∃ x : Int32, v4 = some (.int x) ∧ (((K lr0).2.2 = 0 ∧ x = 1) ∨ (0 < (K lr0).2.2 ∧ x = 0)) := r4.elim (fun z => ⟨1, z.2, Or.inl ⟨z.1, rfl⟩⟩) (fun z => ⟨0, z.2, Or.inr ⟨z.1, rfl⟩⟩)
  refine g_if_eq cx d_1_22_7 rfl (fun c7 => ?_) (fun c7 => ?_)
  · skip
    have hpos : 0 < (K lr0).2.2 := by
      rcases xe4 with z | z
      · rw [z.2] at c7
        exact absurd c7 (by decide)
      · exact z.1
    refine g_aload_n cx 0 d_1_22_14 rfl rfl ?_
    refine g_getf cx (k := 2) d_1_22_15 in0 rfl (by decide) t_98 (Or.inl rfl) ha.1 he0 rfl ?_
    refine g_aload_n cx 0 d_1_22_18 rfl rfl ?_
    refine g_getf cx (k := 2) d_1_22_19 in0 rfl (by decide) t_98 (Or.inl rfl) ha.1 he0 rfl ?_
    obtain ⟨⟨ea22, mo22, hm22, hl22⟩, hb22⟩ := TP.n26 hT hlr0
    refine g_pcV cx (As := []) (n := 0) (pj_size (n := (K lr0).2.2)) d_1_22_22 t_235 t_236 t_237 t_8 t_238 ⟨by decide, by decide, by decide +kernel⟩ rfl (ci := 2) rfl hm22 hl22 ⟨ea22, mo22, hm22, hl22⟩ ⟨Nat.le_of_ble_eq_true rfl, Nat.le_of_ble_eq_true rfl⟩ (Nat.le_of_ble_eq_true rfl) (fun v22 r22 => ?_)
    subst r22
    refine g_iconst cx (v := 1) d_1_22_25 (by decide) ?_
    refine g_isub cx d_1_22_26 ?_
    refine g_topi (fun m26 em26 => ?_)
    obtain rfl : m26 = nI ((K lr0).2.2 - 1) := em26.trans (pk_sub hpos)
    obtain ⟨⟨ea27, mo27, hm27, hl27⟩, hb27⟩ := TP.n26 hT hlr0
    refine g_callV cx (As := [.int (nI ((K lr0).2.2 - 1))]) (n := 1) (gj_getF (K := K) (B := B) (T := T) (ce := 6) (j := (K lr0).2.2 - 1) (mm := (S 0 0)) (es := rz) (by decide) hB) d_1_22_27 t_239 t_240 t_241 t_8 t_242 ⟨by decide, by decide, by decide +kernel⟩ rfl (ci := 2) rfl hm27 hl27 ⟨rfl, hT, hlr0, (by omega), hLs.ls, (by omega)⟩ ⟨Nat.le_of_ble_eq_true rfl, Nat.le_of_ble_eq_true rfl⟩ (Nat.le_of_ble_eq_true rfl) ⟨Nat.zero_le _, Nat.zero_le _⟩ (fun v27 h r27 => ?_) (fun x27 h r27 => by obtain ⟨-, e9, -⟩ := r27; cases e9)
    obtain ⟨rfl, e27, hy27⟩ := r27
    obtain ⟨y27, hq27⟩ : ∃ y, y = rz ((K lr0).2.2 - 1) := ⟨_, rfl⟩
    rw [← hq27] at e27 hy27
    cases e27
    replace hy27 : Ty K h 6 y27 := hy27
    obtain ⟨n30, b130, b230, b330, w30, lo30, im30, fi30, pa30, he30, hw30, hlo30, him30, hfi30, hpa30, hwq30⟩ := TP.o (κ := 6) hT hy27
    obtain ⟨nw30, hw30⟩ : ∃ n, Tw k K h w30 n := ⟨_, Tx.tx hw30⟩
    refine g_ccast cx (ci := 6) d_1_22_30 t_251 rfl hy27.1 he30 ?_
    exact g_aret cx d_1_22_33 rfl (Or.inl ⟨_, rfl⟩) (Or.inr ⟨_, rfl⟩) ⟨rfl, _, rfl, Or.inr ⟨_, rfl, by rw [hq27, hnr], by omega⟩⟩
  · skip
    have hz : (K lr0).2.2 = 0 := by
      rcases xe4 with z | z
      · exact z.1
      · exact absurd z.2 c7
    refine g_null cx d_1_22_10 ?_
    refine g_goto cx d_1_22_11 rfl ?_
    exact g_aret cx d_1_22_33 rfl (Or.inl ⟨_, rfl⟩) (Or.inl rfl) ⟨rfl, _, rfl, Or.inl ⟨rfl, by omega⟩⟩
set_option maxHeartbeats 8000000 in
theorem pt_hasF {a w n cd nn : Nat} {nt nl nc : Nat → Nat} (hB : B < 2 ^ 20) : PU l y_131 prog_2_method_2_code 3 (Option.some Jvm.ClassFile.FieldType.boolean) 6 D z0 k [.ref a, .ref w] K B T (fun h => Ty K h 5 a ∧ Tc k K h w n cd ∧ NQz D k K h (K a).2.2 nn nt nl nc) (fun v _ => ∃ x : Int32, v = some (.int x) ∧ ((x = 1 ∧ ¬ ∀ t, t < nn → ¬ CE (nl t) n (nc t) cd) ∨ (x = 0 ∧ ∀ t, t < nn → ¬ CE (nl t) n (nc t) cd))) := by
  refine pu_of (by decide) (Nat.le_of_ble_eq_true rfl) ?_
  intro h hT hp p e s m args below meth c cx
  obtain ⟨ha, hw, hQ⟩ := hp
  have hwt := hw.1
  obtain ⟨n0, t0, w0, l0, he0, hw0, hl0, hwq0⟩ := TP.o (κ := 5) hT ha
  obtain ⟨nw0, hw0⟩ : ∃ n, Tw k K h w0 n := ⟨_, Tx.tx hw0⟩
  obtain ⟨-, hbb⟩ := TP.n23 hT hl0
  have hLs : LsK D K h l0 23 nn nt := by rw [hwq0.2]; exact hQ.1
  have hnr : (K l0).2.2 = nn := hLs.2.1
  have lp : ∀ (n0 j : Nat), (K l0).2.2 - j < n0 → j ≤ (K l0).2.2 → (∀ t, t < j → ¬ CE (nl t) n (nc t) cd) → G p l e (rmT 6 0 0) s m args below meth c 3 D z0 (EE z0 k) (PUQ h (fun v _ => ∃ x : Int32, v = some (.int x) ∧ ((x = 1 ∧ ¬ ∀ t, t < nn → ¬ CE (nl t) n (nc t) cd) ∨ (x = 0 ∧ ∀ t, t < nn → ¬ CE (nl t) n (nc t) cd)))) 0 0 2 [(2, .int (nI j)), (0, .ref a), (1, .ref w)] [] h 0 0 := by
    intro n0
    induction n0 with
    | zero => intro j hj; exact absurd hj (Nat.not_lt_zero _)
    | succ n0 ih =>
      intro j hj0 hjn0 hall
      refine g_iload_n cx 0 d_2_2_2 rfl rfl ?_
      refine g_aload_n cx 1 d_2_2_3 rfl rfl ?_
      refine g_getf cx (k := 2) d_2_2_4 in5 rfl (by decide) t_683 (Or.inl rfl) ha.1 he0 rfl ?_
      obtain ⟨⟨ea7, mo7, hm7, hl7⟩, hb7⟩ := TP.n23 hT hl0
      refine g_pcV cx (As := []) (n := 0) (pj_size (n := (K l0).2.2)) d_2_2_7 t_712 t_236 t_237 t_8 t_238 ⟨by decide, by decide, by decide +kernel⟩ rfl (ci := 2) rfl hm7 hl7 ⟨ea7, mo7, hm7, hl7⟩ ⟨Nat.le_of_ble_eq_true rfl, Nat.le_of_ble_eq_true rfl⟩ (Nat.le_of_ble_eq_true rfl) (fun v7 r7 => ?_)
      subst r7
      refine g_icmp_ge cx d_2_2_10 rfl (fun c10 => ?_) (fun c10 => ?_)
      · skip
        have hge : nn ≤ j := by have := (nI_leI (by omega) (by omega)).mp c10; omega
        refine g_iconst cx (v := 0) d_2_2_42 (by decide) ?_
        exact g_iret cx d_2_2_43 rfl rfl ⟨rfl, _, rfl, _, rfl, Or.inr ⟨rfl, fun t ht => hall t (by omega)⟩⟩
      · skip
        have hj : j < (K l0).2.2 := Nat.lt_of_not_le (fun q => c10 (nI_le q (by omega)))
        have hjn : j < nn := by omega
        refine g_aload_n cx 1 d_2_2_13 rfl rfl ?_
        refine g_getf cx (k := 2) d_2_2_14 in5 rfl (by decide) t_683 (Or.inl rfl) ha.1 he0 rfl ?_
        refine g_iload_n cx 0 d_2_2_17 rfl rfl ?_
        obtain ⟨⟨ea18, mo18, hm18, hl18⟩, hb18⟩ := TP.n23 hT hl0
        refine g_callV cx (As := [.int (nI j)]) (n := 1) (gj_getF (K := K) (B := B) (T := T) (ce := 3) (j := j) (mm := nn) (es := nt) (by decide) hB) d_2_2_18 t_713 t_240 t_241 t_8 t_242 ⟨by decide, by decide, by decide +kernel⟩ rfl (ci := 2) rfl hm18 hl18 ⟨rfl, hT, hl0, hj, hLs.ls, hjn⟩ ⟨Nat.le_of_ble_eq_true rfl, Nat.le_of_ble_eq_true rfl⟩ (Nat.le_of_ble_eq_true rfl) ⟨Nat.zero_le _, Nat.zero_le _⟩ (fun v18 h r18 => ?_) (fun x18 h r18 => by obtain ⟨-, e9, -⟩ := r18; cases e9)
        obtain ⟨rfl, e18, hy18⟩ := r18
        obtain ⟨y18, hq18⟩ : ∃ y, y = nt j := ⟨_, rfl⟩
        rw [← hq18] at e18 hy18
        cases e18
        replace hy18 : Ty K h 4 y18 := hy18
        obtain ⟨w21, he21, hw21, hwq21⟩ := TP.o (κ := 4) hT hy18
        obtain ⟨nw21, hw21⟩ : ∃ n, Tw k K h w21 n := ⟨_, Tx.tx hw21⟩
        refine g_ccast cx (ci := 4) d_2_2_21 t_714 rfl hy18.1 he21 ?_
        refine g_getf cx (k := 0) d_2_2_24 in4 rfl (by decide) t_566 (Or.inl rfl) hy18.1 he21 rfl ?_
        refine g_aload_n cx 2 d_2_2_27 rfl rfl ?_
        have hr28 : Tc k K h w21 (nl j) (nc j) := by
          rw [show w21 = (K y18).2.1 from hwq21, hq18]
          exact (hQ.2 j hjn).2.1
        have hm28 : w21 ∈ h.1 := Tc.mem hT hr28 (hQ.2 j hjn).2.2
        obtain ⟨va28, hsa28, hba28, -⟩ := Tc.byt hT hr28
        obtain ⟨vb28, hsb28, hbb28, -⟩ := Tc.byt hT hw
        refine g_pcVS cx (As := [.ref w]) (n := 1) (pj_eqF (n := nl j) (n' := n) (cd := nc j) (ce := cd)) d_2_2_28 t_715 t_492 t_493 t_4 t_494 rfl (by decide +kernel) rfl hsa28 ⟨⟨hm28, hT.2.2.2.1⟩, ⟨_, hsa28, hba28⟩, ⟨_, hsb28, hbb28⟩⟩ ⟨Nat.le_of_ble_eq_true rfl, Nat.le_of_ble_eq_true rfl⟩ (Nat.le_of_ble_eq_true rfl) (fun v28 r28 => ?_)
        obtain ⟨x28, rfl, xb28⟩ := r28
        refine g_if_eq cx d_2_2_31 rfl (fun c31 => ?_) (fun c31 => ?_)
        · skip
          have hce : ¬ CE (nl j) n (nc j) cd := by
            rcases xb28 with z | z
            · exact absurd c31 (by rw [z.1]; decide)
            · exact z.2
          refine g_iinc cx 0 (lv' := [(2, .int (nI (j + 1))), (0, .ref a), (1, .ref w)]) d_2_2_36 rfl (inc1 j) (by decide) rfl ?_
          refine g_goto cx d_2_2_39 rfl ?_
          exact ih (j + 1) (by omega) (by omega) (fun t ht => (Nat.lt_or_ge t j).elim (hall t) (fun q => by rw [show t = j by omega]; exact hce))
        · skip
          have hce : CE (nl j) n (nc j) cd := by
            rcases xb28 with z | z
            · exact z.2
            · exact absurd z.1 c31
          refine g_iconst cx (v := 1) d_2_2_34 (by decide) ?_
          exact g_iret cx d_2_2_35 rfl rfl ⟨rfl, _, rfl, _, rfl, Or.inl ⟨rfl, fun q => q j hjn hce⟩⟩
  refine g_iconst cx (v := 0) d_2_2_0 (by decide) ?_
  refine g_topi (fun j0 ej0 => ?_)
  obtain rfl : j0 = nI 0 := ej0
  refine g_istore_n cx (lv' := [(2, .int (nI 0)), (0, .ref a), (1, .ref w)]) d_2_2_1 rfl (by decide) rfl ?_
  exact lp ((K l0).2.2 + 1) 0 (by omega) (Nat.zero_le _) (fun t ht => absurd ht (Nat.not_lt_zero _))
set_option maxHeartbeats 8000000 in
theorem pt_hasLoadedF {a b m9 : Nat} {ls : Nat → Nat} (hB : B < 2 ^ 20) : PU l y_135 prog_5_method_2_code 3 (Option.some Jvm.ClassFile.FieldType.boolean) 6 D z0 k [.ref a, .ref b] K B T (fun h => Ty K h 6 a ∧ LsK D K h (K ((K a).2.2 / 2)).2.1 29 m9 ls) (fun v _ => ∃ x : Int32, v = some (.int x) ∧ ((x = 1 ∧ ∃ t, t < m9 ∧ ls t = b) ∨ (x = 0 ∧ ∀ t, t < m9 → ls t ≠ b))) := by
  refine pu_of (by decide) (Nat.le_of_ble_eq_true rfl) ?_
  intro h hT hp p e s m args below meth c cx
  obtain ⟨ha, hQ⟩ := hp
  obtain ⟨n0, b10, b20, b30, w0, lo0, im0, fi0, pa0, he0, hw0, hlo0, him0, hfi0, hpa0, hwq0⟩ := TP.o (κ := 6) hT ha
  obtain ⟨nw0, hw0⟩ : ∃ n, Tw k K h w0 n := ⟨_, Tx.tx hw0⟩
  obtain ⟨-, hbb⟩ := TP.n29 hT hlo0
  have hLs : LsK D K h lo0 29 m9 ls := by rw [hwq0.2.2.2, hwq0.2.2.1]; exact hQ
  have hnr : (K lo0).2.2 = m9 := hLs.2.1
  have lp : ∀ (n0 j : Nat), (K lo0).2.2 - j < n0 → j ≤ (K lo0).2.2 → (∀ t, t < j → ls t ≠ b) → G p l e (rmT 6 0 0) s m args below meth c 3 D z0 (EE z0 k) (PUQ h (fun v _ => ∃ x : Int32, v = some (.int x) ∧ ((x = 1 ∧ ∃ t, t < m9 ∧ ls t = b) ∨ (x = 0 ∧ ∀ t, t < m9 → ls t ≠ b)))) 0 0 2 [(2, .int (nI j)), (0, .ref a), (1, .ref b)] [] h 0 0 := by
    intro n0
    induction n0 with
    | zero => intro j hj; exact absurd hj (Nat.not_lt_zero _)
    | succ n0 ih =>
      intro j hj0 hjn0 hall
      refine g_iload_n cx 0 d_5_2_2 rfl rfl ?_
      refine g_aload_n cx 1 d_5_2_3 rfl rfl ?_
      refine g_getf cx (k := 2) d_5_2_4 in6 rfl (by decide) t_732 (Or.inl rfl) ha.1 he0 rfl ?_
      obtain ⟨⟨ea7, mo7, hm7, hl7⟩, hb7⟩ := TP.n29 hT hlo0
      refine g_pcV cx (As := []) (n := 0) (pj_size (n := (K lo0).2.2)) d_5_2_7 t_774 t_236 t_237 t_8 t_238 ⟨by decide, by decide, by decide +kernel⟩ rfl (ci := 2) rfl hm7 hl7 ⟨ea7, mo7, hm7, hl7⟩ ⟨Nat.le_of_ble_eq_true rfl, Nat.le_of_ble_eq_true rfl⟩ (Nat.le_of_ble_eq_true rfl) (fun v7 r7 => ?_)
      subst r7
      refine g_icmp_ge cx d_5_2_10 rfl (fun c10 => ?_) (fun c10 => ?_)
      · skip
        have hge : m9 ≤ j := by have := (nI_leI (by omega) (by omega)).mp c10; omega
        refine g_iconst cx (v := 0) d_5_2_33 (by decide) ?_
        exact g_iret cx d_5_2_34 rfl rfl ⟨rfl, _, rfl, _, rfl, Or.inr ⟨rfl, fun t ht => hall t (by omega)⟩⟩
      · skip
        have hj : j < (K lo0).2.2 := Nat.lt_of_not_le (fun q => c10 (nI_le q (by omega)))
        have hjn : j < m9 := by omega
        refine g_aload_n cx 1 d_5_2_13 rfl rfl ?_
        refine g_getf cx (k := 2) d_5_2_14 in6 rfl (by decide) t_732 (Or.inl rfl) ha.1 he0 rfl ?_
        refine g_iload_n cx 0 d_5_2_17 rfl rfl ?_
        obtain ⟨⟨ea18, mo18, hm18, hl18⟩, hb18⟩ := TP.n29 hT hlo0
        refine g_callV cx (As := [.int (nI j)]) (n := 1) (gj_getF (K := K) (B := B) (T := T) (ce := 9) (j := j) (mm := m9) (es := ls) (by decide) hB) d_5_2_18 t_775 t_240 t_241 t_8 t_242 ⟨by decide, by decide, by decide +kernel⟩ rfl (ci := 2) rfl hm18 hl18 ⟨rfl, hT, hlo0, hj, hLs.ls, hjn⟩ ⟨Nat.le_of_ble_eq_true rfl, Nat.le_of_ble_eq_true rfl⟩ (Nat.le_of_ble_eq_true rfl) ⟨Nat.zero_le _, Nat.zero_le _⟩ (fun v18 h r18 => ?_) (fun x18 h r18 => by obtain ⟨-, e9, -⟩ := r18; cases e9)
        obtain ⟨rfl, e18, hy18⟩ := r18
        obtain ⟨y18, hq18⟩ : ∃ y, y = ls j := ⟨_, rfl⟩
        rw [← hq18] at e18 hy18
        cases e18
        replace hy18 : Ty K h 5 y18 := hy18
        refine g_aload_n cx 2 d_5_2_21 rfl rfl ?_
        refine g_acmp_ne cx (rx := (some (y18))) (ry := (some (b))) d_5_2_22 rfl (fun c22 => ?_) (fun c22 => ?_)
        · skip
          have hne : ls j ≠ b := fun z => c22 (by rw [hq18, z])
          refine g_iinc cx 0 (lv' := [(2, .int (nI (j + 1))), (0, .ref a), (1, .ref b)]) d_5_2_27 rfl (inc1 j) (by decide) rfl ?_
          refine g_goto cx d_5_2_30 rfl ?_
          exact ih (j + 1) (by omega) (by omega) (fun t ht => (Nat.lt_or_ge t j).elim (hall t) (fun q => by rw [show t = j by omega]; exact hne))
        · skip
          have hin : ls j = b := hq18.symm.trans (Option.some.inj c22)
          refine g_iconst cx (v := 1) d_5_2_25 (by decide) ?_
          exact g_iret cx d_5_2_26 rfl rfl ⟨rfl, _, rfl, _, rfl, Or.inl ⟨rfl, j, hjn, hin⟩⟩
  refine g_iconst cx (v := 0) d_5_2_0 (by decide) ?_
  refine g_topi (fun j0 ej0 => ?_)
  obtain rfl : j0 = nI 0 := ej0
  refine g_istore_n cx (lv' := [(2, .int (nI 0)), (0, .ref a), (1, .ref b)]) d_5_2_1 rfl (by decide) rfl ?_
  exact lp ((K lo0).2.2 + 1) 0 (by omega) (Nat.zero_le _) (fun t ht => absurd ht (Nat.not_lt_zero _))
set_option maxHeartbeats 8000000 in
theorem tc_isNameF {w n cd : Nat} : TC l y_130 prog_1_method_15_code 4 (Option.some Jvm.ClassFile.FieldType.boolean) (rmT 9 62 1240) D z0 k [.ref w] K (B) (T) (fun h => Tc k K h w n cd) (B) (T) (X0) (fun o _ _ => ∃ x : Int32, o = .returned (some (.int x)) ∧ ((x = 1 ∧ NmOk n cd) ∨ (x = 0 ∧ ¬ NmOk n cd))) := by
  refine tc_of (by decide) (Nat.le_of_ble_eq_true rfl) ?_
  intro h hT hp p e s m args below meth c cx hnm
  have hE : Ev k (X0) K h K h := Ev.rf
  have hle := Tw.le hp.1 hT
  have hw := hp
  have hwt := hp.1
  clear hp
  have lp : ∀ (n0 j : Nat) (st ws : Nat) (K1 : KM) (h1 : hp) (rc rs : Nat), (n + 1) - j < n0 → j ≤ (n + 1) → TP D z0 k K1 (B) (T) h1 → Ev k (X0) K h K1 h1 → st ≤ j → Tw k K1 h1 w n → Tc k K1 h1 w n cd → ws ≤ j → NmI cd n j st ws → 2 * (n + 1 - j) ≤ rc → 40 * (n + 1 - j) ≤ rs → G p l e (rmT 9 62 1240) s m args below meth c 4 D z0 (EE z0 k) (TQ D z0 k K h (B) (T) (X0) (fun o _ _ => ∃ x : Int32, o = .returned (some (.int x)) ∧ ((x = 1 ∧ NmOk n cd) ∨ (x = 0 ∧ ¬ NmOk n cd)))) (62) (1240) 6 [(3, .int (nI j)), (2, .int (nI st)), (1, .int (nI ws)), (0, .ref w)] [] h1 rc rs := by
    clear hT hE hw hwt
    intro n0
    induction n0 with
    | zero => intro j _ _ _ _ _ _ hj; exact absurd hj (Nat.not_lt_zero _)
    | succ n0 ih =>
      intro j st ws K h rc rs hj0 hjn hT hE hst hwt hw hws hI hc1 hc2
      refine g_iload_n cx 0 d_1_15_6 rfl rfl ?_
      refine g_aload_n cx 3 d_1_15_7 rfl rfl ?_
      obtain ⟨v8, hs8⟩ := TP.str hT hwt
      refine g_pcVS cx (As := []) (n := 0) (pj_length (n := n)) d_1_15_8 t_519 t_391 t_392 t_4 t_393 rfl (by decide +kernel) rfl hs8 ⟨_, hs8⟩ ⟨Nat.le_of_ble_eq_true rfl, Nat.le_of_ble_eq_true rfl⟩ (Nat.le_of_ble_eq_true rfl) (fun v8 r8 => ?_)
      subst r8
      refine g_icmp_gt cx d_1_15_11 rfl (fun c11 => ?_) (fun c11 => ?_)
      · skip
        have hjx : j = n + 1 := by have := (nI_ltI (by omega) (by omega)).mp c11; omega
        refine g_iload_n cx 2 d_1_15_59 rfl rfl ?_
        refine g_iconst cx (v := 3) d_1_15_60 (by decide) ?_
        refine g_icmp_gt cx d_1_15_61 rfl (fun c61 => ?_) (fun c61 => ?_)
        · skip
          refine g_iconst cx (v := 0) d_1_15_68 (by decide) ?_
          exact g_iret cx d_1_15_69 rfl rfl ⟨K, hT, hE, _, rfl, Or.inr ⟨rfl, fun q => by have h1 := (nI_ltI (a := 3) (by decide) (by omega)).mp c61; have h2 := (hI.2 hjx).mpr q; omega⟩⟩
        · skip
          refine g_iconst cx (v := 1) d_1_15_64 (by decide) ?_
          refine g_goto cx d_1_15_65 rfl ?_
          exact g_iret cx d_1_15_69 rfl rfl ⟨K, hT, hE, _, rfl, Or.inl ⟨rfl, (hI.2 hjx).mp (Nat.le_of_not_lt (fun q => c61 (nI_lt (a := 3) q (by omega))))⟩⟩
      · skip
        have hjn2 : j ≤ n := Nat.le_of_not_lt (fun q => c11 (nI_lt q (by omega)))
        refine g_iload_n cx 0 d_1_15_14 rfl rfl ?_
        refine g_aload_n cx 3 d_1_15_15 rfl rfl ?_
        obtain ⟨v16, hs16⟩ := TP.str hT hwt
        refine g_pcVS cx (As := []) (n := 0) (pj_length (n := n)) d_1_15_16 t_519 t_391 t_392 t_4 t_393 rfl (by decide +kernel) rfl hs16 ⟨_, hs16⟩ ⟨Nat.le_of_ble_eq_true rfl, Nat.le_of_ble_eq_true rfl⟩ (Nat.le_of_ble_eq_true rfl) (fun v16 r16 => ?_)
        subst r16
        refine g_icmp_eq cx d_1_15_19 rfl (fun c19 => ?_) (fun c19 => ?_)
        · skip
          have hbl : j < n → chr cd j = 46 := fun z => absurd ((nI_eq (by omega) (by omega)).mp c19) (by omega)
          refine g_aload_n cx 3 d_1_15_32 rfl rfl ?_
          refine g_iload_n cx 1 d_1_15_33 rfl rfl ?_
          refine g_iload_n cx 0 d_1_15_34 rfl rfl ?_
          obtain ⟨v35, hs35⟩ := TP.str hT hw.1
          refine g_callVS cx (As := [.int (nI st), .int (nI j)]) (n := 2) (tj_substring (cd := cd) (n := n) (bg := st) (en := j) hst hjn2) d_1_15_35 t_537 t_538 t_539 t_4 t_540 rfl (by decide +kernel) rfl hs35 ⟨rfl, hT, hw⟩ ⟨Nat.le_of_ble_eq_true rfl, Nat.le_of_ble_eq_true rfl⟩ (Nat.le_of_ble_eq_true rfl) ⟨by show 2 ≤ rc; omega, by show 40 ≤ rs; omega⟩ (fun v35 h r35 => ?_) (fun x35 h r35 => by obtain ⟨K9, -, -, r9, e9, -⟩ := r35; cases e9)
          obtain ⟨K, hT, ev, rel35⟩ := r35
          obtain ⟨z35, e35, hx35⟩ := rel35
          cases e35
          have hwt := Ev.tx ev hwt
          have hw := Ev.tc ev hw
          replace hE := hE.tr ev
          have hxt35 := hx35.1
          obtain ⟨vw38, hsw38, hbw38, -⟩ := Tc.byt hT hx35
          refine g_pcS cx (As := [.ref z35]) (n := 1) (pc_isWordF (n := (j - st)) (cd := (sub cd (st) (j - st)))) d_1_15_38 t_665 t_666 t_1 t_667 ⟨by decide, by decide, by decide +kernel⟩ rfl ⟨_, hsw38, hbw38⟩ ⟨Nat.le_of_ble_eq_true rfl, Nat.le_of_ble_eq_true rfl⟩ (Nat.le_of_ble_eq_true rfl) (fun v38 r38 => ?_)
          obtain ⟨x38, rfl, xb38⟩ := r38
          refine g_if_ne cx d_1_15_41 rfl (fun c41 => ?_) (fun c41 => ?_)
          · skip
            have hok : WordOk (j - st) (sub cd st (j - st)) := by
              rcases xb38 with z | z
              · exact z.2
              · exact absurd z.1 c41
            refine g_iinc cx 2 (lv' := [(1, .int (nI (ws + 1))), (3, .int (nI j)), (2, .int (nI st)), (0, .ref w)]) d_1_15_46 rfl (inc1 ws) (by decide) rfl ?_
            refine g_iload_n cx 1 d_1_15_49 rfl rfl ?_
            refine g_iconst cx (v := 1) d_1_15_50 (by decide) ?_
            refine g_iadd cx d_1_15_51 ?_
            refine g_topi (fun s2 es2 => ?_)
            obtain rfl : s2 = nI (j + 1) := es2.trans (nI_1 j)
            refine g_istore_n cx (lv' := [(2, .int (nI (j + 1))), (1, .int (nI (ws + 1))), (3, .int (nI j)), (0, .ref w)]) d_1_15_52 rfl (by decide) rfl ?_
            refine g_iinc cx 2 (lv' := [(3, .int (nI (j + 1))), (2, .int (nI (j + 1))), (1, .int (nI (ws + 1))), (0, .ref w)]) d_1_15_53 rfl (inc1 j) (by decide) rfl ?_
            refine g_goto cx d_1_15_56 rfl ?_
            exact ih (j + 1) (j + 1) (ws + 1) K h _ _ (by omega) (by omega) hT hE (by omega) hwt hw (by omega) ((hI.stop hst hjn2 hbl).1 hok) (by show 2 * (n + 1 - (j + 1)) ≤ rc - 2; omega) (by show 40 * (n + 1 - (j + 1)) ≤ rs - 40; omega)
          · skip
            have hno : ¬ WordOk (j - st) (sub cd st (j - st)) := by
              rcases xb38 with z | z
              · exact absurd c41 (by rw [z.1]; decide)
              · exact z.2
            refine g_iconst cx (v := 0) d_1_15_44 (by decide) ?_
            exact g_iret cx d_1_15_45 rfl rfl ⟨K, hT, hE, _, rfl, Or.inr ⟨rfl, (hI.stop hst hjn2 hbl).2 hno⟩⟩
        · skip
          have hjl : j < n := by
            have : j ≠ n := fun z => c19 (by rw [z])
            omega
          refine g_aload_n cx 3 d_1_15_22 rfl rfl ?_
          refine g_iload_n cx 0 d_1_15_23 rfl rfl ?_
          obtain ⟨vc24, hsc24, hfc24, -⟩ := Tc.byt hT hw
          refine g_pcVS cx (As := [.int (nI j)]) (n := 1) (pj_charF (n := n) (j := j) (cd := cd) hjl) d_1_15_24 t_520 t_521 t_522 t_4 t_523 rfl (by decide +kernel) rfl hsc24 ⟨_, hsc24, hfc24⟩ ⟨Nat.le_of_ble_eq_true rfl, Nat.le_of_ble_eq_true rfl⟩ (Nat.le_of_ble_eq_true rfl) (fun v24 r24 => ?_)
          subst r24
          refine g_bipush cx (v := 46) d_1_15_27 (by decide) ?_
          refine g_icmp_ne cx d_1_15_29 rfl (fun c29 => ?_) (fun c29 => ?_)
          · skip
            have hcb : chr cd j ≠ 46 := fun z => c29 (congrArg nI z)
            refine g_iinc cx 0 (lv' := [(3, .int (nI (j + 1))), (2, .int (nI st)), (1, .int (nI ws)), (0, .ref w)]) d_1_15_53 rfl (inc1 j) (by decide) rfl ?_
            refine g_goto cx d_1_15_56 rfl ?_
            exact ih (j + 1) st ws K h _ _ (by omega) (by omega) hT hE (by omega) hwt hw (by omega) (hI.char hjl hcb) (by omega) (by omega)
          · skip
            have hbl : j < n → chr cd j = 46 := fun _ => (nI_eq (b := 46) (Nat.lt_trans chr_lt (by decide)) (by decide)).mp c29
            refine g_aload_n cx 3 d_1_15_32 rfl rfl ?_
            refine g_iload_n cx 1 d_1_15_33 rfl rfl ?_
            refine g_iload_n cx 0 d_1_15_34 rfl rfl ?_
            obtain ⟨v35, hs35⟩ := TP.str hT hw.1
            refine g_callVS cx (As := [.int (nI st), .int (nI j)]) (n := 2) (tj_substring (cd := cd) (n := n) (bg := st) (en := j) hst hjn2) d_1_15_35 t_537 t_538 t_539 t_4 t_540 rfl (by decide +kernel) rfl hs35 ⟨rfl, hT, hw⟩ ⟨Nat.le_of_ble_eq_true rfl, Nat.le_of_ble_eq_true rfl⟩ (Nat.le_of_ble_eq_true rfl) ⟨by show 2 ≤ rc; omega, by show 40 ≤ rs; omega⟩ (fun v35 h r35 => ?_) (fun x35 h r35 => by obtain ⟨K9, -, -, r9, e9, -⟩ := r35; cases e9)
            obtain ⟨K, hT, ev, rel35⟩ := r35
            obtain ⟨z35, e35, hx35⟩ := rel35
            cases e35
            have hwt := Ev.tx ev hwt
            have hw := Ev.tc ev hw
            replace hE := hE.tr ev
            have hxt35 := hx35.1
            obtain ⟨vw38, hsw38, hbw38, -⟩ := Tc.byt hT hx35
            refine g_pcS cx (As := [.ref z35]) (n := 1) (pc_isWordF (n := (j - st)) (cd := (sub cd (st) (j - st)))) d_1_15_38 t_665 t_666 t_1 t_667 ⟨by decide, by decide, by decide +kernel⟩ rfl ⟨_, hsw38, hbw38⟩ ⟨Nat.le_of_ble_eq_true rfl, Nat.le_of_ble_eq_true rfl⟩ (Nat.le_of_ble_eq_true rfl) (fun v38 r38 => ?_)
            obtain ⟨x38, rfl, xb38⟩ := r38
            refine g_if_ne cx d_1_15_41 rfl (fun c41 => ?_) (fun c41 => ?_)
            · skip
              have hok : WordOk (j - st) (sub cd st (j - st)) := by
                rcases xb38 with z | z
                · exact z.2
                · exact absurd z.1 c41
              refine g_iinc cx 2 (lv' := [(1, .int (nI (ws + 1))), (3, .int (nI j)), (2, .int (nI st)), (0, .ref w)]) d_1_15_46 rfl (inc1 ws) (by decide) rfl ?_
              refine g_iload_n cx 1 d_1_15_49 rfl rfl ?_
              refine g_iconst cx (v := 1) d_1_15_50 (by decide) ?_
              refine g_iadd cx d_1_15_51 ?_
              refine g_topi (fun s2 es2 => ?_)
              obtain rfl : s2 = nI (j + 1) := es2.trans (nI_1 j)
              refine g_istore_n cx (lv' := [(2, .int (nI (j + 1))), (1, .int (nI (ws + 1))), (3, .int (nI j)), (0, .ref w)]) d_1_15_52 rfl (by decide) rfl ?_
              refine g_iinc cx 2 (lv' := [(3, .int (nI (j + 1))), (2, .int (nI (j + 1))), (1, .int (nI (ws + 1))), (0, .ref w)]) d_1_15_53 rfl (inc1 j) (by decide) rfl ?_
              refine g_goto cx d_1_15_56 rfl ?_
              exact ih (j + 1) (j + 1) (ws + 1) K h _ _ (by omega) (by omega) hT hE (by omega) hwt hw (by omega) ((hI.stop hst hjn2 hbl).1 hok) (by show 2 * (n + 1 - (j + 1)) ≤ rc - 2; omega) (by show 40 * (n + 1 - (j + 1)) ≤ rs - 40; omega)
            · skip
              have hno : ¬ WordOk (j - st) (sub cd st (j - st)) := by
                rcases xb38 with z | z
                · exact absurd c41 (by rw [z.1]; decide)
                · exact z.2
              refine g_iconst cx (v := 0) d_1_15_44 (by decide) ?_
              exact g_iret cx d_1_15_45 rfl rfl ⟨K, hT, hE, _, rfl, Or.inr ⟨rfl, (hI.stop hst hjn2 hbl).2 hno⟩⟩
  refine g_iconst cx (v := 0) d_1_15_0 (by decide) ?_
  refine g_topi (fun w0 ew0 => ?_)
  obtain rfl : w0 = nI 0 := ew0
  refine g_istore_n cx (lv' := [(1, .int (nI 0)), (0, .ref w)]) d_1_15_1 rfl (by decide) rfl ?_
  refine g_iconst cx (v := 0) d_1_15_2 (by decide) ?_
  refine g_topi (fun s0 es0 => ?_)
  obtain rfl : s0 = nI 0 := es0
  refine g_istore_n cx (lv' := [(2, .int (nI 0)), (1, .int (nI 0)), (0, .ref w)]) d_1_15_3 rfl (by decide) rfl ?_
  refine g_iconst cx (v := 0) d_1_15_4 (by decide) ?_
  refine g_topi (fun j0 ej0 => ?_)
  obtain rfl : j0 = nI 0 := ej0
  refine g_istore_n cx (lv' := [(3, .int (nI 0)), (2, .int (nI 0)), (1, .int (nI 0)), (0, .ref w)]) d_1_15_5 rfl (by decide) rfl ?_
  exact lp (n + 2) 0 0 0 K h _ _ (by omega) (by omega) hT hE (Nat.le_refl _) hwt hw (Nat.le_refl _) NmI.zero (by show 2 * (n + 1 - 0) ≤ 62; omega) (by show 40 * (n + 1 - 0) ≤ 1240; omega)
end F4
