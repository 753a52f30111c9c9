/-! get, with what it gives. -/
/-- the list la of kind κ holds es 0 .. es (m - 1), and no more -/
def LsK (D : va_G) (K : KM) (h : hp) (la κ m : Nat) (es : Nat → Nat) : Prop := Ty K h κ la ∧ (K la).2.2 = m ∧ ∃ (ea n : Nat) (mo : Int32), h.2 la = .inr (2, [.ref ea, .int (nI n), .int mo]) ∧ (m = 0 ∨ (ea ∈ h.1 ∧ (K ea).1 = κ + 10 ∧ Ae D h ea m es))
theorem LsK.ls {D : va_G} {K : KM} {h : hp} {la κ m : Nat} {es : Nat → Nat} (q : LsK D K h la κ m es) : LsE D h la m es := by
  obtain ⟨-, -, ea, n, mo, h1, h2⟩ := q
  exact ⟨ea, n, mo, h1, h2.imp id (fun z => z.2.2)⟩
theorem LsK.of {D : va_G} {z0 : Nat} {k : Nat → Nat} {K : KM} {B T : Nat} {h : hp} {la κ m : Nat} {es : Nat → Nat} (hT : TP D z0 k K B T h) (hla : Ty K h κ la) (hk : 23 ≤ κ ∧ κ ≤ 29) (hm : (K la).2.2 = m) (q : LsE D h la m es) : LsK D K h la κ m es := by
  obtain ⟨ea, n, mo, g1, g2⟩ := q
  refine ⟨hla, hm, ea, n, mo, g1, ?_⟩
  rcases g2 with g2 | g2
  · exact Or.inl g2
  · obtain ⟨ea', mo', e1, -, e3⟩ := hT.l hla hk
    rw [g1] at e1
    simp only [Sum.inr.injEq, Prod.mk.injEq, List.cons.injEq, Value.ref.injEq] at e1
    obtain ⟨-, rfl, -⟩ := e1
    rcases e3 with ⟨-, e3⟩ | ⟨e3, e4, -⟩
    · exact Or.inl (hm.symm.trans e3)
    · exact Or.inr ⟨e3, e4, g2⟩
theorem LsK.ev {D : va_G} {k : Nat → Nat} {K K' : KM} {h h' : hp} {X : Nat → Prop} {la κ m : Nat} {es : Nat → Nat} (q : LsK D K h la (κ + 1) m es) (ev : Ev k X K h K' h') (hX : ∀ z, (K z).1 = κ + 1 ∨ (K z).1 = κ + 1 + 10 → ¬ X z) : LsK D K' h' la (κ + 1) m es := by
  obtain ⟨h1, h2, ea, n, mo, h3, h4⟩ := q
  have c := (ev.1 la h1.1).2.2 (hX la (Or.inl h1.2))
  refine ⟨Ev.ty ev h1, by rw [c.1]; exact h2, ea, n, mo, c.2.trans h3, h4.imp id (fun z => ?_)⟩
  have c2 := (ev.1 ea z.1).2.2 (hX ea (Or.inr z.2.1))
  exact ⟨(ev.1 ea z.1).1, by rw [c2.1]; exact z.2.1, Ae.ev z.2.2 ev z.1 (hX ea (Or.inr z.2.1))⟩
theorem LsK.nil {D : va_G} {z0 : Nat} {k : Nat → Nat} {K : KM} {B T : Nat} {h : hp} {la κ : Nat} {es : Nat → Nat} (hT : TP D z0 k K B T h) (hla : Ty K h κ la) (hk : 23 ≤ κ ∧ κ ≤ 29) (hm : (K la).2.2 = 0) : LsK D K h la κ 0 es := by
  obtain ⟨ea, mo, e1, -, -⟩ := hT.l hla hk
  exact ⟨hla, hm, ea, _, mo, e1, Or.inl rfl⟩
section F2
variable {l : Launch} {D : va_G} {z0 : Nat} {k : Nat → Nat} {K : KM} {B T : Nat}
theorem gj_elemF {a ce j mm : Nat} {es : Nat → Nat} (hc : 3 ≤ ce ∧ ce ≤ 9) (hB : B < 2 ^ 20) : Ctr l y_45 prog_27_method_18_code 2 (Option.some (Jvm.ClassFile.FieldType.object "java/lang/Object")) (rmT 0 0 0) D z0 (EE z0 k) (fun as h => as = [.ref a, .int (nI j)] ∧ TP D z0 k K B T h ∧ Ty K h (ce + 20) a ∧ j < (K a).2.2 ∧ LsE D h a mm es ∧ j < mm) (fun _ h o h' => h' = h ∧ o = .returned (some (.ref (es j))) ∧ Ty K h (ec ce) (es j)) := by
  refine ctr_of Cl.stb (by decide) (fun as h q => by rw [q.1]; exact Nat.le_of_ble_eq_true rfl) ?_
  intro as h q p e s m args below meth c cx
  obtain ⟨rfl, hT, ha, hj, hls, hjm⟩ := q
  obtain ⟨ea, mo, he, hbd, hx⟩ := TP.l hT ha (by omega)
  have hm := ha.1
  obtain ⟨hea, hn⟩ : Ty K h (ce + 30) ea ∧ (K a).2.2 ≤ (K ea).2.2 := by
    rcases hx with ⟨-, z⟩ | ⟨z1, z2, z3⟩
    · have z' : (K a).2.2 = 0 := z
      omega
    · exact ⟨⟨z1, z2⟩, z3⟩
  obtain ⟨f, hf, hle, hcap, hel, hnn⟩ := TP.ar hT hea (by omega)
  have hy := Ae.of (LsE.ae hls he hT hea hc) hf j hjm
  have hle2 : (K ea).2.2 ≤ (K ea).2.1 := hle
  have hcap2 : (K ea).2.1 < 2 ^ 20 := hcap
  have hb0 : bd (ce + 20) B < 2 ^ 20 := bd_lt (by decide) hB
  have hbd2 : (K a).2.2 ≤ bd (ce + 20) B := hbd
  refine g_aload_n cx 0 d_27_18_0 rfl rfl ?_
  refine g_getf cx (k := 0) d_27_18_1 in2 rfl (by decide) t_84 (Or.inl rfl) hm he rfl ?_
  refine g_iload_n cx 1 d_27_18_4 rfl rfl ?_
  refine g_aald cx d_27_18_5 hea.1 hf (vp_in_nI (by show j < (K ea).2.1; omega) (by show (K ea).2.1 < 2 ^ 31; omega)) ?_
  rw [nI_clamp (by omega), hy]
  obtain ⟨hy1, hy2⟩ := hel j (es j) hy
  have hy2 : (K (es j)).1 = ec ce := hy2.trans (ec_sub (ce := ce))
  exact g_aret cx d_27_18_6 rfl (Or.inl ⟨_, rfl⟩) (Or.inr ⟨_, rfl⟩) ⟨rfl, rfl, hy1, hy2⟩
theorem gj_getF {a ce j mm : Nat} {es : Nat → Nat} (hc : 3 ≤ ce ∧ ce ≤ 9) (hB : B < 2 ^ 20) : Ctr l y_43 prog_27_method_20_code 2 (Option.some (Jvm.ClassFile.FieldType.object "java/lang/Object")) (rmT 5 0 0) D z0 (EE z0 k) (fun as h => as = [.ref a, .int (nI j)] ∧ TP D z0 k K B T h ∧ Ty K h (ce + 20) a ∧ j < (K a).2.2 ∧ LsE D h a mm es ∧ j < mm) (fun _ h o h' => h' = h ∧ o = .returned (some (.ref (es j))) ∧ Ty K h (ec ce) (es j)) := by
  refine ctr_of Cl.stb (by decide) (fun as h q => by rw [q.1]; exact Nat.le_of_ble_eq_true rfl) ?_
  intro as h q p e s m args below meth c cx
  obtain ⟨rfl, hT, ha, hj, hls, hjm⟩ := q
  obtain ⟨ea, mo, he, hbd, hx⟩ := TP.l hT ha (by omega)
  have hm := ha.1
  obtain ⟨hea, hn⟩ : Ty K h (ce + 30) ea ∧ (K a).2.2 ≤ (K ea).2.2 := by
    rcases hx with ⟨-, z⟩ | ⟨z1, z2, z3⟩
    · have z' : (K a).2.2 = 0 := z
      omega
    · exact ⟨⟨z1, z2⟩, z3⟩
  obtain ⟨f, hf, hle, hcap, hel, hnn⟩ := TP.ar hT hea (by omega)
  have hy := Ae.of (LsE.ae hls he hT hea hc) hf j hjm
  have hle2 : (K ea).2.2 ≤ (K ea).2.1 := hle
  have hcap2 : (K ea).2.1 < 2 ^ 20 := hcap
  have hb0 : bd (ce + 20) B < 2 ^ 20 := bd_lt (by decide) hB
  have hbd2 : (K a).2.2 ≤ bd (ce + 20) B := hbd
  refine g_iload_n cx 1 d_27_20_0 rfl rfl ?_
  refine g_aload_n cx 0 d_27_20_1 rfl rfl ?_
  refine g_getf cx (k := 1) d_27_20_2 in2 rfl (by decide) t_85 (Or.inl rfl) hm he rfl ?_
  refine g_pcS cx (As := [.int (nI j), .int (nI (K a).2.2)]) (n := 2) (pj_objCheck hj (by omega)) d_27_20_5 t_243 t_244 t_22 t_245 ⟨by decide, by decide, by decide +kernel⟩ rfl trivial ⟨Nat.le_of_ble_eq_true rfl, Nat.le_of_ble_eq_true rfl⟩ (Nat.le_of_ble_eq_true rfl) (fun v5 r5 => ?_)
  subst r5
  refine g_pop cx d_27_20_8 rfl ?_
  refine g_aload_n cx 0 d_27_20_9 rfl rfl ?_
  refine g_iload_n cx 1 d_27_20_10 rfl rfl ?_
  refine g_callV cx (As := [.int (nI j)]) (n := 1) (gj_elemF (K := K) (B := B) (T := T) (mm := mm) (es := es) hc hB) d_27_20_11 t_247 t_248 t_249 t_8 t_250 ⟨by decide, by decide, by decide +kernel⟩ rfl (ci := 2) rfl hm he ⟨rfl, hT, ha, hj, hls, hjm⟩ ⟨Nat.le_of_ble_eq_true rfl, Nat.le_of_ble_eq_true rfl⟩ (Nat.le_of_ble_eq_true rfl) ⟨Nat.zero_le _, Nat.zero_le _⟩ (fun v11 h r11 => ?_) (fun x11 h r11 => by obtain ⟨-, e9, -⟩ := r11; cases e9)
  obtain ⟨rfl, e11, hy9⟩ := r11
  cases e11
  exact g_aret cx d_27_20_14 rfl (Or.inl ⟨_, rfl⟩) (Or.inr ⟨_, rfl⟩) ⟨rfl, rfl, hy9⟩
end F2
