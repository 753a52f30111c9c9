/-! The JDK's methods that leave the pool as it is. -/
theorem nar_c (x : Int32) : narrow .char (.int (x.toUInt32 % 65536).toInt32) = .int (x.toUInt32 % 65536).toInt32 := by
  have key : ∀ y : UInt32, y.toNat < 65536 → y.toInt32.toUInt32.toUInt16.toUInt32.toInt32 = y.toInt32 := by
    intro y hy
    have h1 : y.toInt32.toUInt32 = y := by simp
    rw [h1]
    congr 1
    apply UInt32.toNat_inj.mp
    simp
    omega
  have h9 : vp_nar .char (x.toUInt32 % 65536).toInt32 = (x.toUInt32 % 65536).toInt32 := by
    rw [vp_nar_char]
    refine key _ ?_
    rw [UInt32.toNat_mod]
    exact Nat.mod_lt _ (by decide)
  exact congrArg Value.int h9
section MMX
variable {p : Program} {l : Launch} {e : Env} {R : Room} {s : State} {m : MethodId} {args : Array Value} {below : List Frame} {meth : Method} {c : Code} {cc : ByteArray} {own : String} {nL : Nat} {ret : Option FieldType} {D : va_G} {z0 : Nat} {Qp : Outcome → hp → Prop} {mc ms pc : Nat} {lv lv' : List (Nat × Value)} {st rest : List Value} {h : hp} {rc rs : Nat}
variable {k : Nat → Nat}
theorem g_min (C : Cx p R s m args meth c cc own nL ret D z0 (EE z0 k) mc ms) {idx a b : Nat} (hd : decode cc pc = .ok (.invokestatic idx, 3)) (w1 : Cond.methodLink own idx Lib.Math.min.name ∈ lw_g) (w2 : Cond.static Lib.Math.min.name ∈ lw_g) (w3 : Cond.initialized "java/lang/Math" ∈ lw_g) (w4 : Cond.code Lib.Math.min.name Lib.Math.min.code 2 (some .int) ∈ lw_g) (ha : a < 2 ^ 31) (hb : b < 2 ^ 31) (hR : 1 ≤ R.frames ∧ 40 ≤ R.locals) (hW : (rest.map fun v => v.category).sum ≤ 8) (kk : G p l e R s m args below meth c nL D z0 (EE z0 k) Qp mc ms (pc + 3) lv (.int (nI (min a b)) :: rest) h rc rs) : G p l e R s m args below meth c nL D z0 (EE z0 k) Qp mc ms pc lv (.int (nI b) :: .int (nI a) :: rest) h rc rs := by
  intro ls H locs cells slots h1 h2 h3 h4 h5
  have hcl := C.2.2.2.2.2.2.2.2.2.2.2.2.1
  have hsl := C.2.2.2.2.2.2.2.2.2.2.2.2.2
  refine va_mmin C.1 C.2.1 (C.2.2.1.trans h1.1.symm) C.2.2.2.1 (C.2.2.2.2.1 _ w1) (C.2.2.2.2.1 _ w2) (C.2.2.2.2.1 _ w3) (C.2.2.2.2.1 _ w4) hR.1 (by omega) (by omega) (by omega) hd ?_
  have e9 : (if nI b < nI a then nI b else nI a) = nI (min a b) := by
    by_cases hq : b < a
    · rw [if_pos ((nI_ltI (by omega) (by omega)).mpr hq), Nat.min_eq_right (by omega)]
    · rw [if_neg (fun z => hq ((nI_ltI (by omega) (by omega)).mp z)), Nat.min_eq_left (by omega)]
  rw [e9]
  exact kk ls H locs cells slots h1 h2 h3 h4 h5
theorem g_max (C : Cx p R s m args meth c cc own nL ret D z0 (EE z0 k) mc ms) {idx a b : Nat} (hd : decode cc pc = .ok (.invokestatic idx, 3)) (w1 : Cond.methodLink own idx Lib.Math.max.name ∈ lw_g) (w2 : Cond.static Lib.Math.max.name ∈ lw_g) (w3 : Cond.initialized "java/lang/Math" ∈ lw_g) (w4 : Cond.code Lib.Math.max.name Lib.Math.max.code 2 (some .int) ∈ lw_g) (ha : a < 2 ^ 31) (hb : b < 2 ^ 31) (hR : 1 ≤ R.frames ∧ 40 ≤ R.locals) (hW : (rest.map fun v => v.category).sum ≤ 8) (kk : G p l e R s m args below meth c nL D z0 (EE z0 k) Qp mc ms (pc + 3) lv (.int (nI (max a b)) :: rest) h rc rs) : G p l e R s m args below meth c nL D z0 (EE z0 k) Qp mc ms pc lv (.int (nI b) :: .int (nI a) :: rest) h rc rs := by
  intro ls H locs cells slots h1 h2 h3 h4 h5
  have hcl := C.2.2.2.2.2.2.2.2.2.2.2.2.1
  have hsl := C.2.2.2.2.2.2.2.2.2.2.2.2.2
  refine va_mmax C.1 C.2.1 (C.2.2.1.trans h1.1.symm) C.2.2.2.1 (C.2.2.2.2.1 _ w1) (C.2.2.2.2.1 _ w2) (C.2.2.2.2.1 _ w3) (C.2.2.2.2.1 _ w4) hR.1 (by omega) (by omega) (by omega) hd ?_
  have e9 : (if nI a < nI b then nI b else nI a) = nI (max a b) := by
    by_cases hq : a < b
    · rw [if_pos ((nI_ltI (by omega) (by omega)).mpr hq), Nat.max_eq_right (by omega)]
    · rw [if_neg (fun z => hq ((nI_ltI (by omega) (by omega)).mp z)), Nat.max_eq_left (by omega)]
  rw [e9]
  exact kk ls H locs cells slots h1 h2 h3 h4 h5
end MMX
theorem va_T.lt9 {ty : FieldType} {t N z0 : Nat} {f : Nat → Value} {U : State} {H : Heap} (h : va_T ty t N f (AA z0) U H) : t < z0 := Nat.not_le.mp h.out
theorem va_O.lt {E : String} {t z0 : Nat} {U : State} {H : Heap} (h : va_O E t (AA z0) U H) : t < z0 := by
  obtain ⟨-, -, -, -, h4⟩ := h
  exact Nat.not_le.mp h4
section J1
variable {l : Launch} {D : va_G} {z0 : Nat} {k : Nat → Nat}
set_option maxHeartbeats 4000000 in
theorem pj_checkIndex {j n : Nat} {fm : Option Nat} (hj : j < n) (hn : n < 2 ^ 31) : PC l y_37 prog_36_method_11_code 3 (Option.some Jvm.ClassFile.FieldType.int) 1 D z0 k [.int (nI j), .int (nI n), va_rf fm] (fun h => True) (fun v => v = some (.int (nI j))) := by
  refine pc_of (by decide) (by cases fm <;> exact Nat.le_of_ble_eq_true rfl) ?_
  intro h hp p e s m args below meth c cx
  refine g_iload_n cx 0 d_36_11_0 rfl rfl ?_
  refine g_if_lt cx d_36_11_1 rfl (fun c1 => absurd c1 (nI_pos (by omega))) (fun c1 => ?_)
  refine g_iload_n cx 0 d_36_11_4 rfl rfl ?_
  refine g_iload_n cx 1 d_36_11_5 rfl rfl ?_
  refine g_icmp_lt cx d_36_11_6 rfl (fun c6 => ?_) (fun c6 => absurd (nI_lt hj hn) c6)
  refine g_iload_n cx 0 d_36_11_16 rfl rfl ?_
  exact g_iret cx d_36_11_17 rfl rfl ⟨rfl, _, rfl, rfl⟩
set_option maxHeartbeats 4000000 in
theorem pj_checkFromTo {b en n : Nat} {fm : Option Nat} (hbe : b ≤ en) (hen : en ≤ n) (hn : n < 2 ^ 31) : PC l y_72 prog_36_method_12_code 4 (Option.some Jvm.ClassFile.FieldType.int) 1 D z0 k [.int (nI b), .int (nI en), .int (nI n), va_rf fm] (fun h => True) (fun v => ∃ x : Int32, v = some (.int x)) := by
  refine pc_of (by decide) (by cases fm <;> exact Nat.le_of_ble_eq_true rfl) ?_
  intro h hp p e s m args below meth c cx
  refine g_iload_n cx 0 d_36_12_0 rfl rfl ?_
  refine g_if_lt cx d_36_12_1 rfl (fun c1 => absurd c1 (nI_pos (by omega))) (fun c1 => ?_)
  refine g_iload_n cx 0 d_36_12_4 rfl rfl ?_
  refine g_iload_n cx 1 d_36_12_5 rfl rfl ?_
  refine g_icmp_gt cx d_36_12_6 rfl (fun c6 => absurd c6 (nI_nlt hbe (by omega))) (fun c6 => ?_)
  refine g_iload_n cx 1 d_36_12_9 rfl rfl ?_
  refine g_iload_n cx 2 d_36_12_10 rfl rfl ?_
  refine g_icmp_le cx d_36_12_11 rfl (fun c11 => ?_) (fun c11 => absurd (nI_le hen hn) c11)
  refine g_iload_n cx 0 d_36_12_22 rfl rfl ?_
  exact g_iret cx d_36_12_23 rfl rfl ⟨rfl, _, rfl, _, rfl⟩
set_option maxHeartbeats 4000000 in
theorem pj_objCheck {j n : Nat} (hj : j < n) (hn : n < 2 ^ 31) : PC l y_44 prog_32_method_17_code 2 (Option.some Jvm.ClassFile.FieldType.int) 3 D z0 k [.int (nI j), .int (nI n)] (fun h => True) (fun v => v = some (.int (nI j))) := by
  refine pc_of (by decide) (Nat.le_of_ble_eq_true rfl) ?_
  intro h hp p e s m args below meth c cx
  refine g_iload_n cx 0 d_32_17_0 rfl rfl ?_
  refine g_iload_n cx 1 d_32_17_1 rfl rfl ?_
  refine g_null cx d_32_17_2 ?_
  refine g_pcS cx (As := [.int (nI j), .int (nI n), .null]) (n := 3) (pj_checkIndex (fm := none) hj hn) d_32_17_3 t_246 t_217 t_15 t_218 ⟨by decide, by decide, by decide +kernel⟩ rfl trivial ⟨Nat.le_of_ble_eq_true rfl, Nat.le_of_ble_eq_true rfl⟩ (Nat.le_of_ble_eq_true rfl) (fun v3 r3 => ?_)
  subst r3
  exact g_iret cx d_32_17_6 rfl rfl ⟨rfl, _, rfl, rfl⟩
theorem pj_strCheck {j n : Nat} (hj : j < n) (hn : n < 2 ^ 31) : PC l y_36 prog_19_method_155_code 2 (Option.none) 3 D z0 k [.int (nI j), .int (nI n)] (fun h => True) (fun v => v = none) := by
  refine pc_of (by decide) (Nat.le_of_ble_eq_true rfl) ?_
  intro h hp p e s m args below meth c cx
  rcases cx.ee.2.2.2.2.1 with hz | ⟨t, hz⟩
  · skip
    refine g_iload_n cx 0 d_19_155_0 rfl rfl ?_
    refine g_iload_n cx 1 d_19_155_1 rfl rfl ?_
    refine g_gets cx d_19_155_2 t_193 hz ?_
    refine g_pcS cx (As := [.int (nI j), .int (nI n), .null]) (n := 3) (pj_checkIndex (fm := none) hj hn) d_19_155_5 t_216 t_217 t_15 t_218 ⟨by decide, by decide, by decide +kernel⟩ rfl trivial ⟨Nat.le_of_ble_eq_true rfl, Nat.le_of_ble_eq_true rfl⟩ (Nat.le_of_ble_eq_true rfl) (fun v5 r5 => ?_)
    subst r5
    refine g_pop cx d_19_155_8 rfl ?_
    exact g_vret cx d_19_155_9 rfl ⟨rfl, _, rfl, rfl⟩
  · skip
    refine g_iload_n cx 0 d_19_155_0 rfl rfl ?_
    refine g_iload_n cx 1 d_19_155_1 rfl rfl ?_
    refine g_gets cx d_19_155_2 t_193 hz ?_
    refine g_pcS cx (As := [.int (nI j), .int (nI n), .ref t]) (n := 3) (pj_checkIndex (fm := (some t)) hj hn) d_19_155_5 t_216 t_217 t_15 t_218 ⟨by decide, by decide, by decide +kernel⟩ rfl trivial ⟨Nat.le_of_ble_eq_true rfl, Nat.le_of_ble_eq_true rfl⟩ (Nat.le_of_ble_eq_true rfl) (fun v5 r5 => ?_)
    subst r5
    refine g_pop cx d_19_155_8 rfl ?_
    exact g_vret cx d_19_155_9 rfl ⟨rfl, _, rfl, rfl⟩
theorem pj_bounds {b en n : Nat} (hbe : b ≤ en) (hen : en ≤ n) (hn : n < 2 ^ 31) : PC l y_71 prog_19_method_158_code 3 (Option.none) 3 D z0 k [.int (nI b), .int (nI en), .int (nI n)] (fun h => True) (fun v => v = none) := by
  refine pc_of (by decide) (Nat.le_of_ble_eq_true rfl) ?_
  intro h hp p e s m args below meth c cx
  rcases cx.ee.2.2.2.2.1 with hz | ⟨t, hz⟩
  · skip
    refine g_iload_n cx 0 d_19_158_0 rfl rfl ?_
    refine g_iload_n cx 1 d_19_158_1 rfl rfl ?_
    refine g_iload_n cx 2 d_19_158_2 rfl rfl ?_
    refine g_gets cx d_19_158_3 t_193 hz ?_
    refine g_pcS cx (As := [.int (nI b), .int (nI en), .int (nI n), .null]) (n := 4) (pj_checkFromTo (fm := none) hbe hen hn) d_19_158_6 t_367 t_368 t_15 t_369 ⟨by decide, by decide, by decide +kernel⟩ rfl trivial ⟨Nat.le_of_ble_eq_true rfl, Nat.le_of_ble_eq_true rfl⟩ (Nat.le_of_ble_eq_true rfl) (fun v6 r6 => ?_)
    obtain ⟨x6, rfl⟩ := r6
    refine g_pop cx d_19_158_9 rfl ?_
    exact g_vret cx d_19_158_10 rfl ⟨rfl, _, rfl, rfl⟩
  · skip
    refine g_iload_n cx 0 d_19_158_0 rfl rfl ?_
    refine g_iload_n cx 1 d_19_158_1 rfl rfl ?_
    refine g_iload_n cx 2 d_19_158_2 rfl rfl ?_
    refine g_gets cx d_19_158_3 t_193 hz ?_
    refine g_pcS cx (As := [.int (nI b), .int (nI en), .int (nI n), .ref t]) (n := 4) (pj_checkFromTo (fm := (some t)) hbe hen hn) d_19_158_6 t_367 t_368 t_15 t_369 ⟨by decide, by decide, by decide +kernel⟩ rfl trivial ⟨Nat.le_of_ble_eq_true rfl, Nat.le_of_ble_eq_true rfl⟩ (Nat.le_of_ble_eq_true rfl) (fun v6 r6 => ?_)
    obtain ⟨x6, rfl⟩ := r6
    refine g_pop cx d_19_158_9 rfl ?_
    exact g_vret cx d_19_158_10 rfl ⟨rfl, _, rfl, rfl⟩
set_option maxHeartbeats 4000000 in
theorem pj_newLength {a b g : Nat} (h0 : 0 < a + max b g) (h1 : a + b + g < 2 ^ 30) : PC l y_16 prog_35_method_27_code 4 (Option.some Jvm.ClassFile.FieldType.int) 2 D z0 k [.int (nI a), .int (nI b), .int (nI g)] (fun h => True) (fun v => v = some (.int (nI (a + max b g)))) := by
  refine pc_of (by decide) (Nat.le_of_ble_eq_true rfl) ?_
  intro h hp p e s m args below meth c cx
  refine g_iload_n cx 0 d_35_27_0 rfl rfl ?_
  refine g_iload_n cx 1 d_35_27_1 rfl rfl ?_
  refine g_iload_n cx 2 d_35_27_2 rfl rfl ?_
  refine g_max cx (a := b) (b := g) d_35_27_3 t_142 t_143 t_11 t_144 (by omega) (by omega) ⟨Nat.le_of_ble_eq_true rfl, Nat.le_of_ble_eq_true rfl⟩ (Nat.le_of_ble_eq_true rfl) ?_
  refine g_iadd cx d_35_27_6 ?_
  refine g_topi (fun s3 es3 => ?_)
  obtain rfl : s3 = nI (a + max b g) := es3.trans (nI_add _ _)
  refine g_istore_n cx (lv' := [(3, .int (nI (a + max b g))), (0, .int (nI a)), (1, .int (nI b)), (2, .int (nI g))]) d_35_27_7 rfl (by decide) rfl ?_
  refine g_iconst cx (v := 0) d_35_27_8 (by decide) ?_
  refine g_iload_n cx 0 d_35_27_9 rfl rfl ?_
  refine g_icmp_ge cx d_35_27_10 rfl (fun c10 => absurd c10 (nI_nle h0 (by omega))) (fun c10 => ?_)
  refine g_iload_n cx 0 d_35_27_13 rfl rfl ?_
  refine g_ldc cx d_35_27_14 t_145 ?_
  refine g_icmp_gt cx d_35_27_16 rfl (fun c16 => absurd c16 (by rw [show (2147483639 : Int32) = nI 2147483639 from rfl]; exact nI_nlt (by omega) (by decide))) (fun c16 => ?_)
  refine g_iload_n cx 0 d_35_27_19 rfl rfl ?_
  exact g_iret cx d_35_27_20 rfl rfl ⟨rfl, _, rfl, rfl⟩
set_option maxHeartbeats 4000000 in
theorem pj_checkLength {a b : Nat} (h0 : a ≤ b) (h1 : b < 2 ^ 31) : PC l y_56 prog_28_method_131_code 2 (Option.none) 0 D z0 k [.int (nI a), .int (nI b)] (fun h => True) (fun v => v = none) := by
  refine pc_of (by decide) (Nat.le_of_ble_eq_true rfl) ?_
  intro h hp p e s m args below meth c cx
  refine g_iload_n cx 1 d_28_131_0 rfl rfl ?_
  refine g_iload_n cx 0 d_28_131_1 rfl rfl ?_
  refine g_icmp_ge cx d_28_131_2 rfl (fun c2 => ?_) (fun c2 => absurd (nI_le h0 h1) c2)
  exact g_vret cx d_28_131_37 rfl ⟨rfl, _, rfl, rfl⟩
set_option maxHeartbeats 4000000 in
theorem pj_coder {a n : Nat} : PC l y_79 prog_19_method_152_code 1 (Option.some Jvm.ClassFile.FieldType.byte) 0 D z0 k [.ref a] (fun h => ∃ v, StrP D k h a v n) (fun v => v = some (.int 0)) := by
  refine pc_of (by decide) (Nat.le_of_ble_eq_true rfl) ?_
  intro h hp p e s m args below meth c cx
  obtain ⟨v, hs⟩ := hp
  refine g_gets cx d_19_152_0 t_398 cx.ee.2.1 ?_
  refine g_if_eq cx d_19_152_3 rfl (fun c3 => absurd c3 (by decide)) (fun c3 => ?_)
  refine g_aload_n cx 0 d_19_152_6 rfl rfl ?_
  refine g_gcS cx d_19_152_7 t_454 hs ?_
  refine g_goto cx d_19_152_10 rfl ?_
  exact g_iret cx d_19_152_14 rfl rfl ⟨rfl, _, rfl, rfl⟩
set_option maxHeartbeats 4000000 in
theorem pj_isLatin1 {a n : Nat} : PC l y_103 prog_19_method_154_code 1 (Option.some Jvm.ClassFile.FieldType.boolean) 0 D z0 k [.ref a] (fun h => ∃ v, StrP D k h a v n) (fun v => v = some (.int 1)) := by
  refine pc_of (by decide) (Nat.le_of_ble_eq_true rfl) ?_
  intro h hp p e s m args below meth c cx
  obtain ⟨v, hs⟩ := hp
  refine g_gets cx d_19_154_0 t_398 cx.ee.2.1 ?_
  refine g_if_eq cx d_19_154_3 rfl (fun c3 => absurd c3 (by decide)) (fun c3 => ?_)
  refine g_aload_n cx 0 d_19_154_6 rfl rfl ?_
  refine g_gcS cx d_19_154_7 t_454 hs ?_
  refine g_if_ne cx d_19_154_10 rfl (fun c10 => absurd rfl c10) (fun c10 => ?_)
  refine g_iconst cx (v := 1) d_19_154_13 (by decide) ?_
  refine g_goto cx d_19_154_14 rfl ?_
  exact g_iret cx d_19_154_18 rfl rfl ⟨rfl, _, rfl, rfl⟩
set_option maxHeartbeats 4000000 in
theorem pj_length {a n : Nat} : PC l y_78 prog_19_method_54_code 1 (Option.some Jvm.ClassFile.FieldType.int) 1 D z0 k [.ref a] (fun h => ∃ v, StrP D k h a v n) (fun v => v = some (.int (nI n))) := by
  refine pc_of (by decide) (Nat.le_of_ble_eq_true rfl) ?_
  intro h hp p e s m args below meth c cx
  obtain ⟨v, hs⟩ := hp
  refine g_aload_n cx 0 d_19_54_0 rfl rfl ?_
  refine g_gvS cx d_19_54_1 t_453 hs ?_
  refine g_alenB cx d_19_54_4 (StrP.ba hs) ?_
  refine g_aload_n cx 0 d_19_54_5 rfl rfl ?_
  refine g_pcVS cx (As := []) (n := 0) (pj_coder (n := n)) d_19_54_6 t_394 t_395 t_396 t_4 t_397 rfl (by decide +kernel) rfl hs ⟨_, hs⟩ ⟨Nat.le_of_ble_eq_true rfl, Nat.le_of_ble_eq_true rfl⟩ (Nat.le_of_ble_eq_true rfl) (fun v6 r6 => ?_)
  subst r6
  refine g_ishr cx d_19_54_9 ?_
  exact g_iret cx d_19_54_10 rfl rfl ⟨rfl, _, rfl, congrArg (fun z => some (Value.int z)) (sb_shr0 (nI n))⟩
set_option maxHeartbeats 4000000 in
theorem pj_latCharAt {v0 n j : Nat} (hj : j < n) : PC l y_104 prog_21_method_2_code 2 (Option.some Jvm.ClassFile.FieldType.char) 4 D z0 k [.ref v0, .int (nI j)] (fun h => BaP D k h v0 n) (fun v => ∃ x : Int32, v = some (.int x) ∧ narrow .char (.int x) = .int x) := by
  refine pc_of (by decide) (Nat.le_of_ble_eq_true rfl) ?_
  intro h hp p e s m args below meth c cx
  have hle := hp.le
  refine g_iload_n cx 1 d_21_2_0 rfl rfl ?_
  refine g_aload_n cx 0 d_21_2_1 rfl rfl ?_
  refine g_alenB cx d_21_2_2 hp ?_
  refine g_pcS cx (As := [.int (nI j), .int (nI n)]) (n := 2) (pj_strCheck hj (by omega)) d_21_2_3 t_531 t_214 t_4 t_215 ⟨by decide, by decide, by decide +kernel⟩ rfl trivial ⟨Nat.le_of_ble_eq_true rfl, Nat.le_of_ble_eq_true rfl⟩ (Nat.le_of_ble_eq_true rfl) (fun v3 r3 => ?_)
  subst r3
  refine g_aload_n cx 0 d_21_2_6 rfl rfl ?_
  refine g_iload_n cx 1 d_21_2_7 rfl rfl ?_
  refine g_baldB cx d_21_2_8 hp rfl hj (fun b8 => ?_)
  refine g_sipush cx (v := 255) d_21_2_9 (by decide) ?_
  refine g_iand cx d_21_2_12 ?_
  refine g_i2c cx d_21_2_13 ?_
  exact g_iret cx d_21_2_14 rfl (nar_c _) ⟨rfl, _, rfl, _, rfl, nar_c _⟩
set_option maxHeartbeats 4000000 in
theorem pj_charAt {a n j : Nat} (hj : j < n) : PC l y_102 prog_19_method_56_code 2 (Option.some Jvm.ClassFile.FieldType.char) 5 D z0 k [.ref a, .int (nI j)] (fun h => ∃ v, StrP D k h a v n) (fun v => ∃ x : Int32, v = some (.int x)) := by
  refine pc_of (by decide) (Nat.le_of_ble_eq_true rfl) ?_
  intro h hp p e s m args below meth c cx
  obtain ⟨v, hs⟩ := hp
  refine g_aload_n cx 0 d_19_56_0 rfl rfl ?_
  refine g_pcVS cx (As := []) (n := 0) (pj_isLatin1 (n := n)) d_19_56_1 t_524 t_525 t_526 t_4 t_527 rfl (by decide +kernel) rfl hs ⟨_, hs⟩ ⟨Nat.le_of_ble_eq_true rfl, Nat.le_of_ble_eq_true rfl⟩ (Nat.le_of_ble_eq_true rfl) (fun v1 r1 => ?_)
  subst r1
  refine g_if_eq cx d_19_56_4 rfl (fun c4 => absurd c4 (by decide)) (fun c4 => ?_)
  refine g_aload_n cx 0 d_19_56_7 rfl rfl ?_
  refine g_gvS cx d_19_56_8 t_453 hs ?_
  refine g_iload_n cx 1 d_19_56_11 rfl rfl ?_
  refine g_pcS cx (As := [.ref v, .int (nI j)]) (n := 2) (pj_latCharAt (n := n) (j := j) hj) d_19_56_12 t_528 t_529 t_14 t_530 ⟨by decide, by decide, by decide +kernel⟩ rfl (StrP.ba hs) ⟨Nat.le_of_ble_eq_true rfl, Nat.le_of_ble_eq_true rfl⟩ (Nat.le_of_ble_eq_true rfl) (fun v12 r12 => ?_)
  obtain ⟨x12, rfl, xn12⟩ := r12
  exact g_iret cx d_19_56_15 rfl xn12 ⟨rfl, _, rfl, _, rfl⟩
set_option maxHeartbeats 4000000 in
theorem pj_latEquals0 {v0 v1 n n' : Nat} : PC l y_96 prog_21_method_13_code 3 (Option.some Jvm.ClassFile.FieldType.boolean) 0 D z0 k [.ref v0, .ref v1] (fun h => BaP D k h v0 n ∧ BaP D k h v1 n') (fun v => ∃ x : Int32, v = some (.int x) ∧ (x = 0 ∨ x = 1)) := by
  refine pc_of (by decide) (Nat.le_of_ble_eq_true rfl) ?_
  intro h hp p e s m args below meth c cx
  have hl0 := hp.1.le
  have hl1 := hp.2.le
  have lp : ∀ (n0 j : Nat), n - j < n0 → n = n' → j ≤ n → G p l e (rmT 0 0 0) s m args below meth c 3 D z0 (EE z0 k) (PQ h (fun v => ∃ x : Int32, v = some (.int x) ∧ (x = 0 ∨ x = 1))) 0 0 9 [(2, .int (nI j)), (0, .ref v0), (1, .ref v1)] [] h 0 0 := by
    intro n0
    induction n0 with
    | zero => intro j hj; exact absurd hj (Nat.not_lt_zero _)
    | succ n0 ih =>
      intro j hj0 hnn hjn
      refine g_iload_n cx 0 d_21_13_9 rfl rfl ?_
      refine g_aload_n cx 1 d_21_13_10 rfl rfl ?_
      refine g_alenB cx d_21_13_11 hp.1 ?_
      refine g_icmp_ge cx d_21_13_12 rfl (fun c12 => ?_) (fun c12 => ?_)
      · skip
        refine g_iconst cx (v := 1) d_21_13_32 (by decide) ?_
        exact g_iret cx d_21_13_33 rfl rfl ⟨rfl, _, rfl, _, rfl, Or.inr rfl⟩
      · skip
        have hj : j < n := Nat.lt_of_not_le (fun q => c12 (nI_le q (by omega)))
        refine g_aload_n cx 1 d_21_13_15 rfl rfl ?_
        refine g_iload_n cx 0 d_21_13_16 rfl rfl ?_
        refine g_baldB cx d_21_13_17 hp.1 rfl hj (fun b17 => ?_)
        refine g_aload_n cx 2 d_21_13_18 rfl rfl ?_
        refine g_iload_n cx 0 d_21_13_19 rfl rfl ?_
        refine g_baldB cx d_21_13_20 hp.2 rfl (by omega) (fun b20 => ?_)
        refine g_icmp_eq cx d_21_13_21 rfl (fun c21 => ?_) (fun c21 => ?_)
        · skip
          refine g_iinc cx 0 (lv' := [(2, .int (nI (j + 1))), (0, .ref v0), (1, .ref v1)]) d_21_13_26 rfl (inc1 j) (by decide) rfl ?_
          refine g_goto cx d_21_13_29 rfl ?_
          exact ih (j + 1) (by omega) hnn (by omega)
        · skip
          refine g_iconst cx (v := 0) d_21_13_24 (by decide) ?_
          exact g_iret cx d_21_13_25 rfl rfl ⟨rfl, _, rfl, _, rfl, Or.inl rfl⟩
  refine g_aload_n cx 0 d_21_13_0 rfl rfl ?_
  refine g_alenB cx d_21_13_1 hp.1 ?_
  refine g_aload_n cx 1 d_21_13_2 rfl rfl ?_
  refine g_alenB cx d_21_13_3 hp.2 ?_
  refine g_icmp_ne cx d_21_13_4 rfl (fun c4 => ?_) (fun c4 => ?_)
  · skip
    refine g_iconst cx (v := 0) d_21_13_34 (by decide) ?_
    exact g_iret cx d_21_13_35 rfl rfl ⟨rfl, _, rfl, _, rfl, Or.inl rfl⟩
  · skip
    have hnn : n = n' := (nI_eq (by omega) (by omega)).mp c4
    refine g_iconst cx (v := 0) d_21_13_7 (by decide) ?_
    refine g_topi (fun j0 ej0 => ?_)
    obtain rfl : j0 = nI 0 := ej0
    refine g_istore_n cx (lv' := [(2, .int (nI 0)), (0, .ref v0), (1, .ref v1)]) d_21_13_8 rfl (by decide) rfl ?_
    exact lp (n + 1) 0 (by omega) hnn (by omega)
set_option maxHeartbeats 4000000 in
theorem pj_equals {a b n n' : Nat} : PC l y_95 prog_19_method_66_code 3 (Option.some Jvm.ClassFile.FieldType.boolean) 1 D z0 k [.ref a, .ref b] (fun h => (∃ v, StrP D k h a v n) ∧ (∃ v, StrP D k h b v n')) (fun v => ∃ x : Int32, v = some (.int x) ∧ (x = 0 ∨ x = 1)) := by
  refine pc_of (by decide) (Nat.le_of_ble_eq_true rfl) ?_
  intro h hp p e s m args below meth c cx
  obtain ⟨⟨v, hs⟩, ⟨v2, hs2⟩⟩ := hp
  refine g_aload_n cx 0 d_19_66_0 rfl rfl ?_
  refine g_aload_n cx 1 d_19_66_1 rfl rfl ?_
  refine g_acmp_ne cx (rx := (some (a))) (ry := (some (b))) d_19_66_2 rfl (fun c2 => ?_) (fun c2 => ?_)
  · skip
    refine g_aload_n cx 1 d_19_66_7 rfl rfl ?_
    refine g_instS cx d_19_66_8 t_495 hs2 ?_
    refine g_if_eq cx d_19_66_11 rfl (fun c11 => absurd c11 (by decide)) (fun c11 => ?_)
    refine g_aload_n cx 1 d_19_66_14 rfl rfl ?_
    refine g_castS cx d_19_66_15 t_495 hs2 ?_
    refine g_astore_n cx (lv' := [(2, .ref b), (0, .ref a), (1, .ref b)]) d_19_66_18 rfl (by decide) rfl ?_
    refine g_gets cx d_19_66_19 t_398 cx.ee.2.1 ?_
    refine g_if_eq cx d_19_66_22 rfl (fun c22 => absurd c22 (by decide)) (fun c22 => ?_)
    refine g_aload_n cx 1 d_19_66_25 rfl rfl ?_
    refine g_gcS cx d_19_66_26 t_454 hs ?_
    refine g_aload_n cx 0 d_19_66_29 rfl rfl ?_
    refine g_gcS cx d_19_66_30 t_454 hs2 ?_
    refine g_icmp_ne cx d_19_66_33 rfl (fun c33 => absurd rfl c33) (fun c33 => ?_)
    refine g_aload_n cx 1 d_19_66_36 rfl rfl ?_
    refine g_gvS cx d_19_66_37 t_453 hs ?_
    refine g_aload_n cx 0 d_19_66_40 rfl rfl ?_
    refine g_gvS cx d_19_66_41 t_453 hs2 ?_
    refine g_pcS cx (As := [.ref v, .ref v2]) (n := 2) (pj_latEquals0 (n := n) (n' := n')) d_19_66_44 t_496 t_497 t_14 t_498 ⟨by decide, by decide, by decide +kernel⟩ rfl ⟨(StrP.ba hs), (StrP.ba hs2)⟩ ⟨Nat.le_of_ble_eq_true rfl, Nat.le_of_ble_eq_true rfl⟩ (Nat.le_of_ble_eq_true rfl) (fun v44 r44 => ?_)
    obtain ⟨x44, rfl, xb44⟩ := r44
    refine g_if_eq cx d_19_66_47 rfl (fun c47 => ?_) (fun c47 => ?_)
    · skip
      refine g_iconst cx (v := 0) d_19_66_54 (by decide) ?_
      exact g_iret cx d_19_66_55 rfl rfl ⟨rfl, _, rfl, _, rfl, Or.inl rfl⟩
    · skip
      refine g_iconst cx (v := 1) d_19_66_50 (by decide) ?_
      refine g_goto cx d_19_66_51 rfl ?_
      exact g_iret cx d_19_66_55 rfl rfl ⟨rfl, _, rfl, _, rfl, Or.inr rfl⟩
  · skip
    refine g_iconst cx (v := 1) d_19_66_5 (by decide) ?_
    exact g_iret cx d_19_66_6 rfl rfl ⟨rfl, _, rfl, _, rfl, Or.inr rfl⟩
set_option maxHeartbeats 4000000 in
theorem pj_canEncode {v : Int32} (hv : ¬ 255 < v) : PC l y_25 prog_21_method_3_code 1 (Option.some Jvm.ClassFile.FieldType.boolean) 0 D z0 k [.int v] (fun h => True) (fun w => w = some (.int 1)) := by
  refine pc_of (by decide) (Nat.le_of_ble_eq_true rfl) ?_
  intro h hp p e s m args below meth c cx
  refine g_iload_n cx 0 d_21_3_0 rfl rfl ?_
  refine g_sipush cx (v := 255) d_21_3_1 (by decide) ?_
  refine g_icmp_gt cx d_21_3_4 rfl (fun c4 => absurd c4 hv) (fun c4 => ?_)
  refine g_iconst cx (v := 1) d_21_3_7 (by decide) ?_
  refine g_goto cx d_21_3_8 rfl ?_
  exact g_iret cx d_21_3_12 rfl rfl ⟨rfl, _, rfl, rfl⟩
theorem chr_lt {c j : Nat} : chr c j < 128 := Nat.mod_lt _ (by decide)
theorem chr_cF : ∀ m : Fin 128, ((nI m.1 &&& 255).toUInt32 % 65536).toInt32 = nI m.1 := by decide +kernel
theorem chr_c {m : Nat} (h : m < 128) : ((nI m &&& 255).toUInt32 % 65536).toInt32 = nI m := chr_cF ⟨m, h⟩
theorem nar_kF : ∀ m : Fin 128, ((nI m.1).toUInt32 % 65536).toInt32 = nI m.1 := by decide +kernel
theorem nar_k {m : Nat} (h : m < 128) : narrow .char (.int (nI m)) = .int (nI m) := by
  have q := nar_c (nI m)
  rw [nar_kF ⟨m, h⟩] at q
  exact q
def CE (n n' cd ce : Nat) : Prop := n = n' ∧ ∀ i, i < n → chr cd i = chr ce i
set_option maxHeartbeats 4000000 in
theorem pj_latCharF {v0 n j cd : Nat} (hj : j < n) : PC l y_104 prog_21_method_2_code 2 (Option.some Jvm.ClassFile.FieldType.char) 4 D z0 k [.ref v0, .int (nI j)] (fun h => BaF D k h v0 n cd) (fun v => v = some (.int (nI (chr cd j)))) := by
  refine pc_of (by decide) (Nat.le_of_ble_eq_true rfl) ?_
  intro h hp p e s m args below meth c cx
  have hle := hp.ba.le
  refine g_iload_n cx 1 d_21_2_0 rfl rfl ?_
  refine g_aload_n cx 0 d_21_2_1 rfl rfl ?_
  refine g_alenB cx d_21_2_2 hp.ba ?_
  refine g_pcS cx (As := [.int (nI j), .int (nI n)]) (n := 2) (pj_strCheck hj (by omega)) d_21_2_3 t_531 t_214 t_4 t_215 ⟨by decide, by decide, by decide +kernel⟩ rfl trivial ⟨Nat.le_of_ble_eq_true rfl, Nat.le_of_ble_eq_true rfl⟩ (Nat.le_of_ble_eq_true rfl) (fun v3 r3 => ?_)
  subst r3
  refine g_aload_n cx 0 d_21_2_6 rfl rfl ?_
  refine g_iload_n cx 1 d_21_2_7 rfl rfl ?_
  refine g_baldF cx d_21_2_8 hp rfl hj ?_
  refine g_sipush cx (v := 255) d_21_2_9 (by decide) ?_
  refine g_iand cx d_21_2_12 ?_
  refine g_i2c cx d_21_2_13 ?_
  exact g_iret cx d_21_2_14 rfl (nar_c _) ⟨rfl, _, rfl, congrArg (fun z => some (Value.int z)) (chr_c chr_lt)⟩
set_option maxHeartbeats 4000000 in
theorem pj_charF {a n j cd : Nat} (hj : j < n) : PC l y_102 prog_19_method_56_code 2 (Option.some Jvm.ClassFile.FieldType.char) 5 D z0 k [.ref a, .int (nI j)] (fun h => ∃ v, StrP D k h a v n ∧ BaF D k h v n cd) (fun v => v = some (.int (nI (chr cd j)))) := by
  refine pc_of (by decide) (Nat.le_of_ble_eq_true rfl) ?_
  intro h hp p e s m args below meth c cx
  obtain ⟨v, hs, hf⟩ := hp
  refine g_aload_n cx 0 d_19_56_0 rfl rfl ?_
  refine g_pcVS cx (As := []) (n := 0) (pj_isLatin1 (n := n)) d_19_56_1 t_524 t_525 t_526 t_4 t_527 rfl (by decide +kernel) rfl hs ⟨_, hs⟩ ⟨Nat.le_of_ble_eq_true rfl, Nat.le_of_ble_eq_true rfl⟩ (Nat.le_of_ble_eq_true rfl) (fun v1 r1 => ?_)
  subst r1
  refine g_if_eq cx d_19_56_4 rfl (fun c4 => absurd c4 (by decide)) (fun c4 => ?_)
  refine g_aload_n cx 0 d_19_56_7 rfl rfl ?_
  refine g_gvS cx d_19_56_8 t_453 hs ?_
  refine g_iload_n cx 1 d_19_56_11 rfl rfl ?_
  refine g_pcS cx (As := [.ref v, .int (nI j)]) (n := 2) (pj_latCharF (n := n) (j := j) (cd := cd) hj) d_19_56_12 t_528 t_529 t_14 t_530 ⟨by decide, by decide, by decide +kernel⟩ rfl hf ⟨Nat.le_of_ble_eq_true rfl, Nat.le_of_ble_eq_true rfl⟩ (Nat.le_of_ble_eq_true rfl) (fun v12 r12 => ?_)
  subst r12
  exact g_iret cx d_19_56_15 rfl (nar_k chr_lt) ⟨rfl, _, rfl, rfl⟩
theorem stepE {cd ce j i : Nat} (h : ∀ i, i < j → chr cd i = chr ce i) (e : chr cd j = chr ce j) (hi : i < j + 1) : chr cd i = chr ce i := by
  rcases Nat.lt_or_ge i j with q | q
  · exact h i q
  · rw [show i = j by omega]
    exact e
set_option maxHeartbeats 4000000 in
theorem pj_latEqF {v0 v1 n n' cd ce : Nat} : PC l y_96 prog_21_method_13_code 3 (Option.some Jvm.ClassFile.FieldType.boolean) 0 D z0 k [.ref v0, .ref v1] (fun h => BaF D k h v0 n cd ∧ BaF D k h v1 n' ce) (fun v => ∃ x : Int32, v = some (.int x) ∧ ((x = 1 ∧ CE n n' cd ce) ∨ (x = 0 ∧ ¬ CE n n' cd ce))) := by
  refine pc_of (by decide) (Nat.le_of_ble_eq_true rfl) ?_
  intro h hp p e s m args below meth c cx
  have hl0 := hp.1.ba.le
  have hl1 := hp.2.ba.le
  have lp : ∀ (n0 j : Nat), n - j < n0 → n = n' → j ≤ n → (∀ i, i < j → chr cd i = chr ce i) → G p l e (rmT 0 0 0) s m args below meth c 3 D z0 (EE z0 k) (PQ h (fun v => ∃ x : Int32, v = some (.int x) ∧ ((x = 1 ∧ CE n n' cd ce) ∨ (x = 0 ∧ ¬ CE n n' cd ce)))) 0 0 9 [(2, .int (nI j)), (0, .ref v0), (1, .ref v1)] [] h 0 0 := by
    intro n0
    induction n0 with
    | zero => intro j hj; exact absurd hj (Nat.not_lt_zero _)
    | succ n0 ih =>
      intro j hj0 hnn hjn heq
      refine g_iload_n cx 0 d_21_13_9 rfl rfl ?_
      refine g_aload_n cx 1 d_21_13_10 rfl rfl ?_
      refine g_alenB cx d_21_13_11 hp.1.ba ?_
      refine g_icmp_ge cx d_21_13_12 rfl (fun c12 => ?_) (fun c12 => ?_)
      · skip
        have hj : n ≤ j := (nI_leI (by omega) (by omega)).mp c12
        refine g_iconst cx (v := 1) d_21_13_32 (by decide) ?_
        exact g_iret cx d_21_13_33 rfl rfl ⟨rfl, _, rfl, _, rfl, Or.inl ⟨rfl, hnn, fun i hi => heq i (by omega)⟩⟩
      · skip
        have hj : j < n := Nat.lt_of_not_le (fun q => c12 (nI_le q (by omega)))
        refine g_aload_n cx 1 d_21_13_15 rfl rfl ?_
        refine g_iload_n cx 0 d_21_13_16 rfl rfl ?_
        refine g_baldF cx d_21_13_17 hp.1 rfl hj ?_
        refine g_aload_n cx 2 d_21_13_18 rfl rfl ?_
        refine g_iload_n cx 0 d_21_13_19 rfl rfl ?_
        refine g_baldF cx d_21_13_20 hp.2 rfl (by omega) ?_
        refine g_icmp_eq cx d_21_13_21 rfl (fun c21 => ?_) (fun c21 => ?_)
        · skip
          have c21' : chr cd j = chr ce j := (nI_eq (Nat.lt_trans chr_lt (by decide)) (Nat.lt_trans chr_lt (by decide))).mp c21
          refine g_iinc cx 0 (lv' := [(2, .int (nI (j + 1))), (0, .ref v0), (1, .ref v1)]) d_21_13_26 rfl (inc1 j) (by decide) rfl ?_
          refine g_goto cx d_21_13_29 rfl ?_
          exact ih (j + 1) (by omega) hnn (by omega) (fun i hi => stepE heq c21' hi)
        · skip
          refine g_iconst cx (v := 0) d_21_13_24 (by decide) ?_
          exact g_iret cx d_21_13_25 rfl rfl ⟨rfl, _, rfl, _, rfl, Or.inr ⟨rfl, fun q => c21 (congrArg nI (q.2 j hj))⟩⟩
  refine g_aload_n cx 0 d_21_13_0 rfl rfl ?_
  refine g_alenB cx d_21_13_1 hp.1.ba ?_
  refine g_aload_n cx 1 d_21_13_2 rfl rfl ?_
  refine g_alenB cx d_21_13_3 hp.2.ba ?_
  refine g_icmp_ne cx d_21_13_4 rfl (fun c4 => ?_) (fun c4 => ?_)
  · skip
    refine g_iconst cx (v := 0) d_21_13_34 (by decide) ?_
    exact g_iret cx d_21_13_35 rfl rfl ⟨rfl, _, rfl, _, rfl, Or.inr ⟨rfl, fun q => c4 (by rw [q.1])⟩⟩
  · skip
    have hnn : n = n' := (nI_eq (by omega) (by omega)).mp c4
    refine g_iconst cx (v := 0) d_21_13_7 (by decide) ?_
    refine g_topi (fun j0 ej0 => ?_)
    obtain rfl : j0 = nI 0 := ej0
    refine g_istore_n cx (lv' := [(2, .int (nI 0)), (0, .ref v0), (1, .ref v1)]) d_21_13_8 rfl (by decide) rfl ?_
    exact lp (n + 1) 0 (by omega) hnn (by omega) (fun i hi => absurd hi (Nat.not_lt_zero _))
theorem StrP.uniq {D : va_G} {z0 : Nat} {k : Nat → Nat} {h : hp} {a v v2 n n' cd ce : Nat} (hz : ∀ a, a ∈ h.1 → z0 ≤ a) (hk : ∀ i, i < 10 → k (10 + i) < z0) (ha : a ∈ h.1) (s1 : StrP D k h a v n) (f1 : BaF D k h v n cd) (s2 : StrP D k h a v2 n') (f2 : BaF D k h v2 n' ce) (hk3 : ∀ i, i < 10 → k (30 + i) < z0) : CE n n' cd ce := by
  rcases s1 with ⟨x, y, f, g1, g2, g3, g4, g5, g6⟩ | ⟨i, hi, e, -⟩
  · rcases s2 with ⟨x', y', f', k1, k2, k3, k4, k5, k6⟩ | ⟨i, hi, e, -⟩
    · rw [g2] at k2
      simp only [Sum.inr.injEq, Prod.mk.injEq, List.cons.injEq, Value.ref.injEq] at k2
      obtain ⟨-, rfl, -⟩ := k2
      rcases f1 with ⟨q, q1, q2, q3, q4⟩ | ⟨i, hi, e, -⟩
      · rcases f2 with ⟨r, r1, r2, r3, r4⟩ | ⟨i, hi, e, -⟩
        · rw [q2] at r2
          simp only [Sum.inl.injEq, Prod.mk.injEq, true_and] at r2
          obtain ⟨rfl, rfl⟩ := r2
          exact ⟨rfl, fun i hi => (nI_eq (Nat.lt_trans chr_lt (by decide)) (Nat.lt_trans chr_lt (by decide))).mp ((q4 i hi).symm.trans (r4 i hi))⟩
        · exact absurd (hz _ q1) (by rw [e]; exact Nat.not_le.mpr (hk3 i hi))
      · exact absurd (hz _ g3) (by rw [e]; exact Nat.not_le.mpr (hk3 i hi))
    · exact absurd (hz _ ha) (by rw [e]; exact Nat.not_le.mpr (hk i hi))
  · exact absurd (hz _ ha) (by rw [e]; exact Nat.not_le.mpr (hk i hi))
set_option maxHeartbeats 4000000 in
theorem pj_eqF {a b n n' cd ce : Nat} : PC l y_95 prog_19_method_66_code 3 (Option.some Jvm.ClassFile.FieldType.boolean) 1 D z0 k [.ref a, .ref b] (fun h => (a ∈ h.1 ∧ (∀ a, a ∈ h.1 → z0 ≤ a)) ∧ (∃ v, StrP D k h a v n ∧ BaF D k h v n cd) ∧ (∃ v, StrP D k h b v n' ∧ BaF D k h v n' ce)) (fun v => ∃ x : Int32, v = some (.int x) ∧ ((x = 1 ∧ CE n n' cd ce) ∨ (x = 0 ∧ ¬ CE n n' cd ce))) := by
  refine pc_of (by decide) (Nat.le_of_ble_eq_true rfl) ?_
  intro h hp p e s m args below meth c cx
  obtain ⟨⟨ha9, hz⟩, ⟨v, hs, hf⟩, ⟨v2, hs2, hf2⟩⟩ := hp
  refine g_aload_n cx 0 d_19_66_0 rfl rfl ?_
  refine g_aload_n cx 1 d_19_66_1 rfl rfl ?_
  refine g_acmp_ne cx (rx := (some (a))) (ry := (some (b))) d_19_66_2 rfl (fun c2 => ?_) (fun c2 => ?_)
  · skip
    refine g_aload_n cx 1 d_19_66_7 rfl rfl ?_
    refine g_instS cx d_19_66_8 t_495 hs2 ?_
    refine g_if_eq cx d_19_66_11 rfl (fun c11 => absurd c11 (by decide)) (fun c11 => ?_)
    refine g_aload_n cx 1 d_19_66_14 rfl rfl ?_
    refine g_castS cx d_19_66_15 t_495 hs2 ?_
    refine g_astore_n cx (lv' := [(2, .ref b), (0, .ref a), (1, .ref b)]) d_19_66_18 rfl (by decide) rfl ?_
    refine g_gets cx d_19_66_19 t_398 cx.ee.2.1 ?_
    refine g_if_eq cx d_19_66_22 rfl (fun c22 => absurd c22 (by decide)) (fun c22 => ?_)
    refine g_aload_n cx 1 d_19_66_25 rfl rfl ?_
    refine g_gcS cx d_19_66_26 t_454 hs ?_
    refine g_aload_n cx 0 d_19_66_29 rfl rfl ?_
    refine g_gcS cx d_19_66_30 t_454 hs2 ?_
    refine g_icmp_ne cx d_19_66_33 rfl (fun c33 => absurd rfl c33) (fun c33 => ?_)
    refine g_aload_n cx 1 d_19_66_36 rfl rfl ?_
    refine g_gvS cx d_19_66_37 t_453 hs ?_
    refine g_aload_n cx 0 d_19_66_40 rfl rfl ?_
    refine g_gvS cx d_19_66_41 t_453 hs2 ?_
    refine g_pcS cx (As := [.ref v, .ref v2]) (n := 2) (pj_latEqF (n := n) (n' := n') (cd := cd) (ce := ce)) d_19_66_44 t_496 t_497 t_14 t_498 ⟨by decide, by decide, by decide +kernel⟩ rfl ⟨hf, hf2⟩ ⟨Nat.le_of_ble_eq_true rfl, Nat.le_of_ble_eq_true rfl⟩ (Nat.le_of_ble_eq_true rfl) (fun v44 r44 => ?_)
    obtain ⟨x44, rfl, xb44⟩ := r44
    refine g_if_eq cx d_19_66_47 rfl (fun c47 => ?_) (fun c47 => ?_)
    · skip
      refine g_iconst cx (v := 0) d_19_66_54 (by decide) ?_
      exact g_iret cx d_19_66_55 rfl rfl ⟨rfl, _, rfl, _, rfl, Or.inr ⟨rfl, (xb44.resolve_left (fun z => by rw [z.1] at c47; exact absurd c47 (by decide))).2⟩⟩
    · skip
      refine g_iconst cx (v := 1) d_19_66_50 (by decide) ?_
      refine g_goto cx d_19_66_51 rfl ?_
      exact g_iret cx d_19_66_55 rfl rfl ⟨rfl, _, rfl, _, rfl, Or.inl ⟨rfl, (xb44.resolve_right (fun z => c47 z.1)).2⟩⟩
  · skip
    refine g_iconst cx (v := 1) d_19_66_5 (by decide) ?_
    exact g_iret cx d_19_66_6 rfl rfl ⟨rfl, _, rfl, _, rfl, Or.inl ⟨rfl, by
  have e9 : a = b := Option.some.inj c2
  subst e9
  exact StrP.uniq hz (fun i hi => (cx.ee.2.2.2.2.2.2.1 i hi).1.lt) ha9 hs hf hs2 hf2 (fun i hi => (cx.ee.2.2.2.2.2.2.1 i hi).2.2.2.choose_spec.1.lt9)⟩⟩
end J1
