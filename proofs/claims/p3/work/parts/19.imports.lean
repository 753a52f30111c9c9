/-! Static methods of the reference; byImports, ownPlace. -/
def SC (l : Launch) (y : MethodName) (cc : ByteArray) (maxL : Nat) (ret : Option FieldType) (lev : Nat) (D : va_G) (z0 : Nat) (E : State → Prop) (as' : List Value) (Rel : Option Value → Prop) : Prop :=
  Ctr l y cc maxL ret (rmL lev) D z0 E (fun as _ => as = as') (fun _ h o h' => ∃ r, o = .returned r ∧ h' = h ∧ Rel r)
abbrev SQp (h0 : hp) (Rel : Option Value → Prop) : Outcome → hp → Prop := fun o h' => ∃ r, o = .returned r ∧ h' = h0 ∧ Rel r
theorem sc_of {l : Launch} {y : MethodName} {cc : ByteArray} {maxL lev : Nat} {ret : Option FieldType} {D : va_G} {z0 : Nat} {E : State → Prop} {as' : List Value} {Rel : Option Value → Prop} (hSt : Stb z0 E) (hy : y.cls = "RealmDeskModel") (hsz : (lg_sl as').length ≤ maxL)
    (body : ∀ (h0 : hp) (p : Program) (e : Env) (s : State) (m : MethodId) (args : Array Value) (below : List Frame) (meth : Method) (c : Code), Cx p (rmL lev) s m args meth c cc "RealmDeskModel" maxL ret D z0 E 0 0 →
      G p l e (rmL lev) s m args below meth c maxL D z0 E (SQp h0 Rel) 0 0 0 (lv_args 0 as') [] h0 0 0) : SC l y cc maxL ret lev D z0 E as' Rel := by
  refine ctr_of hSt (by rw [hy]; decide) (fun as h q => by rw [q]; exact hsz) ?_
  intro as h q p e s m args below meth c cx
  subst q
  rw [hy] at cx
  exact body h p e s m args below meth c cx
section MS8
variable {p : Program} {l : Launch} {e : Env} {R : Room} {s : State} {m : MethodId} {args : Array Value} {below : List Frame} {meth : Method} {c : Code} {cc : ByteArray} {own : String} {nL : Nat} {ret : Option FieldType} {D : va_G} {z0 : Nat} {E : State → Prop} {Qp : Outcome → hp → Prop} {mc ms pc : Nat} {lv lv' : List (Nat × Value)} {st rest : List Value} {h : hp} {rc rs : Nat}
theorem m_callS (lev : Nat) (C : Cx p R s m args meth c cc "RealmDeskModel" nL ret D z0 E mc ms) {idx n maxL' lev' : Nat} {y : MethodName} {cc' : ByteArray} {ret' : Option FieldType} {As : List Value} {Rel' : Option Value → Prop} (hc : SC l y cc' maxL' ret' lev' D z0 E As Rel') (hd : decode cc pc = .ok (.invokestatic idx, 3)) (w1 : Cond.methodLink "RealmDeskModel" idx y ∈ lw_g) (w2 : Cond.static y ∈ lw_g) (w5 : Cond.code y cc' maxL' ret' ∈ lw_g) (hy : y.cls = "RealmDeskModel") (hn : As.length = n ∧ (parseMethodDescriptor y.desc).map (fun d => d.parameters.length) = some n) (hR : R = rmL lev) (hlev : lev' + 1 ≤ lev ∧ maxL' ≤ 41) (hW : (rest.map fun v => v.category).sum ≤ 8)
    (kr : ∀ (v : Option Value), Rel' v → G p l e R s m args below meth c nL D z0 E Qp mc ms (pc + 3) lv (v.toList ++ rest) h rc rs) : G p l e R s m args below meth c nL D z0 E Qp mc ms pc lv (As.reverse ++ rest) h rc rs := by
  subst hR
  refine g_callS C hc hd w1 w2 (by rw [hy]; exact t_9) w5 ⟨by rw [hy]; decide, by rw [hy]; decide, hn.2⟩ hn.1 rfl ⟨hlev.1, by show 8 + (maxL' + 11) + 60 * lev' ≤ 60 * lev; omega⟩ hW ⟨Nat.zero_le _, Nat.zero_le _⟩ ?_ ?_
  · intro v h' hq
    obtain ⟨r, e, rfl, hrel⟩ := hq
    cases e
    exact kr v hrel
  · intro z h' hq
    obtain ⟨r, e, -⟩ := hq
    cases e
end MS8
section M8
variable {l : Launch} {D : va_G} {z0 : Nat} {E : State → Prop} {am : Nat} {ad : Nat → Nat}
set_option maxHeartbeats 4000000 in
theorem sc_lettersOf (hSt : Stb z0 E) (V : Int64) : SC l y_184 prog_8_method_23_code 4 (Option.some Jvm.ClassFile.FieldType.int) 0 D z0 E [.long V] (fun r => ∃ v, r = some (.int v)) := by
  refine sc_of hSt rfl (Nat.le_of_ble_eq_true rfl) ?_
  intro h0 p e s m args below meth c cx
  have lp : ∀ (n j : Nat) (z : Int32), j ≤ 4 → 4 - j < n → G p l e (rmL 0) s m args below meth c 4 D z0 E (SQp h0 (fun r => ∃ v, r = some (.int v))) 0 0 4 [(3, .int (nI (5 * j))), (2, .int z), (0, .long V)] [] h0 0 0 := by
    intro n
    induction n with
    | zero => intro j z hj0 hn; exact absurd hn (Nat.not_lt_zero _)
    | succ n ih =>
      intro j z hj0 hn
      refine g_iload_n cx 0 d_8_23_4 rfl rfl ?_
      refine g_bipush cx (v := 20) d_8_23_5 (by decide) ?_
      refine g_icmp_ge cx d_8_23_7 rfl (fun c7 => ?_) (fun c7 => ?_)
      · skip
        refine g_iload_n cx 1 d_8_23_37 rfl rfl ?_
        exact g_iret cx d_8_23_38 rfl rfl ⟨_, rfl, rfl, _, rfl⟩
      · skip
        have hj : 5 * j < 20 := Nat.lt_of_not_le (fun q => c7 (nI_le (a := 20) q (by omega)))
        refine g_lload_n cx 2 d_8_23_10 rfl rfl ?_
        refine g_iload_n cx 0 d_8_23_11 rfl rfl ?_
        refine g_lshr cx d_8_23_12 ?_
        refine g_ldc2 cx d_8_23_13 t_1105 ?_
        refine g_land cx d_8_23_16 ?_
        refine g_lconst cx (v := 0) d_8_23_17 (by decide) ?_
        refine g_lcmp cx d_8_23_18 ?_
        refine g_if_le cx d_8_23_19 rfl (fun c19 => ?_) (fun c19 => ?_)
        · skip
          refine g_iload_n cx 1 d_8_23_28 rfl rfl ?_
          refine g_topi (fun z1 ez1 => ?_)
          refine g_istore_n cx (lv' := [(2, .int z1), (3, .int (nI (5 * j))), (0, .long V)]) d_8_23_29 rfl (by decide) rfl ?_
          refine g_iload_n cx 1 d_8_23_30 rfl rfl ?_
          refine g_iconst cx (v := 5) d_8_23_31 (by decide) ?_
          refine g_iadd cx d_8_23_32 ?_
          refine g_topi (fun k1 ek1 => ?_)
          obtain rfl : k1 = nI (5 * (j + 1)) := ek1.trans ((nI_add (5 * j) 5).trans (congrArg nI (by omega)))
          refine g_istore_n cx (lv' := [(3, .int (nI (5 * (j + 1)))), (2, .int z1), (0, .long V)]) d_8_23_33 rfl (by decide) rfl ?_
          refine g_goto cx d_8_23_34 rfl ?_
          exact ih (j + 1) z1 (by omega) (by omega)
        · skip
          refine g_iload_n cx 1 d_8_23_22 rfl rfl ?_
          refine g_iconst cx (v := 1) d_8_23_23 (by decide) ?_
          refine g_iadd cx d_8_23_24 ?_
          refine g_goto cx d_8_23_25 rfl ?_
          refine g_topi (fun z1 ez1 => ?_)
          refine g_istore_n cx (lv' := [(2, .int z1), (3, .int (nI (5 * j))), (0, .long V)]) d_8_23_29 rfl (by decide) rfl ?_
          refine g_iload_n cx 1 d_8_23_30 rfl rfl ?_
          refine g_iconst cx (v := 5) d_8_23_31 (by decide) ?_
          refine g_iadd cx d_8_23_32 ?_
          refine g_topi (fun k1 ek1 => ?_)
          obtain rfl : k1 = nI (5 * (j + 1)) := ek1.trans ((nI_add (5 * j) 5).trans (congrArg nI (by omega)))
          refine g_istore_n cx (lv' := [(3, .int (nI (5 * (j + 1)))), (2, .int z1), (0, .long V)]) d_8_23_33 rfl (by decide) rfl ?_
          refine g_goto cx d_8_23_34 rfl ?_
          exact ih (j + 1) z1 (by omega) (by omega)
  refine g_iconst cx (v := 0) d_8_23_0 (by decide) ?_
  refine g_topi (fun z0' ez0' => ?_)
  refine g_istore_n cx (lv' := [(2, .int z0'), (0, .long V)]) d_8_23_1 rfl (by decide) rfl ?_
  refine g_iconst cx (v := 0) d_8_23_2 (by decide) ?_
  refine g_topi (fun k0 ek0 => ?_)
  obtain rfl : k0 = nI (5 * 0) := ek0
  refine g_istore_n cx (lv' := [(3, .int (nI (5 * 0))), (2, .int z0'), (0, .long V)]) d_8_23_3 rfl (by decide) rfl ?_
  exact lp 5 0 z0' (by omega) (by omega)
set_option maxHeartbeats 4000000 in
theorem sc_size (hSt : Stb z0 E) (V : Int64) : SC l y_183 prog_8_method_24_code 6 (Option.some Jvm.ClassFile.FieldType.int) 1 D z0 E [.long V] (fun r => ∃ v, r = some (.int v)) := by
  refine sc_of hSt rfl (Nat.le_of_ble_eq_true rfl) ?_
  intro h0 p e s m args below meth c cx
  refine g_lload_n cx 0 d_8_24_0 rfl rfl ?_
  refine g_bipush cx (v := 20) d_8_24_1 (by decide) ?_
  refine g_lshr cx d_8_24_3 ?_
  refine g_ldc2 cx d_8_24_4 t_1101 ?_
  refine g_land cx d_8_24_7 ?_
  refine g_topl (fun B eB => ?_)
  refine g_lstore_n cx (lv' := [(2, .long B), (0, .long V)]) d_8_24_8 rfl (by decide) rfl ?_
  refine g_lload_n cx 1 d_8_24_9 rfl rfl ?_
  refine g_ldc2 cx d_8_24_10 t_1101 ?_
  refine g_land cx d_8_24_13 ?_
  refine g_topl (fun C9 eC9 => ?_)
  refine g_lstore cx (lv' := [(4, .long C9), (2, .long B), (0, .long V)]) d_8_24_14 (by decide) rfl ?_
  refine g_lload_n cx 2 d_8_24_16 rfl rfl ?_
  refine g_bipush cx (v := 40) d_8_24_17 (by decide) ?_
  refine g_lshr cx d_8_24_19 ?_
  refine m_callS 1 cx (As := [.long _]) (n := 1) (sc_lettersOf hSt _) d_8_24_20 t_1102 t_1103 t_1104 rfl ⟨rfl, by decide +kernel⟩ rfl ⟨by decide, by decide⟩ (Nat.le_of_ble_eq_true rfl) (fun v20 r20 => ?_)
  obtain ⟨u20, rfl⟩ := r20
  refine g_lload_n cx 1 d_8_24_23 rfl rfl ?_
  refine g_lconst cx (v := 0) d_8_24_24 (by decide) ?_
  refine g_lcmp cx d_8_24_25 ?_
  refine g_if_le cx d_8_24_26 rfl (fun c26 => ?_) (fun c26 => ?_)
  · skip
    refine g_iconst cx (v := 0) d_8_24_38 (by decide) ?_
    refine g_iadd cx d_8_24_39 ?_
    refine g_lload cx 0 d_8_24_40 rfl ?_
    refine g_lconst cx (v := 0) d_8_24_42 (by decide) ?_
    refine g_lcmp cx d_8_24_43 ?_
    refine g_if_le cx d_8_24_44 rfl (fun c44 => ?_) (fun c44 => ?_)
    · skip
      refine g_iconst cx (v := 0) d_8_24_57 (by decide) ?_
      refine g_iadd cx d_8_24_58 ?_
      exact g_iret cx d_8_24_59 rfl rfl ⟨_, rfl, rfl, _, rfl⟩
    · skip
      refine g_iconst cx (v := 1) d_8_24_47 (by decide) ?_
      refine g_lload cx 0 d_8_24_48 rfl ?_
      refine m_callS 1 cx (As := [.long _]) (n := 1) (sc_lettersOf hSt _) d_8_24_50 t_1102 t_1103 t_1104 rfl ⟨rfl, by decide +kernel⟩ rfl ⟨by decide, by decide⟩ (Nat.le_of_ble_eq_true rfl) (fun v50 r50 => ?_)
      obtain ⟨u50, rfl⟩ := r50
      refine g_iadd cx d_8_24_53 ?_
      refine g_goto cx d_8_24_54 rfl ?_
      refine g_iadd cx d_8_24_58 ?_
      exact g_iret cx d_8_24_59 rfl rfl ⟨_, rfl, rfl, _, rfl⟩
  · skip
    refine g_iconst cx (v := 1) d_8_24_29 (by decide) ?_
    refine g_lload_n cx 1 d_8_24_30 rfl rfl ?_
    refine m_callS 1 cx (As := [.long _]) (n := 1) (sc_lettersOf hSt _) d_8_24_31 t_1102 t_1103 t_1104 rfl ⟨rfl, by decide +kernel⟩ rfl ⟨by decide, by decide⟩ (Nat.le_of_ble_eq_true rfl) (fun v31 r31 => ?_)
    obtain ⟨u31, rfl⟩ := r31
    refine g_iadd cx d_8_24_34 ?_
    refine g_goto cx d_8_24_35 rfl ?_
    refine g_iadd cx d_8_24_39 ?_
    refine g_lload cx 0 d_8_24_40 rfl ?_
    refine g_lconst cx (v := 0) d_8_24_42 (by decide) ?_
    refine g_lcmp cx d_8_24_43 ?_
    refine g_if_le cx d_8_24_44 rfl (fun c44 => ?_) (fun c44 => ?_)
    · skip
      refine g_iconst cx (v := 0) d_8_24_57 (by decide) ?_
      refine g_iadd cx d_8_24_58 ?_
      exact g_iret cx d_8_24_59 rfl rfl ⟨_, rfl, rfl, _, rfl⟩
    · skip
      refine g_iconst cx (v := 1) d_8_24_47 (by decide) ?_
      refine g_lload cx 0 d_8_24_48 rfl ?_
      refine m_callS 1 cx (As := [.long _]) (n := 1) (sc_lettersOf hSt _) d_8_24_50 t_1102 t_1103 t_1104 rfl ⟨rfl, by decide +kernel⟩ rfl ⟨by decide, by decide⟩ (Nat.le_of_ble_eq_true rfl) (fun v50 r50 => ?_)
      obtain ⟨u50, rfl⟩ := r50
      refine g_iadd cx d_8_24_53 ?_
      refine g_goto cx d_8_24_54 rfl ?_
      refine g_iadd cx d_8_24_58 ?_
      exact g_iret cx d_8_24_59 rfl rfl ⟨_, rfl, rfl, _, rfl⟩
set_option maxHeartbeats 4000000 in
theorem sc_liesIn (hSt : Stb z0 E) (V U : Int64) : SC l y_185 prog_8_method_25_code 6 (Option.some Jvm.ClassFile.FieldType.boolean) 0 D z0 E [.long V, .long U] (fun r => r = some (.int 1) ∨ r = some (.int 0)) := by
  refine sc_of hSt rfl (Nat.le_of_ble_eq_true rfl) ?_
  intro h0 p e s m args below meth c cx
  refine g_lload_n cx 1 d_8_25_0 rfl rfl ?_
  refine g_bipush cx (v := 20) d_8_25_1 (by decide) ?_
  refine g_lshr cx d_8_25_3 ?_
  refine g_ldc2 cx d_8_25_4 t_1101 ?_
  refine g_land cx d_8_25_7 ?_
  refine g_lconst cx (v := 0) d_8_25_8 (by decide) ?_
  refine g_lcmp cx d_8_25_9 ?_
  refine g_if_le cx d_8_25_10 rfl (fun c10 => ?_) (fun c10 => ?_)
  · skip
    refine g_iconst cx (v := 0) d_8_25_17 (by decide) ?_
    refine g_topi (fun s2 es2 => ?_)
    refine g_istore cx (lv' := [(4, .int s2), (0, .long V), (2, .long U)]) d_8_25_18 (by decide) rfl ?_
    refine g_lload_n cx 2 d_8_25_20 rfl rfl ?_
    refine g_ldc2 cx d_8_25_21 t_1101 ?_
    refine g_land cx d_8_25_24 ?_
    refine g_lconst cx (v := 0) d_8_25_25 (by decide) ?_
    refine g_lcmp cx d_8_25_26 ?_
    refine g_if_le cx d_8_25_27 rfl (fun c27 => ?_) (fun c27 => ?_)
    · skip
      refine g_iconst cx (v := 0) d_8_25_34 (by decide) ?_
      refine g_topi (fun s3 es3 => ?_)
      refine g_istore cx (lv' := [(5, .int s3), (4, .int s2), (0, .long V), (2, .long U)]) d_8_25_35 (by decide) rfl ?_
      refine g_iload cx 0 d_8_25_37 rfl ?_
      refine g_if_eq cx d_8_25_39 rfl (fun c39 => ?_) (fun c39 => ?_)
      · skip
        refine g_iload cx 1 d_8_25_56 rfl ?_
        refine g_if_eq cx d_8_25_58 rfl (fun c58 => ?_) (fun c58 => ?_)
        · skip
          refine g_lload_n cx 2 d_8_25_81 rfl rfl ?_
          refine g_bipush cx (v := 40) d_8_25_82 (by decide) ?_
          refine g_lshr cx d_8_25_84 ?_
          refine g_lload_n cx 3 d_8_25_85 rfl rfl ?_
          refine g_bipush cx (v := 40) d_8_25_86 (by decide) ?_
          refine g_lshr cx d_8_25_88 ?_
          refine g_lcmp cx d_8_25_89 ?_
          refine g_if_ne cx d_8_25_90 rfl (fun c90 => ?_) (fun c90 => ?_)
          · skip
            refine g_iconst cx (v := 0) d_8_25_97 (by decide) ?_
            first
              | exact g_iret cx d_8_25_98 rfl rfl ⟨_, rfl, rfl, Or.inl rfl⟩
              | exact g_iret cx d_8_25_98 rfl rfl ⟨_, rfl, rfl, Or.inr rfl⟩
          · skip
            refine g_iconst cx (v := 1) d_8_25_93 (by decide) ?_
            refine g_goto cx d_8_25_94 rfl ?_
            first
              | exact g_iret cx d_8_25_98 rfl rfl ⟨_, rfl, rfl, Or.inl rfl⟩
              | exact g_iret cx d_8_25_98 rfl rfl ⟨_, rfl, rfl, Or.inr rfl⟩
        · skip
          refine g_lload_n cx 2 d_8_25_61 rfl rfl ?_
          refine g_bipush cx (v := 20) d_8_25_62 (by decide) ?_
          refine g_lshr cx d_8_25_64 ?_
          refine g_lload_n cx 3 d_8_25_65 rfl rfl ?_
          refine g_bipush cx (v := 20) d_8_25_66 (by decide) ?_
          refine g_lshr cx d_8_25_68 ?_
          refine g_lcmp cx d_8_25_69 ?_
          refine g_if_ne cx d_8_25_70 rfl (fun c70 => ?_) (fun c70 => ?_)
          · skip
            refine g_iconst cx (v := 0) d_8_25_77 (by decide) ?_
            refine g_goto cx d_8_25_78 rfl ?_
            first
              | exact g_iret cx d_8_25_98 rfl rfl ⟨_, rfl, rfl, Or.inl rfl⟩
              | exact g_iret cx d_8_25_98 rfl rfl ⟨_, rfl, rfl, Or.inr rfl⟩
          · skip
            refine g_iconst cx (v := 1) d_8_25_73 (by decide) ?_
            refine g_goto cx d_8_25_74 rfl ?_
            first
              | exact g_iret cx d_8_25_98 rfl rfl ⟨_, rfl, rfl, Or.inl rfl⟩
              | exact g_iret cx d_8_25_98 rfl rfl ⟨_, rfl, rfl, Or.inr rfl⟩
      · skip
        refine g_lload_n cx 2 d_8_25_42 rfl rfl ?_
        refine g_lload_n cx 3 d_8_25_43 rfl rfl ?_
        refine g_lcmp cx d_8_25_44 ?_
        refine g_if_ne cx d_8_25_45 rfl (fun c45 => ?_) (fun c45 => ?_)
        · skip
          refine g_iconst cx (v := 0) d_8_25_52 (by decide) ?_
          refine g_goto cx d_8_25_53 rfl ?_
          first
            | exact g_iret cx d_8_25_98 rfl rfl ⟨_, rfl, rfl, Or.inl rfl⟩
            | exact g_iret cx d_8_25_98 rfl rfl ⟨_, rfl, rfl, Or.inr rfl⟩
        · skip
          refine g_iconst cx (v := 1) d_8_25_48 (by decide) ?_
          refine g_goto cx d_8_25_49 rfl ?_
          first
            | exact g_iret cx d_8_25_98 rfl rfl ⟨_, rfl, rfl, Or.inl rfl⟩
            | exact g_iret cx d_8_25_98 rfl rfl ⟨_, rfl, rfl, Or.inr rfl⟩
    · skip
      refine g_iconst cx (v := 1) d_8_25_30 (by decide) ?_
      refine g_goto cx d_8_25_31 rfl ?_
      refine g_topi (fun s3 es3 => ?_)
      refine g_istore cx (lv' := [(5, .int s3), (4, .int s2), (0, .long V), (2, .long U)]) d_8_25_35 (by decide) rfl ?_
      refine g_iload cx 0 d_8_25_37 rfl ?_
      refine g_if_eq cx d_8_25_39 rfl (fun c39 => ?_) (fun c39 => ?_)
      · skip
        refine g_iload cx 1 d_8_25_56 rfl ?_
        refine g_if_eq cx d_8_25_58 rfl (fun c58 => ?_) (fun c58 => ?_)
        · skip
          refine g_lload_n cx 2 d_8_25_81 rfl rfl ?_
          refine g_bipush cx (v := 40) d_8_25_82 (by decide) ?_
          refine g_lshr cx d_8_25_84 ?_
          refine g_lload_n cx 3 d_8_25_85 rfl rfl ?_
          refine g_bipush cx (v := 40) d_8_25_86 (by decide) ?_
          refine g_lshr cx d_8_25_88 ?_
          refine g_lcmp cx d_8_25_89 ?_
          refine g_if_ne cx d_8_25_90 rfl (fun c90 => ?_) (fun c90 => ?_)
          · skip
            refine g_iconst cx (v := 0) d_8_25_97 (by decide) ?_
            first
              | exact g_iret cx d_8_25_98 rfl rfl ⟨_, rfl, rfl, Or.inl rfl⟩
              | exact g_iret cx d_8_25_98 rfl rfl ⟨_, rfl, rfl, Or.inr rfl⟩
          · skip
            refine g_iconst cx (v := 1) d_8_25_93 (by decide) ?_
            refine g_goto cx d_8_25_94 rfl ?_
            first
              | exact g_iret cx d_8_25_98 rfl rfl ⟨_, rfl, rfl, Or.inl rfl⟩
              | exact g_iret cx d_8_25_98 rfl rfl ⟨_, rfl, rfl, Or.inr rfl⟩
        · skip
          refine g_lload_n cx 2 d_8_25_61 rfl rfl ?_
          refine g_bipush cx (v := 20) d_8_25_62 (by decide) ?_
          refine g_lshr cx d_8_25_64 ?_
          refine g_lload_n cx 3 d_8_25_65 rfl rfl ?_
          refine g_bipush cx (v := 20) d_8_25_66 (by decide) ?_
          refine g_lshr cx d_8_25_68 ?_
          refine g_lcmp cx d_8_25_69 ?_
          refine g_if_ne cx d_8_25_70 rfl (fun c70 => ?_) (fun c70 => ?_)
          · skip
            refine g_iconst cx (v := 0) d_8_25_77 (by decide) ?_
            refine g_goto cx d_8_25_78 rfl ?_
            first
              | exact g_iret cx d_8_25_98 rfl rfl ⟨_, rfl, rfl, Or.inl rfl⟩
              | exact g_iret cx d_8_25_98 rfl rfl ⟨_, rfl, rfl, Or.inr rfl⟩
          · skip
            refine g_iconst cx (v := 1) d_8_25_73 (by decide) ?_
            refine g_goto cx d_8_25_74 rfl ?_
            first
              | exact g_iret cx d_8_25_98 rfl rfl ⟨_, rfl, rfl, Or.inl rfl⟩
              | exact g_iret cx d_8_25_98 rfl rfl ⟨_, rfl, rfl, Or.inr rfl⟩
      · skip
        refine g_lload_n cx 2 d_8_25_42 rfl rfl ?_
        refine g_lload_n cx 3 d_8_25_43 rfl rfl ?_
        refine g_lcmp cx d_8_25_44 ?_
        refine g_if_ne cx d_8_25_45 rfl (fun c45 => ?_) (fun c45 => ?_)
        · skip
          refine g_iconst cx (v := 0) d_8_25_52 (by decide) ?_
          refine g_goto cx d_8_25_53 rfl ?_
          first
            | exact g_iret cx d_8_25_98 rfl rfl ⟨_, rfl, rfl, Or.inl rfl⟩
            | exact g_iret cx d_8_25_98 rfl rfl ⟨_, rfl, rfl, Or.inr rfl⟩
        · skip
          refine g_iconst cx (v := 1) d_8_25_48 (by decide) ?_
          refine g_goto cx d_8_25_49 rfl ?_
          first
            | exact g_iret cx d_8_25_98 rfl rfl ⟨_, rfl, rfl, Or.inl rfl⟩
            | exact g_iret cx d_8_25_98 rfl rfl ⟨_, rfl, rfl, Or.inr rfl⟩
  · skip
    refine g_iconst cx (v := 1) d_8_25_13 (by decide) ?_
    refine g_goto cx d_8_25_14 rfl ?_
    refine g_topi (fun s2 es2 => ?_)
    refine g_istore cx (lv' := [(4, .int s2), (0, .long V), (2, .long U)]) d_8_25_18 (by decide) rfl ?_
    refine g_lload_n cx 2 d_8_25_20 rfl rfl ?_
    refine g_ldc2 cx d_8_25_21 t_1101 ?_
    refine g_land cx d_8_25_24 ?_
    refine g_lconst cx (v := 0) d_8_25_25 (by decide) ?_
    refine g_lcmp cx d_8_25_26 ?_
    refine g_if_le cx d_8_25_27 rfl (fun c27 => ?_) (fun c27 => ?_)
    · skip
      refine g_iconst cx (v := 0) d_8_25_34 (by decide) ?_
      refine g_topi (fun s3 es3 => ?_)
      refine g_istore cx (lv' := [(5, .int s3), (4, .int s2), (0, .long V), (2, .long U)]) d_8_25_35 (by decide) rfl ?_
      refine g_iload cx 0 d_8_25_37 rfl ?_
      refine g_if_eq cx d_8_25_39 rfl (fun c39 => ?_) (fun c39 => ?_)
      · skip
        refine g_iload cx 1 d_8_25_56 rfl ?_
        refine g_if_eq cx d_8_25_58 rfl (fun c58 => ?_) (fun c58 => ?_)
        · skip
          refine g_lload_n cx 2 d_8_25_81 rfl rfl ?_
          refine g_bipush cx (v := 40) d_8_25_82 (by decide) ?_
          refine g_lshr cx d_8_25_84 ?_
          refine g_lload_n cx 3 d_8_25_85 rfl rfl ?_
          refine g_bipush cx (v := 40) d_8_25_86 (by decide) ?_
          refine g_lshr cx d_8_25_88 ?_
          refine g_lcmp cx d_8_25_89 ?_
          refine g_if_ne cx d_8_25_90 rfl (fun c90 => ?_) (fun c90 => ?_)
          · skip
            refine g_iconst cx (v := 0) d_8_25_97 (by decide) ?_
            first
              | exact g_iret cx d_8_25_98 rfl rfl ⟨_, rfl, rfl, Or.inl rfl⟩
              | exact g_iret cx d_8_25_98 rfl rfl ⟨_, rfl, rfl, Or.inr rfl⟩
          · skip
            refine g_iconst cx (v := 1) d_8_25_93 (by decide) ?_
            refine g_goto cx d_8_25_94 rfl ?_
            first
              | exact g_iret cx d_8_25_98 rfl rfl ⟨_, rfl, rfl, Or.inl rfl⟩
              | exact g_iret cx d_8_25_98 rfl rfl ⟨_, rfl, rfl, Or.inr rfl⟩
        · skip
          refine g_lload_n cx 2 d_8_25_61 rfl rfl ?_
          refine g_bipush cx (v := 20) d_8_25_62 (by decide) ?_
          refine g_lshr cx d_8_25_64 ?_
          refine g_lload_n cx 3 d_8_25_65 rfl rfl ?_
          refine g_bipush cx (v := 20) d_8_25_66 (by decide) ?_
          refine g_lshr cx d_8_25_68 ?_
          refine g_lcmp cx d_8_25_69 ?_
          refine g_if_ne cx d_8_25_70 rfl (fun c70 => ?_) (fun c70 => ?_)
          · skip
            refine g_iconst cx (v := 0) d_8_25_77 (by decide) ?_
            refine g_goto cx d_8_25_78 rfl ?_
            first
              | exact g_iret cx d_8_25_98 rfl rfl ⟨_, rfl, rfl, Or.inl rfl⟩
              | exact g_iret cx d_8_25_98 rfl rfl ⟨_, rfl, rfl, Or.inr rfl⟩
          · skip
            refine g_iconst cx (v := 1) d_8_25_73 (by decide) ?_
            refine g_goto cx d_8_25_74 rfl ?_
            first
              | exact g_iret cx d_8_25_98 rfl rfl ⟨_, rfl, rfl, Or.inl rfl⟩
              | exact g_iret cx d_8_25_98 rfl rfl ⟨_, rfl, rfl, Or.inr rfl⟩
      · skip
        refine g_lload_n cx 2 d_8_25_42 rfl rfl ?_
        refine g_lload_n cx 3 d_8_25_43 rfl rfl ?_
        refine g_lcmp cx d_8_25_44 ?_
        refine g_if_ne cx d_8_25_45 rfl (fun c45 => ?_) (fun c45 => ?_)
        · skip
          refine g_iconst cx (v := 0) d_8_25_52 (by decide) ?_
          refine g_goto cx d_8_25_53 rfl ?_
          first
            | exact g_iret cx d_8_25_98 rfl rfl ⟨_, rfl, rfl, Or.inl rfl⟩
            | exact g_iret cx d_8_25_98 rfl rfl ⟨_, rfl, rfl, Or.inr rfl⟩
        · skip
          refine g_iconst cx (v := 1) d_8_25_48 (by decide) ?_
          refine g_goto cx d_8_25_49 rfl ?_
          first
            | exact g_iret cx d_8_25_98 rfl rfl ⟨_, rfl, rfl, Or.inl rfl⟩
            | exact g_iret cx d_8_25_98 rfl rfl ⟨_, rfl, rfl, Or.inr rfl⟩
    · skip
      refine g_iconst cx (v := 1) d_8_25_30 (by decide) ?_
      refine g_goto cx d_8_25_31 rfl ?_
      refine g_topi (fun s3 es3 => ?_)
      refine g_istore cx (lv' := [(5, .int s3), (4, .int s2), (0, .long V), (2, .long U)]) d_8_25_35 (by decide) rfl ?_
      refine g_iload cx 0 d_8_25_37 rfl ?_
      refine g_if_eq cx d_8_25_39 rfl (fun c39 => ?_) (fun c39 => ?_)
      · skip
        refine g_iload cx 1 d_8_25_56 rfl ?_
        refine g_if_eq cx d_8_25_58 rfl (fun c58 => ?_) (fun c58 => ?_)
        · skip
          refine g_lload_n cx 2 d_8_25_81 rfl rfl ?_
          refine g_bipush cx (v := 40) d_8_25_82 (by decide) ?_
          refine g_lshr cx d_8_25_84 ?_
          refine g_lload_n cx 3 d_8_25_85 rfl rfl ?_
          refine g_bipush cx (v := 40) d_8_25_86 (by decide) ?_
          refine g_lshr cx d_8_25_88 ?_
          refine g_lcmp cx d_8_25_89 ?_
          refine g_if_ne cx d_8_25_90 rfl (fun c90 => ?_) (fun c90 => ?_)
          · skip
            refine g_iconst cx (v := 0) d_8_25_97 (by decide) ?_
            first
              | exact g_iret cx d_8_25_98 rfl rfl ⟨_, rfl, rfl, Or.inl rfl⟩
              | exact g_iret cx d_8_25_98 rfl rfl ⟨_, rfl, rfl, Or.inr rfl⟩
          · skip
            refine g_iconst cx (v := 1) d_8_25_93 (by decide) ?_
            refine g_goto cx d_8_25_94 rfl ?_
            first
              | exact g_iret cx d_8_25_98 rfl rfl ⟨_, rfl, rfl, Or.inl rfl⟩
              | exact g_iret cx d_8_25_98 rfl rfl ⟨_, rfl, rfl, Or.inr rfl⟩
        · skip
          refine g_lload_n cx 2 d_8_25_61 rfl rfl ?_
          refine g_bipush cx (v := 20) d_8_25_62 (by decide) ?_
          refine g_lshr cx d_8_25_64 ?_
          refine g_lload_n cx 3 d_8_25_65 rfl rfl ?_
          refine g_bipush cx (v := 20) d_8_25_66 (by decide) ?_
          refine g_lshr cx d_8_25_68 ?_
          refine g_lcmp cx d_8_25_69 ?_
          refine g_if_ne cx d_8_25_70 rfl (fun c70 => ?_) (fun c70 => ?_)
          · skip
            refine g_iconst cx (v := 0) d_8_25_77 (by decide) ?_
            refine g_goto cx d_8_25_78 rfl ?_
            first
              | exact g_iret cx d_8_25_98 rfl rfl ⟨_, rfl, rfl, Or.inl rfl⟩
              | exact g_iret cx d_8_25_98 rfl rfl ⟨_, rfl, rfl, Or.inr rfl⟩
          · skip
            refine g_iconst cx (v := 1) d_8_25_73 (by decide) ?_
            refine g_goto cx d_8_25_74 rfl ?_
            first
              | exact g_iret cx d_8_25_98 rfl rfl ⟨_, rfl, rfl, Or.inl rfl⟩
              | exact g_iret cx d_8_25_98 rfl rfl ⟨_, rfl, rfl, Or.inr rfl⟩
      · skip
        refine g_lload_n cx 2 d_8_25_42 rfl rfl ?_
        refine g_lload_n cx 3 d_8_25_43 rfl rfl ?_
        refine g_lcmp cx d_8_25_44 ?_
        refine g_if_ne cx d_8_25_45 rfl (fun c45 => ?_) (fun c45 => ?_)
        · skip
          refine g_iconst cx (v := 0) d_8_25_52 (by decide) ?_
          refine g_goto cx d_8_25_53 rfl ?_
          first
            | exact g_iret cx d_8_25_98 rfl rfl ⟨_, rfl, rfl, Or.inl rfl⟩
            | exact g_iret cx d_8_25_98 rfl rfl ⟨_, rfl, rfl, Or.inr rfl⟩
        · skip
          refine g_iconst cx (v := 1) d_8_25_48 (by decide) ?_
          refine g_goto cx d_8_25_49 rfl ?_
          first
            | exact g_iret cx d_8_25_98 rfl rfl ⟨_, rfl, rfl, Or.inl rfl⟩
            | exact g_iret cx d_8_25_98 rfl rfl ⟨_, rfl, rfl, Or.inr rfl⟩
set_option maxHeartbeats 4000000 in
theorem mc_ownPlace (hSt : Stb z0 E) (hA : Ad am ad) (x : MS) (q : Nat) (nv : Int64) (nm ld : Nat → Nat) (hq : q < 8) (hLd : ILd x ld) (hLo : ILo x) (hNm : INm x nm) : MC l y_188 prog_8_method_30_code 5 (Option.some Jvm.ClassFile.FieldType.int) 2 D z0 E am ad [.int (nI q), .long nv] x (fun r x' => Fx [] [9] [] x x' ∧ ((∃ g, g < 128 ∧ r = some (.int (nI g)) ∧ ∃ b t, b < 6 ∧ t < nm b ∧ nv = x.2.2 10 (6 * b + t)) ∨ r = some (.int (-1)))) := by
  refine mc_of hSt rfl (Nat.le_of_ble_eq_true rfl) ?_
  intro h0 h p e s m args below meth c cx hm hs
  refine g_aload_n cx 0 d_8_30_0 rfl rfl ?_
  refine g_iload_n cx 1 d_8_30_1 rfl rfl ?_
  refine g_lload_n cx 2 d_8_30_2 rfl rfl ?_
  refine m_call 2 cx (As := [.int (nI q), .long nv]) (n := 2) (mc_own hSt hA x q (ld q) nv nm hq (hLd q hq).1 (hLd q hq).2 hLo hNm) d_8_30_3 t_1109 t_1111 ts_49 t_1112 rfl ⟨rfl, by decide +kernel⟩ rfl ⟨by decide, by decide⟩ (Nat.le_of_ble_eq_true rfl) hm hs (fun v3 x3 h hm hs r3 => ?_)
  obtain ⟨e3, r3⟩ := r3
  rw [e3] at hm
  rcases r3 with ⟨g, hg, rfl, j, hj, hjx⟩ | rfl
  · skip
    refine g_topi (fun a1 ea1 => ?_)
    obtain rfl : a1 = nI g := ea1
    refine g_istore cx (lv' := [(4, .int (nI g)), (0, .ref am), (1, .int (nI q)), (2, .long nv)]) d_8_30_6 (by decide) rfl ?_
    refine g_iload cx 0 d_8_30_8 rfl ?_
    refine g_if_ge cx d_8_30_10 rfl (fun c10 => ?_) (fun c10 => absurd (nI_pos' (by omega)) c10)
    refine g_aload_n cx 1 d_8_30_17 rfl rfl ?_
    refine g_iload_n cx 2 d_8_30_18 rfl rfl ?_
    refine g_iload cx 0 d_8_30_19 rfl ?_
    refine m_call 2 cx (As := [.int (nI q), .int (nI g)]) (n := 2) (mc_found hSt hA x (nI q) g hg) d_8_30_21 t_1113 t_1115 ts_50 t_1116 rfl ⟨rfl, by decide +kernel⟩ rfl ⟨by decide, by decide⟩ (Nat.le_of_ble_eq_true rfl) hm hs (fun v21 x21 h hm hs r21 => ?_)
    obtain ⟨rfl, rfl⟩ := r21
    exact m_iret cx d_8_30_24 rfl rfl hm hs ⟨Fx.rf.a (by decide), Or.inl ⟨16 * q + g, by omega, by rw [show (16 : Int32) = nI 16 from rfl, pk_mul, nI_add], g, j, hg, hj, hjx.symm⟩⟩
  · skip
    refine g_topi (fun a1 ea1 => ?_)
    obtain rfl : a1 = -1 := ea1
    refine g_istore cx (lv' := [(4, .int (-1)), (0, .ref am), (1, .int (nI q)), (2, .long nv)]) d_8_30_6 (by decide) rfl ?_
    refine g_iload cx 0 d_8_30_8 rfl ?_
    refine g_if_ge cx d_8_30_10 rfl (fun c10 => absurd c10 (by decide)) (fun c10 => ?_)
    refine g_iconst cx (v := (-1)) d_8_30_13 (by decide) ?_
    refine g_goto cx d_8_30_14 rfl ?_
    exact m_iret cx d_8_30_24 rfl rfl hm hs ⟨Fx.rf, Or.inr rfl⟩
set_option maxHeartbeats 4000000 in
theorem mc_byImports (hSt : Stb z0 E) (hA : Ad am ad) (x : MS) (q : Nat) (nv : Int64) (nm ld : Nat → Nat) (hq : q < 8) (hLd : ILd x ld) (hLo : ILo x) (hNm : INm x nm) (im : Nat → Nat) (mn : Nat) (hIm : IIm x im) (hFr : IFr x) (hMn : x.1 25 = nI mn) (hml : mn < 2 ^ 21) : MC l y_182 prog_8_method_28_code 7 (Option.some Jvm.ClassFile.FieldType.int) 3 D z0 E am ad [.int (nI q), .long nv] x (fun r x' => Fx [25] [9, 28] [] x x' ∧ (∃ mk, x'.1 25 = nI mk ∧ mk ≤ mn + 56) ∧ ((∃ g, g < 128 ∧ r = some (.int (nI g)) ∧ ∃ b t, b < 6 ∧ t < nm b ∧ nv = x.2.2 10 (6 * b + t)) ∨ r = some (.int (-1)))) := by
  refine mc_of hSt rfl (Nat.le_of_ble_eq_true rfl) ?_
  intro h0 h p e s m args below meth c cx hm hs
  have hb : 4 * nI q + x.2.1 15 q = nI (4 * q + im q) := by rw [(hIm q hq).1, show (4 : Int32) = nI 4 from rfl, pk_mul, nI_add]
  have hq4 := (hIm q hq).2
  have lp : ∀ (n sz : Nat) (y : MS) (mk : Nat) (h : hp) (hm : Mo D am ad y h) (hs : Sm am ad h0 h) (hf : Fx [25] [9, 28] [] x y) (hk25 : y.1 25 = nI mk), sz ≤ 14 → mk + 4 * sz ≤ mn + 56 → sz < n → G p l e (rmL 3) s m args below meth c 7 D z0 E (MQp D am ad h0 (fun r x' => Fx [25] [9, 28] [] x x' ∧ (∃ mk, x'.1 25 = nI mk ∧ mk ≤ mn + 56) ∧ ((∃ g, g < 128 ∧ r = some (.int (nI g)) ∧ ∃ b t, b < 6 ∧ t < nm b ∧ nv = x.2.2 10 (6 * b + t)) ∨ r = some (.int (-1))))) 0 0 4 [(4, .int (nI sz)), (0, .ref am), (1, .int (nI q)), (2, .long nv)] [] h 0 0 := by
    intro n
    induction n with
    | zero => intro sz y mk h hm hs hf hk25 h14 hpo hn; exact absurd hn (Nat.not_lt_zero _)
    | succ n ih =>
      intro sz y mk h hm hs hf hk25 h14 hpo hn
      refine g_iload cx 0 d_8_28_4 rfl ?_
      refine g_if_le cx d_8_28_6 rfl (fun c6 => ?_) (fun c6 => ?_)
      · skip
        refine g_iconst cx (v := (-1)) d_8_28_129 (by decide) ?_
        exact m_iret cx d_8_28_130 rfl rfl hm hs ⟨hf, ⟨mk, hk25, by omega⟩, Or.inr rfl⟩
      · skip
        have hsz : 0 < sz := Nat.pos_of_ne_zero (fun z => c6 (by rw [z]; decide))
        have lk : ∀ (n2 k : Nat) (y : MS) (mk : Nat) (h : hp) (hm : Mo D am ad y h) (hs : Sm am ad h0 h) (hf : Fx [25] [9, 28] [] x y) (hk25 : y.1 25 = nI mk), 4 * q ≤ k → k ≤ 4 * q + im q → mk + 4 * (sz - 1) + (4 * q + im q - k) ≤ mn + 56 → 4 * q + im q - k < n2 → G p l e (rmL 3) s m args below meth c 7 D z0 E (MQp D am ad h0 (fun r x' => Fx [25] [9, 28] [] x x' ∧ (∃ mk, x'.1 25 = nI mk ∧ mk ≤ mn + 56) ∧ ((∃ g, g < 128 ∧ r = some (.int (nI g)) ∧ ∃ b t, b < 6 ∧ t < nm b ∧ nv = x.2.2 10 (6 * b + t)) ∨ r = some (.int (-1))))) 0 0 14 [(5, .int (nI k)), (4, .int (nI sz)), (0, .ref am), (1, .int (nI q)), (2, .long nv)] [] h 0 0 := by
          intro n2
          induction n2 with
          | zero => intro k y mk h hm hs hf hk25 hk0 hk1 hpo hn2; exact absurd hn2 (Nat.not_lt_zero _)
          | succ n2 ihk =>
            intro k y mk h hm hs hf hk25 hk0 hk1' hpo hn2
            refine g_iload cx 0 d_8_28_14 rfl ?_
            refine g_iconst cx (v := 4) d_8_28_16 (by decide) ?_
            refine g_iload_n cx 3 d_8_28_17 rfl rfl ?_
            refine g_imul cx d_8_28_18 ?_
            refine g_aload_n cx 2 d_8_28_19 rfl rfl ?_
            refine m_get cx (k := 15) d_8_28_20 t_913 ⟨by decide, rfl⟩ hm rfl ?_
            refine g_iload_n cx 3 d_8_28_23 rfl rfl ?_
            refine m_ld1 cx d_8_28_24 (by decide) hm rfl ⟨(show q < 8 from hq), by decide⟩ ?_
            refine g_iadd cx d_8_28_25 ?_
            refine g_icmp_ge cx d_8_28_26 rfl (fun c26 => ?_) (fun c26 => ?_)
            · skip
              refine g_iinc cx 1 (lv' := [(4, .int (nI (sz - 1))), (5, .int (nI k)), (0, .ref am), (1, .int (nI q)), (2, .long nv)]) d_8_28_123 rfl (by rw [show (Int32.ofInt (-1)) = -1 from rfl]; exact sb_m1 (by omega)) (by decide) rfl ?_
              refine g_goto cx d_8_28_126 rfl ?_
              refine g_loc (lv' := [(4, .int (nI (sz - 1))), (0, .ref am), (1, .int (nI q)), (2, .long nv)]) [0, 2, 3, 4] rfl ?_
              exact ih (sz - 1) y mk h hm hs hf hk25 (by omega) (by omega) (by omega)
            · skip
              have hk : k < 4 * q + im q := Nat.lt_of_not_le (fun z => c26 (by rw [show y.2.1 15 q = x.2.1 15 q from congrFun (hf.2.1 15 (by decide)) q, hb]; exact nI_le z (by omega)))
              obtain ⟨f, hf8, hfx⟩ := hFr k (by omega)
              have hfy : y.2.1 16 k = nI f := (congrFun (hf.2.1 16 (by decide)) k).trans hfx
              refine g_aload_n cx 2 d_8_28_29 rfl rfl ?_
              refine m_get cx (k := 20) d_8_28_30 t_918 ⟨by decide, rfl⟩ hm rfl ?_
              refine g_iload cx 0 d_8_28_33 rfl ?_
              refine m_ld3 cx d_8_28_35 (by decide) hm rfl ⟨(show k < 32 by omega), by decide⟩ ?_
              refine m_callS 3 cx (As := [.long _]) (n := 1) (sc_size hSt _) d_8_28_36 t_1098 t_1099 t_1100 rfl ⟨rfl, by decide +kernel⟩ rfl ⟨by decide, by decide⟩ (Nat.le_of_ble_eq_true rfl) (fun v36 r36 => ?_)
              obtain ⟨u36, rfl⟩ := r36
              refine g_iload cx 1 d_8_28_39 rfl ?_
              refine g_icmp_ne cx d_8_28_41 rfl (fun c41 => ?_) (fun c41 => ?_)
              · skip
                refine g_iinc cx 0 (lv' := [(5, .int (nI (k + 1))), (4, .int (nI sz)), (0, .ref am), (1, .int (nI q)), (2, .long nv)]) d_8_28_117 rfl (inc1 k) (by decide) rfl ?_
                refine g_goto cx d_8_28_120 rfl ?_
                exact ihk (k + 1) y mk h hm hs hf hk25 (by omega) (by omega) (by omega) (by omega)
              · skip
                refine g_lload_n cx 4 d_8_28_44 rfl rfl ?_
                refine g_aload_n cx 2 d_8_28_45 rfl rfl ?_
                refine m_get cx (k := 20) d_8_28_46 t_918 ⟨by decide, rfl⟩ hm rfl ?_
                refine g_iload cx 0 d_8_28_49 rfl ?_
                refine m_ld3 cx d_8_28_51 (by decide) hm rfl ⟨(show k < 32 by omega), by decide⟩ ?_
                refine m_callS 3 cx (As := [.long _, .long _]) (n := 2) (sc_liesIn hSt _ _) d_8_28_52 t_1106 t_1107 t_1108 rfl ⟨rfl, by decide +kernel⟩ rfl ⟨by decide, by decide⟩ (Nat.le_of_ble_eq_true rfl) (fun v52 r52 => ?_)
                rcases r52 with rfl | rfl
                · skip
                  refine g_if_eq cx d_8_28_55 rfl (fun c55 => absurd c55 (by decide)) (fun c55 => ?_)
                  refine g_aload_n cx 2 d_8_28_58 rfl rfl ?_
                  refine m_get cx (k := 22) d_8_28_59 t_920 ⟨by decide, rfl⟩ hm rfl ?_
                  refine g_aload_n cx 2 d_8_28_62 rfl rfl ?_
                  refine m_get cx (k := 16) d_8_28_63 t_914 ⟨by decide, rfl⟩ hm rfl ?_
                  refine g_iload cx 0 d_8_28_66 rfl ?_
                  refine m_ld1 cx d_8_28_68 (by decide) hm rfl ⟨(show k < 32 by omega), by decide⟩ ?_
                  refine m_ld4 cx d_8_28_69 (by decide) hm hfy ⟨(show f < 8 from hf8), by decide⟩ ?_
                  refine g_if_ne cx d_8_28_70 rfl (fun c70 => ?_) (fun c70 => ?_)
                  · skip
                    refine g_iinc cx 0 (lv' := [(5, .int (nI (k + 1))), (4, .int (nI sz)), (0, .ref am), (1, .int (nI q)), (2, .long nv)]) d_8_28_117 rfl (inc1 k) (by decide) rfl ?_
                    refine g_goto cx d_8_28_120 rfl ?_
                    exact ihk (k + 1) y mk h hm hs hf hk25 (by omega) (by omega) (by omega) (by omega)
                  · skip
                    refine g_aload_n cx 2 d_8_28_73 rfl rfl ?_
                    refine g_aload_n cx 2 d_8_28_74 rfl rfl ?_
                    refine m_get cx (k := 16) d_8_28_75 t_914 ⟨by decide, rfl⟩ hm rfl ?_
                    refine g_iload cx 0 d_8_28_78 rfl ?_
                    refine m_ld1 cx d_8_28_80 (by decide) hm rfl ⟨(show k < 32 by omega), by decide⟩ ?_
                    refine g_topi (fun f0 ef0 => ?_)
                    obtain rfl : f0 = nI f := ef0.trans hfy
                    refine m_call 3 cx (As := [.int (nI f)]) (n := 1) (mc_note hSt hA y (nI f) mk hk25 (by omega)) d_8_28_81 t_1090 t_1092 ts_47 t_1093 rfl ⟨rfl, by decide +kernel⟩ rfl ⟨by decide, by decide⟩ (Nat.le_of_ble_eq_true rfl) hm hs (fun v81 x81 h hm hs r81 => ?_)
                    obtain ⟨rfl, ex81⟩ := r81
                    obtain ⟨y1, ey1⟩ : ∃ z, z = x81 := ⟨_, rfl⟩
                    rw [← ey1] at hm ex81
                    have hf1 : Fx [25] [9, 28] [] x y1 := by
                      rw [ex81]
                      by_cases q20 : mk < 20
                      · rw [if_pos q20]; exact (hf.a (by decide)).i (by decide)
                      · rw [if_neg q20]; exact hf.i (by decide)
                    have hk1 : y1.1 25 = nI (mk + 1) := by rw [ex81]; rfl
                    have hfy1 : y1.2.1 16 k = nI f := (congrFun (hf1.2.1 16 (by decide)) k).trans hfx
                    refine g_aload_n cx 2 d_8_28_84 rfl rfl ?_
                    refine g_aload_n cx 2 d_8_28_85 rfl rfl ?_
                    refine m_get cx (k := 16) d_8_28_86 t_914 ⟨by decide, rfl⟩ hm rfl ?_
                    refine g_iload cx 0 d_8_28_89 rfl ?_
                    refine m_ld1 cx d_8_28_91 (by decide) hm rfl ⟨(show k < 32 by omega), by decide⟩ ?_
                    refine g_topi (fun f1 ef1 => ?_)
                    obtain rfl : f1 = nI f := ef1.trans hfy1
                    refine g_lload_n cx 4 d_8_28_92 rfl rfl ?_
                    refine m_call 3 cx (As := [.int (nI f), .long nv]) (n := 2) (mc_own hSt hA y1 f (ld f) nv nm hf8 (by rw [hf1.2.1 13 (by decide)]; exact (hLd f hf8).1) (hLd f hf8).2 (by rw [hf1.2.1 14 (by decide)]; exact hLo) (by rw [hf1.2.1 8 (by decide)]; exact hNm)) d_8_28_93 t_1109 t_1111 ts_49 t_1112 rfl ⟨rfl, by decide +kernel⟩ rfl ⟨by decide, by decide⟩ (Nat.le_of_ble_eq_true rfl) hm hs (fun v93 x93 h hm hs r93 => ?_)
                    obtain ⟨e93, r93⟩ := r93
                    rw [e93] at hm
                    rcases r93 with ⟨g, hg, rfl, j, hj, hjx⟩ | rfl
                    · skip
                      refine g_topi (fun a1 ea1 => ?_)
                      obtain rfl : a1 = nI g := ea1
                      refine g_istore cx (lv' := [(6, .int (nI g)), (5, .int (nI k)), (4, .int (nI sz)), (0, .ref am), (1, .int (nI q)), (2, .long nv)]) d_8_28_96 (by decide) rfl ?_
                      refine g_iload cx 0 d_8_28_98 rfl ?_
                      refine g_if_lt cx d_8_28_100 rfl (fun c100 => absurd c100 (nI_pos (by omega))) (fun c100 => ?_)
                      refine g_aload_n cx 3 d_8_28_103 rfl rfl ?_
                      refine g_aload_n cx 3 d_8_28_104 rfl rfl ?_
                      refine m_get cx (k := 16) d_8_28_105 t_914 ⟨by decide, rfl⟩ hm rfl ?_
                      refine g_iload cx 1 d_8_28_108 rfl ?_
                      refine m_ld1 cx d_8_28_110 (by decide) hm rfl ⟨(show k < 32 by omega), by decide⟩ ?_
                      refine g_topi (fun f2 ef2 => ?_)
                      obtain rfl : f2 = nI f := ef2.trans hfy1
                      refine g_iload cx 0 d_8_28_111 rfl ?_
                      refine m_call 3 cx (As := [.int (nI f), .int (nI g)]) (n := 2) (mc_found hSt hA y1 (nI f) g hg) d_8_28_113 t_1113 t_1115 ts_50 t_1116 rfl ⟨rfl, by decide +kernel⟩ rfl ⟨by decide, by decide⟩ (Nat.le_of_ble_eq_true rfl) hm hs (fun v113 x113 h hm hs r113 => ?_)
                      obtain ⟨rfl, rfl⟩ := r113
                      exact m_iret cx d_8_28_116 rfl rfl hm hs ⟨hf1.a (by decide), ⟨mk + 1, hk1, by omega⟩, Or.inl ⟨16 * f + g, by omega, by rw [show (16 : Int32) = nI 16 from rfl, pk_mul, nI_add], g, j, hg, hj, by rw [← hjx, hf1.2.2 10 (by decide)]⟩⟩
                    · skip
                      refine g_topi (fun a1 ea1 => ?_)
                      obtain rfl : a1 = -1 := ea1
                      refine g_istore cx (lv' := [(6, .int (-1)), (5, .int (nI k)), (4, .int (nI sz)), (0, .ref am), (1, .int (nI q)), (2, .long nv)]) d_8_28_96 (by decide) rfl ?_
                      refine g_iload cx 0 d_8_28_98 rfl ?_
                      refine g_if_lt cx d_8_28_100 rfl (fun c100 => ?_) (fun c100 => absurd (by decide) c100)
                      refine g_iinc cx 1 (lv' := [(5, .int (nI (k + 1))), (6, .int (-1)), (4, .int (nI sz)), (0, .ref am), (1, .int (nI q)), (2, .long nv)]) d_8_28_117 rfl (inc1 k) (by decide) rfl ?_
                      refine g_goto cx d_8_28_120 rfl ?_
                      refine g_loc (lv' := [(5, .int (nI (k + 1))), (4, .int (nI sz)), (0, .ref am), (1, .int (nI q)), (2, .long nv)]) [0, 2, 3, 4, 5] rfl ?_
                      exact ihk (k + 1) y1 (mk + 1) h hm hs hf1 hk1 (by omega) (by omega) (by omega) (by omega)
                · skip
                  refine g_if_eq cx d_8_28_55 rfl (fun c55 => ?_) (fun c55 => absurd rfl c55)
                  refine g_iinc cx 0 (lv' := [(5, .int (nI (k + 1))), (4, .int (nI sz)), (0, .ref am), (1, .int (nI q)), (2, .long nv)]) d_8_28_117 rfl (inc1 k) (by decide) rfl ?_
                  refine g_goto cx d_8_28_120 rfl ?_
                  exact ihk (k + 1) y mk h hm hs hf hk25 (by omega) (by omega) (by omega) (by omega)
        refine g_iconst cx (v := 4) d_8_28_9 (by decide) ?_
        refine g_iload_n cx 2 d_8_28_10 rfl rfl ?_
        refine g_imul cx d_8_28_11 ?_
        refine g_topi (fun k0 ek0 => ?_)
        obtain rfl : k0 = nI (4 * q) := by rw [ek0]; exact pk_mul 4 q
        refine g_istore cx (lv' := [(5, .int (nI (4 * q))), (4, .int (nI sz)), (0, .ref am), (1, .int (nI q)), (2, .long nv)]) d_8_28_12 (by decide) rfl ?_
        exact lk (im q + 1) (4 * q) y mk h hm hs hf hk25 (by omega) (by omega) (by omega) (by omega)
  refine g_bipush cx (v := 14) d_8_28_0 (by decide) ?_
  refine g_topi (fun s0 es0 => ?_)
  obtain rfl : s0 = nI 14 := es0
  refine g_istore cx (lv' := [(4, .int (nI 14)), (0, .ref am), (1, .int (nI q)), (2, .long nv)]) d_8_28_2 (by decide) rfl ?_
  exact lp 15 14 x mn h hm hs Fx.rf hMn (by omega) (by omega) (by omega)
end M8
