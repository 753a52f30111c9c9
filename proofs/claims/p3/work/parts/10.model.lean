/-! The reference's object in the pool: x.1 its whole numbers, x.2.1 its arrays of ints, chars and booleans, x.2.2 its arrays of longs, each by the number of the field. -/
abbrev MS : Type := (Nat → Int32) × (Nat → Nat → Int32) × (Nat → Nat → Int64)
def mkd : Nat → Nat := fun k => match k with
  | 0 => 0
  | 1 => 2
  | 2 => 0
  | 3 => 0
  | 4 => 1
  | 5 => 1
  | 6 => 0
  | 7 => 1
  | 8 => 1
  | 9 => 1
  | 10 => 3
  | 11 => 0
  | 12 => 1
  | 13 => 1
  | 14 => 1
  | 15 => 1
  | 16 => 1
  | 17 => 1
  | 18 => 1
  | 19 => 1
  | 20 => 3
  | 21 => 3
  | 22 => 4
  | 23 => 4
  | 24 => 0
  | 25 => 0
  | 26 => 1
  | 27 => 1
  | _ => 1
def mln : Nat → Nat := fun k => match k with
  | 0 => 0
  | 1 => 30
  | 2 => 0
  | 3 => 0
  | 4 => 15
  | 5 => 15
  | 6 => 0
  | 7 => 6
  | 8 => 6
  | 9 => 6
  | 10 => 36
  | 11 => 0
  | 12 => 8
  | 13 => 8
  | 14 => 32
  | 15 => 8
  | 16 => 32
  | 17 => 8
  | 18 => 8
  | 19 => 288
  | 20 => 32
  | 21 => 288
  | 22 => 8
  | 23 => 8
  | 24 => 0
  | 25 => 0
  | 26 => 8
  | 27 => 8
  | _ => 20
def mfs (ad : Nat → Nat) (x : MS) : List Value := [.int (x.1 0), .ref (ad 1), .int (x.1 2), .int (x.1 3), .ref (ad 4), .ref (ad 5), .int (x.1 6), .ref (ad 7), .ref (ad 8), .ref (ad 9), .ref (ad 10), .int (x.1 11), .ref (ad 12), .ref (ad 13), .ref (ad 14), .ref (ad 15), .ref (ad 16), .ref (ad 17), .ref (ad 18), .ref (ad 19), .ref (ad 20), .ref (ad 21), .ref (ad 22), .ref (ad 23), .int (x.1 24), .int (x.1 25), .ref (ad 26), .ref (ad 27), .ref (ad 28)]
def mcell (D : va_G) (x : MS) (k : Nat) : va_E := match mkd k with
  | 1 => .inl (D.1 100, mln k, .inl (x.2.1 k))
  | 2 => .inl (D.1 101, mln k, .inl (x.2.1 k))
  | 3 => .inl (D.1 102, mln k, .inr (.inl (x.2.2 k)))
  | _ => .inl (D.1 103, mln k, .inl (x.2.1 k))
def Mo (D : va_G) (am : Nat) (ad : Nat → Nat) (x : MS) (h : hp) : Prop := am ∈ h.1 ∧ h.2 am = .inr (9, mfs ad x) ∧ ∀ k, k < 29 → mkd k ≠ 0 → ad k ∈ h.1 ∧ h.2 (ad k) = mcell D x k
def Ad (am : Nat) (ad : Nat → Nat) : Prop := (∀ i j, i < 29 → j < 29 → mkd i ≠ 0 → mkd j ≠ 0 → ad i = ad j → i = j) ∧ ∀ k, k < 29 → mkd k ≠ 0 → ad k ≠ am
def Mi (am : Nat) (ad : Nat → Nat) (b : Nat) : Prop := b = am ∨ ∃ k, k < 29 ∧ mkd k ≠ 0 ∧ b = ad k
/-- nothing but the reference's own cells has changed -/
def Sm (am : Nat) (ad : Nat → Nat) (h0 h : hp) : Prop := h.1 = h0.1 ∧ ∀ b, ¬ Mi am ad b → h.2 b = h0.2 b
theorem Sm.rf {am : Nat} {ad : Nat → Nat} {h : hp} : Sm am ad h h := ⟨rfl, fun _ _ => rfl⟩
theorem Sm.tr {am : Nat} {ad : Nat → Nat} {h0 h1 h2 : hp} (a : Sm am ad h0 h1) (b : Sm am ad h1 h2) : Sm am ad h0 h2 := ⟨b.1.trans a.1, fun q hq => (b.2 q hq).trans (a.2 q hq)⟩
def seti (x : MS) (k : Nat) (v : Int32) : MS := (va_up x.1 k v, x.2)
def seta (x : MS) (k n : Nat) (v : Int32) : MS := (x.1, va_up x.2.1 k (upd (x.2.1 k) n v), x.2.2)
def setl (x : MS) (k n : Nat) (v : Int64) : MS := (x.1, x.2.1, va_up x.2.2 k (vp_updL (x.2.2 k) n v))
theorem mfs_set (ad : Nat → Nat) (x : MS) (v : Int32) (k : Nat) (hk : k < 29) (h0 : mkd k = 0) : (mfs ad x).set k (.int v) = mfs ad (seti x k v) := by
  match k, hk with
  | 0, _ => exact rfl
  | 1, _ => exact absurd h0 (by decide)
  | 2, _ => exact rfl
  | 3, _ => exact rfl
  | 4, _ => exact absurd h0 (by decide)
  | 5, _ => exact absurd h0 (by decide)
  | 6, _ => exact rfl
  | 7, _ => exact absurd h0 (by decide)
  | 8, _ => exact absurd h0 (by decide)
  | 9, _ => exact absurd h0 (by decide)
  | 10, _ => exact absurd h0 (by decide)
  | 11, _ => exact rfl
  | 12, _ => exact absurd h0 (by decide)
  | 13, _ => exact absurd h0 (by decide)
  | 14, _ => exact absurd h0 (by decide)
  | 15, _ => exact absurd h0 (by decide)
  | 16, _ => exact absurd h0 (by decide)
  | 17, _ => exact absurd h0 (by decide)
  | 18, _ => exact absurd h0 (by decide)
  | 19, _ => exact absurd h0 (by decide)
  | 20, _ => exact absurd h0 (by decide)
  | 21, _ => exact absurd h0 (by decide)
  | 22, _ => exact absurd h0 (by decide)
  | 23, _ => exact absurd h0 (by decide)
  | 24, _ => exact rfl
  | 25, _ => exact rfl
  | 26, _ => exact absurd h0 (by decide)
  | 27, _ => exact absurd h0 (by decide)
  | 28, _ => exact absurd h0 (by decide)
  | z + 29, hz => exact absurd hz (by omega)
theorem Mo.puti {D : va_G} {am : Nat} {ad : Nat → Nat} {x : MS} {h h0 : hp} {k : Nat} {v : Int32} (hA : Ad am ad) (hk : k < 29) (hk0 : mkd k = 0) (hm : Mo D am ad x h) (hs : Sm am ad h0 h) : Mo D am ad (seti x k v) (h.1, va_up h.2 am (.inr (9, (mfs ad x).set k (.int v)))) ∧ Sm am ad h0 (h.1, va_up h.2 am (.inr (9, (mfs ad x).set k (.int v)))) := by
  refine ⟨⟨hm.1, ?_, fun j hj hj0 => ⟨(hm.2.2 j hj hj0).1, ?_⟩⟩, hs.1, fun b hb => ?_⟩
  · show va_up h.2 am _ am = _
    rw [mfs_set ad x v k hk hk0]
    simp [va_up]
  · show va_up h.2 am _ (ad j) = _
    rw [va_up_ne _ _ (hA.2 j hj hj0), (hm.2.2 j hj hj0).2]
    rfl
  · show va_up h.2 am _ b = _
    rw [va_up_ne _ _ (fun e => hb (Or.inl e))]
    exact hs.2 b hb
theorem Mo.puta {D : va_G} {am : Nat} {ad : Nat → Nat} {x : MS} {h h0 : hp} {k n : Nat} {v : Int32} (hA : Ad am ad) (hk : k < 29) (hk0 : mkd k = 1 ∨ mkd k = 2 ∨ mkd k = 4) (hm : Mo D am ad x h) (hs : Sm am ad h0 h) : Mo D am ad (seta x k n v) (h.1, va_up h.2 (ad k) (mcell D (seta x k n v) k)) ∧ Sm am ad h0 (h.1, va_up h.2 (ad k) (mcell D (seta x k n v) k)) := by
  have hk1 : mkd k ≠ 0 := by omega
  refine ⟨⟨hm.1, ?_, fun j hj hj0 => ⟨(hm.2.2 j hj hj0).1, ?_⟩⟩, hs.1, fun b hb => ?_⟩
  · show va_up h.2 (ad k) _ am = _
    rw [va_up_ne _ _ (Ne.symm (hA.2 k hk hk1)), hm.2.1]
    rfl
  · show va_up h.2 (ad k) _ (ad j) = _
    by_cases hjk : j = k
    · subst hjk
      simp [va_up]
    · rw [va_up_ne _ _ (fun e => hjk (hA.1 j k hj hk hj0 hk1 e)), (hm.2.2 j hj hj0).2]
      simp [mcell, seta, va_up, hjk]
  · show va_up h.2 (ad k) _ b = _
    rw [va_up_ne _ _ (fun e => hb (Or.inr ⟨k, hk, hk1, e⟩))]
    exact hs.2 b hb
theorem Mo.putl {D : va_G} {am : Nat} {ad : Nat → Nat} {x : MS} {h h0 : hp} {k n : Nat} {v : Int64} (hA : Ad am ad) (hk : k < 29) (hk0 : mkd k = 3) (hm : Mo D am ad x h) (hs : Sm am ad h0 h) : Mo D am ad (setl x k n v) (h.1, va_up h.2 (ad k) (mcell D (setl x k n v) k)) ∧ Sm am ad h0 (h.1, va_up h.2 (ad k) (mcell D (setl x k n v) k)) := by
  have hk1 : mkd k ≠ 0 := by omega
  refine ⟨⟨hm.1, ?_, fun j hj hj0 => ⟨(hm.2.2 j hj hj0).1, ?_⟩⟩, hs.1, fun b hb => ?_⟩
  · show va_up h.2 (ad k) _ am = _
    rw [va_up_ne _ _ (Ne.symm (hA.2 k hk hk1)), hm.2.1]
    rfl
  · show va_up h.2 (ad k) _ (ad j) = _
    by_cases hjk : j = k
    · subst hjk
      simp [va_up]
    · rw [va_up_ne _ _ (fun e => hjk (hA.1 j k hj hk hj0 hk1 e)), (hm.2.2 j hj hj0).2]
      simp [mcell, setl, va_up, hjk]
  · show va_up h.2 (ad k) _ b = _
    rw [va_up_ne _ _ (fun e => hb (Or.inr ⟨k, hk, hk1, e⟩))]
    exact hs.2 b hb
section MR
variable {p : Program} {l : Launch} {e : Env} {R : Room} {s : State} {m : MethodId} {args : Array Value} {below : List Frame} {meth : Method} {c : Code} {cc : ByteArray} {own : String} {nL : Nat} {ret : Option FieldType} {D : va_G} {z0 : Nat} {E : State → Prop} {Qp : Outcome → hp → Prop} {mc ms pc : Nat} {lv lv' : List (Nat × Value)} {st rest : List Value} {h : hp} {rc rs : Nat}
variable {am : Nat} {ad : Nat → Nat} {x : MS} {h0 : hp}
theorem m_get (C : Cx p R s m args meth c cc "RealmDeskModel" nL ret D z0 E mc ms) {k idx : Nat} {v : Value} (hd : decode cc pc = .ok (.getfield idx, 3)) (hw : Cond.fieldLink "RealmDeskModel" idx "RealmDeskModel" (T9 k).2.1 (T9 k).2.2.1 ∈ lw_g) (hk : k < 29 ∧ (T9 k).1 = "RealmDeskModel") (hm : Mo D am ad x h) (hv : (mfs ad x)[k]? = some v) (kk : G p l e R s m args below meth c nL D z0 E Qp mc ms (pc + 3) lv (v :: rest) h rc rs) : G p l e R s m args below meth c nL D z0 E Qp mc ms pc lv (.ref am :: rest) h rc rs := g_getf C hd in9 rfl hk.1 hw (Or.inl hk.2.symm) hm.1 hm.2.1 hv kk
theorem m_put (C : Cx p R s m args meth c cc "RealmDeskModel" nL ret D z0 E mc ms) {k idx : Nat} {v : Int32} (hA : Ad am ad) (hd : decode cc pc = .ok (.putfield idx, 3)) (hw : Cond.fieldLink "RealmDeskModel" idx "RealmDeskModel" (T9 k).2.1 (T9 k).2.2.1 ∈ lw_g) (hk : k < 29 ∧ (T9 k).1 = "RealmDeskModel" ∧ mkd k = 0 ∧ (T9 k).2.2.2 = false ∧ parseFieldDescriptor (T9 k).2.2.1 = some .int) (hm : Mo D am ad x h) (hs : Sm am ad h0 h) (kk : ∀ h : hp, Mo D am ad (seti x k v) h → Sm am ad h0 h → G p l e R s m args below meth c nL D z0 E Qp mc ms (pc + 3) lv rest h rc rs) : G p l e R s m args below meth c nL D z0 E Qp mc ms pc lv (.int v :: .ref am :: rest) h rc rs :=
  g_putf C hd in9 ty9_ok nm9 rfl hk.1 hw (Or.inl hk.2.1.symm) hk.2.2.2.1 hk.2.2.2.2 rfl rfl hm.1 hm.2.1 (by rw [show (mfs ad x).length = 29 from rfl]; exact hk.1) (kk _ (Mo.puti hA hk.1 hk.2.2.1 hm hs).1 (Mo.puti hA hk.1 hk.2.2.1 hm hs).2)
theorem m_ld1 (C : Cx p R s m args meth c cc own nL ret D z0 E mc ms) {k n : Nat} {i : Int32} (hd : decode cc pc = .ok (.iaload, 1)) (hk : k < 29 ∧ mkd k = 1) (hm : Mo D am ad x h) (hi : i = nI n) (hn : n < mln k ∧ mln k < 2 ^ 31) (kk : G p l e R s m args below meth c nL D z0 E Qp mc ms (pc + 1) lv (.int (x.2.1 k n) :: rest) h rc rs) : G p l e R s m args below meth c nL D z0 E Qp mc ms pc lv (.int i :: .ref (ad k) :: rest) h rc rs := by
  subst hi
  obtain ⟨ha, hF⟩ := hm.2.2 k hk.1 (by rw [hk.2]; decide)
  rw [mcell, hk.2] at hF
  refine g_iald C hd ha hF (vp_in_nI hn.1 hn.2) ?_
  rw [nI_clamp (Nat.lt_trans hn.1 hn.2)]
  exact kk
theorem m_st1 (C : Cx p R s m args meth c cc own nL ret D z0 E mc ms) {k n : Nat} {i : Int32} {v : Int32} (hA : Ad am ad) (hd : decode cc pc = .ok (.iastore, 1)) (hk : k < 29 ∧ mkd k = 1) (hm : Mo D am ad x h) (hs : Sm am ad h0 h) (hi : i = nI n) (hn : n < mln k ∧ mln k < 2 ^ 31) (kk : ∀ h : hp, Mo D am ad (seta x k n v) h → Sm am ad h0 h → G p l e R s m args below meth c nL D z0 E Qp mc ms (pc + 1) lv rest h rc rs) : G p l e R s m args below meth c nL D z0 E Qp mc ms pc lv (.int v :: .int i :: .ref (ad k) :: rest) h rc rs := by
  subst hi
  obtain ⟨ha, hF⟩ := hm.2.2 k hk.1 (by rw [hk.2]; decide)
  rw [mcell, hk.2] at hF
  refine g_iast C hd ha hF (vp_in_nI hn.1 hn.2) ?_
  rw [nI_clamp (Nat.lt_trans hn.1 hn.2)]
  have h9 := Mo.puta (n := n) (v := v) hA hk.1 (by omega) hm hs
  have e9 : mcell D (seta x k n v) k = .inl (D.1 100, mln k, .inl (upd (x.2.1 k) n v)) := by simp [mcell, hk.2, seta, va_up]
  rw [e9] at h9
  exact kk _ h9.1 h9.2
theorem m_ld2 (C : Cx p R s m args meth c cc own nL ret D z0 E mc ms) {k n : Nat} {i : Int32} (hd : decode cc pc = .ok (.caload, 1)) (hk : k < 29 ∧ mkd k = 2) (hm : Mo D am ad x h) (hi : i = nI n) (hn : n < mln k ∧ mln k < 2 ^ 31) (kk : G p l e R s m args below meth c nL D z0 E Qp mc ms (pc + 1) lv (.int (x.2.1 k n) :: rest) h rc rs) : G p l e R s m args below meth c nL D z0 E Qp mc ms pc lv (.int i :: .ref (ad k) :: rest) h rc rs := by
  subst hi
  obtain ⟨ha, hF⟩ := hm.2.2 k hk.1 (by rw [hk.2]; decide)
  rw [mcell, hk.2] at hF
  refine g_cald C hd ha hF (vp_in_nI hn.1 hn.2) ?_
  rw [nI_clamp (Nat.lt_trans hn.1 hn.2)]
  exact kk
theorem m_st2 (C : Cx p R s m args meth c cc own nL ret D z0 E mc ms) {k n : Nat} {i : Int32} {v : Int32} (hA : Ad am ad) (hd : decode cc pc = .ok (.castore, 1)) (hk : k < 29 ∧ mkd k = 2) (hm : Mo D am ad x h) (hs : Sm am ad h0 h) (hi : i = nI n) (hn : n < mln k ∧ mln k < 2 ^ 31) (kk : ∀ h : hp, Mo D am ad (seta x k n (vp_nar .char v)) h → Sm am ad h0 h → G p l e R s m args below meth c nL D z0 E Qp mc ms (pc + 1) lv rest h rc rs) : G p l e R s m args below meth c nL D z0 E Qp mc ms pc lv (.int v :: .int i :: .ref (ad k) :: rest) h rc rs := by
  subst hi
  obtain ⟨ha, hF⟩ := hm.2.2 k hk.1 (by rw [hk.2]; decide)
  rw [mcell, hk.2] at hF
  refine g_cast C hd ha hF (vp_in_nI hn.1 hn.2) ?_
  rw [nI_clamp (Nat.lt_trans hn.1 hn.2)]
  have h9 := Mo.puta (n := n) (v := (vp_nar .char v)) hA hk.1 (by omega) hm hs
  have e9 : mcell D (seta x k n (vp_nar .char v)) k = .inl (D.1 101, mln k, .inl (upd (x.2.1 k) n (vp_nar .char v))) := by simp [mcell, hk.2, seta, va_up]
  rw [e9] at h9
  exact kk _ h9.1 h9.2
theorem m_ld3 (C : Cx p R s m args meth c cc own nL ret D z0 E mc ms) {k n : Nat} {i : Int32} (hd : decode cc pc = .ok (.laload, 1)) (hk : k < 29 ∧ mkd k = 3) (hm : Mo D am ad x h) (hi : i = nI n) (hn : n < mln k ∧ mln k < 2 ^ 31) (kk : G p l e R s m args below meth c nL D z0 E Qp mc ms (pc + 1) lv (.long (x.2.2 k n) :: rest) h rc rs) : G p l e R s m args below meth c nL D z0 E Qp mc ms pc lv (.int i :: .ref (ad k) :: rest) h rc rs := by
  subst hi
  obtain ⟨ha, hF⟩ := hm.2.2 k hk.1 (by rw [hk.2]; decide)
  rw [mcell, hk.2] at hF
  refine g_lald C hd ha hF (vp_in_nI hn.1 hn.2) ?_
  rw [nI_clamp (Nat.lt_trans hn.1 hn.2)]
  exact kk
theorem m_st3 (C : Cx p R s m args meth c cc own nL ret D z0 E mc ms) {k n : Nat} {i : Int32} {v : Int64} (hA : Ad am ad) (hd : decode cc pc = .ok (.lastore, 1)) (hk : k < 29 ∧ mkd k = 3) (hm : Mo D am ad x h) (hs : Sm am ad h0 h) (hi : i = nI n) (hn : n < mln k ∧ mln k < 2 ^ 31) (kk : ∀ h : hp, Mo D am ad (setl x k n v) h → Sm am ad h0 h → G p l e R s m args below meth c nL D z0 E Qp mc ms (pc + 1) lv rest h rc rs) : G p l e R s m args below meth c nL D z0 E Qp mc ms pc lv (.long v :: .int i :: .ref (ad k) :: rest) h rc rs := by
  subst hi
  obtain ⟨ha, hF⟩ := hm.2.2 k hk.1 (by rw [hk.2]; decide)
  rw [mcell, hk.2] at hF
  refine g_last C hd ha hF (vp_in_nI hn.1 hn.2) ?_
  rw [nI_clamp (Nat.lt_trans hn.1 hn.2)]
  have h9 := Mo.putl (n := n) (v := v) hA hk.1 (by omega) hm hs
  have e9 : mcell D (setl x k n v) k = .inl (D.1 102, mln k, .inr (.inl (vp_updL (x.2.2 k) n v))) := by simp [mcell, hk.2, setl, va_up]
  rw [e9] at h9
  exact kk _ h9.1 h9.2
theorem m_ld4 (C : Cx p R s m args meth c cc own nL ret D z0 E mc ms) {k n : Nat} {i : Int32} (hd : decode cc pc = .ok (.baload, 1)) (hk : k < 29 ∧ mkd k = 4) (hm : Mo D am ad x h) (hi : i = nI n) (hn : n < mln k ∧ mln k < 2 ^ 31) (kk : G p l e R s m args below meth c nL D z0 E Qp mc ms (pc + 1) lv (.int (x.2.1 k n) :: rest) h rc rs) : G p l e R s m args below meth c nL D z0 E Qp mc ms pc lv (.int i :: .ref (ad k) :: rest) h rc rs := by
  subst hi
  obtain ⟨ha, hF⟩ := hm.2.2 k hk.1 (by rw [hk.2]; decide)
  rw [mcell, hk.2] at hF
  refine g_zald C hd ha hF (vp_in_nI hn.1 hn.2) ?_
  rw [nI_clamp (Nat.lt_trans hn.1 hn.2)]
  exact kk
theorem m_st4 (C : Cx p R s m args meth c cc own nL ret D z0 E mc ms) {k n : Nat} {i : Int32} {v : Int32} (hA : Ad am ad) (hd : decode cc pc = .ok (.bastore, 1)) (hk : k < 29 ∧ mkd k = 4) (hm : Mo D am ad x h) (hs : Sm am ad h0 h) (hi : i = nI n) (hn : n < mln k ∧ mln k < 2 ^ 31) (kk : ∀ h : hp, Mo D am ad (seta x k n (vp_nar .boolean v)) h → Sm am ad h0 h → G p l e R s m args below meth c nL D z0 E Qp mc ms (pc + 1) lv rest h rc rs) : G p l e R s m args below meth c nL D z0 E Qp mc ms pc lv (.int v :: .int i :: .ref (ad k) :: rest) h rc rs := by
  subst hi
  obtain ⟨ha, hF⟩ := hm.2.2 k hk.1 (by rw [hk.2]; decide)
  rw [mcell, hk.2] at hF
  refine g_zast C hd ha hF (vp_in_nI hn.1 hn.2) ?_
  rw [nI_clamp (Nat.lt_trans hn.1 hn.2)]
  have h9 := Mo.puta (n := n) (v := (vp_nar .boolean v)) hA hk.1 (by omega) hm hs
  have e9 : mcell D (seta x k n (vp_nar .boolean v)) k = .inl (D.1 103, mln k, .inl (upd (x.2.1 k) n (vp_nar .boolean v))) := by simp [mcell, hk.2, seta, va_up]
  rw [e9] at h9
  exact kk _ h9.1 h9.2
end MR
def rmL (n : Nat) : Room := { frames := n, locals := 60 * n, cells := 0, slots := 0 }
/-- a contract of the reference's method on the state x: it returns, with an answer and a state so related -/
def MC (l : Launch) (y : MethodName) (cc : ByteArray) (maxL : Nat) (ret : Option FieldType) (lev : Nat) (D : va_G) (z0 : Nat) (E : State → Prop) (am : Nat) (ad : Nat → Nat) (as' : List Value) (x : MS) (Rel : Option Value → MS → Prop) : Prop :=
  Ctr l y cc maxL ret (rmL lev) D z0 E (fun as h => as = .ref am :: as' ∧ Mo D am ad x h) (fun _ h o h' => ∃ r x', o = .returned r ∧ Mo D am ad x' h' ∧ Sm am ad h h' ∧ Rel r x')
abbrev MQp (D : va_G) (am : Nat) (ad : Nat → Nat) (h0 : hp) (Rel : Option Value → MS → Prop) : Outcome → hp → Prop := fun o h' => ∃ r x', o = .returned r ∧ Mo D am ad x' h' ∧ Sm am ad h0 h' ∧ Rel r x'
theorem mc_of {l : Launch} {y : MethodName} {cc : ByteArray} {maxL lev : Nat} {ret : Option FieldType} {D : va_G} {z0 : Nat} {E : State → Prop} {am : Nat} {ad : Nat → Nat} {as' : List Value} {x : MS} {Rel : Option Value → MS → Prop} (hSt : Stb z0 E) (hy : y.cls = "RealmDeskModel") (hsz : (lg_sl (.ref am :: as')).length ≤ maxL)
    (body : ∀ (h0 h : hp) (p : Program) (e : Env) (s : State) (m : MethodId) (args : Array Value) (below : List Frame) (meth : Method) (c : Code), Cx p (rmL lev) s m args meth c cc "RealmDeskModel" maxL ret D z0 E 0 0 → Mo D am ad x h → Sm am ad h0 h →
      G p l e (rmL lev) s m args below meth c maxL D z0 E (MQp D am ad h0 Rel) 0 0 0 (lv_args 0 (.ref am :: as')) [] h 0 0) : MC l y cc maxL ret lev D z0 E am ad as' x Rel := by
  refine ctr_of hSt (by rw [hy]; decide) (fun as h q => by rw [q.1]; exact hsz) ?_
  intro as h q p e s m args below meth c cx
  obtain ⟨rfl, hm⟩ := q
  rw [hy] at cx
  exact body h h p e s m args below meth c cx hm Sm.rf
section MK
variable {p : Program} {l : Launch} {e : Env} {R : Room} {s : State} {m : MethodId} {args : Array Value} {below : List Frame} {meth : Method} {c : Code} {cc : ByteArray} {own : String} {nL : Nat} {ret : Option FieldType} {D : va_G} {z0 : Nat} {E : State → Prop} {Qp : Outcome → hp → Prop} {mc ms pc : Nat} {lv lv' : List (Nat × Value)} {st rest : List Value} {h : hp} {rc rs : Nat}
variable {am : Nat} {ad : Nat → Nat} {x : MS} {h0 : hp} {Rel : Option Value → MS → Prop}
theorem m_iret (C : Cx p R s m args meth c cc own nL ret D z0 E mc ms) {v : Int32} {ty : FieldType} (hd : decode cc pc = .ok (.ireturn, 1)) (hr : ret = some ty) (hn : narrow ty (.int v) = .int v) (hm : Mo D am ad x h) (hs : Sm am ad h0 h) (hq : Rel (some (.int v)) x) : G p l e R s m args below meth c nL D z0 E (MQp D am ad h0 Rel) mc ms pc lv [.int v] h rc rs := g_iret C hd hr hn ⟨_, x, rfl, hm, hs, hq⟩
theorem m_lret (C : Cx p R s m args meth c cc own nL ret D z0 E mc ms) {v : Int64} (hd : decode cc pc = .ok (.lreturn, 1)) (hr : ret = some .long) (hm : Mo D am ad x h) (hs : Sm am ad h0 h) (hq : Rel (some (.long v)) x) : G p l e R s m args below meth c nL D z0 E (MQp D am ad h0 Rel) mc ms pc lv [.long v] h rc rs := g_lret C hd hr ⟨_, x, rfl, hm, hs, hq⟩
theorem m_vret (C : Cx p R s m args meth c cc own nL ret D z0 E mc ms) (hd : decode cc pc = .ok (.return_, 1)) (hr : ret = none) (hm : Mo D am ad x h) (hs : Sm am ad h0 h) (hq : Rel none x) : G p l e R s m args below meth c nL D z0 E (MQp D am ad h0 Rel) mc ms pc lv [] h rc rs := g_vret C hd hr ⟨_, x, rfl, hm, hs, hq⟩
theorem m_call (lev : Nat) (C : Cx p R s m args meth c cc "RealmDeskModel" nL ret D z0 E mc ms) {idx n maxL' lev' : Nat} {y : MethodName} {cc' : ByteArray} {ret' : Option FieldType} {As : List Value} {Rel' : Option Value → MS → Prop} (hc : MC l y cc' maxL' ret' lev' D z0 E am ad As x Rel') (hd : decode cc pc = .ok (.invokevirtual idx, 3)) (w1 : Cond.methodLink "RealmDeskModel" idx y ∈ lw_g) (w2 : Cond.instanceMethod y ∈ lw_g) (w3 : Cond.selects y.cls y y ∈ lw_g) (w5 : Cond.code y cc' maxL' ret' ∈ lw_g) (hy : y.cls = "RealmDeskModel") (hn : As.length = n ∧ (parseMethodDescriptor y.desc).map (fun d => d.parameters.length) = some n) (hR : R = rmL lev) (hlev : lev' + 1 ≤ lev ∧ maxL' ≤ 41) (hW : (rest.map fun v => v.category).sum ≤ 8) (hm : Mo D am ad x h) (hs : Sm am ad h0 h)
    (kr : ∀ (v : Option Value) (x' : MS) (h' : hp), Mo D am ad x' h' → Sm am ad h0 h' → Rel' v x' → G p l e R s m args below meth c nL D z0 E (MQp D am ad h0 Rel) mc ms (pc + 3) lv (v.toList ++ rest) h' rc rs) : G p l e R s m args below meth c nL D z0 E (MQp D am ad h0 Rel) mc ms pc lv (As.reverse ++ .ref am :: rest) h rc rs := by
  subst hR
  refine g_callV C (ci := 9) (T := T9) (N := 29) hc hd w1 w2 w3 (by rw [hy]; exact t_9) w5 ⟨by rw [hy]; decide, by rw [hy]; decide, hn.2⟩ hn.1 (by rw [hy]; rfl) hm.1 hm.2.1 ⟨rfl, hm⟩ ⟨hlev.1, by show 8 + (maxL' + 11) + 60 * lev' ≤ 60 * lev; omega⟩ hW ⟨Nat.zero_le _, Nat.zero_le _⟩ ?_ ?_
  · intro v h' hq
    obtain ⟨r, x', e, hm', hs', hrel⟩ := hq
    cases e
    exact kr v x' h' hm' (hs.tr hs') hrel
  · intro z h' hq
    obtain ⟨r, x', e, -⟩ := hq
    cases e
end MK
