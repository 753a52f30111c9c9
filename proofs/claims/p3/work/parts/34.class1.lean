/-! The class: its parts' constructors, and its methods that change nothing. -/
/-- what the class's methods may change: the cells whose kind is told -/
abbrev PK : Nat → Prop := fun κ => κ ≠ 0 ∧ κ ≠ 99
abbrev XD (K : KM) : Nat → Prop := XP X0 PK K
/-- the same without the list of the realms -/
abbrev PN : Nat → Prop := fun κ => κ ≠ 0 ∧ κ ≠ 99 ∧ κ ≠ 26 ∧ κ ≠ 36 ∧ κ ≠ 25 ∧ κ ≠ 35 ∧ κ ≠ 23 ∧ κ ≠ 33 ∧ κ ≠ 29 ∧ κ ≠ 39 ∧ κ ≠ 27
abbrev XN (K : KM) : Nat → Prop := XP X0 PN K
theorem xnd {k : Nat → Nat} {K K' : KM} {h h' : hp} {e : Nat → Prop} (ev : Ev k (XP e PN K) K h K' h') : Ev k (XP e PK K) K h K' h' := ev.wk (fun _ _ y => y.imp id (fun w => ⟨w.1, w.2.1⟩))
def PUQ (h : hp) (Rel : Option Value → hp → Prop) : Outcome → hp → Prop := fun o h' => h' = h ∧ ∃ v, o = .returned v ∧ Rel v h
def PU (l : Launch) (y : MethodName) (cc : ByteArray) (maxL : Nat) (ret : Option FieldType) (lev : Nat) (D : va_G) (z0 : Nat) (k : Nat → Nat) (as : List Value) (K : KM) (B T : Nat) (Pre : hp → Prop) (Rel : Option Value → hp → Prop) : Prop := Ctr l y cc maxL ret (rmT lev 0 0) D z0 (EE z0 k) (fun a h => a = as ∧ TP D z0 k K B T h ∧ Pre h) (fun _ h o h' => PUQ h Rel o h')
theorem pu_of {l : Launch} {y : MethodName} {cc : ByteArray} {maxL : Nat} {ret : Option FieldType} {lev : Nat} {D : va_G} {z0 : Nat} {k : Nat → Nat} {as : List Value} {K : KM} {B T : Nat} {Pre : hp → Prop} {Rel : Option Value → hp → Prop} (hy : plainName y.cls = true) (hsz : (lg_sl as).length ≤ maxL)
    (body : ∀ (h : hp), TP D z0 k K B T h → Pre h → ∀ (p : Program) (e : Env) (s : State) (m : MethodId) (args : Array Value) (below : List Frame) (meth : Method) (c : Code), Cx p (rmT lev 0 0) s m args meth c cc y.cls maxL ret D z0 (EE z0 k) 0 0 →
      G p l e (rmT lev 0 0) s m args below meth c maxL D z0 (EE z0 k) (PUQ h Rel) 0 0 0 (lv_args 0 as) [] h 0 0) : PU l y cc maxL ret lev D z0 k as K B T Pre Rel := by
  refine ctr_of Cl.stb hy (fun as h q => by rw [q.1]; exact hsz) ?_
  intro as h q p e s m args below meth c cx
  obtain ⟨rfl, hT, hm⟩ := q
  exact body h hT hm p e s m args below meth c cx
theorem Ev.fix {k : Nat → Nat} {X : Nat → Prop} {K K' : KM} {h h' : hp} (ev : Ev k X K h K' h') {κ a : Nat} (t : Ty K h (κ + 1) a) (hg : ¬ Gk (κ + 1)) : (K' a).2.2 = (K a).2.2 := by
  obtain ⟨-, a2, -⟩ := ev.1 a t.1
  have hk : (K a).1 = κ + 1 := t.2
  exact (a2 (by omega)).2.2.2 (by rw [hk]; exact hg)
section TPN
variable {D : va_G} {z0 : Nat} {k : Nat → Nat} {K : KM} {B T : Nat} {h : hp} {a : Nat}
theorem TP.n24 (t : TP D z0 k K B T h) (ha : Ty K h 24 a) : Lst h a (K a).2.2 ∧ (K a).2.2 ≤ 40 := TP.lst t ha (by decide)
theorem TP.n25 (t : TP D z0 k K B T h) (ha : Ty K h 25 a) : Lst h a (K a).2.2 ∧ (K a).2.2 ≤ 6 := TP.lst t ha (by decide)
theorem TP.n26 (t : TP D z0 k K B T h) (ha : Ty K h 26 a) : Lst h a (K a).2.2 ∧ (K a).2.2 ≤ 8 := TP.lst t ha (by decide)
theorem TP.n27 (t : TP D z0 k K B T h) (ha : Ty K h 27 a) : Lst h a (K a).2.2 ∧ (K a).2.2 ≤ 4 := TP.lst t ha (by decide)
theorem TP.n23 (t : TP D z0 k K B T h) (ha : Ty K h 23 a) : Lst h a (K a).2.2 ∧ (K a).2.2 ≤ 6 := TP.lst t ha (by decide)
theorem TP.n29 (t : TP D z0 k K B T h) (ha : Ty K h 29 a) : Lst h a (K a).2.2 ∧ (K a).2.2 ≤ 4 := TP.lst t ha (by decide)
theorem TP.n28 (t : TP D z0 k K B T h) (ha : Ty K h 28 a) : Lst h a (K a).2.2 ∧ (K a).2.2 ≤ B := TP.lst t ha (by decide)
theorem tx_up {L : List Nat} {k0 w q : Nat} {x : Nat × Nat × Nat} (t : Tx k0 K L w) (h0 : (K q).1 = 0) : Tx k0 (va_up K q x) L w := by
  have hne : w ≠ q := fun z => by have := t.1; rw [z, h0] at this; cases this
  exact ⟨by rw [va_up_ne _ _ hne]; exact t.1, t.2⟩
theorem ty_up {κ q : Nat} {x : Nat × Nat × Nat} (t : Ty K h (κ + 1) a) (h0 : (K q).1 = 0) : a ∈ h.1 ∧ (va_up K q x a).1 = κ + 1 := by
  have hne : a ≠ q := fun z => by have := t.2; rw [z, h0] at this; cases this
  exact ⟨t.1, by rw [va_up_ne _ _ hne]; exact t.2⟩
theorem okcO {κ : Nat} {L : List Nat} {e : va_E} (h1 : (K a).1 = κ) (hk : κ < 23 ∨ 40 ≤ κ) (o : oko D (k 10) K L T (κ, (K a).2) e) : okc D k K L B T (K a) e := by
  rw [show K a = (κ, (K a).2) from Prod.ext h1 rfl]
  refine okc.ob (by show ¬ (23 ≤ κ ∧ κ ≤ 29); omega) (by show ¬ (33 ≤ κ ∧ κ ≤ 39); omega) ?_
  exact o
theorem oko6 {k0 m w' : Nat} {L : List Nat} {e : va_E} (h : ∃ (n b1 b2 b3 : Int32) (w lo im fi : Nat) (pa : Option Nat), e = .inr (6, [.int n, .ref w, .ref lo, .ref im, .ref fi, va_rf pa, .int b1, .int b2, .int b3]) ∧ Tx k0 K L w ∧ (lo ∈ L ∧ (K lo).1 = 29) ∧ (im ∈ L ∧ (K im).1 = 27) ∧ (fi ∈ L ∧ (K fi).1 = 28) ∧ (∀ y, pa = some y → (y ∈ L ∧ (K y).1 = 6)) ∧ w = w' ∧ b2 = nI (m % 2) ∧ im = m / 2 ∧ lo = (K im).2.1) : oko D k0 K L T (6, w', m) e := h
theorem xd_add {K' : KM} {h' : hp} {e : Nat → Prop} {ce la : Nat} (hc : 3 ≤ ce ∧ ce ≤ 9) (hla : Ty K h (ce + 20) la) (ev : Ev k (XP (fun z => z = la) (fun κ => κ = ce + 30) K) K h K' h') : Ev k (XP e PK K) K h K' h' := by
  refine ev.wk (fun z _ y => Or.inr ?_)
  rcases y with y | y
  · have y2 : z = la := y
    subst y2
    exact ⟨by rw [hla.2]; omega, by rw [hla.2]; omega⟩
  · have y2 : (K z).1 = ce + 30 := y
    exact ⟨by rw [y2]; omega, by rw [y2]; omega⟩
theorem xn_add {K' : KM} {h' : hp} {e : Nat → Prop} {ce la : Nat} (hc : ce = 4 ∨ ce = 8) (hla : Ty K h (ce + 20) la) (ev : Ev k (XP (fun z => z = la) (fun κ => κ = ce + 30) K) K h K' h') : Ev k (XP e PN K) K h K' h' := by
  refine ev.wk (fun z _ y => Or.inr ?_)
  have y3 : (K z).1 = ce + 20 ∨ (K z).1 = ce + 30 := by
    rcases y with y | y
    · have y2 : z = la := y
      rw [y2]
      exact Or.inl hla.2
    · exact Or.inr y
  rcases hc with rfl | rfl <;> rcases y3 with y3 | y3 <;> (show PN (K z).1; rw [y3]; decide)
end TPN
section C1
variable {l : Launch} {D : va_G} {z0 : Nat} {k : Nat → Nat} {K : KM} {B T : Nat}
set_option maxHeartbeats 8000000 in
theorem tc_text {q w n : Nat} : TC l y_110 prog_6_method_1_code 2 (Option.none) (rmT 1 0 0) D z0 k [.ref q, .ref w] K (B) (T) (fun h => (K q = (0, 0, 0) ∧ q ∈ h.1 ∧ h.2 q = .inr (4, [.null])) ∧ Tw k K h w n) (B) (T) (fun z => z = q) (fun o K' h' => o = .returned none ∧ Ty K' h' 4 q ∧ (K' q).2.1 = w ∧ (K' q).2.2 = 0) := by
  refine tc_of (by decide) (Nat.le_of_ble_eq_true rfl) ?_
  intro h hT hp p e s m args below meth c cx hnm
  have hE : Ev k (fun z => z = q) K h K h := Ev.rf
  obtain ⟨⟨hr, hm, he⟩, hw⟩ := hp
  refine g_aload_n cx 0 d_6_1_0 rfl rfl ?_
  refine g_objInit cx d_6_1_1 t_564 t_35 t_36 ⟨Nat.le_of_ble_eq_true rfl, Nat.le_of_ble_eq_true rfl⟩ (Nat.le_of_ble_eq_true rfl) ?_
  refine g_aload_n cx 0 d_6_1_4 rfl rfl ?_
  refine g_aload_n cx 1 d_6_1_5 rfl rfl ?_
  refine g_putF cx hnm d_6_1_6 in4 ty4_ok nm4 rfl (k := 0) (by decide) t_565 rfl rfl (ty4_ok 0 (by decide)) rfl rfl hm he (Nat.le_of_ble_eq_true rfl) ?_
  refine t_putR hT hm (Or.inl (congrArg Prod.fst hr)) (fun h hT ev hm he hot6 hL6 => ?_)
  have hw := Ev.tx ev hw
  replace hE := Ev.trS hE ev
  obtain ⟨t9, v9⟩ := t_kind (q := (4, w, 0)) hT hm (congrArg Prod.fst hr) he (okc.ob (by show ¬ (23 ≤ 4 ∧ 4 ≤ 29); decide) (by show ¬ (33 ≤ 4 ∧ 4 ≤ 39); decide) ⟨w, rfl, tx_up hw.tx (congrArg Prod.fst hr), rfl⟩)
  exact g_vret cx d_6_1_9 rfl ⟨_, t9, Ev.trS hE v9, rfl, ⟨hm, by rw [va_up_self]⟩, by rw [va_up_self], by rw [va_up_self]⟩
set_option maxHeartbeats 8000000 in
theorem tc_find {q w n : Nat} {pl : Int32} : TC l y_153 prog_3_method_1_code 3 (Option.none) (rmT 1 0 0) D z0 k [.ref q, .ref w, .int pl] K (B) (T) (fun h => (K q = (0, 0, 0) ∧ q ∈ h.1 ∧ h.2 q = .inr (8, [.null, .int 0])) ∧ Tw k K h w n) (B) (T) (fun z => z = q) (fun o K' h' => o = .returned none ∧ Ty K' h' 8 q ∧ (K' q).2.1 = 0 ∧ (K' q).2.2 = 0) := by
  refine tc_of (by decide) (Nat.le_of_ble_eq_true rfl) ?_
  intro h hT hp p e s m args below meth c cx hnm
  have hE : Ev k (fun z => z = q) K h K h := Ev.rf
  obtain ⟨⟨hr, hm, he⟩, hw⟩ := hp
  refine g_aload_n cx 0 d_3_1_0 rfl rfl ?_
  refine g_objInit cx d_3_1_1 t_867 t_35 t_36 ⟨Nat.le_of_ble_eq_true rfl, Nat.le_of_ble_eq_true rfl⟩ (Nat.le_of_ble_eq_true rfl) ?_
  refine g_aload_n cx 0 d_3_1_4 rfl rfl ?_
  refine g_aload_n cx 1 d_3_1_5 rfl rfl ?_
  refine g_putF cx hnm d_3_1_6 in8 ty8_ok nm8 rfl (k := 0) (by decide) t_868 rfl rfl (ty8_ok 0 (by decide)) rfl rfl hm he (Nat.le_of_ble_eq_true rfl) ?_
  refine t_putR hT hm (Or.inl (congrArg Prod.fst hr)) (fun h hT ev hm he hot6 hL6 => ?_)
  have hw := Ev.tx ev hw
  replace hE := Ev.trS hE ev
  refine g_aload_n cx 0 d_3_1_9 rfl rfl ?_
  refine g_iload_n cx 2 d_3_1_10 rfl rfl ?_
  refine g_putF cx hnm d_3_1_11 in8 ty8_ok nm8 rfl (k := 1) (by decide) t_870 rfl rfl (ty8_ok 1 (by decide)) rfl rfl hm he (Nat.le_of_ble_eq_true rfl) ?_
  refine t_putR hT hm (Or.inl (congrArg Prod.fst hr)) (fun h hT ev hm he hot11 hL11 => ?_)
  have hw := Ev.tx ev hw
  replace hE := Ev.trS hE ev
  obtain ⟨t9, v9⟩ := t_kind (q := (8, 0, 0)) hT hm (congrArg Prod.fst hr) he (okc.ob (by show ¬ (23 ≤ 8 ∧ 8 ≤ 29); decide) (by show ¬ (33 ≤ 8 ∧ 8 ≤ 39); decide) ⟨w, pl, rfl, tx_up hw.tx (congrArg Prod.fst hr)⟩)
  exact g_vret cx d_3_1_14 rfl ⟨_, t9, Ev.trS hE v9, rfl, ⟨hm, by rw [va_up_self]⟩, by rw [va_up_self], by rw [va_up_self]⟩
set_option maxHeartbeats 8000000 in
theorem tc_import {q w n r : Nat} : TC l y_139 prog_4_method_1_code 3 (Option.none) (rmT 1 0 0) D z0 k [.ref q, .ref w, .ref r] K (B) (T) (fun h => (K q = (0, 0, 0) ∧ q ∈ h.1 ∧ h.2 q = .inr (7, [.null, .null])) ∧ Tw k K h w n ∧ Ty K h 6 r) (B) (T) (fun z => z = q) (fun o K' h' => o = .returned none ∧ Ty K' h' 7 q ∧ (K' q).2.1 = 0 ∧ (K' q).2.2 = 0) := by
  refine tc_of (by decide) (Nat.le_of_ble_eq_true rfl) ?_
  intro h hT hp p e s m args below meth c cx hnm
  have hE : Ev k (fun z => z = q) K h K h := Ev.rf
  obtain ⟨⟨hr, hm, he⟩, hw, hrr⟩ := hp
  refine g_aload_n cx 0 d_4_1_0 rfl rfl ?_
  refine g_objInit cx d_4_1_1 t_796 t_35 t_36 ⟨Nat.le_of_ble_eq_true rfl, Nat.le_of_ble_eq_true rfl⟩ (Nat.le_of_ble_eq_true rfl) ?_
  refine g_aload_n cx 0 d_4_1_4 rfl rfl ?_
  refine g_aload_n cx 1 d_4_1_5 rfl rfl ?_
  refine g_putF cx hnm d_4_1_6 in7 ty7_ok nm7 rfl (k := 0) (by decide) t_797 rfl rfl (ty7_ok 0 (by decide)) rfl rfl hm he (Nat.le_of_ble_eq_true rfl) ?_
  refine t_putR hT hm (Or.inl (congrArg Prod.fst hr)) (fun h hT ev hm he hot6 hL6 => ?_)
  have hw := Ev.tx ev hw
  have hrr := Ev.ty ev hrr
  replace hE := Ev.trS hE ev
  refine g_aload_n cx 0 d_4_1_9 rfl rfl ?_
  refine g_aload_n cx 2 d_4_1_10 rfl rfl ?_
  refine g_putF cx hnm d_4_1_11 in7 ty7_ok nm7 rfl (k := 1) (by decide) t_800 rfl rfl (ty7_ok 1 (by decide)) rfl rfl hm he (Nat.le_of_ble_eq_true rfl) ?_
  refine t_putR hT hm (Or.inl (congrArg Prod.fst hr)) (fun h hT ev hm he hot11 hL11 => ?_)
  have hw := Ev.tx ev hw
  have hrr := Ev.ty ev hrr
  replace hE := Ev.trS hE ev
  obtain ⟨t9, v9⟩ := t_kind (q := (7, 0, 0)) hT hm (congrArg Prod.fst hr) he (okc.ob (by show ¬ (23 ≤ 7 ∧ 7 ≤ 29); decide) (by show ¬ (33 ≤ 7 ∧ 7 ≤ 39); decide) ⟨w, r, rfl, tx_up hw.tx (congrArg Prod.fst hr), ty_up hrr (congrArg Prod.fst hr)⟩)
  exact g_vret cx d_4_1_14 rfl ⟨_, t9, Ev.trS hE v9, rfl, ⟨hm, by rw [va_up_self]⟩, by rw [va_up_self], by rw [va_up_self]⟩
set_option maxHeartbeats 8000000 in
theorem tc_archive {q w n : Nat} {nu : Int32} : TC l y_127 prog_2_method_1_code 3 (Option.none) (rmT 5 1 3) D z0 k [.ref q, .int nu, .ref w] K (B) (T) (fun h => (K q = (0, 0, 0) ∧ q ∈ h.1 ∧ h.2 q = .inr (5, [.int 0, .null, .null, .int 0])) ∧ Tw k K h w n) (B) (T) (fun z => z = q) (fun o K' h' => o = .returned none ∧ Ty K' h' 5 q ∧ (K' q).2.1 = w ∧ Ty K' h' 23 (K' q).2.2 ∧ (K' (K' q).2.2).2.2 = 0) := by
  refine tc_of (by decide) (Nat.le_of_ble_eq_true rfl) ?_
  intro h hT hp p e s m args below meth c cx hnm
  have hE : Ev k (fun z => z = q) K h K h := Ev.rf
  obtain ⟨⟨hr, hm, he⟩, hw⟩ := hp
  refine g_aload_n cx 0 d_2_1_0 rfl rfl ?_
  refine g_objInit cx d_2_1_1 t_676 t_35 t_36 ⟨Nat.le_of_ble_eq_true rfl, Nat.le_of_ble_eq_true rfl⟩ (Nat.le_of_ble_eq_true rfl) ?_
  refine g_aload_n cx 0 d_2_1_4 rfl rfl ?_
  refine g_iload_n cx 1 d_2_1_5 rfl rfl ?_
  refine g_putF cx hnm d_2_1_6 in5 ty5_ok nm5 rfl (k := 0) (by decide) t_679 rfl rfl (ty5_ok 0 (by decide)) rfl rfl hm he (Nat.le_of_ble_eq_true rfl) ?_
  refine t_putR hT hm (Or.inl (congrArg Prod.fst hr)) (fun h hT ev hm he hot6 hL6 => ?_)
  have hw := Ev.tx ev hw
  replace hE := Ev.trS hE ev
  refine g_aload_n cx 0 d_2_1_9 rfl rfl ?_
  refine g_aload_n cx 2 d_2_1_10 rfl rfl ?_
  refine g_putF cx hnm d_2_1_11 in5 ty5_ok nm5 rfl (k := 1) (by decide) t_681 rfl rfl (ty5_ok 1 (by decide)) rfl rfl hm he (Nat.le_of_ble_eq_true rfl) ?_
  refine t_putR hT hm (Or.inl (congrArg Prod.fst hr)) (fun h hT ev hm he hot11 hL11 => ?_)
  have hw := Ev.tx ev hw
  replace hE := Ev.trS hE ev
  refine g_aload_n cx 0 d_2_1_14 rfl rfl ?_
  refine g_new cx (ci := 2) (fs := [.null, .int 0, .int 0]) d_2_1_15 in2 ty2_ok t_677 t_71 t_8 rfl (by decide) ⟨Nat.le_of_ble_eq_true rfl, Nat.le_of_ble_eq_true rfl⟩ (fun q15 hq15 hz15 => ?_)
  have hN15 := Ev.nin hE hq15
  have ne_15_q : ¬ q = q15 := fun z => hq15 (z ▸ hm)
  refine t_raw hT hq15 hz15 (fun K h hT ev hr15 hm15 he15 hol15 => ?_)
  have hw := Ev.tx ev hw
  obtain ⟨hr, hm, he⟩ := Ev.rawm ev hr hm he
  replace hE := hE.tr ev
  refine g_dup cx d_2_1_18 rfl ?_
  refine g_callI cx (ret' := none) (As := []) (n := 0) (tj_listInit (κ := 23) (tg := 0) (by decide)) d_2_1_19 t_678 t_73 t_8 t_74 rfl ⟨by decide, by decide, by decide +kernel⟩ rfl ⟨rfl, hT, ⟨hr15, hm15, he15⟩⟩ ⟨Nat.le_of_ble_eq_true rfl, Nat.le_of_ble_eq_true rfl⟩ (Nat.le_of_ble_eq_true rfl) ⟨Nat.le_of_ble_eq_true rfl, Nat.le_of_ble_eq_true rfl⟩ (fun v19 h r19 => ?_) (fun x19 h r19 => by obtain ⟨K9, -, -, e9⟩ := r19; cases e9.1)
  obtain ⟨K, hT, ev, rel19⟩ := r19
  obtain ⟨e19, hn19, hz019, htg19⟩ := rel19
  cases e19
  have hw := Ev.tx ev hw
  obtain ⟨hr, hm, he⟩ := Ev.rawm ev hr hm he ne_15_q
  replace hE := hE.trN hN15 ev
  refine g_putF cx hnm d_2_1_22 in5 ty5_ok nm5 rfl (k := 2) (by decide) t_683 rfl rfl (ty5_ok 2 (by decide)) rfl rfl hm he (Nat.le_of_ble_eq_true rfl) ?_
  refine t_putR hT hm (Or.inl (congrArg Prod.fst hr)) (fun h hT ev hm he hot22 hL22 => ?_)
  replace hz019 := (congrArg (fun z => z.2.2) ((ev.1 q15 hn19.1).2.2 (fun z => ne_15_q z.symm)).1).trans hz019
  have hw := Ev.tx ev hw
  have hn19 := Ev.ty ev hn19
  replace hE := Ev.trS hE ev
  refine g_aload_n cx 0 d_2_1_25 rfl rfl ?_
  refine g_iconst cx (v := 0) d_2_1_26 (by decide) ?_
  refine g_putf cx d_2_1_27 in5 ty5_ok nm5 rfl (k := 3) (by decide) t_685 (Or.inl rfl) rfl (ty5_ok 3 (by decide)) rfl rfl hm he (Nat.le_of_ble_eq_true rfl) ?_
  refine t_putR hT hm (Or.inl (congrArg Prod.fst hr)) (fun h hT ev hm he hot27 hL27 => ?_)
  replace hz019 := (congrArg (fun z => z.2.2) ((ev.1 q15 hn19.1).2.2 (fun z => ne_15_q z.symm)).1).trans hz019
  have hw := Ev.tx ev hw
  have hn19 := Ev.ty ev hn19
  replace hE := Ev.trS hE ev
  obtain ⟨t9, v9⟩ := t_kind (q := (5, w, q15)) hT hm (congrArg Prod.fst hr) he (okc.ob (by show ¬ (23 ≤ 5 ∧ 5 ≤ 29); decide) (by show ¬ (33 ≤ 5 ∧ 5 ≤ 39); decide) ⟨nu, 0, w, q15, rfl, tx_up hw.tx (congrArg Prod.fst hr), ty_up hn19 (congrArg Prod.fst hr), rfl, rfl⟩)
  exact g_vret cx d_2_1_30 rfl ⟨_, t9, Ev.trS hE v9, rfl, ⟨hm, by rw [va_up_self]⟩, by rw [va_up_self], by rw [va_up_self]; exact ty_up hn19 (congrArg Prod.fst hr), by rw [va_up_self]; show (va_up K q (5, w, q15) q15).2.2 = 0; rw [va_up_ne _ _ (show q15 ≠ q from fun z => ne_15_q z.symm)]; exact hz019⟩
set_option maxHeartbeats 8000000 in
theorem tc_realm {q w n : Nat} {nu : Int32} : TC l y_133 prog_5_method_1_code 3 (Option.none) (rmT 5 3 9) D z0 k [.ref q, .int nu, .ref w] K (B) (T) (fun h => (K q = (0, 0, 0) ∧ q ∈ h.1 ∧ h.2 q = .inr (6, [.int 0, .null, .null, .null, .null, .null, .int 0, .int 0, .int 0])) ∧ Tw k K h w n) (B) (T) (fun z => z = q) (fun o K' h' => o = .returned none ∧ Ty K' h' 6 q ∧ (K' q).2.1 = w ∧ ∃ im lo : Nat, (K' q).2.2 = 2 * im ∧ Ty K' h' 27 im ∧ (K' im).2.2 = 0 ∧ (K' im).2.1 = lo ∧ Ty K' h' 29 lo ∧ (K' lo).2.2 = 0) := by
  refine tc_of (by decide) (Nat.le_of_ble_eq_true rfl) ?_
  intro h hT hp p e s m args below meth c cx hnm
  have hE : Ev k (fun z => z = q) K h K h := Ev.rf
  obtain ⟨⟨hr, hm, he⟩, hw⟩ := hp
  refine g_aload_n cx 0 d_5_1_0 rfl rfl ?_
  refine g_objInit cx d_5_1_1 t_725 t_35 t_36 ⟨Nat.le_of_ble_eq_true rfl, Nat.le_of_ble_eq_true rfl⟩ (Nat.le_of_ble_eq_true rfl) ?_
  refine g_aload_n cx 0 d_5_1_4 rfl rfl ?_
  refine g_iload_n cx 1 d_5_1_5 rfl rfl ?_
  refine g_putF cx hnm d_5_1_6 in6 ty6_ok nm6 rfl (k := 0) (by decide) t_728 rfl rfl (ty6_ok 0 (by decide)) rfl rfl hm he (Nat.le_of_ble_eq_true rfl) ?_
  refine t_putR hT hm (Or.inl (congrArg Prod.fst hr)) (fun h hT ev hm he hot6 hL6 => ?_)
  first | replace htg30 := ((ev.1 q26 hn30.1).2.1 (by rw [hn30.2]; decide)).2.1.trans htg30 | skip
  have hw := Ev.tx ev hw
  replace hE := Ev.trS hE ev
  refine g_aload_n cx 0 d_5_1_9 rfl rfl ?_
  refine g_aload_n cx 2 d_5_1_10 rfl rfl ?_
  refine g_putF cx hnm d_5_1_11 in6 ty6_ok nm6 rfl (k := 1) (by decide) t_730 rfl rfl (ty6_ok 1 (by decide)) rfl rfl hm he (Nat.le_of_ble_eq_true rfl) ?_
  refine t_putR hT hm (Or.inl (congrArg Prod.fst hr)) (fun h hT ev hm he hot11 hL11 => ?_)
  first | replace htg30 := ((ev.1 q26 hn30.1).2.1 (by rw [hn30.2]; decide)).2.1.trans htg30 | skip
  have hw := Ev.tx ev hw
  replace hE := Ev.trS hE ev
  refine g_aload_n cx 0 d_5_1_14 rfl rfl ?_
  refine g_new cx (ci := 2) (fs := [.null, .int 0, .int 0]) d_5_1_15 in2 ty2_ok t_726 t_71 t_8 rfl (by decide) ⟨Nat.le_of_ble_eq_true rfl, Nat.le_of_ble_eq_true rfl⟩ (fun q15 hq15 hz15 => ?_)
  have hN15 := Ev.nin hE hq15
  have ne_15_q : ¬ q = q15 := fun z => hq15 (z ▸ hm)
  refine t_raw hT hq15 hz15 (fun K h hT ev hr15 hm15 he15 hol15 => ?_)
  first | replace htg30 := ((ev.1 q26 hn30.1).2.1 (by rw [hn30.2]; decide)).2.1.trans htg30 | skip
  have hw := Ev.tx ev hw
  obtain ⟨hr, hm, he⟩ := Ev.rawm ev hr hm he
  replace hE := hE.tr ev
  refine g_dup cx d_5_1_18 rfl ?_
  refine g_callI cx (ret' := none) (As := []) (n := 0) (tj_listInit (κ := 29) (tg := 0) (by decide)) d_5_1_19 t_727 t_73 t_8 t_74 rfl ⟨by decide, by decide, by decide +kernel⟩ rfl ⟨rfl, hT, ⟨hr15, hm15, he15⟩⟩ ⟨Nat.le_of_ble_eq_true rfl, Nat.le_of_ble_eq_true rfl⟩ (Nat.le_of_ble_eq_true rfl) ⟨Nat.le_of_ble_eq_true rfl, Nat.le_of_ble_eq_true rfl⟩ (fun v19 h r19 => ?_) (fun x19 h r19 => by obtain ⟨K9, -, -, e9⟩ := r19; cases e9.1)
  obtain ⟨K, hT, ev, rel19⟩ := r19
  obtain ⟨e19, hn19, hz019, htg19⟩ := rel19
  cases e19
  first | replace htg30 := ((ev.1 q26 hn30.1).2.1 (by rw [hn30.2]; decide)).2.1.trans htg30 | skip
  have hw := Ev.tx ev hw
  obtain ⟨hr, hm, he⟩ := Ev.rawm ev hr hm he ne_15_q
  replace hE := hE.trN hN15 ev
  refine g_putF cx hnm d_5_1_22 in6 ty6_ok nm6 rfl (k := 2) (by decide) t_732 rfl rfl (ty6_ok 2 (by decide)) rfl rfl hm he (Nat.le_of_ble_eq_true rfl) ?_
  refine t_putR hT hm (Or.inl (congrArg Prod.fst hr)) (fun h hT ev hm he hot22 hL22 => ?_)
  first | replace htg30 := ((ev.1 q26 hn30.1).2.1 (by rw [hn30.2]; decide)).2.1.trans htg30 | skip
  replace hz019 := (congrArg (fun z => z.2.2) ((ev.1 q15 hn19.1).2.2 (fun z => ne_15_q z.symm)).1).trans hz019
  have hw := Ev.tx ev hw
  have hn19 := Ev.ty ev hn19
  replace hE := Ev.trS hE ev
  refine g_aload_n cx 0 d_5_1_25 rfl rfl ?_
  refine g_new cx (ci := 2) (fs := [.null, .int 0, .int 0]) d_5_1_26 in2 ty2_ok t_726 t_71 t_8 rfl (by decide) ⟨Nat.le_of_ble_eq_true rfl, Nat.le_of_ble_eq_true rfl⟩ (fun q26 hq26 hz26 => ?_)
  have hN26 := Ev.nin hE hq26
  have ne_26_q : ¬ q = q26 := fun z => hq26 (z ▸ hm)
  have ne_26_q15 : ¬ q15 = q26 := fun z => hq26 (z ▸ hn19.1)
  refine t_raw hT hq26 hz26 (fun K h hT ev hr26 hm26 he26 hol26 => ?_)
  first | replace htg30 := ((ev.1 q26 hn30.1).2.1 (by rw [hn30.2]; decide)).2.1.trans htg30 | skip
  replace hz019 := (congrArg (fun z => z.2.2) ((ev.1 q15 hn19.1).2.2 id).1).trans hz019
  have hw := Ev.tx ev hw
  have hn19 := Ev.ty ev hn19
  obtain ⟨hr, hm, he⟩ := Ev.rawm ev hr hm he
  replace hE := hE.tr ev
  refine g_dup cx d_5_1_29 rfl ?_
  refine g_callI cx (ret' := none) (As := []) (n := 0) (tj_listInit (κ := 27) (tg := q15) (by decide)) d_5_1_30 t_727 t_73 t_8 t_74 rfl ⟨by decide, by decide, by decide +kernel⟩ rfl ⟨rfl, hT, ⟨hr26, hm26, he26⟩⟩ ⟨Nat.le_of_ble_eq_true rfl, Nat.le_of_ble_eq_true rfl⟩ (Nat.le_of_ble_eq_true rfl) ⟨Nat.le_of_ble_eq_true rfl, Nat.le_of_ble_eq_true rfl⟩ (fun v30 h r30 => ?_) (fun x30 h r30 => by obtain ⟨K9, -, -, e9⟩ := r30; cases e9.1)
  obtain ⟨K, hT, ev, rel30⟩ := r30
  obtain ⟨e30, hn30, hz030, htg30⟩ := rel30
  cases e30
  first | replace htg30 := ((ev.1 q26 hn30.1).2.1 (by rw [hn30.2]; decide)).2.1.trans htg30 | skip
  replace hz019 := (congrArg (fun z => z.2.2) ((ev.1 q15 hn19.1).2.2 ne_26_q15).1).trans hz019
  have hw := Ev.tx ev hw
  have hn19 := Ev.ty ev hn19
  obtain ⟨hr, hm, he⟩ := Ev.rawm ev hr hm he ne_26_q
  replace hE := hE.trN hN26 ev
  refine g_putF cx hnm d_5_1_33 in6 ty6_ok nm6 rfl (k := 3) (by decide) t_734 rfl rfl (ty6_ok 3 (by decide)) rfl rfl hm he (Nat.le_of_ble_eq_true rfl) ?_
  refine t_putR hT hm (Or.inl (congrArg Prod.fst hr)) (fun h hT ev hm he hot33 hL33 => ?_)
  first | replace htg30 := ((ev.1 q26 hn30.1).2.1 (by rw [hn30.2]; decide)).2.1.trans htg30 | skip
  replace hz030 := (congrArg (fun z => z.2.2) ((ev.1 q26 hn30.1).2.2 (fun z => ne_26_q z.symm)).1).trans hz030
  replace hz019 := (congrArg (fun z => z.2.2) ((ev.1 q15 hn19.1).2.2 (fun z => ne_15_q z.symm)).1).trans hz019
  have hw := Ev.tx ev hw
  have hn30 := Ev.ty ev hn30
  have hn19 := Ev.ty ev hn19
  replace hE := Ev.trS hE ev
  refine g_aload_n cx 0 d_5_1_36 rfl rfl ?_
  refine g_new cx (ci := 2) (fs := [.null, .int 0, .int 0]) d_5_1_37 in2 ty2_ok t_726 t_71 t_8 rfl (by decide) ⟨Nat.le_of_ble_eq_true rfl, Nat.le_of_ble_eq_true rfl⟩ (fun q37 hq37 hz37 => ?_)
  have hN37 := Ev.nin hE hq37
  have ne_37_q : ¬ q = q37 := fun z => hq37 (z ▸ hm)
  have ne_37_q15 : ¬ q15 = q37 := fun z => hq37 (z ▸ hn19.1)
  have ne_37_q26 : ¬ q26 = q37 := fun z => hq37 (z ▸ hn30.1)
  refine t_raw hT hq37 hz37 (fun K h hT ev hr37 hm37 he37 hol37 => ?_)
  first | replace htg30 := ((ev.1 q26 hn30.1).2.1 (by rw [hn30.2]; decide)).2.1.trans htg30 | skip
  replace hz019 := (congrArg (fun z => z.2.2) ((ev.1 q15 hn19.1).2.2 id).1).trans hz019
  replace hz030 := (congrArg (fun z => z.2.2) ((ev.1 q26 hn30.1).2.2 id).1).trans hz030
  have hw := Ev.tx ev hw
  have hn19 := Ev.ty ev hn19
  have hn30 := Ev.ty ev hn30
  obtain ⟨hr, hm, he⟩ := Ev.rawm ev hr hm he
  replace hE := hE.tr ev
  refine g_dup cx d_5_1_40 rfl ?_
  refine g_callI cx (ret' := none) (As := []) (n := 0) (tj_listInit (κ := 28) (tg := 0) (by decide)) d_5_1_41 t_727 t_73 t_8 t_74 rfl ⟨by decide, by decide, by decide +kernel⟩ rfl ⟨rfl, hT, ⟨hr37, hm37, he37⟩⟩ ⟨Nat.le_of_ble_eq_true rfl, Nat.le_of_ble_eq_true rfl⟩ (Nat.le_of_ble_eq_true rfl) ⟨Nat.le_of_ble_eq_true rfl, Nat.le_of_ble_eq_true rfl⟩ (fun v41 h r41 => ?_) (fun x41 h r41 => by obtain ⟨K9, -, -, e9⟩ := r41; cases e9.1)
  obtain ⟨K, hT, ev, rel41⟩ := r41
  obtain ⟨e41, hn41, hz041, htg41⟩ := rel41
  cases e41
  first | replace htg30 := ((ev.1 q26 hn30.1).2.1 (by rw [hn30.2]; decide)).2.1.trans htg30 | skip
  replace hz019 := (congrArg (fun z => z.2.2) ((ev.1 q15 hn19.1).2.2 ne_37_q15).1).trans hz019
  replace hz030 := (congrArg (fun z => z.2.2) ((ev.1 q26 hn30.1).2.2 ne_37_q26).1).trans hz030
  have hw := Ev.tx ev hw
  have hn19 := Ev.ty ev hn19
  have hn30 := Ev.ty ev hn30
  obtain ⟨hr, hm, he⟩ := Ev.rawm ev hr hm he ne_37_q
  replace hE := hE.trN hN37 ev
  refine g_putF cx hnm d_5_1_44 in6 ty6_ok nm6 rfl (k := 4) (by decide) t_736 rfl rfl (ty6_ok 4 (by decide)) rfl rfl hm he (Nat.le_of_ble_eq_true rfl) ?_
  refine t_putR hT hm (Or.inl (congrArg Prod.fst hr)) (fun h hT ev hm he hot44 hL44 => ?_)
  first | replace htg30 := ((ev.1 q26 hn30.1).2.1 (by rw [hn30.2]; decide)).2.1.trans htg30 | skip
  replace hz019 := (congrArg (fun z => z.2.2) ((ev.1 q15 hn19.1).2.2 (fun z => ne_15_q z.symm)).1).trans hz019
  replace hz030 := (congrArg (fun z => z.2.2) ((ev.1 q26 hn30.1).2.2 (fun z => ne_26_q z.symm)).1).trans hz030
  have hw := Ev.tx ev hw
  have hn41 := Ev.ty ev hn41
  have hn19 := Ev.ty ev hn19
  have hn30 := Ev.ty ev hn30
  replace hE := Ev.trS hE ev
  refine g_aload_n cx 0 d_5_1_47 rfl rfl ?_
  refine g_null cx d_5_1_48 ?_
  refine g_putf cx d_5_1_49 in6 ty6_ok nm6 rfl (k := 5) (by decide) t_738 (Or.inl rfl) rfl (ty6_ok 5 (by decide)) rfl rfl hm he (Nat.le_of_ble_eq_true rfl) ?_
  refine t_putR hT hm (Or.inl (congrArg Prod.fst hr)) (fun h hT ev hm he hot49 hL49 => ?_)
  first | replace htg30 := ((ev.1 q26 hn30.1).2.1 (by rw [hn30.2]; decide)).2.1.trans htg30 | skip
  replace hz019 := (congrArg (fun z => z.2.2) ((ev.1 q15 hn19.1).2.2 (fun z => ne_15_q z.symm)).1).trans hz019
  replace hz030 := (congrArg (fun z => z.2.2) ((ev.1 q26 hn30.1).2.2 (fun z => ne_26_q z.symm)).1).trans hz030
  have hw := Ev.tx ev hw
  have hn19 := Ev.ty ev hn19
  have hn30 := Ev.ty ev hn30
  have hn41 := Ev.ty ev hn41
  replace hE := Ev.trS hE ev
  refine g_aload_n cx 0 d_5_1_52 rfl rfl ?_
  refine g_iconst cx (v := 0) d_5_1_53 (by decide) ?_
  refine g_putf cx d_5_1_54 in6 ty6_ok nm6 rfl (k := 6) (by decide) t_740 (Or.inl rfl) rfl (ty6_ok 6 (by decide)) rfl rfl hm he (Nat.le_of_ble_eq_true rfl) ?_
  refine t_putR hT hm (Or.inl (congrArg Prod.fst hr)) (fun h hT ev hm he hot54 hL54 => ?_)
  first | replace htg30 := ((ev.1 q26 hn30.1).2.1 (by rw [hn30.2]; decide)).2.1.trans htg30 | skip
  replace hz019 := (congrArg (fun z => z.2.2) ((ev.1 q15 hn19.1).2.2 (fun z => ne_15_q z.symm)).1).trans hz019
  replace hz030 := (congrArg (fun z => z.2.2) ((ev.1 q26 hn30.1).2.2 (fun z => ne_26_q z.symm)).1).trans hz030
  have hw := Ev.tx ev hw
  have hn19 := Ev.ty ev hn19
  have hn30 := Ev.ty ev hn30
  have hn41 := Ev.ty ev hn41
  replace hE := Ev.trS hE ev
  refine g_aload_n cx 0 d_5_1_57 rfl rfl ?_
  refine g_iconst cx (v := 0) d_5_1_58 (by decide) ?_
  refine g_putf cx d_5_1_59 in6 ty6_ok nm6 rfl (k := 7) (by decide) t_742 (Or.inl rfl) rfl (ty6_ok 7 (by decide)) rfl rfl hm he (Nat.le_of_ble_eq_true rfl) ?_
  refine t_putR hT hm (Or.inl (congrArg Prod.fst hr)) (fun h hT ev hm he hot59 hL59 => ?_)
  first | replace htg30 := ((ev.1 q26 hn30.1).2.1 (by rw [hn30.2]; decide)).2.1.trans htg30 | skip
  replace hz019 := (congrArg (fun z => z.2.2) ((ev.1 q15 hn19.1).2.2 (fun z => ne_15_q z.symm)).1).trans hz019
  replace hz030 := (congrArg (fun z => z.2.2) ((ev.1 q26 hn30.1).2.2 (fun z => ne_26_q z.symm)).1).trans hz030
  have hw := Ev.tx ev hw
  have hn19 := Ev.ty ev hn19
  have hn30 := Ev.ty ev hn30
  have hn41 := Ev.ty ev hn41
  replace hE := Ev.trS hE ev
  refine g_aload_n cx 0 d_5_1_62 rfl rfl ?_
  refine g_iconst cx (v := 0) d_5_1_63 (by decide) ?_
  refine g_putf cx d_5_1_64 in6 ty6_ok nm6 rfl (k := 8) (by decide) t_744 (Or.inl rfl) rfl (ty6_ok 8 (by decide)) rfl rfl hm he (Nat.le_of_ble_eq_true rfl) ?_
  refine t_putR hT hm (Or.inl (congrArg Prod.fst hr)) (fun h hT ev hm he hot64 hL64 => ?_)
  first | replace htg30 := ((ev.1 q26 hn30.1).2.1 (by rw [hn30.2]; decide)).2.1.trans htg30 | skip
  replace hz019 := (congrArg (fun z => z.2.2) ((ev.1 q15 hn19.1).2.2 (fun z => ne_15_q z.symm)).1).trans hz019
  replace hz030 := (congrArg (fun z => z.2.2) ((ev.1 q26 hn30.1).2.2 (fun z => ne_26_q z.symm)).1).trans hz030
  have hw := Ev.tx ev hw
  have hn19 := Ev.ty ev hn19
  have hn30 := Ev.ty ev hn30
  have hn41 := Ev.ty ev hn41
  replace hE := Ev.trS hE ev
  obtain ⟨t9, v9⟩ := t_kind (q := (6, w, 2 * q26)) hT hm (congrArg Prod.fst hr) he (okc.ob (by show ¬ (23 ≤ 6 ∧ 6 ≤ 29); decide) (by show ¬ (33 ≤ 6 ∧ 6 ≤ 39); decide) (oko6 (m := 2 * q26) ⟨nu, 0, 0, 0, w, q15, q26, q37, none, rfl, tx_up hw.tx (congrArg Prod.fst hr), ty_up hn19 (congrArg Prod.fst hr), ty_up hn30 (congrArg Prod.fst hr), ty_up hn41 (congrArg Prod.fst hr), fun y hy => (by cases hy), rfl, (by rw [Nat.mul_mod_right]; rfl), (by omega), (by rw [va_up_ne _ _ (show q26 ≠ q from fun z => ne_26_q z.symm)]; exact htg30.symm)⟩))
  exact g_vret cx d_5_1_67 rfl ⟨_, t9, Ev.trS hE v9, rfl, ⟨hm, by rw [va_up_self]⟩, by rw [va_up_self], q26, q15, by rw [va_up_self], ty_up hn30 (congrArg Prod.fst hr), by rw [va_up_ne _ _ (show q26 ≠ q from fun z => ne_26_q z.symm)]; exact hz030, by rw [va_up_ne _ _ (show q26 ≠ q from fun z => ne_26_q z.symm)]; exact htg30, ty_up hn19 (congrArg Prod.fst hr), by rw [va_up_ne _ _ (show q15 ≠ q from fun z => ne_15_q z.symm)]; exact hz019⟩
set_option maxHeartbeats 4000000 in
theorem pc_isWord {a n : Nat} : PC l y_125 prog_1_method_14_code 2 (Option.some Jvm.ClassFile.FieldType.boolean) 6 D z0 k [.ref a] (fun h => ∃ v, StrP D k h a v n) (fun v => ∃ x : Int32, v = some (.int x) ∧ (x = 0 ∨ x = 1) ∧ (n = 0 → x = 0)) := by
  refine pc_of (by decide) (Nat.le_of_ble_eq_true rfl) ?_
  intro h hp p e s m args below meth c cx
  obtain ⟨v, hs⟩ := hp
  have hle := hs.ba.le
  have lp : ∀ (n0 j : Nat), n - j < n0 → j ≤ n → G p l e (rmT 6 0 0) s m args below meth c 2 D z0 (EE z0 k) (PQ h (fun v => ∃ x : Int32, v = some (.int x) ∧ (x = 0 ∨ x = 1) ∧ (n = 0 → x = 0))) 0 0 2 [(1, .int (nI j)), (0, .ref a)] [] h 0 0 := by
    intro n0
    induction n0 with
    | zero => intro j hj; exact absurd hj (Nat.not_lt_zero _)
    | succ n0 ih =>
      intro j hj0 hjn
      refine g_iload_n cx 0 d_1_14_2 rfl rfl ?_
      refine g_aload_n cx 1 d_1_14_3 rfl rfl ?_
      refine g_pcVS cx (As := []) (n := 0) (pj_length (n := n)) d_1_14_4 t_519 t_391 t_392 t_4 t_393 rfl (by decide +kernel) rfl hs ⟨_, hs⟩ ⟨Nat.le_of_ble_eq_true rfl, Nat.le_of_ble_eq_true rfl⟩ (Nat.le_of_ble_eq_true rfl) (fun v4 r4 => ?_)
      subst r4
      refine g_icmp_ge cx d_1_14_7 rfl (fun c7 => ?_) (fun c7 => ?_)
      · skip
        refine g_aload_n cx 1 d_1_14_38 rfl rfl ?_
        refine g_pcVS cx (As := []) (n := 0) (pj_length (n := n)) d_1_14_39 t_519 t_391 t_392 t_4 t_393 rfl (by decide +kernel) rfl hs ⟨_, hs⟩ ⟨Nat.le_of_ble_eq_true rfl, Nat.le_of_ble_eq_true rfl⟩ (Nat.le_of_ble_eq_true rfl) (fun v39 r39 => ?_)
        subst r39
        refine g_iconst cx (v := 1) d_1_14_42 (by decide) ?_
        refine g_icmp_lt cx d_1_14_43 rfl (fun c43 => ?_) (fun c43 => ?_)
        · skip
          refine g_iconst cx (v := 0) d_1_14_58 (by decide) ?_
          exact g_iret cx d_1_14_59 rfl rfl ⟨rfl, _, rfl, _, rfl, Or.inl rfl, fun _ => rfl⟩
        · skip
          refine g_aload_n cx 1 d_1_14_46 rfl rfl ?_
          refine g_pcVS cx (As := []) (n := 0) (pj_length (n := n)) d_1_14_47 t_519 t_391 t_392 t_4 t_393 rfl (by decide +kernel) rfl hs ⟨_, hs⟩ ⟨Nat.le_of_ble_eq_true rfl, Nat.le_of_ble_eq_true rfl⟩ (Nat.le_of_ble_eq_true rfl) (fun v47 r47 => ?_)
          subst r47
          refine g_iconst cx (v := 4) d_1_14_50 (by decide) ?_
          refine g_icmp_gt cx d_1_14_51 rfl (fun c51 => ?_) (fun c51 => ?_)
          · skip
            refine g_iconst cx (v := 0) d_1_14_58 (by decide) ?_
            exact g_iret cx d_1_14_59 rfl rfl ⟨rfl, _, rfl, _, rfl, Or.inl rfl, fun _ => rfl⟩
          · skip
            refine g_iconst cx (v := 1) d_1_14_54 (by decide) ?_
            refine g_goto cx d_1_14_55 rfl ?_
            exact g_iret cx d_1_14_59 rfl rfl ⟨rfl, _, rfl, _, rfl, Or.inr rfl, fun z => absurd (by rw [z]; decide) c43⟩
      · skip
        have hj : j < n := Nat.lt_of_not_le (fun q => c7 (nI_le q (by omega)))
        refine g_aload_n cx 1 d_1_14_10 rfl rfl ?_
        refine g_iload_n cx 0 d_1_14_11 rfl rfl ?_
        refine g_pcVS cx (As := [.int (nI j)]) (n := 1) (pj_charAt (n := n) (j := j) hj) d_1_14_12 t_520 t_521 t_522 t_4 t_523 rfl (by decide +kernel) rfl hs ⟨_, hs⟩ ⟨Nat.le_of_ble_eq_true rfl, Nat.le_of_ble_eq_true rfl⟩ (Nat.le_of_ble_eq_true rfl) (fun v12 r12 => ?_)
        obtain ⟨x12, rfl⟩ := r12
        refine g_bipush cx (v := 97) d_1_14_15 (by decide) ?_
        refine g_icmp_lt cx d_1_14_17 rfl (fun c17 => ?_) (fun c17 => ?_)
        · skip
          refine g_iconst cx (v := 0) d_1_14_30 (by decide) ?_
          exact g_iret cx d_1_14_31 rfl rfl ⟨rfl, _, rfl, _, rfl, Or.inl rfl, fun _ => rfl⟩
        · skip
          refine g_aload_n cx 1 d_1_14_20 rfl rfl ?_
          refine g_iload_n cx 0 d_1_14_21 rfl rfl ?_
          refine g_pcVS cx (As := [.int (nI j)]) (n := 1) (pj_charAt (n := n) (j := j) hj) d_1_14_22 t_520 t_521 t_522 t_4 t_523 rfl (by decide +kernel) rfl hs ⟨_, hs⟩ ⟨Nat.le_of_ble_eq_true rfl, Nat.le_of_ble_eq_true rfl⟩ (Nat.le_of_ble_eq_true rfl) (fun v22 r22 => ?_)
          obtain ⟨x22, rfl⟩ := r22
          refine g_bipush cx (v := 122) d_1_14_25 (by decide) ?_
          refine g_icmp_le cx d_1_14_27 rfl (fun c27 => ?_) (fun c27 => ?_)
          · skip
            refine g_iinc cx 0 (lv' := [(1, .int (nI (j + 1))), (0, .ref a)]) d_1_14_32 rfl (inc1 j) (by decide) rfl ?_
            refine g_goto cx d_1_14_35 rfl ?_
            exact ih (j + 1) (by omega) (by omega)
          · skip
            refine g_iconst cx (v := 0) d_1_14_30 (by decide) ?_
            exact g_iret cx d_1_14_31 rfl rfl ⟨rfl, _, rfl, _, rfl, Or.inl rfl, fun _ => rfl⟩
  refine g_iconst cx (v := 0) d_1_14_0 (by decide) ?_
  refine g_topi (fun j0 ej0 => ?_)
  obtain rfl : j0 = nI 0 := ej0
  refine g_istore_n cx (lv' := [(1, .int (nI 0)), (0, .ref a)]) d_1_14_1 rfl (by decide) rfl ?_
  exact lp (n + 1) 0 (by omega) (Nat.zero_le _)
set_option maxHeartbeats 8000000 in
theorem pt_has {a w n : Nat} (hB : B < 2 ^ 20) : PU l y_131 prog_2_method_2_code 3 (Option.some Jvm.ClassFile.FieldType.boolean) 6 D z0 k [.ref a, .ref w] K B T (fun h => Ty K h 5 a ∧ Tw k K h w n) (fun v _ => ∃ x : Int32, v = some (.int x) ∧ (x = 0 ∨ x = 1)) := by
  refine pu_of (by decide) (Nat.le_of_ble_eq_true rfl) ?_
  intro h hT hp p e s m args below meth c cx
  obtain ⟨ha, hw⟩ := hp
  obtain ⟨n0, t0, w0, l0, he0, hw0, hl0, hwq0⟩ := TP.o (κ := 5) hT ha
  obtain ⟨nw0, hw0⟩ : ∃ n, Tw k K h w0 n := ⟨_, Tx.tx hw0⟩
  obtain ⟨-, hbb⟩ := TP.n23 hT hl0
  have lp : ∀ (n0 j : Nat), (K l0).2.2 - j < n0 → j ≤ (K l0).2.2 → G p l e (rmT 6 0 0) s m args below meth c 3 D z0 (EE z0 k) (PUQ h (fun v _ => ∃ x : Int32, v = some (.int x) ∧ (x = 0 ∨ x = 1))) 0 0 2 [(2, .int (nI j)), (0, .ref a), (1, .ref w)] [] h 0 0 := by
    intro n0
    induction n0 with
    | zero => intro j hj; exact absurd hj (Nat.not_lt_zero _)
    | succ n0 ih =>
      intro j hj0 hjn
      refine g_iload_n cx 0 d_2_2_2 rfl rfl ?_
      refine g_aload_n cx 1 d_2_2_3 rfl rfl ?_
      refine g_getf cx (k := 2) d_2_2_4 in5 rfl (by decide) t_683 (Or.inl rfl) ha.1 he0 rfl ?_
      obtain ⟨⟨ea7, mo7, hm7, hl7⟩, hb7⟩ := TP.n23 hT hl0
      refine g_pcV cx (As := []) (n := 0) (pj_size (n := (K l0).2.2)) d_2_2_7 t_712 t_236 t_237 t_8 t_238 ⟨by decide, by decide, by decide +kernel⟩ rfl (ci := 2) rfl hm7 hl7 ⟨ea7, mo7, hm7, hl7⟩ ⟨Nat.le_of_ble_eq_true rfl, Nat.le_of_ble_eq_true rfl⟩ (Nat.le_of_ble_eq_true rfl) (fun v7 r7 => ?_)
      subst r7
      refine g_icmp_ge cx d_2_2_10 rfl (fun c10 => ?_) (fun c10 => ?_)
      · skip
        refine g_iconst cx (v := 0) d_2_2_42 (by decide) ?_
        exact g_iret cx d_2_2_43 rfl rfl ⟨rfl, _, rfl, _, rfl, Or.inl rfl⟩
      · skip
        have hj : j < (K l0).2.2 := Nat.lt_of_not_le (fun q => c10 (nI_le q (by omega)))
        refine g_aload_n cx 1 d_2_2_13 rfl rfl ?_
        refine g_getf cx (k := 2) d_2_2_14 in5 rfl (by decide) t_683 (Or.inl rfl) ha.1 he0 rfl ?_
        refine g_iload_n cx 0 d_2_2_17 rfl rfl ?_
        obtain ⟨⟨ea18, mo18, hm18, hl18⟩, hb18⟩ := TP.n23 hT hl0
        refine g_callV cx (As := [.int (nI j)]) (n := 1) (gj_get (K := K) (B := B) (T := T) (ce := 3) (j := j) (by decide) hB) d_2_2_18 t_713 t_240 t_241 t_8 t_242 ⟨by decide, by decide, by decide +kernel⟩ rfl (ci := 2) rfl hm18 hl18 ⟨rfl, hT, hl0, hj⟩ ⟨Nat.le_of_ble_eq_true rfl, Nat.le_of_ble_eq_true rfl⟩ (Nat.le_of_ble_eq_true rfl) ⟨Nat.zero_le _, Nat.zero_le _⟩ (fun v18 h r18 => ?_) (fun x18 h r18 => by obtain ⟨-, y9, e9, -⟩ := r18; cases e9)
        obtain ⟨rfl, y18, e18, hy18⟩ := r18
        cases e18
        replace hy18 : Ty K h 4 y18 := hy18
        obtain ⟨w21, he21, hw21, hwq21⟩ := TP.o (κ := 4) hT hy18
        obtain ⟨nw21, hw21⟩ : ∃ n, Tw k K h w21 n := ⟨_, Tx.tx hw21⟩
        refine g_ccast cx (ci := 4) d_2_2_21 t_714 rfl hy18.1 he21 ?_
        refine g_getf cx (k := 0) d_2_2_24 in4 rfl (by decide) t_566 (Or.inl rfl) hy18.1 he21 rfl ?_
        refine g_aload_n cx 2 d_2_2_27 rfl rfl ?_
        obtain ⟨v28, hs28⟩ := TP.str hT hw21
        obtain ⟨va28, ha28⟩ := TP.str hT hw
        refine g_pcVS cx (As := [.ref w]) (n := 1) (pj_equals (n := nw21) (n' := n)) d_2_2_28 t_715 t_492 t_493 t_4 t_494 rfl (by decide +kernel) rfl hs28 ⟨⟨_, hs28⟩, ⟨_, ha28⟩⟩ ⟨Nat.le_of_ble_eq_true rfl, Nat.le_of_ble_eq_true rfl⟩ (Nat.le_of_ble_eq_true rfl) (fun v28 r28 => ?_)
        obtain ⟨x28, rfl, xb28⟩ := r28
        refine g_if_eq cx d_2_2_31 rfl (fun c31 => ?_) (fun c31 => ?_)
        · skip
          refine g_iinc cx 0 (lv' := [(2, .int (nI (j + 1))), (0, .ref a), (1, .ref w)]) d_2_2_36 rfl (inc1 j) (by decide) rfl ?_
          refine g_goto cx d_2_2_39 rfl ?_
          exact ih (j + 1) (by omega) (by omega)
        · skip
          refine g_iconst cx (v := 1) d_2_2_34 (by decide) ?_
          exact g_iret cx d_2_2_35 rfl rfl ⟨rfl, _, rfl, _, rfl, Or.inr rfl⟩
  refine g_iconst cx (v := 0) d_2_2_0 (by decide) ?_
  refine g_topi (fun j0 ej0 => ?_)
  obtain rfl : j0 = nI 0 := ej0
  refine g_istore_n cx (lv' := [(2, .int (nI 0)), (0, .ref a), (1, .ref w)]) d_2_2_1 rfl (by decide) rfl ?_
  exact lp ((K l0).2.2 + 1) 0 (by omega) (Nat.zero_le _)
set_option maxHeartbeats 8000000 in
theorem pt_hasLoaded {a b : Nat} (hB : B < 2 ^ 20) : PU l y_135 prog_5_method_2_code 3 (Option.some Jvm.ClassFile.FieldType.boolean) 6 D z0 k [.ref a, .ref b] K B T (fun h => Ty K h 6 a) (fun v _ => ∃ x : Int32, v = some (.int x) ∧ (x = 0 ∨ x = 1)) := by
  refine pu_of (by decide) (Nat.le_of_ble_eq_true rfl) ?_
  intro h hT hp p e s m args below meth c cx
  have ha := hp
  obtain ⟨n0, b10, b20, b30, w0, lo0, im0, fi0, pa0, he0, hw0, hlo0, him0, hfi0, hpa0, hwq0⟩ := TP.o (κ := 6) hT ha
  obtain ⟨nw0, hw0⟩ : ∃ n, Tw k K h w0 n := ⟨_, Tx.tx hw0⟩
  obtain ⟨-, hbb⟩ := TP.n29 hT hlo0
  have lp : ∀ (n0 j : Nat), (K lo0).2.2 - j < n0 → j ≤ (K lo0).2.2 → G p l e (rmT 6 0 0) s m args below meth c 3 D z0 (EE z0 k) (PUQ h (fun v _ => ∃ x : Int32, v = some (.int x) ∧ (x = 0 ∨ x = 1))) 0 0 2 [(2, .int (nI j)), (0, .ref a), (1, .ref b)] [] h 0 0 := by
    intro n0
    induction n0 with
    | zero => intro j hj; exact absurd hj (Nat.not_lt_zero _)
    | succ n0 ih =>
      intro j hj0 hjn
      refine g_iload_n cx 0 d_5_2_2 rfl rfl ?_
      refine g_aload_n cx 1 d_5_2_3 rfl rfl ?_
      refine g_getf cx (k := 2) d_5_2_4 in6 rfl (by decide) t_732 (Or.inl rfl) ha.1 he0 rfl ?_
      obtain ⟨⟨ea7, mo7, hm7, hl7⟩, hb7⟩ := TP.n29 hT hlo0
      refine g_pcV cx (As := []) (n := 0) (pj_size (n := (K lo0).2.2)) d_5_2_7 t_774 t_236 t_237 t_8 t_238 ⟨by decide, by decide, by decide +kernel⟩ rfl (ci := 2) rfl hm7 hl7 ⟨ea7, mo7, hm7, hl7⟩ ⟨Nat.le_of_ble_eq_true rfl, Nat.le_of_ble_eq_true rfl⟩ (Nat.le_of_ble_eq_true rfl) (fun v7 r7 => ?_)
      subst r7
      refine g_icmp_ge cx d_5_2_10 rfl (fun c10 => ?_) (fun c10 => ?_)
      · skip
        refine g_iconst cx (v := 0) d_5_2_33 (by decide) ?_
        exact g_iret cx d_5_2_34 rfl rfl ⟨rfl, _, rfl, _, rfl, Or.inl rfl⟩
      · skip
        have hj : j < (K lo0).2.2 := Nat.lt_of_not_le (fun q => c10 (nI_le q (by omega)))
        refine g_aload_n cx 1 d_5_2_13 rfl rfl ?_
        refine g_getf cx (k := 2) d_5_2_14 in6 rfl (by decide) t_732 (Or.inl rfl) ha.1 he0 rfl ?_
        refine g_iload_n cx 0 d_5_2_17 rfl rfl ?_
        obtain ⟨⟨ea18, mo18, hm18, hl18⟩, hb18⟩ := TP.n29 hT hlo0
        refine g_callV cx (As := [.int (nI j)]) (n := 1) (gj_get (K := K) (B := B) (T := T) (ce := 9) (j := j) (by decide) hB) d_5_2_18 t_775 t_240 t_241 t_8 t_242 ⟨by decide, by decide, by decide +kernel⟩ rfl (ci := 2) rfl hm18 hl18 ⟨rfl, hT, hlo0, hj⟩ ⟨Nat.le_of_ble_eq_true rfl, Nat.le_of_ble_eq_true rfl⟩ (Nat.le_of_ble_eq_true rfl) ⟨Nat.zero_le _, Nat.zero_le _⟩ (fun v18 h r18 => ?_) (fun x18 h r18 => by obtain ⟨-, y9, e9, -⟩ := r18; cases e9)
        obtain ⟨rfl, y18, e18, hy18⟩ := r18
        cases e18
        replace hy18 : Ty K h 5 y18 := hy18
        refine g_aload_n cx 2 d_5_2_21 rfl rfl ?_
        refine g_acmp_ne cx (rx := (some (y18))) (ry := (some (b))) d_5_2_22 rfl (fun c22 => ?_) (fun c22 => ?_)
        · skip
          refine g_iinc cx 0 (lv' := [(2, .int (nI (j + 1))), (0, .ref a), (1, .ref b)]) d_5_2_27 rfl (inc1 j) (by decide) rfl ?_
          refine g_goto cx d_5_2_30 rfl ?_
          exact ih (j + 1) (by omega) (by omega)
        · skip
          refine g_iconst cx (v := 1) d_5_2_25 (by decide) ?_
          exact g_iret cx d_5_2_26 rfl rfl ⟨rfl, _, rfl, _, rfl, Or.inr rfl⟩
  refine g_iconst cx (v := 0) d_5_2_0 (by decide) ?_
  refine g_topi (fun j0 ej0 => ?_)
  obtain rfl : j0 = nI 0 := ej0
  refine g_istore_n cx (lv' := [(2, .int (nI 0)), (0, .ref a), (1, .ref b)]) d_5_2_1 rfl (by decide) rfl ?_
  exact lp ((K lo0).2.2 + 1) 0 (by omega) (Nat.zero_le _)
set_option maxHeartbeats 8000000 in
theorem pt_kept {a w n : Nat} (hB : B < 2 ^ 20) : PU l y_146 prog_5_method_4_code 3 (Option.some Jvm.ClassFile.FieldType.int) 6 D z0 k [.ref a, .ref w] K B T (fun h => Ty K h 6 a ∧ Tw k K h w n) (fun v _ => ∃ x : Int32, v = some (.int x)) := by
  refine pu_of (by decide) (Nat.le_of_ble_eq_true rfl) ?_
  intro h hT hp p e s m args below meth c cx
  obtain ⟨ha, hw⟩ := hp
  obtain ⟨n0, b10, b20, b30, w0, lo0, im0, fi0, pa0, he0, hw0, hlo0, him0, hfi0, hpa0, hwq0⟩ := TP.o (κ := 6) hT ha
  obtain ⟨nw0, hw0⟩ : ∃ n, Tw k K h w0 n := ⟨_, Tx.tx hw0⟩
  obtain ⟨-, hbb⟩ := TP.n28 hT hfi0
  have lp : ∀ (n0 j : Nat), (K fi0).2.2 - j < n0 → j ≤ (K fi0).2.2 → G p l e (rmT 6 0 0) s m args below meth c 3 D z0 (EE z0 k) (PUQ h (fun v _ => ∃ x : Int32, v = some (.int x))) 0 0 2 [(2, .int (nI j)), (0, .ref a), (1, .ref w)] [] h 0 0 := by
    intro n0
    induction n0 with
    | zero => intro j hj; exact absurd hj (Nat.not_lt_zero _)
    | succ n0 ih =>
      intro j hj0 hjn
      refine g_iload_n cx 0 d_5_4_2 rfl rfl ?_
      refine g_aload_n cx 1 d_5_4_3 rfl rfl ?_
      refine g_getf cx (k := 4) d_5_4_4 in6 rfl (by decide) t_736 (Or.inl rfl) ha.1 he0 rfl ?_
      obtain ⟨⟨ea7, mo7, hm7, hl7⟩, hb7⟩ := TP.n28 hT hfi0
      refine g_pcV cx (As := []) (n := 0) (pj_size (n := (K fi0).2.2)) d_5_4_7 t_774 t_236 t_237 t_8 t_238 ⟨by decide, by decide, by decide +kernel⟩ rfl (ci := 2) rfl hm7 hl7 ⟨ea7, mo7, hm7, hl7⟩ ⟨Nat.le_of_ble_eq_true rfl, Nat.le_of_ble_eq_true rfl⟩ (Nat.le_of_ble_eq_true rfl) (fun v7 r7 => ?_)
      subst r7
      refine g_icmp_ge cx d_5_4_10 rfl (fun c10 => ?_) (fun c10 => ?_)
      · skip
        refine g_iconst cx (v := (-1)) d_5_4_55 (by decide) ?_
        exact g_iret cx d_5_4_56 rfl rfl ⟨rfl, _, rfl, _, rfl⟩
      · skip
        have hj : j < (K fi0).2.2 := Nat.lt_of_not_le (fun q => c10 (nI_le q (by omega)))
        refine g_aload_n cx 1 d_5_4_13 rfl rfl ?_
        refine g_getf cx (k := 4) d_5_4_14 in6 rfl (by decide) t_736 (Or.inl rfl) ha.1 he0 rfl ?_
        refine g_iload_n cx 0 d_5_4_17 rfl rfl ?_
        obtain ⟨⟨ea18, mo18, hm18, hl18⟩, hb18⟩ := TP.n28 hT hfi0
        refine g_callV cx (As := [.int (nI j)]) (n := 1) (gj_get (K := K) (B := B) (T := T) (ce := 8) (j := j) (by decide) hB) d_5_4_18 t_775 t_240 t_241 t_8 t_242 ⟨by decide, by decide, by decide +kernel⟩ rfl (ci := 2) rfl hm18 hl18 ⟨rfl, hT, hfi0, hj⟩ ⟨Nat.le_of_ble_eq_true rfl, Nat.le_of_ble_eq_true rfl⟩ (Nat.le_of_ble_eq_true rfl) ⟨Nat.zero_le _, Nat.zero_le _⟩ (fun v18 h r18 => ?_) (fun x18 h r18 => by obtain ⟨-, y9, e9, -⟩ := r18; cases e9)
        obtain ⟨rfl, y18, e18, hy18⟩ := r18
        cases e18
        replace hy18 : Ty K h 8 y18 := hy18
        obtain ⟨w21, p21, he21, hw21⟩ := TP.o (κ := 8) hT hy18
        obtain ⟨nw21, hw21⟩ : ∃ n, Tw k K h w21 n := ⟨_, Tx.tx hw21⟩
        refine g_ccast cx (ci := 8) d_5_4_21 t_838 rfl hy18.1 he21 ?_
        refine g_getf cx (k := 0) d_5_4_24 in8 rfl (by decide) t_869 (Or.inl rfl) hy18.1 he21 rfl ?_
        refine g_aload_n cx 2 d_5_4_27 rfl rfl ?_
        obtain ⟨v28, hs28⟩ := TP.str hT hw21
        obtain ⟨va28, ha28⟩ := TP.str hT hw
        refine g_pcVS cx (As := [.ref w]) (n := 1) (pj_equals (n := nw21) (n' := n)) d_5_4_28 t_839 t_492 t_493 t_4 t_494 rfl (by decide +kernel) rfl hs28 ⟨⟨_, hs28⟩, ⟨_, ha28⟩⟩ ⟨Nat.le_of_ble_eq_true rfl, Nat.le_of_ble_eq_true rfl⟩ (Nat.le_of_ble_eq_true rfl) (fun v28 r28 => ?_)
        obtain ⟨x28, rfl, xb28⟩ := r28
        refine g_if_eq cx d_5_4_31 rfl (fun c31 => ?_) (fun c31 => ?_)
        · skip
          refine g_iinc cx 0 (lv' := [(2, .int (nI (j + 1))), (0, .ref a), (1, .ref w)]) d_5_4_49 rfl (inc1 j) (by decide) rfl ?_
          refine g_goto cx d_5_4_52 rfl ?_
          exact ih (j + 1) (by omega) (by omega)
        · skip
          refine g_aload_n cx 1 d_5_4_34 rfl rfl ?_
          refine g_getf cx (k := 4) d_5_4_35 in6 rfl (by decide) t_736 (Or.inl rfl) ha.1 he0 rfl ?_
          refine g_iload_n cx 0 d_5_4_38 rfl rfl ?_
          obtain ⟨⟨ea39, mo39, hm39, hl39⟩, hb39⟩ := TP.n28 hT hfi0
          refine g_callV cx (As := [.int (nI j)]) (n := 1) (gj_get (K := K) (B := B) (T := T) (ce := 8) (j := j) (by decide) hB) d_5_4_39 t_775 t_240 t_241 t_8 t_242 ⟨by decide, by decide, by decide +kernel⟩ rfl (ci := 2) rfl hm39 hl39 ⟨rfl, hT, hfi0, hj⟩ ⟨Nat.le_of_ble_eq_true rfl, Nat.le_of_ble_eq_true rfl⟩ (Nat.le_of_ble_eq_true rfl) ⟨Nat.zero_le _, Nat.zero_le _⟩ (fun v39 h r39 => ?_) (fun x39 h r39 => by obtain ⟨-, y9, e9, -⟩ := r39; cases e9)
          obtain ⟨rfl, y39, e39, hy39⟩ := r39
          cases e39
          replace hy39 : Ty K h 8 y39 := hy39
          obtain ⟨w42, p42, he42, hw42⟩ := TP.o (κ := 8) hT hy39
          obtain ⟨nw42, hw42⟩ : ∃ n, Tw k K h w42 n := ⟨_, Tx.tx hw42⟩
          refine g_ccast cx (ci := 8) d_5_4_42 t_838 rfl hy39.1 he42 ?_
          refine g_getf cx (k := 1) d_5_4_45 in8 rfl (by decide) t_871 (Or.inl rfl) hy39.1 he42 rfl ?_
          exact g_iret cx d_5_4_48 rfl rfl ⟨rfl, _, rfl, _, rfl⟩
  refine g_iconst cx (v := 0) d_5_4_0 (by decide) ?_
  refine g_topi (fun j0 ej0 => ?_)
  obtain rfl : j0 = nI 0 := ej0
  refine g_istore_n cx (lv' := [(2, .int (nI 0)), (0, .ref a), (1, .ref w)]) d_5_4_1 rfl (by decide) rfl ?_
  exact lp ((K fi0).2.2 + 1) 0 (by omega) (Nat.zero_le _)
set_option maxHeartbeats 8000000 in
theorem pt_archiveWith {a w n : Nat} (hB : B < 2 ^ 20) : PU l y_126 prog_1_method_19_code 3 (Option.some (Jvm.ClassFile.FieldType.object "RealmDesk$Archive")) 6 D z0 k [.ref a, .ref w] K B T (fun h => Ty K h 1 a ∧ Tw k K h w n) (fun v h => v = some .null ∨ ∃ y, v = some (.ref y) ∧ Ty K h 5 y) := by
  refine pu_of (by decide) (Nat.le_of_ble_eq_true rfl) ?_
  intro h hT hp p e s m args below meth c cx
  obtain ⟨ha, hw⟩ := hp
  obtain ⟨la0, lr0, tr0, tn0, he0, hla0, hlr0, htr0, htn0, hlq0, hlaq0⟩ := TP.o (κ := 1) hT ha
  obtain ⟨-, hbb⟩ := TP.n25 hT hla0
  have lp : ∀ (n0 j : Nat), (K la0).2.2 - j < n0 → j ≤ (K la0).2.2 → G p l e (rmT 6 0 0) s m args below meth c 3 D z0 (EE z0 k) (PUQ h (fun v h => v = some .null ∨ ∃ y, v = some (.ref y) ∧ Ty K h 5 y)) 0 0 2 [(2, .int (nI j)), (0, .ref a), (1, .ref w)] [] h 0 0 := by
    intro n0
    induction n0 with
    | zero => intro j hj; exact absurd hj (Nat.not_lt_zero _)
    | succ n0 ih =>
      intro j hj0 hjn
      refine g_iload_n cx 0 d_1_19_2 rfl rfl ?_
      refine g_aload_n cx 1 d_1_19_3 rfl rfl ?_
      refine g_getf cx (k := 1) d_1_19_4 in0 rfl (by decide) t_97 (Or.inl rfl) ha.1 he0 rfl ?_
      obtain ⟨⟨ea7, mo7, hm7, hl7⟩, hb7⟩ := TP.n25 hT hla0
      refine g_pcV cx (As := []) (n := 0) (pj_size (n := (K la0).2.2)) d_1_19_7 t_235 t_236 t_237 t_8 t_238 ⟨by decide, by decide, by decide +kernel⟩ rfl (ci := 2) rfl hm7 hl7 ⟨ea7, mo7, hm7, hl7⟩ ⟨Nat.le_of_ble_eq_true rfl, Nat.le_of_ble_eq_true rfl⟩ (Nat.le_of_ble_eq_true rfl) (fun v7 r7 => ?_)
      subst r7
      refine g_icmp_ge cx d_1_19_10 rfl (fun c10 => ?_) (fun c10 => ?_)
      · skip
        refine g_null cx d_1_19_52 ?_
        exact g_aret cx d_1_19_53 rfl (Or.inl ⟨_, rfl⟩) (Or.inl rfl) ⟨rfl, _, rfl, Or.inl rfl⟩
      · skip
        have hj : j < (K la0).2.2 := Nat.lt_of_not_le (fun q => c10 (nI_le q (by omega)))
        refine g_aload_n cx 1 d_1_19_13 rfl rfl ?_
        refine g_getf cx (k := 1) d_1_19_14 in0 rfl (by decide) t_97 (Or.inl rfl) ha.1 he0 rfl ?_
        refine g_iload_n cx 0 d_1_19_17 rfl rfl ?_
        obtain ⟨⟨ea18, mo18, hm18, hl18⟩, hb18⟩ := TP.n25 hT hla0
        refine g_callV cx (As := [.int (nI j)]) (n := 1) (gj_get (K := K) (B := B) (T := T) (ce := 5) (j := j) (by decide) hB) d_1_19_18 t_239 t_240 t_241 t_8 t_242 ⟨by decide, by decide, by decide +kernel⟩ rfl (ci := 2) rfl hm18 hl18 ⟨rfl, hT, hla0, hj⟩ ⟨Nat.le_of_ble_eq_true rfl, Nat.le_of_ble_eq_true rfl⟩ (Nat.le_of_ble_eq_true rfl) ⟨Nat.zero_le _, Nat.zero_le _⟩ (fun v18 h r18 => ?_) (fun x18 h r18 => by obtain ⟨-, y9, e9, -⟩ := r18; cases e9)
        obtain ⟨rfl, y18, e18, hy18⟩ := r18
        cases e18
        replace hy18 : Ty K h 5 y18 := hy18
        obtain ⟨n21, t21, w21, l21, he21, hw21, hl21, hwq21⟩ := TP.o (κ := 5) hT hy18
        obtain ⟨nw21, hw21⟩ : ∃ n, Tw k K h w21 n := ⟨_, Tx.tx hw21⟩
        refine g_ccast cx (ci := 5) d_1_19_21 t_256 rfl hy18.1 he21 ?_
        refine g_getf cx (k := 1) d_1_19_24 in5 rfl (by decide) t_682 (Or.inl rfl) hy18.1 he21 rfl ?_
        refine g_aload_n cx 2 d_1_19_27 rfl rfl ?_
        obtain ⟨v28, hs28⟩ := TP.str hT hw21
        obtain ⟨va28, ha28⟩ := TP.str hT hw
        refine g_pcVS cx (As := [.ref w]) (n := 1) (pj_equals (n := nw21) (n' := n)) d_1_19_28 t_491 t_492 t_493 t_4 t_494 rfl (by decide +kernel) rfl hs28 ⟨⟨_, hs28⟩, ⟨_, ha28⟩⟩ ⟨Nat.le_of_ble_eq_true rfl, Nat.le_of_ble_eq_true rfl⟩ (Nat.le_of_ble_eq_true rfl) (fun v28 r28 => ?_)
        obtain ⟨x28, rfl, xb28⟩ := r28
        refine g_if_eq cx d_1_19_31 rfl (fun c31 => ?_) (fun c31 => ?_)
        · skip
          refine g_iinc cx 0 (lv' := [(2, .int (nI (j + 1))), (0, .ref a), (1, .ref w)]) d_1_19_46 rfl (inc1 j) (by decide) rfl ?_
          refine g_goto cx d_1_19_49 rfl ?_
          exact ih (j + 1) (by omega) (by omega)
        · skip
          refine g_aload_n cx 1 d_1_19_34 rfl rfl ?_
          refine g_getf cx (k := 1) d_1_19_35 in0 rfl (by decide) t_97 (Or.inl rfl) ha.1 he0 rfl ?_
          refine g_iload_n cx 0 d_1_19_38 rfl rfl ?_
          obtain ⟨⟨ea39, mo39, hm39, hl39⟩, hb39⟩ := TP.n25 hT hla0
          refine g_callV cx (As := [.int (nI j)]) (n := 1) (gj_get (K := K) (B := B) (T := T) (ce := 5) (j := j) (by decide) hB) d_1_19_39 t_239 t_240 t_241 t_8 t_242 ⟨by decide, by decide, by decide +kernel⟩ rfl (ci := 2) rfl hm39 hl39 ⟨rfl, hT, hla0, hj⟩ ⟨Nat.le_of_ble_eq_true rfl, Nat.le_of_ble_eq_true rfl⟩ (Nat.le_of_ble_eq_true rfl) ⟨Nat.zero_le _, Nat.zero_le _⟩ (fun v39 h r39 => ?_) (fun x39 h r39 => by obtain ⟨-, y9, e9, -⟩ := r39; cases e9)
          obtain ⟨rfl, y39, e39, hy39⟩ := r39
          cases e39
          replace hy39 : Ty K h 5 y39 := hy39
          obtain ⟨n42, t42, w42, l42, he42, hw42, hl42, hwq42⟩ := TP.o (κ := 5) hT hy39
          obtain ⟨nw42, hw42⟩ : ∃ n, Tw k K h w42 n := ⟨_, Tx.tx hw42⟩
          refine g_ccast cx (ci := 5) d_1_19_42 t_256 rfl hy39.1 he42 ?_
          exact g_aret cx d_1_19_45 rfl (Or.inl ⟨_, rfl⟩) (Or.inr ⟨_, rfl⟩) ⟨rfl, _, rfl, Or.inr ⟨_, rfl, hy39⟩⟩
  refine g_iconst cx (v := 0) d_1_19_0 (by decide) ?_
  refine g_topi (fun j0 ej0 => ?_)
  obtain rfl : j0 = nI 0 := ej0
  refine g_istore_n cx (lv' := [(2, .int (nI 0)), (0, .ref a), (1, .ref w)]) d_1_19_1 rfl (by decide) rfl ?_
  exact lp ((K la0).2.2 + 1) 0 (by omega) (Nat.zero_le _)
set_option maxHeartbeats 8000000 in
theorem pt_realmWith {a w n : Nat} (hB : B < 2 ^ 20) : PU l y_94 prog_1_method_20_code 3 (Option.some (Jvm.ClassFile.FieldType.object "RealmDesk$Realm")) 6 D z0 k [.ref a, .ref w] K B T (fun h => Ty K h 1 a ∧ Tw k K h w n) (fun v h => v = some .null ∨ ∃ y, v = some (.ref y) ∧ Ty K h 6 y) := by
  refine pu_of (by decide) (Nat.le_of_ble_eq_true rfl) ?_
  intro h hT hp p e s m args below meth c cx
  obtain ⟨ha, hw⟩ := hp
  obtain ⟨la0, lr0, tr0, tn0, he0, hla0, hlr0, htr0, htn0, hlq0, hlaq0⟩ := TP.o (κ := 1) hT ha
  obtain ⟨-, hbb⟩ := TP.n26 hT hlr0
  have lp : ∀ (n0 j : Nat), (K lr0).2.2 - j < n0 → j ≤ (K lr0).2.2 → G p l e (rmT 6 0 0) s m args below meth c 3 D z0 (EE z0 k) (PUQ h (fun v h => v = some .null ∨ ∃ y, v = some (.ref y) ∧ Ty K h 6 y)) 0 0 2 [(2, .int (nI j)), (0, .ref a), (1, .ref w)] [] h 0 0 := by
    intro n0
    induction n0 with
    | zero => intro j hj; exact absurd hj (Nat.not_lt_zero _)
    | succ n0 ih =>
      intro j hj0 hjn
      refine g_iload_n cx 0 d_1_20_2 rfl rfl ?_
      refine g_aload_n cx 1 d_1_20_3 rfl rfl ?_
      refine g_getf cx (k := 2) d_1_20_4 in0 rfl (by decide) t_98 (Or.inl rfl) ha.1 he0 rfl ?_
      obtain ⟨⟨ea7, mo7, hm7, hl7⟩, hb7⟩ := TP.n26 hT hlr0
      refine g_pcV cx (As := []) (n := 0) (pj_size (n := (K lr0).2.2)) d_1_20_7 t_235 t_236 t_237 t_8 t_238 ⟨by decide, by decide, by decide +kernel⟩ rfl (ci := 2) rfl hm7 hl7 ⟨ea7, mo7, hm7, hl7⟩ ⟨Nat.le_of_ble_eq_true rfl, Nat.le_of_ble_eq_true rfl⟩ (Nat.le_of_ble_eq_true rfl) (fun v7 r7 => ?_)
      subst r7
      refine g_icmp_ge cx d_1_20_10 rfl (fun c10 => ?_) (fun c10 => ?_)
      · skip
        refine g_null cx d_1_20_69 ?_
        exact g_aret cx d_1_20_70 rfl (Or.inl ⟨_, rfl⟩) (Or.inl rfl) ⟨rfl, _, rfl, Or.inl rfl⟩
      · skip
        have hj : j < (K lr0).2.2 := Nat.lt_of_not_le (fun q => c10 (nI_le q (by omega)))
        refine g_aload_n cx 1 d_1_20_13 rfl rfl ?_
        refine g_getf cx (k := 2) d_1_20_14 in0 rfl (by decide) t_98 (Or.inl rfl) ha.1 he0 rfl ?_
        refine g_iload_n cx 0 d_1_20_17 rfl rfl ?_
        obtain ⟨⟨ea18, mo18, hm18, hl18⟩, hb18⟩ := TP.n26 hT hlr0
        refine g_callV cx (As := [.int (nI j)]) (n := 1) (gj_get (K := K) (B := B) (T := T) (ce := 6) (j := j) (by decide) hB) d_1_20_18 t_239 t_240 t_241 t_8 t_242 ⟨by decide, by decide, by decide +kernel⟩ rfl (ci := 2) rfl hm18 hl18 ⟨rfl, hT, hlr0, hj⟩ ⟨Nat.le_of_ble_eq_true rfl, Nat.le_of_ble_eq_true rfl⟩ (Nat.le_of_ble_eq_true rfl) ⟨Nat.zero_le _, Nat.zero_le _⟩ (fun v18 h r18 => ?_) (fun x18 h r18 => by obtain ⟨-, y9, e9, -⟩ := r18; cases e9)
        obtain ⟨rfl, y18, e18, hy18⟩ := r18
        cases e18
        replace hy18 : Ty K h 6 y18 := hy18
        obtain ⟨n21, b121, b221, b321, w21, lo21, im21, fi21, pa21, he21, hw21, hlo21, him21, hfi21, hpa21, hwq21⟩ := TP.o (κ := 6) hT hy18
        obtain ⟨nw21, hw21⟩ : ∃ n, Tw k K h w21 n := ⟨_, Tx.tx hw21⟩
        refine g_ccast cx (ci := 6) d_1_20_21 t_251 rfl hy18.1 he21 ?_
        refine g_getf cx (k := 7) d_1_20_24 in6 rfl (by decide) t_743 (Or.inl rfl) hy18.1 he21 rfl ?_
        refine g_if_ne cx d_1_20_27 rfl (fun c27 => ?_) (fun c27 => ?_)
        · skip
          refine g_iinc cx 0 (lv' := [(2, .int (nI (j + 1))), (0, .ref a), (1, .ref w)]) d_1_20_63 rfl (inc1 j) (by decide) rfl ?_
          refine g_goto cx d_1_20_66 rfl ?_
          exact ih (j + 1) (by omega) (by omega)
        · skip
          refine g_aload_n cx 1 d_1_20_30 rfl rfl ?_
          refine g_getf cx (k := 2) d_1_20_31 in0 rfl (by decide) t_98 (Or.inl rfl) ha.1 he0 rfl ?_
          refine g_iload_n cx 0 d_1_20_34 rfl rfl ?_
          obtain ⟨⟨ea35, mo35, hm35, hl35⟩, hb35⟩ := TP.n26 hT hlr0
          refine g_callV cx (As := [.int (nI j)]) (n := 1) (gj_get (K := K) (B := B) (T := T) (ce := 6) (j := j) (by decide) hB) d_1_20_35 t_239 t_240 t_241 t_8 t_242 ⟨by decide, by decide, by decide +kernel⟩ rfl (ci := 2) rfl hm35 hl35 ⟨rfl, hT, hlr0, hj⟩ ⟨Nat.le_of_ble_eq_true rfl, Nat.le_of_ble_eq_true rfl⟩ (Nat.le_of_ble_eq_true rfl) ⟨Nat.zero_le _, Nat.zero_le _⟩ (fun v35 h r35 => ?_) (fun x35 h r35 => by obtain ⟨-, y9, e9, -⟩ := r35; cases e9)
          obtain ⟨rfl, y35, e35, hy35⟩ := r35
          cases e35
          replace hy35 : Ty K h 6 y35 := hy35
          obtain ⟨n38, b138, b238, b338, w38, lo38, im38, fi38, pa38, he38, hw38, hlo38, him38, hfi38, hpa38, hwq38⟩ := TP.o (κ := 6) hT hy35
          obtain ⟨nw38, hw38⟩ : ∃ n, Tw k K h w38 n := ⟨_, Tx.tx hw38⟩
          refine g_ccast cx (ci := 6) d_1_20_38 t_251 rfl hy35.1 he38 ?_
          refine g_getf cx (k := 1) d_1_20_41 in6 rfl (by decide) t_731 (Or.inl rfl) hy35.1 he38 rfl ?_
          refine g_aload_n cx 2 d_1_20_44 rfl rfl ?_
          obtain ⟨v45, hs45⟩ := TP.str hT hw38
          obtain ⟨va45, ha45⟩ := TP.str hT hw
          refine g_pcVS cx (As := [.ref w]) (n := 1) (pj_equals (n := nw38) (n' := n)) d_1_20_45 t_491 t_492 t_493 t_4 t_494 rfl (by decide +kernel) rfl hs45 ⟨⟨_, hs45⟩, ⟨_, ha45⟩⟩ ⟨Nat.le_of_ble_eq_true rfl, Nat.le_of_ble_eq_true rfl⟩ (Nat.le_of_ble_eq_true rfl) (fun v45 r45 => ?_)
          obtain ⟨x45, rfl, xb45⟩ := r45
          refine g_if_eq cx d_1_20_48 rfl (fun c48 => ?_) (fun c48 => ?_)
          · skip
            refine g_iinc cx 0 (lv' := [(2, .int (nI (j + 1))), (0, .ref a), (1, .ref w)]) d_1_20_63 rfl (inc1 j) (by decide) rfl ?_
            refine g_goto cx d_1_20_66 rfl ?_
            exact ih (j + 1) (by omega) (by omega)
          · skip
            refine g_aload_n cx 1 d_1_20_51 rfl rfl ?_
            refine g_getf cx (k := 2) d_1_20_52 in0 rfl (by decide) t_98 (Or.inl rfl) ha.1 he0 rfl ?_
            refine g_iload_n cx 0 d_1_20_55 rfl rfl ?_
            obtain ⟨⟨ea56, mo56, hm56, hl56⟩, hb56⟩ := TP.n26 hT hlr0
            refine g_callV cx (As := [.int (nI j)]) (n := 1) (gj_get (K := K) (B := B) (T := T) (ce := 6) (j := j) (by decide) hB) d_1_20_56 t_239 t_240 t_241 t_8 t_242 ⟨by decide, by decide, by decide +kernel⟩ rfl (ci := 2) rfl hm56 hl56 ⟨rfl, hT, hlr0, hj⟩ ⟨Nat.le_of_ble_eq_true rfl, Nat.le_of_ble_eq_true rfl⟩ (Nat.le_of_ble_eq_true rfl) ⟨Nat.zero_le _, Nat.zero_le _⟩ (fun v56 h r56 => ?_) (fun x56 h r56 => by obtain ⟨-, y9, e9, -⟩ := r56; cases e9)
            obtain ⟨rfl, y56, e56, hy56⟩ := r56
            cases e56
            replace hy56 : Ty K h 6 y56 := hy56
            obtain ⟨n59, b159, b259, b359, w59, lo59, im59, fi59, pa59, he59, hw59, hlo59, him59, hfi59, hpa59, hwq59⟩ := TP.o (κ := 6) hT hy56
            obtain ⟨nw59, hw59⟩ : ∃ n, Tw k K h w59 n := ⟨_, Tx.tx hw59⟩
            refine g_ccast cx (ci := 6) d_1_20_59 t_251 rfl hy56.1 he59 ?_
            exact g_aret cx d_1_20_62 rfl (Or.inl ⟨_, rfl⟩) (Or.inr ⟨_, rfl⟩) ⟨rfl, _, rfl, Or.inr ⟨_, rfl, hy56⟩⟩
  refine g_iconst cx (v := 0) d_1_20_0 (by decide) ?_
  refine g_topi (fun j0 ej0 => ?_)
  obtain rfl : j0 = nI 0 := ej0
  refine g_istore_n cx (lv' := [(2, .int (nI 0)), (0, .ref a), (1, .ref w)]) d_1_20_1 rfl (by decide) rfl ?_
  exact lp ((K lr0).2.2 + 1) 0 (by omega) (Nat.zero_le _)
set_option maxHeartbeats 8000000 in
theorem pt_latestArchive {a : Nat} (hB : B < 2 ^ 20) : PU l y_129 prog_1_method_21_code 1 (Option.some (Jvm.ClassFile.FieldType.object "RealmDesk$Archive")) 6 D z0 k [.ref a] K B T (fun h => Ty K h 1 a) (fun v h => v = some .null ∨ ∃ y, v = some (.ref y) ∧ Ty K h 5 y) := by
  refine pu_of (by decide) (Nat.le_of_ble_eq_true rfl) ?_
  intro h hT hp p e s m args below meth c cx
  have ha := hp
  refine g_aload_n cx 0 d_1_21_0 rfl rfl ?_
  obtain ⟨la1, lr1, tr1, tn1, he1, hla1, hlr1, htr1, htn1, hlq1, hlaq1⟩ := TP.o (κ := 1) hT ha
  refine g_getf cx (k := 1) d_1_21_1 in0 rfl (by decide) t_97 (Or.inl rfl) ha.1 he1 rfl ?_
  obtain ⟨⟨ea4, mo4, hm4, hl4⟩, hb4⟩ := TP.n25 hT hla1
  refine g_pcV cx (As := []) (n := 0) (pj_isEmpty (n := (K la1).2.2) (by omega)) d_1_21_4 t_637 t_638 t_639 t_8 t_640 ⟨by decide, by decide, by decide +kernel⟩ rfl (ci := 2) rfl hm4 hl4 ⟨ea4, mo4, hm4, hl4⟩ ⟨Nat.le_of_ble_eq_true rfl, Nat.le_of_ble_eq_true rfl⟩ (Nat.le_of_ble_eq_true rfl) (fun v4 r4 => ?_)
  obtain ⟨x4, rfl, xe4⟩ : ∃ x : Int32, v4 = some (.int x) ∧ (((K la1).2.2 = 0 ∧ x = 1) ∨ (0 < (K la1).2.2 ∧ x = 0)) := r4.elim (fun z => ⟨1, z.2, Or.inl ⟨z.1, rfl⟩⟩) (fun z => ⟨0, z.2, Or.inr ⟨z.1, rfl⟩⟩)
  refine g_if_eq cx d_1_21_7 rfl (fun c7 => ?_) (fun c7 => ?_)
  · skip
    have hpos : 0 < (K la1).2.2 := by
      rcases xe4 with z | z
      · rw [z.2] at c7
        exact absurd c7 (by decide)
      · exact z.1
    refine g_aload_n cx 0 d_1_21_14 rfl rfl ?_
    refine g_getf cx (k := 1) d_1_21_15 in0 rfl (by decide) t_97 (Or.inl rfl) ha.1 he1 rfl ?_
    refine g_aload_n cx 0 d_1_21_18 rfl rfl ?_
    refine g_getf cx (k := 1) d_1_21_19 in0 rfl (by decide) t_97 (Or.inl rfl) ha.1 he1 rfl ?_
    obtain ⟨⟨ea22, mo22, hm22, hl22⟩, hb22⟩ := TP.n25 hT hla1
    refine g_pcV cx (As := []) (n := 0) (pj_size (n := (K la1).2.2)) d_1_21_22 t_235 t_236 t_237 t_8 t_238 ⟨by decide, by decide, by decide +kernel⟩ rfl (ci := 2) rfl hm22 hl22 ⟨ea22, mo22, hm22, hl22⟩ ⟨Nat.le_of_ble_eq_true rfl, Nat.le_of_ble_eq_true rfl⟩ (Nat.le_of_ble_eq_true rfl) (fun v22 r22 => ?_)
    subst r22
    refine g_iconst cx (v := 1) d_1_21_25 (by decide) ?_
    refine g_isub cx d_1_21_26 ?_
    refine g_topi (fun m26 em26 => ?_)
    obtain rfl : m26 = nI ((K la1).2.2 - 1) := em26.trans (pk_sub hpos)
    obtain ⟨⟨ea27, mo27, hm27, hl27⟩, hb27⟩ := TP.n25 hT hla1
    refine g_callV cx (As := [.int (nI ((K la1).2.2 - 1))]) (n := 1) (gj_get (K := K) (B := B) (T := T) (ce := 5) (j := (K la1).2.2 - 1) (by decide) hB) d_1_21_27 t_239 t_240 t_241 t_8 t_242 ⟨by decide, by decide, by decide +kernel⟩ rfl (ci := 2) rfl hm27 hl27 ⟨rfl, hT, hla1, (by omega)⟩ ⟨Nat.le_of_ble_eq_true rfl, Nat.le_of_ble_eq_true rfl⟩ (Nat.le_of_ble_eq_true rfl) ⟨Nat.zero_le _, Nat.zero_le _⟩ (fun v27 h r27 => ?_) (fun x27 h r27 => by obtain ⟨-, y9, e9, -⟩ := r27; cases e9)
    obtain ⟨rfl, y27, e27, hy27⟩ := r27
    cases e27
    replace hy27 : Ty K h 5 y27 := hy27
    obtain ⟨n30, t30, w30, l30, he30, hw30, hl30, hwq30⟩ := TP.o (κ := 5) hT hy27
    obtain ⟨nw30, hw30⟩ : ∃ n, Tw k K h w30 n := ⟨_, Tx.tx hw30⟩
    refine g_ccast cx (ci := 5) d_1_21_30 t_256 rfl hy27.1 he30 ?_
    exact g_aret cx d_1_21_33 rfl (Or.inl ⟨_, rfl⟩) (Or.inr ⟨_, rfl⟩) ⟨rfl, _, rfl, Or.inr ⟨_, rfl, hy27⟩⟩
  · skip
    refine g_null cx d_1_21_10 ?_
    refine g_goto cx d_1_21_11 rfl ?_
    exact g_aret cx d_1_21_33 rfl (Or.inl ⟨_, rfl⟩) (Or.inl rfl) ⟨rfl, _, rfl, Or.inl rfl⟩
set_option maxHeartbeats 8000000 in
theorem pt_latestRealm {a : Nat} (hB : B < 2 ^ 20) : PU l y_120 prog_1_method_22_code 1 (Option.some (Jvm.ClassFile.FieldType.object "RealmDesk$Realm")) 6 D z0 k [.ref a] K B T (fun h => Ty K h 1 a) (fun v h => v = some .null ∨ ∃ y, v = some (.ref y) ∧ Ty K h 6 y) := by
  refine pu_of (by decide) (Nat.le_of_ble_eq_true rfl) ?_
  intro h hT hp p e s m args below meth c cx
  have ha := hp
  refine g_aload_n cx 0 d_1_22_0 rfl rfl ?_
  obtain ⟨la1, lr1, tr1, tn1, he1, hla1, hlr1, htr1, htn1, hlq1, hlaq1⟩ := TP.o (κ := 1) hT ha
  refine g_getf cx (k := 2) d_1_22_1 in0 rfl (by decide) t_98 (Or.inl rfl) ha.1 he1 rfl ?_
  obtain ⟨⟨ea4, mo4, hm4, hl4⟩, hb4⟩ := TP.n26 hT hlr1
  refine g_pcV cx (As := []) (n := 0) (pj_isEmpty (n := (K lr1).2.2) (by omega)) d_1_22_4 t_637 t_638 t_639 t_8 t_640 ⟨by decide, by decide, by decide +kernel⟩ rfl (ci := 2) rfl hm4 hl4 ⟨ea4, mo4, hm4, hl4⟩ ⟨Nat.le_of_ble_eq_true rfl, Nat.le_of_ble_eq_true rfl⟩ (Nat.le_of_ble_eq_true rfl) (fun v4 r4 => ?_)
  obtain ⟨x4, rfl, xe4⟩ : ∃ x : Int32, v4 = some (.int x) ∧ (((K lr1).2.2 = 0 ∧ x = 1) ∨ (0 < (K lr1).2.2 ∧ x = 0)) := r4.elim (fun z => ⟨1, z.2, Or.inl ⟨z.1, rfl⟩⟩) (fun z => ⟨0, z.2, Or.inr ⟨z.1, rfl⟩⟩)
  refine g_if_eq cx d_1_22_7 rfl (fun c7 => ?_) (fun c7 => ?_)
  · skip
    have hpos : 0 < (K lr1).2.2 := by
      rcases xe4 with z | z
      · rw [z.2] at c7
        exact absurd c7 (by decide)
      · exact z.1
    refine g_aload_n cx 0 d_1_22_14 rfl rfl ?_
    refine g_getf cx (k := 2) d_1_22_15 in0 rfl (by decide) t_98 (Or.inl rfl) ha.1 he1 rfl ?_
    refine g_aload_n cx 0 d_1_22_18 rfl rfl ?_
    refine g_getf cx (k := 2) d_1_22_19 in0 rfl (by decide) t_98 (Or.inl rfl) ha.1 he1 rfl ?_
    obtain ⟨⟨ea22, mo22, hm22, hl22⟩, hb22⟩ := TP.n26 hT hlr1
    refine g_pcV cx (As := []) (n := 0) (pj_size (n := (K lr1).2.2)) d_1_22_22 t_235 t_236 t_237 t_8 t_238 ⟨by decide, by decide, by decide +kernel⟩ rfl (ci := 2) rfl hm22 hl22 ⟨ea22, mo22, hm22, hl22⟩ ⟨Nat.le_of_ble_eq_true rfl, Nat.le_of_ble_eq_true rfl⟩ (Nat.le_of_ble_eq_true rfl) (fun v22 r22 => ?_)
    subst r22
    refine g_iconst cx (v := 1) d_1_22_25 (by decide) ?_
    refine g_isub cx d_1_22_26 ?_
    refine g_topi (fun m26 em26 => ?_)
    obtain rfl : m26 = nI ((K lr1).2.2 - 1) := em26.trans (pk_sub hpos)
    obtain ⟨⟨ea27, mo27, hm27, hl27⟩, hb27⟩ := TP.n26 hT hlr1
    refine g_callV cx (As := [.int (nI ((K lr1).2.2 - 1))]) (n := 1) (gj_get (K := K) (B := B) (T := T) (ce := 6) (j := (K lr1).2.2 - 1) (by decide) hB) d_1_22_27 t_239 t_240 t_241 t_8 t_242 ⟨by decide, by decide, by decide +kernel⟩ rfl (ci := 2) rfl hm27 hl27 ⟨rfl, hT, hlr1, (by omega)⟩ ⟨Nat.le_of_ble_eq_true rfl, Nat.le_of_ble_eq_true rfl⟩ (Nat.le_of_ble_eq_true rfl) ⟨Nat.zero_le _, Nat.zero_le _⟩ (fun v27 h r27 => ?_) (fun x27 h r27 => by obtain ⟨-, y9, e9, -⟩ := r27; cases e9)
    obtain ⟨rfl, y27, e27, hy27⟩ := r27
    cases e27
    replace hy27 : Ty K h 6 y27 := hy27
    obtain ⟨n30, b130, b230, b330, w30, lo30, im30, fi30, pa30, he30, hw30, hlo30, him30, hfi30, hpa30, hwq30⟩ := TP.o (κ := 6) hT hy27
    obtain ⟨nw30, hw30⟩ : ∃ n, Tw k K h w30 n := ⟨_, Tx.tx hw30⟩
    refine g_ccast cx (ci := 6) d_1_22_30 t_251 rfl hy27.1 he30 ?_
    exact g_aret cx d_1_22_33 rfl (Or.inl ⟨_, rfl⟩) (Or.inr ⟨_, rfl⟩) ⟨rfl, _, rfl, Or.inr ⟨_, rfl, hy27⟩⟩
  · skip
    refine g_null cx d_1_22_10 ?_
    refine g_goto cx d_1_22_11 rfl ?_
    exact g_aret cx d_1_22_33 rfl (Or.inl ⟨_, rfl⟩) (Or.inl rfl) ⟨rfl, _, rfl, Or.inl rfl⟩
set_option maxHeartbeats 8000000 in
theorem pt_isThere {a ab la lr tr t : Nat} {v0 : Int32} (hB : B < 2 ^ 20) : PU l y_41 prog_1_method_17_code 2 (Option.some Jvm.ClassFile.FieldType.boolean) 6 D z0 k [.ref a, .int v0] K B T (fun h => a ∈ h.1 ∧ h.2 a = .inr (0, [.ref ab, .ref la, .ref lr, .ref tr, .int (nI t)]) ∧ Ty K h 25 la ∧ Ty K h 26 lr ∧ Ty K h 50 tr) (fun v _ => ∃ x : Int32, v = some (.int x) ∧ (x = 0 ∨ (x = 1 ∧ ∃ j : Nat, v0 = nI j ∧ j < (K lr).2.2))) := by
  refine pu_of (by decide) (Nat.le_of_ble_eq_true rfl) ?_
  intro h hT hp p e s m args below meth c cx
  obtain ⟨ham, hae, hla, hlr, htr⟩ := hp
  refine g_iload_n cx 1 d_1_17_0 rfl rfl ?_
  refine g_if_lt cx d_1_17_1 rfl (fun c1 => ?_) (fun c1 => ?_)
  · skip
    refine g_iconst cx (v := 0) d_1_17_36 (by decide) ?_
    exact g_iret cx d_1_17_37 rfl rfl ⟨rfl, _, rfl, _, rfl, Or.inl rfl⟩
  · skip
    obtain ⟨j, hj31, hv0⟩ := nI_of c1
    refine g_iload_n cx 1 d_1_17_4 rfl rfl ?_
    refine g_aload_n cx 0 d_1_17_5 rfl rfl ?_
    refine g_getf cx (k := 2) d_1_17_6 in0 rfl (by decide) t_98 (Or.inl rfl) ham hae rfl ?_
    obtain ⟨⟨ea9, mo9, hm9, hl9⟩, hb9⟩ := TP.n26 hT hlr
    refine g_pcV cx (As := []) (n := 0) (pj_size (n := (K lr).2.2)) d_1_17_9 t_235 t_236 t_237 t_8 t_238 ⟨by decide, by decide, by decide +kernel⟩ rfl (ci := 2) rfl hm9 hl9 ⟨ea9, mo9, hm9, hl9⟩ ⟨Nat.le_of_ble_eq_true rfl, Nat.le_of_ble_eq_true rfl⟩ (Nat.le_of_ble_eq_true rfl) (fun v9 r9 => ?_)
    subst r9
    refine g_icmp_ge cx d_1_17_12 rfl (fun c12 => ?_) (fun c12 => ?_)
    · skip
      refine g_iconst cx (v := 0) d_1_17_36 (by decide) ?_
      exact g_iret cx d_1_17_37 rfl rfl ⟨rfl, _, rfl, _, rfl, Or.inl rfl⟩
    · skip
      have hj : j < (K lr).2.2 := Nat.lt_of_not_le (fun q => c12 (by rw [hv0]; exact nI_le q hj31))
      subst hv0
      refine g_aload_n cx 0 d_1_17_15 rfl rfl ?_
      refine g_getf cx (k := 2) d_1_17_16 in0 rfl (by decide) t_98 (Or.inl rfl) ham hae rfl ?_
      refine g_iload_n cx 1 d_1_17_19 rfl rfl ?_
      obtain ⟨⟨ea20, mo20, hm20, hl20⟩, hb20⟩ := TP.n26 hT hlr
      refine g_callV cx (As := [.int (nI j)]) (n := 1) (gj_get (K := K) (B := B) (T := T) (ce := 6) (j := j) (by decide) hB) d_1_17_20 t_239 t_240 t_241 t_8 t_242 ⟨by decide, by decide, by decide +kernel⟩ rfl (ci := 2) rfl hm20 hl20 ⟨rfl, hT, hlr, hj⟩ ⟨Nat.le_of_ble_eq_true rfl, Nat.le_of_ble_eq_true rfl⟩ (Nat.le_of_ble_eq_true rfl) ⟨Nat.zero_le _, Nat.zero_le _⟩ (fun v20 h r20 => ?_) (fun x20 h r20 => by obtain ⟨-, y9, e9, -⟩ := r20; cases e9)
      obtain ⟨rfl, y20, e20, hy20⟩ := r20
      cases e20
      replace hy20 : Ty K h 6 y20 := hy20
      obtain ⟨n23, b123, b223, b323, w23, lo23, im23, fi23, pa23, he23, hw23, hlo23, him23, hfi23, hpa23, hwq23⟩ := TP.o (κ := 6) hT hy20
      obtain ⟨nw23, hw23⟩ : ∃ n, Tw k K h w23 n := ⟨_, Tx.tx hw23⟩
      refine g_ccast cx (ci := 6) d_1_17_23 t_251 rfl hy20.1 he23 ?_
      refine g_getf cx (k := 7) d_1_17_26 in6 rfl (by decide) t_743 (Or.inl rfl) hy20.1 he23 rfl ?_
      refine g_if_ne cx d_1_17_29 rfl (fun c29 => ?_) (fun c29 => ?_)
      · skip
        refine g_iconst cx (v := 0) d_1_17_36 (by decide) ?_
        exact g_iret cx d_1_17_37 rfl rfl ⟨rfl, _, rfl, _, rfl, Or.inl rfl⟩
      · skip
        refine g_iconst cx (v := 1) d_1_17_32 (by decide) ?_
        refine g_goto cx d_1_17_33 rfl ?_
        exact g_iret cx d_1_17_37 rfl rfl ⟨rfl, _, rfl, _, rfl, Or.inr ⟨rfl, j, rfl, hj⟩⟩
set_option maxHeartbeats 8000000 in
theorem pt_realmsThere {a : Nat} (hB : B < 2 ^ 20) : PU l y_98 prog_1_method_18_code 3 (Option.some Jvm.ClassFile.FieldType.int) 6 D z0 k [.ref a] K B T (fun h => Ty K h 1 a) (fun v _ => ∃ x : Int32, v = some (.int x)) := by
  refine pu_of (by decide) (Nat.le_of_ble_eq_true rfl) ?_
  intro h hT hp p e s m args below meth c cx
  have ha := hp
  obtain ⟨la0, lr0, tr0, tn0, he0, hla0, hlr0, htr0, htn0, hlq0, hlaq0⟩ := TP.o (κ := 1) hT ha
  obtain ⟨-, hbb⟩ := TP.n26 hT hlr0
  have lp : ∀ (n0 j : Nat) (th : Int32), (K lr0).2.2 - j < n0 → j ≤ (K lr0).2.2 → G p l e (rmT 6 0 0) s m args below meth c 3 D z0 (EE z0 k) (PUQ h (fun v _ => ∃ x : Int32, v = some (.int x))) 0 0 4 [(2, .int (nI j)), (1, .int th), (0, .ref a)] [] h 0 0 := by
    intro n0
    induction n0 with
    | zero => intro j th hj; exact absurd hj (Nat.not_lt_zero _)
    | succ n0 ih =>
      intro j th hj0 hjn
      refine g_iload_n cx 0 d_1_18_4 rfl rfl ?_
      refine g_aload_n cx 2 d_1_18_5 rfl rfl ?_
      refine g_getf cx (k := 2) d_1_18_6 in0 rfl (by decide) t_98 (Or.inl rfl) ha.1 he0 rfl ?_
      obtain ⟨⟨ea9, mo9, hm9, hl9⟩, hb9⟩ := TP.n26 hT hlr0
      refine g_pcV cx (As := []) (n := 0) (pj_size (n := (K lr0).2.2)) d_1_18_9 t_235 t_236 t_237 t_8 t_238 ⟨by decide, by decide, by decide +kernel⟩ rfl (ci := 2) rfl hm9 hl9 ⟨ea9, mo9, hm9, hl9⟩ ⟨Nat.le_of_ble_eq_true rfl, Nat.le_of_ble_eq_true rfl⟩ (Nat.le_of_ble_eq_true rfl) (fun v9 r9 => ?_)
      subst r9
      refine g_icmp_ge cx d_1_18_12 rfl (fun c12 => ?_) (fun c12 => ?_)
      · skip
        refine g_iload_n cx 1 d_1_18_41 rfl rfl ?_
        exact g_iret cx d_1_18_42 rfl rfl ⟨rfl, _, rfl, _, rfl⟩
      · skip
        have hj : j < (K lr0).2.2 := Nat.lt_of_not_le (fun q => c12 (nI_le q (by omega)))
        refine g_aload_n cx 2 d_1_18_15 rfl rfl ?_
        refine g_getf cx (k := 2) d_1_18_16 in0 rfl (by decide) t_98 (Or.inl rfl) ha.1 he0 rfl ?_
        refine g_iload_n cx 0 d_1_18_19 rfl rfl ?_
        obtain ⟨⟨ea20, mo20, hm20, hl20⟩, hb20⟩ := TP.n26 hT hlr0
        refine g_callV cx (As := [.int (nI j)]) (n := 1) (gj_get (K := K) (B := B) (T := T) (ce := 6) (j := j) (by decide) hB) d_1_18_20 t_239 t_240 t_241 t_8 t_242 ⟨by decide, by decide, by decide +kernel⟩ rfl (ci := 2) rfl hm20 hl20 ⟨rfl, hT, hlr0, hj⟩ ⟨Nat.le_of_ble_eq_true rfl, Nat.le_of_ble_eq_true rfl⟩ (Nat.le_of_ble_eq_true rfl) ⟨Nat.zero_le _, Nat.zero_le _⟩ (fun v20 h r20 => ?_) (fun x20 h r20 => by obtain ⟨-, y9, e9, -⟩ := r20; cases e9)
        obtain ⟨rfl, y20, e20, hy20⟩ := r20
        cases e20
        replace hy20 : Ty K h 6 y20 := hy20
        obtain ⟨n23, b123, b223, b323, w23, lo23, im23, fi23, pa23, he23, hw23, hlo23, him23, hfi23, hpa23, hwq23⟩ := TP.o (κ := 6) hT hy20
        obtain ⟨nw23, hw23⟩ : ∃ n, Tw k K h w23 n := ⟨_, Tx.tx hw23⟩
        refine g_ccast cx (ci := 6) d_1_18_23 t_251 rfl hy20.1 he23 ?_
        refine g_getf cx (k := 7) d_1_18_26 in6 rfl (by decide) t_743 (Or.inl rfl) hy20.1 he23 rfl ?_
        refine g_if_ne cx d_1_18_29 rfl (fun c29 => ?_) (fun c29 => ?_)
        · skip
          refine g_iinc cx 0 (lv' := [(2, .int (nI (j + 1))), (1, .int th), (0, .ref a)]) d_1_18_35 rfl (inc1 j) (by decide) rfl ?_
          refine g_goto cx d_1_18_38 rfl ?_
          exact g_loc [0, 1, 2] rfl (ih (j + 1) _ (by omega) (by omega))
        · skip
          refine g_iinc cx 1 (lv' := [(1, .int (th + 1)), (2, .int (nI j)), (0, .ref a)]) d_1_18_32 rfl rfl (by decide) rfl ?_
          refine g_iinc cx 1 (lv' := [(2, .int (nI (j + 1))), (1, .int (th + 1)), (0, .ref a)]) d_1_18_35 rfl (inc1 j) (by decide) rfl ?_
          refine g_goto cx d_1_18_38 rfl ?_
          exact g_loc [0, 1, 2] rfl (ih (j + 1) _ (by omega) (by omega))
  refine g_iconst cx (v := 0) d_1_18_0 (by decide) ?_
  refine g_istore_n cx (lv' := [(1, .int 0), (0, .ref a)]) d_1_18_1 rfl (by decide) rfl ?_
  refine g_iconst cx (v := 0) d_1_18_2 (by decide) ?_
  refine g_topi (fun j0 ej0 => ?_)
  obtain rfl : j0 = nI 0 := ej0
  refine g_istore_n cx (lv' := [(2, .int (nI 0)), (1, .int 0), (0, .ref a)]) d_1_18_3 rfl (by decide) rfl ?_
  exact lp ((K lr0).2.2 + 1) 0 _ (by omega) (Nat.zero_le _)
end C1
