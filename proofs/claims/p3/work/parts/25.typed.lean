/-! The class's cells by kinds: K a = (kind, length, how many are surely there); each cell's own conformity speaks of K and of itself alone. -/
abbrev KM : Type := Nat → Nat × Nat × Nat
def bd (κ B : Nat) : Nat := if κ = 24 then 40 else if κ = 25 then 6 else if κ = 26 then 8 else if κ = 27 then 4 else if κ = 29 then 4 else if κ = 23 then 6 else B
/-- kinds whose count may grow -/
def Gk (κ : Nat) : Prop := (23 ≤ κ ∧ κ ≤ 29) ∨ (33 ≤ κ ∧ κ ≤ 39)
/-- the kind of the elements of a list of number c: the loaded lists (9) hold archives -/
def ec (c : Nat) : Nat := if c = 9 then 5 else if c = 3 then 4 else c
theorem ec_le {c : Nat} : ec c ≤ c + 1 := by unfold ec; split <;> (try split) <;> omega
theorem ec_sub {ce : Nat} : ec (ce + 30 - 30) = ec ce := by rw [Nat.add_sub_cancel]
theorem ec_in {c : Nat} (h : 3 ≤ c ∧ c ≤ 9) : 4 ≤ ec c ∧ ec c ≤ 8 := by unfold ec; split <;> (try split) <;> omega
def Tx (k0 : Nat) (K : KM) (L : List Nat) (w : Nat) : Prop := (K w).1 = 3 ∧ (w ∈ L ∨ w = k0)
def okl (e0 : Nat) (K : KM) (L : List Nat) (B : Nat) (q : Nat × Nat × Nat) (e : va_E) : Prop := ∃ (ea : Nat) (mo : Int32), e = .inr (2, [.ref ea, .int (nI q.2.2), .int mo]) ∧ q.2.2 ≤ bd q.1 B ∧ ((ea = e0 ∧ q.2.2 = 0) ∨ (ea ∈ L ∧ (K ea).1 = q.1 + 10 ∧ q.2.2 ≤ (K ea).2.2))
def oka (D : va_G) (K : KM) (L : List Nat) (q : Nat × Nat × Nat) (e : va_E) : Prop := ∃ f : Nat → Option Nat, e = .inl (D.1 105, q.2.1, .inr (.inr (.inr (.inr f)))) ∧ q.2.2 ≤ q.2.1 ∧ q.2.1 < 2 ^ 20 ∧ (∀ j y, f j = some y → y ∈ L ∧ (K y).1 = ec (q.1 - 30)) ∧ ∀ j, j < q.2.2 → f j ≠ none
def oko (D : va_G) (k0 : Nat) (K : KM) (L : List Nat) (T : Nat) (q : Nat × Nat × Nat) (e : va_E) : Prop := match q.1 with
  | 1 => ∃ la lr tr t : Nat, e = .inr (0, [.ref q.2.1, .ref la, .ref lr, .ref tr, .int (nI t)]) ∧ (la ∈ L ∧ (K la).1 = 25) ∧ (lr ∈ L ∧ (K lr).1 = 26) ∧ (tr ∈ L ∧ (K tr).1 = 50) ∧ t ≤ T ∧ lr = q.2.2 ∧ la = (K lr).2.1
  | 3 => ∃ (v : Nat) (x y : Int32), e = .inr (3, [.ref v, .int 0, .int x, .int y]) ∧ (v ∈ L ∧ (K v).1 = 40) ∧ (K v).2 = q.2 ∧ q.2.1 ≤ 30 ∧ q.2.2 < 128 ^ q.2.1
  | 4 => ∃ w : Nat, e = .inr (4, [.ref w]) ∧ Tx k0 K L w ∧ w = q.2.1
  | 5 => ∃ (n t : Int32) (w l : Nat), e = .inr (5, [.int n, .ref w, .ref l, .int t]) ∧ Tx k0 K L w ∧ (l ∈ L ∧ (K l).1 = 23) ∧ w = q.2.1 ∧ l = q.2.2
  | 6 => ∃ (n b1 b2 b3 : Int32) (w lo im fi : Nat) (pa : Option Nat), e = .inr (6, [.int n, .ref w, .ref lo, .ref im, .ref fi, va_rf pa, .int b1, .int b2, .int b3]) ∧ Tx k0 K L w ∧ (lo ∈ L ∧ (K lo).1 = 29) ∧ (im ∈ L ∧ (K im).1 = 27) ∧ (fi ∈ L ∧ (K fi).1 = 28) ∧ (∀ y, pa = some y → (y ∈ L ∧ (K y).1 = 6)) ∧ w = q.2.1 ∧ b2 = nI (q.2.2 % 2) ∧ im = q.2.2 / 2 ∧ lo = (K im).2.1
  | 7 => ∃ w r : Nat, e = .inr (7, [.ref w, .ref r]) ∧ Tx k0 K L w ∧ (r ∈ L ∧ (K r).1 = 6)
  | 8 => ∃ (w : Nat) (pl : Int32), e = .inr (8, [.ref w, .int pl]) ∧ Tx k0 K L w
  | 40 => ∃ f : Nat → Int32, e = .inl (D.1 104, q.2.1, .inl f) ∧ sb_Fit f ∧ ∀ j, j < q.2.1 → f j = nI (chr q.2.2 j)
  | 50 => ∃ f : Nat → Int32, e = .inl (D.1 100, 20, .inl f)
  | _ => True
def okc (D : va_G) (k : Nat → Nat) (K : KM) (L : List Nat) (B T : Nat) (q : Nat × Nat × Nat) (e : va_E) : Prop := (23 ≤ q.1 ∧ q.1 ≤ 29 → okl (k 1) K L B q e) ∧ (33 ≤ q.1 ∧ q.1 ≤ 39 → oka D K L q e) ∧ oko D (k 10) K L T q e
def TP (D : va_G) (z0 : Nat) (k : Nat → Nat) (K : KM) (B T : Nat) (h : hp) : Prop := (∀ a, a ∈ h.1 → okc D k K h.1 B T (K a) (h.2 a)) ∧ (K (k 10)).1 = 3 ∧ (K (k 10)).2.1 = 0 ∧ (∀ a, a ∈ h.1 → z0 ≤ a) ∧ k 10 < z0 ∧ k 1 < z0
def KLe (p q : Nat × Nat × Nat) : Prop := q.1 = p.1 ∧ q.2.1 = p.2.1 ∧ p.2.2 ≤ q.2.2 ∧ (¬ Gk p.1 → q.2.2 = p.2.2)
theorem KLe.rf {p : Nat × Nat × Nat} : KLe p p := ⟨rfl, rfl, Nat.le_refl _, fun _ => rfl⟩
/-- the same, where a realm may go -/
def KLw (p q : Nat × Nat × Nat) : Prop := q.1 = p.1 ∧ q.2.1 = p.2.1 ∧ p.2.2 ≤ q.2.2 ∧ (p.1 = 40 → q.2.2 = p.2.2)
theorem KLe.w {p q : Nat × Nat × Nat} (h : KLe p q) : KLw p q := ⟨h.1, h.2.1, h.2.2.1, fun e => h.2.2.2 (by rw [e]; unfold Gk; omega)⟩
/-- nothing but what X names has changed, and that as the kinds allow -/
def Ev (k : Nat → Nat) (X : Nat → Prop) (K : KM) (h : hp) (K' : KM) (h' : hp) : Prop := (∀ a, a ∈ h.1 → a ∈ h'.1 ∧ ((K a).1 ≠ 0 → KLe (K a) (K' a)) ∧ (¬ X a → K' a = K a ∧ h'.2 a = h.2 a)) ∧ K' (k 10) = K (k 10)
abbrev X0 : Nat → Prop := fun _ => False
theorem Ev.rf {k : Nat → Nat} {X : Nat → Prop} {K : KM} {h : hp} : Ev k X K h K h := ⟨fun _ ha => ⟨ha, fun _ => KLe.rf, fun _ => ⟨rfl, rfl⟩⟩, rfl⟩
theorem Ev.trX {k : Nat → Nat} {X Y Z : Nat → Prop} {K K1 K2 : KM} {h h1 h2 : hp} (hXZ : ∀ a, a ∈ h.1 → X a → Z a) (hYZ : ∀ a, a ∈ h.1 → Y a → Z a) (a : Ev k X K h K1 h1) (b : Ev k Y K1 h1 K2 h2) : Ev k Z K h K2 h2 := by
  refine ⟨fun q hq => ?_, b.2.trans a.2⟩
  obtain ⟨a1, a2, a3⟩ := a.1 q hq
  obtain ⟨b1, b2, b3⟩ := b.1 q a1
  refine ⟨b1, fun hn => ?_, fun hz => ?_⟩
  · have c1 := a2 hn
    have c2 := b2 (by rw [c1.1]; exact hn)
    exact ⟨c2.1.trans c1.1, c2.2.1.trans c1.2.1, Nat.le_trans c1.2.2.1 c2.2.2.1, fun hg => (c2.2.2.2 (by rw [c1.1]; exact hg)).trans (c1.2.2.2 hg)⟩
  · have c1 := a3 (fun hx => hz (hXZ q hq hx))
    have c2 := b3 (fun hy => hz (hYZ q hq hy))
    exact ⟨c2.1.trans c1.1, c2.2.trans c1.2⟩
theorem Ev.tr {k : Nat → Nat} {X : Nat → Prop} {K K1 K2 : KM} {h h1 h2 : hp} (a : Ev k X K h K1 h1) (b : Ev k X0 K1 h1 K2 h2) : Ev k X K h K2 h2 := a.trX (fun _ _ x => x) (fun _ _ y => y.elim) b
/-- a fresh cell, then what is done to it -/
theorem Ev.trN {k : Nat → Nat} {X : Nat → Prop} {K K1 K2 : KM} {h h1 h2 : hp} {q : Nat} (a : Ev k X K h K1 h1) (hq : q ∉ h.1) (b : Ev k (fun z => z = q) K1 h1 K2 h2) : Ev k X K h K2 h2 := a.trX (fun _ _ x => x) (fun z hz y => absurd (y ▸ hz) hq) b
def Ty (K : KM) (h : hp) (κ a : Nat) : Prop := a ∈ h.1 ∧ (K a).1 = κ
def Tw (k : Nat → Nat) (K : KM) (h : hp) (w n : Nat) : Prop := (K w).1 = 3 ∧ (K w).2.1 = n ∧ (w ∈ h.1 ∨ w = k 10)
theorem Ev.ty {k : Nat → Nat} {X : Nat → Prop} {K K' : KM} {h h' : hp} (ev : Ev k X K h K' h') {κ a : Nat} (t : Ty K h (κ + 1) a) : Ty K' h' (κ + 1) a := by
  obtain ⟨a1, a2, -⟩ := ev.1 a t.1
  have hk : (K a).1 = κ + 1 := t.2
  exact ⟨a1, (a2 (by omega)).1.trans hk⟩
theorem Ev.tx {k : Nat → Nat} {X : Nat → Prop} {K K' : KM} {h h' : hp} (ev : Ev k X K h K' h') {w n : Nat} (t : Tw k K h w n) : Tw k K' h' w n := by
  obtain ⟨t1, t2, t3⟩ := t
  rcases t3 with t3 | rfl
  · obtain ⟨a1, a2, -⟩ := ev.1 w t3
    have c := a2 (by omega)
    exact ⟨c.1.trans t1, c.2.1.trans t2, Or.inl a1⟩
  · have e := ev.2
    exact ⟨by rw [e]; exact t1, by rw [e]; exact t2, Or.inr rfl⟩
theorem Ev.sz {k : Nat → Nat} {X : Nat → Prop} {K K' : KM} {h h' : hp} (ev : Ev k X K h K' h') {κ a j : Nat} (t : Ty K h (κ + 1) a) (hj : j < (K a).2.2) : j < (K' a).2.2 := by
  obtain ⟨a1, a2, -⟩ := ev.1 a t.1
  have hk : (K a).1 = κ + 1 := t.2
  have c := (a2 (by omega)).2.2.1
  omega
theorem Tx.tx {k : Nat → Nat} {K : KM} {h : hp} {w : Nat} (t : Tx (k 10) K h.1 w) : Tw k K h w (K w).2.1 := ⟨t.1, rfl, t.2⟩
theorem Tw.tx {k : Nat → Nat} {K : KM} {h : hp} {w n : Nat} (t : Tw k K h w n) : Tx (k 10) K h.1 w := ⟨t.1, t.2.2⟩
section TPL
variable {D : va_G} {z0 : Nat} {k : Nat → Nat} {K K' : KM} {B B' T T' : Nat} {h h' : hp} {a κ : Nat}
theorem TP.c (t : TP D z0 k K B T h) (ha : a ∈ h.1) : okc D k K h.1 B T (K a) (h.2 a) := t.1 a ha
theorem TP.o (t : TP D z0 k K B T h) (ha : Ty K h κ a) : oko D (k 10) K h.1 T (κ, (K a).2) (h.2 a) := by
  have c := (t.1 a ha.1).2.2
  rw [show K a = (κ, (K a).2) from Prod.ext ha.2 rfl] at c
  exact c
theorem TP.l (t : TP D z0 k K B T h) (ha : Ty K h κ a) (hk : 23 ≤ κ ∧ κ ≤ 29) : okl (k 1) K h.1 B (κ, (K a).2) (h.2 a) := by
  have c := (t.1 a ha.1).1
  rw [show K a = (κ, (K a).2) from Prod.ext ha.2 rfl] at c
  exact c hk
theorem TP.ar (t : TP D z0 k K B T h) (ha : Ty K h κ a) (hk : 33 ≤ κ ∧ κ ≤ 39) : oka D K h.1 (κ, (K a).2) (h.2 a) := by
  have c := (t.1 a ha.1).2.1
  rw [show K a = (κ, (K a).2) from Prod.ext ha.2 rfl] at c
  exact c hk
theorem TP.nk0 (t : TP D z0 k K B T h) : k 10 ∉ h.1 := fun q => absurd (t.2.2.2.1 _ q) (Nat.not_le.mpr t.2.2.2.2.1)
theorem TP.nk1 (t : TP D z0 k K B T h) : k 1 ∉ h.1 := fun q => absurd (t.2.2.2.1 _ q) (Nat.not_le.mpr t.2.2.2.2.2)
theorem TP.str (t : TP D z0 k K B T h) {w n : Nat} (q : Tw k K h w n) : ∃ v, StrP D k h w v n := by
  obtain ⟨q1, q2, q3⟩ := q
  rcases q3 with q3 | rfl
  · obtain ⟨v, x, y, e1, ⟨e2, e3⟩, e4, e5, -⟩ : ∃ (v : Nat) (x y : Int32), h.2 w = .inr (3, [.ref v, .int 0, .int x, .int y]) ∧ (v ∈ h.1 ∧ (K v).1 = 40) ∧ (K v).2 = (K w).2 ∧ (K w).2.1 ≤ 30 ∧ (K w).2.2 < 128 ^ (K w).2.1 := TP.o (κ := 3) t ⟨q3, q1⟩
    obtain ⟨f, g1, g2, -⟩ : ∃ f : Nat → Int32, h.2 v = .inl (D.1 104, (K v).2.1, .inl f) ∧ sb_Fit f ∧ ∀ j, j < (K v).2.1 → f j = nI (chr (K v).2.2 j) := TP.o (κ := 40) t ⟨e2, e3⟩
    replace e4 : (K v).2.1 = (K w).2.1 := congrArg Prod.fst e4
    refine ⟨v, Or.inl ⟨x, y, f, q3, e1, e2, ?_, g2, by omega⟩⟩
    rw [g1, e4, q2]
  · exact ⟨k 30, Or.inr ⟨0, by decide, rfl, rfl, q2.symm.trans t.2.2.1⟩⟩
theorem Tw.le {w n : Nat} (q : Tw k K h w n) (t : TP D z0 k K B T h) : n ≤ 30 := by
  obtain ⟨v, hv⟩ := t.str q
  exact hv.ba.le
theorem bd_mono (hB : B ≤ B') : bd κ B ≤ bd κ B' := by
  unfold bd
  repeat' split
  all_goals omega
theorem okc.monoW {L L' : List Nat} {q : Nat × Nat × Nat} {e : va_E} (hB : B ≤ B') (hT : T ≤ T') (hL : ∀ a, a ∈ L → a ∈ L' ∧ ((K a).1 ≠ 0 → KLw (K a) (K' a))) (h0 : (K (k 10)).1 = 3 → (K' (k 10)).1 = 3) (c : okc D k K L B T q e) : okc D k K' L' B' T' q e := by
  have key : ∀ {x c : Nat}, c ≠ 0 → x ∈ L ∧ (K x).1 = c → x ∈ L' ∧ (K' x).1 = c := by
    intro x c hc hx
    obtain ⟨b1, b2⟩ := hL x hx.1
    exact ⟨b1, (b2 (by rw [hx.2]; exact hc)).1.trans hx.2⟩
  have keyT : ∀ {w : Nat}, Tx (k 10) K L w → Tx (k 10) K' L' w := by
    intro w hw
    obtain ⟨w1, w2⟩ := hw
    rcases w2 with w2 | rfl
    · have b := key (by decide) ⟨w2, w1⟩
      exact ⟨b.2, Or.inl b.1⟩
    · exact ⟨h0 w1, Or.inr rfl⟩
  refine ⟨fun hk => ?_, fun hk => ?_, ?_⟩
  · obtain ⟨ea, mo, e1, e2, e3⟩ := c.1 hk
    refine ⟨ea, mo, e1, Nat.le_trans e2 (bd_mono hB), ?_⟩
    rcases e3 with e3 | ⟨e3, e4, e5⟩
    · exact Or.inl e3
    · obtain ⟨b1, b2⟩ := hL ea e3
      have b3 := b2 (by omega)
      exact Or.inr ⟨b1, b3.1.trans e4, Nat.le_trans e5 b3.2.2.1⟩
  · obtain ⟨f, e1, e2, e3, e4, e5⟩ := c.2.1 hk
    refine ⟨f, e1, e2, e3, fun j y hy => ?_, e5⟩
    obtain ⟨g1, g2⟩ := e4 j y hy
    obtain ⟨b1, b2⟩ := hL y g1
    have b3 := (b2 (by rw [g2]; unfold ec; split <;> (try split) <;> omega)).1
    exact ⟨b1, by rw [b3]; exact g2⟩
  · have o := c.2.2
    unfold oko at o ⊢
    split at o
    · obtain ⟨la, lr, tr, t, e1, e2, e3, e4, e5⟩ := o
      exact ⟨la, lr, tr, t, e1, key (by decide) e2, key (by decide) e3, key (by decide) e4, Nat.le_trans e5.1 hT, e5.2.1, e5.2.2.trans ((hL lr e3.1).2 (by rw [e3.2]; decide)).2.1.symm⟩
    · obtain ⟨v, x, y, e1, e2, e3, e4⟩ := o
      obtain ⟨b1, b2⟩ := hL v e2.1
      have b3 := b2 (by omega)
      have b4 := b3.2.2.2 e2.2
      exact ⟨v, x, y, e1, key (by decide) e2, (Prod.ext b3.2.1 b4 : (K' v).2 = (K v).2).trans e3, e4⟩
    · obtain ⟨w, e1, e2, e3⟩ := o
      exact ⟨w, e1, keyT e2, e3⟩
    · obtain ⟨n, t, w, l, e1, e2, e3, e4⟩ := o
      exact ⟨n, t, w, l, e1, keyT e2, key (by decide) e3, e4⟩
    · obtain ⟨n, b1, b2, b3, w, lo, im, fi, pa, e1, e2, e3, e4, e5, e6, e7⟩ := o
      exact ⟨n, b1, b2, b3, w, lo, im, fi, pa, e1, keyT e2, key (by decide) e3, key (by decide) e4, key (by decide) e5, fun y hy => key (by decide) (e6 y hy), e7.1, e7.2.1, e7.2.2.1, e7.2.2.2.trans ((hL im e4.1).2 (by rw [e4.2]; decide)).2.1.symm⟩
    · obtain ⟨w, r, e1, e2, e3⟩ := o
      exact ⟨w, r, e1, keyT e2, key (by decide) e3⟩
    · obtain ⟨w, pl, e1, e2⟩ := o
      exact ⟨w, pl, e1, keyT e2⟩
    · exact o
    · exact o
    · exact trivial
theorem okc.mono {L L' : List Nat} {q : Nat × Nat × Nat} {e : va_E} (hB : B ≤ B') (hT : T ≤ T') (hL : ∀ a, a ∈ L → a ∈ L' ∧ ((K a).1 ≠ 0 → KLe (K a) (K' a))) (h0 : (K (k 10)).1 = 3 → (K' (k 10)).1 = 3) (c : okc D k K L B T q e) : okc D k K' L' B' T' q e := c.monoW hB hT (fun a ha => ⟨(hL a ha).1, fun hn => ((hL a ha).2 hn).w⟩) h0
theorem TP.mono (hB : B ≤ B') (hT : T ≤ T') (t : TP D z0 k K B T h) : TP D z0 k K B' T' h := ⟨fun a ha => (t.1 a ha).mono hB hT (fun x hx => ⟨hx, fun _ => KLe.rf⟩) id, t.2⟩
/-- a cell that is there is written; its kind may become known, its counts may grow -/
theorem TP.put {q : Nat × Nat × Nat} {e : va_E} (t : TP D z0 k K B T h) (ha : a ∈ h.1) (hq : (K a).1 ≠ 0 → KLe (K a) q) (c : okc D k (va_up K a q) h.1 B T q e) : TP D z0 k (va_up K a q) B T (h.1, va_up h.2 a e) := by
  have hne : k 10 ≠ a := fun x => t.nk0 (x ▸ ha)
  have e0 : va_up K a q (k 10) = K (k 10) := va_up_ne _ _ hne
  refine ⟨fun b hb => ?_, by rw [e0]; exact t.2.1, by rw [e0]; exact t.2.2.1, t.2.2.2⟩
  by_cases hba : b = a
  · subst hba
    show okc D k _ _ _ _ (va_up K b q b) (va_up h.2 b e b)
    rw [va_up_self, va_up_self]
    exact c
  · show okc D k _ _ _ _ (va_up K a q b) (va_up h.2 a e b)
    rw [va_up_ne _ _ hba, va_up_ne _ _ hba]
    refine (t.1 b hb).mono (Nat.le_refl _) (Nat.le_refl _) (fun x hx => ⟨hx, fun hn => ?_⟩) (by rw [e0]; exact id)
    by_cases hxa : x = a
    · subst hxa
      rw [va_up_self]
      exact hq hn
    · rw [va_up_ne _ _ hxa]
      exact KLe.rf
theorem TP.putW {q : Nat × Nat × Nat} {e : va_E} (t : TP D z0 k K B T h) (ha : a ∈ h.1) (hq : (K a).1 ≠ 0 → KLw (K a) q) (c : okc D k (va_up K a q) h.1 B T q e) : TP D z0 k (va_up K a q) B T (h.1, va_up h.2 a e) := by
  have hne : k 10 ≠ a := fun x => t.nk0 (x ▸ ha)
  have e0 : va_up K a q (k 10) = K (k 10) := va_up_ne _ _ hne
  refine ⟨fun b hb => ?_, by rw [e0]; exact t.2.1, by rw [e0]; exact t.2.2.1, t.2.2.2⟩
  by_cases hba : b = a
  · subst hba
    show okc D k _ _ _ _ (va_up K b q b) (va_up h.2 b e b)
    rw [va_up_self, va_up_self]
    exact c
  · show okc D k _ _ _ _ (va_up K a q b) (va_up h.2 a e b)
    rw [va_up_ne _ _ hba, va_up_ne _ _ hba]
    refine (t.1 b hb).monoW (Nat.le_refl _) (Nat.le_refl _) (fun x hx => ⟨hx, fun hn => ?_⟩) (by rw [e0]; exact id)
    by_cases hxa : x = a
    · subst hxa
      rw [va_up_self]
      exact hq hn
    · rw [va_up_ne _ _ hxa]
      exact KLe.rf.w
theorem Ev.put {q : Nat × Nat × Nat} {e : va_E} (t : TP D z0 k K B T h) (ha : a ∈ h.1) (hq : (K a).1 ≠ 0 → KLe (K a) q) : Ev k (fun z => z = a) K h (va_up K a q) (h.1, va_up h.2 a e) := by
  refine ⟨fun b hb => ⟨hb, fun hn => ?_, fun hx => ?_⟩, va_up_ne _ _ (fun x => t.nk0 (x ▸ ha))⟩
  · by_cases hba : b = a
    · subst hba
      rw [va_up_self]
      exact hq hn
    · rw [va_up_ne _ _ hba]
      exact KLe.rf
  · exact ⟨va_up_ne _ _ hx, va_up_ne _ _ hx⟩
theorem up_same {α : Type} {f : Nat → α} {a : Nat} : va_up f a (f a) = f := by
  funext x
  by_cases hx : x = a
  · subst hx
    rw [va_up_self]
  · rw [va_up_ne _ _ hx]
theorem up_up {α : Type} {f : Nat → α} {a : Nat} {x y : α} : va_up (va_up f a x) a y = va_up f a y := by
  funext z
  by_cases hz : z = a
  · subst hz
    rw [va_up_self, va_up_self]
  · rw [va_up_ne _ _ hz, va_up_ne _ _ hz, va_up_ne _ _ hz]
/-- the same, with the kinds as they are -/
theorem TP.putS {e : va_E} (t : TP D z0 k K B T h) (ha : a ∈ h.1) (c : okc D k K h.1 B T (K a) e) : TP D z0 k K B T (h.1, va_up h.2 a e) := by
  have x := TP.put (q := K a) (e := e) t ha (fun _ => KLe.rf) (by rw [up_same]; exact c)
  rw [up_same] at x
  exact x
theorem Ev.putS {e : va_E} (t : TP D z0 k K B T h) (ha : a ∈ h.1) : Ev k (fun z => z = a) K h K (h.1, va_up h.2 a e) := by
  have x := Ev.put (q := K a) (e := e) t ha (fun _ => KLe.rf)
  rw [up_same] at x
  exact x
theorem TP.push {q : Nat × Nat × Nat} {e : va_E} (t : TP D z0 k K B T h) (ha : a ∉ h.1) (hz : z0 ≤ a) (c : okc D k (va_up K a q) (h.1 ++ [a]) B T q e) : TP D z0 k (va_up K a q) B T (h.1 ++ [a], va_up h.2 a e) := by
  have hne : k 10 ≠ a := fun x => absurd (x ▸ hz) (Nat.not_le.mpr t.2.2.2.2.1)
  have e0 : va_up K a q (k 10) = K (k 10) := va_up_ne _ _ hne
  refine ⟨fun b hb => ?_, by rw [e0]; exact t.2.1, by rw [e0]; exact t.2.2.1, fun b hb => ?_, t.2.2.2.2⟩
  · by_cases hba : b = a
    · subst hba
      show okc D k _ _ _ _ (va_up K b q b) (va_up h.2 b e b)
      rw [va_up_self, va_up_self]
      exact c
    · have hb1 : b ∈ h.1 := by
        rcases List.mem_append.mp hb with x | x
        · exact x
        · exact absurd (List.mem_singleton.mp x) hba
      show okc D k _ _ _ _ (va_up K a q b) (va_up h.2 a e b)
      rw [va_up_ne _ _ hba, va_up_ne _ _ hba]
      refine (t.1 b hb1).mono (Nat.le_refl _) (Nat.le_refl _) (fun x hx => ⟨List.mem_append_left _ hx, fun hn => ?_⟩) (by rw [e0]; exact id)
      have hxa : x ≠ a := fun z => ha (z ▸ hx)
      rw [va_up_ne _ _ hxa]
      exact KLe.rf
  · rcases List.mem_append.mp hb with x | x
    · exact t.2.2.2.1 b x
    · rw [List.mem_singleton.mp x]
      exact hz
theorem Ev.push {X : Nat → Prop} {q : Nat × Nat × Nat} {e : va_E} (t : TP D z0 k K B T h) (ha : a ∉ h.1) (hz : z0 ≤ a) : Ev k X K h (va_up K a q) (h.1 ++ [a], va_up h.2 a e) := by
  refine ⟨fun b hb => ?_, va_up_ne _ _ (fun x => absurd (x ▸ hz) (Nat.not_le.mpr t.2.2.2.2.1))⟩
  have hba : b ≠ a := fun x => ha (x ▸ hb)
  refine ⟨List.mem_append_left _ hb, fun _ => ?_, fun _ => ⟨va_up_ne _ _ hba, va_up_ne _ _ hba⟩⟩
  rw [va_up_ne _ _ hba]
  exact KLe.rf
theorem TP.raw {e : va_E} (t : TP D z0 k K B T h) (ha : a ∉ h.1) (hz : z0 ≤ a) : TP D z0 k (va_up K a (0, 0, 0)) B T (h.1 ++ [a], va_up h.2 a e) := t.push ha hz ⟨fun x => absurd x.1 (by decide), fun x => absurd x.1 (by decide), trivial⟩
theorem TP.frz {e : va_E} (t : TP D z0 k K B T h) (ha : a ∉ h.1) (hz : z0 ≤ a) : TP D z0 k (va_up K a (99, 0, 0)) B T (h.1 ++ [a], va_up h.2 a e) := t.push ha hz ⟨fun x => absurd x.2 (by decide), fun x => absurd x.2 (by decide), trivial⟩
theorem okc.ob {L : List Nat} {q : Nat × Nat × Nat} {e : va_E} (h1 : ¬ (23 ≤ q.1 ∧ q.1 ≤ 29)) (h2 : ¬ (33 ≤ q.1 ∧ q.1 ≤ 39)) (c : oko D (k 10) K L T q e) : okc D k K L B T q e := ⟨fun x => absurd x h1, fun x => absurd x h2, c⟩
theorem oko.none {L : List Nat} {q : Nat × Nat × Nat} {e : va_E} (h1 : (23 ≤ q.1 ∧ q.1 ≤ 29) ∨ (33 ≤ q.1 ∧ q.1 ≤ 39)) : oko D (k 10) K L T q e := by
  unfold oko
  split <;> first | (exact trivial) | omega
end TPL
/-- what may change: what e names, and the cells of the kinds P -/
def XP (e P : Nat → Prop) (K : KM) : Nat → Prop := fun z => e z ∨ P ((K z).1)
theorem XP.back {k : Nat → Nat} {e P : Nat → Prop} {K K1 : KM} {h h1 : hp} (a : Ev k (XP e P K) K h K1 h1) {z : Nat} (hz : z ∈ h.1) (y : XP e P K1 z) : XP e P K z := by
  by_cases hx : XP e P K z
  · exact hx
  · have c := (a.1 z hz).2.2 hx
    rcases y with y | y
    · exact Or.inl y
    · rw [c.1] at y
      exact Or.inr y
theorem Ev.trP {k : Nat → Nat} {e P : Nat → Prop} {K K1 K2 : KM} {h h1 h2 : hp} (a : Ev k (XP e P K) K h K1 h1) (b : Ev k (XP e P K1) K1 h1 K2 h2) : Ev k (XP e P K) K h K2 h2 := a.trX (fun _ _ x => x) (fun _ hz y => XP.back a hz y) b
theorem Ev.tr1 {k : Nat → Nat} {e P : Nat → Prop} {K K1 K2 : KM} {h h1 h2 : hp} {q : Nat} (a : Ev k (XP e P K) K h K1 h1) (hq : XP e P K1 q) (b : Ev k (fun z => z = q) K1 h1 K2 h2) : Ev k (XP e P K) K h K2 h2 := Ev.trX (Y := fun z => z = q) (fun _ _ x => x) (fun z hz (y : z = q) => XP.back a hz (by rw [y]; exact hq)) a b
theorem Ev.wk {k : Nat → Nat} {X Y : Nat → Prop} {K K1 : KM} {h h1 : hp} (hXY : ∀ z, z ∈ h.1 → X z → Y z) (a : Ev k X K h K1 h1) : Ev k Y K h K1 h1 := a.trX hXY (fun _ _ y => y.elim) (Ev.rf (X := X0))
