/-! The class's cells as S tells them. -/
/-- what the line answers: a number, or one of two exceptions -/
def OA (an : Int32) : Outcome → KM → hp → Prop := fun o K h => (¬ an < 0 ∧ o = .returned (some (.int an))) ∨ (an = -1 ∧ Thr (fun c => c = 10) o K h) ∨ (an = -2 ∧ Thr (fun c => c = 11) o K h)
def RQ (D : va_G) (k : Nat → Nat) (K : KM) (h : hp) (lr nr : Nat) (rz nq cq gq : Nat → Nat) : Prop := LsK D K h lr 26 nr rz ∧ (∀ j, j < nr → Ty K h 6 (rz j) ∧ Tc k K h (K (rz j)).2.1 (nq j) (cq j) ∧ WordOk (nq j) (cq j) ∧ (K (rz j)).2.2 % 2 = gq j) ∧ ∀ i j, i < nr → j < nr → rz i = rz j → i = j
def AQz (D : va_G) (k : Nat → Nat) (K : KM) (h : hp) (la na : Nat) (az nz cz : Nat → Nat) : Prop := LsK D K h la 25 na az ∧ (∀ j, j < na → Ty K h 5 (az j) ∧ Tc k K h (K (az j)).2.1 (nz j) (cz j) ∧ WordOk (nz j) (cz j)) ∧ ∀ i j, i < na → j < na → az i = az j → i = j
def NQz (D : va_G) (k : Nat → Nat) (K : KM) (h : hp) (l nn : Nat) (nt nl nc : Nat → Nat) : Prop := LsK D K h l 23 nn nt ∧ ∀ t, t < nn → Ty K h 4 (nt t) ∧ Tc k K h (K (nt t)).2.1 (nl t) (nc t) ∧ 1 ≤ nl t
def HQz (D : va_G) (K : KM) (h : hp) (im nlo : Nat) (ls : Nat → Nat) (ni : Nat) : Prop := Ty K h 27 im ∧ (K im).2.2 = ni ∧ LsK D K h (K im).2.1 29 nlo ls
/-- the class's cells as S tells them -/
def CQ (D : va_G) (k : Nat → Nat) (K : KM) (h : hp) (lr : Nat) (S : SL) (rz az nt : Nat → Nat) : Prop := RQ D k K h lr (S 0 0) rz (S 1) (S 2) (S 3) ∧ AQz D k K h (K lr).2.1 (S 4 0) az (S 5) (S 6) ∧ (0 < S 4 0 → NQz D k K h (K (az (S 4 0 - 1))).2.2 (S 7 0) nt (S 8) (S 9)) ∧ (0 < S 0 0 → HQz D K h ((K (rz (S 0 0 - 1))).2.2 / 2) (S 10 0) (fun t => az (S 11 t)) (S 12 0) ∧ ∀ t, t < S 10 0 → S 11 t < S 4 0)
/-- the kinds that the link speaks of -/
def Pq (κ : Nat) : Prop := κ = 26 ∨ κ = 36 ∨ κ = 25 ∨ κ = 35 ∨ κ = 23 ∨ κ = 33 ∨ κ = 29 ∨ κ = 39 ∨ κ = 27
section CQS
variable {D : va_G} {z0 : Nat} {k : Nat → Nat} {K K' : KM} {h h' : hp} {B T lr nr na nn n cd la q w j : Nat} {rz nq cq gq az nz cz nt nl nc ls : Nat → Nat} {X : Nat → Prop} {S : SL}
theorem LsK.cg {κ m : Nat} {es es' : Nat → Nat} (q : LsK D K h la κ m es) (he : ∀ j, j < m → es' j = es j) : LsK D K h la κ m es' := by
  obtain ⟨a1, a2, ea, n, mo, a3, a4⟩ := q
  refine ⟨a1, a2, ea, n, mo, a3, a4.imp id (fun z => ⟨z.1, z.2.1, ?_⟩)⟩
  obtain ⟨c, f, g1, g2⟩ := z.2.2
  exact ⟨c, f, g1, fun j hj => by rw [he j hj]; exact g2 j hj⟩
theorem RQ.ev (q : RQ D k K h lr nr rz nq cq gq) (ev : Ev k X K h K' h') (hX : ∀ z, (K z).1 = 26 ∨ (K z).1 = 36 → ¬ X z) : RQ D k K' h' lr nr rz nq cq gq := by
  refine ⟨q.1.ev (κ := 25) ev hX, fun j hj => ?_, q.2.2⟩
  obtain ⟨a1, a2, a3, a4⟩ := q.2.1 j hj
  refine ⟨Ev.ty (κ := 5) ev a1, ?_, a3, ?_⟩
  · rw [Ev.ab (κ := 5) ev a1 rfl]
    exact Ev.tc ev a2
  · rw [Ev.fix (κ := 5) ev a1 (by unfold Gk; omega)]
    exact a4
theorem AQz.ev (q : AQz D k K h la na az nz cz) (ev : Ev k X K h K' h') (hX : ∀ z, (K z).1 = 25 ∨ (K z).1 = 35 → ¬ X z) : AQz D k K' h' la na az nz cz := by
  refine ⟨q.1.ev (κ := 24) ev hX, fun j hj => ?_, q.2.2⟩
  obtain ⟨a1, a2, a3⟩ := q.2.1 j hj
  refine ⟨Ev.ty (κ := 4) ev a1, ?_, a3⟩
  rw [Ev.ab (κ := 4) ev a1 rfl]
  exact Ev.tc ev a2
theorem NQz.ev (q : NQz D k K h la nn nt nl nc) (ev : Ev k X K h K' h') (hX : ∀ z, (K z).1 = 23 ∨ (K z).1 = 33 → ¬ X z) : NQz D k K' h' la nn nt nl nc := by
  refine ⟨q.1.ev (κ := 22) ev hX, fun j hj => ?_⟩
  obtain ⟨a1, a2, a3⟩ := q.2 j hj
  refine ⟨Ev.ty (κ := 3) ev a1, ?_, a3⟩
  rw [Ev.ab (κ := 3) ev a1 rfl]
  exact Ev.tc ev a2
theorem HQz.ev {im nlo ni : Nat} (q : HQz D K h im nlo ls ni) (ev : Ev k X K h K' h') (hX : ∀ z, (K z).1 = 27 ∨ (K z).1 = 29 ∨ (K z).1 = 39 → ¬ X z) : HQz D K' h' im nlo ls ni := by
  obtain ⟨a1, a2, a3⟩ := q
  have c := ((ev.1 im a1.1).2.2 (hX im (Or.inl a1.2))).1
  refine ⟨Ev.ty (κ := 26) ev a1, by rw [c]; exact a2, ?_⟩
  rw [c]
  exact a3.ev (κ := 28) ev (fun z hz => hX z (Or.inr hz))
theorem CQ.ev (Q : CQ D k K h lr S rz az nt) (ev : Ev k X K h K' h') (hX : ∀ z, Pq (K z).1 → ¬ X z) : CQ D k K' h' lr S rz az nt := by
  obtain ⟨q1, q2, q3, q4⟩ := Q
  refine ⟨q1.ev ev (fun z hz => hX z (by unfold Pq; omega)), ?_, fun h0 => ?_, fun h0 => ⟨?_, (q4 h0).2⟩⟩
  · rw [Ev.ab (κ := 25) ev q1.1.1 rfl]
    exact q2.ev ev (fun z hz => hX z (by unfold Pq; omega))
  · rw [Ev.fix (κ := 4) ev (q2.2.1 (S 4 0 - 1) (by omega)).1 (by unfold Gk; omega)]
    exact (q3 h0).ev ev (fun z hz => hX z (by unfold Pq; omega))
  · rw [Ev.fix (κ := 5) ev (q1.2.1 (S 0 0 - 1) (by omega)).1 (by unfold Gk; omega)]
    exact (q4 h0).1.ev ev (fun z hz => hX z (by unfold Pq; omega))
theorem xnQ : ∀ z, Pq (K z).1 → ¬ XN K z := fun z hz y => by
  unfold Pq at hz
  rcases y with y | y
  · exact y
  · obtain ⟨y1, y2, y3, y4, y5, y6, y7, y8, y9, y10, y11⟩ := y
    omega
theorem xeQ {e : Nat → Prop} (he : ∀ z, e z → (K z).1 = 99) : ∀ z, Pq (K z).1 → ¬ XP e PN K z := fun z hz y => by
  unfold Pq at hz
  rcases y with y | y
  · have := he z y
    omega
  · obtain ⟨y1, y2, y3, y4, y5, y6, y7, y8, y9, y10, y11⟩ := y
    omega
theorem x1Q {q : Nat} (hq : (K q).1 = 99) : ∀ z, Pq (K z).1 → ¬ z = q := fun z hz y => by
  unfold Pq at hz
  rw [y] at hz
  omega
theorem x0Q {q : Nat} (hr : K q = (0, 0, 0)) : ∀ z, Pq (K z).1 → ¬ z = q := fun z hz y => by
  unfold Pq at hz
  rw [y, hr] at hz
  simp at hz
theorem Tc.mem (hT : TP D z0 k K B T h) (t : Tc k K h w n cd) (hn : 1 ≤ n) : w ∈ h.1 := t.1.2.2.elim id (fun e => by
  have h1 := t.1.2.1
  rw [e, hT.2.2.1] at h1
  omega)
/-- what an add to a list of number ce leaves alone -/
theorem xaQ {ce : Nat} (hla : Ty K h (ce + 20) la) : ∀ z, ((K z).1 ≠ ce + 20 ∨ z ≠ la) ∧ (K z).1 ≠ ce + 30 → ¬ XP (fun z => z = la) (fun κ => κ = ce + 30) K z := fun z hz y => by
  rcases y with y | y
  · have y2 : z = la := y
    rcases hz.1 with q | q
    · rw [y2] at q
      exact q hla.2
    · exact q y2
  · exact hz.2 y
theorem CQ.addR {im lo : Nat} (Q : CQ D k K h lr S rz az nt) (hT' : TP D z0 k K' B T h') (ev : Ev k (XP (fun z => z = lr) (fun κ => κ = 6 + 30) K) K h K' h') (hq : Ty K h 6 q) (hqw : (K q).2.1 = w) (hq0 : (K q).2.2 = 2 * im) (him : Ty K h 27 im) (hi0 : (K im).2.2 = 0) (hil : (K im).2.1 = lo) (hlo : Ty K h 29 lo) (hl0 : (K lo).2.2 = 0) (hw : Tc k K h w n cd) (hok : WordOk n cd) (hfr : ∀ j, j < S 0 0 → rz j ≠ q) (hn : (K' lr).2.2 = S 0 0 + 1) (hls : LsE D h' lr (S 0 0 + 1) (va_up rz (S 0 0) q)) : CQ D k K' h' lr (addR S n cd) (va_up rz (S 0 0) q) az nt := by
  obtain ⟨q1, q2, q3, q4⟩ := Q
  have hX : ∀ z, (K z).1 ≠ 26 ∧ (K z).1 ≠ 36 → ¬ XP (fun z => z = lr) (fun κ => κ = 6 + 30) K z := fun z hz => xaQ (ce := 6) q1.1.1 z ⟨Or.inl hz.1, hz.2⟩
  have cim := ((ev.1 im him.1).2.2 (hX im (by rw [him.2]; decide))).1
  have clo := ((ev.1 lo hlo.1).2.2 (hX lo (by rw [hlo.2]; decide))).1
  refine ⟨⟨LsK.of hT' (Ev.ty (κ := 25) ev q1.1.1) (by decide) hn hls, fun j hj => ?_, fun i j hi hj e => ?_⟩, ?_, fun h0 => ?_, fun _ => ⟨?_, fun t ht => absurd ht (Nat.not_lt_zero _)⟩⟩
  · have hj2 : j < S 0 0 + 1 := hj
    show Ty K' h' 6 (va_up rz (S 0 0) q j) ∧ Tc k K' h' (K' (va_up rz (S 0 0) q j)).2.1 (va_up (S 1) (S 0 0) n j) (va_up (S 2) (S 0 0) cd j) ∧ WordOk (va_up (S 1) (S 0 0) n j) (va_up (S 2) (S 0 0) cd j) ∧ (K' (va_up rz (S 0 0) q j)).2.2 % 2 = va_up (S 3) (S 0 0) 0 j
    by_cases e : j = S 0 0
    · rw [e, va_up_self, va_up_self, va_up_self, va_up_self]
      refine ⟨Ev.ty (κ := 5) ev hq, ?_, hok, ?_⟩
      · rw [Ev.ab (κ := 5) ev hq hqw]
        exact Ev.tc ev hw
      · rw [Ev.fix (κ := 5) ev hq (by unfold Gk; omega), hq0, Nat.mul_mod_right]
    · rw [va_up_ne _ _ e, va_up_ne _ _ e, va_up_ne _ _ e, va_up_ne _ _ e]
      obtain ⟨a1, a2, a3, a4⟩ := q1.2.1 j (by omega)
      refine ⟨Ev.ty (κ := 5) ev a1, ?_, a3, ?_⟩
      · rw [Ev.ab (κ := 5) ev a1 rfl]
        exact Ev.tc ev a2
      · rw [Ev.fix (κ := 5) ev a1 (by unfold Gk; omega)]
        exact a4
  · have hi2 : i < S 0 0 + 1 := hi
    have hj2 : j < S 0 0 + 1 := hj
    by_cases ei : i = S 0 0
    · by_cases ej : j = S 0 0
      · rw [ei, ej]
      · rw [ei, va_up_self, va_up_ne _ _ ej] at e
        exact absurd e.symm (hfr j (by omega))
    · by_cases ej : j = S 0 0
      · rw [ej, va_up_self, va_up_ne _ _ ei] at e
        exact absurd e (hfr i (by omega))
      · rw [va_up_ne _ _ ei, va_up_ne _ _ ej] at e
        exact q1.2.2 i j (by omega) (by omega) e
  · rw [Ev.ab (κ := 25) ev q1.1.1 rfl]
    exact q2.ev ev (fun z hz => hX z (by omega))
  · have h0' : 0 < S 4 0 := h0
    show NQz D k K' h' (K' (az (S 4 0 - 1))).2.2 (S 7 0) nt (S 8) (S 9)
    rw [Ev.fix (κ := 4) ev (q2.2.1 (S 4 0 - 1) (by omega)).1 (by unfold Gk; omega)]
    exact (q3 h0').ev ev (fun z hz => hX z (by omega))
  · show HQz D K' h' ((K' (va_up rz (S 0 0) q (S 0 0 + 1 - 1))).2.2 / 2) 0 (fun t => az (S 11 t)) 0
    rw [Nat.add_sub_cancel, va_up_self, Ev.fix (κ := 5) ev hq (by unfold Gk; omega), hq0, Nat.mul_div_cancel_left _ (by decide)]
    refine ⟨Ev.ty (κ := 26) ev him, by rw [cim]; exact hi0, ?_⟩
    rw [cim, hil]
    exact LsK.nil hT' (Ev.ty (κ := 28) ev hlo) (by decide) (by rw [clo]; exact hl0)
theorem CQ.addA {l : Nat} (Q : CQ D k K h lr S rz az nt) (hla : (K lr).2.1 = la) (hT' : TP D z0 k K' B T h') (ev : Ev k (XP (fun z => z = la) (fun κ => κ = 5 + 30) K) K h K' h') (hq : Ty K h 5 q) (hqw : (K q).2.1 = w) (hql : (K q).2.2 = l) (hl : Ty K h 23 l) (hl0 : (K l).2.2 = 0) (hw : Tc k K h w n cd) (hok : WordOk n cd) (hfr : ∀ j, j < S 4 0 → az j ≠ q) (hn : (K' la).2.2 = S 4 0 + 1) (hls : LsE D h' la (S 4 0 + 1) (va_up az (S 4 0) q)) : CQ D k K' h' lr (addA S n cd) rz (va_up az (S 4 0) q) nt := by
  obtain ⟨q1, q2, q3, q4⟩ := Q
  rw [hla] at q2
  have hX : ∀ z, (K z).1 ≠ 25 ∧ (K z).1 ≠ 35 → ¬ XP (fun z => z = la) (fun κ => κ = 5 + 30) K z := fun z hz => xaQ (ce := 5) q2.1.1 z ⟨Or.inl hz.1, hz.2⟩
  have cl := ((ev.1 l hl.1).2.2 (hX l (by rw [hl.2]; decide))).1
  refine ⟨q1.ev ev (fun z hz => hX z (by omega)), ?_, fun _ => ?_, fun h0 => ⟨?_, fun t ht => ?_⟩⟩
  · rw [Ev.ab (κ := 25) ev q1.1.1 hla]
    refine ⟨LsK.of hT' (Ev.ty (κ := 24) ev q2.1.1) (by decide) hn hls, fun j hj => ?_, fun i j hi hj e => ?_⟩
    · have hj2 : j < S 4 0 + 1 := hj
      show Ty K' h' 5 (va_up az (S 4 0) q j) ∧ Tc k K' h' (K' (va_up az (S 4 0) q j)).2.1 (va_up (S 5) (S 4 0) n j) (va_up (S 6) (S 4 0) cd j) ∧ WordOk (va_up (S 5) (S 4 0) n j) (va_up (S 6) (S 4 0) cd j)
      by_cases e : j = S 4 0
      · rw [e, va_up_self, va_up_self, va_up_self]
        refine ⟨Ev.ty (κ := 4) ev hq, ?_, hok⟩
        rw [Ev.ab (κ := 4) ev hq hqw]
        exact Ev.tc ev hw
      · rw [va_up_ne _ _ e, va_up_ne _ _ e, va_up_ne _ _ e]
        obtain ⟨a1, a2, a3⟩ := q2.2.1 j (by omega)
        refine ⟨Ev.ty (κ := 4) ev a1, ?_, a3⟩
        rw [Ev.ab (κ := 4) ev a1 rfl]
        exact Ev.tc ev a2
    · have hi2 : i < S 4 0 + 1 := hi
      have hj2 : j < S 4 0 + 1 := hj
      by_cases ei : i = S 4 0
      · by_cases ej : j = S 4 0
        · rw [ei, ej]
        · rw [ei, va_up_self, va_up_ne _ _ ej] at e
          exact absurd e.symm (hfr j (by omega))
      · by_cases ej : j = S 4 0
        · rw [ej, va_up_self, va_up_ne _ _ ei] at e
          exact absurd e (hfr i (by omega))
        · rw [va_up_ne _ _ ei, va_up_ne _ _ ej] at e
          exact q2.2.2 i j (by omega) (by omega) e
  · show NQz D k K' h' (K' (va_up az (S 4 0) q (S 4 0 + 1 - 1))).2.2 0 nt (S 8) (S 9)
    rw [Nat.add_sub_cancel, va_up_self, Ev.fix (κ := 4) ev hq (by unfold Gk; omega), hql]
    exact ⟨LsK.nil hT' (Ev.ty (κ := 22) ev hl) (by decide) (by rw [cl]; exact hl0), fun t ht => absurd ht (Nat.not_lt_zero _)⟩
  · have h0' : 0 < S 0 0 := h0
    show HQz D K' h' ((K' (rz (S 0 0 - 1))).2.2 / 2) (S 10 0) (fun t => va_up az (S 4 0) q (S 11 t)) (S 12 0)
    rw [Ev.fix (κ := 5) ev (q1.2.1 (S 0 0 - 1) (by omega)).1 (by unfold Gk; omega)]
    obtain ⟨b1, b2, b3⟩ := (q4 h0').1.ev ev (fun z hz => hX z (by omega))
    refine ⟨b1, b2, b3.cg (fun t ht => va_up_ne _ _ ?_)⟩
    have := (q4 h0').2 t ht
    omega
  · have := (q4 h0).2 t ht
    exact Nat.lt_succ_of_lt this
theorem CQ.addN {l : Nat} (Q : CQ D k K h lr S rz az nt) (h0 : 0 < S 4 0) (hl : (K (az (S 4 0 - 1))).2.2 = l) (hT' : TP D z0 k K' B T h') (ev : Ev k (XP (fun z => z = l) (fun κ => κ = 3 + 30) K) K h K' h') (hq : Ty K h 4 q) (hqw : (K q).2.1 = w) (hw : Tc k K h w n cd) (hn1 : 1 ≤ n) (hn : (K' l).2.2 = S 7 0 + 1) (hls : LsE D h' l (S 7 0 + 1) (va_up nt (S 7 0) q)) : CQ D k K' h' lr (addN S n cd) rz az (va_up nt (S 7 0) q) := by
  obtain ⟨q1, q2, q3, q4⟩ := Q
  have q3 := q3 h0
  rw [hl] at q3
  have hX : ∀ z, (K z).1 ≠ 23 ∧ (K z).1 ≠ 33 → ¬ XP (fun z => z = l) (fun κ => κ = 3 + 30) K z := fun z hz => xaQ (ce := 3) q3.1.1 z ⟨Or.inl hz.1, hz.2⟩
  refine ⟨q1.ev ev (fun z hz => hX z (by omega)), ?_, fun _ => ?_, fun h1 => ⟨?_, (q4 h1).2⟩⟩
  · rw [Ev.ab (κ := 25) ev q1.1.1 rfl]
    exact q2.ev ev (fun z hz => hX z (by omega))
  · show NQz D k K' h' (K' (az (S 4 0 - 1))).2.2 (S 7 0 + 1) (va_up nt (S 7 0) q) (va_up (S 8) (S 7 0) n) (va_up (S 9) (S 7 0) cd)
    rw [Ev.fix (κ := 4) ev (q2.2.1 (S 4 0 - 1) (by omega)).1 (by unfold Gk; omega), hl]
    refine ⟨LsK.of hT' (Ev.ty (κ := 22) ev q3.1.1) (by decide) hn hls, fun j hj => ?_⟩
    by_cases e : j = S 7 0
    · rw [e, va_up_self, va_up_self, va_up_self]
      refine ⟨Ev.ty (κ := 3) ev hq, ?_, hn1⟩
      rw [Ev.ab (κ := 3) ev hq hqw]
      exact Ev.tc ev hw
    · rw [va_up_ne _ _ e, va_up_ne _ _ e, va_up_ne _ _ e]
      obtain ⟨a1, a2, a3⟩ := q3.2 j (by omega)
      refine ⟨Ev.ty (κ := 3) ev a1, ?_, a3⟩
      rw [Ev.ab (κ := 3) ev a1 rfl]
      exact Ev.tc ev a2
  · have h1' : 0 < S 0 0 := h1
    show HQz D K' h' ((K' (rz (S 0 0 - 1))).2.2 / 2) (S 10 0) (fun t => az (S 11 t)) (S 12 0)
    rw [Ev.fix (κ := 5) ev (q1.2.1 (S 0 0 - 1) (by omega)).1 (by unfold Gk; omega)]
    exact (q4 h1').1.ev ev (fun z hz => hX z (by omega))
theorem CQ.addL {im lo : Nat} (Q : CQ D k K h lr S rz az nt) (h0 : 0 < S 0 0) (him : (K (rz (S 0 0 - 1))).2.2 / 2 = im) (hlo : (K im).2.1 = lo) (hT' : TP D z0 k K' B T h') (ev : Ev k (XP (fun z => z = lo) (fun κ => κ = 9 + 30) K) K h K' h') (hj : j < S 4 0) (hn : (K' lo).2.2 = S 10 0 + 1) (hls : LsE D h' lo (S 10 0 + 1) (va_up (fun t => az (S 11 t)) (S 10 0) (az j))) : CQ D k K' h' lr (addL S j) rz az nt := by
  obtain ⟨q1, q2, q3, q4⟩ := Q
  obtain ⟨⟨b1, b2, b3⟩, b4⟩ := q4 h0
  rw [him] at b1 b2 b3
  rw [hlo] at b3
  have hX : ∀ z, (K z).1 ≠ 29 ∧ (K z).1 ≠ 39 → ¬ XP (fun z => z = lo) (fun κ => κ = 9 + 30) K z := fun z hz => xaQ (ce := 9) b3.1 z ⟨Or.inl hz.1, hz.2⟩
  have cim := ((ev.1 im b1.1).2.2 (hX im (by rw [b1.2]; decide))).1
  refine ⟨q1.ev ev (fun z hz => hX z (by omega)), ?_, fun h1 => ?_, fun _ => ⟨?_, fun t ht => ?_⟩⟩
  · rw [Ev.ab (κ := 25) ev q1.1.1 rfl]
    exact q2.ev ev (fun z hz => hX z (by omega))
  · have h1' : 0 < S 4 0 := h1
    show NQz D k K' h' (K' (az (S 4 0 - 1))).2.2 (S 7 0) nt (S 8) (S 9)
    rw [Ev.fix (κ := 4) ev (q2.2.1 (S 4 0 - 1) (by omega)).1 (by unfold Gk; omega)]
    exact (q3 h1').ev ev (fun z hz => hX z (by omega))
  · show HQz D K' h' ((K' (rz (S 0 0 - 1))).2.2 / 2) (S 10 0 + 1) (fun t => az (va_up (S 11) (S 10 0) j t)) (S 12 0)
    rw [Ev.fix (κ := 5) ev (q1.2.1 (S 0 0 - 1) (by omega)).1 (by unfold Gk; omega), him]
    refine ⟨Ev.ty (κ := 26) ev b1, by rw [cim]; exact b2, ?_⟩
    rw [cim, hlo]
    refine (LsK.of hT' (Ev.ty (κ := 28) ev b3.1) (by decide) hn hls).cg (fun t ht => ?_)
    by_cases e : t = S 10 0
    · rw [e, va_up_self, va_up_self]
    · rw [va_up_ne _ _ e, va_up_ne _ _ e]
  · have ht2 : t < S 10 0 + 1 := ht
    show va_up (S 11) (S 10 0) j t < S 4 0
    by_cases e : t = S 10 0
    · rw [e, va_up_self]
      exact hj
    · rw [va_up_ne _ _ e]
      exact b4 t (by omega)
theorem CQ.addI {im : Nat} (Q : CQ D k K h lr S rz az nt) (h0 : 0 < S 0 0) (him : (K (rz (S 0 0 - 1))).2.2 / 2 = im) (ev : Ev k (XP (fun z => z = im) (fun κ => κ = 7 + 30) K) K h K' h') (hn : (K' im).2.2 = S 12 0 + 1) : CQ D k K' h' lr (addI S) rz az nt := by
  obtain ⟨q1, q2, q3, q4⟩ := Q
  obtain ⟨⟨b1, b2, b3⟩, b4⟩ := q4 h0
  rw [him] at b1 b2 b3
  have hX : ∀ z, (K z).1 ≠ 27 ∧ (K z).1 ≠ 37 → ¬ XP (fun z => z = im) (fun κ => κ = 7 + 30) K z := fun z hz => xaQ (ce := 7) b1 z ⟨Or.inl hz.1, hz.2⟩
  refine ⟨q1.ev ev (fun z hz => hX z (by omega)), ?_, fun h1 => ?_, fun _ => ⟨?_, b4⟩⟩
  · rw [Ev.ab (κ := 25) ev q1.1.1 rfl]
    exact q2.ev ev (fun z hz => hX z (by omega))
  · have h1' : 0 < S 4 0 := h1
    show NQz D k K' h' (K' (az (S 4 0 - 1))).2.2 (S 7 0) nt (S 8) (S 9)
    rw [Ev.fix (κ := 4) ev (q2.2.1 (S 4 0 - 1) (by omega)).1 (by unfold Gk; omega)]
    exact (q3 h1').ev ev (fun z hz => hX z (by omega))
  · show HQz D K' h' ((K' (rz (S 0 0 - 1))).2.2 / 2) (S 10 0) (fun t => az (S 11 t)) (S 12 0 + 1)
    rw [Ev.fix (κ := 5) ev (q1.2.1 (S 0 0 - 1) (by omega)).1 (by unfold Gk; omega), him]
    refine ⟨Ev.ty (κ := 26) ev b1, hn, ?_⟩
    rw [Ev.ab (κ := 26) ev b1 rfl]
    exact b3.ev (κ := 28) ev (fun z hz => hX z (by omega))
theorem TP.went {y : Nat} {e : va_E} (t : TP D z0 k K B T h) (hy : Ty K h 6 y) (c : okc D k K h.1 B T (6, (K y).2.1, 2 * ((K y).2.2 / 2) + 1) e) : TP D z0 k (va_up K y (6, (K y).2.1, 2 * ((K y).2.2 / 2) + 1)) B T (h.1, va_up h.2 y e) := by
  have hq : KLw (K y) (6, (K y).2.1, 2 * ((K y).2.2 / 2) + 1) := ⟨hy.2.symm, rfl, by show (K y).2.2 ≤ 2 * ((K y).2.2 / 2) + 1; omega, fun z => absurd (z.symm.trans hy.2) (by decide)⟩
  refine t.putW hy.1 (fun _ => hq) (c.monoW (Nat.le_refl _) (Nat.le_refl _) (fun a ha => ⟨ha, fun _ => ?_⟩) (fun z => ?_))
  · by_cases e : a = y
    · rw [e, va_up_self]
      exact hq
    · rw [va_up_ne _ _ e]
      exact KLe.rf.w
  · rw [va_up_ne _ _ (show k 10 ≠ y from fun x => t.nk0 (x ▸ hy.1))]
    exact z
end CQS
