/-! The class's realms, with what the methods do to them. -/
/-- the realms of a desk: the list lr holds rz 0 .. rz (nr - 1); the j-th has a word of length nq j and characters cq j; gq j tells whether it went -/
def RQ (D : va_G) (k : Nat → Nat) (K : KM) (h : hp) (lr nr : Nat) (rz nq cq gq : Nat → Nat) : Prop := LsK D K h lr 26 nr rz ∧ (∀ j, j < nr → Ty K h 6 (rz j) ∧ Tc k K h (K (rz j)).2.1 (nq j) (cq j) ∧ WordOk (nq j) (cq j) ∧ (K (rz j)).2.2 = gq j) ∧ ∀ i j, i < nr → j < nr → rz i = rz j → i = j
def Sam (nq cq gq : Nat → Nat) (j n cd : Nat) : Prop := gq j = 0 ∧ CE (nq j) n (cq j) cd
/-- a realm is added -/
def AG (nr : Nat) (nq cq gq : Nat → Nat) (n cd : Nat) : Prop := WordOk n cd ∧ (∀ j, j < nr → ¬ Sam nq cq gq j n cd) ∧ nr < 8
/-- the archives of a desk -/
def AQz (D : va_G) (k : Nat → Nat) (K : KM) (h : hp) (la na : Nat) (az nz cz : Nat → Nat) : Prop := LsK D K h la 25 na az ∧ ∀ j, j < na → Ty K h 5 (az j) ∧ Tc k K h (K (az j)).2.1 (nz j) (cz j) ∧ WordOk (nz j) (cz j)
def BQ (D : va_G) (k : Nat → Nat) (K : KM) (h : hp) (lr nr : Nat) (rz nq cq gq : Nat → Nat) (na : Nat) (az nz cz : Nat → Nat) : Prop := RQ D k K h lr nr rz nq cq gq ∧ AQz D k K h (K lr).2.1 na az nz cz
def AF (D : va_G) (k : Nat → Nat) (lr nr : Nat) (rz nq cq gq : Nat → Nat) (na : Nat) (az nz cz : Nat → Nat) (n cd : Nat) (K : KM) (h : hp) : Prop := (AG nr nq cq gq n cd ∧ ∃ z, BQ D k K h lr (nr + 1) (va_up rz nr z) (va_up nq nr n) (va_up cq nr cd) (va_up gq nr 0) na az nz cz) ∨ (¬ AG nr nq cq gq n cd ∧ BQ D k K h lr nr rz nq cq gq na az nz cz)
/-- an archive is added -/
def AGa (na : Nat) (nz cz : Nat → Nat) (n cd : Nat) : Prop := WordOk n cd ∧ (∀ j, j < na → ¬ CE (nz j) n (cz j) cd) ∧ na < 6
def AFa (D : va_G) (k : Nat → Nat) (lr nr : Nat) (rz nq cq gq : Nat → Nat) (na : Nat) (az nz cz : Nat → Nat) (n cd : Nat) (K : KM) (h : hp) : Prop := (AGa na nz cz n cd ∧ ∃ z, BQ D k K h lr nr rz nq cq gq (na + 1) (va_up az na z) (va_up nz na n) (va_up cz na cd)) ∨ (¬ AGa na nz cz n cd ∧ BQ D k K h lr nr rz nq cq gq na az nz cz)
def RM (n cd : Nat) : Prop := CE n (ln 3) cd (kc 3)
def AM (n cd : Nat) : Prop := CE n (ln 1) cd (kc 1)
def PF (D : va_G) (k : Nat → Nat) (lr nr : Nat) (rz nq cq gq : Nat → Nat) (na : Nat) (az nz cz : Nat → Nat) (n cd nb cb : Nat) (K : KM) (h : hp) : Prop := (RM n cd ∧ AF D k lr nr rz nq cq gq na az nz cz nb cb K h) ∨ (AM n cd ∧ AFa D k lr nr rz nq cq gq na az nz cz nb cb K h) ∨ (¬ RM n cd ∧ ¬ AM n cd ∧ BQ D k K h lr nr rz nq cq gq na az nz cz)
def LF (D : va_G) (k : Nat → Nat) (lr nr : Nat) (rz nq cq gq : Nat → Nat) (na : Nat) (az nz cz : Nat → Nat) (c0 cd : Nat) (K : KM) (h : hp) : Prop := ∃ (pn : Nat) (bg en : Nat → Nat), SPL cd c0 pn bg en ∧ ((pn = 2 ∧ PF D k lr nr rz nq cq gq na az nz cz (en 0 - bg 0) (sub cd (bg 0) (en 0 - bg 0)) (en 1 - bg 1) (sub cd (bg 1) (en 1 - bg 1)) K h) ∨ (pn ≠ 2 ∧ BQ D k K h lr nr rz nq cq gq na az nz cz))
section RQS
variable {D : va_G} {z0 : Nat} {k : Nat → Nat} {K K' : KM} {h h' : hp} {B T lr nr na n cd nb cb c0 : Nat} {rz nq cq gq az nz cz : Nat → Nat} {X : Nat → Prop}
theorem RQ.ev (q : RQ D k K h lr nr rz nq cq gq) (ev : Ev k X K h K' h') (hX : ∀ z, (K z).1 = 26 ∨ (K z).1 = 36 → ¬ X z) : RQ D k K' h' lr nr rz nq cq gq := by
  refine ⟨q.1.ev (κ := 25) ev hX, fun j hj => ?_, q.2.2⟩
  obtain ⟨a1, a2, a3, a4⟩ := q.2.1 j hj
  refine ⟨Ev.ty (κ := 5) ev a1, ?_, a3, ?_⟩
  · rw [Ev.ab (κ := 5) ev a1 rfl]
    exact Ev.tc ev a2
  · rw [Ev.fix (κ := 5) ev a1 (by unfold Gk; omega)]
    exact a4
theorem AQz.ev {la : Nat} (q : AQz D k K h la na az nz cz) (ev : Ev k X K h K' h') (hX : ∀ z, (K z).1 = 25 ∨ (K z).1 = 35 → ¬ X z) : AQz D k K' h' la na az nz cz := by
  refine ⟨q.1.ev (κ := 24) ev hX, fun j hj => ?_⟩
  obtain ⟨a1, a2, a3⟩ := q.2 j hj
  refine ⟨Ev.ty (κ := 4) ev a1, ?_, a3⟩
  rw [Ev.ab (κ := 4) ev a1 rfl]
  exact Ev.tc ev a2
theorem BQ.ev (q : BQ D k K h lr nr rz nq cq gq na az nz cz) (ev : Ev k X K h K' h') (hX : ∀ z, ((K z).1 = 26 ∨ (K z).1 = 36) ∨ ((K z).1 = 25 ∨ (K z).1 = 35) → ¬ X z) : BQ D k K' h' lr nr rz nq cq gq na az nz cz := by
  refine ⟨q.1.ev ev (fun z hz => hX z (Or.inl hz)), ?_⟩
  rw [Ev.ab (κ := 25) ev q.1.1.1 rfl]
  exact q.2.ev ev (fun z hz => hX z (Or.inr hz))
theorem LF.mp (q : LF D k lr nr rz nq cq gq na az nz cz c0 cd K h) (f : ∀ (nr : Nat) (rz nq cq gq : Nat → Nat) (na : Nat) (az nz cz : Nat → Nat), BQ D k K h lr nr rz nq cq gq na az nz cz → BQ D k K' h' lr nr rz nq cq gq na az nz cz) : LF D k lr nr rz nq cq gq na az nz cz c0 cd K' h' := by
  obtain ⟨pn, bg, en, q1, q2⟩ := q
  refine ⟨pn, bg, en, q1, ?_⟩
  rcases q2 with ⟨q2, ⟨q3, q4⟩ | ⟨q3, q4⟩ | ⟨q3, q4, q5⟩⟩ | ⟨q2, q3⟩
  · refine Or.inl ⟨q2, Or.inl ⟨q3, ?_⟩⟩
    rcases q4 with ⟨q4, z, q5⟩ | ⟨q4, q5⟩
    · exact Or.inl ⟨q4, z, f _ _ _ _ _ _ _ _ _ q5⟩
    · exact Or.inr ⟨q4, f _ _ _ _ _ _ _ _ _ q5⟩
  · refine Or.inl ⟨q2, Or.inr (Or.inl ⟨q3, ?_⟩)⟩
    rcases q4 with ⟨q4, z, q5⟩ | ⟨q4, q5⟩
    · exact Or.inl ⟨q4, z, f _ _ _ _ _ _ _ _ _ q5⟩
    · exact Or.inr ⟨q4, f _ _ _ _ _ _ _ _ _ q5⟩
  · exact Or.inl ⟨q2, Or.inr (Or.inr ⟨q3, q4, f _ _ _ _ _ _ _ _ _ q5⟩)⟩
  · exact Or.inr ⟨q2, f _ _ _ _ _ _ _ _ _ q3⟩
theorem xnB : ∀ z, ((K z).1 = 26 ∨ (K z).1 = 36) ∨ ((K z).1 = 25 ∨ (K z).1 = 35) → ¬ XN K z := fun z hz y => by
  rcases y with y | y
  · exact y
  · obtain ⟨y1, y2, y3, y4, y5, y6⟩ := y
    omega
theorem xeB {e : Nat → Prop} (he : ∀ z, e z → (K z).1 = 99) : ∀ z, ((K z).1 = 26 ∨ (K z).1 = 36) ∨ ((K z).1 = 25 ∨ (K z).1 = 35) → ¬ XP e PN K z := fun z hz y => by
  rcases y with y | y
  · have := he z y
    omega
  · obtain ⟨y1, y2, y3, y4, y5, y6⟩ := y
    omega
theorem x1B {q : Nat} (hq : (K q).1 = 99) : ∀ z, ((K z).1 = 26 ∨ (K z).1 = 36) ∨ ((K z).1 = 25 ∨ (K z).1 = 35) → ¬ z = q := fun z hz y => by
  rw [y] at hz
  omega
theorem Tc.mem {w : Nat} (hT : TP D z0 k K B T h) (t : Tc k K h w n cd) (hn : 1 ≤ n) : w ∈ h.1 := t.1.2.2.elim id (fun e => by
  have h1 := t.1.2.1
  rw [e, hT.2.2.1] at h1
  omega)
theorem RQ.add {w q la : Nat} (Q : RQ D k K h la nr rz nq cq gq) (hT' : TP D z0 k K' B T h') (ev : Ev k (XP (fun z => z = la) (fun κ => κ = 6 + 30) K) K h K' h') (hq : Ty K h 6 q) (hqw : (K q).2.1 = w) (hq0 : (K q).2.2 = 0) (hw : Tc k K h w n cd) (hok : WordOk n cd) (hfr : ∀ j, j < nr → rz j ≠ q) (hn : (K' la).2.2 = nr + 1) (hls : LsE D h' la (nr + 1) (va_up rz nr q)) : RQ D k K' h' la (nr + 1) (va_up rz nr q) (va_up nq nr n) (va_up cq nr cd) (va_up gq nr 0) := by
  have hla := Ev.ty (κ := 25) ev Q.1.1
  refine ⟨LsK.of hT' hla (by decide) hn hls, fun j hj => ?_, fun i j hi hj e => ?_⟩
  · by_cases e : j = nr
    · rw [e, va_up_self, va_up_self, va_up_self, va_up_self]
      refine ⟨Ev.ty (κ := 5) ev hq, ?_, hok, ?_⟩
      · rw [Ev.ab (κ := 5) ev hq hqw]
        exact Ev.tc ev hw
      · rw [Ev.fix (κ := 5) ev hq (by unfold Gk; omega)]
        exact hq0
    · rw [va_up_ne _ _ e, va_up_ne _ _ e, va_up_ne _ _ e, va_up_ne _ _ e]
      obtain ⟨a1, a2, a3, a4⟩ := Q.2.1 j (by omega)
      refine ⟨Ev.ty (κ := 5) ev a1, ?_, a3, ?_⟩
      · rw [Ev.ab (κ := 5) ev a1 rfl]
        exact Ev.tc ev a2
      · rw [Ev.fix (κ := 5) ev a1 (by unfold Gk; omega)]
        exact a4
  · by_cases ei : i = nr
    · by_cases ej : j = nr
      · rw [ei, ej]
      · rw [ei, va_up_self, va_up_ne _ _ ej] at e
        exact absurd e.symm (hfr j (by omega))
    · by_cases ej : j = nr
      · rw [ej, va_up_self, va_up_ne _ _ ei] at e
        exact absurd e (hfr i (by omega))
      · rw [va_up_ne _ _ ei, va_up_ne _ _ ej] at e
        exact Q.2.2 i j (by omega) (by omega) e
theorem BQ.addR {w q : Nat} (Q : BQ D k K h lr nr rz nq cq gq na az nz cz) (hT' : TP D z0 k K' B T h') (ev : Ev k (XP (fun z => z = lr) (fun κ => κ = 6 + 30) K) K h K' h') (hq : Ty K h 6 q) (hqw : (K q).2.1 = w) (hq0 : (K q).2.2 = 0) (hw : Tc k K h w n cd) (hok : WordOk n cd) (hfr : ∀ j, j < nr → rz j ≠ q) (hn : (K' lr).2.2 = nr + 1) (hls : LsE D h' lr (nr + 1) (va_up rz nr q)) : BQ D k K' h' lr (nr + 1) (va_up rz nr q) (va_up nq nr n) (va_up cq nr cd) (va_up gq nr 0) na az nz cz := by
  refine ⟨Q.1.add hT' ev hq hqw hq0 hw hok hfr hn hls, ?_⟩
  rw [Ev.ab (κ := 25) ev Q.1.1.1 rfl]
  refine Q.2.ev ev (fun z hz y => ?_)
  rcases y with y | y
  · have y2 : z = lr := y
    have h2 := Q.1.1.1.2
    rw [y2] at hz
    omega
  · have y2 : (K z).1 = 36 := y
    omega
theorem BQ.addA {w q la : Nat} (Q : BQ D k K h lr nr rz nq cq gq na az nz cz) (hla : (K lr).2.1 = la) (hT' : TP D z0 k K' B T h') (ev : Ev k (XP (fun z => z = la) (fun κ => κ = 5 + 30) K) K h K' h') (hq : Ty K h 5 q) (hqw : (K q).2.1 = w) (hw : Tc k K h w n cd) (hok : WordOk n cd) (hn : (K' la).2.2 = na + 1) (hls : LsE D h' la (na + 1) (va_up az na q)) : BQ D k K' h' lr nr rz nq cq gq (na + 1) (va_up az na q) (va_up nz na n) (va_up cz na cd) := by
  have hA := Q.2
  rw [hla] at hA
  refine ⟨Q.1.ev ev (fun z hz y => ?_), ?_⟩
  · rcases y with y | y
    · have y2 : z = la := y
      have h2 := hA.1.1.2
      rw [y2] at hz
      omega
    · have y2 : (K z).1 = 35 := y
      omega
  · rw [Ev.ab (κ := 25) ev Q.1.1.1 hla]
    have hla2 := Ev.ty (κ := 24) ev hA.1.1
    refine ⟨LsK.of hT' hla2 (by decide) hn hls, fun j hj => ?_⟩
    by_cases e : j = na
    · rw [e, va_up_self, va_up_self, va_up_self]
      refine ⟨Ev.ty (κ := 4) ev hq, ?_, hok⟩
      rw [Ev.ab (κ := 4) ev hq hqw]
      exact Ev.tc ev hw
    · rw [va_up_ne _ _ e, va_up_ne _ _ e, va_up_ne _ _ e]
      obtain ⟨a1, a2, a3⟩ := hA.2 j (by omega)
      refine ⟨Ev.ty (κ := 4) ev a1, ?_, a3⟩
      rw [Ev.ab (κ := 4) ev a1 rfl]
      exact Ev.tc ev a2
theorem TP.went {y : Nat} {e : va_E} (t : TP D z0 k K B T h) (hy : Ty K h 6 y) (hle : (K y).2.2 ≤ 1) (c : okc D k K h.1 B T (6, (K y).2.1, 1) e) : TP D z0 k (va_up K y (6, (K y).2.1, 1)) B T (h.1, va_up h.2 y e) := by
  have hq : KLw (K y) (6, (K y).2.1, 1) := ⟨hy.2.symm, rfl, hle, fun z => absurd (z.symm.trans hy.2) (by decide)⟩
  refine t.putW hy.1 (fun _ => hq) (c.monoW (Nat.le_refl _) (Nat.le_refl _) (fun a ha => ⟨ha, fun _ => ?_⟩) (fun z => ?_))
  · by_cases e : a = y
    · rw [e, va_up_self]
      exact hq
    · rw [va_up_ne _ _ e]
      exact KLe.rf.w
  · rw [va_up_ne _ _ (show k 10 ≠ y from fun x => t.nk0 (x ▸ hy.1))]
    exact z
theorem RQ.drop {j : Nat} {e : va_E} (Q : RQ D k K h lr nr rz nq cq gq) (hj : j < nr) : RQ D k (va_up K (rz j) (6, (K (rz j)).2.1, 1)) (h.1, va_up h.2 (rz j) e) lr nr rz nq cq (va_up gq j 1) := by
  obtain ⟨⟨l1, l2, ea, n, mo, l3, l4⟩, q2, q3⟩ := Q
  have hy := (q2 j hj).1
  have hne : ∀ z, (K z).1 ≠ 6 → z ≠ rz j := fun z hz x => hz (by rw [x]; exact hy.2)
  have hlr : lr ≠ rz j := hne lr (by rw [l1.2]; decide)
  refine ⟨⟨⟨l1.1, by rw [va_up_ne _ _ hlr]; exact l1.2⟩, by rw [va_up_ne _ _ hlr]; exact l2, ea, n, mo, (va_up_ne _ _ hlr).trans l3, l4.imp id (fun w => ?_)⟩, fun i hi => ?_, q3⟩
  · have hea : ea ≠ rz j := hne ea (by rw [w.2.1]; decide)
    refine ⟨w.1, by rw [va_up_ne _ _ hea]; exact w.2.1, ?_⟩
    obtain ⟨c, f, g1, g2⟩ := w.2.2
    exact ⟨c, f, (va_up_ne _ _ hea).trans g1, g2⟩
  · obtain ⟨a1, a2, a3, a4⟩ := q2 i hi
    have hw : (K (rz i)).2.1 ≠ rz j := hne _ (by rw [a2.1.1]; decide)
    have tc : Tc k (va_up K (rz j) (6, (K (rz j)).2.1, 1)) (h.1, va_up h.2 (rz j) e) (K (rz i)).2.1 (nq i) (cq i) := by
      unfold Tc Tw
      rw [va_up_ne _ _ hw]
      exact a2
    by_cases ei : i = j
    · subst ei
      rw [va_up_self, va_up_self]
      exact ⟨⟨a1.1, by rw [va_up_self]⟩, tc, a3, rfl⟩
    · have hr : rz i ≠ rz j := fun x => ei (q3 i j hi hj x)
      rw [va_up_ne _ _ ei, va_up_ne _ _ hr]
      exact ⟨⟨a1.1, by rw [va_up_ne _ _ hr]; exact a1.2⟩, tc, a3, a4⟩
theorem BQ.drop {j : Nat} {e : va_E} (Q : BQ D k K h lr nr rz nq cq gq na az nz cz) (hj : j < nr) : BQ D k (va_up K (rz j) (6, (K (rz j)).2.1, 1)) (h.1, va_up h.2 (rz j) e) lr nr rz nq cq (va_up gq j 1) na az nz cz := by
  have hy := (Q.1.2.1 j hj).1
  have hne : ∀ z, (K z).1 ≠ 6 → z ≠ rz j := fun z hz x => hz (by rw [x]; exact hy.2)
  have hlr : lr ≠ rz j := hne lr (by rw [Q.1.1.1.2]; decide)
  refine ⟨Q.1.drop hj, ?_⟩
  rw [va_up_ne _ _ hlr]
  obtain ⟨⟨l1, l2, ea, n, mo, l3, l4⟩, q2⟩ := Q.2
  have hla : (K lr).2.1 ≠ rz j := hne _ (by rw [l1.2]; decide)
  refine ⟨⟨⟨l1.1, by rw [va_up_ne _ _ hla]; exact l1.2⟩, by rw [va_up_ne _ _ hla]; exact l2, ea, n, mo, (va_up_ne _ _ hla).trans l3, l4.imp id (fun w => ?_)⟩, fun i hi => ?_⟩
  · have hea : ea ≠ rz j := hne ea (by rw [w.2.1]; decide)
    refine ⟨w.1, by rw [va_up_ne _ _ hea]; exact w.2.1, ?_⟩
    obtain ⟨c, f, g1, g2⟩ := w.2.2
    exact ⟨c, f, (va_up_ne _ _ hea).trans g1, g2⟩
  · obtain ⟨a1, a2, a3⟩ := q2 i hi
    have hr : az i ≠ rz j := hne _ (by rw [a1.2]; decide)
    have hw : (K (az i)).2.1 ≠ rz j := hne _ (by rw [a2.1.1]; decide)
    rw [va_up_ne _ _ hr]
    refine ⟨⟨a1.1, by rw [va_up_ne _ _ hr]; exact a1.2⟩, ?_, a3⟩
    unfold Tc Tw
    rw [va_up_ne _ _ hw]
    exact a2
theorem thrF {K0 : KM} {h0 : hp} {x ci : Nat} {S : Nat → Prop} {Φ : KM → hp → Prop} (hS : S ci) (hT : TP D z0 k K B T h) (hE : Ev k X K0 h0 K h) (hx : x ∉ h.1) (hz : z0 ≤ x) (hΦ : ∀ K' h', Ev k X0 K h K' h' → Φ K' h') : TQ D z0 k K0 h0 B T X (fun o K' h' => RT S o K' h' ∧ Φ K' h') (.threw x) (h.1 ++ [x], va_up h.2 x (.inr (ci, []))) :=
  ⟨_, hT.frz hx hz, hE.tr (Ev.push hT hx hz), Or.inr ⟨x, ci, rfl, List.mem_append_right _ (List.mem_singleton.mpr rfl), hS, va_up_self _ _ _⟩, hΦ _ _ (Ev.push hT hx hz)⟩
theorem tqF {K0 : KM} {h0 h1 : hp} {R : Nat → Prop} {o : Outcome} {Φ : KM → hp → Prop} (hE : Ev k (XD K0) K0 h0 K h) (q : TQ D z0 k K h B T (XN K) (RT R) o h1) (hΦ : ∀ K' h', Ev k (XN K) K h K' h' → Φ K' h') : TQ D z0 k K0 h0 B T (XD K0) (fun o K' h' => RT R o K' h' ∧ Φ K' h') o h1 := by
  obtain ⟨K2, t, ev, r⟩ := q
  exact ⟨K2, t, Ev.trP hE (xnd ev), r, hΦ _ _ ev⟩
theorem tqM {K0 : KM} {h0 h1 : hp} {R : Nat → Prop} {o : Outcome} {Φ Ψ : KM → hp → Prop} (hE : Ev k (XD K0) K0 h0 K h) (q : TQ D z0 k K h B T (XD K) (fun o K' h' => RT R o K' h' ∧ Ψ K' h') o h1) (hM : ∀ K' h', Ψ K' h' → Φ K' h') : TQ D z0 k K0 h0 B T (XD K0) (fun o K' h' => RT R o K' h' ∧ Φ K' h') o h1 := by
  obtain ⟨K2, t, ev, r, q⟩ := q
  exact ⟨K2, t, Ev.trP hE ev, r, hM _ _ q⟩
theorem tq_int {h1 : hp} {R : Nat → Prop} {v : Option Value} (q : TQ D z0 k K h B T X (RT R) (.returned v) h1) : ∃ x : Int32, v = some (.int x) := by
  obtain ⟨K2, t, ev, r⟩ := q
  exact rt_int r
theorem tq_intF {h1 : hp} {R : Nat → Prop} {Φ : KM → hp → Prop} {v : Option Value} (q : TQ D z0 k K h B T X (fun o K' h' => RT R o K' h' ∧ Φ K' h') (.returned v) h1) : ∃ x : Int32, v = some (.int x) := by
  obtain ⟨K2, t, ev, r, -⟩ := q
  exact rt_int r
theorem lineOutF {K0 : KM} {h0 h1 : hp} {e S R : Nat → Prop} {o : Outcome} {ab v cap : Nat} {Φ : KM → hp → Prop} (hE : Ev k (XP e PK K0) K0 h0 K h) (hbk : BK D K h S ab v 0 cap 0) (q : TQ D z0 k K h B T (XD K) (fun o K' h' => RT R o K' h' ∧ Φ K' h') o h1) : TQ D z0 k K0 h0 B T (XP e PK K0) (fun o K' h' => RL D S R ab o K' h' ∧ Φ K' h') o h1 := by
  obtain ⟨K2, t, ev, r, q⟩ := q
  exact ⟨K2, t, Ev.trP hE (xw ev), ⟨r, v, cap, hbk.mvD ev⟩, q⟩
end RQS
section F4
variable {l : Launch} {D : va_G} {z0 : Nat} {k : Nat → Nat} {K : KM} {B T : Nat}
set_option maxHeartbeats 8000000 in
theorem pt_realmWithF {a w n cd lr nr : Nat} {rz nq cq gq : Nat → Nat} (hB : B < 2 ^ 20) : PU l y_94 prog_1_method_20_code 3 (Option.some (Jvm.ClassFile.FieldType.object "RealmDesk$Realm")) 6 D z0 k [.ref a, .ref w] K B T (fun h => Ty K h 1 a ∧ (K a).2.2 = lr ∧ Tc k K h w n cd ∧ RQ D k K h lr nr rz nq cq gq) (fun v _ => (v = some .null ∧ ∀ t, t < nr → ¬ Sam nq cq gq t n cd) ∨ ∃ y, v = some (.ref y) ∧ ∃ t, t < nr ∧ Sam nq cq gq t n cd) := by
  refine pu_of (by decide) (Nat.le_of_ble_eq_true rfl) ?_
  intro h hT hp p e s m args below meth c cx
  obtain ⟨ha, hlrq, hw, hQ⟩ := hp
  have hwt := hw.1
  obtain ⟨la0, lr0, tr0, tn0, he0, hla0, hlr0, htr0, htn0, hlq0, hlaq0⟩ := TP.o (κ := 1) hT ha
  obtain ⟨-, hbb⟩ := TP.n26 hT hlr0
  have hl0 : lr0 = lr := Eq.trans hlq0 hlrq
  have hLs : LsK D K h lr0 26 nr rz := by rw [hl0]; exact hQ.1
  have hnr : (K lr0).2.2 = nr := hLs.2.1
  have lp : ∀ (n0 j : Nat), (K lr0).2.2 - j < n0 → j ≤ (K lr0).2.2 → (∀ t, t < j → ¬ Sam nq cq gq t n cd) → G p l e (rmT 6 0 0) s m args below meth c 3 D z0 (EE z0 k) (PUQ h (fun v _ => (v = some .null ∧ ∀ t, t < nr → ¬ Sam nq cq gq t n cd) ∨ ∃ y, v = some (.ref y) ∧ ∃ t, t < nr ∧ Sam nq cq gq t n cd)) 0 0 2 [(2, .int (nI j)), (0, .ref a), (1, .ref w)] [] h 0 0 := by
    intro n0
    induction n0 with
    | zero => intro j hj; exact absurd hj (Nat.not_lt_zero _)
    | succ n0 ih =>
      intro j hj0 hjn0 hall
      refine g_iload_n cx 0 d_1_20_2 rfl rfl ?_
      refine g_aload_n cx 1 d_1_20_3 rfl rfl ?_
      refine g_getf cx (k := 2) d_1_20_4 in0 rfl (by decide) t_98 (Or.inl rfl) ha.1 he0 rfl ?_
      obtain ⟨⟨ea7, mo7, hm7, hl7⟩, hb7⟩ := TP.n26 hT hlr0
      refine g_pcV cx (As := []) (n := 0) (pj_size (n := (K lr0).2.2)) d_1_20_7 t_235 t_236 t_237 t_8 t_238 ⟨by decide, by decide, by decide +kernel⟩ rfl (ci := 2) rfl hm7 hl7 ⟨ea7, mo7, hm7, hl7⟩ ⟨Nat.le_of_ble_eq_true rfl, Nat.le_of_ble_eq_true rfl⟩ (Nat.le_of_ble_eq_true rfl) (fun v7 r7 => ?_)
      subst r7
      refine g_icmp_ge cx d_1_20_10 rfl (fun c10 => ?_) (fun c10 => ?_)
      · skip
        have hge : nr ≤ j := by have := (nI_leI (by omega) (by omega)).mp c10; omega
        refine g_null cx d_1_20_69 ?_
        exact g_aret cx d_1_20_70 rfl (Or.inl ⟨_, rfl⟩) (Or.inl rfl) ⟨rfl, _, rfl, Or.inl ⟨rfl, fun t ht => hall t (by omega)⟩⟩
      · skip
        have hj : j < (K lr0).2.2 := Nat.lt_of_not_le (fun q => c10 (nI_le q (by omega)))
        have hjn : j < nr := by omega
        refine g_aload_n cx 1 d_1_20_13 rfl rfl ?_
        refine g_getf cx (k := 2) d_1_20_14 in0 rfl (by decide) t_98 (Or.inl rfl) ha.1 he0 rfl ?_
        refine g_iload_n cx 0 d_1_20_17 rfl rfl ?_
        obtain ⟨⟨ea18, mo18, hm18, hl18⟩, hb18⟩ := TP.n26 hT hlr0
        refine g_callV cx (As := [.int (nI j)]) (n := 1) (gj_getF (K := K) (B := B) (T := T) (ce := 6) (j := j) (mm := nr) (es := rz) (by decide) hB) d_1_20_18 t_239 t_240 t_241 t_8 t_242 ⟨by decide, by decide, by decide +kernel⟩ rfl (ci := 2) rfl hm18 hl18 ⟨rfl, hT, hlr0, hj, hLs.ls, hjn⟩ ⟨Nat.le_of_ble_eq_true rfl, Nat.le_of_ble_eq_true rfl⟩ (Nat.le_of_ble_eq_true rfl) ⟨Nat.zero_le _, Nat.zero_le _⟩ (fun v18 h r18 => ?_) (fun x18 h r18 => by obtain ⟨-, e9, -⟩ := r18; cases e9)
        obtain ⟨rfl, e18, hy18⟩ := r18
        obtain ⟨y18, hq18⟩ : ∃ y, y = rz j := ⟨_, rfl⟩
        rw [← hq18] at e18 hy18
        cases e18
        replace hy18 : Ty K h 6 y18 := hy18
        obtain ⟨n21, b121, b221, b321, w21, lo21, im21, fi21, pa21, he21, hw21, hlo21, him21, hfi21, hpa21, hwq21⟩ := TP.o (κ := 6) hT hy18
        obtain ⟨nw21, hw21⟩ : ∃ n, Tw k K h w21 n := ⟨_, Tx.tx hw21⟩
        refine g_ccast cx (ci := 6) d_1_20_21 t_251 rfl hy18.1 he21 ?_
        refine g_getf cx (k := 7) d_1_20_24 in6 rfl (by decide) t_743 (Or.inl rfl) hy18.1 he21 rfl ?_
        refine g_if_ne cx d_1_20_27 rfl (fun c27 => ?_) (fun c27 => ?_)
        · skip
          have hb2 : b221 = nI (K y18).2.2 := hwq21.2.1
          have hgo : ¬ gq j = 0 := fun z => c27 (by rw [hb2, hq18, (hQ.2.1 j hjn).2.2.2, z]; rfl)
          have hnj : ¬ Sam nq cq gq j n cd := by
            first
              | exact fun q => hgo q.1
              | exact fun q => hce q.2
          refine g_iinc cx 0 (lv' := [(2, .int (nI (j + 1))), (0, .ref a), (1, .ref w)]) d_1_20_63 rfl (inc1 j) (by decide) rfl ?_
          refine g_goto cx d_1_20_66 rfl ?_
          exact ih (j + 1) (by omega) (by omega) (fun t ht => (Nat.lt_or_ge t j).elim (hall t) (fun q => by rw [show t = j by omega]; exact hnj))
        · skip
          have hb2 : b221 = nI (K y18).2.2 := hwq21.2.1
          have hb3 : (K y18).2.2 ≤ 1 := hwq21.2.2
          have hgo : gq j = 0 := by
            rw [hq18, (hQ.2.1 j hjn).2.2.2] at hb2 hb3
            exact (nI_eq (b := 0) (by omega) (by decide)).mp (hb2.symm.trans c27)
          refine g_aload_n cx 1 d_1_20_30 rfl rfl ?_
          refine g_getf cx (k := 2) d_1_20_31 in0 rfl (by decide) t_98 (Or.inl rfl) ha.1 he0 rfl ?_
          refine g_iload_n cx 0 d_1_20_34 rfl rfl ?_
          obtain ⟨⟨ea35, mo35, hm35, hl35⟩, hb35⟩ := TP.n26 hT hlr0
          refine g_callV cx (As := [.int (nI j)]) (n := 1) (gj_getF (K := K) (B := B) (T := T) (ce := 6) (j := j) (mm := nr) (es := rz) (by decide) hB) d_1_20_35 t_239 t_240 t_241 t_8 t_242 ⟨by decide, by decide, by decide +kernel⟩ rfl (ci := 2) rfl hm35 hl35 ⟨rfl, hT, hlr0, hj, hLs.ls, hjn⟩ ⟨Nat.le_of_ble_eq_true rfl, Nat.le_of_ble_eq_true rfl⟩ (Nat.le_of_ble_eq_true rfl) ⟨Nat.zero_le _, Nat.zero_le _⟩ (fun v35 h r35 => ?_) (fun x35 h r35 => by obtain ⟨-, e9, -⟩ := r35; cases e9)
          obtain ⟨rfl, e35, hy35⟩ := r35
          obtain ⟨y35, hq35⟩ : ∃ y, y = rz j := ⟨_, rfl⟩
          rw [← hq35] at e35 hy35
          cases e35
          replace hy35 : Ty K h 6 y35 := hy35
          obtain ⟨n38, b138, b238, b338, w38, lo38, im38, fi38, pa38, he38, hw38, hlo38, him38, hfi38, hpa38, hwq38⟩ := TP.o (κ := 6) hT hy35
          obtain ⟨nw38, hw38⟩ : ∃ n, Tw k K h w38 n := ⟨_, Tx.tx hw38⟩
          refine g_ccast cx (ci := 6) d_1_20_38 t_251 rfl hy35.1 he38 ?_
          refine g_getf cx (k := 1) d_1_20_41 in6 rfl (by decide) t_731 (Or.inl rfl) hy35.1 he38 rfl ?_
          refine g_aload_n cx 2 d_1_20_44 rfl rfl ?_
          have hr45 : Tc k K h w38 (nq j) (cq j) := by
            rw [show w38 = (K y35).2.1 from hwq38.1, hq35]
            exact (hQ.2.1 j hjn).2.1
          have hm45 : w38 ∈ h.1 := Tc.mem hT hr45 (hQ.2.1 j hjn).2.2.1.1
          obtain ⟨va45, hsa45, hba45, -⟩ := Tc.byt hT hr45
          obtain ⟨vb45, hsb45, hbb45, -⟩ := Tc.byt hT hw
          refine g_pcVS cx (As := [.ref w]) (n := 1) (pj_eqF (n := nq j) (n' := n) (cd := cq j) (ce := cd)) d_1_20_45 t_491 t_492 t_493 t_4 t_494 rfl (by decide +kernel) rfl hsa45 ⟨⟨hm45, hT.2.2.2.1⟩, ⟨_, hsa45, hba45⟩, ⟨_, hsb45, hbb45⟩⟩ ⟨Nat.le_of_ble_eq_true rfl, Nat.le_of_ble_eq_true rfl⟩ (Nat.le_of_ble_eq_true rfl) (fun v45 r45 => ?_)
          obtain ⟨x45, rfl, xb45⟩ := r45
          refine g_if_eq cx d_1_20_48 rfl (fun c48 => ?_) (fun c48 => ?_)
          · skip
            have hce : ¬ CE (nq j) n (cq j) cd := by
              rcases xb45 with z | z
              · exact absurd c48 (by rw [z.1]; decide)
              · exact z.2
            have hnj : ¬ Sam nq cq gq j n cd := by
              first
                | exact fun q => hgo q.1
                | exact fun q => hce q.2
            refine g_iinc cx 0 (lv' := [(2, .int (nI (j + 1))), (0, .ref a), (1, .ref w)]) d_1_20_63 rfl (inc1 j) (by decide) rfl ?_
            refine g_goto cx d_1_20_66 rfl ?_
            exact ih (j + 1) (by omega) (by omega) (fun t ht => (Nat.lt_or_ge t j).elim (hall t) (fun q => by rw [show t = j by omega]; exact hnj))
          · skip
            have hce : CE (nq j) n (cq j) cd := by
              rcases xb45 with z | z
              · exact z.2
              · exact absurd z.1 c48
            refine g_aload_n cx 1 d_1_20_51 rfl rfl ?_
            refine g_getf cx (k := 2) d_1_20_52 in0 rfl (by decide) t_98 (Or.inl rfl) ha.1 he0 rfl ?_
            refine g_iload_n cx 0 d_1_20_55 rfl rfl ?_
            obtain ⟨⟨ea56, mo56, hm56, hl56⟩, hb56⟩ := TP.n26 hT hlr0
            refine g_callV cx (As := [.int (nI j)]) (n := 1) (gj_get (K := K) (B := B) (T := T) (ce := 6) (j := j) (by decide) hB) d_1_20_56 t_239 t_240 t_241 t_8 t_242 ⟨by decide, by decide, by decide +kernel⟩ rfl (ci := 2) rfl hm56 hl56 ⟨rfl, hT, hlr0, hj⟩ ⟨Nat.le_of_ble_eq_true rfl, Nat.le_of_ble_eq_true rfl⟩ (Nat.le_of_ble_eq_true rfl) ⟨Nat.zero_le _, Nat.zero_le _⟩ (fun v56 h r56 => ?_) (fun x56 h r56 => by obtain ⟨-, y9, e9, -⟩ := r56; cases e9)
            obtain ⟨rfl, y56, e56, hy56⟩ := r56
            cases e56
            replace hy56 : Ty K h 6 y56 := hy56
            obtain ⟨n59, b159, b259, b359, w59, lo59, im59, fi59, pa59, he59, hw59, hlo59, him59, hfi59, hpa59, hwq59⟩ := TP.o (κ := 6) hT hy56
            obtain ⟨nw59, hw59⟩ : ∃ n, Tw k K h w59 n := ⟨_, Tx.tx hw59⟩
            refine g_ccast cx (ci := 6) d_1_20_59 t_251 rfl hy56.1 he59 ?_
            exact g_aret cx d_1_20_62 rfl (Or.inl ⟨_, rfl⟩) (Or.inr ⟨_, rfl⟩) ⟨rfl, _, rfl, Or.inr ⟨_, rfl, j, hjn, hgo, hce⟩⟩
  refine g_iconst cx (v := 0) d_1_20_0 (by decide) ?_
  refine g_topi (fun j0 ej0 => ?_)
  obtain rfl : j0 = nI 0 := ej0
  refine g_istore_n cx (lv' := [(2, .int (nI 0)), (0, .ref a), (1, .ref w)]) d_1_20_1 rfl (by decide) rfl ?_
  exact lp ((K lr0).2.2 + 1) 0 (by omega) (Nat.zero_le _) (fun t ht => absurd ht (Nat.not_lt_zero _))
set_option maxHeartbeats 8000000 in
theorem pt_isThereF {a lr nr : Nat} {rz nq cq gq : Nat → Nat} {v0 : Int32} (hB : B < 2 ^ 20) : PU l y_41 prog_1_method_17_code 2 (Option.some Jvm.ClassFile.FieldType.boolean) 6 D z0 k [.ref a, .int v0] K B T (fun h => Ty K h 1 a ∧ (K a).2.2 = lr ∧ RQ D k K h lr nr rz nq cq gq) (fun v _ => ∃ x : Int32, v = some (.int x) ∧ ((x = 1 ∧ ∃ t, t < nr ∧ v0 = nI t ∧ gq t = 0) ∨ (x = 0 ∧ ∀ t, t < nr → v0 = nI t → ¬ gq t = 0))) := by
  refine pu_of (by decide) (Nat.le_of_ble_eq_true rfl) ?_
  intro h hT hp p e s m args below meth c cx
  obtain ⟨ha, hlrq, hQ⟩ := hp
  obtain ⟨la0, lr0, tr0, tn0, he0, hla0, hlr0, htr0, htn0, hlq0, hlaq0⟩ := TP.o (κ := 1) hT ha
  obtain ⟨-, hbb⟩ := TP.n26 hT hlr0
  have hl0 : lr0 = lr := Eq.trans hlq0 hlrq
  have hLs : LsK D K h lr0 26 nr rz := by rw [hl0]; exact hQ.1
  have hnr : (K lr0).2.2 = nr := hLs.2.1
  refine g_iload_n cx 1 d_1_17_0 rfl rfl ?_
  refine g_if_lt cx d_1_17_1 rfl (fun c1 => ?_) (fun c1 => ?_)
  · skip
    have hno : ∀ t, t < nr → v0 = nI t → ¬ gq t = 0 := fun t ht z => absurd c1 (by rw [z]; exact nI_pos (by omega))
    refine g_iconst cx (v := 0) d_1_17_36 (by decide) ?_
    exact g_iret cx d_1_17_37 rfl rfl ⟨rfl, _, rfl, _, rfl, Or.inr ⟨rfl, hno⟩⟩
  · skip
    obtain ⟨j, hj31, hv0⟩ := nI_of c1
    refine g_iload_n cx 1 d_1_17_4 rfl rfl ?_
    refine g_aload_n cx 0 d_1_17_5 rfl rfl ?_
    refine g_getf cx (k := 2) d_1_17_6 in0 rfl (by decide) t_98 (Or.inl rfl) ha.1 he0 rfl ?_
    obtain ⟨⟨ea9, mo9, hm9, hl9⟩, hb9⟩ := TP.n26 hT hlr0
    refine g_pcV cx (As := []) (n := 0) (pj_size (n := (K lr0).2.2)) d_1_17_9 t_235 t_236 t_237 t_8 t_238 ⟨by decide, by decide, by decide +kernel⟩ rfl (ci := 2) rfl hm9 hl9 ⟨ea9, mo9, hm9, hl9⟩ ⟨Nat.le_of_ble_eq_true rfl, Nat.le_of_ble_eq_true rfl⟩ (Nat.le_of_ble_eq_true rfl) (fun v9 r9 => ?_)
    subst r9
    refine g_icmp_ge cx d_1_17_12 rfl (fun c12 => ?_) (fun c12 => ?_)
    · skip
      have hno : ∀ t, t < nr → v0 = nI t → ¬ gq t = 0 := fun t ht z => absurd c12 (by rw [z]; exact nI_ge (by omega) (by omega))
      refine g_iconst cx (v := 0) d_1_17_36 (by decide) ?_
      exact g_iret cx d_1_17_37 rfl rfl ⟨rfl, _, rfl, _, rfl, Or.inr ⟨rfl, hno⟩⟩
    · skip
      have hj : j < (K lr0).2.2 := Nat.lt_of_not_le (fun q => c12 (by rw [hv0]; exact nI_le q hj31))
      have hjn : j < nr := by omega
      subst hv0
      refine g_aload_n cx 0 d_1_17_15 rfl rfl ?_
      refine g_getf cx (k := 2) d_1_17_16 in0 rfl (by decide) t_98 (Or.inl rfl) ha.1 he0 rfl ?_
      refine g_iload_n cx 1 d_1_17_19 rfl rfl ?_
      obtain ⟨⟨ea20, mo20, hm20, hl20⟩, hb20⟩ := TP.n26 hT hlr0
      refine g_callV cx (As := [.int (nI j)]) (n := 1) (gj_getF (K := K) (B := B) (T := T) (ce := 6) (j := j) (mm := nr) (es := rz) (by decide) hB) d_1_17_20 t_239 t_240 t_241 t_8 t_242 ⟨by decide, by decide, by decide +kernel⟩ rfl (ci := 2) rfl hm20 hl20 ⟨rfl, hT, hlr0, hj, hLs.ls, hjn⟩ ⟨Nat.le_of_ble_eq_true rfl, Nat.le_of_ble_eq_true rfl⟩ (Nat.le_of_ble_eq_true rfl) ⟨Nat.zero_le _, Nat.zero_le _⟩ (fun v20 h r20 => ?_) (fun x20 h r20 => by obtain ⟨-, e9, -⟩ := r20; cases e9)
      obtain ⟨rfl, e20, hy20⟩ := r20
      obtain ⟨y20, hq20⟩ : ∃ y, y = rz j := ⟨_, rfl⟩
      rw [← hq20] at e20 hy20
      cases e20
      replace hy20 : Ty K h 6 y20 := hy20
      obtain ⟨n23, b123, b223, b323, w23, lo23, im23, fi23, pa23, he23, hw23, hlo23, him23, hfi23, hpa23, hwq23⟩ := TP.o (κ := 6) hT hy20
      obtain ⟨nw23, hw23⟩ : ∃ n, Tw k K h w23 n := ⟨_, Tx.tx hw23⟩
      refine g_ccast cx (ci := 6) d_1_17_23 t_251 rfl hy20.1 he23 ?_
      refine g_getf cx (k := 7) d_1_17_26 in6 rfl (by decide) t_743 (Or.inl rfl) hy20.1 he23 rfl ?_
      refine g_if_ne cx d_1_17_29 rfl (fun c29 => ?_) (fun c29 => ?_)
      · skip
        have hb2 : b223 = nI (K y20).2.2 := hwq23.2.1
        have hno : ∀ t, t < nr → nI j = nI t → ¬ gq t = 0 := fun t ht z => by
          have e9 : t = j := ((nI_eq (by omega) (by omega)).mp z).symm
          rw [e9]
          exact fun z2 => c29 (by rw [hb2, hq20, (hQ.2.1 j hjn).2.2.2, z2]; rfl)
        refine g_iconst cx (v := 0) d_1_17_36 (by decide) ?_
        exact g_iret cx d_1_17_37 rfl rfl ⟨rfl, _, rfl, _, rfl, Or.inr ⟨rfl, hno⟩⟩
      · skip
        have hb2 : b223 = nI (K y20).2.2 := hwq23.2.1
        have hb3 : (K y20).2.2 ≤ 1 := hwq23.2.2
        have hgo : gq j = 0 := by
          rw [hq20, (hQ.2.1 j hjn).2.2.2] at hb2 hb3
          exact (nI_eq (b := 0) (by omega) (by decide)).mp (hb2.symm.trans c29)
        refine g_iconst cx (v := 1) d_1_17_32 (by decide) ?_
        refine g_goto cx d_1_17_33 rfl ?_
        exact g_iret cx d_1_17_37 rfl rfl ⟨rfl, _, rfl, _, rfl, Or.inl ⟨rfl, j, hjn, rfl, hgo⟩⟩
set_option maxHeartbeats 8000000 in
theorem pt_archiveWithF {a w n cd lr na : Nat} {az nz cz : Nat → Nat} (hB : B < 2 ^ 20) : PU l y_126 prog_1_method_19_code 3 (Option.some (Jvm.ClassFile.FieldType.object "RealmDesk$Archive")) 6 D z0 k [.ref a, .ref w] K B T (fun h => Ty K h 1 a ∧ (K a).2.2 = lr ∧ Tc k K h w n cd ∧ AQz D k K h (K lr).2.1 na az nz cz) (fun v _ => (v = some .null ∧ ∀ t, t < na → ¬ CE (nz t) n (cz t) cd) ∨ ∃ y, v = some (.ref y) ∧ ∃ t, t < na ∧ CE (nz t) n (cz t) cd) := by
  refine pu_of (by decide) (Nat.le_of_ble_eq_true rfl) ?_
  intro h hT hp p e s m args below meth c cx
  obtain ⟨ha, hlrq, hw, hQ⟩ := hp
  have hwt := hw.1
  obtain ⟨la0, lr0, tr0, tn0, he0, hla0, hlr0, htr0, htn0, hlq0, hlaq0⟩ := TP.o (κ := 1) hT ha
  obtain ⟨-, hbb⟩ := TP.n25 hT hla0
  have hl0 : lr0 = lr := Eq.trans hlq0 hlrq
  have hLs : LsK D K h la0 25 na az := by rw [hlaq0, hl0]; exact hQ.1
  have hnr : (K la0).2.2 = na := hLs.2.1
  have lp : ∀ (n0 j : Nat), (K la0).2.2 - j < n0 → j ≤ (K la0).2.2 → (∀ t, t < j → ¬ CE (nz t) n (cz t) cd) → G p l e (rmT 6 0 0) s m args below meth c 3 D z0 (EE z0 k) (PUQ h (fun v _ => (v = some .null ∧ ∀ t, t < na → ¬ CE (nz t) n (cz t) cd) ∨ ∃ y, v = some (.ref y) ∧ ∃ t, t < na ∧ CE (nz t) n (cz t) cd)) 0 0 2 [(2, .int (nI j)), (0, .ref a), (1, .ref w)] [] h 0 0 := by
    intro n0
    induction n0 with
    | zero => intro j hj; exact absurd hj (Nat.not_lt_zero _)
    | succ n0 ih =>
      intro j hj0 hjn0 hall
      refine g_iload_n cx 0 d_1_19_2 rfl rfl ?_
      refine g_aload_n cx 1 d_1_19_3 rfl rfl ?_
      refine g_getf cx (k := 1) d_1_19_4 in0 rfl (by decide) t_97 (Or.inl rfl) ha.1 he0 rfl ?_
      obtain ⟨⟨ea7, mo7, hm7, hl7⟩, hb7⟩ := TP.n25 hT hla0
      refine g_pcV cx (As := []) (n := 0) (pj_size (n := (K la0).2.2)) d_1_19_7 t_235 t_236 t_237 t_8 t_238 ⟨by decide, by decide, by decide +kernel⟩ rfl (ci := 2) rfl hm7 hl7 ⟨ea7, mo7, hm7, hl7⟩ ⟨Nat.le_of_ble_eq_true rfl, Nat.le_of_ble_eq_true rfl⟩ (Nat.le_of_ble_eq_true rfl) (fun v7 r7 => ?_)
      subst r7
      refine g_icmp_ge cx d_1_19_10 rfl (fun c10 => ?_) (fun c10 => ?_)
      · skip
        have hge : na ≤ j := by have := (nI_leI (by omega) (by omega)).mp c10; omega
        refine g_null cx d_1_19_52 ?_
        exact g_aret cx d_1_19_53 rfl (Or.inl ⟨_, rfl⟩) (Or.inl rfl) ⟨rfl, _, rfl, Or.inl ⟨rfl, fun t ht => hall t (by omega)⟩⟩
      · skip
        have hj : j < (K la0).2.2 := Nat.lt_of_not_le (fun q => c10 (nI_le q (by omega)))
        have hjn : j < na := by omega
        refine g_aload_n cx 1 d_1_19_13 rfl rfl ?_
        refine g_getf cx (k := 1) d_1_19_14 in0 rfl (by decide) t_97 (Or.inl rfl) ha.1 he0 rfl ?_
        refine g_iload_n cx 0 d_1_19_17 rfl rfl ?_
        obtain ⟨⟨ea18, mo18, hm18, hl18⟩, hb18⟩ := TP.n25 hT hla0
        refine g_callV cx (As := [.int (nI j)]) (n := 1) (gj_getF (K := K) (B := B) (T := T) (ce := 5) (j := j) (mm := na) (es := az) (by decide) hB) d_1_19_18 t_239 t_240 t_241 t_8 t_242 ⟨by decide, by decide, by decide +kernel⟩ rfl (ci := 2) rfl hm18 hl18 ⟨rfl, hT, hla0, hj, hLs.ls, hjn⟩ ⟨Nat.le_of_ble_eq_true rfl, Nat.le_of_ble_eq_true rfl⟩ (Nat.le_of_ble_eq_true rfl) ⟨Nat.zero_le _, Nat.zero_le _⟩ (fun v18 h r18 => ?_) (fun x18 h r18 => by obtain ⟨-, e9, -⟩ := r18; cases e9)
        obtain ⟨rfl, e18, hy18⟩ := r18
        obtain ⟨y18, hq18⟩ : ∃ y, y = az j := ⟨_, rfl⟩
        rw [← hq18] at e18 hy18
        cases e18
        replace hy18 : Ty K h 5 y18 := hy18
        obtain ⟨n21, t21, w21, l21, he21, hw21, hl21, hwq21⟩ := TP.o (κ := 5) hT hy18
        obtain ⟨nw21, hw21⟩ : ∃ n, Tw k K h w21 n := ⟨_, Tx.tx hw21⟩
        refine g_ccast cx (ci := 5) d_1_19_21 t_256 rfl hy18.1 he21 ?_
        refine g_getf cx (k := 1) d_1_19_24 in5 rfl (by decide) t_682 (Or.inl rfl) hy18.1 he21 rfl ?_
        refine g_aload_n cx 2 d_1_19_27 rfl rfl ?_
        have hr28 : Tc k K h w21 (nz j) (cz j) := by
          rw [show w21 = (K y18).2.1 from hwq21, hq18]
          exact (hQ.2 j hjn).2.1
        have hm28 : w21 ∈ h.1 := Tc.mem hT hr28 (hQ.2 j hjn).2.2.1
        obtain ⟨va28, hsa28, hba28, -⟩ := Tc.byt hT hr28
        obtain ⟨vb28, hsb28, hbb28, -⟩ := Tc.byt hT hw
        refine g_pcVS cx (As := [.ref w]) (n := 1) (pj_eqF (n := nz j) (n' := n) (cd := cz j) (ce := cd)) d_1_19_28 t_491 t_492 t_493 t_4 t_494 rfl (by decide +kernel) rfl hsa28 ⟨⟨hm28, hT.2.2.2.1⟩, ⟨_, hsa28, hba28⟩, ⟨_, hsb28, hbb28⟩⟩ ⟨Nat.le_of_ble_eq_true rfl, Nat.le_of_ble_eq_true rfl⟩ (Nat.le_of_ble_eq_true rfl) (fun v28 r28 => ?_)
        obtain ⟨x28, rfl, xb28⟩ := r28
        refine g_if_eq cx d_1_19_31 rfl (fun c31 => ?_) (fun c31 => ?_)
        · skip
          have hce : ¬ CE (nz j) n (cz j) cd := by
            rcases xb28 with z | z
            · exact absurd c31 (by rw [z.1]; decide)
            · exact z.2
          refine g_iinc cx 0 (lv' := [(2, .int (nI (j + 1))), (0, .ref a), (1, .ref w)]) d_1_19_46 rfl (inc1 j) (by decide) rfl ?_
          refine g_goto cx d_1_19_49 rfl ?_
          exact ih (j + 1) (by omega) (by omega) (fun t ht => (Nat.lt_or_ge t j).elim (hall t) (fun q => by rw [show t = j by omega]; exact hce))
        · skip
          have hce : CE (nz j) n (cz j) cd := by
            rcases xb28 with z | z
            · exact z.2
            · exact absurd z.1 c31
          refine g_aload_n cx 1 d_1_19_34 rfl rfl ?_
          refine g_getf cx (k := 1) d_1_19_35 in0 rfl (by decide) t_97 (Or.inl rfl) ha.1 he0 rfl ?_
          refine g_iload_n cx 0 d_1_19_38 rfl rfl ?_
          obtain ⟨⟨ea39, mo39, hm39, hl39⟩, hb39⟩ := TP.n25 hT hla0
          refine g_callV cx (As := [.int (nI j)]) (n := 1) (gj_get (K := K) (B := B) (T := T) (ce := 5) (j := j) (by decide) hB) d_1_19_39 t_239 t_240 t_241 t_8 t_242 ⟨by decide, by decide, by decide +kernel⟩ rfl (ci := 2) rfl hm39 hl39 ⟨rfl, hT, hla0, hj⟩ ⟨Nat.le_of_ble_eq_true rfl, Nat.le_of_ble_eq_true rfl⟩ (Nat.le_of_ble_eq_true rfl) ⟨Nat.zero_le _, Nat.zero_le _⟩ (fun v39 h r39 => ?_) (fun x39 h r39 => by obtain ⟨-, y9, e9, -⟩ := r39; cases e9)
          obtain ⟨rfl, y39, e39, hy39⟩ := r39
          cases e39
          replace hy39 : Ty K h 5 y39 := hy39
          obtain ⟨n42, t42, w42, l42, he42, hw42, hl42, hwq42⟩ := TP.o (κ := 5) hT hy39
          obtain ⟨nw42, hw42⟩ : ∃ n, Tw k K h w42 n := ⟨_, Tx.tx hw42⟩
          refine g_ccast cx (ci := 5) d_1_19_42 t_256 rfl hy39.1 he42 ?_
          exact g_aret cx d_1_19_45 rfl (Or.inl ⟨_, rfl⟩) (Or.inr ⟨_, rfl⟩) ⟨rfl, _, rfl, Or.inr ⟨_, rfl, j, hjn, hce⟩⟩
  refine g_iconst cx (v := 0) d_1_19_0 (by decide) ?_
  refine g_topi (fun j0 ej0 => ?_)
  obtain rfl : j0 = nI 0 := ej0
  refine g_istore_n cx (lv' := [(2, .int (nI 0)), (0, .ref a), (1, .ref w)]) d_1_19_1 rfl (by decide) rfl ?_
  exact lp ((K la0).2.2 + 1) 0 (by omega) (Nat.zero_le _) (fun t ht => absurd ht (Nat.not_lt_zero _))
set_option maxHeartbeats 8000000 in
theorem pt_realmsThereF {a lr nr : Nat} {rz nq cq gq : Nat → Nat} (hB : B < 2 ^ 20) : PU l y_98 prog_1_method_18_code 3 (Option.some Jvm.ClassFile.FieldType.int) 6 D z0 k [.ref a] K B T (fun h => Ty K h 1 a ∧ (K a).2.2 = lr ∧ RQ D k K h lr nr rz nq cq gq) (fun v _ => v = some (.int (nI (cg gq nr)))) := by
  refine pu_of (by decide) (Nat.le_of_ble_eq_true rfl) ?_
  intro h hT hp p e s m args below meth c cx
  obtain ⟨ha, hlrq, hQ⟩ := hp
  obtain ⟨la0, lr0, tr0, tn0, he0, hla0, hlr0, htr0, htn0, hlq0, hlaq0⟩ := TP.o (κ := 1) hT ha
  obtain ⟨-, hbb⟩ := TP.n26 hT hlr0
  have hl0 : lr0 = lr := Eq.trans hlq0 hlrq
  have hLs : LsK D K h lr0 26 nr rz := by rw [hl0]; exact hQ.1
  have hnr : (K lr0).2.2 = nr := hLs.2.1
  have lp : ∀ (n0 j : Nat), (K lr0).2.2 - j < n0 → j ≤ (K lr0).2.2 → G p l e (rmT 6 0 0) s m args below meth c 3 D z0 (EE z0 k) (PUQ h (fun v _ => v = some (.int (nI (cg gq nr))))) 0 0 4 [(2, .int (nI j)), (1, .int (nI (cg gq j))), (0, .ref a)] [] h 0 0 := by
    intro n0
    induction n0 with
    | zero => intro j hj; exact absurd hj (Nat.not_lt_zero _)
    | succ n0 ih =>
      intro j hj0 hjn
      refine g_iload_n cx 0 d_1_18_4 rfl rfl ?_
      refine g_aload_n cx 2 d_1_18_5 rfl rfl ?_
      refine g_getf cx (k := 2) d_1_18_6 in0 rfl (by decide) t_98 (Or.inl rfl) ha.1 he0 rfl ?_
      obtain ⟨⟨ea9, mo9, hm9, hl9⟩, hb9⟩ := TP.n26 hT hlr0
      refine g_pcV cx (As := []) (n := 0) (pj_size (n := (K lr0).2.2)) d_1_18_9 t_235 t_236 t_237 t_8 t_238 ⟨by decide, by decide, by decide +kernel⟩ rfl (ci := 2) rfl hm9 hl9 ⟨ea9, mo9, hm9, hl9⟩ ⟨Nat.le_of_ble_eq_true rfl, Nat.le_of_ble_eq_true rfl⟩ (Nat.le_of_ble_eq_true rfl) (fun v9 r9 => ?_)
      subst r9
      refine g_icmp_ge cx d_1_18_12 rfl (fun c12 => ?_) (fun c12 => ?_)
      · skip
        have hje : j = nr := by have := (nI_leI (by omega) (by omega)).mp c12; omega
        refine g_iload_n cx 1 d_1_18_41 rfl rfl ?_
        exact g_iret cx d_1_18_42 rfl rfl ⟨rfl, _, rfl, by rw [hje]⟩
      · skip
        have hj : j < (K lr0).2.2 := Nat.lt_of_not_le (fun q => c12 (nI_le q (by omega)))
        have hjn : j < nr := by omega
        refine g_aload_n cx 2 d_1_18_15 rfl rfl ?_
        refine g_getf cx (k := 2) d_1_18_16 in0 rfl (by decide) t_98 (Or.inl rfl) ha.1 he0 rfl ?_
        refine g_iload_n cx 0 d_1_18_19 rfl rfl ?_
        obtain ⟨⟨ea20, mo20, hm20, hl20⟩, hb20⟩ := TP.n26 hT hlr0
        refine g_callV cx (As := [.int (nI j)]) (n := 1) (gj_getF (K := K) (B := B) (T := T) (ce := 6) (j := j) (mm := nr) (es := rz) (by decide) hB) d_1_18_20 t_239 t_240 t_241 t_8 t_242 ⟨by decide, by decide, by decide +kernel⟩ rfl (ci := 2) rfl hm20 hl20 ⟨rfl, hT, hlr0, hj, hLs.ls, hjn⟩ ⟨Nat.le_of_ble_eq_true rfl, Nat.le_of_ble_eq_true rfl⟩ (Nat.le_of_ble_eq_true rfl) ⟨Nat.zero_le _, Nat.zero_le _⟩ (fun v20 h r20 => ?_) (fun x20 h r20 => by obtain ⟨-, e9, -⟩ := r20; cases e9)
        obtain ⟨rfl, e20, hy20⟩ := r20
        obtain ⟨y20, hq20⟩ : ∃ y, y = rz j := ⟨_, rfl⟩
        rw [← hq20] at e20 hy20
        cases e20
        replace hy20 : Ty K h 6 y20 := hy20
        obtain ⟨n23, b123, b223, b323, w23, lo23, im23, fi23, pa23, he23, hw23, hlo23, him23, hfi23, hpa23, hwq23⟩ := TP.o (κ := 6) hT hy20
        obtain ⟨nw23, hw23⟩ : ∃ n, Tw k K h w23 n := ⟨_, Tx.tx hw23⟩
        refine g_ccast cx (ci := 6) d_1_18_23 t_251 rfl hy20.1 he23 ?_
        refine g_getf cx (k := 7) d_1_18_26 in6 rfl (by decide) t_743 (Or.inl rfl) hy20.1 he23 rfl ?_
        refine g_if_ne cx d_1_18_29 rfl (fun c29 => ?_) (fun c29 => ?_)
        · skip
          have hb2 : b223 = nI (K y20).2.2 := hwq23.2.1
          have hgo : ¬ gq j = 0 := fun z => c29 (by rw [hb2, hq20, (hQ.2.1 j hjn).2.2.2, z]; rfl)
          refine g_iinc cx 0 (lv' := [(2, .int (nI (j + 1))), (1, .int (nI (cg gq j))), (0, .ref a)]) d_1_18_35 rfl (inc1 j) (by decide) rfl ?_
          refine g_goto cx d_1_18_38 rfl ?_
          rw [← cg_0 hgo]
          exact g_loc [0, 1, 2] rfl (ih (j + 1) (by omega) (by omega))
        · skip
          have hb2 : b223 = nI (K y20).2.2 := hwq23.2.1
          have hb3 : (K y20).2.2 ≤ 1 := hwq23.2.2
          have hgo : gq j = 0 := by
            rw [hq20, (hQ.2.1 j hjn).2.2.2] at hb2 hb3
            exact (nI_eq (b := 0) (by omega) (by decide)).mp (hb2.symm.trans c29)
          refine g_iinc cx 1 (lv' := [(1, .int (nI (cg gq (j + 1)))), (2, .int (nI j)), (0, .ref a)]) d_1_18_32 rfl (by rw [cg_1 hgo]; exact inc1 _) (by decide) rfl ?_
          refine g_iinc cx 1 (lv' := [(2, .int (nI (j + 1))), (1, .int (nI (cg gq (j + 1)))), (0, .ref a)]) d_1_18_35 rfl (inc1 j) (by decide) rfl ?_
          refine g_goto cx d_1_18_38 rfl ?_
          exact g_loc [0, 1, 2] rfl (ih (j + 1) (by omega) (by omega))
  refine g_iconst cx (v := 0) d_1_18_0 (by decide) ?_
  refine g_topi (fun t0 et0 => ?_)
  obtain rfl : t0 = nI (cg gq 0) := et0
  refine g_istore_n cx (lv' := [(1, .int (nI (cg gq 0))), (0, .ref a)]) d_1_18_1 rfl (by decide) rfl ?_
  refine g_iconst cx (v := 0) d_1_18_2 (by decide) ?_
  refine g_topi (fun j0 ej0 => ?_)
  obtain rfl : j0 = nI 0 := ej0
  refine g_istore_n cx (lv' := [(2, .int (nI 0)), (1, .int (nI (cg gq 0))), (0, .ref a)]) d_1_18_3 rfl (by decide) rfl ?_
  exact lp ((K lr0).2.2 + 1) 0 (by omega) (Nat.zero_le _)
set_option maxHeartbeats 8000000 in
theorem pt_countF {a lr nr na : Nat} {rz nq cq gq az nz cz : Nat → Nat} {v0 : Int32} (hB : B < 2 ^ 20) : PU l y_97 prog_1_method_11_code 2 (Option.some Jvm.ClassFile.FieldType.int) 7 D z0 k [.ref a, .int v0] K B T (fun h => Ty K h 1 a ∧ (K a).2.2 = lr ∧ BQ D k K h lr nr rz nq cq gq na az nz cz) (fun v _ => ∃ u : Int32, v = some (.int u) ∧ ((v0 = 0 ∧ u = nI na) ∨ (v0 = 1 ∧ u = nI nr) ∨ (v0 = 2 ∧ u = nI (cg gq nr)) ∨ (¬ v0 = 0 ∧ ¬ v0 = 1 ∧ ¬ v0 = 2 ∧ u = -1))) := by
  refine pu_of (by decide) (Nat.le_of_ble_eq_true rfl) ?_
  intro h hT hp p e s m args below meth c cx
  obtain ⟨ha, hlrq, hQ⟩ := hp
  refine g_iload_n cx 1 d_1_11_0 rfl rfl ?_
  by_cases s0 : v0 = 0
  · skip
    refine g_tableIn cx (off := 27) (tgt := 28) d_1_11_1 (by rw [s0]; decide +kernel) (by rw [s0]; decide +kernel) (by rw [s0]; decide +kernel) rfl ?_
    refine g_aload_n cx 0 d_1_11_28 rfl rfl ?_
    obtain ⟨la29, lr29, tr29, tn29, he29, hla29, hlr29, htr29, htn29, hlq29, hlaq29⟩ := TP.o (κ := 1) hT ha
    refine g_getf cx (k := 1) d_1_11_29 in0 rfl (by decide) t_97 (Or.inl rfl) ha.1 he29 rfl ?_
    obtain ⟨⟨ea32, mo32, hm32, hl32⟩, hb32⟩ := TP.n25 hT hla29
    refine g_pcV cx (As := []) (n := 0) (pj_size (n := (K la29).2.2)) d_1_11_32 t_235 t_236 t_237 t_8 t_238 ⟨by decide, by decide, by decide +kernel⟩ rfl (ci := 2) rfl hm32 hl32 ⟨ea32, mo32, hm32, hl32⟩ ⟨Nat.le_of_ble_eq_true rfl, Nat.le_of_ble_eq_true rfl⟩ (Nat.le_of_ble_eq_true rfl) (fun v32 r32 => ?_)
    subst r32
    exact g_iret cx d_1_11_35 rfl rfl ⟨rfl, _, rfl, _, rfl, Or.inl ⟨s0, by rw [hlaq29, show lr29 = lr from Eq.trans hlq29 hlrq]; exact congrArg nI hQ.2.1.2.1⟩⟩
  by_cases s1 : v0 = 1
  · skip
    refine g_tableIn cx (off := 35) (tgt := 36) d_1_11_1 (by rw [s1]; decide +kernel) (by rw [s1]; decide +kernel) (by rw [s1]; decide +kernel) rfl ?_
    refine g_aload_n cx 0 d_1_11_36 rfl rfl ?_
    obtain ⟨la37, lr37, tr37, tn37, he37, hla37, hlr37, htr37, htn37, hlq37, hlaq37⟩ := TP.o (κ := 1) hT ha
    refine g_getf cx (k := 2) d_1_11_37 in0 rfl (by decide) t_98 (Or.inl rfl) ha.1 he37 rfl ?_
    obtain ⟨⟨ea40, mo40, hm40, hl40⟩, hb40⟩ := TP.n26 hT hlr37
    refine g_pcV cx (As := []) (n := 0) (pj_size (n := (K lr37).2.2)) d_1_11_40 t_235 t_236 t_237 t_8 t_238 ⟨by decide, by decide, by decide +kernel⟩ rfl (ci := 2) rfl hm40 hl40 ⟨ea40, mo40, hm40, hl40⟩ ⟨Nat.le_of_ble_eq_true rfl, Nat.le_of_ble_eq_true rfl⟩ (Nat.le_of_ble_eq_true rfl) (fun v40 r40 => ?_)
    subst r40
    exact g_iret cx d_1_11_43 rfl rfl ⟨rfl, _, rfl, _, rfl, Or.inr (Or.inl ⟨s1, by rw [show lr37 = lr from Eq.trans hlq37 hlrq]; exact congrArg nI hQ.1.1.2.1⟩)⟩
  by_cases s2 : v0 = 2
  · skip
    refine g_tableIn cx (off := 43) (tgt := 44) d_1_11_1 (by rw [s2]; decide +kernel) (by rw [s2]; decide +kernel) (by rw [s2]; decide +kernel) rfl ?_
    refine g_aload_n cx 0 d_1_11_44 rfl rfl ?_
    obtain ⟨la45, lr45, tr45, tn45, he45, hla45, hlr45, htr45, htn45, hlq45, hlaq45⟩ := TP.o (κ := 1) hT ha
    refine g_callV cx (As := []) (n := 0) (pt_realmsThereF (K := K) (B := B) (T := T) (lr := lr) (nr := nr) (rz := rz) (nq := nq) (cq := cq) (gq := gq) hB) d_1_11_45 t_503 t_505 ts_4 t_1 t_506 ⟨by decide, by decide, by decide +kernel⟩ rfl (ci := 0) rfl ha.1 he45 ⟨rfl, hT, ha, hlrq, hQ.1⟩ ⟨Nat.le_of_ble_eq_true rfl, Nat.le_of_ble_eq_true rfl⟩ (Nat.le_of_ble_eq_true rfl) ⟨Nat.zero_le _, Nat.zero_le _⟩ (fun v45 h r45 => ?_) (fun x45 h r45 => by obtain ⟨-, v9, e9, -⟩ := r45; cases e9)
    obtain ⟨rfl, wo45, e45, r45⟩ := r45
    cases e45
    subst r45
    exact g_iret cx d_1_11_48 rfl rfl ⟨rfl, _, rfl, _, rfl, Or.inr (Or.inr (Or.inl ⟨s2, rfl⟩))⟩
  refine g_tableOut cx (tgt := 49) d_1_11_1 (sw3 s0 s1 s2) rfl ?_
  refine g_iconst cx (v := (-1)) d_1_11_49 (by decide) ?_
  exact g_iret cx d_1_11_50 rfl rfl ⟨rfl, _, rfl, _, rfl, Or.inr (Or.inr (Or.inr ⟨s0, s1, s2, rfl⟩))⟩
set_option maxHeartbeats 8000000 in
theorem tc_addRealmF {a w n cd lr nr na : Nat} {rz nq cq gq az nz cz : Nat → Nat} (hB : B < 2 ^ 17) (htr : l.stackTraces = false) : TC l y_132 prog_1_method_27_code 2 (Option.some Jvm.ClassFile.FieldType.int) (rmT 10 5 42) D z0 k [.ref a, .ref w] K (B) (T) (fun h => Ty K h 1 a ∧ (K a).2.2 = lr ∧ Tc k K h w n cd ∧ BQ D k K h lr nr rz nq cq gq na az nz cz) (B) (T) (XD K) (fun o K' h' => RT S1 o K' h' ∧ AF D k lr nr rz nq cq gq na az nz cz n cd K' h') := by
  refine tc_of (by decide) (Nat.le_of_ble_eq_true rfl) ?_
  intro h hT hp p e s m args below meth c cx hnm
  have hE : Ev k (XD K) K h K h := Ev.rf
  have hB17 := hB
  replace hB : B < 2 ^ 20 := Nat.lt_trans hB (by decide)
  obtain ⟨ha, hlrq, hw, hQ⟩ := hp
  have hwt := hw.1
  refine g_aload_n cx 1 d_1_27_0 rfl rfl ?_
  obtain ⟨vw1, hsw1, hbw1, -⟩ := Tc.byt hT hw
  refine g_pcS cx (As := [.ref w]) (n := 1) (pc_isWordF (n := n) (cd := cd)) d_1_27_1 t_665 t_666 t_1 t_667 ⟨by decide, by decide, by decide +kernel⟩ rfl ⟨_, hsw1, hbw1⟩ ⟨Nat.le_of_ble_eq_true rfl, Nat.le_of_ble_eq_true rfl⟩ (Nat.le_of_ble_eq_true rfl) (fun v1 r1 => ?_)
  obtain ⟨x1, rfl, xb1⟩ := r1
  refine g_if_eq cx d_1_27_4 rfl (fun c4 => ?_) (fun c4 => ?_)
  · skip
    have hnw : ¬ WordOk n cd := by
      rcases xb1 with z | z
      · exact absurd c4 (by rw [z.1]; decide)
      · exact z.2
    have hnag : ¬ AG nr nq cq gq n cd := by
      first
        | exact fun q => hnw q.1
        | exact fun q => hyes.elim (fun j hj => q.2.1 j hj.1 hj.2)
    exact t_iae cx htr d_1_27_15 d_1_27_18 d_1_27_19 d_1_27_22  ⟨Nat.le_of_ble_eq_true rfl, Nat.le_of_ble_eq_true rfl⟩ (Nat.le_of_ble_eq_true rfl) ⟨Nat.le_of_ble_eq_true rfl, Nat.le_of_ble_eq_true rfl⟩ (fun x hx hz => thrF (S := S1) (Or.inl rfl) hT hE hx hz (fun K9 h9 ev9 => Or.inr ⟨hnag, hQ.ev ev9 (fun _ _ => id)⟩))
  · skip
    have hok : WordOk n cd := by
      rcases xb1 with z | z
      · exact z.2
      · exact absurd z.1 c4
    refine g_aload_n cx 0 d_1_27_7 rfl rfl ?_
    refine g_aload_n cx 1 d_1_27_8 rfl rfl ?_
    obtain ⟨la9, lr9, tr9, tn9, he9, hla9, hlr9, htr9, htn9, hlq9, hlaq9⟩ := TP.o (κ := 1) hT ha
    have hl9 : lr9 = lr := Eq.trans hlq9 hlrq
    refine g_callV cx (As := [.ref w]) (n := 1) (pt_realmWithF (K := K) (B := B) (T := T) (n := n) (cd := cd) (lr := lr) (nr := nr) (rz := rz) (nq := nq) (cq := cq) (gq := gq) hB) d_1_27_9 t_487 t_489 ts_3 t_1 t_490 ⟨by decide, by decide, by decide +kernel⟩ rfl (ci := 0) rfl ha.1 he9 ⟨rfl, hT, ha, hlrq, hw, hQ.1⟩ ⟨Nat.le_of_ble_eq_true rfl, Nat.le_of_ble_eq_true rfl⟩ (Nat.le_of_ble_eq_true rfl) ⟨Nat.zero_le _, Nat.zero_le _⟩ (fun v9 h r9 => ?_) (fun x9 h r9 => by obtain ⟨-, v9, e9, -⟩ := r9; cases e9)
    obtain ⟨rfl, wo9, e9, r9⟩ := r9
    cases e9
    rcases r9 with ⟨rfl, hno⟩ | ⟨y9, rfl, hyes⟩
    · skip
      refine g_ifnullN cx d_1_27_12 rfl ?_
      refine g_aload_n cx 0 d_1_27_23 rfl rfl ?_
      refine g_getf cx (k := 2) d_1_27_24 in0 rfl (by decide) t_98 (Or.inl rfl) ha.1 he9 rfl ?_
      obtain ⟨⟨ea27, mo27, hm27, hl27⟩, hb27⟩ := TP.n26 hT hlr9
      refine g_pcV cx (As := []) (n := 0) (pj_size (n := (K lr9).2.2)) d_1_27_27 t_235 t_236 t_237 t_8 t_238 ⟨by decide, by decide, by decide +kernel⟩ rfl (ci := 2) rfl hm27 hl27 ⟨ea27, mo27, hm27, hl27⟩ ⟨Nat.le_of_ble_eq_true rfl, Nat.le_of_ble_eq_true rfl⟩ (Nat.le_of_ble_eq_true rfl) (fun v27 r27 => ?_)
      subst r27
      refine g_bipush cx (v := 8) d_1_27_30 (by decide) ?_
      refine g_icmp_lt cx d_1_27_32 rfl (fun c32 => ?_) (fun c32 => ?_)
      · skip
        have hr8 : nr < 8 := by
          have h9 : (K lr9).2.2 = nr := by rw [hl9]; exact hQ.1.1.2.1
          rw [← h9]
          exact (nI_ltI (b := 8) (by omega) (by decide)).mp c32
        refine g_aload_n cx 0 d_1_27_43 rfl rfl ?_
        refine g_getf cx (k := 2) d_1_27_44 in0 rfl (by decide) t_98 (Or.inl rfl) ha.1 he9 rfl ?_
        have hnc : (K lr9).2.2 = nr := by rw [hl9]; exact hQ.1.1.2.1
        refine g_new cx (ci := 6) (fs := [.int 0, .null, .null, .null, .null, .null, .int 0, .int 0, .int 0]) d_1_27_47 in6 ty6_ok t_251 t_721 t_25 rfl (by decide) ⟨Nat.le_of_ble_eq_true rfl, Nat.le_of_ble_eq_true rfl⟩ (fun q47 hq47 hz47 => ?_)
        have hN47 := Ev.nin hE hq47
        have ne_47_lr9 : ¬ lr9 = q47 := fun z => hq47 (z ▸ hlr9.1)
        refine t_raw hT hq47 hz47 (fun K h hT ev hr47 hm47 he47 hol47 => ?_)
        have hfr : ∀ j, j < nr → rz j ≠ q47 := fun j hj z => hq47 (z ▸ (hQ.1.2.1 j hj).1.1)
        replace hQ := hQ.ev ev (fun _ _ => id)
        replace hnc := (congrArg (fun z => z.2.2) ((ev.1 lr9 hlr9.1).2.2 id).1).trans hnc
        have ha := Ev.ty ev ha
        have hwt := Ev.tx ev hwt
        have hw := Ev.tc ev hw
        have hlr9 := Ev.ty ev hlr9
        replace hE := hE.tr ev
        refine g_dup cx d_1_27_50 rfl ?_
        refine g_aload_n cx 0 d_1_27_51 rfl rfl ?_
        obtain ⟨la52, lr52, tr52, tn52, he52, hla52, hlr52, htr52, htn52, hlq52, hlaq52⟩ := TP.o (κ := 1) hT ha
        refine g_getf cx (k := 2) d_1_27_52 in0 rfl (by decide) t_98 (Or.inl rfl) ha.1 he52 rfl ?_
        obtain ⟨⟨ea55, mo55, hm55, hl55⟩, hb55⟩ := TP.n26 hT hlr52
        refine g_pcV cx (As := []) (n := 0) (pj_size (n := (K lr52).2.2)) d_1_27_55 t_235 t_236 t_237 t_8 t_238 ⟨by decide, by decide, by decide +kernel⟩ rfl (ci := 2) rfl hm55 hl55 ⟨ea55, mo55, hm55, hl55⟩ ⟨Nat.le_of_ble_eq_true rfl, Nat.le_of_ble_eq_true rfl⟩ (Nat.le_of_ble_eq_true rfl) (fun v55 r55 => ?_)
        subst r55
        refine g_aload_n cx 1 d_1_27_58 rfl rfl ?_
        refine g_callI cx (ret' := none) (As := [.int (nI (K lr52).2.2), .ref w]) (n := 2) (tc_realm (n := n)) d_1_27_59 t_722 t_723 t_25 t_724 rfl ⟨by decide, by decide, by decide +kernel⟩ rfl ⟨rfl, hT, ⟨⟨hr47, hm47, he47⟩, hwt⟩⟩ ⟨Nat.le_of_ble_eq_true rfl, Nat.le_of_ble_eq_true rfl⟩ (Nat.le_of_ble_eq_true rfl) ⟨Nat.le_of_ble_eq_true rfl, Nat.le_of_ble_eq_true rfl⟩ (fun v59 h r59 => ?_) (fun x59 h r59 => by obtain ⟨K9, -, -, e9⟩ := r59; cases e9.1)
        obtain ⟨K, hT, ev, rel59⟩ := r59
        obtain ⟨e59, hn59, hnw59, hnz59⟩ := rel59
        cases e59
        replace hQ := hQ.ev ev (fun z hz y => by have y2 : z = q47 := y; rw [y2, hr47] at hz; rcases hz with (hz | hz) | (hz | hz) <;> exact absurd hz (by decide))
        replace hnc := (congrArg (fun z => z.2.2) ((ev.1 lr9 hlr9.1).2.2 ne_47_lr9).1).trans hnc
        have ha := Ev.ty ev ha
        have hwt := Ev.tx ev hwt
        have hw := Ev.tc ev hw
        have hlr9 := Ev.ty ev hlr9
        replace hE := hE.trN hN47 ev
        obtain ⟨⟨ea62, mo62, hm62, hl62⟩, hb62⟩ := TP.n26 hT hlr9
        have hQ9 : BQ D k K h lr9 nr rz nq cq gq na az nz cz := by rw [hl9]; exact hQ
        refine g_callV cx (As := [.ref q47]) (n := 1) (tj_addF (B := B) (n := nr) (ce := 6) (g := 24) (es := rz) (by decide) (by rw [show bd (6 + 20) B = 8 from rfl]; omega) (by omega) (by rw [show bd (6 + 20) B = 8 from rfl]; omega)) d_1_27_62 t_571 t_572 t_573 t_8 t_574 ⟨by decide, by decide, by decide +kernel⟩ rfl (ci := 2) rfl hm62 hl62 ⟨rfl, hT, hlr9, hn59, hnc, hQ9.1.1.ls⟩ ⟨Nat.le_of_ble_eq_true rfl, Nat.le_of_ble_eq_true rfl⟩ (Nat.le_of_ble_eq_true rfl) ⟨Nat.le_of_ble_eq_true rfl, Nat.le_of_ble_eq_true rfl⟩ (fun v62 h r62 => ?_) (fun x62 h r62 => by obtain ⟨K9, -, -, e9, -⟩ := r62; cases e9)
        obtain ⟨K, hT, ev, e62, hnew62, hls62⟩ := r62
        cases e62
        have hQ2 := hQ9.addR hT ev hn59 hnw59 hnz59 hw hok hfr hnew62 hls62
        rw [hl9] at hQ2
        replace ev := xd_add (e := X0) (ce := 6) (by decide) hlr9 ev
        have ha := Ev.ty ev ha
        have hwt := Ev.tx ev hwt
        have hw := Ev.tc ev hw
        replace hE := Ev.trP hE ev
        refine g_pop cx d_1_27_65 rfl ?_
        refine g_iconst cx (v := 3) d_1_27_66 (by decide) ?_
        exact g_iret cx d_1_27_67 rfl rfl ⟨K, hT, hE, Or.inl ⟨_, rfl⟩, Or.inl ⟨⟨hok, hno, hr8⟩, q47, hQ2⟩⟩
      · skip
        have hnag : ¬ AG nr nq cq gq n cd := fun q => c32 (by
          have h9 : (K lr9).2.2 = nr := by rw [hl9]; exact hQ.1.1.2.1
          rw [h9]
          exact (nI_ltI (b := 8) (by have := q.2.2; omega) (by decide)).mpr q.2.2)
        exact t_ise cx htr d_1_27_35 d_1_27_38 d_1_27_39 d_1_27_42  ⟨Nat.le_of_ble_eq_true rfl, Nat.le_of_ble_eq_true rfl⟩ (Nat.le_of_ble_eq_true rfl) ⟨Nat.le_of_ble_eq_true rfl, Nat.le_of_ble_eq_true rfl⟩ (fun x hx hz => thrF (S := S1) (Or.inr rfl) hT hE hx hz (fun K9 h9 ev9 => Or.inr ⟨hnag, hQ.ev ev9 (fun _ _ => id)⟩))
    · skip
      refine g_ifnull cx d_1_27_12 ?_
      have hnag : ¬ AG nr nq cq gq n cd := by
        first
          | exact fun q => hnw q.1
          | exact fun q => hyes.elim (fun j hj => q.2.1 j hj.1 hj.2)
      exact t_iae cx htr d_1_27_15 d_1_27_18 d_1_27_19 d_1_27_22  ⟨Nat.le_of_ble_eq_true rfl, Nat.le_of_ble_eq_true rfl⟩ (Nat.le_of_ble_eq_true rfl) ⟨Nat.le_of_ble_eq_true rfl, Nat.le_of_ble_eq_true rfl⟩ (fun x hx hz => thrF (S := S1) (Or.inl rfl) hT hE hx hz (fun K9 h9 ev9 => Or.inr ⟨hnag, hQ.ev ev9 (fun _ _ => id)⟩))
set_option maxHeartbeats 8000000 in
theorem tc_addArchiveF {a w n cd lr nr na : Nat} {rz nq cq gq az nz cz : Nat → Nat} (hB : B < 2 ^ 17) (htr : l.stackTraces = false) : TC l y_124 prog_1_method_25_code 2 (Option.some Jvm.ClassFile.FieldType.int) (rmT 10 3 31) D z0 k [.ref a, .ref w] K (B) (T) (fun h => Ty K h 1 a ∧ (K a).2.2 = lr ∧ Tc k K h w n cd ∧ BQ D k K h lr nr rz nq cq gq na az nz cz) (B) (T) (XD K) (fun o K' h' => RT S1 o K' h' ∧ AFa D k lr nr rz nq cq gq na az nz cz n cd K' h') := by
  refine tc_of (by decide) (Nat.le_of_ble_eq_true rfl) ?_
  intro h hT hp p e s m args below meth c cx hnm
  have hE : Ev k (XD K) K h K h := Ev.rf
  have hB17 := hB
  replace hB : B < 2 ^ 20 := Nat.lt_trans hB (by decide)
  obtain ⟨ha, hlrq, hw, hQ⟩ := hp
  have hwt := hw.1
  refine g_aload_n cx 1 d_1_25_0 rfl rfl ?_
  obtain ⟨vw1, hsw1, hbw1, -⟩ := Tc.byt hT hw
  refine g_pcS cx (As := [.ref w]) (n := 1) (pc_isWordF (n := n) (cd := cd)) d_1_25_1 t_665 t_666 t_1 t_667 ⟨by decide, by decide, by decide +kernel⟩ rfl ⟨_, hsw1, hbw1⟩ ⟨Nat.le_of_ble_eq_true rfl, Nat.le_of_ble_eq_true rfl⟩ (Nat.le_of_ble_eq_true rfl) (fun v1 r1 => ?_)
  obtain ⟨x1, rfl, xb1⟩ := r1
  refine g_if_eq cx d_1_25_4 rfl (fun c4 => ?_) (fun c4 => ?_)
  · skip
    have hnw : ¬ WordOk n cd := by
      rcases xb1 with z | z
      · exact absurd c4 (by rw [z.1]; decide)
      · exact z.2
    have hnag : ¬ AGa na nz cz n cd := by
      first
        | exact fun q => hnw q.1
        | exact fun q => hyes.elim (fun j hj => q.2.1 j hj.1 hj.2)
    exact t_iae cx htr d_1_25_15 d_1_25_18 d_1_25_19 d_1_25_22  ⟨Nat.le_of_ble_eq_true rfl, Nat.le_of_ble_eq_true rfl⟩ (Nat.le_of_ble_eq_true rfl) ⟨Nat.le_of_ble_eq_true rfl, Nat.le_of_ble_eq_true rfl⟩ (fun x hx hz => thrF (S := S1) (Or.inl rfl) hT hE hx hz (fun K9 h9 ev9 => Or.inr ⟨hnag, hQ.ev ev9 (fun _ _ => id)⟩))
  · skip
    have hok : WordOk n cd := by
      rcases xb1 with z | z
      · exact z.2
      · exact absurd z.1 c4
    refine g_aload_n cx 0 d_1_25_7 rfl rfl ?_
    refine g_aload_n cx 1 d_1_25_8 rfl rfl ?_
    obtain ⟨la9, lr9, tr9, tn9, he9, hla9, hlr9, htr9, htn9, hlq9, hlaq9⟩ := TP.o (κ := 1) hT ha
    have hl9 : lr9 = lr := Eq.trans hlq9 hlrq
    have hla99 : (K lr).2.1 = la9 := by rw [← hl9]; exact hlaq9.symm
    refine g_callV cx (As := [.ref w]) (n := 1) (pt_archiveWithF (K := K) (B := B) (T := T) (n := n) (cd := cd) (lr := lr) (na := na) (az := az) (nz := nz) (cz := cz) hB) d_1_25_9 t_668 t_670 ts_12 t_1 t_671 ⟨by decide, by decide, by decide +kernel⟩ rfl (ci := 0) rfl ha.1 he9 ⟨rfl, hT, ha, hlrq, hw, hQ.2⟩ ⟨Nat.le_of_ble_eq_true rfl, Nat.le_of_ble_eq_true rfl⟩ (Nat.le_of_ble_eq_true rfl) ⟨Nat.zero_le _, Nat.zero_le _⟩ (fun v9 h r9 => ?_) (fun x9 h r9 => by obtain ⟨-, v9, e9, -⟩ := r9; cases e9)
    obtain ⟨rfl, wo9, e9, r9⟩ := r9
    cases e9
    rcases r9 with ⟨rfl, hno⟩ | ⟨y9, rfl, hyes⟩
    · skip
      refine g_ifnullN cx d_1_25_12 rfl ?_
      refine g_aload_n cx 0 d_1_25_23 rfl rfl ?_
      refine g_getf cx (k := 1) d_1_25_24 in0 rfl (by decide) t_97 (Or.inl rfl) ha.1 he9 rfl ?_
      obtain ⟨⟨ea27, mo27, hm27, hl27⟩, hb27⟩ := TP.n25 hT hla9
      refine g_pcV cx (As := []) (n := 0) (pj_size (n := (K la9).2.2)) d_1_25_27 t_235 t_236 t_237 t_8 t_238 ⟨by decide, by decide, by decide +kernel⟩ rfl (ci := 2) rfl hm27 hl27 ⟨ea27, mo27, hm27, hl27⟩ ⟨Nat.le_of_ble_eq_true rfl, Nat.le_of_ble_eq_true rfl⟩ (Nat.le_of_ble_eq_true rfl) (fun v27 r27 => ?_)
      subst r27
      refine g_bipush cx (v := 6) d_1_25_30 (by decide) ?_
      refine g_icmp_lt cx d_1_25_32 rfl (fun c32 => ?_) (fun c32 => ?_)
      · skip
        have hr8 : na < 6 := by
          have h9 : (K la9).2.2 = na := by rw [← hla99]; exact hQ.2.1.2.1
          rw [← h9]
          exact (nI_ltI (b := 6) (by omega) (by decide)).mp c32
        refine g_aload_n cx 0 d_1_25_43 rfl rfl ?_
        refine g_getf cx (k := 1) d_1_25_44 in0 rfl (by decide) t_97 (Or.inl rfl) ha.1 he9 rfl ?_
        have hnc : (K la9).2.2 = na := by rw [← hla99]; exact hQ.2.1.2.1
        refine g_new cx (ci := 5) (fs := [.int 0, .null, .null, .int 0]) d_1_25_47 in5 ty5_ok t_256 t_672 t_24 rfl (by decide) ⟨Nat.le_of_ble_eq_true rfl, Nat.le_of_ble_eq_true rfl⟩ (fun q47 hq47 hz47 => ?_)
        have hN47 := Ev.nin hE hq47
        have ne_47_la9 : ¬ la9 = q47 := fun z => hq47 (z ▸ hla9.1)
        refine t_raw hT hq47 hz47 (fun K h hT ev hr47 hm47 he47 hol47 => ?_)
        replace hla99 := Ev.ab (κ := 25) ev hQ.1.1.1 hla99
        replace hQ := hQ.ev ev (fun _ _ => id)
        replace hnc := (congrArg (fun z => z.2.2) ((ev.1 la9 hla9.1).2.2 id).1).trans hnc
        have ha := Ev.ty ev ha
        have hwt := Ev.tx ev hwt
        have hw := Ev.tc ev hw
        have hla9 := Ev.ty ev hla9
        replace hE := hE.tr ev
        refine g_dup cx d_1_25_50 rfl ?_
        refine g_aload_n cx 0 d_1_25_51 rfl rfl ?_
        obtain ⟨la52, lr52, tr52, tn52, he52, hla52, hlr52, htr52, htn52, hlq52, hlaq52⟩ := TP.o (κ := 1) hT ha
        refine g_getf cx (k := 1) d_1_25_52 in0 rfl (by decide) t_97 (Or.inl rfl) ha.1 he52 rfl ?_
        obtain ⟨⟨ea55, mo55, hm55, hl55⟩, hb55⟩ := TP.n25 hT hla52
        refine g_pcV cx (As := []) (n := 0) (pj_size (n := (K la52).2.2)) d_1_25_55 t_235 t_236 t_237 t_8 t_238 ⟨by decide, by decide, by decide +kernel⟩ rfl (ci := 2) rfl hm55 hl55 ⟨ea55, mo55, hm55, hl55⟩ ⟨Nat.le_of_ble_eq_true rfl, Nat.le_of_ble_eq_true rfl⟩ (Nat.le_of_ble_eq_true rfl) (fun v55 r55 => ?_)
        subst r55
        refine g_aload_n cx 1 d_1_25_58 rfl rfl ?_
        refine g_callI cx (ret' := none) (As := [.int (nI (K la52).2.2), .ref w]) (n := 2) (tc_archive (n := n)) d_1_25_59 t_673 t_674 t_24 t_675 rfl ⟨by decide, by decide, by decide +kernel⟩ rfl ⟨rfl, hT, ⟨⟨hr47, hm47, he47⟩, hwt⟩⟩ ⟨Nat.le_of_ble_eq_true rfl, Nat.le_of_ble_eq_true rfl⟩ (Nat.le_of_ble_eq_true rfl) ⟨Nat.le_of_ble_eq_true rfl, Nat.le_of_ble_eq_true rfl⟩ (fun v59 h r59 => ?_) (fun x59 h r59 => by obtain ⟨K9, -, -, e9⟩ := r59; cases e9.1)
        obtain ⟨K, hT, ev, rel59⟩ := r59
        obtain ⟨e59, hn59, hnw59, hnz59⟩ := rel59
        cases e59
        replace hla99 := Ev.ab (κ := 25) ev hQ.1.1.1 hla99
        replace hQ := hQ.ev ev (fun z hz y => by have y2 : z = q47 := y; rw [y2, hr47] at hz; rcases hz with (hz | hz) | (hz | hz) <;> exact absurd hz (by decide))
        replace hnc := (congrArg (fun z => z.2.2) ((ev.1 la9 hla9.1).2.2 ne_47_la9).1).trans hnc
        have ha := Ev.ty ev ha
        have hwt := Ev.tx ev hwt
        have hw := Ev.tc ev hw
        have hla9 := Ev.ty ev hla9
        replace hE := hE.trN hN47 ev
        obtain ⟨⟨ea62, mo62, hm62, hl62⟩, hb62⟩ := TP.n25 hT hla9
        have hA9 : AQz D k K h la9 na az nz cz := by rw [← hla99]; exact hQ.2
        refine g_callV cx (As := [.ref q47]) (n := 1) (tj_addF (B := B) (n := na) (ce := 5) (g := 24) (es := az) (by decide) (by rw [show bd (5 + 20) B = 6 from rfl]; omega) (by omega) (by rw [show bd (5 + 20) B = 6 from rfl]; omega)) d_1_25_62 t_571 t_572 t_573 t_8 t_574 ⟨by decide, by decide, by decide +kernel⟩ rfl (ci := 2) rfl hm62 hl62 ⟨rfl, hT, hla9, hn59, hnc, hA9.1.ls⟩ ⟨Nat.le_of_ble_eq_true rfl, Nat.le_of_ble_eq_true rfl⟩ (Nat.le_of_ble_eq_true rfl) ⟨Nat.le_of_ble_eq_true rfl, Nat.le_of_ble_eq_true rfl⟩ (fun v62 h r62 => ?_) (fun x62 h r62 => by obtain ⟨K9, -, -, e9, -⟩ := r62; cases e9)
        obtain ⟨K, hT, ev, e62, hnew62, hls62⟩ := r62
        cases e62
        have hQ2 := hQ.addA hla99 hT ev hn59 hnw59 hw hok hnew62 hls62
        replace ev := xd_add (e := X0) (ce := 5) (by decide) hla9 ev
        have ha := Ev.ty ev ha
        have hwt := Ev.tx ev hwt
        have hw := Ev.tc ev hw
        replace hE := Ev.trP hE ev
        refine g_pop cx d_1_25_65 rfl ?_
        refine g_iconst cx (v := 1) d_1_25_66 (by decide) ?_
        exact g_iret cx d_1_25_67 rfl rfl ⟨K, hT, hE, Or.inl ⟨_, rfl⟩, Or.inl ⟨⟨hok, hno, hr8⟩, q47, hQ2⟩⟩
      · skip
        have hnag : ¬ AGa na nz cz n cd := fun q => c32 (by
          have h9 : (K la9).2.2 = na := by rw [← hla99]; exact hQ.2.1.2.1
          rw [h9]
          exact (nI_ltI (b := 6) (by have := q.2.2; omega) (by decide)).mpr q.2.2)
        exact t_ise cx htr d_1_25_35 d_1_25_38 d_1_25_39 d_1_25_42  ⟨Nat.le_of_ble_eq_true rfl, Nat.le_of_ble_eq_true rfl⟩ (Nat.le_of_ble_eq_true rfl) ⟨Nat.le_of_ble_eq_true rfl, Nat.le_of_ble_eq_true rfl⟩ (fun x hx hz => thrF (S := S1) (Or.inr rfl) hT hE hx hz (fun K9 h9 ev9 => Or.inr ⟨hnag, hQ.ev ev9 (fun _ _ => id)⟩))
    · skip
      refine g_ifnull cx d_1_25_12 ?_
      have hnag : ¬ AGa na nz cz n cd := by
        first
          | exact fun q => hnw q.1
          | exact fun q => hyes.elim (fun j hj => q.2.1 j hj.1 hj.2)
      exact t_iae cx htr d_1_25_15 d_1_25_18 d_1_25_19 d_1_25_22  ⟨Nat.le_of_ble_eq_true rfl, Nat.le_of_ble_eq_true rfl⟩ (Nat.le_of_ble_eq_true rfl) ⟨Nat.le_of_ble_eq_true rfl, Nat.le_of_ble_eq_true rfl⟩ (fun x hx hz => thrF (S := S1) (Or.inl rfl) hT hE hx hz (fun K9 h9 ev9 => Or.inr ⟨hnag, hQ.ev ev9 (fun _ _ => id)⟩))
set_option maxHeartbeats 8000000 in
theorem tc_readPairF {a w n cd wb nb cb lr nr na : Nat} {rz nq cq gq az nz cz : Nat → Nat} (hB : B < 2 ^ 17) (htr : l.stackTraces = false) : TC l y_123 prog_1_method_23_code 3 (Option.some Jvm.ClassFile.FieldType.int) (rmT 11 64 1270) D z0 k [.ref a, .ref w, .ref wb] K (B) (T) (fun h => Ty K h 1 a ∧ (K a).2.2 = lr ∧ Tc k K h w n cd ∧ Tc k K h wb nb cb ∧ 1 ≤ n ∧ BQ D k K h lr nr rz nq cq gq na az nz cz) (B) (T) (XD K) (fun o K' h' => RT S1 o K' h' ∧ PF D k lr nr rz nq cq gq na az nz cz n cd nb cb K' h') := by
  refine tc_of (by decide) (Nat.le_of_ble_eq_true rfl) ?_
  intro h hT hp p e s m args below meth c cx hnm
  have hE : Ev k (XD K) K h K h := Ev.rf
  have hB17 := hB
  replace hB : B < 2 ^ 20 := Nat.lt_trans hB (by decide)
  obtain ⟨ha, hlrq, hw, hwb, hn1, hQ⟩ := hp
  have hwt := hw.1
  have hwbt := hwb.1
  refine g_aload_n cx 1 d_1_23_0 rfl rfl ?_
  refine g_ldcS cx d_1_23_1 cx.ee.2.2.2.2.2.2.2.2.2.1 ?_
  have hr3 : Tc k K h w (n) (cd) := hw
  have hm3 : w ∈ h.1 := Tc.mem hT hr3 hn1
  obtain ⟨va3, hsa3, hba3, -⟩ := Tc.byt hT hr3
  refine g_pcVS cx (As := [.ref (k 11)]) (n := 1) (pj_eqF (n := n) (n' := ln 1) (cd := cd) (ce := kc 1)) d_1_23_3 t_491 t_492 t_493 t_4 t_494 rfl (by decide +kernel) rfl hsa3 ⟨⟨hm3, hT.2.2.2.1⟩, ⟨_, hsa3, hba3⟩, ⟨k (30 + 1), Or.inr ⟨1, by decide, rfl, rfl, rfl⟩, Or.inr ⟨1, by decide, rfl, rfl, rfl⟩⟩⟩ ⟨Nat.le_of_ble_eq_true rfl, Nat.le_of_ble_eq_true rfl⟩ (Nat.le_of_ble_eq_true rfl) (fun v3 r3 => ?_)
  obtain ⟨x3, rfl, xb3⟩ := r3
  refine g_if_eq cx d_1_23_6 rfl (fun c6 => ?_) (fun c6 => ?_)
  · skip
    have hnam : ¬ AM n cd := by
      rcases xb3 with z | z
      · exact absurd c6 (by rw [z.1]; decide)
      · exact z.2
    refine g_aload_n cx 1 d_1_23_15 rfl rfl ?_
    refine g_ldcS cx d_1_23_16 cx.ee.2.2.2.2.2.2.2.2.2.2.1 ?_
    have hr18 : Tc k K h w (n) (cd) := hw
    have hm18 : w ∈ h.1 := Tc.mem hT hr18 hn1
    obtain ⟨va18, hsa18, hba18, -⟩ := Tc.byt hT hr18
    refine g_pcVS cx (As := [.ref (k 12)]) (n := 1) (pj_eqF (n := n) (n' := ln 2) (cd := cd) (ce := kc 2)) d_1_23_18 t_491 t_492 t_493 t_4 t_494 rfl (by decide +kernel) rfl hsa18 ⟨⟨hm18, hT.2.2.2.1⟩, ⟨_, hsa18, hba18⟩, ⟨k (30 + 2), Or.inr ⟨2, by decide, rfl, rfl, rfl⟩, Or.inr ⟨2, by decide, rfl, rfl, rfl⟩⟩⟩ ⟨Nat.le_of_ble_eq_true rfl, Nat.le_of_ble_eq_true rfl⟩ (Nat.le_of_ble_eq_true rfl) (fun v18 r18 => ?_)
    obtain ⟨x18, rfl, xb18⟩ := r18
    refine g_if_eq cx d_1_23_21 rfl (fun c21 => ?_) (fun c21 => ?_)
    · skip
      refine g_aload_n cx 1 d_1_23_30 rfl rfl ?_
      refine g_ldcS cx d_1_23_31 cx.ee.2.2.2.2.2.2.2.2.2.2.2.1 ?_
      have hr33 : Tc k K h w (n) (cd) := hw
      have hm33 : w ∈ h.1 := Tc.mem hT hr33 hn1
      obtain ⟨va33, hsa33, hba33, -⟩ := Tc.byt hT hr33
      refine g_pcVS cx (As := [.ref (k 13)]) (n := 1) (pj_eqF (n := n) (n' := ln 3) (cd := cd) (ce := kc 3)) d_1_23_33 t_491 t_492 t_493 t_4 t_494 rfl (by decide +kernel) rfl hsa33 ⟨⟨hm33, hT.2.2.2.1⟩, ⟨_, hsa33, hba33⟩, ⟨k (30 + 3), Or.inr ⟨3, by decide, rfl, rfl, rfl⟩, Or.inr ⟨3, by decide, rfl, rfl, rfl⟩⟩⟩ ⟨Nat.le_of_ble_eq_true rfl, Nat.le_of_ble_eq_true rfl⟩ (Nat.le_of_ble_eq_true rfl) (fun v33 r33 => ?_)
      obtain ⟨x33, rfl, xb33⟩ := r33
      refine g_if_eq cx d_1_23_36 rfl (fun c36 => ?_) (fun c36 => ?_)
      · skip
        have hnrm : ¬ RM n cd := by
          rcases xb33 with z | z
          · exact absurd c36 (by rw [z.1]; decide)
          · exact z.2
        refine g_aload_n cx 1 d_1_23_45 rfl rfl ?_
        refine g_ldcS cx d_1_23_46 cx.ee.2.2.2.2.2.2.2.2.2.2.2.2.1 ?_
        have hr48 : Tc k K h w (n) (cd) := hw
        have hm48 : w ∈ h.1 := Tc.mem hT hr48 hn1
        obtain ⟨va48, hsa48, hba48, -⟩ := Tc.byt hT hr48
        refine g_pcVS cx (As := [.ref (k 14)]) (n := 1) (pj_eqF (n := n) (n' := ln 4) (cd := cd) (ce := kc 4)) d_1_23_48 t_491 t_492 t_493 t_4 t_494 rfl (by decide +kernel) rfl hsa48 ⟨⟨hm48, hT.2.2.2.1⟩, ⟨_, hsa48, hba48⟩, ⟨k (30 + 4), Or.inr ⟨4, by decide, rfl, rfl, rfl⟩, Or.inr ⟨4, by decide, rfl, rfl, rfl⟩⟩⟩ ⟨Nat.le_of_ble_eq_true rfl, Nat.le_of_ble_eq_true rfl⟩ (Nat.le_of_ble_eq_true rfl) (fun v48 r48 => ?_)
        obtain ⟨x48, rfl, xb48⟩ := r48
        refine g_if_eq cx d_1_23_51 rfl (fun c51 => ?_) (fun c51 => ?_)
        · skip
          refine g_aload_n cx 1 d_1_23_60 rfl rfl ?_
          refine g_ldcS cx d_1_23_61 cx.ee.2.2.2.2.2.2.2.2.2.2.2.2.2.1 ?_
          have hr63 : Tc k K h w (n) (cd) := hw
          have hm63 : w ∈ h.1 := Tc.mem hT hr63 hn1
          obtain ⟨va63, hsa63, hba63, -⟩ := Tc.byt hT hr63
          refine g_pcVS cx (As := [.ref (k 15)]) (n := 1) (pj_eqF (n := n) (n' := ln 5) (cd := cd) (ce := kc 5)) d_1_23_63 t_491 t_492 t_493 t_4 t_494 rfl (by decide +kernel) rfl hsa63 ⟨⟨hm63, hT.2.2.2.1⟩, ⟨_, hsa63, hba63⟩, ⟨k (30 + 5), Or.inr ⟨5, by decide, rfl, rfl, rfl⟩, Or.inr ⟨5, by decide, rfl, rfl, rfl⟩⟩⟩ ⟨Nat.le_of_ble_eq_true rfl, Nat.le_of_ble_eq_true rfl⟩ (Nat.le_of_ble_eq_true rfl) (fun v63 r63 => ?_)
          obtain ⟨x63, rfl, xb63⟩ := r63
          refine g_if_eq cx d_1_23_66 rfl (fun c66 => ?_) (fun c66 => ?_)
          · skip
            exact t_iae cx htr d_1_23_75 d_1_23_78 d_1_23_79 d_1_23_82  ⟨Nat.le_of_ble_eq_true rfl, Nat.le_of_ble_eq_true rfl⟩ (Nat.le_of_ble_eq_true rfl) ⟨Nat.le_of_ble_eq_true rfl, Nat.le_of_ble_eq_true rfl⟩ (fun x hx hz => thrF (S := S1) (Or.inl rfl) hT hE hx hz (fun K9 h9 ev9 => Or.inr (Or.inr ⟨hnrm, hnam, hQ.ev ev9 (fun _ _ => id)⟩)))
          · skip
            have hce : CE n (ln 5) cd (kc 5) := by
              rcases xb63 with z | z
              · exact z.2
              · exact absurd z.1 c66
            refine g_aload_n cx 0 d_1_23_69 rfl rfl ?_
            refine g_aload_n cx 2 d_1_23_70 rfl rfl ?_
            obtain ⟨la71, lr71, tr71, tn71, he71, hla71, hlr71, htr71, htn71, hlq71, hlaq71⟩ := TP.o (κ := 1) hT ha
            refine g_callV cx (As := [.ref wb]) (n := 1) (tc_setParent (n := nb) hB17 htr) d_1_23_71 t_777 t_779 ts_17 t_1 t_780 ⟨by decide, by decide, by decide +kernel⟩ rfl (ci := 0) rfl ha.1 he71 ⟨rfl, hT, ha, hwbt⟩ ⟨Nat.le_of_ble_eq_true rfl, Nat.le_of_ble_eq_true rfl⟩ (Nat.le_of_ble_eq_true rfl) ⟨Nat.le_of_ble_eq_true rfl, Nat.le_of_ble_eq_true rfl⟩ (fun v71 h r71 => ?_) (fun x71 h r71 => tqF hE r71 (fun K9 h9 ev9 => Or.inr (Or.inr ⟨hnrm, hnam, hQ.ev ev9 xnB⟩)))
            obtain ⟨x71, ex71⟩ := tq_int r71
            subst ex71
            exact g_iret cx d_1_23_74 rfl rfl (tqF hE r71 (fun K9 h9 ev9 => Or.inr (Or.inr ⟨hnrm, hnam, hQ.ev ev9 xnB⟩)))
        · skip
          have hce : CE n (ln 4) cd (kc 4) := by
            rcases xb48 with z | z
            · exact z.2
            · exact absurd z.1 c51
          refine g_aload_n cx 0 d_1_23_54 rfl rfl ?_
          refine g_aload_n cx 2 d_1_23_55 rfl rfl ?_
          obtain ⟨la56, lr56, tr56, tn56, he56, hla56, hlr56, htr56, htn56, hlq56, hlaq56⟩ := TP.o (κ := 1) hT ha
          refine g_callV cx (As := [.ref wb]) (n := 1) (tc_addLoaded (n := nb) hB17 htr) d_1_23_56 t_766 t_768 ts_16 t_1 t_769 ⟨by decide, by decide, by decide +kernel⟩ rfl (ci := 0) rfl ha.1 he56 ⟨rfl, hT, ha, hwbt⟩ ⟨Nat.le_of_ble_eq_true rfl, Nat.le_of_ble_eq_true rfl⟩ (Nat.le_of_ble_eq_true rfl) ⟨Nat.le_of_ble_eq_true rfl, Nat.le_of_ble_eq_true rfl⟩ (fun v56 h r56 => ?_) (fun x56 h r56 => tqF hE r56 (fun K9 h9 ev9 => Or.inr (Or.inr ⟨hnrm, hnam, hQ.ev ev9 xnB⟩)))
          obtain ⟨x56, ex56⟩ := tq_int r56
          subst ex56
          exact g_iret cx d_1_23_59 rfl rfl (tqF hE r56 (fun K9 h9 ev9 => Or.inr (Or.inr ⟨hnrm, hnam, hQ.ev ev9 xnB⟩)))
      · skip
        have hrm : RM n cd := by
          rcases xb33 with z | z
          · exact z.2
          · exact absurd z.1 c36
        refine g_aload_n cx 0 d_1_23_39 rfl rfl ?_
        refine g_aload_n cx 2 d_1_23_40 rfl rfl ?_
        obtain ⟨la41, lr41, tr41, tn41, he41, hla41, hlr41, htr41, htn41, hlq41, hlaq41⟩ := TP.o (κ := 1) hT ha
        refine g_callV cx (As := [.ref wb]) (n := 1) (tc_addRealmF (n := nb) (cd := cb) (lr := lr) (nr := nr) (rz := rz) (nq := nq) (cq := cq) (gq := gq) (na := na) (az := az) (nz := nz) (cz := cz) hB17 htr) d_1_23_41 t_717 t_719 ts_15 t_1 t_720 ⟨by decide, by decide, by decide +kernel⟩ rfl (ci := 0) rfl ha.1 he41 ⟨rfl, hT, ha, hlrq, hwb, hQ⟩ ⟨Nat.le_of_ble_eq_true rfl, Nat.le_of_ble_eq_true rfl⟩ (Nat.le_of_ble_eq_true rfl) ⟨Nat.le_of_ble_eq_true rfl, Nat.le_of_ble_eq_true rfl⟩ (fun v41 h r41 => ?_) (fun x41 h r41 => tqM hE r41 (fun K9 h9 q9 => Or.inl ⟨hrm, q9⟩))
        obtain ⟨x41, ex41⟩ := tq_intF r41
        subst ex41
        exact g_iret cx d_1_23_44 rfl rfl (tqM hE r41 (fun K9 h9 q9 => Or.inl ⟨hrm, q9⟩))
    · skip
      have hce : CE n (ln 2) cd (kc 2) := by
        rcases xb18 with z | z
        · exact z.2
        · exact absurd z.1 c21
      have hnrm : ¬ RM n cd := fun q => absurd (q.1.symm.trans hce.1) (by decide)
      refine g_aload_n cx 0 d_1_23_24 rfl rfl ?_
      refine g_aload_n cx 2 d_1_23_25 rfl rfl ?_
      obtain ⟨la26, lr26, tr26, tn26, he26, hla26, hlr26, htr26, htn26, hlq26, hlaq26⟩ := TP.o (κ := 1) hT ha
      refine g_callV cx (As := [.ref wb]) (n := 1) (tc_addName (n := nb) hB17 htr) d_1_23_26 t_697 t_699 ts_13 t_1 t_700 ⟨by decide, by decide, by decide +kernel⟩ rfl (ci := 0) rfl ha.1 he26 ⟨rfl, hT, ha, hwbt⟩ ⟨Nat.le_of_ble_eq_true rfl, Nat.le_of_ble_eq_true rfl⟩ (Nat.le_of_ble_eq_true rfl) ⟨Nat.le_of_ble_eq_true rfl, Nat.le_of_ble_eq_true rfl⟩ (fun v26 h r26 => ?_) (fun x26 h r26 => tqF hE r26 (fun K9 h9 ev9 => Or.inr (Or.inr ⟨hnrm, hnam, hQ.ev ev9 xnB⟩)))
      obtain ⟨x26, ex26⟩ := tq_int r26
      subst ex26
      exact g_iret cx d_1_23_29 rfl rfl (tqF hE r26 (fun K9 h9 ev9 => Or.inr (Or.inr ⟨hnrm, hnam, hQ.ev ev9 xnB⟩)))
  · skip
    have ham : AM n cd := by
      rcases xb3 with z | z
      · exact z.2
      · exact absurd z.1 c6
    refine g_aload_n cx 0 d_1_23_9 rfl rfl ?_
    refine g_aload_n cx 2 d_1_23_10 rfl rfl ?_
    obtain ⟨la11, lr11, tr11, tn11, he11, hla11, hlr11, htr11, htn11, hlq11, hlaq11⟩ := TP.o (κ := 1) hT ha
    refine g_callV cx (As := [.ref wb]) (n := 1) (tc_addArchiveF (n := nb) (cd := cb) (lr := lr) (nr := nr) (rz := rz) (nq := nq) (cq := cq) (gq := gq) (na := na) (az := az) (nz := nz) (cz := cz) hB17 htr) d_1_23_11 t_661 t_663 ts_11 t_1 t_664 ⟨by decide, by decide, by decide +kernel⟩ rfl (ci := 0) rfl ha.1 he11 ⟨rfl, hT, ha, hlrq, hwb, hQ⟩ ⟨Nat.le_of_ble_eq_true rfl, Nat.le_of_ble_eq_true rfl⟩ (Nat.le_of_ble_eq_true rfl) ⟨Nat.le_of_ble_eq_true rfl, Nat.le_of_ble_eq_true rfl⟩ (fun v11 h r11 => ?_) (fun x11 h r11 => tqM hE r11 (fun K9 h9 q9 => Or.inr (Or.inl ⟨ham, q9⟩)))
    obtain ⟨x11, ex11⟩ := tq_intF r11
    subst ex11
    exact g_iret cx d_1_23_14 rfl rfl (tqM hE r11 (fun K9 h9 q9 => Or.inr (Or.inl ⟨ham, q9⟩)))
set_option maxHeartbeats 8000000 in
theorem tc_lineF {S : Nat → Prop} {a ab v c0 cap cd lr nr na : Nat} {rz nq cq gq az nz cz : Nat → Nat} (hB : B < 2 ^ 17) (htr : l.stackTraces = false) : TC l y_100 prog_1_method_3_code 2 (Option.some Jvm.ClassFile.FieldType.int) (rmT 13 132 3130) D z0 k [.ref a] K (B) (T) (fun h => Ty K h 1 a ∧ (K a).2.1 = ab ∧ BK D K h S ab v c0 cap cd ∧ (K a).2.2 = lr ∧ BQ D k K h lr nr rz nq cq gq na az nz cz) (B) (T) (XP (fun z => z = ab) PK K) (fun o K' h' => RL D S S1 ab o K' h' ∧ LF D k lr nr rz nq cq gq na az nz cz c0 cd K' h') := by
  refine tc_of (by decide) (Nat.le_of_ble_eq_true rfl) ?_
  intro h hT hp p e s m args below meth c cx hnm
  have hE : Ev k (XP (fun z => z = ab) PK K) K h K h := Ev.rf
  have hB17 := hB
  replace hB : B < 2 ^ 20 := Nat.lt_trans hB (by decide)
  obtain ⟨ha, hab0, hbk, hlrq, hQ⟩ := hp
  refine g_aload_n cx 0 d_1_3_0 rfl rfl ?_
  have hab9 := hbk.2.1
  obtain ⟨la9, lr9, tr9, tn9, hed, -⟩ := TP.desk hT ha hab0
  refine g_callV cx (As := []) (n := 0) (tc_takeWritten (S := S) (ab := ab) (c0 := c0) (v := v) (cap := cap)) d_1_3_1 t_265 t_267 ts_1 t_1 t_268 ⟨by decide, by decide, by decide +kernel⟩ rfl (ci := 0) rfl ha.1 hed ⟨rfl, hT, ha, hab0, hbk⟩ ⟨Nat.le_of_ble_eq_true rfl, Nat.le_of_ble_eq_true rfl⟩ (Nat.le_of_ble_eq_true rfl) ⟨Nat.le_of_ble_eq_true rfl, Nat.le_of_ble_eq_true rfl⟩ (fun v1 h r1 => ?_) (fun x1 h r1 => by obtain ⟨K9, -, -, r9, v9, c9, e9, -⟩ := r1; cases e9)
  obtain ⟨K, hT, ev, rel1⟩ := r1
  obtain ⟨z1, v2, cap2, e1, hx1, hbk⟩ := rel1
  cases e1
  have hxt1 := hx1.1
  replace hQ := hQ.ev ev (x1B hab9)
  replace hlrq := (Ev.fix (κ := 0) ev ha (by unfold Gk; omega)).trans hlrq
  replace hab0 := Ev.ab ev ha hab0
  replace ha := Ev.ty ev ha
  replace hE := xab (P := PK) ev
  refine g_callS cx (As := [.ref z1]) (n := 1) (tc_splitF (n := c0) (cd := cd)) d_1_3_4 t_516 t_517 t_1 t_518 ⟨by decide, by decide, by decide +kernel⟩ rfl ⟨rfl, hT, hx1⟩ ⟨Nat.le_of_ble_eq_true rfl, Nat.le_of_ble_eq_true rfl⟩ (Nat.le_of_ble_eq_true rfl) ⟨Nat.le_of_ble_eq_true rfl, Nat.le_of_ble_eq_true rfl⟩ (fun v4 h r4 => ?_) (fun x4 h r4 => by obtain ⟨K9, -, -, r9, p9, b9, n9, s9, e9, -⟩ := r4; cases e9)
  obtain ⟨K, hT, ev, rel4⟩ := r4
  replace hQ := hQ.ev ev xnB
  replace ev := xnd ev
  obtain ⟨z4, pn, bg, en, es, e4, hL4, hSP, hPT⟩ := rel4
  cases e4
  have hz4 := hL4.1
  have hpn := hL4.2.1
  replace hbk := hbk.mvD ev
  replace hlrq := (Ev.fix (κ := 0) ev ha (by unfold Gk; omega)).trans hlrq
  replace hab0 := Ev.ab ev ha hab0
  replace ha := Ev.ty ev ha
  replace hE := Ev.trP hE (xw ev)
  refine g_astore_n cx (lv' := [(1, .ref z4), (0, .ref a)]) d_1_3_7 rfl (by decide) rfl ?_
  refine g_aload_n cx 0 d_1_3_8 rfl rfl ?_
  obtain ⟨⟨ea9, mo9, hm9, hl9⟩, hb9⟩ := TP.n24 hT hz4
  refine g_pcV cx (As := []) (n := 0) (pj_size (n := (K z4).2.2)) d_1_3_9 t_235 t_236 t_237 t_8 t_238 ⟨by decide, by decide, by decide +kernel⟩ rfl (ci := 2) rfl hm9 hl9 ⟨ea9, mo9, hm9, hl9⟩ ⟨Nat.le_of_ble_eq_true rfl, Nat.le_of_ble_eq_true rfl⟩ (Nat.le_of_ble_eq_true rfl) (fun v9 r9 => ?_)
  subst r9
  by_cases s0 : (K z4).2.2 = 0
  · skip
    refine g_tableIn cx (off := 36) (tgt := 48) d_1_3_12 (by rw [s0]; decide +kernel) (by rw [s0]; decide +kernel) (by rw [s0]; decide +kernel) rfl ?_
    refine g_iconst cx (v := 0) d_1_3_48 (by decide) ?_
    exact g_iret cx d_1_3_49 rfl rfl (lineOutF hE hbk ⟨K, hT, Ev.rf, Or.inl ⟨_, rfl⟩, ⟨pn, bg, en, hSP, Or.inr ⟨fun z => by omega, hQ⟩⟩⟩)
  by_cases s1 : (K z4).2.2 = 1
  · skip
    refine g_tableIn cx (off := 38) (tgt := 50) d_1_3_12 (by rw [s1]; decide +kernel) (by rw [s1]; decide +kernel) (by rw [s1]; decide +kernel) rfl ?_
    refine g_aload_n cx 1 d_1_3_50 rfl rfl ?_
    refine g_aload_n cx 0 d_1_3_51 rfl rfl ?_
    refine g_iconst cx (v := 0) d_1_3_52 (by decide) ?_
    refine g_callV cx (As := [.int 0]) (n := 1) (gj_get (K := K) (B := B) (T := T) (ce := 4) (j := 0) (by decide) hB) d_1_3_53 t_239 t_240 t_241 t_8 t_242 ⟨by decide, by decide, by decide +kernel⟩ rfl (ci := 2) rfl hm9 hl9 ⟨rfl, hT, hz4, (by omega)⟩ ⟨Nat.le_of_ble_eq_true rfl, Nat.le_of_ble_eq_true rfl⟩ (Nat.le_of_ble_eq_true rfl) ⟨Nat.zero_le _, Nat.zero_le _⟩ (fun v53 h r53 => ?_) (fun x53 h r53 => by obtain ⟨-, y9, e9, -⟩ := r53; cases e9)
    obtain ⟨rfl, y53, e53, hy53⟩ := r53
    cases e53
    replace hy53 : Ty K h 4 y53 := hy53
    obtain ⟨w56, he56, hw56, hwq56⟩ := TP.o (κ := 4) hT hy53
    obtain ⟨nw56, hw56⟩ : ∃ n, Tw k K h w56 n := ⟨_, Tx.tx hw56⟩
    refine g_ccast cx (ci := 4) d_1_3_56 t_535 rfl hy53.1 he56 ?_
    refine g_getf cx (k := 0) d_1_3_59 in4 rfl (by decide) t_567 (Or.inl rfl) hy53.1 he56 rfl ?_
    obtain ⟨la62, lr62, tr62, tn62, he62, hla62, hlr62, htr62, htn62, hlq62, hlaq62⟩ := TP.desk hT ha hab0
    refine g_callV cx (As := [.ref w56]) (n := 1) (tc_setOrder (n := nw56) hB17 htr) d_1_3_62 t_616 t_618 ts_8 t_1 t_619 ⟨by decide, by decide, by decide +kernel⟩ rfl (ci := 0) rfl ha.1 he62 ⟨rfl, hT, ha, hw56⟩ ⟨Nat.le_of_ble_eq_true rfl, Nat.le_of_ble_eq_true rfl⟩ (Nat.le_of_ble_eq_true rfl) ⟨Nat.le_of_ble_eq_true rfl, Nat.le_of_ble_eq_true rfl⟩ (fun v62 h r62 => ?_) (fun x62 h r62 => lineOutF hE hbk (tqF Ev.rf r62 (fun K9 h9 ev9 => ⟨pn, bg, en, hSP, Or.inr ⟨fun z => by omega, hQ.ev ev9 xnB⟩⟩)))
    obtain ⟨x62, ex62⟩ := tq_int r62
    subst ex62
    exact g_iret cx d_1_3_65 rfl rfl (lineOutF hE hbk (tqF Ev.rf r62 (fun K9 h9 ev9 => ⟨pn, bg, en, hSP, Or.inr ⟨fun z => by omega, hQ.ev ev9 xnB⟩⟩)))
  by_cases s2 : (K z4).2.2 = 2
  · skip
    refine g_tableIn cx (off := 54) (tgt := 66) d_1_3_12 (by rw [s2]; decide +kernel) (by rw [s2]; decide +kernel) (by rw [s2]; decide +kernel) rfl ?_
    have hp2 : pn = 2 := by omega
    refine g_aload_n cx 1 d_1_3_66 rfl rfl ?_
    refine g_aload_n cx 0 d_1_3_67 rfl rfl ?_
    refine g_iconst cx (v := 0) d_1_3_68 (by decide) ?_
    refine g_callV cx (As := [.int 0]) (n := 1) (gj_getF (K := K) (B := B) (T := T) (ce := 4) (j := 0) (mm := pn) (es := es) (by decide) hB) d_1_3_69 t_239 t_240 t_241 t_8 t_242 ⟨by decide, by decide, by decide +kernel⟩ rfl (ci := 2) rfl hm9 hl9 ⟨rfl, hT, hz4, (by omega), hL4.ls, (by omega)⟩ ⟨Nat.le_of_ble_eq_true rfl, Nat.le_of_ble_eq_true rfl⟩ (Nat.le_of_ble_eq_true rfl) ⟨Nat.zero_le _, Nat.zero_le _⟩ (fun v69 h r69 => ?_) (fun x69 h r69 => by obtain ⟨-, e9, -⟩ := r69; cases e9)
    obtain ⟨rfl, e69, hy69⟩ := r69
    obtain ⟨y69, hq69⟩ : ∃ y, y = es 0 := ⟨_, rfl⟩
    rw [← hq69] at e69 hy69
    cases e69
    replace hy69 : Ty K h 4 y69 := hy69
    obtain ⟨w72, he72, hw72, hwq72⟩ := TP.o (κ := 4) hT hy69
    obtain ⟨nw72, hw72⟩ : ∃ n, Tw k K h w72 n := ⟨_, Tx.tx hw72⟩
    refine g_ccast cx (ci := 4) d_1_3_72 t_535 rfl hy69.1 he72 ?_
    refine g_getf cx (k := 0) d_1_3_75 in4 rfl (by decide) t_567 (Or.inl rfl) hy69.1 he72 rfl ?_
    have hc72 : Tc k K h w72 (en 0 - bg 0) (sub cd (bg 0) (en 0 - bg 0)) := by
      rw [show w72 = (K y69).2.1 from hwq72, hq69]
      exact (hPT 0 (by omega)).2
    refine g_aload_n cx 0 d_1_3_78 rfl rfl ?_
    refine g_iconst cx (v := 1) d_1_3_79 (by decide) ?_
    refine g_callV cx (As := [.int 1]) (n := 1) (gj_getF (K := K) (B := B) (T := T) (ce := 4) (j := 1) (mm := pn) (es := es) (by decide) hB) d_1_3_80 t_239 t_240 t_241 t_8 t_242 ⟨by decide, by decide, by decide +kernel⟩ rfl (ci := 2) rfl hm9 hl9 ⟨rfl, hT, hz4, (by omega), hL4.ls, (by omega)⟩ ⟨Nat.le_of_ble_eq_true rfl, Nat.le_of_ble_eq_true rfl⟩ (Nat.le_of_ble_eq_true rfl) ⟨Nat.zero_le _, Nat.zero_le _⟩ (fun v80 h r80 => ?_) (fun x80 h r80 => by obtain ⟨-, e9, -⟩ := r80; cases e9)
    obtain ⟨rfl, e80, hy80⟩ := r80
    obtain ⟨y80, hq80⟩ : ∃ y, y = es 1 := ⟨_, rfl⟩
    rw [← hq80] at e80 hy80
    cases e80
    replace hy80 : Ty K h 4 y80 := hy80
    obtain ⟨w83, he83, hw83, hwq83⟩ := TP.o (κ := 4) hT hy80
    obtain ⟨nw83, hw83⟩ : ∃ n, Tw k K h w83 n := ⟨_, Tx.tx hw83⟩
    refine g_ccast cx (ci := 4) d_1_3_83 t_535 rfl hy80.1 he83 ?_
    refine g_getf cx (k := 0) d_1_3_86 in4 rfl (by decide) t_567 (Or.inl rfl) hy80.1 he83 rfl ?_
    have hc83 : Tc k K h w83 (en 1 - bg 1) (sub cd (bg 1) (en 1 - bg 1)) := by
      rw [show w83 = (K y80).2.1 from hwq83, hq80]
      exact (hPT 1 (by omega)).2
    obtain ⟨la89, lr89, tr89, tn89, he89, hla89, hlr89, htr89, htn89, hlq89, hlaq89⟩ := TP.desk hT ha hab0
    refine g_callV cx (As := [.ref w72, .ref w83]) (n := 2) (tc_readPairF (n := en 0 - bg 0) (cd := sub cd (bg 0) (en 0 - bg 0)) (nb := en 1 - bg 1) (cb := sub cd (bg 1) (en 1 - bg 1)) (lr := lr) (nr := nr) (rz := rz) (nq := nq) (cq := cq) (gq := gq) (na := na) (az := az) (nz := nz) (cz := cz) hB17 htr) d_1_3_89 t_656 t_658 ts_10 t_1 t_659 ⟨by decide, by decide, by decide +kernel⟩ rfl (ci := 0) rfl ha.1 he89 ⟨rfl, hT, ha, hlrq, hc72, hc83, (by have := (hSP.1 0 (by omega)).1; omega), hQ⟩ ⟨Nat.le_of_ble_eq_true rfl, Nat.le_of_ble_eq_true rfl⟩ (Nat.le_of_ble_eq_true rfl) ⟨Nat.le_of_ble_eq_true rfl, Nat.le_of_ble_eq_true rfl⟩ (fun v89 h r89 => ?_) (fun x89 h r89 => lineOutF hE hbk (tqM Ev.rf r89 (fun K9 h9 q9 => ⟨pn, bg, en, hSP, Or.inl ⟨hp2, q9⟩⟩)))
    obtain ⟨x89, ex89⟩ := tq_intF r89
    subst ex89
    exact g_iret cx d_1_3_92 rfl rfl (lineOutF hE hbk (tqM Ev.rf r89 (fun K9 h9 q9 => ⟨pn, bg, en, hSP, Or.inl ⟨hp2, q9⟩⟩)))
  by_cases s3 : (K z4).2.2 = 3
  · skip
    refine g_tableIn cx (off := 87) (tgt := 99) d_1_3_12 (by rw [s3]; decide +kernel) (by rw [s3]; decide +kernel) (by rw [s3]; decide +kernel) rfl ?_
    exact t_iae cx htr d_1_3_99 d_1_3_102 d_1_3_103 d_1_3_106  ⟨Nat.le_of_ble_eq_true rfl, Nat.le_of_ble_eq_true rfl⟩ (Nat.le_of_ble_eq_true rfl) ⟨Nat.le_of_ble_eq_true rfl, Nat.le_of_ble_eq_true rfl⟩ (fun x hx hz => lineOutF hE hbk (thrF (S := S1) (Or.inl rfl) hT (Ev.rf (X := XD K)) hx hz (fun K9 h9 ev9 => ⟨pn, bg, en, hSP, Or.inr ⟨fun z => by omega, hQ.ev ev9 (fun _ _ => id)⟩⟩)))
  by_cases s4 : (K z4).2.2 = 4
  · skip
    refine g_tableIn cx (off := 81) (tgt := 93) d_1_3_12 (by rw [s4]; decide +kernel) (by rw [s4]; decide +kernel) (by rw [s4]; decide +kernel) rfl ?_
    refine g_aload_n cx 1 d_1_3_93 rfl rfl ?_
    refine g_aload_n cx 0 d_1_3_94 rfl rfl ?_
    obtain ⟨la95, lr95, tr95, tn95, he95, hla95, hlr95, htr95, htn95, hlq95, hlaq95⟩ := TP.desk hT ha hab0
    refine g_callV cx (As := [.ref z4]) (n := 1) (tc_readFour  hB17 htr) d_1_3_95 t_781 t_783 ts_18 t_1 t_784 ⟨by decide, by decide, by decide +kernel⟩ rfl (ci := 0) rfl ha.1 he95 ⟨rfl, hT, ha, hz4⟩ ⟨Nat.le_of_ble_eq_true rfl, Nat.le_of_ble_eq_true rfl⟩ (Nat.le_of_ble_eq_true rfl) ⟨Nat.le_of_ble_eq_true rfl, Nat.le_of_ble_eq_true rfl⟩ (fun v95 h r95 => ?_) (fun x95 h r95 => lineOutF hE hbk (tqF Ev.rf r95 (fun K9 h9 ev9 => ⟨pn, bg, en, hSP, Or.inr ⟨fun z => by omega, hQ.ev ev9 xnB⟩⟩)))
    obtain ⟨x95, ex95⟩ := tq_int r95
    subst ex95
    exact g_iret cx d_1_3_98 rfl rfl (lineOutF hE hbk (tqF Ev.rf r95 (fun K9 h9 ev9 => ⟨pn, bg, en, hSP, Or.inr ⟨fun z => by omega, hQ.ev ev9 xnB⟩⟩)))
  refine g_tableOut cx (tgt := 99) d_1_3_12 (Or.inr (by rw [nI_toInt (by omega)]; omega)) rfl ?_
  exact t_iae cx htr d_1_3_99 d_1_3_102 d_1_3_103 d_1_3_106  ⟨Nat.le_of_ble_eq_true rfl, Nat.le_of_ble_eq_true rfl⟩ (Nat.le_of_ble_eq_true rfl) ⟨Nat.le_of_ble_eq_true rfl, Nat.le_of_ble_eq_true rfl⟩ (fun x hx hz => lineOutF hE hbk (thrF (S := S1) (Or.inl rfl) hT (Ev.rf (X := XD K)) hx hz (fun K9 h9 ev9 => ⟨pn, bg, en, hSP, Or.inr ⟨fun z => by omega, hQ.ev ev9 (fun _ _ => id)⟩⟩)))
def DrP (D : va_G) (z0 : Nat) (k : Nat → Nat) (K : KM) (B T : Nat) (h : hp) (nr : Nat) (rz gq : Nat → Nat) (v0 : Int32) (o : Outcome) (h' : hp) : Prop := (∃ (j : Nat) (e : va_E), j < nr ∧ v0 = nI j ∧ gq j = 0 ∧ o = .returned (some (.int 1)) ∧ h' = (h.1, va_up h.2 (rz j) e) ∧ TP D z0 k (va_up K (rz j) (6, (K (rz j)).2.1, 1)) B T h') ∨ (h' = h ∧ o = .returned (some (.int 0)) ∧ ∀ t, t < nr → v0 = nI t → ¬ gq t = 0)
set_option maxHeartbeats 4000000 in
theorem tc_dropF {a lr nr : Nat} {rz nq cq gq : Nat → Nat} {v0 : Int32} (hB : B < 2 ^ 20) : Ctr l y_47 prog_1_method_9_code 2 (Option.some Jvm.ClassFile.FieldType.boolean) (rmT 7 0 0) D z0 (EE z0 k) (fun as h => as = [.ref a, .int v0] ∧ TP D z0 k K B T h ∧ Ty K h 1 a ∧ (K a).2.2 = lr ∧ RQ D k K h lr nr rz nq cq gq) (fun _ h o h' => DrP D z0 k K B T h nr rz gq v0 o h') := by
  refine ctr_of Cl.stb (by decide) (fun as h q => by rw [q.1]; exact Nat.le_of_ble_eq_true rfl) ?_
  intro as h q p e s m args below meth c cx
  obtain ⟨rfl, hT, ha, hlrq, hQ⟩ := q
  refine g_aload_n cx 0 d_1_9_0 rfl rfl ?_
  refine g_iload_n cx 1 d_1_9_1 rfl rfl ?_
  obtain ⟨la2, lr2, tr2, tn2, he2, hla2, hlr2, htr2, htn2, hlq2, hlaq2⟩ := TP.o (κ := 1) hT ha
  have hl2 : lr2 = lr := Eq.trans hlq2 hlrq
  refine g_callV cx (As := [.int v0]) (n := 1) (pt_isThereF (K := K) (B := B) (T := T) (v0 := v0) (lr := lr) (nr := nr) (rz := rz) (nq := nq) (cq := cq) (gq := gq) hB) d_1_9_2 t_231 t_233 ts_0 t_1 t_234 ⟨by decide, by decide, by decide +kernel⟩ rfl (ci := 0) rfl ha.1 he2 ⟨rfl, hT, ha, hlrq, hQ⟩ ⟨Nat.le_of_ble_eq_true rfl, Nat.le_of_ble_eq_true rfl⟩ (Nat.le_of_ble_eq_true rfl) ⟨Nat.zero_le _, Nat.zero_le _⟩ (fun v2 h r2 => ?_) (fun x2 h r2 => by obtain ⟨-, v9, e9, -⟩ := r2; cases e9)
  obtain ⟨rfl, wo2, e2, r2⟩ := r2
  cases e2
  obtain ⟨x2, rfl, xj2⟩ := r2
  refine g_if_ne cx d_1_9_5 rfl (fun c5 => ?_) (fun c5 => ?_)
  · skip
    obtain ⟨j, hjn, hv0, hgo⟩ : ∃ j, j < nr ∧ v0 = nI j ∧ gq j = 0 := by
      rcases xj2 with z | z
      · exact z.2
      · exact absurd z.1 c5
    subst hv0
    have hLs : LsK D K h lr2 26 nr rz := by rw [hl2]; exact hQ.1
    have hj : j < (K lr2).2.2 := by rw [hLs.2.1]; exact hjn
    refine g_aload_n cx 0 d_1_9_10 rfl rfl ?_
    refine g_getf cx (k := 2) d_1_9_11 in0 rfl (by decide) t_98 (Or.inl rfl) ha.1 he2 rfl ?_
    refine g_iload_n cx 1 d_1_9_14 rfl rfl ?_
    obtain ⟨⟨ea15, mo15, hm15, hl15⟩, hb15⟩ := TP.n26 hT hlr2
    refine g_callV cx (As := [.int (nI j)]) (n := 1) (gj_getF (K := K) (B := B) (T := T) (ce := 6) (j := j) (mm := nr) (es := rz) (by decide) hB) d_1_9_15 t_239 t_240 t_241 t_8 t_242 ⟨by decide, by decide, by decide +kernel⟩ rfl (ci := 2) rfl hm15 hl15 ⟨rfl, hT, hlr2, hj, hLs.ls, hjn⟩ ⟨Nat.le_of_ble_eq_true rfl, Nat.le_of_ble_eq_true rfl⟩ (Nat.le_of_ble_eq_true rfl) ⟨Nat.zero_le _, Nat.zero_le _⟩ (fun v15 h r15 => ?_) (fun x15 h r15 => by obtain ⟨-, e9, -⟩ := r15; cases e9)
    obtain ⟨rfl, e15, hy15⟩ := r15
    obtain ⟨y15, hq15⟩ : ∃ y, y = rz j := ⟨_, rfl⟩
    rw [← hq15] at e15 hy15
    cases e15
    replace hy15 : Ty K h 6 y15 := hy15
    obtain ⟨n18, b118, b218, b318, w18, lo18, im18, fi18, pa18, he18, hw18, hlo18, him18, hfi18, hpa18, hwq18⟩ := TP.o (κ := 6) hT hy15
    obtain ⟨nw18, hw18⟩ : ∃ n, Tw k K h w18 n := ⟨_, Tx.tx hw18⟩
    refine g_ccast cx (ci := 6) d_1_9_18 t_251 rfl hy15.1 he18 ?_
    refine g_iconst cx (v := 1) d_1_9_21 (by decide) ?_
    refine g_putf cx d_1_9_22 in6 ty6_ok nm6 rfl (k := 7) (by decide) t_743 (Or.inl rfl) rfl (ty6_ok 7 (by decide)) rfl rfl hy15.1 he18 (Nat.le_of_ble_eq_true rfl) ?_
    refine g_iconst cx (v := 1) d_1_9_25 (by decide) ?_
    exact g_iret cx d_1_9_26 rfl rfl (Or.inl ⟨j, .inr (6, [.int n18, .ref w18, .ref lo18, .ref im18, .ref fi18, va_rf pa18, .int b118, .int 1, .int b318]), hjn, rfl, hgo, rfl, by first | (rw [← hq15]; done) | (rw [← hq15]; rfl), by rw [← hq15]; exact TP.went hT hy15 hwq18.2.2 (okc.ob (by show ¬ (24 ≤ 6 ∧ 6 ≤ 29); decide) (by show ¬ (34 ≤ 6 ∧ 6 ≤ 39); decide) ⟨n18, b118, 1, b318, w18, lo18, im18, fi18, pa18, rfl, hw18.tx, hlo18, him18, hfi18, hpa18, hwq18.1, rfl, Nat.le_refl _⟩)⟩)
  · skip
    have hno : ∀ t, t < nr → v0 = nI t → ¬ gq t = 0 := by
      rcases xj2 with z | z
      · exact absurd c5 (by rw [z.1]; decide)
      · exact z.2
    refine g_iconst cx (v := 0) d_1_9_8 (by decide) ?_
    exact g_iret cx d_1_9_9 rfl rfl (Or.inr ⟨rfl, rfl, hno⟩)
end F4
