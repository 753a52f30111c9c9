/-! The class's realms and the reference's. -/
def LKx (nr : Nat) (nq cq gq : Nat → Nat) (x : MS) : Prop := nr ≤ 8 ∧ x.1 11 = nI nr ∧ (∀ j, j < nr → x.2.1 12 j = nI (wcp (cq j) 0 (nq j)) ∧ x.2.1 22 j = nI (gq j) ∧ gq j ≤ 1 ∧ WordOk (nq j) (cq j)) ∧ ∀ j, nr ≤ j → j < 8 → x.2.1 22 j = 0
theorem WordP.ok {cd b m : Nat} : WordP cd b m ↔ WordOk m (sub cd b m) := by
  constructor
  · exact fun h => ⟨h.1, h.2.1, fun j hj => by rw [chr_sub hj]; exact h.2.2 j hj⟩
  · exact fun h => ⟨h.1, h.2.1, fun j hj => by have := h.2.2 j hj; rw [chr_sub hj] at this; exact this⟩
theorem wcp_sub {cd b m : Nat} : wcp (sub cd b m) 0 m = wcp cd b m := wcp_eq m (fun j hj => by rw [Nat.zero_add]; exact chr_sub hj)
theorem kc3 : chr (kc 3) 0 = 114 ∧ chr (kc 3) 1 = 101 ∧ chr (kc 3) 2 = 97 ∧ chr (kc 3) 3 = 108 ∧ chr (kc 3) 4 = 109 := by decide +kernel
theorem RM_RE {cd pn : Nat} {bg en : Nat → Nat} (hp : 0 < pn) : RM (en 0 - bg 0) (sub cd (bg 0) (en 0 - bg 0)) ↔ RE cd pn bg en := by
  obtain ⟨k0, k1, k2, k3, k4⟩ := kc3
  constructor
  · intro h
    have h5 : en 0 - bg 0 = 5 := h.1
    have g : ∀ i, i < 5 → chr cd (bg 0 + i) = chr (kc 3) i := fun i hi => by
      rw [← chr_sub (c := cd) (b := bg 0) (show i < en 0 - bg 0 by omega)]
      exact h.2 i (by omega)
    exact ⟨hp, by omega, (g 0 (by decide)).trans k0, (g 1 (by decide)).trans k1, (g 2 (by decide)).trans k2, (g 3 (by decide)).trans k3, (g 4 (by decide)).trans k4⟩
  · intro h
    obtain ⟨-, h5, c0, c1, c2, c3, c4⟩ := h
    have h6 : en 0 - bg 0 = 5 := by omega
    refine ⟨h6, fun i hi => ?_⟩
    rw [chr_sub hi]
    have h7 : i = 0 ∨ i = 1 ∨ i = 2 ∨ i = 3 ∨ i = 4 := by omega
    rcases h7 with rfl | rfl | rfl | rfl | rfl
    · exact c0.trans k0.symm
    · exact c1.trans k1.symm
    · exact c2.trans k2.symm
    · exact c3.trans k3.symm
    · exact c4.trans k4.symm
def LKa (na : Nat) (nz cz : Nat → Nat) (x : MS) : Prop := na ≤ 6 ∧ x.1 6 = nI na ∧ ∀ j, j < na → x.2.1 7 j = nI (wcp (cz j) 0 (nz j)) ∧ WordOk (nz j) (cz j)
theorem kc1 : chr (kc 1) 0 = 97 ∧ chr (kc 1) 1 = 114 ∧ chr (kc 1) 2 = 99 ∧ chr (kc 1) 3 = 104 ∧ chr (kc 1) 4 = 105 ∧ chr (kc 1) 5 = 118 ∧ chr (kc 1) 6 = 101 := by decide +kernel
theorem AM_RA {cd pn : Nat} {bg en : Nat → Nat} (hp : 0 < pn) : AM (en 0 - bg 0) (sub cd (bg 0) (en 0 - bg 0)) ↔ RA cd pn bg en := by
  obtain ⟨k0, k1, k2, k3, k4, k5, k6⟩ := kc1
  constructor
  · intro h
    have h5 : en 0 - bg 0 = 7 := h.1
    have g : ∀ i, i < 7 → chr cd (bg 0 + i) = chr (kc 1) i := fun i hi => by
      rw [← chr_sub (c := cd) (b := bg 0) (show i < en 0 - bg 0 by omega)]
      exact h.2 i (by omega)
    exact ⟨hp, by omega, (g 0 (by decide)).trans k0, (g 1 (by decide)).trans k1, (g 2 (by decide)).trans k2, (g 3 (by decide)).trans k3, (g 4 (by decide)).trans k4, (g 5 (by decide)).trans k5, (g 6 (by decide)).trans k6⟩
  · intro h
    obtain ⟨-, h5, c0, c1, c2, c3, c4, c5, c6⟩ := h
    have h6 : en 0 - bg 0 = 7 := by omega
    refine ⟨h6, fun i hi => ?_⟩
    rw [chr_sub hi]
    have h7 : i = 0 ∨ i = 1 ∨ i = 2 ∨ i = 3 ∨ i = 4 ∨ i = 5 ∨ i = 6 := by omega
    rcases h7 with rfl | rfl | rfl | rfl | rfl | rfl | rfl
    · exact c0.trans k0.symm
    · exact c1.trans k1.symm
    · exact c2.trans k2.symm
    · exact c3.trans k3.symm
    · exact c4.trans k4.symm
    · exact c5.trans k5.symm
    · exact c6.trans k6.symm
section LNK
variable {D : va_G} {k : Nat → Nat} {K' : KM} {h' : hp} {lr nr na c0 cd j : Nat} {rz nq cq gq az nz cz : Nat → Nat} {x y : MS}
theorem LKx.kp (L : LKx nr nq cq gq x) (h1 : y.1 11 = x.1 11) (h2 : y.2.1 12 = x.2.1 12) (h3 : y.2.1 22 = x.2.1 22) : LKx nr nq cq gq y := by
  unfold LKx at L ⊢
  rw [h1, h2, h3]
  exact L
theorem LKx.z (L : LKx nr nq cq gq x) (q : KpZ x y) : LKx nr nq cq gq y := L.kp q.2.1 q.2.2.1 q.2.2.2.1
theorem LKx.g (L : LKx nr nq cq gq x) (hj : j < nr) : x.2.1 22 j = 0 ↔ gq j = 0 := by
  obtain ⟨a1, a2, a3, a4⟩ := L.2.2.1 j hj
  rw [a2]
  exact nI_eq (b := 0) (by omega) (by decide)
theorem LKx.sam {n c : Nat} (L : LKx nr nq cq gq x) (hj : j < nr) (hw : WordOk n c) : Sam nq cq gq j n c ↔ (x.2.1 12 j = nI (wcp c 0 n) ∧ x.2.1 22 j = 0) := by
  rw [L.g hj]
  obtain ⟨a1, a2, a3, a4⟩ := L.2.2.1 j hj
  have b1 := (wcp_dg a4.p).1
  have b2 := (wcp_dg hw.p).1
  have e1 : nI (wcp (cq j) 0 (nq j)) = nI (wcp c 0 n) ↔ wcp (cq j) 0 (nq j) = wcp c 0 n := nI_eq (by omega) (by omega)
  unfold Sam
  rw [a1, e1, wcp_ce a4 hw]
  exact And.comm
theorem LKx.drop (L : LKx nr nq cq gq x) (hj : j < nr) : LKx nr nq cq (va_up gq j 1) (seta (seti x 0 0) 22 j 1) := by
  refine ⟨L.1, L.2.1, fun i hi => ?_, fun i h1 h2 => ?_⟩
  · obtain ⟨a1, a2, a3, a4⟩ := L.2.2.1 i hi
    refine ⟨a1, ?_, ?_, a4⟩
    · show upd (x.2.1 22) j 1 i = _
      by_cases e : i = j
      · rw [e, pk_us, va_up_self]
        rfl
      · rw [pk_un e, va_up_ne _ _ e]
        exact a2
    · by_cases e : i = j
      · rw [e, va_up_self]
        exact Nat.le_refl _
      · rw [va_up_ne _ _ e]
        exact a3
  · show upd (x.2.1 22) j 1 i = 0
    rw [pk_un (by omega)]
    exact L.2.2.2 i h1 h2
theorem LKa.kp (L : LKa na nz cz x) (h1 : y.1 6 = x.1 6) (h2 : y.2.1 7 = x.2.1 7) : LKa na nz cz y := by
  unfold LKa at L ⊢
  rw [h1, h2]
  exact L
theorem LKa.ce {n c : Nat} (L : LKa na nz cz x) (hj : j < na) (hw : WordOk n c) : CE (nz j) n (cz j) c ↔ x.2.1 7 j = nI (wcp c 0 n) := by
  obtain ⟨a1, a2⟩ := L.2.2 j hj
  have b1 := (wcp_dg a2.p).1
  have b2 := (wcp_dg hw.p).1
  have e1 : nI (wcp (cz j) 0 (nz j)) = nI (wcp c 0 n) ↔ wcp (cz j) 0 (nz j) = wcp c 0 n := nI_eq (by omega) (by omega)
  rw [a1, e1, wcp_ce a2 hw]
theorem LKx.line (L : LKx nr nq cq gq x) (A : LKa na nz cz x) (c : LF D k lr nr rz nq cq gq na az nz cz c0 cd K' h') (m : LnE cd c0 nr na x y) : ∃ (nr' : Nat) (rz' nq' cq' gq' : Nat → Nat) (na' : Nat) (az' nz' cz' : Nat → Nat), BQ D k K' h' lr nr' rz' nq' cq' gq' na' az' nz' cz' ∧ LKx nr' nq' cq' gq' y ∧ LKa na' nz' cz' y := by
  obtain ⟨pn, bg, en, s1, c⟩ := c
  obtain ⟨pn', bg', en', s2, -, m⟩ := m
  have hnum := s1.num s2
  subst hnum
  have he := s1.eq s2
  rcases c with ⟨hp, c⟩ | ⟨hp, c⟩
  · obtain ⟨-, b0, n0⟩ := he 0 (by omega)
    obtain ⟨-, b1, n1⟩ := he 1 (by omega)
    have hR := RM_RE (cd := cd) (bg := bg') (en := en') (show 0 < pn by omega)
    have hS := AM_RA (cd := cd) (bg := bg') (en := en') (show 0 < pn by omega)
    rw [b0, n0] at hR hS
    rcases c with ⟨hrm, c⟩ | ⟨ham, c⟩ | ⟨hrm, ham, c⟩
    · have hre := hR.mp hrm
      have m := (m.resolve_left (fun q => q.1 hre)).resolve_right (fun q => by have h1 := q.1.2.1; have h2 := hre.2.1; omega)
      obtain ⟨-, ⟨m22, m⟩, hka⟩ := m
      have hA2 := A.kp hka.1 hka.2
      have hG : GR cd pn bg' en' nr x ↔ AG nr nq cq gq (en 1 - bg 1) (sub cd (bg 1) (en 1 - bg 1)) := by
        unfold GR AG
        rw [b1, n1, WordP.ok, ← wcp_sub]
        constructor
        · exact fun q => ⟨q.2.1, fun j hj s => q.2.2.1 j hj ((L.sam hj q.2.1).mp s), q.2.2.2⟩
        · exact fun q => ⟨hp, q.1, fun j hj s => q.2.1 j hj ((L.sam hj q.1).mpr s), q.2.2⟩
      rcases c with ⟨hag, z, c⟩ | ⟨hag, c⟩
      · have m := m.resolve_right (fun q => q.1 (hG.mpr hag))
        obtain ⟨-, m11, m12⟩ := m
        refine ⟨nr + 1, _, _, _, _, na, az, nz, cz, c, ⟨by have := hag.2.2; omega, m11, fun j hj => ?_, fun j h1 h2 => ?_⟩, hA2⟩
        · by_cases e : j = nr
          · rw [e, va_up_self, va_up_self, va_up_self, m12, m22, pk_us, L.2.2.2 nr (Nat.le_refl _) hag.2.2, b1, n1, wcp_sub]
            exact ⟨rfl, rfl, by decide, hag.1⟩
          · rw [va_up_ne _ _ e, va_up_ne _ _ e, va_up_ne _ _ e, m12, m22, pk_un e]
            exact L.2.2.1 j (by omega)
        · rw [m22]
          exact L.2.2.2 j (by omega) h2
      · have m := m.resolve_left (fun q => hag (hG.mp q.1))
        exact ⟨nr, rz, nq, cq, gq, na, az, nz, cz, c, L.kp m.2.1 m.2.2 m22, hA2⟩
    · have hra := hS.mp ham
      have m := (m.resolve_left (fun q => q.2.1 hra)).resolve_left (fun q => by have h1 := q.1.2.1; have h2 := hra.2.1; omega)
      obtain ⟨-, m, hkr⟩ := m
      have hL2 := L.kp hkr.1 hkr.2.1 hkr.2.2
      have hG : GRa cd pn bg' en' na x ↔ AGa na nz cz (en 1 - bg 1) (sub cd (bg 1) (en 1 - bg 1)) := by
        unfold GRa AGa
        rw [b1, n1, WordP.ok, ← wcp_sub]
        constructor
        · exact fun q => ⟨q.2.1, fun j hj s => q.2.2.1 j hj ((A.ce hj q.2.1).mp s), q.2.2.2⟩
        · exact fun q => ⟨hp, q.1, fun j hj s => q.2.1 j hj ((A.ce hj q.1).mpr s), q.2.2⟩
      rcases c with ⟨hag, z, c⟩ | ⟨hag, c⟩
      · have m := m.resolve_right (fun q => q.1 (hG.mpr hag))
        obtain ⟨-, m6, m7⟩ := m
        refine ⟨nr, rz, nq, cq, gq, na + 1, _, _, _, c, hL2, by have := hag.2.2; omega, m6, fun j hj => ?_⟩
        by_cases e : j = na
        · rw [e, va_up_self, va_up_self, m7, pk_us, b1, n1, wcp_sub]
          exact ⟨rfl, hag.1⟩
        · rw [va_up_ne _ _ e, va_up_ne _ _ e, m7, pk_un e]
          exact A.2.2 j (by omega)
      · have m := m.resolve_left (fun q => hag (hG.mp q.1))
        exact ⟨nr, rz, nq, cq, gq, na, az, nz, cz, c, hL2, A.kp m.2.1 m.2.2⟩
    · rcases m with m | m | m
      · exact ⟨nr, rz, nq, cq, gq, na, az, nz, cz, c, L.z m.2.2, A.kp m.2.2.2.2.2.2.1 m.2.2.2.2.2.2.2⟩
      · exact absurd (hR.mpr m.1) hrm
      · exact absurd (hS.mpr m.1) ham
  · rcases m with m | m | m
    · exact ⟨nr, rz, nq, cq, gq, na, az, nz, cz, c, L.z m.2.2, A.kp m.2.2.2.2.2.2.1 m.2.2.2.2.2.2.2⟩
    · obtain ⟨-, ⟨m22, m⟩, hka⟩ := m
      have m := m.resolve_left (fun q => hp q.1.1)
      exact ⟨nr, rz, nq, cq, gq, na, az, nz, cz, c, L.kp m.2.1 m.2.2 m22, A.kp hka.1 hka.2⟩
    · obtain ⟨-, m, hkr⟩ := m
      have m := m.resolve_left (fun q => hp q.1.1)
      exact ⟨nr, rz, nq, cq, gq, na, az, nz, cz, c, L.kp hkr.1 hkr.2.1 hkr.2.2, A.kp m.2.1 m.2.2⟩
end LNK
