/-! What a line does, told by itself: S holds the number of realms (0), their words (1: lengths, 2: characters), who went (3), the number of archives (4), their words (5, 6), the names of the last archive (7: how many, 8, 9), what the last realm has loaded (10: how many, 11: which), its imports (12). -/
abbrev SL : Type := Nat → Nat → Nat
def NmOk (n c : Nat) : Prop := NmR c 2 0 n
def RSam (S : SL) (j n c : Nat) : Prop := S 3 j = 0 ∧ CE (S 1 j) n (S 2 j) c
def RFst (S : SL) (n c j : Nat) : Prop := j < S 0 0 ∧ RSam S j n c ∧ ∀ t, t < j → ¬ RSam S t n c
def RNo (S : SL) (n c : Nat) : Prop := ∀ j, j < S 0 0 → ¬ RSam S j n c
def AFst (S : SL) (n c j : Nat) : Prop := j < S 4 0 ∧ CE (S 5 j) n (S 6 j) c ∧ ∀ t, t < j → ¬ CE (S 5 t) n (S 6 t) c
def ANo (S : SL) (n c : Nat) : Prop := ∀ j, j < S 4 0 → ¬ CE (S 5 j) n (S 6 j) c
def NNo (S : SL) (n c : Nat) : Prop := ∀ t, t < S 7 0 → ¬ CE (S 8 t) n (S 9 t) c
def Shut (S : SL) : Prop := S 0 0 = 0 ∨ S 3 (S 0 0 - 1) ≠ 0
def LIn (S : SL) (j : Nat) : Prop := ∃ t, t < S 10 0 ∧ S 11 t = j
def addA (S : SL) (n c : Nat) : SL := va_up (va_up (va_up (va_up S 4 (fun _ => S 4 0 + 1)) 5 (va_up (S 5) (S 4 0) n)) 6 (va_up (S 6) (S 4 0) c)) 7 (fun _ => 0)
def addN (S : SL) (n c : Nat) : SL := va_up (va_up (va_up S 7 (fun _ => S 7 0 + 1)) 8 (va_up (S 8) (S 7 0) n)) 9 (va_up (S 9) (S 7 0) c)
def addR (S : SL) (n c : Nat) : SL := va_up (va_up (va_up (va_up (va_up (va_up S 0 (fun _ => S 0 0 + 1)) 1 (va_up (S 1) (S 0 0) n)) 2 (va_up (S 2) (S 0 0) c)) 3 (va_up (S 3) (S 0 0) 0)) 10 (fun _ => 0)) 12 (fun _ => 0)
def addL (S : SL) (j : Nat) : SL := va_up (va_up S 10 (fun _ => S 10 0 + 1)) 11 (va_up (S 11) (S 10 0) j)
def addI (S : SL) : SL := va_up S 12 (fun _ => S 12 0 + 1)
def dropS (S : SL) (j : Nat) : SL := va_up S 3 (va_up (S 3) j 1)
def DoA (S : SL) (n c : Nat) (an : Int32) (S' : SL) : Prop := (an = -1 ∧ S' = S ∧ ¬ (WordOk n c ∧ ANo S n c)) ∨ (an = -2 ∧ S' = S ∧ (WordOk n c ∧ ANo S n c) ∧ ¬ S 4 0 < 6) ∨ (an = 1 ∧ S' = addA S n c ∧ (WordOk n c ∧ ANo S n c) ∧ S 4 0 < 6)
def DoR (S : SL) (n c : Nat) (an : Int32) (S' : SL) : Prop := (an = -1 ∧ S' = S ∧ ¬ (WordOk n c ∧ RNo S n c)) ∨ (an = -2 ∧ S' = S ∧ (WordOk n c ∧ RNo S n c) ∧ ¬ S 0 0 < 8) ∨ (an = 3 ∧ S' = addR S n c ∧ (WordOk n c ∧ RNo S n c) ∧ S 0 0 < 8)
def DoN (S : SL) (n c : Nat) (an : Int32) (S' : SL) : Prop := (an = -1 ∧ S' = S ∧ ¬ (NmOk n c ∧ (0 < S 4 0 → NNo S n c))) ∨ (an = -2 ∧ S' = S ∧ (NmOk n c ∧ (0 < S 4 0 → NNo S n c)) ∧ ¬ (0 < S 4 0 ∧ S 7 0 < 6)) ∨ (an = 2 ∧ S' = addN S n c ∧ (NmOk n c ∧ (0 < S 4 0 → NNo S n c)) ∧ 0 < S 4 0 ∧ S 7 0 < 6)
def DoL (S : SL) (n c : Nat) (an : Int32) (S' : SL) : Prop := (an = -1 ∧ S' = S ∧ (ANo S n c ∨ ∃ j, AFst S n c j ∧ 0 < S 0 0 ∧ LIn S j)) ∨ (an = -2 ∧ S' = S ∧ (∃ j, AFst S n c j ∧ ¬ (0 < S 0 0 ∧ LIn S j)) ∧ (Shut S ∨ ¬ S 10 0 < 4)) ∨ (an = 4 ∧ (∃ j, AFst S n c j ∧ ¬ (0 < S 0 0 ∧ LIn S j) ∧ S' = addL S j) ∧ ¬ (Shut S ∨ ¬ S 10 0 < 4))
def RGo (S : SL) (n c : Nat) : Prop := ∃ j, RFst S n c j ∧ j ≠ S 0 0 - 1
def DoP (S : SL) (n c : Nat) (an : Int32) (S' : SL) : Prop := S' = S ∧ ((an = -1 ∧ ¬ RGo S n c) ∨ (an = -2 ∧ RGo S n c ∧ Shut S) ∨ (an = 4 ∧ RGo S n c ∧ ¬ Shut S))
def DoO (S : SL) (an : Int32) (S' : SL) : Prop := S' = S ∧ ((an = -2 ∧ Shut S) ∨ (an = 4 ∧ ¬ Shut S))
def DoI (S : SL) (n c n2 c2 : Nat) (an : Int32) (S' : SL) : Prop := (an = -1 ∧ S' = S ∧ ¬ (NmOk n c ∧ RGo S n2 c2)) ∨ (an = -2 ∧ S' = S ∧ (NmOk n c ∧ RGo S n2 c2) ∧ (Shut S ∨ ¬ S 12 0 < 4)) ∨ (an = 4 ∧ S' = addI S ∧ (NmOk n c ∧ RGo S n2 c2) ∧ ¬ (Shut S ∨ ¬ S 12 0 < 4))
def IS (n c : Nat → Nat) (i κ : Nat) : Prop := CE (n i) (ln κ) (c i) (kc κ)
def Bad (pn : Nat) (n c : Nat → Nat) : Prop := pn ≠ 0 ∧ (pn = 1 → ¬ IS n c 0 8 ∧ ¬ IS n c 0 9) ∧ (pn = 2 → ¬ IS n c 0 1 ∧ ¬ IS n c 0 2 ∧ ¬ IS n c 0 3 ∧ ¬ IS n c 0 4 ∧ ¬ IS n c 0 5) ∧ (pn = 4 → ¬ (IS n c 0 6 ∧ IS n c 2 7))
def StpL (pn : Nat) (n c : Nat → Nat) (S : SL) (an : Int32) (S' : SL) : Prop := (pn = 0 ∧ an = 0 ∧ S' = S) ∨ (pn = 1 ∧ (IS n c 0 8 ∨ IS n c 0 9) ∧ DoO S an S') ∨ (pn = 2 ∧ IS n c 0 1 ∧ DoA S (n 1) (c 1) an S') ∨ (pn = 2 ∧ IS n c 0 2 ∧ DoN S (n 1) (c 1) an S') ∨ (pn = 2 ∧ IS n c 0 3 ∧ DoR S (n 1) (c 1) an S') ∨ (pn = 2 ∧ IS n c 0 4 ∧ DoL S (n 1) (c 1) an S') ∨ (pn = 2 ∧ IS n c 0 5 ∧ DoP S (n 1) (c 1) an S') ∨ (pn = 4 ∧ (IS n c 0 6 ∧ IS n c 2 7) ∧ DoI S (n 1) (c 1) (n 3) (c 3) an S') ∨ (Bad pn n c ∧ an = -1 ∧ S' = S)
theorem is_neF : ∀ κ κ' : Fin 10, κ.1 ≠ 0 → κ'.1 ≠ 0 → κ ≠ κ' → ¬ (ln κ.1 = ln κ'.1 ∧ ∀ i, i < ln κ.1 → chr (kc κ.1) i = chr (kc κ'.1) i) := by decide +kernel
theorem is_ne {n c : Nat → Nat} {i κ κ' : Nat} (h : IS n c i κ) (h' : IS n c i κ') (h1 : 0 < κ) (h2 : κ < 10) (h3 : 0 < κ') (h4 : κ' < 10) : κ = κ' := by
  refine Classical.byContradiction (fun hne => is_neF ⟨κ, h2⟩ ⟨κ', h4⟩ (by show κ ≠ 0; omega) (by show κ' ≠ 0; omega) (fun e => hne (congrArg Fin.val e)) ⟨h.1.symm.trans h'.1, fun j hj => ?_⟩)
  have hj1 : j < n i := by rw [h.1]; exact hj
  exact (h.2 j hj1).symm.trans (h'.2 j hj1)
theorem fst_u {P : Nat → Prop} {i j : Nat} (h1 : P i) (h2 : ∀ t, t < i → ¬ P t) (h3 : P j) (h4 : ∀ t, t < j → ¬ P t) : i = j := by
  rcases Nat.lt_trichotomy i j with q | q | q
  · exact absurd h1 (h4 i q)
  · exact q
  · exact absurd h3 (h2 j q)
theorem AFst.u {S : SL} {n c i j : Nat} (h : AFst S n c i) (h' : AFst S n c j) : i = j := fst_u (P := fun t => CE (S 5 t) n (S 6 t) c) h.2.1 h.2.2 h'.2.1 h'.2.2
section DET
variable {S S1 S2 : SL} {a1 a2 : Int32} {n c n2 c2 : Nat}
theorem tri {P Q : Prop} {A1 A2 A3 B1 B2 B3 : Prop} (h : (A1 ∧ ¬ P) ∨ (A2 ∧ P ∧ ¬ Q) ∨ (A3 ∧ P ∧ Q)) (h' : (B1 ∧ ¬ P) ∨ (B2 ∧ P ∧ ¬ Q) ∨ (B3 ∧ P ∧ Q)) : (A1 ∧ B1) ∨ (A2 ∧ B2) ∨ (A3 ∧ B3) := by
  rcases h with ⟨h1, h2⟩ | ⟨h1, h2, h3⟩ | ⟨h1, h2, h3⟩ <;> rcases h' with ⟨g1, g2⟩ | ⟨g1, g2, g3⟩ | ⟨g1, g2, g3⟩
  · exact Or.inl ⟨h1, g1⟩
  · exact absurd g2 h2
  · exact absurd g2 h2
  · exact absurd h2 g2
  · exact Or.inr (Or.inl ⟨h1, g1⟩)
  · exact absurd g3 h3
  · exact absurd h2 g2
  · exact absurd h3 g3
  · exact Or.inr (Or.inr ⟨h1, g1⟩)
theorem det3 {P Q : Prop} {v1 v2 v3 : Int32} {T1 T2 T3 : SL} (h : (a1 = v1 ∧ S1 = T1 ∧ ¬ P) ∨ (a1 = v2 ∧ S1 = T2 ∧ P ∧ ¬ Q) ∨ (a1 = v3 ∧ S1 = T3 ∧ P ∧ Q)) (h' : (a2 = v1 ∧ S2 = T1 ∧ ¬ P) ∨ (a2 = v2 ∧ S2 = T2 ∧ P ∧ ¬ Q) ∨ (a2 = v3 ∧ S2 = T3 ∧ P ∧ Q)) : a1 = a2 ∧ S1 = S2 := by
  rcases h with ⟨h0, h1, h2⟩ | ⟨h0, h1, h2, h3⟩ | ⟨h0, h1, h2, h3⟩ <;> rcases h' with ⟨g0, g1, g2⟩ | ⟨g0, g1, g2, g3⟩ | ⟨g0, g1, g2, g3⟩
  · exact ⟨h0.trans g0.symm, h1.trans g1.symm⟩
  · exact absurd g2 h2
  · exact absurd g2 h2
  · exact absurd h2 g2
  · exact ⟨h0.trans g0.symm, h1.trans g1.symm⟩
  · exact absurd g3 h3
  · exact absurd h2 g2
  · exact absurd h3 g3
  · exact ⟨h0.trans g0.symm, h1.trans g1.symm⟩
theorem DoA.det (h : DoA S n c a1 S1) (h' : DoA S n c a2 S2) : a1 = a2 ∧ S1 = S2 := det3 h h'
theorem DoR.det (h : DoR S n c a1 S1) (h' : DoR S n c a2 S2) : a1 = a2 ∧ S1 = S2 := det3 h h'
theorem DoN.det (h : DoN S n c a1 S1) (h' : DoN S n c a2 S2) : a1 = a2 ∧ S1 = S2 := det3 h h'
theorem DoI.det (h : DoI S n c n2 c2 a1 S1) (h' : DoI S n c n2 c2 a2 S2) : a1 = a2 ∧ S1 = S2 := by
  rcases h with ⟨h0, h1, h2⟩ | ⟨h0, h1, h2, h3⟩ | ⟨h0, h1, h2, h3⟩ <;> rcases h' with ⟨g0, g1, g2⟩ | ⟨g0, g1, g2, g3⟩ | ⟨g0, g1, g2, g3⟩
  · exact ⟨h0.trans g0.symm, h1.trans g1.symm⟩
  · exact absurd g2 h2
  · exact absurd g2 h2
  · exact absurd h2 g2
  · exact ⟨h0.trans g0.symm, h1.trans g1.symm⟩
  · exact absurd h3 g3
  · exact absurd h2 g2
  · exact absurd g3 h3
  · exact ⟨h0.trans g0.symm, h1.trans g1.symm⟩
theorem DoO.det (h : DoO S a1 S1) (h' : DoO S a2 S2) : a1 = a2 ∧ S1 = S2 := by
  obtain ⟨e1, h⟩ := h
  obtain ⟨e2, h'⟩ := h'
  refine ⟨?_, e1.trans e2.symm⟩
  rcases h with ⟨h0, h1⟩ | ⟨h0, h1⟩ <;> rcases h' with ⟨g0, g1⟩ | ⟨g0, g1⟩
  · exact h0.trans g0.symm
  · exact absurd h1 g1
  · exact absurd g1 h1
  · exact h0.trans g0.symm
theorem DoP.det (h : DoP S n c a1 S1) (h' : DoP S n c a2 S2) : a1 = a2 ∧ S1 = S2 := by
  obtain ⟨e1, h⟩ := h
  obtain ⟨e2, h'⟩ := h'
  refine ⟨?_, e1.trans e2.symm⟩
  rcases h with ⟨h0, h1⟩ | ⟨h0, h1, h2⟩ | ⟨h0, h1, h2⟩ <;> rcases h' with ⟨g0, g1⟩ | ⟨g0, g1, g2⟩ | ⟨g0, g1, g2⟩
  · exact h0.trans g0.symm
  · exact absurd g1 h1
  · exact absurd g1 h1
  · exact absurd h1 g1
  · exact h0.trans g0.symm
  · exact absurd h2 g2
  · exact absurd h1 g1
  · exact absurd g2 h2
  · exact h0.trans g0.symm
theorem DoL.det (h : DoL S n c a1 S1) (h' : DoL S n c a2 S2) : a1 = a2 ∧ S1 = S2 := by
  have key : ∀ {j j' : Nat}, AFst S n c j → 0 < S 0 0 ∧ LIn S j → AFst S n c j' → ¬ (0 < S 0 0 ∧ LIn S j') → False := fun f1 l1 f2 l2 => l2 (by rw [← f1.u f2]; exact l1)
  have no : ∀ {j : Nat}, ANo S n c → AFst S n c j → False := fun f1 f2 => f1 _ f2.1 f2.2.1
  rcases h with ⟨h0, h1, h2⟩ | ⟨h0, h1, ⟨j, h2, h2'⟩, h3⟩ | ⟨h0, ⟨j, h2, h2', h1⟩, h3⟩ <;> rcases h' with ⟨g0, g1, g2⟩ | ⟨g0, g1, ⟨i, g2, g2'⟩, g3⟩ | ⟨g0, ⟨i, g2, g2', g1⟩, g3⟩
  · exact ⟨h0.trans g0.symm, h1.trans g1.symm⟩
  · exact (h2.elim (fun q => no q g2) (fun ⟨j, q1, q2⟩ => key q1 q2 g2 g2')).elim
  · exact (h2.elim (fun q => no q g2) (fun ⟨j, q1, q2⟩ => key q1 q2 g2 g2')).elim
  · exact (g2.elim (fun q => no q h2) (fun ⟨j, q1, q2⟩ => key q1 q2 h2 h2')).elim
  · exact ⟨h0.trans g0.symm, h1.trans g1.symm⟩
  · exact absurd h3 g3
  · exact (g2.elim (fun q => no q h2) (fun ⟨j, q1, q2⟩ => key q1 q2 h2 h2')).elim
  · exact absurd g3 h3
  · exact ⟨h0.trans g0.symm, by rw [h1, g1, h2.u g2]⟩
end DET
theorem StpL.tr {pn : Nat} {n c n' c' : Nat → Nat} {S S' : SL} {an : Int32} (h : StpL pn n c S an S') (he : ∀ i, i < pn → n' i = n i ∧ c' i = c i) : StpL pn n' c' S an S' := by
  rcases h with h | ⟨h1, h⟩ | ⟨h1, h⟩ | ⟨h1, h⟩ | ⟨h1, h⟩ | ⟨h1, h⟩ | ⟨h1, h⟩ | ⟨h1, h⟩ | ⟨⟨h1, h2, h3, h4⟩, h⟩
  · exact Or.inl h
  · obtain ⟨e1, e2⟩ := he 0 (by omega)
    refine Or.inr (Or.inl ⟨h1, ?_⟩)
    unfold IS
    rw [e1, e2]
    exact h
  · obtain ⟨e1, e2⟩ := he 0 (by omega)
    obtain ⟨e3, e4⟩ := he 1 (by omega)
    refine Or.inr (Or.inr (Or.inl ⟨h1, ?_⟩))
    unfold IS
    rw [e1, e2, e3, e4]
    exact h
  · obtain ⟨e1, e2⟩ := he 0 (by omega)
    obtain ⟨e3, e4⟩ := he 1 (by omega)
    refine Or.inr (Or.inr (Or.inr (Or.inl ⟨h1, ?_⟩)))
    unfold IS
    rw [e1, e2, e3, e4]
    exact h
  · obtain ⟨e1, e2⟩ := he 0 (by omega)
    obtain ⟨e3, e4⟩ := he 1 (by omega)
    refine Or.inr (Or.inr (Or.inr (Or.inr (Or.inl ⟨h1, ?_⟩))))
    unfold IS
    rw [e1, e2, e3, e4]
    exact h
  · obtain ⟨e1, e2⟩ := he 0 (by omega)
    obtain ⟨e3, e4⟩ := he 1 (by omega)
    refine Or.inr (Or.inr (Or.inr (Or.inr (Or.inr (Or.inl ⟨h1, ?_⟩)))))
    unfold IS
    rw [e1, e2, e3, e4]
    exact h
  · obtain ⟨e1, e2⟩ := he 0 (by omega)
    obtain ⟨e3, e4⟩ := he 1 (by omega)
    refine Or.inr (Or.inr (Or.inr (Or.inr (Or.inr (Or.inr (Or.inl ⟨h1, ?_⟩))))))
    unfold IS
    rw [e1, e2, e3, e4]
    exact h
  · obtain ⟨e1, e2⟩ := he 0 (by omega)
    obtain ⟨e3, e4⟩ := he 1 (by omega)
    obtain ⟨e5, e6⟩ := he 2 (by omega)
    obtain ⟨e7, e8⟩ := he 3 (by omega)
    refine Or.inr (Or.inr (Or.inr (Or.inr (Or.inr (Or.inr (Or.inr (Or.inl ⟨h1, ?_⟩)))))))
    unfold IS
    rw [e1, e2, e3, e4, e5, e6, e7, e8]
    exact h
  · refine Or.inr (Or.inr (Or.inr (Or.inr (Or.inr (Or.inr (Or.inr (Or.inr ⟨⟨h1, fun q => ?_, fun q => ?_, fun q => ?_⟩, h⟩)))))))
    · obtain ⟨e1, e2⟩ := he 0 (by omega)
      unfold IS
      rw [e1, e2]
      exact h2 q
    · obtain ⟨e1, e2⟩ := he 0 (by omega)
      unfold IS
      rw [e1, e2]
      exact h3 q
    · obtain ⟨e1, e2⟩ := he 0 (by omega)
      obtain ⟨e5, e6⟩ := he 2 (by omega)
      unfold IS
      rw [e1, e2, e5, e6]
      exact h4 q
theorem StpL.det {pn : Nat} {n c : Nat → Nat} {S S1 S2 : SL} {a1 a2 : Int32} (h : StpL pn n c S a1 S1) (h' : StpL pn n c S a2 S2) : a1 = a2 ∧ S1 = S2 := by
  have ex : ∀ {κ κ' : Nat}, IS n c 0 κ → IS n c 0 κ' → 0 < κ → κ < 10 → 0 < κ' → κ' < 10 → κ ≠ κ' → a1 = a2 ∧ S1 = S2 := fun q1 q2 q3 q4 q5 q6 q7 => absurd (is_ne q1 q2 q3 q4 q5 q6) q7
  rcases h with ⟨h1, h2, h3⟩ | ⟨h1, h2, h3⟩ | ⟨h1, h2, h3⟩ | ⟨h1, h2, h3⟩ | ⟨h1, h2, h3⟩ | ⟨h1, h2, h3⟩ | ⟨h1, h2, h3⟩ | ⟨h1, h2, h3⟩ | ⟨⟨h1, h4, h5, h6⟩, h2, h3⟩ <;>
    rcases h' with ⟨g1, g2, g3⟩ | ⟨g1, g2, g3⟩ | ⟨g1, g2, g3⟩ | ⟨g1, g2, g3⟩ | ⟨g1, g2, g3⟩ | ⟨g1, g2, g3⟩ | ⟨g1, g2, g3⟩ | ⟨g1, g2, g3⟩ | ⟨⟨g1, g4, g5, g6⟩, g2, g3⟩ <;>
    first
      | exact ⟨h2.trans g2.symm, h3.trans g3.symm⟩
      | (exfalso; omega)
      | exact h3.det g3
      | exact ex h2 g2 (by decide) (by decide) (by decide) (by decide) (by decide)
      | exact absurd h1 g1
      | exact absurd g1 h1
      | exact (h2.elim (g4 h1).1 (g4 h1).2).elim
      | exact (g2.elim (h4 g1).1 (h4 g1).2).elim
      | exact absurd h2 (g5 h1).1
      | exact absurd h2 (g5 h1).2.1
      | exact absurd h2 (g5 h1).2.2.1
      | exact absurd h2 (g5 h1).2.2.2.1
      | exact absurd h2 (g5 h1).2.2.2.2
      | exact absurd g2 (h5 g1).1
      | exact absurd g2 (h5 g1).2.1
      | exact absurd g2 (h5 g1).2.2.1
      | exact absurd g2 (h5 g1).2.2.2.1
      | exact absurd g2 (h5 g1).2.2.2.2
      | exact absurd h2 (g6 h1)
      | exact absurd g2 (h6 g1)
def StepL (cd c0 : Nat) (S : SL) (an : Int32) (S' : SL) : Prop := ∃ (pn : Nat) (bg en : Nat → Nat), SPL cd c0 pn bg en ∧ StpL pn (fun i => en i - bg i) (fun i => sub cd (bg i) (en i - bg i)) S an S'
theorem StepL.det {cd c0 : Nat} {S S1 S2 : SL} {a1 a2 : Int32} (h : StepL cd c0 S a1 S1) (h' : StepL cd c0 S a2 S2) : a1 = a2 ∧ S1 = S2 := by
  obtain ⟨pn, bg, en, s1, h⟩ := h
  obtain ⟨pn', bg', en', s2, h'⟩ := h'
  have hnum := s1.num s2
  subst hnum
  have he := s1.eq s2
  exact h.det (h'.tr (fun i hi => by
    obtain ⟨-, e1, e2⟩ := he i hi
    exact ⟨by show en i - bg i = en' i - bg' i; rw [e1, e2], by show sub cd (bg i) (en i - bg i) = sub cd (bg' i) (en' i - bg' i); rw [e1, e2]⟩))
theorem WordP.ok {cd b m : Nat} : WordP cd b m ↔ WordOk m (sub cd b m) := by
  constructor
  · exact fun h => ⟨h.1, h.2.1, fun j hj => by rw [chr_sub hj]; exact h.2.2 j hj⟩
  · exact fun h => ⟨h.1, h.2.1, fun j hj => by have := h.2.2 j hj; rw [chr_sub hj] at this; exact this⟩
theorem wcp_sub {cd b m : Nat} : wcp (sub cd b m) 0 m = wcp cd b m := wcp_eq m (fun j hj => by rw [Nat.zero_add]; exact chr_sub hj)
theorem WordP.tr {cd ce b b' n : Nat} (he : ∀ j, j < n → chr cd (b + j) = chr ce (b' + j)) (h : WordP cd b n) : WordP ce b' n := ⟨h.1, h.2.1, fun j hj => by rw [← he j hj]; exact h.2.2 j hj⟩
theorem NV.tr {cd ce : Nat} : ∀ {t b b' n R : Nat}, (∀ j, j < n → chr cd (b + j) = chr ce (b' + j)) → NV cd t b n R → NV ce t b' n R
  | 0, _, _, n, _, he, h => ⟨h.1.tr he, h.2.trans (wcp_eq n he)⟩
  | t + 1, b, b', n, R, he, h => by
    rcases h with ⟨h1, h2⟩ | ⟨l, R', h1, h2, h3, h4, h5⟩
    · exact Or.inl ⟨h1.tr he, h2.trans (by rw [wcp_eq n he])⟩
    · refine Or.inr ⟨l, R', h1.tr (fun j hj => he j (by omega)), h2, (he l h2).symm.trans h3, h4.tr (fun j hj => ?_), h5.trans (by rw [wcp_eq l (fun j hj => he j (by omega))])⟩
      have := he (l + 1 + j) (by omega)
      rwa [show b + (l + 1 + j) = b + l + 1 + j by omega, show b' + (l + 1 + j) = b' + l + 1 + j by omega] at this
theorem sub_e {cd b m : Nat} : ∀ j, j < m → chr cd (b + j) = chr (sub cd b m) (0 + j) := fun j hj => by rw [Nat.zero_add, chr_sub hj]
theorem NV.sub {cd b m R : Nat} (h : NV cd 2 b m R) : NV (sub cd b m) 2 0 m R := h.tr sub_e
theorem NmOk.sub {cd b m : Nat} : NmOk m (sub cd b m) ↔ NmR cd 2 b m := by
  constructor
  · intro h
    obtain ⟨R, hR⟩ := NmR.v h
    exact (hR.tr (fun j hj => (sub_e j hj).symm)).ok
  · intro h
    obtain ⟨R, hR⟩ := NmR.v h
    exact hR.sub.ok
theorem lI_eq {a b : Nat} (ha : a < 2 ^ 63) (hb : b < 2 ^ 63) : lI a = lI b ↔ a = b := by
  constructor
  · intro h
    have h2 : (Int64.ofNat a).toInt = (Int64.ofNat b).toInt := congrArg Int64.toInt h
    rw [Int64.toInt_ofNat_of_lt ha, Int64.toInt_ofNat_of_lt hb] at h2
    omega
  · intro h
    rw [h]
theorem NV.ce {n c n' c' R R' : Nat} (h : NV c 2 0 n R) (h' : NV c' 2 0 n' R') : CE n n' c c' ↔ lI R = lI R' := by
  have l1 := h.lt.2
  have l2 := h'.lt.2
  rw [lI_eq (by omega) (by omega)]
  constructor
  · intro q
    obtain ⟨rfl, q2⟩ := q
    exact h.uniq h' (fun j hj => by rw [Nat.zero_add]; exact q2 j hj)
  · intro q
    rw [← q] at h'
    obtain ⟨q1, q2⟩ := h.inj h'
    exact ⟨q1, fun j hj => by have := q2 j hj; rwa [Nat.zero_add] at this⟩
/-- the reference's fields as S tells them -/
def LKS (S : SL) (x : MS) : Prop := (S 0 0 ≤ 8 ∧ x.1 11 = nI (S 0 0)) ∧ (∀ j, j < S 0 0 → x.2.1 12 j = nI (wcp (S 2 j) 0 (S 1 j)) ∧ x.2.1 22 j = nI (S 3 j) ∧ S 3 j ≤ 1 ∧ WordOk (S 1 j) (S 2 j)) ∧ (∀ j, S 0 0 ≤ j → j < 8 → x.2.1 22 j = 0 ∧ x.2.1 13 j = 0 ∧ x.2.1 15 j = 0) ∧ (S 4 0 ≤ 6 ∧ x.1 6 = nI (S 4 0)) ∧ (∀ j, j < S 4 0 → x.2.1 7 j = nI (wcp (S 6 j) 0 (S 5 j)) ∧ WordOk (S 5 j) (S 6 j)) ∧ (∀ j, S 4 0 ≤ j → j < 6 → x.2.1 8 j = 0) ∧ (0 < S 4 0 → x.2.1 8 (S 4 0 - 1) = nI (S 7 0) ∧ S 7 0 ≤ 6 ∧ ∀ t, t < S 7 0 → ∃ R, NV (S 9 t) 2 0 (S 8 t) R ∧ x.2.2 10 (6 * (S 4 0 - 1) + t) = lI R) ∧ (0 < S 0 0 → (x.2.1 13 (S 0 0 - 1) = nI (S 10 0) ∧ S 10 0 ≤ 4 ∧ ∀ t, t < S 10 0 → x.2.1 14 (4 * (S 0 0 - 1) + t) = nI (S 11 t) ∧ S 11 t < S 4 0) ∧ x.2.1 15 (S 0 0 - 1) = nI (S 12 0) ∧ S 12 0 ≤ 4)
section LKSS
variable {S : SL} {x y : MS} {n c j R : Nat}
theorem LKS.kf (L : LKS S x) (q : KpF x y) : LKS S y := by
  obtain ⟨⟨q1, q2⟩, ⟨q3, q4, q5, q6, q7, q8, q9⟩, q10⟩ := q
  unfold LKS at L ⊢
  rw [q1, q2, q3, q4, q5, q6, q7, q8, q9, q10]
  exact L
theorem LKS.a (L : LKS S x) (hj : j < S 4 0) (hw : WordOk n c) : CE (S 5 j) n (S 6 j) c ↔ x.2.1 7 j = nI (wcp c 0 n) := by
  obtain ⟨a1, a2⟩ := L.2.2.2.2.1 j hj
  have b1 := (wcp_dg a2.p).1
  have b2 := (wcp_dg hw.p).1
  have e1 : nI (wcp (S 6 j) 0 (S 5 j)) = nI (wcp c 0 n) ↔ wcp (S 6 j) 0 (S 5 j) = wcp c 0 n := nI_eq (by omega) (by omega)
  rw [a1, e1, wcp_ce a2 hw]
theorem LKS.w (L : LKS S x) (hj : j < S 0 0) : x.2.1 22 j = 0 ↔ S 3 j = 0 := by
  obtain ⟨a1, a2, a3, a4⟩ := L.2.1 j hj
  rw [a2]
  exact nI_eq (b := 0) (by omega) (by decide)
theorem LKS.r (L : LKS S x) (hj : j < S 0 0) (hw : WordOk n c) : RSam S j n c ↔ (x.2.1 12 j = nI (wcp c 0 n) ∧ x.2.1 22 j = 0) := by
  rw [L.w hj]
  obtain ⟨a1, a2, a3, a4⟩ := L.2.1 j hj
  have b1 := (wcp_dg a4.p).1
  have b2 := (wcp_dg hw.p).1
  have e1 : nI (wcp (S 2 j) 0 (S 1 j)) = nI (wcp c 0 n) ↔ wcp (S 2 j) 0 (S 1 j) = wcp c 0 n := nI_eq (by omega) (by omega)
  unfold RSam
  rw [a1, e1, wcp_ce a4 hw]
  exact And.comm
theorem LKS.nm (L : LKS S x) (ha : 0 < S 4 0) (hj : j < S 7 0) (hv : NV c 2 0 n R) : CE (S 8 j) n (S 9 j) c ↔ x.2.2 10 (6 * (S 4 0 - 1) + j) = lI R := by
  obtain ⟨R', h1, h2⟩ := (L.2.2.2.2.2.2.1 ha).2.2 j hj
  rw [h2]
  exact h1.ce hv
theorem LKS.sh (L : LKS S x) : Shut S ↔ (S 0 0 = 0 ∨ ¬ x.2.1 22 (S 0 0 - 1) = 0) := by
  unfold Shut
  rcases Nat.eq_zero_or_pos (S 0 0) with q | q
  · exact ⟨fun _ => Or.inl q, fun _ => Or.inl q⟩
  · rw [L.w (j := S 0 0 - 1) (by omega)]
theorem LKS.addA (L : LKS S x) (hw : WordOk n c) (h6 : S 4 0 < 6) : LKS (addA S n c) (seti (seta x 7 (S 4 0) (nI (wcp c 0 n))) 6 (nI (S 4 0 + 1))) := by
  obtain ⟨l1, l2, l3, l4, l5, l6, l7, l8⟩ := L
  refine ⟨l1, l2, l3, ⟨h6, rfl⟩, fun j hj => ?_, fun j h1 h2 => l6 j (by have h3 : S 4 0 + 1 ≤ j := h1; omega) h2, fun _ => ⟨?_, Nat.zero_le _, fun t ht => absurd ht (Nat.not_lt_zero _)⟩, fun h0 => ?_⟩
  · have hj2 : j < S 4 0 + 1 := hj
    show upd (x.2.1 7) (S 4 0) (nI (wcp c 0 n)) j = nI (wcp (va_up (S 6) (S 4 0) c j) 0 (va_up (S 5) (S 4 0) n j)) ∧ WordOk (va_up (S 5) (S 4 0) n j) (va_up (S 6) (S 4 0) c j)
    by_cases e : j = S 4 0
    · rw [e, va_up_self, va_up_self, pk_us]
      exact ⟨rfl, hw⟩
    · rw [va_up_ne _ _ e, va_up_ne _ _ e, pk_un e]
      exact l5 j (by omega)
  · show x.2.1 8 (S 4 0 + 1 - 1) = nI 0
    rw [Nat.add_sub_cancel]
    exact l6 _ (Nat.le_refl _) h6
  · obtain ⟨⟨g1, g2, g3⟩, g4⟩ := l8 h0
    exact ⟨⟨g1, g2, fun t ht => ⟨(g3 t ht).1, Nat.lt_succ_of_lt (g3 t ht).2⟩⟩, g4⟩
theorem LKS.addN (L : LKS S x) (h0 : 0 < S 4 0) (h6 : S 7 0 < 6) (hv : NV c 2 0 n R) : LKS (addN S n c) (seta (setl x 10 (6 * (S 4 0 - 1) + S 7 0) (lI R)) 8 (S 4 0 - 1) (nI (S 7 0 + 1))) := by
  obtain ⟨l1, l2, l3, l4, l5, l6, l7, l8⟩ := L
  refine ⟨l1, l2, l3, l4, l5, fun j h1 h2 => ?_, fun _ => ⟨?_, h6, fun t ht => ?_⟩, l8⟩
  · show upd (x.2.1 8) (S 4 0 - 1) (nI (S 7 0 + 1)) j = 0
    have h3 : S 4 0 ≤ j := h1
    rw [pk_un (by omega)]
    exact l6 j h3 h2
  · show upd (x.2.1 8) (S 4 0 - 1) (nI (S 7 0 + 1)) (S 4 0 - 1) = nI (S 7 0 + 1)
    exact pk_us
  · have ht2 : t < S 7 0 + 1 := ht
    show ∃ R', NV (va_up (S 9) (S 7 0) c t) 2 0 (va_up (S 8) (S 7 0) n t) R' ∧ vp_updL (x.2.2 10) (6 * (S 4 0 - 1) + S 7 0) (lI R) (6 * (S 4 0 - 1) + t) = lI R'
    by_cases e : t = S 7 0
    · rw [e, va_up_self, va_up_self]
      exact ⟨R, hv, pk_uLs⟩
    · rw [va_up_ne _ _ e, va_up_ne _ _ e, pk_uLn (by omega)]
      exact (l7 h0).2.2 t (by omega)
theorem LKS.addR (L : LKS S x) (hw : WordOk n c) (h8 : S 0 0 < 8) : LKS (addR S n c) (seti (seta (seta x 12 (S 0 0) (nI (wcp c 0 n))) 17 (S 0 0) (-1)) 11 (nI (S 0 0 + 1))) := by
  obtain ⟨l1, l2, l3, l4, l5, l6, l7, l8⟩ := L
  refine ⟨⟨h8, rfl⟩, fun j hj => ?_, fun j h1 h2 => l3 j (by have h3 : S 0 0 + 1 ≤ j := h1; omega) h2, l4, l5, l6, l7, fun _ => ⟨⟨?_, Nat.zero_le _, fun t ht => absurd ht (Nat.not_lt_zero _)⟩, ?_, Nat.zero_le _⟩⟩
  · have hj2 : j < S 0 0 + 1 := hj
    show upd (x.2.1 12) (S 0 0) (nI (wcp c 0 n)) j = nI (wcp (va_up (S 2) (S 0 0) c j) 0 (va_up (S 1) (S 0 0) n j)) ∧ x.2.1 22 j = nI (va_up (S 3) (S 0 0) 0 j) ∧ va_up (S 3) (S 0 0) 0 j ≤ 1 ∧ WordOk (va_up (S 1) (S 0 0) n j) (va_up (S 2) (S 0 0) c j)
    by_cases e : j = S 0 0
    · rw [e, va_up_self, va_up_self, va_up_self, pk_us, (l3 (S 0 0) (Nat.le_refl _) h8).1]
      exact ⟨rfl, rfl, by decide, hw⟩
    · rw [va_up_ne _ _ e, va_up_ne _ _ e, va_up_ne _ _ e, pk_un e]
      exact l2 j (by omega)
  · show x.2.1 13 (S 0 0 + 1 - 1) = nI 0
    rw [Nat.add_sub_cancel]
    exact (l3 _ (Nat.le_refl _) h8).2.1
  · show x.2.1 15 (S 0 0 + 1 - 1) = nI 0
    rw [Nat.add_sub_cancel]
    exact (l3 _ (Nat.le_refl _) h8).2.2
theorem LKS.addL (L : LKS S x) (h0 : 0 < S 0 0) (h4 : S 10 0 < 4) (hj : j < S 4 0) : LKS (addL S j) (seta (seta x 14 (4 * (S 0 0 - 1) + S 10 0) (nI j)) 13 (S 0 0 - 1) (nI (S 10 0 + 1))) := by
  obtain ⟨l1, l2, l3, l4, l5, l6, l7, l8⟩ := L
  obtain ⟨⟨g1, g2, g3⟩, g4⟩ := l8 h0
  refine ⟨l1, l2, fun i h1 h2 => ?_, l4, l5, l6, l7, fun _ => ⟨⟨?_, h4, fun t ht => ?_⟩, g4⟩⟩
  · have h3 : S 0 0 ≤ i := h1
    refine ⟨(l3 i h3 h2).1, ?_, (l3 i h3 h2).2.2⟩
    show upd (x.2.1 13) (S 0 0 - 1) (nI (S 10 0 + 1)) i = 0
    rw [pk_un (by omega)]
    exact (l3 i h3 h2).2.1
  · show upd (x.2.1 13) (S 0 0 - 1) (nI (S 10 0 + 1)) (S 0 0 - 1) = nI (S 10 0 + 1)
    exact pk_us
  · have ht2 : t < S 10 0 + 1 := ht
    show upd (x.2.1 14) (4 * (S 0 0 - 1) + S 10 0) (nI j) (4 * (S 0 0 - 1) + t) = nI (va_up (S 11) (S 10 0) j t) ∧ va_up (S 11) (S 10 0) j t < S 4 0
    by_cases e : t = S 10 0
    · rw [e, va_up_self, pk_us]
      exact ⟨rfl, hj⟩
    · rw [va_up_ne _ _ e, pk_un (by omega)]
      exact g3 t (by omega)
theorem LKS.addI {k1 : Nat} {v1 : Int64} {v2 : Int32} (L : LKS S x) (h0 : 0 < S 0 0) (h4 : S 12 0 < 4) : LKS (addI S) (seta (seta (setl x 20 k1 v1) 16 k1 v2) 15 (S 0 0 - 1) (nI (S 12 0 + 1))) := by
  obtain ⟨l1, l2, l3, l4, l5, l6, l7, l8⟩ := L
  obtain ⟨g1, g4⟩ := l8 h0
  refine ⟨l1, l2, fun i h1 h2 => ?_, l4, l5, l6, l7, fun _ => ⟨g1, ?_, h4⟩⟩
  · have h3 : S 0 0 ≤ i := h1
    refine ⟨(l3 i h3 h2).1, (l3 i h3 h2).2.1, ?_⟩
    show upd (x.2.1 15) (S 0 0 - 1) (nI (S 12 0 + 1)) i = 0
    rw [pk_un (by omega)]
    exact (l3 i h3 h2).2.2
  · show upd (x.2.1 15) (S 0 0 - 1) (nI (S 12 0 + 1)) (S 0 0 - 1) = nI (S 12 0 + 1)
    exact pk_us
theorem LKS.drop (L : LKS S x) (hj : j < S 0 0) : LKS (dropS S j) (seta (seti x 0 0) 22 j 1) := by
  obtain ⟨l1, l2, l3, l4, l5, l6, l7, l8⟩ := L
  refine ⟨l1, fun i hi => ?_, fun i h1 h2 => ?_, l4, l5, l6, l7, l8⟩
  · obtain ⟨a1, a2, a3, a4⟩ := l2 i hi
    refine ⟨a1, ?_, ?_, a4⟩
    · show upd (x.2.1 22) j 1 i = nI (va_up (S 3) j 1 i)
      by_cases e : i = j
      · rw [e, pk_us, va_up_self]
        rfl
      · rw [pk_un e, va_up_ne _ _ e]
        exact a2
    · show va_up (S 3) j 1 i ≤ 1
      by_cases e : i = j
      · rw [e, va_up_self]
        exact Nat.le_refl _
      · rw [va_up_ne _ _ e]
        exact a3
  · have h3 : S 0 0 ≤ i := h1
    refine ⟨?_, (l3 i h3 h2).2⟩
    show upd (x.2.1 22) j 1 i = 0
    rw [pk_un (by omega)]
    exact (l3 i h3 h2).1
end LKSS
theorem CE.word {n n' c c' : Nat} (h : CE n n' c c') (w : WordOk n c) : WordOk n' c' := by
  obtain ⟨rfl, h2⟩ := h
  exact ⟨w.1, w.2.1, fun j hj => by rw [← h2 j hj]; exact w.2.2 j hj⟩
theorem fst_ex {P : Nat → Prop} : ∀ N, (∃ j, j < N ∧ P j) → ∃ j, j < N ∧ P j ∧ ∀ t, t < j → ¬ P t
  | 0, h => by
    obtain ⟨j, hj, -⟩ := h
    exact absurd hj (Nat.not_lt_zero _)
  | N + 1, h => by
    by_cases q : ∃ j, j < N ∧ P j
    · obtain ⟨j, h1, h2, h3⟩ := fst_ex N q
      exact ⟨j, by omega, h2, h3⟩
    · obtain ⟨j, hj, hp⟩ := h
      exact ⟨j, hj, hp, fun t ht hq => q ⟨t, by omega, hq⟩⟩
theorem ANo.of {S : SL} {n c : Nat} (h : ∀ j, ¬ AFst S n c j) : ANo S n c := fun j hj q => by
  obtain ⟨i, h1, h2, h3⟩ := fst_ex (P := fun t => CE (S 5 t) n (S 6 t) c) (S 4 0) ⟨j, hj, q⟩
  exact h i ⟨h1, h2, h3⟩
theorem RFst.u {S : SL} {n c i j : Nat} (h : RFst S n c i) (h' : RFst S n c j) : i = j := fst_u (P := fun t => RSam S t n c) h.2.1 h.2.2 h'.2.1 h'.2.2
theorem LKS.aw {S : SL} {x : MS} {n c j : Nat} (L : LKS S x) (h : AFst S n c j) : WordOk n c := h.2.1.word (L.2.2.2.2.1 j h.1).2
theorem LKS.rw {S : SL} {x : MS} {n c j : Nat} (L : LKS S x) (h : RFst S n c j) : WordOk n c := h.2.1.2.word (L.2.1 j h.1).2.2.2
theorem LKS.li {S : SL} {x : MS} {g : Nat} (L : LKS S x) (h0 : 0 < S 0 0) (hg : g < S 4 0) : LIn S g ↔ ∃ t, t < S 10 0 ∧ x.2.1 14 (4 * (S 0 0 - 1) + t) = nI g := by
  obtain ⟨⟨g1, g2, g3⟩, -⟩ := L.2.2.2.2.2.2.2 h0
  have h6 := L.2.2.2.1.1
  constructor
  · intro h
    obtain ⟨t, ht, e⟩ := h
    exact ⟨t, ht, by rw [(g3 t ht).1, e]⟩
  · intro h
    obtain ⟨t, ht, e⟩ := h
    refine ⟨t, ht, ?_⟩
    rw [(g3 t ht).1] at e
    have := (g3 t ht).2
    exact (nI_eq (by omega) (by omega)).mp e
/-- a part that is a told word, by its characters -/
theorem IS.iff {cd : Nat} {bg en : Nat → Nat} {i κ : Nat} (hb : bg i < en i) : IS (fun i => en i - bg i) (fun i => sub cd (bg i) (en i - bg i)) i κ ↔ (en i = bg i + ln κ ∧ ∀ t, t < ln κ → chr cd (bg i + t) = chr (kc κ) t) := by
  constructor
  · intro h
    have h1 : en i - bg i = ln κ := h.1
    refine ⟨by omega, fun t ht => ?_⟩
    have h2 := h.2 t (by show t < en i - bg i; omega)
    have h3 : chr (sub cd (bg i) (en i - bg i)) t = chr (kc κ) t := h2
    rw [chr_sub (by omega)] at h3
    exact h3
  · intro h
    obtain ⟨h1, h2⟩ := h
    have h3 : en i - bg i = ln κ := by omega
    refine ⟨h3, fun t ht => ?_⟩
    have h4 : t < en i - bg i := ht
    show chr (sub cd (bg i) (en i - bg i)) t = chr (kc κ) t
    rw [chr_sub h4]
    exact h2 t (by omega)
theorem Bad.of {pn κ : Nat} {n c : Nat → Nat} (h0 : pn ≠ 0) (hk : IS n c 0 κ) (hκ : 0 < κ ∧ κ < 10) (h1 : pn = 1 → κ ≠ 8 ∧ κ ≠ 9) (h2 : pn = 2 → ¬ (1 ≤ κ ∧ κ ≤ 5)) (h4 : pn = 4 → κ = 6 → ¬ IS n c 2 7) : Bad pn n c := by
  have ne : ∀ κ', 0 < κ' → κ' < 10 → κ ≠ κ' → ¬ IS n c 0 κ' := fun κ' q1 q2 q3 q4 => q3 (is_ne hk q4 hκ.1 hκ.2 q1 q2)
  refine ⟨h0, fun q => ⟨ne 8 (by decide) (by decide) (h1 q).1, ne 9 (by decide) (by decide) (h1 q).2⟩, fun q => ?_, fun q z => ?_⟩
  · have := h2 q
    exact ⟨ne 1 (by decide) (by decide) (by omega), ne 2 (by decide) (by decide) (by omega), ne 3 (by decide) (by decide) (by omega), ne 4 (by decide) (by decide) (by omega), ne 5 (by decide) (by decide) (by omega)⟩
  · exact h4 q (is_ne hk z.1 hκ.1 hκ.2 (by decide) (by decide)) z.2
section ANS
variable {S S' : SL} {n c n2 c2 : Nat} {an : Int32}
theorem DoA.rg (h : DoA S n c an S') : an = -1 ∨ an = -2 ∨ ¬ an < 0 := by
  rcases h with h | h | h
  · exact Or.inl h.1
  · exact Or.inr (Or.inl h.1)
  · exact Or.inr (Or.inr (by rw [h.1]; decide))
theorem DoR.rg (h : DoR S n c an S') : an = -1 ∨ an = -2 ∨ ¬ an < 0 := by
  rcases h with h | h | h
  · exact Or.inl h.1
  · exact Or.inr (Or.inl h.1)
  · exact Or.inr (Or.inr (by rw [h.1]; decide))
theorem DoN.rg (h : DoN S n c an S') : an = -1 ∨ an = -2 ∨ ¬ an < 0 := by
  rcases h with h | h | h
  · exact Or.inl h.1
  · exact Or.inr (Or.inl h.1)
  · exact Or.inr (Or.inr (by rw [h.1]; decide))
theorem DoL.rg (h : DoL S n c an S') : an = -1 ∨ an = -2 ∨ ¬ an < 0 := by
  rcases h with h | h | h
  · exact Or.inl h.1
  · exact Or.inr (Or.inl h.1)
  · exact Or.inr (Or.inr (by rw [h.1]; decide))
theorem DoP.rg (h : DoP S n c an S') : an = -1 ∨ an = -2 ∨ ¬ an < 0 := by
  rcases h.2 with h | h | h
  · exact Or.inl h.1
  · exact Or.inr (Or.inl h.1)
  · exact Or.inr (Or.inr (by rw [h.1]; decide))
theorem DoO.rg (h : DoO S an S') : an = -1 ∨ an = -2 ∨ ¬ an < 0 := by
  rcases h.2 with h | h
  · exact Or.inr (Or.inl h.1)
  · exact Or.inr (Or.inr (by rw [h.1]; decide))
theorem DoI.rg (h : DoI S n c n2 c2 an S') : an = -1 ∨ an = -2 ∨ ¬ an < 0 := by
  rcases h with h | h | h
  · exact Or.inl h.1
  · exact Or.inr (Or.inl h.1)
  · exact Or.inr (Or.inr (by rw [h.1]; decide))
end ANS
theorem kch1 : chr (kc 1) 0 = 97 ∧ chr (kc 1) 1 = 114 ∧ chr (kc 1) 2 = 99 ∧ chr (kc 1) 3 = 104 ∧ chr (kc 1) 4 = 105 ∧ chr (kc 1) 5 = 118 ∧ chr (kc 1) 6 = 101 := by decide +kernel
theorem kch2 : chr (kc 2) 0 = 110 ∧ chr (kc 2) 1 = 97 ∧ chr (kc 2) 2 = 109 ∧ chr (kc 2) 3 = 101 := by decide +kernel
theorem kch3 : chr (kc 3) 0 = 114 ∧ chr (kc 3) 1 = 101 ∧ chr (kc 3) 2 = 97 ∧ chr (kc 3) 3 = 108 ∧ chr (kc 3) 4 = 109 := by decide +kernel
theorem kch4 : chr (kc 4) 0 = 108 ∧ chr (kc 4) 1 = 111 ∧ chr (kc 4) 2 = 97 ∧ chr (kc 4) 3 = 100 := by decide +kernel
theorem kch5 : chr (kc 5) 0 = 112 ∧ chr (kc 5) 1 = 97 ∧ chr (kc 5) 2 = 114 ∧ chr (kc 5) 3 = 101 ∧ chr (kc 5) 4 = 110 ∧ chr (kc 5) 5 = 116 := by decide +kernel
theorem kch6 : chr (kc 6) 0 = 105 ∧ chr (kc 6) 1 = 109 ∧ chr (kc 6) 2 = 112 ∧ chr (kc 6) 3 = 111 ∧ chr (kc 6) 4 = 114 ∧ chr (kc 6) 5 = 116 := by decide +kernel
theorem kch7 : chr (kc 7) 0 = 102 ∧ chr (kc 7) 1 = 114 ∧ chr (kc 7) 2 = 111 ∧ chr (kc 7) 3 = 109 := by decide +kernel
theorem kch8 : chr (kc 8) 0 = 102 ∧ chr (kc 8) 1 = 105 ∧ chr (kc 8) 2 = 114 ∧ chr (kc 8) 3 = 115 ∧ chr (kc 8) 4 = 116 := by decide +kernel
theorem kch9 : chr (kc 9) 0 = 115 ∧ chr (kc 9) 1 = 101 ∧ chr (kc 9) 2 = 108 ∧ chr (kc 9) 3 = 102 := by decide +kernel
