/-! up and search of the reference. -/
def pushS (x : MS) (v : Int32) (t k : Nat) : MS := seti (if k < 20 then seta (seti (seta (seta x 26 t v) 27 t 0) 24 (nI (t + 1))) 28 k v else seti (seta (seta x 26 t v) 27 t 0) 24 (nI (t + 1))) 25 (nI (k + 1))
def sumf (f : Nat → Nat) : Nat → Nat
  | 0 => 0
  | n + 1 => sumf f n + f n
theorem sumf_congr {f g : Nat → Nat} : ∀ n, (∀ k, k < n → f k = g k) → sumf f n = sumf g n
  | 0, _ => rfl
  | n + 1, h => by
    show sumf f n + f n = sumf g n + g n
    rw [sumf_congr n (fun k hk => h k (by omega)), h n (by omega)]
/-- the realm s at the stage t has its parent still before it -/
def pnd (x : MS) (s t : Nat) : Bool := (decide (x.2.1 23 s = 1) && decide (t ≤ 1)) || (decide (x.2.1 23 s = 0) && decide (t ≤ 2))
def pw (x : MS) (s t : Nat) : Nat := if pnd x s t = true then 5 * s else 0
def mu (x : MS) (sf tf : Nat → Nat) : Nat → Nat
  | 0 => 0
  | k + 1 => sumf (fun j => 4 - tf j) (k + 1) + pw x (sf k) (tf k)
theorem pnd_mono {x : MS} {s t : Nat} (h : pnd x s (t + 1) = true) : pnd x s t = true := by
  simp only [pnd, Bool.or_eq_true, Bool.and_eq_true, decide_eq_true_eq] at h ⊢
  rcases h with h | h
  · exact Or.inl ⟨h.1, by omega⟩
  · exact Or.inr ⟨h.1, by omega⟩
theorem pw_mono {x : MS} {s t : Nat} : pw x s (t + 1) ≤ pw x s t := by
  unfold pw
  by_cases h : pnd x s (t + 1) = true
  · rw [if_pos h, if_pos (pnd_mono h)]; exact Nat.le_refl _
  · rw [if_neg h]; exact Nat.zero_le _
theorem mu_stage {x : MS} {sf tf : Nat → Nat} {k : Nat} (h : tf k ≤ 3) : mu x sf (fun j => if j = k then tf k + 1 else tf j) (k + 1) + 1 ≤ mu x sf tf (k + 1) := by
  show sumf (fun j => 4 - (if j = k then tf k + 1 else tf j)) k + (4 - (if k = k then tf k + 1 else tf k)) + pw x (sf k) (if k = k then tf k + 1 else tf k) + 1 ≤ sumf (fun j => 4 - tf j) k + (4 - tf k) + pw x (sf k) (tf k)
  rw [if_pos rfl, sumf_congr k (g := fun j => 4 - tf j) (fun j hj => by simp only [if_neg (Nat.ne_of_lt hj)])]
  have := pw_mono (x := x) (s := sf k) (t := tf k)
  omega
theorem mu_pop {x : MS} {sf tf : Nat → Nat} {k : Nat} (h : tf k = 3) (hp : ∀ j, j + 1 = k → pnd x (sf j) (tf j) = false) : mu x sf tf k + 1 ≤ mu x sf tf (k + 1) := by
  show mu x sf tf k + 1 ≤ sumf (fun j => 4 - tf j) k + (4 - tf k) + pw x (sf k) (tf k)
  cases k with
  | zero =>
    show 0 + 1 ≤ 0 + (4 - tf 0) + pw x (sf 0) (tf 0)
    omega
  | succ j =>
    show sumf (fun j => 4 - tf j) (j + 1) + pw x (sf j) (tf j) + 1 ≤ _
    have : pw x (sf j) (tf j) = 0 := by unfold pw; rw [if_neg (by rw [hp j rfl]; decide)]
    omega
theorem mu_push {x : MS} {sf tf : Nat → Nat} {k g : Nat} (h : tf k ≤ 3) (hg : g < sf k) (h1 : pnd x (sf k) (tf k) = true) : mu x (fun j => if j = k + 1 then g else sf j) (fun j => if j = k + 1 then 0 else if j = k then tf k + 1 else tf j) (k + 2) + 1 ≤ mu x sf tf (k + 1) := by
  show sumf (fun j => 4 - (if j = k + 1 then 0 else if j = k then tf k + 1 else tf j)) k + (4 - (if k = k + 1 then 0 else if k = k then tf k + 1 else tf k)) + (4 - (if k + 1 = k + 1 then 0 else if k + 1 = k then tf k + 1 else tf (k + 1))) + pw x (if k + 1 = k + 1 then g else sf (k + 1)) (if k + 1 = k + 1 then 0 else if k + 1 = k then tf k + 1 else tf (k + 1)) + 1 ≤ sumf (fun j => 4 - tf j) k + (4 - tf k) + pw x (sf k) (tf k)
  rw [sumf_congr k (g := fun j => 4 - tf j) (fun j hj => by simp only [if_neg (show ¬ j = k + 1 by omega), if_neg (Nat.ne_of_lt hj)]), if_neg (show ¬ k = k + 1 by omega), if_pos (rfl : k = k), if_pos (rfl : k + 1 = k + 1), if_pos (rfl : k + 1 = k + 1)]
  have q1 : pw x (sf k) (tf k) = 5 * sf k := by unfold pw; rw [if_pos h1]
  have q2 : pw x g 0 ≤ 5 * g := by
    unfold pw
    by_cases q : pnd x g 0 = true
    · rw [if_pos q]; exact Nat.le_refl _
    · rw [if_neg q]; exact Nat.zero_le _
  omega
/-- what holds of the search's stack: op realms sf at the stages tf -/
def SI (x y : MS) (op mk : Nat) (sf tf : Nat → Nat) (nv : Int64) (kp : Nat → Nat) (r : Nat) : Prop := Fx [24, 25] [9, 26, 27, 28] [] x y ∧ y.1 24 = nI op ∧ y.1 25 = nI mk ∧ (∀ k, k < op → y.2.1 26 k = nI (sf k) ∧ sf k < r ∧ y.2.1 27 k = nI (tf k) ∧ tf k ≤ 3 ∧ ∀ j, j < kp (sf k) → x.2.2 21 (36 * sf k + j) ≠ nv) ∧ ∀ k, k + 1 < op → sf (k + 1) < sf k ∧ pnd x (sf k) (tf k) = false
theorem SI.le {x y : MS} {op mk : Nat} {sf tf : Nat → Nat} {nv : Int64} {kp : Nat → Nat} {r : Nat} (h : SI x y op mk sf tf nv kp r) : ∀ k, k < op → sf k + k < r := by
  intro k
  induction k with
  | zero => intro hk; exact (h.2.2.2.1 0 hk).2.1
  | succ k ih =>
    intro hk
    have q1 := ih (by omega)
    have q2 := (h.2.2.2.2 k hk).1
    omega
theorem SI.stage {x y y3 : MS} {k mk mk' : Nat} {sf tf : Nat → Nat} {nv : Int64} {kp : Nat → Nat} {r : Nat} (h : SI x y (k + 1) mk sf tf nv kp r) (h2 : tf k ≤ 2) (hf : Fx [25] [9, 28] [] (seta y 27 k (nI (tf k + 1))) y3) (hk : y3.1 25 = nI mk') : SI x y3 (k + 1) mk' sf (fun j => if j = k then tf k + 1 else tf j) nv kp r := by
  obtain ⟨a1, a2, a3, a4, a5⟩ := h
  refine ⟨((a1.a (by decide)).tr (hf.le (by decide) (by decide) (by decide))), (hf.1 24 (by decide)).trans a2, hk, fun j hj => ?_, fun j hj => ?_⟩
  · obtain ⟨b1, b2, b3, b4, b5⟩ := a4 j hj
    have e26 : y3.2.1 26 = y.2.1 26 := hf.2.1 26 (by decide)
    have e27 : y3.2.1 27 = upd (y.2.1 27) k (nI (tf k + 1)) := hf.2.1 27 (by decide)
    refine ⟨by rw [e26]; exact b1, b2, ?_, ?_, b5⟩
    · rw [e27]
      by_cases q : j = k
      · simp only [if_pos q]; rw [q]; exact pk_us
      · simp only [if_neg q]; rw [pk_un q]; exact b3
    · by_cases q : j = k
      · simp only [if_pos q]; omega
      · simp only [if_neg q]; exact b4
  · have q : ¬ j = k := by omega
    simp only [if_neg q]
    exact a5 j hj
theorem SI.pop {x y : MS} {k mk : Nat} {sf tf : Nat → Nat} {nv : Int64} {kp : Nat → Nat} {r : Nat} {v : Int32} (h : SI x y (k + 1) mk sf tf nv kp r) : SI x (seti (seta y 27 k v) 24 (nI k)) k mk sf tf nv kp r := by
  obtain ⟨a1, a2, a3, a4, a5⟩ := h
  refine ⟨(a1.a (by decide)).i (by decide), rfl, a3, fun j hj => ?_, fun j hj => a5 j (by omega)⟩
  obtain ⟨b1, b2, b3, b4, b5⟩ := a4 j (by omega)
  exact ⟨b1, b2, (pk_un (show j ≠ k by omega)).trans b3, b4, b5⟩
theorem SI.push {x y : MS} {k mk g : Nat} {sf tf : Nat → Nat} {nv : Int64} {kp : Nat → Nat} {r : Nat} (h : SI x y (k + 1) mk sf tf nv kp r) (h2 : tf k ≤ 2) (hg : g < sf k) (hno : ∀ j, j < kp g → x.2.2 21 (36 * g + j) ≠ nv) (hp : pnd x (sf k) (tf k + 1) = false) : SI x (pushS (seta y 27 k (nI (tf k + 1))) (nI g) (k + 1) mk) (k + 2) (mk + 1) (fun j => if j = k + 1 then g else sf j) (fun j => if j = k + 1 then 0 else if j = k then tf k + 1 else tf j) nv kp r := by
  obtain ⟨a1, a2, a3, a4, a5⟩ := h
  have hgr := (a4 k (by omega)).2.1
  have e24 : (pushS (seta y 27 k (nI (tf k + 1))) (nI g) (k + 1) mk).1 24 = nI (k + 2) := by
    unfold pushS
    by_cases q : mk < 20
    · rw [if_pos q]; rfl
    · rw [if_neg q]; rfl
  have e26 : (pushS (seta y 27 k (nI (tf k + 1))) (nI g) (k + 1) mk).2.1 26 = upd (y.2.1 26) (k + 1) (nI g) := by
    unfold pushS
    by_cases q : mk < 20
    · rw [if_pos q]; rfl
    · rw [if_neg q]; rfl
  have e27 : (pushS (seta y 27 k (nI (tf k + 1))) (nI g) (k + 1) mk).2.1 27 = upd (upd (y.2.1 27) k (nI (tf k + 1))) (k + 1) 0 := by
    unfold pushS
    by_cases q : mk < 20
    · rw [if_pos q]; rfl
    · rw [if_neg q]; rfl
  refine ⟨?_, e24, rfl, fun j hj => ?_, fun j hj => ?_⟩
  · unfold pushS
    by_cases q : mk < 20
    · rw [if_pos q]; exact (((((a1.a (by decide)).a (by decide)).a (by decide)).i (by decide)).a (by decide)).i (by decide)
    · rw [if_neg q]; exact ((((a1.a (by decide)).a (by decide)).a (by decide)).i (by decide)).i (by decide)
  · rw [e26, e27]
    by_cases q : j = k + 1
    · simp only [if_pos q]
      rw [q]
      exact ⟨pk_us, by omega, pk_us, by omega, hno⟩
    · obtain ⟨b1, b2, b3, b4, b5⟩ := a4 j (by omega)
      simp only [if_neg q]
      rw [pk_un q, pk_un q]
      refine ⟨b1, b2, ?_, ?_, b5⟩
      · by_cases q2 : j = k
        · simp only [if_pos q2]; rw [q2]; exact pk_us
        · simp only [if_neg q2]; rw [pk_un q2]; exact b3
      · by_cases q2 : j = k
        · simp only [if_pos q2]; omega
        · simp only [if_neg q2]; exact b4
  · by_cases q : j = k
    · have q1 : ¬ k = k + 1 := by omega
      rw [q]
      simp only [if_pos, if_neg q1]
      exact ⟨hg, hp⟩
    · have q1 : ¬ j = k + 1 := by omega
      have q2 : ¬ j + 1 = k + 1 := by omega
      simp only [if_neg q1, if_neg q2, if_neg q]
      exact a5 j (by omega)
theorem IKp.room {x : MS} {nm kp : Nat → Nat} {q : Nat} {nv : Int64} (h : IKp x nm kp) (hn : INm x nm) (hq : q < 8) {b t : Nat} (hb : b < 6) (ht : t < nm b) (e : nv = x.2.2 10 (6 * b + t)) (hno : ∀ j, j < kp q → x.2.2 21 (36 * q + j) ≠ nv) : kp q < 36 := by
  obtain ⟨-, h2, h3⟩ := h q hq
  have hb6 := (hn b hb).2
  have h4 : ∀ j, ∃ u, j < kp q → u < 36 ∧ x.2.2 21 (36 * q + j) = x.2.2 10 u := by
    intro j
    by_cases hj : j < kp q
    · obtain ⟨-, b', t', hb', ht', e'⟩ := h2 j hj
      have := (hn b' hb').2
      exact ⟨6 * b' + t', fun _ => ⟨by omega, e'⟩⟩
    · exact ⟨0, fun z => absurd z hj⟩
  have := pigeon 36 (kp q + 1) (fun j => if j < kp q then Classical.choose (h4 j) else 6 * b + t) (fun j hj => by
    by_cases z : j < kp q
    · simp only [if_pos z]; exact (Classical.choose_spec (h4 j) z).1
    · simp only [if_neg z]; omega) (fun i j hi hj z => by
    by_cases zi : i < kp q <;> by_cases zj : j < kp q
    · simp only [if_pos zi, if_pos zj] at z
      have q1 := (Classical.choose_spec (h4 i) zi).2
      have q2 := (Classical.choose_spec (h4 j) zj).2
      exact h3 i j zi zj (by rw [q1, q2]; exact congrArg (x.2.2 10) z)
    · simp only [if_pos zi, if_neg zj] at z
      have q1 := (Classical.choose_spec (h4 i) zi).2
      exact absurd (by rw [q1, z]; exact e.symm) (hno i zi)
    · simp only [if_neg zi, if_pos zj] at z
      have q1 := (Classical.choose_spec (h4 j) zj).2
      exact absurd (by rw [q1, ← z]; exact e.symm) (hno j zj)
    · omega)
  omega
theorem IKp.keep {x : MS} {nm kp : Nat → Nat} {q w : Nat} {nv : Int64} {vw : Int32} (h : IKp x nm kp) (hN : INm x nm) (hq : q < 8) (hr : kp q < 36) {b t : Nat} (hb : b < 6) (ht : t < nm b) (e : nv = x.2.2 10 (6 * b + t)) (hno : ∀ j, j < kp q → x.2.2 21 (36 * q + j) ≠ nv) (hw : w < 128) (hvw : vw = nI (kp q + 1)) :
    IKp (seta (seta (setl x 21 (36 * q + kp q) nv) 19 (36 * q + kp q) (nI w)) 18 q vw) nm (fun i => if i = q then kp q + 1 else kp i) := by
  intro i hi
  obtain ⟨h1, h2, h3⟩ := h i hi
  have hil : kp i ≤ 36 := h.le hN hi
  show upd (x.2.1 18) q vw i = nI (if i = q then kp q + 1 else kp i) ∧ (∀ j, j < (if i = q then kp q + 1 else kp i) → (∃ g, g < 128 ∧ upd (x.2.1 19) (36 * q + kp q) (nI w) (36 * i + j) = nI g) ∧ ∃ b t, b < 6 ∧ t < nm b ∧ vp_updL (x.2.2 21) (36 * q + kp q) nv (36 * i + j) = x.2.2 10 (6 * b + t)) ∧ ∀ j j', j < (if i = q then kp q + 1 else kp i) → j' < (if i = q then kp q + 1 else kp i) → vp_updL (x.2.2 21) (36 * q + kp q) nv (36 * i + j) = vp_updL (x.2.2 21) (36 * q + kp q) nv (36 * i + j') → j = j'
  by_cases hiq : i = q
  · subst hiq
    simp only [if_pos]
    refine ⟨pk_us.trans hvw, fun j hj => ?_, fun j j' hj hj' => ?_⟩
    · by_cases hjk : j = kp i
      · rw [hjk]; exact ⟨⟨w, hw, pk_us⟩, b, t, hb, ht, pk_uLs.trans e⟩
      · rw [pk_un (show 36 * i + j ≠ 36 * i + kp i by omega), pk_uLn (show 36 * i + j ≠ 36 * i + kp i by omega)]
        exact h2 j (by omega)
    · by_cases hjk : j = kp i <;> by_cases hjk' : j' = kp i
      · intro _; omega
      · rw [hjk, pk_uLs, pk_uLn (show 36 * i + j' ≠ 36 * i + kp i by omega)]
        intro z
        exact absurd z.symm (hno j' (by omega))
      · rw [hjk', pk_uLs, pk_uLn (show 36 * i + j ≠ 36 * i + kp i by omega)]
        intro z
        exact absurd z (hno j (by omega))
      · rw [pk_uLn (show 36 * i + j ≠ 36 * i + kp i by omega), pk_uLn (show 36 * i + j' ≠ 36 * i + kp i by omega)]
        exact h3 j j' (by omega) (by omega)
  · simp only [if_neg hiq]
    refine ⟨(pk_un hiq).trans h1, fun j hj => ?_, fun j j' hj hj' => ?_⟩
    · rw [pk_un (show 36 * i + j ≠ 36 * q + kp q by omega), pk_uLn (show 36 * i + j ≠ 36 * q + kp q by omega)]
      exact h2 j hj
    · rw [pk_uLn (show 36 * i + j ≠ 36 * q + kp q by omega), pk_uLn (show 36 * i + j' ≠ 36 * q + kp q by omega)]
      exact h3 j j' hj hj'
section M9
variable {l : Launch} {D : va_G} {z0 : Nat} {E : State → Prop} {am : Nat} {ad : Nat → Nat}
set_option maxHeartbeats 4000000 in
theorem mc_upN (hSt : Stb z0 E) (hA : Ad am ad) (x : MS) (nv : Int64) : MC l y_189 prog_8_method_35_code 5 (Option.some Jvm.ClassFile.FieldType.int) 2 D z0 E am ad [.int (-1), .long nv] x (fun r x' => r = some (.int (-1)) ∧ x' = x) := by
  refine mc_of hSt rfl (Nat.le_of_ble_eq_true rfl) ?_
  intro h0 h p e s m args below meth c cx hm hs
  refine g_iload_n cx 1 d_8_35_0 rfl rfl ?_
  refine g_if_lt cx d_8_35_1 rfl (fun c1 => ?_) (fun c1 => absurd (by decide) c1)
  refine g_iconst cx (v := (-1)) d_8_35_21 (by decide) ?_
  exact m_iret cx d_8_35_22 rfl rfl hm hs ⟨rfl, rfl⟩
set_option maxHeartbeats 4000000 in
theorem mc_upP (hSt : Stb z0 E) (hA : Ad am ad) (x : MS) (g : Nat) (nv : Int64) (nm kp : Nat → Nat) (t k : Nat) (hg : g < 8) (hNm : INm x nm) (hKp : IKp x nm kp) (ht : x.1 24 = nI t) (htl : t < 8) (hk : x.1 25 = nI k) (hkl : k < 2 ^ 30) : MC l y_189 prog_8_method_35_code 5 (Option.some Jvm.ClassFile.FieldType.int) 2 D z0 E am ad [.int (nI g), .long nv] x (fun r x' => (r = some (.int (-1)) ∧ x' = x) ∨ ((∃ w, w < 128 ∧ r = some (.int (nI w)) ∧ ∃ b t, b < 6 ∧ t < nm b ∧ nv = x.2.2 10 (6 * b + t)) ∧ x' = x) ∨ (r = some (.int (-1)) ∧ (∀ j, j < kp g → x.2.2 21 (36 * g + j) ≠ nv) ∧ x' = pushS x (nI g) t k)) := by
  refine mc_of hSt rfl (Nat.le_of_ble_eq_true rfl) ?_
  intro h0 h p e s m args below meth c cx hm hs
  refine g_iload_n cx 1 d_8_35_0 rfl rfl ?_
  refine g_if_lt cx d_8_35_1 rfl (fun c1 => absurd c1 (nI_pos (by omega))) (fun c1 => ?_)
  refine g_aload_n cx 0 d_8_35_4 rfl rfl ?_
  refine m_get cx (k := 22) d_8_35_5 t_920 ⟨by decide, rfl⟩ hm rfl ?_
  refine g_iload_n cx 1 d_8_35_8 rfl rfl ?_
  refine m_ld4 cx d_8_35_9 (by decide) hm rfl ⟨(show g < 8 from hg), by decide⟩ ?_
  refine g_if_ne cx d_8_35_10 rfl (fun c10 => ?_) (fun c10 => ?_)
  · skip
    refine g_iconst cx (v := (-1)) d_8_35_21 (by decide) ?_
    exact m_iret cx d_8_35_22 rfl rfl hm hs (Or.inl ⟨rfl, rfl⟩)
  · skip
    refine g_aload_n cx 0 d_8_35_13 rfl rfl ?_
    refine g_iload_n cx 1 d_8_35_14 rfl rfl ?_
    refine m_call 2 cx (As := [.int (nI g)]) (n := 1) (mc_isOpen hSt hA x (nI g) t ht (by omega)) d_8_35_15 t_1125 t_1127 ts_53 t_1128 rfl ⟨rfl, by decide +kernel⟩ rfl ⟨by decide, by decide⟩ (Nat.le_of_ble_eq_true rfl) hm hs (fun v15 x15 h hm hs r15 => ?_)
    obtain ⟨e15, r15⟩ := r15
    rw [e15] at hm
    rcases r15 with rfl | ⟨rfl, -⟩
    · skip
      refine g_if_eq cx d_8_35_18 rfl (fun c18 => absurd c18 (by decide)) (fun c18 => ?_)
      refine g_iconst cx (v := (-1)) d_8_35_21 (by decide) ?_
      exact m_iret cx d_8_35_22 rfl rfl hm hs (Or.inl ⟨rfl, rfl⟩)
    · skip
      refine g_if_eq cx d_8_35_18 rfl (fun c18 => ?_) (fun c18 => absurd rfl c18)
      refine g_aload_n cx 0 d_8_35_23 rfl rfl ?_
      refine g_iload_n cx 1 d_8_35_24 rfl rfl ?_
      refine g_lload_n cx 2 d_8_35_25 rfl rfl ?_
      refine m_call 2 cx (As := [.int (nI g), .long nv]) (n := 2) (mc_keptOf hSt hA x g (kp g) nv hg (hKp g hg).1 (hKp.le hNm hg)) d_8_35_26 t_1078 t_1080 ts_44 t_1081 rfl ⟨rfl, by decide +kernel⟩ rfl ⟨by decide, by decide⟩ (Nat.le_of_ble_eq_true rfl) hm hs (fun v26 x26 h hm hs r26 => ?_)
      obtain ⟨e26, r26⟩ := r26
      rw [e26] at hm
      rcases r26 with ⟨j, hj, hjx, rfl⟩ | ⟨rfl, hno⟩
      · skip
        refine g_topi (fun at1 eat1 => ?_)
        obtain ⟨⟨w, hw, hwx⟩, b, t2, hb, ht2, hbt⟩ := (hKp g hg).2.1 j hj
        obtain rfl : at1 = nI w := eat1.trans hwx
        refine g_istore cx (lv' := [(4, .int (nI w)), (0, .ref am), (1, .int (nI g)), (2, .long nv)]) d_8_35_29 (by decide) rfl ?_
        refine g_iload cx 0 d_8_35_31 rfl ?_
        refine g_if_ge cx d_8_35_33 rfl (fun c33 => ?_) (fun c33 => absurd (nI_pos' (by omega)) c33)
        refine g_iload cx 0 d_8_35_41 rfl ?_
        exact m_iret cx d_8_35_43 rfl rfl hm hs (Or.inr (Or.inl ⟨⟨w, hw, rfl, b, t2, hb, ht2, by rw [← hjx]; exact hbt⟩, rfl⟩))
      · skip
        refine g_topi (fun at1 eat1 => ?_)
        obtain rfl : at1 = -1 := eat1
        refine g_istore cx (lv' := [(4, .int (-1)), (0, .ref am), (1, .int (nI g)), (2, .long nv)]) d_8_35_29 (by decide) rfl ?_
        refine g_iload cx 0 d_8_35_31 rfl ?_
        refine g_if_ge cx d_8_35_33 rfl (fun c33 => absurd c33 (by decide)) (fun c33 => ?_)
        refine g_aload_n cx 1 d_8_35_36 rfl rfl ?_
        refine g_iload_n cx 2 d_8_35_37 rfl rfl ?_
        refine m_call 2 cx (As := [.int (nI g)]) (n := 1) (mc_push hSt hA x (nI g) t k ht htl hk hkl) d_8_35_38 t_1086 t_1088 ts_46 t_1089 rfl ⟨rfl, by decide +kernel⟩ rfl ⟨by decide, by decide⟩ (Nat.le_of_ble_eq_true rfl) hm hs (fun v38 x38 h hm hs r38 => ?_)
        obtain ⟨rfl, rfl⟩ := r38
        refine g_iload cx 0 d_8_35_41 rfl ?_
        exact m_iret cx d_8_35_43 rfl rfl hm hs (Or.inr (Or.inr ⟨rfl, hno, rfl⟩))
end M9
