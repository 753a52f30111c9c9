/-! Numbers of words: five bits a letter. -/
def lI (n : Nat) : Int64 := Int64.ofNat n
theorem or_add {a b n : Nat} (h : b < 2 ^ n) : a * 2 ^ n ||| b = a * 2 ^ n + b := by
  rw [Nat.mul_comm]; exact (Nat.two_pow_add_eq_or_of_lt h a).symm
theorem nI_or (a b : Nat) : nI a ||| nI b = nI (a ||| b) := by
  apply Int32.toBitVec_inj.mp
  apply BitVec.eq_of_toNat_eq
  show ((BitVec.ofNat 32 a) ||| (BitVec.ofNat 32 b)).toNat = (BitVec.ofNat 32 (a ||| b)).toNat
  rw [BitVec.toNat_or, BitVec.toNat_ofNat, BitVec.toNat_ofNat, BitVec.toNat_ofNat, Nat.or_mod_two_pow]
theorem lI_or (a b : Nat) : lI a ||| lI b = lI (a ||| b) := by
  apply Int64.toBitVec_inj.mp
  apply BitVec.eq_of_toNat_eq
  show ((BitVec.ofNat 64 a) ||| (BitVec.ofNat 64 b)).toNat = (BitVec.ofNat 64 (a ||| b)).toNat
  rw [BitVec.toNat_or, BitVec.toNat_ofNat, BitVec.toNat_ofNat, BitVec.toNat_ofNat, Nat.or_mod_two_pow]
theorem nI_shl {a s : Nat} (hs : s < 32) (y : Int32) (hy : y.toBitVec = BitVec.ofNat 32 s) : nI a <<< y = nI (a * 2 ^ s) := by
  apply Int32.toBitVec_inj.mp
  rw [Int32.toBitVec_shiftLeft, hy]
  apply BitVec.eq_of_toNat_eq
  show (BitVec.ofNat 32 a <<< (BitVec.ofNat 32 s).smod 32).toNat = (BitVec.ofNat 32 (a * 2 ^ s)).toNat
  have e : ((BitVec.ofNat 32 s).smod 32).toNat = s := by
    have : ∀ m : Fin 32, ((BitVec.ofNat 32 m.1).smod 32).toNat = m.1 := by decide +kernel
    exact this ⟨s, hs⟩
  rw [BitVec.shiftLeft_eq', e, BitVec.toNat_shiftLeft, BitVec.toNat_ofNat, BitVec.toNat_ofNat, Nat.shiftLeft_eq, Nat.mod_mul_mod]
theorem lI_shl {a s : Nat} (hs : s < 64) (y : Int64) (hy : y.toBitVec = BitVec.ofNat 64 s) : lI a <<< y = lI (a * 2 ^ s) := by
  apply Int64.toBitVec_inj.mp
  rw [Int64.toBitVec_shiftLeft, hy]
  apply BitVec.eq_of_toNat_eq
  show (BitVec.ofNat 64 a <<< (BitVec.ofNat 64 s).smod 64).toNat = (BitVec.ofNat 64 (a * 2 ^ s)).toNat
  have e : ((BitVec.ofNat 64 s).smod 64).toNat = s := by
    have : ∀ m : Fin 64, ((BitVec.ofNat 64 m.1).smod 64).toNat = m.1 := by decide +kernel
    exact this ⟨s, hs⟩
  rw [BitVec.shiftLeft_eq', e, BitVec.toNat_shiftLeft, BitVec.toNat_ofNat, BitVec.toNat_ofNat, Nat.shiftLeft_eq, Nat.mod_mul_mod]
theorem nI_64 {W : Nat} (h : W < 2 ^ 31) : (nI W).toInt64 = lI W := by
  apply Int64.toInt_inj.mp
  rw [Int32.toInt_toInt64]
  show (Int32.ofNat W).toInt = (Int64.ofNat W).toInt
  rw [Int32.toInt_ofNat_of_lt h, Int64.toInt_ofNat_of_lt (by omega)]
theorem lI_ne {R : Nat} (h : R < 2 ^ 63) (hz : lI R = 0) : R = 0 := by
  have h1 := congrArg Int64.toInt hz
  have h2 : (Int64.ofNat R).toInt = 0 := h1
  rw [Int64.toInt_ofNat_of_lt h] at h2
  omega
theorem lI_and (R : Nat) : lI R &&& 1099511627775 = lI (R % 2 ^ 40) := by
  apply Int64.toBitVec_inj.mp
  apply BitVec.eq_of_toNat_eq
  show ((BitVec.ofNat 64 R) &&& (BitVec.ofNat 64 (2 ^ 40 - 1))).toNat = (BitVec.ofNat 64 (R % 2 ^ 40)).toNat
  rw [BitVec.toNat_and, BitVec.toNat_ofNat, BitVec.toNat_ofNat, BitVec.toNat_ofNat, show (2 ^ 40 - 1) % 2 ^ 64 = 2 ^ 40 - 1 from by decide, Nat.and_two_pow_sub_one_eq_mod]
  omega
theorem lI_shr {W : Nat} (h : W < 2 ^ 20) : (lI (W * 2 ^ 40) >>> (Int32.toInt64 40 &&& 63)).toInt32 = nI W := by
  have e : (Int32.toInt64 40 &&& 63 : Int64) = 40 := by decide
  rw [e]
  apply Int32.toBitVec_inj.mp
  rw [Int64.toBitVec_toInt32, Int64.toBitVec_shiftRight]
  apply BitVec.eq_of_toNat_eq
  have e1 : (lI (W * 2 ^ 40)).toBitVec = BitVec.ofNat 64 (W * 2 ^ 40) := rfl
  have e2 : ((40 : Int64).toBitVec.smod 64) = 40#64 := by decide
  have hm : (BitVec.ofNat 64 (W * 2 ^ 40)).msb = false := by
    rw [BitVec.msb_eq_decide, BitVec.toNat_ofNat]
    exact decide_eq_false (by omega)
  rw [e1, e2, BitVec.sshiftRight_eq', BitVec.sshiftRight_eq_of_msb_false hm]
  show (BitVec.signExtend 32 (BitVec.ofNat 64 (W * 2 ^ 40) >>> 40)).toNat = (BitVec.ofNat 32 W).toNat
  rw [BitVec.signExtend_eq_setWidth_of_le _ (by decide), BitVec.toNat_setWidth, BitVec.toNat_ushiftRight, BitVec.toNat_ofNat, BitVec.toNat_ofNat, Nat.shiftRight_eq_div_pow]
  omega
def wcp (cd b : Nat) : Nat → Nat
  | 0 => 0
  | m + 1 => wcp cd b m + (chr cd (b + m) - 96) * 2 ^ (15 - 5 * m)
def WordP (cd b m : Nat) : Prop := 1 ≤ m ∧ m ≤ 4 ∧ ∀ j, j < m → Let (chr cd (b + j))
theorem wcp_eq {cd ce b b' : Nat} : ∀ m, (∀ j, j < m → chr cd (b + j) = chr ce (b' + j)) → wcp cd b m = wcp ce b' m
  | 0, _ => rfl
  | m + 1, h => by
    show wcp cd b m + _ = wcp ce b' m + _
    rw [wcp_eq m (fun j hj => h j (by omega)), h m (by omega)]
/-- the j-th letter of a word, read off its number -/
theorem wcp_dg {cd b m : Nat} (h : WordP cd b m) : wcp cd b m < 2 ^ 20 ∧ ∀ j, j < 4 → wcp cd b m / 2 ^ (15 - 5 * j) % 32 = if j < m then chr cd (b + j) - 96 else 0 := by
  obtain ⟨h1, h4, hl⟩ := h
  have hm : m = 1 ∨ m = 2 ∨ m = 3 ∨ m = 4 := by omega
  have hj4 : ∀ j, j < 4 → j = 0 ∨ j = 1 ∨ j = 2 ∨ j = 3 := fun j hj => by omega
  rcases hm with rfl | rfl | rfl | rfl
  · have a0 := hl 0 (by decide)
    simp only [Let, wcp, Nat.add_zero, Nat.zero_add, Nat.reduceMul, Nat.reduceSub, Nat.reducePow] at *
    refine ⟨by omega, fun j hj => ?_⟩
    rcases hj4 j hj with rfl | rfl | rfl | rfl <;> simp <;> omega
  · have a0 := hl 0 (by decide)
    have a1 := hl 1 (by decide)
    simp only [Let, wcp, Nat.add_zero, Nat.zero_add, Nat.reduceMul, Nat.reduceSub, Nat.reducePow] at *
    refine ⟨by omega, fun j hj => ?_⟩
    rcases hj4 j hj with rfl | rfl | rfl | rfl <;> simp <;> omega
  · have a0 := hl 0 (by decide)
    have a1 := hl 1 (by decide)
    have a2 := hl 2 (by decide)
    simp only [Let, wcp, Nat.add_zero, Nat.zero_add, Nat.reduceMul, Nat.reduceSub, Nat.reducePow] at *
    refine ⟨by omega, fun j hj => ?_⟩
    rcases hj4 j hj with rfl | rfl | rfl | rfl <;> simp <;> omega
  · have a0 := hl 0 (by decide)
    have a1 := hl 1 (by decide)
    have a2 := hl 2 (by decide)
    have a3 := hl 3 (by decide)
    simp only [Let, wcp, Nat.add_zero, Nat.zero_add, Nat.reduceMul, Nat.reduceSub, Nat.reducePow] at *
    refine ⟨by omega, fun j hj => ?_⟩
    rcases hj4 j hj with rfl | rfl | rfl | rfl <;> simp <;> omega
theorem WordOk.p {n cd : Nat} (h : WordOk n cd) : WordP cd 0 n := ⟨h.1, h.2.1, fun j hj => by rw [Nat.zero_add]; exact h.2.2 j hj⟩
theorem wcp_inj {cd ce b b' n n' : Nat} (h : WordP cd b n) (h' : WordP ce b' n') (he : wcp cd b n = wcp ce b' n') : n = n' ∧ ∀ j, j < n → chr cd (b + j) = chr ce (b' + j) := by
  have e : ∀ j, j < 4 → (if j < n then chr cd (b + j) - 96 else 0) = (if j < n' then chr ce (b' + j) - 96 else 0) := fun j hj => by
    rw [← (wcp_dg h).2 j hj, ← (wcp_dg h').2 j hj, he]
  have hn : n = n' := by
    rcases Nat.lt_trichotomy n n' with q | q | q
    · have := e n (by have := h'.2.1; omega)
      rw [if_neg (Nat.lt_irrefl _), if_pos q] at this
      have := (h'.2.2 n q).1
      omega
    · exact q
    · have := e n' (by have := h.2.1; omega)
      rw [if_neg (Nat.lt_irrefl _), if_pos q] at this
      have := (h.2.2 n' q).1
      omega
  subst hn
  refine ⟨rfl, fun j hj => ?_⟩
  have := e j (by have := h.2.1; omega)
  rw [if_pos hj, if_pos hj] at this
  have := (h.2.2 j hj).1
  have := (h'.2.2 j hj).1
  omega
theorem wcp_ce {cd ce n n' : Nat} (h : WordOk n cd) (h' : WordOk n' ce) : wcp cd 0 n = wcp ce 0 n' ↔ CE n n' cd ce := by
  constructor
  · intro q
    obtain ⟨q1, q2⟩ := wcp_inj h.p h'.p q
    exact ⟨q1, fun j hj => by have := q2 j hj; rwa [Nat.zero_add] at this⟩
  · intro q
    obtain ⟨rfl, q2⟩ := q
    exact wcp_eq n (fun j hj => by rw [Nat.zero_add]; exact q2 j hj)
theorem wcp_pos {cd b m : Nat} (h : WordP cd b m) : 0 < wcp cd b m := by
  have h0 := (wcp_dg h).2 0 (by decide)
  rw [if_pos (show 0 < m from h.1)] at h0
  have := (h.2.2 0 h.1).1
  rcases Nat.eq_zero_or_pos (wcp cd b m) with q | q
  · rw [q] at h0; simp at h0; simp at this; omega
  · exact q
theorem mw2 {v W : Nat} (hW : W < 2 ^ 20) : (lI v <<< (Int32.toInt64 20 &&& 63)) ||| (nI W).toInt64 = lI (v * 2 ^ 20 + W) := by
  rw [nI_64 (by omega), lI_shl (s := 20) (by decide) _ (by decide), lI_or, or_add hW]
theorem mw4 {V o : Nat} (ho : o = 1 ∨ o = 2 ∨ o = 3) : lI V <<< (Int32.toInt64 (20 * (3 - nI o)) &&& 63) = lI (V * 2 ^ (20 * (3 - o))) := by
  rcases ho with rfl | rfl | rfl
  · exact lI_shl (s := 40) (by decide) _ (by decide)
  · exact lI_shl (s := 20) (by decide) _ (by decide)
  · exact lI_shl (s := 0) (by decide) _ (by decide)
theorem mw6 {c : Nat} (h : 97 ≤ c ∧ c ≤ 122) : nI c - 96 = nI (c - 96) := by
  have : ∀ m : Fin 128, 96 ≤ m.1 → nI m.1 - 96 = nI (m.1 - 96) := by decide +kernel
  exact this ⟨c, by omega⟩ (by show 96 ≤ c; omega)
theorem mw5 {W c L q : Nat} (hL : L < 4) (hW : W = q * 2 ^ (20 - 5 * L)) (hc : 97 ≤ c ∧ c ≤ 122) : nI W ||| ((nI c - 96) <<< ((15 - 5 * nI L) &&& 31)) = nI (W + (c - 96) * 2 ^ (15 - 5 * L)) := by
  rw [mw6 hc]
  have h4 : L = 0 ∨ L = 1 ∨ L = 2 ∨ L = 3 := by omega
  rcases h4 with rfl | rfl | rfl | rfl
  · rw [nI_shl (s := 15) (by decide) _ (by decide), nI_or, hW, or_add (by simp only [Nat.reducePow, Nat.reduceMul, Nat.reduceSub]; omega)]
  · rw [nI_shl (s := 10) (by decide) _ (by decide), nI_or, hW, or_add (by simp only [Nat.reducePow, Nat.reduceMul, Nat.reduceSub]; omega)]
  · rw [nI_shl (s := 5) (by decide) _ (by decide), nI_or, hW, or_add (by simp only [Nat.reducePow, Nat.reduceMul, Nat.reduceSub]; omega)]
  · rw [nI_shl (s := 0) (by decide) _ (by decide), nI_or, hW, or_add (by simp only [Nat.reducePow, Nat.reduceMul, Nat.reduceSub]; omega)]
/-- where nameOf stands: k characters read, the group so far (W, L letters), o groups, v the groups before -/
def NI (cd b k W L o v : Nat) : Prop := b ≤ k ∧ L ≤ 4 ∧ (∃ q, W = q * 2 ^ (20 - 5 * L) ∧ q < 2 ^ (5 * L) ∧ (1 ≤ L → 1 ≤ q)) ∧ ((o = 1 ∧ v = 0 ∧ k = b + L ∧ W = wcp cd b L ∧ ∀ j, j < L → Let (chr cd (b + j))) ∨ (∃ j, b ≤ j ∧ j < k ∧ ¬ Let (chr cd j)) ∧ ((o = 2 ∧ v < 2 ^ 20) ∨ (o = 3 ∧ v < 2 ^ 40)))
theorem NI.zero {cd b : Nat} : NI cd b b 0 0 1 0 := ⟨Nat.le_refl _, by decide, ⟨0, by decide, by decide, fun z => absurd z (by decide)⟩, Or.inl ⟨rfl, rfl, rfl, rfl, fun j hj => absurd hj (Nat.not_lt_zero _)⟩⟩
theorem NI.o {cd b k W L o v : Nat} (h : NI cd b k W L o v) : o = 1 ∨ o = 2 ∨ o = 3 := by
  rcases h.2.2.2 with q | ⟨_, q | q⟩ <;> omega
theorem NI.lt {cd b k W L o v : Nat} (h : NI cd b k W L o v) : W < 2 ^ 20 := by
  obtain ⟨_, hL, ⟨q, h1, h2, _⟩, _⟩ := h
  have e : 2 ^ (5 * L) * 2 ^ (20 - 5 * L) = 2 ^ 20 := by rw [← Nat.pow_add]; congr 1; omega
  rw [h1, ← e]
  exact Nat.mul_lt_mul_of_pos_right h2 (Nat.two_pow_pos _)
theorem NI.letter {cd b k W L o v : Nat} (h : NI cd b k W L o v) (hL : L < 4) (hc : Let (chr cd k)) : NI cd b (k + 1) (W + (chr cd k - 96) * 2 ^ (15 - 5 * L)) (L + 1) o v := by
  obtain ⟨hb, _, ⟨q, h1, h2, h3⟩, h4⟩ := h
  have hc1 := hc.1
  have hc2 := hc.2
  refine ⟨by omega, hL, ⟨q * 32 + (chr cd k - 96), ?_, ?_, fun _ => by omega⟩, ?_⟩
  · rw [h1, Nat.add_mul, show 20 - 5 * L = 5 + (15 - 5 * L) from by omega, show 20 - 5 * (L + 1) = 15 - 5 * L from by omega, Nat.pow_add, Nat.mul_assoc]
  · have e : 2 ^ (5 * (L + 1)) = 2 ^ (5 * L) * 32 := by rw [Nat.mul_add, Nat.pow_add]
    rw [e]; omega
  · rcases h4 with ⟨a1, a2, a3, a4, a5⟩ | ⟨⟨j, b1, b2, b3⟩, h5⟩
    · refine Or.inl ⟨a1, a2, by omega, ?_, fun j hj => ?_⟩
      · show _ = wcp cd b L + _
        rw [← a4, ← a3]
      · rcases Nat.lt_or_ge j L with q | q
        · exact a5 j q
        · have : j = L := by omega
          rw [this, ← a3]; exact hc
    · exact Or.inr ⟨⟨j, b1, by omega, b3⟩, h5⟩
theorem NI.dot {cd b k W L o v : Nat} (h : NI cd b k W L o v) (ho : o ≠ 3) (hc : ¬ Let (chr cd k)) : NI cd b (k + 1) 0 0 (o + 1) (v * 2 ^ 20 + W) := by
  have hW := h.lt
  obtain ⟨hb, _, _, h4⟩ := h
  refine ⟨by omega, by decide, ⟨0, by decide, by decide, fun z => absurd z (by decide)⟩, Or.inr ⟨⟨k, hb, by omega, hc⟩, ?_⟩⟩
  rcases h4 with ⟨a1, a2, _⟩ | ⟨_, ⟨a1, a2⟩ | ⟨a1, a2⟩⟩
  · left; subst a1 a2; exact ⟨rfl, by omega⟩
  · right; subst a1; exact ⟨rfl, by omega⟩
  · exact absurd a1 ho
def NR (cd b m R : Nat) : Prop := R < 2 ^ 63 ∧ ((WordP cd b m ∧ R = wcp cd b m * 2 ^ 40 ∧ wcp cd b m < 2 ^ 20) ∨ (¬ WordP cd b m ∧ (R = 0 ∨ R % 2 ^ 40 ≠ 0)))
theorem NI.fin {cd b e W L o v : Nat} (h : NI cd b e W L o v) (hL : L ≠ 0) : NR cd b (e - b) ((v * 2 ^ 20 + W) * 2 ^ (20 * (3 - o))) := by
  have hW := h.lt
  obtain ⟨hb, hL4, ⟨q, h1, h2, h3⟩, h4⟩ := h
  have hL1 : 1 ≤ L := Nat.pos_of_ne_zero hL
  have hW0 : 0 < W := by rw [h1]; exact Nat.mul_pos (h3 hL1) (Nat.two_pow_pos _)
  clear h1 h2 h3
  rcases h4 with ⟨a1, a2, a3, a4, a5⟩ | ⟨⟨j, b1, b2, b3⟩, h5⟩
  · have hm : e - b = L := by omega
    rw [hm]
    have hP : WordP cd b L := ⟨hL1, hL4, a5⟩
    have hlt := (wcp_dg hP).1
    subst a1 a2
    rw [Nat.zero_mul, Nat.zero_add, a4]
    simp only [Nat.reduceMul, Nat.reduceSub]
    exact ⟨by omega, Or.inl ⟨hP, rfl, hlt⟩⟩
  · have hP : ¬ WordP cd b (e - b) := fun q => b3 (by have := q.2.2 (j - b) (by omega); rwa [show b + (j - b) = j from by omega] at this)
    rcases h5 with ⟨a1, a2⟩ | ⟨a1, a2⟩
    · subst a1
      simp only [Nat.reduceMul, Nat.reduceSub]
      exact ⟨by omega, Or.inr ⟨hP, Or.inr (by omega)⟩⟩
    · subst a1
      simp only [Nat.reduceMul, Nat.reduceSub, Nat.pow_zero, Nat.mul_one]
      exact ⟨by omega, Or.inr ⟨hP, Or.inr (by omega)⟩⟩
theorem NR.no {cd b m : Nat} (h : ¬ WordP cd b m) : NR cd b m 0 := ⟨by decide, Or.inr ⟨h, Or.inl rfl⟩⟩
theorem NI.bad {cd b k e W L o v : Nat} (h : NI cd b k W L o v) (hk : k < e) (hc : ¬ Let (chr cd k) ∨ L = 4) : NR cd b (e - b) 0 := by
  refine NR.no (fun p => ?_)
  obtain ⟨hb, hL4, _, h4⟩ := h
  rcases hc with hc | hc
  · exact hc (by have := p.2.2 (k - b) (by omega); rwa [show b + (k - b) = k from by omega] at this)
  · rcases h4 with ⟨a1, a2, a3, a4, a5⟩ | ⟨⟨j, b1, b2, b3⟩, h5⟩
    · have := p.2.1; omega
    · exact b3 (by have := p.2.2 (j - b) (by omega); rwa [show b + (j - b) = j from by omega] at this)
theorem NI.none {cd b e W o v : Nat} (h : NI cd b e W 0 o v) : NR cd b (e - b) 0 := by
  refine NR.no (fun p => ?_)
  obtain ⟨hb, hL4, _, h4⟩ := h
  rcases h4 with ⟨a1, a2, a3, a4, a5⟩ | ⟨⟨j, b1, b2, b3⟩, h5⟩
  · have := p.1; omega
  · exact b3 (by have := p.2.2 (j - b) (by omega); rwa [show b + (j - b) = j from by omega] at this)
theorem NR.and {cd b m R : Nat} (h : NR cd b m R) : ((lI R &&& 1099511627775 = 0) → (WordP cd b m ∧ (lI R >>> (Int32.toInt64 40 &&& 63)).toInt32 = nI (wcp cd b m)) ∨ (¬ WordP cd b m ∧ (lI R >>> (Int32.toInt64 40 &&& 63)).toInt32 = nI 0)) ∧ (¬ (lI R &&& 1099511627775 = 0) → ¬ WordP cd b m) := by
  obtain ⟨hR, h | h⟩ := h
  · obtain ⟨h1, h2, h3⟩ := h
    constructor
    · intro _; left; rw [h2]; exact ⟨h1, lI_shr h3⟩
    · intro q; rw [lI_and, h2, Nat.mul_mod_left] at q; exact absurd rfl q
  · obtain ⟨h1, h2⟩ := h
    constructor
    · intro q
      rw [lI_and] at q
      have hz := lI_ne (by omega) q
      rcases h2 with h2 | h2
      · right; rw [h2]; exact ⟨h1, by decide⟩
      · exact absurd hz h2
    · intro _; exact h1
/-! Names: one to three words with dots between; their numbers. -/
def NmR (cd : Nat) : Nat → Nat → Nat → Prop
  | 0, b, n => WordP cd b n
  | t + 1, b, n => WordP cd b n ∨ ∃ l, WordP cd b l ∧ l < n ∧ chr cd (b + l) = 46 ∧ NmR cd t (b + l + 1) (n - l - 1)
def NV (cd : Nat) : Nat → Nat → Nat → Nat → Prop
  | 0, b, n, R => WordP cd b n ∧ R = wcp cd b n
  | t + 1, b, n, R => (WordP cd b n ∧ R = wcp cd b n * 2 ^ (20 * (t + 1))) ∨ ∃ l R', WordP cd b l ∧ l < n ∧ chr cd (b + l) = 46 ∧ NV cd t (b + l + 1) (n - l - 1) R' ∧ R = wcp cd b l * 2 ^ (20 * (t + 1)) + R'
theorem let_nd {c : Nat} (h : Let c) : c ≠ 46 := fun e => by have := h.1; omega
theorem NmR.word {cd t b n : Nat} (h : WordP cd b n) : NmR cd t b n := by
  cases t with
  | zero => exact h
  | succ t => exact Or.inl h
theorem NV.word {cd t b n : Nat} (h : WordP cd b n) : NV cd t b n (wcp cd b n * 2 ^ (20 * t)) := by
  cases t with
  | zero => exact ⟨h, by rw [Nat.mul_zero, Nat.pow_zero, Nat.mul_one]⟩
  | succ t => exact Or.inl ⟨h, rfl⟩
theorem NV.ok {cd : Nat} : ∀ {t b n R : Nat}, NV cd t b n R → NmR cd t b n
  | 0, _, _, _, h => h.1
  | t + 1, _, _, _, h => by
    rcases h with h | ⟨l, R', h1, h2, h3, h4, -⟩
    · exact Or.inl h.1
    · exact Or.inr ⟨l, h1, h2, h3, h4.ok⟩
theorem NmR.v {cd : Nat} : ∀ {t b n : Nat}, NmR cd t b n → ∃ R, NV cd t b n R
  | 0, _, _, h => ⟨_, h, rfl⟩
  | t + 1, _, _, h => by
    rcases h with h | ⟨l, h1, h2, h3, h4⟩
    · exact ⟨_, Or.inl ⟨h, rfl⟩⟩
    · obtain ⟨R', h5⟩ := h4.v
      exact ⟨_, Or.inr ⟨l, R', h1, h2, h3, h5, rfl⟩⟩
theorem p20 (t : Nat) : 2 ^ (20 * (t + 1)) = 2 ^ 20 * 2 ^ (20 * t) := by rw [← Nat.pow_add]; congr 1; omega
theorem NV.lt {cd : Nat} : ∀ {t b n R : Nat}, NV cd t b n R → 0 < R ∧ R < 2 ^ (20 * (t + 1))
  | 0, _, _, _, h => by
    obtain ⟨h1, h2⟩ := h
    rw [h2]
    exact ⟨wcp_pos h1, (wcp_dg h1).1⟩
  | t + 1, _, _, R, h => by
    rw [p20 (t + 1)]
    rcases h with ⟨h1, h2⟩ | ⟨l, R', h1, -, -, h4, h5⟩
    · rw [h2]
      exact ⟨Nat.mul_pos (wcp_pos h1) (Nat.two_pow_pos _), Nat.mul_lt_mul_of_pos_right (wcp_dg h1).1 (Nat.two_pow_pos _)⟩
    · have h6 := h4.lt
      have h7 : wcp cd _ l + 1 ≤ 2 ^ 20 := (wcp_dg h1).1
      refine ⟨by omega, ?_⟩
      have h8 := Nat.mul_le_mul_right (2 ^ (20 * (t + 1))) h7
      rw [Nat.add_mul, Nat.one_mul] at h8
      omega
theorem dvm {a a' r r' M : Nat} (hr : r < M) (hr' : r' < M) (h : a * M + r = a' * M + r') : a = a' ∧ r = r' := by
  have hM : 0 < M := by omega
  have e1 : (a * M + r) / M = a := by rw [Nat.mul_comm, Nat.mul_add_div hM, Nat.div_eq_of_lt hr, Nat.add_zero]
  have e2 : (a' * M + r') / M = a' := by rw [Nat.mul_comm, Nat.mul_add_div hM, Nat.div_eq_of_lt hr', Nat.add_zero]
  have e3 : a = a' := by rw [← e1, ← e2, h]
  subst e3
  exact ⟨rfl, by omega⟩
theorem NV.inj {cd ce : Nat} : ∀ {t b b' n n' R : Nat}, NV cd t b n R → NV ce t b' n' R → n = n' ∧ ∀ j, j < n → chr cd (b + j) = chr ce (b' + j)
  | 0, _, _, _, _, _, h, h' => wcp_inj h.1 h'.1 (h.2.symm.trans h'.2)
  | t + 1, b, b', n, n', R, h, h' => by
    have hz : 0 < 2 ^ (20 * (t + 1)) := Nat.two_pow_pos _
    rcases h with ⟨h1, h2⟩ | ⟨l, R1, h1, h2, h3, h4, h5⟩
    · rcases h' with ⟨g1, g2⟩ | ⟨l', R2, g1, g2, g3, g4, g5⟩
      · have e := dvm (r := 0) (r' := 0) hz hz (show wcp cd b n * 2 ^ (20 * (t + 1)) + 0 = wcp ce b' n' * 2 ^ (20 * (t + 1)) + 0 by rw [← h2, ← g2])
        exact wcp_inj h1 g1 e.1
      · have e := dvm (r := 0) hz g4.lt.2 (show wcp cd b n * 2 ^ (20 * (t + 1)) + 0 = wcp ce b' l' * 2 ^ (20 * (t + 1)) + R2 by rw [← h2, ← g5, Nat.add_zero])
        have := g4.lt.1
        omega
    · rcases h' with ⟨g1, g2⟩ | ⟨l', R2, g1, g2, g3, g4, g5⟩
      · have e := dvm (r' := 0) h4.lt.2 hz (show wcp cd b l * 2 ^ (20 * (t + 1)) + R1 = wcp ce b' n' * 2 ^ (20 * (t + 1)) + 0 by rw [← h5, ← g2, Nat.add_zero])
        have := h4.lt.1
        omega
      · have e := dvm h4.lt.2 g4.lt.2 (show wcp cd b l * 2 ^ (20 * (t + 1)) + R1 = wcp ce b' l' * 2 ^ (20 * (t + 1)) + R2 by rw [← h5, ← g5])
        obtain ⟨e1, e2⟩ := wcp_inj h1 g1 e.1
        subst e1
        rw [← e.2] at g4
        obtain ⟨f1, f2⟩ := h4.inj g4
        refine ⟨by omega, fun j hj => ?_⟩
        rcases Nat.lt_trichotomy j l with q | q | q
        · exact e2 j q
        · rw [q, h3, g3]
        · have := f2 (j - l - 1) (by omega)
          rwa [show b + l + 1 + (j - l - 1) = b + j by omega, show b' + l + 1 + (j - l - 1) = b' + j by omega] at this
theorem WordP.nd {cd b n : Nat} (h : WordP cd b n) : ∀ j, j < n → chr cd (b + j) ≠ 46 := fun j hj => let_nd (h.2.2 j hj)
theorem NmR.dot {cd t b n l : Nat} (hl : ∀ j, j < l → chr cd (b + j) ≠ 46) (hd : chr cd (b + l) = 46) (hn : l < n) : NmR cd (t + 1) b n ↔ WordP cd b l ∧ NmR cd t (b + l + 1) (n - l - 1) := by
  constructor
  · intro h
    rcases h with h | ⟨l', h1, h2, h3, h4⟩
    · exact absurd hd (h.nd l hn)
    · have e : l' = l := by
        rcases Nat.lt_trichotomy l' l with q | q | q
        · exact absurd h3 (hl l' q)
        · exact q
        · exact absurd hd (h1.nd l q)
      subst e
      exact ⟨h1, h4⟩
  · exact fun h => Or.inr ⟨l, h.1, hn, hd, h.2⟩
theorem NmR.dot0 {cd b n l : Nat} (hd : chr cd (b + l) = 46) (hn : l < n) : ¬ NmR cd 0 b n := fun h => WordP.nd h l hn hd
theorem NmR.nodot {cd t b n : Nat} (hl : ∀ j, j < n → chr cd (b + j) ≠ 46) : NmR cd t b n ↔ WordP cd b n := by
  constructor
  · intro h
    cases t with
    | zero => exact h
    | succ t =>
      rcases h with h | ⟨l', h1, h2, h3, h4⟩
      · exact h
      · exact absurd h3 (hl l' h2)
  · exact NmR.word
theorem NmR.bad {cd t b n l : Nat} (hl : ∀ j, j < l → chr cd (b + j) ≠ 46) (h1 : ¬ Let (chr cd (b + l))) (h2 : chr cd (b + l) ≠ 46) (hn : l < n) : ¬ NmR cd t b n := by
  have hw : ¬ WordP cd b n := fun q => h1 (q.2.2 l hn)
  intro h
  cases t with
  | zero => exact hw h
  | succ t =>
    rcases h with h | ⟨l', g1, g2, g3, g4⟩
    · exact hw h
    · rcases Nat.lt_trichotomy l' l with q | q | q
      · exact hl l' q g3
      · rw [q] at g3
        exact h2 g3
      · exact h1 (g1.2.2 l q)
theorem NmR.long {cd t b n : Nat} (hl : ∀ j, j < 5 → chr cd (b + j) ≠ 46) (hn : 5 ≤ n) : ¬ NmR cd t b n := by
  have hw : ¬ WordP cd b n := fun q => by have := q.2.1; omega
  intro h
  cases t with
  | zero => exact hw h
  | succ t =>
    rcases h with h | ⟨l', g1, g2, g3, g4⟩
    · exact hw h
    · have := g1.2.1
      exact hl l' (by omega) g3
theorem NmR.none {cd t b : Nat} : ¬ NmR cd t b 0 := by
  intro h
  cases t with
  | zero => exact absurd h.1 (by decide)
  | succ t =>
    rcases h with h | ⟨l', g1, g2, g3, g4⟩
    · exact absurd h.1 (by decide)
    · exact absurd g2 (Nat.not_lt_zero _)
/-- where nameOf stands, with the run that began at s -/
def NJ (cd b m k W L o v : Nat) : Prop := ∃ s, s + L = k ∧ b ≤ s ∧ L ≤ 4 ∧ 1 ≤ o ∧ o ≤ 3 ∧ (∀ j, j < L → Let (chr cd (s + j))) ∧ W = wcp cd s L ∧ (NmR cd 2 b m ↔ NmR cd (3 - o) s (m - (s - b))) ∧ ∀ R', NV cd (3 - o) s (m - (s - b)) R' → NV cd 2 b m (v * 2 ^ (20 * (4 - o)) + R')
theorem NJ.zero {cd b m : Nat} : NJ cd b m b 0 0 1 0 := ⟨b, rfl, Nat.le_refl _, by decide, by decide, by decide, fun j hj => absurd hj (Nat.not_lt_zero _), rfl, by rw [Nat.sub_self]; exact Iff.rfl, fun R' h => by rw [Nat.zero_mul, Nat.zero_add]; rw [Nat.sub_self] at h; exact h⟩
theorem NJ.letter {cd b m k W L o v : Nat} (h : NJ cd b m k W L o v) (hL : L < 4) (hc : Let (chr cd k)) : NJ cd b m (k + 1) (W + (chr cd k - 96) * 2 ^ (15 - 5 * L)) (L + 1) o v := by
  obtain ⟨s, h1, h2, h3, h4, h5, h6, h7, h8⟩ := h
  refine ⟨s, by omega, h2, hL, h4, h5, fun j hj => ?_, ?_, h8⟩
  · rcases Nat.lt_or_ge j L with q | q
    · exact h6 j q
    · rw [show s + j = k by omega]
      exact hc
  · show _ = wcp cd s L + _
    rw [h1, ← h7]
theorem NJ.dot {cd b m k W L o v : Nat} (h : NJ cd b m k W L o v) (hk : k < b + m) (hL : L ≠ 0) (ho : o ≠ 3) (hc : chr cd k = 46) : NJ cd b m (k + 1) 0 0 (o + 1) (v * 2 ^ 20 + W) := by
  obtain ⟨s, h1, h2, h3, h4, h5, h6, h7, h8, h9⟩ := h
  have hw : WordP cd s L := ⟨Nat.pos_of_ne_zero hL, h3, h6⟩
  have e1 : 3 - o = (3 - (o + 1)) + 1 := by omega
  have e2 : m - (s - b) - L - 1 = m - (k + 1 - b) := by omega
  have e3 : s + L + 1 = k + 1 := by omega
  have hd : chr cd (s + L) = 46 := by rw [h1]; exact hc
  have hD := NmR.dot (cd := cd) (t := 3 - (o + 1)) (b := s) (n := m - (s - b)) (l := L) (fun j hj => let_nd (h6 j hj)) hd (by omega)
  rw [e1] at h8 h9
  rw [e2, e3] at hD
  refine ⟨k + 1, rfl, by omega, by decide, by omega, by omega, fun j hj => absurd hj (Nat.not_lt_zero _), rfl, h8.trans (hD.trans ⟨fun q => q.2, fun q => ⟨hw, q⟩⟩), fun R' hR => ?_⟩
  have hv := h9 (wcp cd s L * 2 ^ (20 * (3 - (o + 1) + 1)) + R') (Or.inr ⟨L, R', hw, by omega, hd, by rw [e2, e3]; exact hR, rfl⟩)
  have e4 : v * 2 ^ (20 * (4 - o)) + (wcp cd s L * 2 ^ (20 * (3 - (o + 1) + 1)) + R') = (v * 2 ^ 20 + W) * 2 ^ (20 * (4 - (o + 1))) + R' := by
    rw [h7, Nat.add_mul, Nat.mul_assoc, ← Nat.pow_add, show 20 + 20 * (4 - (o + 1)) = 20 * (4 - o) by omega, show 3 - (o + 1) + 1 = 4 - (o + 1) by omega, Nat.add_assoc]
  rw [e4] at hv
  exact hv
theorem NJ.o {cd b m k W L o v : Nat} (h : NJ cd b m k W L o v) : (o = 1 ∨ o = 2 ∨ o = 3) ∧ L ≤ 4 ∧ b ≤ k := by
  obtain ⟨s, h1, h2, h3, h4, h5, -⟩ := h
  exact ⟨by omega, h3, by omega⟩
theorem NJ.lt {cd b m k W L o v : Nat} (h : NJ cd b m k W L o v) : W < 2 ^ 20 := by
  obtain ⟨s, h1, h2, h3, h4, h5, h6, h7, -⟩ := h
  rw [h7]
  rcases Nat.eq_zero_or_pos L with q | q
  · rw [q]
    exact Nat.two_pow_pos 20
  · exact (wcp_dg ⟨q, h3, h6⟩).1
theorem wcp_q {cd s : Nat} : ∀ L, L ≤ 4 → ∃ q, wcp cd s L = q * 2 ^ (20 - 5 * L)
  | 0, _ => ⟨0, by simp [wcp]⟩
  | L + 1, h => by
    obtain ⟨q, hq⟩ := wcp_q (cd := cd) (s := s) L (by omega)
    refine ⟨q * 32 + (chr cd (s + L) - 96), ?_⟩
    show wcp cd s L + _ = _
    rw [hq, Nat.add_mul, show 20 - 5 * L = 5 + (15 - 5 * L) by omega, show 20 - 5 * (L + 1) = 15 - 5 * L by omega, Nat.pow_add, Nat.mul_assoc]
theorem NJ.q {cd b m k W L o v : Nat} (h : NJ cd b m k W L o v) : ∃ q, W = q * 2 ^ (20 - 5 * L) := by
  obtain ⟨s, h1, h2, h3, h4, h5, h6, h7, -⟩ := h
  rw [h7]
  exact wcp_q L h3
theorem NJ.fin {cd b m W L o v : Nat} (h : NJ cd b m (b + m) W L o v) (hL : L ≠ 0) : NV cd 2 b m ((v * 2 ^ 20 + W) * 2 ^ (20 * (3 - o))) := by
  obtain ⟨s, h1, h2, h3, h4, h5, h6, h7, h8, h9⟩ := h
  have hw : WordP cd s L := ⟨Nat.pos_of_ne_zero hL, h3, h6⟩
  have e1 : m - (s - b) = L := by omega
  rw [e1] at h9
  have := h9 _ (NV.word (t := 3 - o) hw)
  have e2 : v * 2 ^ (20 * (4 - o)) + wcp cd s L * 2 ^ (20 * (3 - o)) = (v * 2 ^ 20 + W) * 2 ^ (20 * (3 - o)) := by
    rw [h7, Nat.add_mul, Nat.mul_assoc, ← Nat.pow_add, show 20 + 20 * (3 - o) = 20 * (4 - o) by omega]
  rw [e2] at this
  exact this
theorem NJ.none {cd b m W o v : Nat} (h : NJ cd b m (b + m) W 0 o v) : ¬ NmR cd 2 b m := by
  obtain ⟨s, h1, h2, h3, h4, h5, h6, h7, h8, h9⟩ := h
  rw [h8, show m - (s - b) = 0 by omega]
  exact NmR.none
theorem NJ.bad {cd b m k W L o v : Nat} (h : NJ cd b m k W L o v) (hk : k < b + m) (hc : (¬ Let (chr cd k) ∧ chr cd k ≠ 46) ∨ (chr cd k = 46 ∧ L = 0) ∨ (Let (chr cd k) ∧ L = 4) ∨ (chr cd k = 46 ∧ o = 3)) : ¬ NmR cd 2 b m := by
  obtain ⟨s, h1, h2, h3, h4, h5, h6, h7, h8, h9⟩ := h
  have nd : ∀ j, j < L → chr cd (s + j) ≠ 46 := fun j hj => let_nd (h6 j hj)
  rw [h8]
  rcases hc with hc | hc | hc | hc
  · exact NmR.bad (l := L) nd (by rw [h1]; exact hc.1) (by rw [h1]; exact hc.2) (by omega)
  · have hd : chr cd (s + L) = 46 := by rw [h1]; exact hc.1
    cases ht : 3 - o with
    | zero => exact NmR.dot0 hd (by omega)
    | succ t =>
      rw [NmR.dot nd hd (by omega)]
      intro q
      have := q.1.1
      omega
  · refine NmR.long (fun j hj => ?_) (by omega)
    rcases Nat.lt_or_ge j L with q | q
    · exact nd j q
    · rw [show s + j = k by omega]
      exact let_nd hc.1
  · rw [show 3 - o = 0 by omega]
    exact NmR.dot0 (l := L) (by rw [h1]; exact hc.1) (by omega)
/-- equal texts have equal numbers -/
theorem NV.uniq {cd ce : Nat} : ∀ {t b b' n R R' : Nat}, NV cd t b n R → NV ce t b' n R' → (∀ j, j < n → chr cd (b + j) = chr ce (b' + j)) → R = R'
  | 0, _, _, n, _, _, h, h', he => by rw [h.2, h'.2]; exact wcp_eq n he
  | t + 1, b, b', n, R, R', h, h', he => by
    rcases h with ⟨h1, h2⟩ | ⟨l, R1, h1, h2, h3, h4, h5⟩
    · rcases h' with ⟨g1, g2⟩ | ⟨l', R2, g1, g2, g3, g4, g5⟩
      · rw [h2, g2, wcp_eq n he]
      · exact absurd ((he l' g2).trans g3) (h1.nd l' g2)
    · rcases h' with ⟨g1, g2⟩ | ⟨l', R2, g1, g2, g3, g4, g5⟩
      · exact absurd ((he l h2).symm.trans h3) (g1.nd l h2)
      · have e : l = l' := by
          rcases Nat.lt_trichotomy l l' with q | q | q
          · exact absurd ((he l h2).symm.trans h3) (g1.nd l q)
          · exact q
          · exact absurd ((he l' g2).trans g3) (h1.nd l' q)
        subst e
        have e2 := h4.uniq g4 (fun j hj => by
          have := he (l + 1 + j) (by omega)
          rwa [show b + (l + 1 + j) = b + l + 1 + j by omega, show b' + (l + 1 + j) = b' + l + 1 + j by omega] at this)
        rw [h5, g5, e2, wcp_eq l (fun j hj => he j (by omega))]
/-! The reference by its values. -/
theorem SPm.spl {x : MS} {cd w pn : Nat} {bg en : Nat → Nat} (h : SPm (fun j => x.2.1 1 j = 32) w w pn bg en) (ht : ∀ j, j < w → x.2.1 1 j = nI (chr cd j)) : SPL cd w pn bg en := by
  refine ⟨fun i hi => ?_, h.2.1, fun j hj hn => h.2.2 j hj (fun q => hn ?_)⟩
  · obtain ⟨a1, a2, a3, a4⟩ := h.1 i hi
    refine ⟨a1, a2, fun j j1 j2 q => a4 j j1 j2 ?_⟩
    show x.2.1 1 j = 32
    rw [ht j (by omega), q]
    rfl
  · have q2 : x.2.1 1 j = 32 := q
    rw [ht j hj] at q2
    exact (nI_eq (b := 32) (Nat.lt_trans chr_lt (by decide)) (by decide)).mp q2
/-- the first part is the word that makes a realm -/
def RE (cd pn : Nat) (bg en : Nat → Nat) : Prop := 0 < pn ∧ en 0 = bg 0 + 5 ∧ chr cd (bg 0) = 114 ∧ chr cd (bg 0 + 1) = 101 ∧ chr cd (bg 0 + 2) = 97 ∧ chr cd (bg 0 + 3) = 108 ∧ chr cd (bg 0 + 4) = 109
/-- a realm is made -/
def GR (cd pn : Nat) (bg en : Nat → Nat) (r : Nat) (x : MS) : Prop := pn = 2 ∧ WordP cd (bg 1) (en 1 - bg 1) ∧ (∀ j, j < r → ¬ (x.2.1 12 j = nI (wcp cd (bg 1) (en 1 - bg 1)) ∧ x.2.1 22 j = 0)) ∧ r < 8
def NRF (cd pn : Nat) (bg en : Nat → Nat) (r : Nat) (x y : MS) : Prop := y.2.1 22 = x.2.1 22 ∧ ((GR cd pn bg en r x ∧ y.1 11 = nI (r + 1) ∧ y.2.1 12 = upd (x.2.1 12) r (nI (wcp cd (bg 1) (en 1 - bg 1)))) ∨ (¬ GR cd pn bg en r x ∧ y.1 11 = x.1 11 ∧ y.2.1 12 = x.2.1 12))
/-- the first part is the word that makes an archive -/
def RA (cd pn : Nat) (bg en : Nat → Nat) : Prop := 0 < pn ∧ en 0 = bg 0 + 7 ∧ chr cd (bg 0) = 97 ∧ chr cd (bg 0 + 1) = 114 ∧ chr cd (bg 0 + 2) = 99 ∧ chr cd (bg 0 + 3) = 104 ∧ chr cd (bg 0 + 4) = 105 ∧ chr cd (bg 0 + 5) = 118 ∧ chr cd (bg 0 + 6) = 101
def GRa (cd pn : Nat) (bg en : Nat → Nat) (a : Nat) (x : MS) : Prop := pn = 2 ∧ WordP cd (bg 1) (en 1 - bg 1) ∧ (∀ j, j < a → ¬ x.2.1 7 j = nI (wcp cd (bg 1) (en 1 - bg 1))) ∧ a < 6
def NAF (cd pn : Nat) (bg en : Nat → Nat) (a : Nat) (x y : MS) : Prop := (GRa cd pn bg en a x ∧ y.1 6 = nI (a + 1) ∧ y.2.1 7 = upd (x.2.1 7) a (nI (wcp cd (bg 1) (en 1 - bg 1)))) ∨ (¬ GRa cd pn bg en a x ∧ y.1 6 = x.1 6 ∧ y.2.1 7 = x.2.1 7)
def KpAr (x y : MS) : Prop := y.1 6 = x.1 6 ∧ y.2.1 7 = x.2.1 7
def KpRe (x y : MS) : Prop := y.1 11 = x.1 11 ∧ y.2.1 12 = x.2.1 12 ∧ y.2.1 22 = x.2.1 22
def LnE (cd w r a : Nat) (x y : MS) : Prop := ∃ pn bg en, SPL cd w pn bg en ∧ y.1 2 = nI 0 ∧ ((¬ RE cd pn bg en ∧ ¬ RA cd pn bg en ∧ KpZ x y) ∨ (RE cd pn bg en ∧ NRF cd pn bg en r x y ∧ KpAr x y) ∨ (RA cd pn bg en ∧ NAF cd pn bg en a x y ∧ KpRe x y))
/-- how many of the first n are still there -/
def cg (gq : Nat → Nat) : Nat → Nat
  | 0 => 0
  | n + 1 => cg gq n + (if gq n = 0 then 1 else 0)
theorem cg_1 {gq : Nat → Nat} {n : Nat} (h : gq n = 0) : cg gq (n + 1) = cg gq n + 1 := by
  show cg gq n + (if gq n = 0 then 1 else 0) = _
  rw [if_pos h]
theorem cg_0 {gq : Nat → Nat} {n : Nat} (h : ¬ gq n = 0) : cg gq (n + 1) = cg gq n := by
  show cg gq n + (if gq n = 0 then 1 else 0) = _
  rw [if_neg h]
  rfl
def SY (x : MS) (i pn : Nat) (bg en : Nat → Nat) (v1 v2 v3 v4 : Int32) : Prop := i < pn ∧ bg i + 4 ≤ en i ∧ x.2.1 1 (bg i) = v1 ∧ x.2.1 1 (bg i + 1) = v2 ∧ x.2.1 1 (bg i + 2) = v3 ∧ x.2.1 1 (bg i + 3) = v4
section M11
variable {l : Launch} {D : va_G} {z0 : Nat} {E : State → Prop} {am : Nat} {ad : Nat → Nat}
set_option maxHeartbeats 4000000 in
theorem mc_nameOfF (hSt : Stb z0 E) (hA : Ad am ad) (x : MS) (i pn cd : Nat) (bg en : Nat → Nat) (hp : PT x pn bg en) (hi : i < 15) (htx : i < pn → ∀ j, j < en i → x.2.1 1 j = nI (chr cd j)) : MC l y_165 prog_8_method_6_code 10 (Option.some Jvm.ClassFile.FieldType.long) 0 D z0 E am ad [.int (nI i)] x (fun r x' => x' = x ∧ ∃ R, r = some (.long (lI R)) ∧ ((i < pn ∧ NR cd (bg i) (en i - bg i) R) ∨ (¬ i < pn ∧ R = 0))) := by
  refine mc_of hSt rfl (Nat.le_of_ble_eq_true rfl) ?_
  intro h0 h p e s m args below meth c cx hm hs
  refine g_iload_n cx 1 d_8_6_0 rfl rfl ?_
  refine g_aload_n cx 0 d_8_6_1 rfl rfl ?_
  refine m_get cx (k := 3) d_8_6_2 t_901 ⟨by decide, rfl⟩ hm rfl ?_
  refine g_icmp_lt cx d_8_6_5 rfl (fun c5 => ?_) (fun c5 => ?_)
  · skip
    have hip : i < pn := by
      have h9 : nI i < nI pn := by rw [← hp.1]; exact c5
      exact (nI_ltI (by omega) (by have := hp.2.1; omega)).mp h9
    obtain ⟨p1, p2, p3, p4⟩ := hp.2.2 i hip
    have lp : ∀ (n : Nat) (k W L o v : Nat), NI cd (bg i) k W L o v → k ≤ en i → en i - k < n → G p l e (rmL 0) s m args below meth c 10 D z0 E (MQp D am ad h0 (fun r x' => x' = x ∧ ∃ R, r = some (.long (lI R)) ∧ ((i < pn ∧ NR cd (bg i) (en i - bg i) R) ∨ (¬ i < pn ∧ R = 0)))) 0 0 29 [(7, .int (nI k)), (6, .int (nI W)), (5, .int (nI L)), (4, .int (nI o)), (2, .long (lI v)), (0, .ref am), (1, .int (nI i))] [] h 0 0 := by
      intro n
      induction n with
      | zero => intro k W L o v hNI hk1 hn; exact absurd hn (Nat.not_lt_zero _)
      | succ n ih =>
        intro k W L o v hNI hk1 hn
        refine g_iload cx 0 d_8_6_29 rfl ?_
        refine g_aload_n cx 5 d_8_6_31 rfl rfl ?_
        refine m_get cx (k := 5) d_8_6_32 t_903 ⟨by decide, rfl⟩ hm rfl ?_
        refine g_iload_n cx 6 d_8_6_35 rfl rfl ?_
        refine m_ld1 cx d_8_6_36 (by decide) hm rfl ⟨(show i < 15 from hi), by decide⟩ ?_
        refine g_icmp_ge cx d_8_6_37 rfl (fun c37 => ?_) (fun c37 => ?_)
        · skip
          have hke : k = en i := by
            have h9 : ¬ k < en i := fun q => absurd c37 (by rw [p2]; exact nI_ge q (by omega))
            omega
          rw [hke] at hNI
          refine g_iload cx 2 d_8_6_169 rfl ?_
          refine g_if_ne cx d_8_6_171 rfl (fun c171 => ?_) (fun c171 => ?_)
          · skip
            have hL0 : L ≠ 0 := fun q => c171 (by rw [q]; rfl)
            refine g_lload_n cx 4 d_8_6_176 rfl rfl ?_
            refine g_bipush cx (v := 20) d_8_6_177 (by decide) ?_
            refine g_lshl cx d_8_6_179 ?_
            refine g_iload cx 1 d_8_6_180 rfl ?_
            refine g_i2l cx d_8_6_182 ?_
            refine g_lor cx d_8_6_183 ?_
            refine g_topl (fun V2 eV2 => ?_)
            obtain rfl : V2 = lI (v * 2 ^ 20 + W) := eV2.trans (mw2 hNI.lt)
            refine g_lstore_n cx (lv' := [(2, .long (lI (v * 2 ^ 20 + W))), (7, .int (nI k)), (6, .int (nI W)), (5, .int (nI L)), (4, .int (nI o)), (0, .ref am), (1, .int (nI i))]) d_8_6_184 rfl (by decide) rfl ?_
            refine g_lload_n cx 0 d_8_6_185 rfl rfl ?_
            refine g_bipush cx (v := 20) d_8_6_186 (by decide) ?_
            refine g_iconst cx (v := 3) d_8_6_188 (by decide) ?_
            refine g_iload cx 4 d_8_6_189 rfl ?_
            refine g_isub cx d_8_6_191 ?_
            refine g_imul cx d_8_6_192 ?_
            refine g_lshl cx d_8_6_193 ?_
            exact m_lret cx d_8_6_194 rfl hm hs ⟨rfl, (v * 2 ^ 20 + W) * 2 ^ (20 * (3 - o)), by rw [mw4 hNI.o], Or.inl ⟨hip, hNI.fin hL0⟩⟩
          · skip
            obtain rfl : L = 0 := (nI_eq (b := 0) (by have := hNI.2.1; omega) (by decide)).mp c171
            refine g_lconst cx (v := 0) d_8_6_174 (by decide) ?_
            exact m_lret cx d_8_6_175 rfl hm hs ⟨rfl, 0, rfl, Or.inl ⟨hip, hNI.none⟩⟩
        · skip
          have hk : k < en i := Nat.lt_of_not_le (fun q => c37 (by rw [p2]; exact nI_le q (by omega)))
          have cD : nI (chr cd k) = 46 → G p l e (rmL 0) s m args below meth c 10 D z0 E (MQp D am ad h0 (fun r x' => x' = x ∧ ∃ R, r = some (.long (lI R)) ∧ ((i < pn ∧ NR cd (bg i) (en i - bg i) R) ∨ (¬ i < pn ∧ R = 0)))) 0 0 56 [(8, .int (nI (chr cd k))), (7, .int (nI k)), (6, .int (nI W)), (5, .int (nI L)), (4, .int (nI o)), (2, .long (lI v)), (0, .ref am), (1, .int (nI i))] [] h 0 0 := by
            intro c53
            have h46 : chr cd k = 46 := (nI_eq (b := 46) (Nat.lt_trans chr_lt (by decide)) (by decide)).mp c53
            have hnl : ¬ Let (chr cd k) := fun q => absurd q.1 (by rw [h46]; decide)
            refine g_iconst cx (v := 1) d_8_6_56 (by decide) ?_
            refine g_goto cx d_8_6_57 rfl ?_
            refine g_topi (fun dt edt => ?_)
            obtain rfl : dt = 1 := edt
            refine g_istore cx (lv' := [(9, .int 1), (8, .int (nI (chr cd k))), (7, .int (nI k)), (6, .int (nI W)), (5, .int (nI L)), (4, .int (nI o)), (2, .long (lI v)), (0, .ref am), (1, .int (nI i))]) d_8_6_61 (by decide) rfl ?_
            refine g_iload cx 0 d_8_6_63 rfl ?_
            refine g_if_ne cx d_8_6_65 rfl (fun c65 => ?_) (fun c65 => absurd c65 (by decide))
            refine g_iload cx 0 d_8_6_82 rfl ?_
            refine g_if_eq cx d_8_6_84 rfl (fun c84 => absurd c84 (by decide)) (fun c84 => ?_)
            refine g_iload cx 4 d_8_6_87 rfl ?_
            refine g_if_eq cx d_8_6_89 rfl (fun c89 => ?_) (fun c89 => ?_)
            · skip
              have hbad : NR cd (bg i) (en i - bg i) 0 := hNI.bad hk (Or.inl hnl)
              refine g_lconst cx (v := 0) d_8_6_114 (by decide) ?_
              exact m_lret cx d_8_6_115 rfl hm hs ⟨rfl, 0, rfl, Or.inl ⟨hip, hbad⟩⟩
            · skip
              refine g_iload cx 0 d_8_6_92 rfl ?_
              refine g_if_ne cx d_8_6_94 rfl (fun c94 => ?_) (fun c94 => absurd c94 (by decide))
              refine g_iload cx 0 d_8_6_103 rfl ?_
              refine g_if_eq cx d_8_6_105 rfl (fun c105 => absurd c105 (by decide)) (fun c105 => ?_)
              refine g_iload cx 5 d_8_6_108 rfl ?_
              refine g_iconst cx (v := 3) d_8_6_110 (by decide) ?_
              refine g_icmp_ne cx d_8_6_111 rfl (fun c111 => ?_) (fun c111 => ?_)
              · skip
                refine g_iload cx 0 d_8_6_116 rfl ?_
                refine g_if_eq cx d_8_6_118 rfl (fun c118 => absurd c118 (by decide)) (fun c118 => ?_)
                have ho3 : o ≠ 3 := fun q => c111 (by rw [q]; rfl)
                refine g_lload_n cx 6 d_8_6_121 rfl rfl ?_
                refine g_bipush cx (v := 20) d_8_6_122 (by decide) ?_
                refine g_lshl cx d_8_6_124 ?_
                refine g_iload cx 3 d_8_6_125 rfl ?_
                refine g_i2l cx d_8_6_127 ?_
                refine g_lor cx d_8_6_128 ?_
                refine g_topl (fun V1 eV1 => ?_)
                obtain rfl : V1 = lI (v * 2 ^ 20 + W) := eV1.trans (mw2 hNI.lt)
                refine g_lstore_n cx (lv' := [(2, .long (lI (v * 2 ^ 20 + W))), (9, .int 1), (8, .int (nI (chr cd k))), (7, .int (nI k)), (6, .int (nI W)), (5, .int (nI L)), (4, .int (nI o)), (0, .ref am), (1, .int (nI i))]) d_8_6_129 rfl (by decide) rfl ?_
                refine g_iconst cx (v := 0) d_8_6_130 (by decide) ?_
                refine g_topi (fun w1 ew1 => ?_)
                obtain rfl : w1 = nI 0 := ew1
                refine g_istore cx (lv' := [(6, .int (nI 0)), (2, .long (lI (v * 2 ^ 20 + W))), (9, .int 1), (8, .int (nI (chr cd k))), (7, .int (nI k)), (5, .int (nI L)), (4, .int (nI o)), (0, .ref am), (1, .int (nI i))]) d_8_6_131 (by decide) rfl ?_
                refine g_iconst cx (v := 0) d_8_6_133 (by decide) ?_
                refine g_topi (fun l1 el1 => ?_)
                obtain rfl : l1 = nI 0 := el1
                refine g_istore cx (lv' := [(5, .int (nI 0)), (6, .int (nI 0)), (2, .long (lI (v * 2 ^ 20 + W))), (9, .int 1), (8, .int (nI (chr cd k))), (7, .int (nI k)), (4, .int (nI o)), (0, .ref am), (1, .int (nI i))]) d_8_6_134 (by decide) rfl ?_
                refine g_iinc cx 6 (lv' := [(4, .int (nI (o + 1))), (5, .int (nI 0)), (6, .int (nI 0)), (2, .long (lI (v * 2 ^ 20 + W))), (9, .int 1), (8, .int (nI (chr cd k))), (7, .int (nI k)), (0, .ref am), (1, .int (nI i))]) d_8_6_136 rfl (inc1 o) (by decide) rfl ?_
                refine g_goto cx d_8_6_139 rfl ?_
                refine g_iinc cx 6 (lv' := [(7, .int (nI (k + 1))), (4, .int (nI (o + 1))), (5, .int (nI 0)), (6, .int (nI 0)), (2, .long (lI (v * 2 ^ 20 + W))), (9, .int 1), (8, .int (nI (chr cd k))), (0, .ref am), (1, .int (nI i))]) d_8_6_163 rfl (inc1 k) (by decide) rfl ?_
                refine g_goto cx d_8_6_166 rfl ?_
                refine g_loc (lv' := [(7, .int (nI (k + 1))), (6, .int (nI 0)), (5, .int (nI 0)), (4, .int (nI (o + 1))), (2, .long (lI (v * 2 ^ 20 + W))), (0, .ref am), (1, .int (nI i))]) [0, 3, 2, 1, 4, 7, 8] rfl ?_
                exact ih (k + 1) 0 0 (o + 1) (v * 2 ^ 20 + W) (hNI.dot ho3 hnl) (by omega) (by omega)
              · skip
                have hbad : NR cd (bg i) (en i - bg i) 0 := hNI.bad hk (Or.inl hnl)
                refine g_lconst cx (v := 0) d_8_6_114 (by decide) ?_
                exact m_lret cx d_8_6_115 rfl hm hs ⟨rfl, 0, rfl, Or.inl ⟨hip, hbad⟩⟩
          have cN : G p l e (rmL 0) s m args below meth c 10 D z0 E (MQp D am ad h0 (fun r x' => x' = x ∧ ∃ R, r = some (.long (lI R)) ∧ ((i < pn ∧ NR cd (bg i) (en i - bg i) R) ∨ (¬ i < pn ∧ R = 0)))) 0 0 60 [(8, .int (nI (chr cd k))), (7, .int (nI k)), (6, .int (nI W)), (5, .int (nI L)), (4, .int (nI o)), (2, .long (lI v)), (0, .ref am), (1, .int (nI i))] [] h 0 0 := by
            refine g_iconst cx (v := 0) d_8_6_60 (by decide) ?_
            refine g_topi (fun dt edt => ?_)
            obtain rfl : dt = 0 := edt
            refine g_istore cx (lv' := [(9, .int 0), (8, .int (nI (chr cd k))), (7, .int (nI k)), (6, .int (nI W)), (5, .int (nI L)), (4, .int (nI o)), (2, .long (lI v)), (0, .ref am), (1, .int (nI i))]) d_8_6_61 (by decide) rfl ?_
            refine g_iload cx 0 d_8_6_63 rfl ?_
            refine g_if_ne cx d_8_6_65 rfl (fun c65 => absurd rfl c65) (fun c65 => ?_)
            refine g_iload cx 1 d_8_6_68 rfl ?_
            refine g_bipush cx (v := 97) d_8_6_70 (by decide) ?_
            refine g_icmp_lt cx d_8_6_72 rfl (fun c72 => ?_) (fun c72 => ?_)
            · skip
              have hbad : NR cd (bg i) (en i - bg i) 0 := by
                first
                  | exact hNI.bad hk (Or.inl (fun q => absurd q.1 (Nat.not_le.mpr ((nI_ltI (b := 97) (Nat.lt_trans chr_lt (by decide)) (by decide)).mp c72))))
                  | exact hNI.bad hk (Or.inl (fun q => absurd q.2 (Nat.not_le.mpr ((nI_ltI (a := 122) (by decide) (Nat.lt_trans chr_lt (by decide))).mp c79))))
                  | exact hNI.bad hk (Or.inr ((nI_eq (b := 4) (by have := hNI.2.1; omega) (by decide)).mp c100))
              refine g_lconst cx (v := 0) d_8_6_114 (by decide) ?_
              exact m_lret cx d_8_6_115 rfl hm hs ⟨rfl, 0, rfl, Or.inl ⟨hip, hbad⟩⟩
            · skip
              refine g_iload cx 1 d_8_6_75 rfl ?_
              refine g_bipush cx (v := 122) d_8_6_77 (by decide) ?_
              refine g_icmp_gt cx d_8_6_79 rfl (fun c79 => ?_) (fun c79 => ?_)
              · skip
                have hbad : NR cd (bg i) (en i - bg i) 0 := by
                  first
                    | exact hNI.bad hk (Or.inl (fun q => absurd q.1 (Nat.not_le.mpr ((nI_ltI (b := 97) (Nat.lt_trans chr_lt (by decide)) (by decide)).mp c72))))
                    | exact hNI.bad hk (Or.inl (fun q => absurd q.2 (Nat.not_le.mpr ((nI_ltI (a := 122) (by decide) (Nat.lt_trans chr_lt (by decide))).mp c79))))
                    | exact hNI.bad hk (Or.inr ((nI_eq (b := 4) (by have := hNI.2.1; omega) (by decide)).mp c100))
                refine g_lconst cx (v := 0) d_8_6_114 (by decide) ?_
                exact m_lret cx d_8_6_115 rfl hm hs ⟨rfl, 0, rfl, Or.inl ⟨hip, hbad⟩⟩
              · skip
                refine g_iload cx 0 d_8_6_82 rfl ?_
                refine g_if_eq cx d_8_6_84 rfl (fun c84 => ?_) (fun c84 => absurd rfl c84)
                refine g_iload cx 0 d_8_6_92 rfl ?_
                refine g_if_ne cx d_8_6_94 rfl (fun c94 => absurd rfl c94) (fun c94 => ?_)
                refine g_iload cx 4 d_8_6_97 rfl ?_
                refine g_iconst cx (v := 4) d_8_6_99 (by decide) ?_
                refine g_icmp_eq cx d_8_6_100 rfl (fun c100 => ?_) (fun c100 => ?_)
                · skip
                  have hbad : NR cd (bg i) (en i - bg i) 0 := by
                    first
                      | exact hNI.bad hk (Or.inl (fun q => absurd q.1 (Nat.not_le.mpr ((nI_ltI (b := 97) (Nat.lt_trans chr_lt (by decide)) (by decide)).mp c72))))
                      | exact hNI.bad hk (Or.inl (fun q => absurd q.2 (Nat.not_le.mpr ((nI_ltI (a := 122) (by decide) (Nat.lt_trans chr_lt (by decide))).mp c79))))
                      | exact hNI.bad hk (Or.inr ((nI_eq (b := 4) (by have := hNI.2.1; omega) (by decide)).mp c100))
                  refine g_lconst cx (v := 0) d_8_6_114 (by decide) ?_
                  exact m_lret cx d_8_6_115 rfl hm hs ⟨rfl, 0, rfl, Or.inl ⟨hip, hbad⟩⟩
                · skip
                  refine g_iload cx 0 d_8_6_103 rfl ?_
                  refine g_if_eq cx d_8_6_105 rfl (fun c105 => ?_) (fun c105 => absurd rfl c105)
                  refine g_iload cx 0 d_8_6_116 rfl ?_
                  refine g_if_eq cx d_8_6_118 rfl (fun c118 => ?_) (fun c118 => absurd rfl c118)
                  have hlt : Let (chr cd k) := ⟨Nat.le_of_not_lt (fun q => c72 ((nI_ltI (b := 97) (Nat.lt_trans chr_lt (by decide)) (by decide)).mpr q)), Nat.le_of_not_lt (fun q => c79 ((nI_ltI (a := 122) (by decide) (Nat.lt_trans chr_lt (by decide))).mpr q))⟩
                  have hL4 : L < 4 := by
                    have h1 := hNI.2.1
                    have h2 : L ≠ 4 := fun q => c100 (by rw [q]; rfl)
                    omega
                  obtain ⟨qq, hqq, -, -⟩ := hNI.2.2.1
                  refine g_iload cx 3 d_8_6_142 rfl ?_
                  refine g_iload cx 1 d_8_6_144 rfl ?_
                  refine g_bipush cx (v := 96) d_8_6_146 (by decide) ?_
                  refine g_isub cx d_8_6_148 ?_
                  refine g_bipush cx (v := 15) d_8_6_149 (by decide) ?_
                  refine g_iconst cx (v := 5) d_8_6_151 (by decide) ?_
                  refine g_iload cx 4 d_8_6_152 rfl ?_
                  refine g_imul cx d_8_6_154 ?_
                  refine g_isub cx d_8_6_155 ?_
                  refine g_ishl cx d_8_6_156 ?_
                  refine g_ior cx d_8_6_157 ?_
                  refine g_topi (fun w1 ew1 => ?_)
                  obtain rfl : w1 = nI (W + (chr cd k - 96) * 2 ^ (15 - 5 * L)) := ew1.trans (mw5 hL4 hqq hlt)
                  refine g_istore cx (lv' := [(6, .int (nI (W + (chr cd k - 96) * 2 ^ (15 - 5 * L)))), (9, .int 0), (8, .int (nI (chr cd k))), (7, .int (nI k)), (5, .int (nI L)), (4, .int (nI o)), (2, .long (lI v)), (0, .ref am), (1, .int (nI i))]) d_8_6_158 (by decide) rfl ?_
                  refine g_iinc cx 4 (lv' := [(5, .int (nI (L + 1))), (6, .int (nI (W + (chr cd k - 96) * 2 ^ (15 - 5 * L)))), (9, .int 0), (8, .int (nI (chr cd k))), (7, .int (nI k)), (4, .int (nI o)), (2, .long (lI v)), (0, .ref am), (1, .int (nI i))]) d_8_6_160 rfl (inc1 L) (by decide) rfl ?_
                  refine g_iinc cx 4 (lv' := [(7, .int (nI (k + 1))), (5, .int (nI (L + 1))), (6, .int (nI (W + (chr cd k - 96) * 2 ^ (15 - 5 * L)))), (9, .int 0), (8, .int (nI (chr cd k))), (4, .int (nI o)), (2, .long (lI v)), (0, .ref am), (1, .int (nI i))]) d_8_6_163 rfl (inc1 k) (by decide) rfl ?_
                  refine g_goto cx d_8_6_166 rfl ?_
                  refine g_loc (lv' := [(7, .int (nI (k + 1))), (6, .int (nI (W + (chr cd k - 96) * 2 ^ (15 - 5 * L)))), (5, .int (nI (L + 1))), (4, .int (nI o)), (2, .long (lI v)), (0, .ref am), (1, .int (nI i))]) [0, 2, 1, 5, 6, 7, 8] rfl ?_
                  exact ih (k + 1) (W + (chr cd k - 96) * 2 ^ (15 - 5 * L)) (L + 1) o v (hNI.letter hL4 hlt) (by omega) (by omega)
          refine g_aload_n cx 5 d_8_6_40 rfl rfl ?_
          refine m_get cx (k := 1) d_8_6_41 t_899 ⟨by decide, rfl⟩ hm rfl ?_
          refine g_iload cx 0 d_8_6_44 rfl ?_
          refine m_ld2 cx d_8_6_46 (by decide) hm rfl ⟨(show k < 30 by omega), by decide⟩ ?_
          refine g_topi (fun ch ech => ?_)
          obtain rfl : ch = nI (chr cd k) := ech.trans (htx hip k hk)
          refine g_istore cx (lv' := [(8, .int (nI (chr cd k))), (7, .int (nI k)), (6, .int (nI W)), (5, .int (nI L)), (4, .int (nI o)), (2, .long (lI v)), (0, .ref am), (1, .int (nI i))]) d_8_6_47 (by decide) rfl ?_
          refine g_iload cx 0 d_8_6_49 rfl ?_
          refine g_bipush cx (v := 46) d_8_6_51 (by decide) ?_
          refine g_icmp_ne cx d_8_6_53 rfl (fun c53 => ?_) (fun c53 => ?_)
          · skip
            exact cN
          · skip
            exact cD c53
    refine g_lconst cx (v := 0) d_8_6_10 (by decide) ?_
    refine g_topl (fun V eV => ?_)
    obtain rfl : V = lI 0 := eV
    refine g_lstore_n cx (lv' := [(2, .long (lI 0)), (0, .ref am), (1, .int (nI i))]) d_8_6_11 rfl (by decide) rfl ?_
    refine g_iconst cx (v := 1) d_8_6_12 (by decide) ?_
    refine g_topi (fun wo ewo => ?_)
    obtain rfl : wo = nI 1 := ewo
    refine g_istore cx (lv' := [(4, .int (nI 1)), (2, .long (lI 0)), (0, .ref am), (1, .int (nI i))]) d_8_6_13 (by decide) rfl ?_
    refine g_iconst cx (v := 0) d_8_6_15 (by decide) ?_
    refine g_topi (fun le ele => ?_)
    obtain rfl : le = nI 0 := ele
    refine g_istore cx (lv' := [(5, .int (nI 0)), (4, .int (nI 1)), (2, .long (lI 0)), (0, .ref am), (1, .int (nI i))]) d_8_6_16 (by decide) rfl ?_
    refine g_iconst cx (v := 0) d_8_6_18 (by decide) ?_
    refine g_topi (fun wv ewv => ?_)
    obtain rfl : wv = nI 0 := ewv
    refine g_istore cx (lv' := [(6, .int (nI 0)), (5, .int (nI 0)), (4, .int (nI 1)), (2, .long (lI 0)), (0, .ref am), (1, .int (nI i))]) d_8_6_19 (by decide) rfl ?_
    refine g_aload_n cx 4 d_8_6_21 rfl rfl ?_
    refine m_get cx (k := 4) d_8_6_22 t_902 ⟨by decide, rfl⟩ hm rfl ?_
    refine g_iload_n cx 5 d_8_6_25 rfl rfl ?_
    refine m_ld1 cx d_8_6_26 (by decide) hm rfl ⟨(show i < 15 from hi), by decide⟩ ?_
    refine g_topi (fun k0 ek0 => ?_)
    obtain rfl : k0 = nI (bg i) := ek0.trans p1
    refine g_istore cx (lv' := [(7, .int (nI (bg i))), (6, .int (nI 0)), (5, .int (nI 0)), (4, .int (nI 1)), (2, .long (lI 0)), (0, .ref am), (1, .int (nI i))]) d_8_6_27 (by decide) rfl ?_
    exact lp (en i + 1) (bg i) 0 0 1 0 NI.zero (by omega) (by omega)
  · skip
    have hnip : ¬ i < pn := fun q => c5 (by show nI i < x.1 3; rw [hp.1]; exact nI_lt q (by have := hp.2.1; omega))
    refine g_lconst cx (v := 0) d_8_6_8 (by decide) ?_
    exact m_lret cx d_8_6_9 rfl hm hs ⟨rfl, 0, rfl, Or.inr ⟨hnip, rfl⟩⟩
set_option maxHeartbeats 4000000 in
theorem mc_nameOfG (hSt : Stb z0 E) (hA : Ad am ad) (x : MS) (i pn cd : Nat) (bg en : Nat → Nat) (hp : PT x pn bg en) (hi : i < 15) (htx : i < pn → ∀ j, j < en i → x.2.1 1 j = nI (chr cd j)) : MC l y_165 prog_8_method_6_code 10 (Option.some Jvm.ClassFile.FieldType.long) 0 D z0 E am ad [.int (nI i)] x (fun r x' => x' = x ∧ ∃ R, r = some (.long (lI R)) ∧ ((i < pn ∧ NV cd 2 (bg i) (en i - bg i) R) ∨ (¬ (i < pn ∧ NmR cd 2 (bg i) (en i - bg i)) ∧ R = 0))) := by
  refine mc_of hSt rfl (Nat.le_of_ble_eq_true rfl) ?_
  intro h0 h p e s m args below meth c cx hm hs
  refine g_iload_n cx 1 d_8_6_0 rfl rfl ?_
  refine g_aload_n cx 0 d_8_6_1 rfl rfl ?_
  refine m_get cx (k := 3) d_8_6_2 t_901 ⟨by decide, rfl⟩ hm rfl ?_
  refine g_icmp_lt cx d_8_6_5 rfl (fun c5 => ?_) (fun c5 => ?_)
  · skip
    have hip : i < pn := by
      have h9 : nI i < nI pn := by rw [← hp.1]; exact c5
      exact (nI_ltI (by omega) (by have := hp.2.1; omega)).mp h9
    obtain ⟨p1, p2, p3, p4⟩ := hp.2.2 i hip
    have lp : ∀ (n : Nat) (k W L o v : Nat), NJ cd (bg i) (en i - bg i) k W L o v → k ≤ en i → en i - k < n → G p l e (rmL 0) s m args below meth c 10 D z0 E (MQp D am ad h0 (fun r x' => x' = x ∧ ∃ R, r = some (.long (lI R)) ∧ ((i < pn ∧ NV cd 2 (bg i) (en i - bg i) R) ∨ (¬ (i < pn ∧ NmR cd 2 (bg i) (en i - bg i)) ∧ R = 0)))) 0 0 29 [(7, .int (nI k)), (6, .int (nI W)), (5, .int (nI L)), (4, .int (nI o)), (2, .long (lI v)), (0, .ref am), (1, .int (nI i))] [] h 0 0 := by
      intro n
      induction n with
      | zero => intro k W L o v hNI hk1 hn; exact absurd hn (Nat.not_lt_zero _)
      | succ n ih =>
        intro k W L o v hNI hk1 hn
        refine g_iload cx 0 d_8_6_29 rfl ?_
        refine g_aload_n cx 5 d_8_6_31 rfl rfl ?_
        refine m_get cx (k := 5) d_8_6_32 t_903 ⟨by decide, rfl⟩ hm rfl ?_
        refine g_iload_n cx 6 d_8_6_35 rfl rfl ?_
        refine m_ld1 cx d_8_6_36 (by decide) hm rfl ⟨(show i < 15 from hi), by decide⟩ ?_
        refine g_icmp_ge cx d_8_6_37 rfl (fun c37 => ?_) (fun c37 => ?_)
        · skip
          have hke : k = bg i + (en i - bg i) := by
            have h9 : ¬ k < en i := fun q => absurd c37 (by rw [p2]; exact nI_ge q (by omega))
            omega
          rw [hke] at hNI
          refine g_iload cx 2 d_8_6_169 rfl ?_
          refine g_if_ne cx d_8_6_171 rfl (fun c171 => ?_) (fun c171 => ?_)
          · skip
            have hL0 : L ≠ 0 := fun q => c171 (by rw [q]; rfl)
            refine g_lload_n cx 4 d_8_6_176 rfl rfl ?_
            refine g_bipush cx (v := 20) d_8_6_177 (by decide) ?_
            refine g_lshl cx d_8_6_179 ?_
            refine g_iload cx 1 d_8_6_180 rfl ?_
            refine g_i2l cx d_8_6_182 ?_
            refine g_lor cx d_8_6_183 ?_
            refine g_topl (fun V2 eV2 => ?_)
            obtain rfl : V2 = lI (v * 2 ^ 20 + W) := eV2.trans (mw2 hNI.lt)
            refine g_lstore_n cx (lv' := [(2, .long (lI (v * 2 ^ 20 + W))), (7, .int (nI k)), (6, .int (nI W)), (5, .int (nI L)), (4, .int (nI o)), (0, .ref am), (1, .int (nI i))]) d_8_6_184 rfl (by decide) rfl ?_
            refine g_lload_n cx 0 d_8_6_185 rfl rfl ?_
            refine g_bipush cx (v := 20) d_8_6_186 (by decide) ?_
            refine g_iconst cx (v := 3) d_8_6_188 (by decide) ?_
            refine g_iload cx 4 d_8_6_189 rfl ?_
            refine g_isub cx d_8_6_191 ?_
            refine g_imul cx d_8_6_192 ?_
            refine g_lshl cx d_8_6_193 ?_
            exact m_lret cx d_8_6_194 rfl hm hs ⟨rfl, (v * 2 ^ 20 + W) * 2 ^ (20 * (3 - o)), by rw [mw4 hNI.o.1], Or.inl ⟨hip, hNI.fin hL0⟩⟩
          · skip
            obtain rfl : L = 0 := (nI_eq (b := 0) (by have := hNI.o.2.1; omega) (by decide)).mp c171
            refine g_lconst cx (v := 0) d_8_6_174 (by decide) ?_
            exact m_lret cx d_8_6_175 rfl hm hs ⟨rfl, 0, rfl, Or.inr ⟨fun q => hNI.none q.2, rfl⟩⟩
        · skip
          have hk : k < en i := Nat.lt_of_not_le (fun q => c37 (by rw [p2]; exact nI_le q (by omega)))
          have cD : nI (chr cd k) = 46 → G p l e (rmL 0) s m args below meth c 10 D z0 E (MQp D am ad h0 (fun r x' => x' = x ∧ ∃ R, r = some (.long (lI R)) ∧ ((i < pn ∧ NV cd 2 (bg i) (en i - bg i) R) ∨ (¬ (i < pn ∧ NmR cd 2 (bg i) (en i - bg i)) ∧ R = 0)))) 0 0 56 [(8, .int (nI (chr cd k))), (7, .int (nI k)), (6, .int (nI W)), (5, .int (nI L)), (4, .int (nI o)), (2, .long (lI v)), (0, .ref am), (1, .int (nI i))] [] h 0 0 := by
            intro c53
            have h46 : chr cd k = 46 := (nI_eq (b := 46) (Nat.lt_trans chr_lt (by decide)) (by decide)).mp c53
            refine g_iconst cx (v := 1) d_8_6_56 (by decide) ?_
            refine g_goto cx d_8_6_57 rfl ?_
            refine g_topi (fun dt edt => ?_)
            obtain rfl : dt = 1 := edt
            refine g_istore cx (lv' := [(9, .int 1), (8, .int (nI (chr cd k))), (7, .int (nI k)), (6, .int (nI W)), (5, .int (nI L)), (4, .int (nI o)), (2, .long (lI v)), (0, .ref am), (1, .int (nI i))]) d_8_6_61 (by decide) rfl ?_
            refine g_iload cx 0 d_8_6_63 rfl ?_
            refine g_if_ne cx d_8_6_65 rfl (fun c65 => ?_) (fun c65 => absurd c65 (by decide))
            refine g_iload cx 0 d_8_6_82 rfl ?_
            refine g_if_eq cx d_8_6_84 rfl (fun c84 => absurd c84 (by decide)) (fun c84 => ?_)
            refine g_iload cx 4 d_8_6_87 rfl ?_
            refine g_if_eq cx d_8_6_89 rfl (fun c89 => ?_) (fun c89 => ?_)
            · skip
              have hbad : ¬ NmR cd 2 (bg i) (en i - bg i) := by
                first
                  | exact hNI.bad (by omega) (Or.inr (Or.inl ⟨h46, (nI_eq (b := 0) (by have := hNI.o.2.1; omega) (by decide)).mp c89⟩))
                  | exact hNI.bad (by omega) (Or.inr (Or.inr (Or.inr ⟨h46, (nI_eq (b := 3) (by have := hNI.o.1; omega) (by decide)).mp c111⟩)))
              refine g_lconst cx (v := 0) d_8_6_114 (by decide) ?_
              exact m_lret cx d_8_6_115 rfl hm hs ⟨rfl, 0, rfl, Or.inr ⟨fun q => hbad q.2, rfl⟩⟩
            · skip
              refine g_iload cx 0 d_8_6_92 rfl ?_
              refine g_if_ne cx d_8_6_94 rfl (fun c94 => ?_) (fun c94 => absurd c94 (by decide))
              refine g_iload cx 0 d_8_6_103 rfl ?_
              refine g_if_eq cx d_8_6_105 rfl (fun c105 => absurd c105 (by decide)) (fun c105 => ?_)
              refine g_iload cx 5 d_8_6_108 rfl ?_
              refine g_iconst cx (v := 3) d_8_6_110 (by decide) ?_
              refine g_icmp_ne cx d_8_6_111 rfl (fun c111 => ?_) (fun c111 => ?_)
              · skip
                refine g_iload cx 0 d_8_6_116 rfl ?_
                refine g_if_eq cx d_8_6_118 rfl (fun c118 => absurd c118 (by decide)) (fun c118 => ?_)
                have ho3 : o ≠ 3 := fun q => c111 (by rw [q]; rfl)
                have hL0 : L ≠ 0 := fun q => c89 (by rw [q]; rfl)
                refine g_lload_n cx 6 d_8_6_121 rfl rfl ?_
                refine g_bipush cx (v := 20) d_8_6_122 (by decide) ?_
                refine g_lshl cx d_8_6_124 ?_
                refine g_iload cx 3 d_8_6_125 rfl ?_
                refine g_i2l cx d_8_6_127 ?_
                refine g_lor cx d_8_6_128 ?_
                refine g_topl (fun V1 eV1 => ?_)
                obtain rfl : V1 = lI (v * 2 ^ 20 + W) := eV1.trans (mw2 hNI.lt)
                refine g_lstore_n cx (lv' := [(2, .long (lI (v * 2 ^ 20 + W))), (9, .int 1), (8, .int (nI (chr cd k))), (7, .int (nI k)), (6, .int (nI W)), (5, .int (nI L)), (4, .int (nI o)), (0, .ref am), (1, .int (nI i))]) d_8_6_129 rfl (by decide) rfl ?_
                refine g_iconst cx (v := 0) d_8_6_130 (by decide) ?_
                refine g_topi (fun w1 ew1 => ?_)
                obtain rfl : w1 = nI 0 := ew1
                refine g_istore cx (lv' := [(6, .int (nI 0)), (2, .long (lI (v * 2 ^ 20 + W))), (9, .int 1), (8, .int (nI (chr cd k))), (7, .int (nI k)), (5, .int (nI L)), (4, .int (nI o)), (0, .ref am), (1, .int (nI i))]) d_8_6_131 (by decide) rfl ?_
                refine g_iconst cx (v := 0) d_8_6_133 (by decide) ?_
                refine g_topi (fun l1 el1 => ?_)
                obtain rfl : l1 = nI 0 := el1
                refine g_istore cx (lv' := [(5, .int (nI 0)), (6, .int (nI 0)), (2, .long (lI (v * 2 ^ 20 + W))), (9, .int 1), (8, .int (nI (chr cd k))), (7, .int (nI k)), (4, .int (nI o)), (0, .ref am), (1, .int (nI i))]) d_8_6_134 (by decide) rfl ?_
                refine g_iinc cx 6 (lv' := [(4, .int (nI (o + 1))), (5, .int (nI 0)), (6, .int (nI 0)), (2, .long (lI (v * 2 ^ 20 + W))), (9, .int 1), (8, .int (nI (chr cd k))), (7, .int (nI k)), (0, .ref am), (1, .int (nI i))]) d_8_6_136 rfl (inc1 o) (by decide) rfl ?_
                refine g_goto cx d_8_6_139 rfl ?_
                refine g_iinc cx 6 (lv' := [(7, .int (nI (k + 1))), (4, .int (nI (o + 1))), (5, .int (nI 0)), (6, .int (nI 0)), (2, .long (lI (v * 2 ^ 20 + W))), (9, .int 1), (8, .int (nI (chr cd k))), (0, .ref am), (1, .int (nI i))]) d_8_6_163 rfl (inc1 k) (by decide) rfl ?_
                refine g_goto cx d_8_6_166 rfl ?_
                refine g_loc (lv' := [(7, .int (nI (k + 1))), (6, .int (nI 0)), (5, .int (nI 0)), (4, .int (nI (o + 1))), (2, .long (lI (v * 2 ^ 20 + W))), (0, .ref am), (1, .int (nI i))]) [0, 3, 2, 1, 4, 7, 8] rfl ?_
                exact ih (k + 1) 0 0 (o + 1) (v * 2 ^ 20 + W) (hNI.dot (by omega) hL0 ho3 h46) (by omega) (by omega)
              · skip
                have hbad : ¬ NmR cd 2 (bg i) (en i - bg i) := by
                  first
                    | exact hNI.bad (by omega) (Or.inr (Or.inl ⟨h46, (nI_eq (b := 0) (by have := hNI.o.2.1; omega) (by decide)).mp c89⟩))
                    | exact hNI.bad (by omega) (Or.inr (Or.inr (Or.inr ⟨h46, (nI_eq (b := 3) (by have := hNI.o.1; omega) (by decide)).mp c111⟩)))
                refine g_lconst cx (v := 0) d_8_6_114 (by decide) ?_
                exact m_lret cx d_8_6_115 rfl hm hs ⟨rfl, 0, rfl, Or.inr ⟨fun q => hbad q.2, rfl⟩⟩
          have cN : ¬ nI (chr cd k) = 46 → G p l e (rmL 0) s m args below meth c 10 D z0 E (MQp D am ad h0 (fun r x' => x' = x ∧ ∃ R, r = some (.long (lI R)) ∧ ((i < pn ∧ NV cd 2 (bg i) (en i - bg i) R) ∨ (¬ (i < pn ∧ NmR cd 2 (bg i) (en i - bg i)) ∧ R = 0)))) 0 0 60 [(8, .int (nI (chr cd k))), (7, .int (nI k)), (6, .int (nI W)), (5, .int (nI L)), (4, .int (nI o)), (2, .long (lI v)), (0, .ref am), (1, .int (nI i))] [] h 0 0 := by
            intro c53
            refine g_iconst cx (v := 0) d_8_6_60 (by decide) ?_
            refine g_topi (fun dt edt => ?_)
            obtain rfl : dt = 0 := edt
            refine g_istore cx (lv' := [(9, .int 0), (8, .int (nI (chr cd k))), (7, .int (nI k)), (6, .int (nI W)), (5, .int (nI L)), (4, .int (nI o)), (2, .long (lI v)), (0, .ref am), (1, .int (nI i))]) d_8_6_61 (by decide) rfl ?_
            refine g_iload cx 0 d_8_6_63 rfl ?_
            refine g_if_ne cx d_8_6_65 rfl (fun c65 => absurd rfl c65) (fun c65 => ?_)
            refine g_iload cx 1 d_8_6_68 rfl ?_
            refine g_bipush cx (v := 97) d_8_6_70 (by decide) ?_
            refine g_icmp_lt cx d_8_6_72 rfl (fun c72 => ?_) (fun c72 => ?_)
            · skip
              have hbad : ¬ NmR cd 2 (bg i) (en i - bg i) := by
                first
                  | exact hNI.bad (by omega) (Or.inr (Or.inr (Or.inl ⟨⟨Nat.le_of_not_lt (fun q => c72 ((nI_ltI (b := 97) (Nat.lt_trans chr_lt (by decide)) (by decide)).mpr q)), Nat.le_of_not_lt (fun q => c79 ((nI_ltI (a := 122) (by decide) (Nat.lt_trans chr_lt (by decide))).mpr q))⟩, (nI_eq (b := 4) (by have := hNI.o.2.1; omega) (by decide)).mp c100⟩)))
                  | exact hNI.bad (by omega) (Or.inl ⟨fun q => absurd q.2 (Nat.not_le.mpr ((nI_ltI (a := 122) (by decide) (Nat.lt_trans chr_lt (by decide))).mp c79)), fun q => c53 (congrArg nI q)⟩)
                  | exact hNI.bad (by omega) (Or.inl ⟨fun q => absurd q.1 (Nat.not_le.mpr ((nI_ltI (b := 97) (Nat.lt_trans chr_lt (by decide)) (by decide)).mp c72)), fun q => c53 (congrArg nI q)⟩)
              refine g_lconst cx (v := 0) d_8_6_114 (by decide) ?_
              exact m_lret cx d_8_6_115 rfl hm hs ⟨rfl, 0, rfl, Or.inr ⟨fun q => hbad q.2, rfl⟩⟩
            · skip
              refine g_iload cx 1 d_8_6_75 rfl ?_
              refine g_bipush cx (v := 122) d_8_6_77 (by decide) ?_
              refine g_icmp_gt cx d_8_6_79 rfl (fun c79 => ?_) (fun c79 => ?_)
              · skip
                have hbad : ¬ NmR cd 2 (bg i) (en i - bg i) := by
                  first
                    | exact hNI.bad (by omega) (Or.inr (Or.inr (Or.inl ⟨⟨Nat.le_of_not_lt (fun q => c72 ((nI_ltI (b := 97) (Nat.lt_trans chr_lt (by decide)) (by decide)).mpr q)), Nat.le_of_not_lt (fun q => c79 ((nI_ltI (a := 122) (by decide) (Nat.lt_trans chr_lt (by decide))).mpr q))⟩, (nI_eq (b := 4) (by have := hNI.o.2.1; omega) (by decide)).mp c100⟩)))
                    | exact hNI.bad (by omega) (Or.inl ⟨fun q => absurd q.2 (Nat.not_le.mpr ((nI_ltI (a := 122) (by decide) (Nat.lt_trans chr_lt (by decide))).mp c79)), fun q => c53 (congrArg nI q)⟩)
                    | exact hNI.bad (by omega) (Or.inl ⟨fun q => absurd q.1 (Nat.not_le.mpr ((nI_ltI (b := 97) (Nat.lt_trans chr_lt (by decide)) (by decide)).mp c72)), fun q => c53 (congrArg nI q)⟩)
                refine g_lconst cx (v := 0) d_8_6_114 (by decide) ?_
                exact m_lret cx d_8_6_115 rfl hm hs ⟨rfl, 0, rfl, Or.inr ⟨fun q => hbad q.2, rfl⟩⟩
              · skip
                refine g_iload cx 0 d_8_6_82 rfl ?_
                refine g_if_eq cx d_8_6_84 rfl (fun c84 => ?_) (fun c84 => absurd rfl c84)
                refine g_iload cx 0 d_8_6_92 rfl ?_
                refine g_if_ne cx d_8_6_94 rfl (fun c94 => absurd rfl c94) (fun c94 => ?_)
                refine g_iload cx 4 d_8_6_97 rfl ?_
                refine g_iconst cx (v := 4) d_8_6_99 (by decide) ?_
                refine g_icmp_eq cx d_8_6_100 rfl (fun c100 => ?_) (fun c100 => ?_)
                · skip
                  have hbad : ¬ NmR cd 2 (bg i) (en i - bg i) := by
                    first
                      | exact hNI.bad (by omega) (Or.inr (Or.inr (Or.inl ⟨⟨Nat.le_of_not_lt (fun q => c72 ((nI_ltI (b := 97) (Nat.lt_trans chr_lt (by decide)) (by decide)).mpr q)), Nat.le_of_not_lt (fun q => c79 ((nI_ltI (a := 122) (by decide) (Nat.lt_trans chr_lt (by decide))).mpr q))⟩, (nI_eq (b := 4) (by have := hNI.o.2.1; omega) (by decide)).mp c100⟩)))
                      | exact hNI.bad (by omega) (Or.inl ⟨fun q => absurd q.2 (Nat.not_le.mpr ((nI_ltI (a := 122) (by decide) (Nat.lt_trans chr_lt (by decide))).mp c79)), fun q => c53 (congrArg nI q)⟩)
                      | exact hNI.bad (by omega) (Or.inl ⟨fun q => absurd q.1 (Nat.not_le.mpr ((nI_ltI (b := 97) (Nat.lt_trans chr_lt (by decide)) (by decide)).mp c72)), fun q => c53 (congrArg nI q)⟩)
                  refine g_lconst cx (v := 0) d_8_6_114 (by decide) ?_
                  exact m_lret cx d_8_6_115 rfl hm hs ⟨rfl, 0, rfl, Or.inr ⟨fun q => hbad q.2, rfl⟩⟩
                · skip
                  refine g_iload cx 0 d_8_6_103 rfl ?_
                  refine g_if_eq cx d_8_6_105 rfl (fun c105 => ?_) (fun c105 => absurd rfl c105)
                  refine g_iload cx 0 d_8_6_116 rfl ?_
                  refine g_if_eq cx d_8_6_118 rfl (fun c118 => ?_) (fun c118 => absurd rfl c118)
                  have hlt : Let (chr cd k) := ⟨Nat.le_of_not_lt (fun q => c72 ((nI_ltI (b := 97) (Nat.lt_trans chr_lt (by decide)) (by decide)).mpr q)), Nat.le_of_not_lt (fun q => c79 ((nI_ltI (a := 122) (by decide) (Nat.lt_trans chr_lt (by decide))).mpr q))⟩
                  have hL4 : L < 4 := by
                    have h1 := hNI.o.2.1
                    have h2 : L ≠ 4 := fun q => c100 (by rw [q]; rfl)
                    omega
                  obtain ⟨qq, hqq⟩ := hNI.q
                  refine g_iload cx 3 d_8_6_142 rfl ?_
                  refine g_iload cx 1 d_8_6_144 rfl ?_
                  refine g_bipush cx (v := 96) d_8_6_146 (by decide) ?_
                  refine g_isub cx d_8_6_148 ?_
                  refine g_bipush cx (v := 15) d_8_6_149 (by decide) ?_
                  refine g_iconst cx (v := 5) d_8_6_151 (by decide) ?_
                  refine g_iload cx 4 d_8_6_152 rfl ?_
                  refine g_imul cx d_8_6_154 ?_
                  refine g_isub cx d_8_6_155 ?_
                  refine g_ishl cx d_8_6_156 ?_
                  refine g_ior cx d_8_6_157 ?_
                  refine g_topi (fun w1 ew1 => ?_)
                  obtain rfl : w1 = nI (W + (chr cd k - 96) * 2 ^ (15 - 5 * L)) := ew1.trans (mw5 hL4 hqq hlt)
                  refine g_istore cx (lv' := [(6, .int (nI (W + (chr cd k - 96) * 2 ^ (15 - 5 * L)))), (9, .int 0), (8, .int (nI (chr cd k))), (7, .int (nI k)), (5, .int (nI L)), (4, .int (nI o)), (2, .long (lI v)), (0, .ref am), (1, .int (nI i))]) d_8_6_158 (by decide) rfl ?_
                  refine g_iinc cx 4 (lv' := [(5, .int (nI (L + 1))), (6, .int (nI (W + (chr cd k - 96) * 2 ^ (15 - 5 * L)))), (9, .int 0), (8, .int (nI (chr cd k))), (7, .int (nI k)), (4, .int (nI o)), (2, .long (lI v)), (0, .ref am), (1, .int (nI i))]) d_8_6_160 rfl (inc1 L) (by decide) rfl ?_
                  refine g_iinc cx 4 (lv' := [(7, .int (nI (k + 1))), (5, .int (nI (L + 1))), (6, .int (nI (W + (chr cd k - 96) * 2 ^ (15 - 5 * L)))), (9, .int 0), (8, .int (nI (chr cd k))), (4, .int (nI o)), (2, .long (lI v)), (0, .ref am), (1, .int (nI i))]) d_8_6_163 rfl (inc1 k) (by decide) rfl ?_
                  refine g_goto cx d_8_6_166 rfl ?_
                  refine g_loc (lv' := [(7, .int (nI (k + 1))), (6, .int (nI (W + (chr cd k - 96) * 2 ^ (15 - 5 * L)))), (5, .int (nI (L + 1))), (4, .int (nI o)), (2, .long (lI v)), (0, .ref am), (1, .int (nI i))]) [0, 2, 1, 5, 6, 7, 8] rfl ?_
                  exact ih (k + 1) (W + (chr cd k - 96) * 2 ^ (15 - 5 * L)) (L + 1) o v (hNI.letter hL4 hlt) (by omega) (by omega)
          refine g_aload_n cx 5 d_8_6_40 rfl rfl ?_
          refine m_get cx (k := 1) d_8_6_41 t_899 ⟨by decide, rfl⟩ hm rfl ?_
          refine g_iload cx 0 d_8_6_44 rfl ?_
          refine m_ld2 cx d_8_6_46 (by decide) hm rfl ⟨(show k < 30 by omega), by decide⟩ ?_
          refine g_topi (fun ch ech => ?_)
          obtain rfl : ch = nI (chr cd k) := ech.trans (htx hip k hk)
          refine g_istore cx (lv' := [(8, .int (nI (chr cd k))), (7, .int (nI k)), (6, .int (nI W)), (5, .int (nI L)), (4, .int (nI o)), (2, .long (lI v)), (0, .ref am), (1, .int (nI i))]) d_8_6_47 (by decide) rfl ?_
          refine g_iload cx 0 d_8_6_49 rfl ?_
          refine g_bipush cx (v := 46) d_8_6_51 (by decide) ?_
          refine g_icmp_ne cx d_8_6_53 rfl (fun c53 => ?_) (fun c53 => ?_)
          · skip
            exact cN c53
          · skip
            exact cD c53
    refine g_lconst cx (v := 0) d_8_6_10 (by decide) ?_
    refine g_topl (fun V eV => ?_)
    obtain rfl : V = lI 0 := eV
    refine g_lstore_n cx (lv' := [(2, .long (lI 0)), (0, .ref am), (1, .int (nI i))]) d_8_6_11 rfl (by decide) rfl ?_
    refine g_iconst cx (v := 1) d_8_6_12 (by decide) ?_
    refine g_topi (fun wo ewo => ?_)
    obtain rfl : wo = nI 1 := ewo
    refine g_istore cx (lv' := [(4, .int (nI 1)), (2, .long (lI 0)), (0, .ref am), (1, .int (nI i))]) d_8_6_13 (by decide) rfl ?_
    refine g_iconst cx (v := 0) d_8_6_15 (by decide) ?_
    refine g_topi (fun le ele => ?_)
    obtain rfl : le = nI 0 := ele
    refine g_istore cx (lv' := [(5, .int (nI 0)), (4, .int (nI 1)), (2, .long (lI 0)), (0, .ref am), (1, .int (nI i))]) d_8_6_16 (by decide) rfl ?_
    refine g_iconst cx (v := 0) d_8_6_18 (by decide) ?_
    refine g_topi (fun wv ewv => ?_)
    obtain rfl : wv = nI 0 := ewv
    refine g_istore cx (lv' := [(6, .int (nI 0)), (5, .int (nI 0)), (4, .int (nI 1)), (2, .long (lI 0)), (0, .ref am), (1, .int (nI i))]) d_8_6_19 (by decide) rfl ?_
    refine g_aload_n cx 4 d_8_6_21 rfl rfl ?_
    refine m_get cx (k := 4) d_8_6_22 t_902 ⟨by decide, rfl⟩ hm rfl ?_
    refine g_iload_n cx 5 d_8_6_25 rfl rfl ?_
    refine m_ld1 cx d_8_6_26 (by decide) hm rfl ⟨(show i < 15 from hi), by decide⟩ ?_
    refine g_topi (fun k0 ek0 => ?_)
    obtain rfl : k0 = nI (bg i) := ek0.trans p1
    refine g_istore cx (lv' := [(7, .int (nI (bg i))), (6, .int (nI 0)), (5, .int (nI 0)), (4, .int (nI 1)), (2, .long (lI 0)), (0, .ref am), (1, .int (nI i))]) d_8_6_27 (by decide) rfl ?_
    exact lp (en i + 1) (bg i) 0 0 1 0 NJ.zero (by omega) (by omega)
  · skip
    have hnip : ¬ i < pn := fun q => c5 (by show nI i < x.1 3; rw [hp.1]; exact nI_lt q (by have := hp.2.1; omega))
    refine g_lconst cx (v := 0) d_8_6_8 (by decide) ?_
    exact m_lret cx d_8_6_9 rfl hm hs ⟨rfl, 0, rfl, Or.inr ⟨fun q => hnip q.1, rfl⟩⟩
set_option maxHeartbeats 4000000 in
theorem mc_wordOfF (hSt : Stb z0 E) (hA : Ad am ad) (x : MS) (i pn cd : Nat) (bg en : Nat → Nat) (hp : PT x pn bg en) (hi : i < 15) (htx : i < pn → ∀ j, j < en i → x.2.1 1 j = nI (chr cd j)) : MC l y_164 prog_8_method_7_code 4 (Option.some Jvm.ClassFile.FieldType.int) 1 D z0 E am ad [.int (nI i)] x (fun r x' => x' = x ∧ ∃ W, r = some (.int (nI W)) ∧ ((i < pn ∧ WordP cd (bg i) (en i - bg i) ∧ W = wcp cd (bg i) (en i - bg i)) ∨ (¬ (i < pn ∧ WordP cd (bg i) (en i - bg i)) ∧ W = 0))) := by
  refine mc_of hSt rfl (Nat.le_of_ble_eq_true rfl) ?_
  intro h0 h p e s m args below meth c cx hm hs
  refine g_aload_n cx 0 d_8_7_0 rfl rfl ?_
  refine g_iload_n cx 1 d_8_7_1 rfl rfl ?_
  refine m_call 1 cx (As := [.int (nI i)]) (n := 1) (mc_nameOfF hSt hA x i pn cd bg en hp hi htx) d_8_7_2 t_1025 t_1027 ts_32 t_1028 rfl ⟨rfl, by decide +kernel⟩ rfl ⟨by decide, by decide⟩ (Nat.le_of_ble_eq_true rfl) hm hs (fun v2 x2 h hm hs r2 => ?_)
  obtain ⟨e2, R, rfl, hR⟩ := r2
  rw [e2] at hm
  refine g_topl (fun V1 eV1 => ?_)
  obtain rfl : V1 = lI R := eV1
  refine g_lstore_n cx (lv' := [(2, .long (lI R)), (0, .ref am), (1, .int (nI i))]) d_8_7_5 rfl (by decide) rfl ?_
  refine g_lload_n cx 0 d_8_7_6 rfl rfl ?_
  refine g_ldc2 cx d_8_7_7 t_1029 ?_
  refine g_land cx d_8_7_10 ?_
  refine g_lconst cx (v := 0) d_8_7_11 (by decide) ?_
  refine g_lcmp cx d_8_7_12 ?_
  refine g_if_ne cx d_8_7_13 rfl (fun c13 => ?_) (fun c13 => ?_)
  · skip
    have hc : ¬ (i < pn ∧ WordP cd (bg i) (en i - bg i)) := by
      rcases hR with ⟨hip, hR⟩ | ⟨hip, hR⟩
      · exact fun q => hR.and.2 (fun z => c13 (by rw [z]; exact lg_self _)) q.2
      · exact fun q => hip q.1
    refine g_iconst cx (v := 0) d_8_7_24 (by decide) ?_
    first
      | exact m_iret cx d_8_7_25 rfl rfl hm hs ⟨rfl, W, rfl, hc⟩
      | exact m_iret cx d_8_7_25 rfl rfl hm hs ⟨rfl, 0, rfl, Or.inr ⟨hc, rfl⟩⟩
  · skip
    have hcm := lg_eq c13
    refine g_lload_n cx 0 d_8_7_16 rfl rfl ?_
    refine g_bipush cx (v := 40) d_8_7_17 (by decide) ?_
    refine g_lshr cx d_8_7_19 ?_
    refine g_l2i cx d_8_7_20 ?_
    refine g_topi (fun t1 et1 => ?_)
    obtain ⟨W, rfl, hc⟩ : ∃ W, t1 = nI W ∧ ((i < pn ∧ WordP cd (bg i) (en i - bg i) ∧ W = wcp cd (bg i) (en i - bg i)) ∨ (¬ (i < pn ∧ WordP cd (bg i) (en i - bg i)) ∧ W = 0)) := by
      rcases hR with ⟨hip, hR⟩ | ⟨hip, hR⟩
      · rcases hR.and.1 hcm with ⟨q1, q2⟩ | ⟨q1, q2⟩
        · exact ⟨_, et1.trans q2, Or.inl ⟨hip, q1, rfl⟩⟩
        · exact ⟨0, et1.trans q2, Or.inr ⟨fun q => q1 q.2, rfl⟩⟩
      · refine ⟨0, et1.trans ?_, Or.inr ⟨fun q => hip q.1, rfl⟩⟩
        rw [hR]
        decide
    refine g_goto cx d_8_7_21 rfl ?_
    first
      | exact m_iret cx d_8_7_25 rfl rfl hm hs ⟨rfl, W, rfl, hc⟩
      | exact m_iret cx d_8_7_25 rfl rfl hm hs ⟨rfl, 0, rfl, Or.inr ⟨hc, rfl⟩⟩
set_option maxHeartbeats 4000000 in
theorem mc_realmOfF (hSt : Stb z0 E) (hA : Ad am ad) (x : MS) (v : Int32) (a : Nat) (ha : x.1 11 = nI a) (hal : a ≤ 8) : MC l y_170 prog_8_method_12_code 3 (Option.some Jvm.ClassFile.FieldType.int) 0 D z0 E am ad [.int v] x (fun r x' => x' = x ∧ ((∃ j, j < a ∧ r = some (.int (nI j)) ∧ (x.2.1 12 j = v ∧ x.2.1 22 j = 0) ∧ ∀ t, t < j → ¬ (x.2.1 12 t = v ∧ x.2.1 22 t = 0)) ∨ (r = some (.int (-1)) ∧ ∀ j, j < a → ¬ (x.2.1 12 j = v ∧ x.2.1 22 j = 0)))) := by
  refine mc_of hSt rfl (Nat.le_of_ble_eq_true rfl) ?_
  intro h0 h p e s m args below meth c cx hm hs
  have lp : ∀ (n : Nat) (j : Nat), (∀ t, t < j → ¬ (x.2.1 12 t = v ∧ x.2.1 22 t = 0)) → j ≤ a → a - j < n → G p l e (rmL 0) s m args below meth c 3 D z0 E (MQp D am ad h0 (fun r x' => x' = x ∧ ((∃ j, j < a ∧ r = some (.int (nI j)) ∧ (x.2.1 12 j = v ∧ x.2.1 22 j = 0) ∧ ∀ t, t < j → ¬ (x.2.1 12 t = v ∧ x.2.1 22 t = 0)) ∨ (r = some (.int (-1)) ∧ ∀ j, j < a → ¬ (x.2.1 12 j = v ∧ x.2.1 22 j = 0))))) 0 0 2 [(2, .int (nI j)), (0, .ref am), (1, .int v)] [] h 0 0 := by
    intro n
    induction n with
    | zero => intro j hcv hj0 hn; exact absurd hn (Nat.not_lt_zero _)
    | succ n ih =>
      intro j hcv hj0 hn
      refine g_iload_n cx 0 d_8_12_2 rfl rfl ?_
      refine g_aload_n cx 1 d_8_12_3 rfl rfl ?_
      refine m_get cx (k := 11) d_8_12_4 t_909 ⟨by decide, rfl⟩ hm rfl ?_
      refine g_icmp_ge cx d_8_12_7 rfl (fun c7 => ?_) (fun c7 => ?_)
      · skip
        have hja : a ≤ j := Nat.le_of_not_lt (fun q => absurd c7 (by show ¬ x.1 11 ≤ nI j; rw [ha]; exact nI_ge q (by omega)))
        refine g_iconst cx (v := (-1)) d_8_12_37 (by decide) ?_
        exact m_iret cx d_8_12_38 rfl rfl hm hs ⟨rfl, Or.inr ⟨rfl, fun t ht => hcv t (by omega)⟩⟩
      · skip
        have hj : j < a := Nat.lt_of_not_le (fun q => c7 (by show x.1 11 ≤ nI j; rw [ha]; exact nI_le q (by omega)))
        refine g_aload_n cx 1 d_8_12_10 rfl rfl ?_
        refine m_get cx (k := 12) d_8_12_11 t_910 ⟨by decide, rfl⟩ hm rfl ?_
        refine g_iload_n cx 0 d_8_12_14 rfl rfl ?_
        refine m_ld1 cx d_8_12_15 (by decide) hm rfl ⟨(show j < 8 by omega), by decide⟩ ?_
        refine g_iload_n cx 2 d_8_12_16 rfl rfl ?_
        refine g_icmp_ne cx d_8_12_17 rfl (fun c17 => ?_) (fun c17 => ?_)
        · skip
          have hnj : ¬ (x.2.1 12 j = v ∧ x.2.1 22 j = 0) := by
            first
              | exact fun q => c17 q.1
              | exact fun q => c26 q.2
          refine g_iinc cx 0 (lv' := [(2, .int (nI (j + 1))), (0, .ref am), (1, .int v)]) d_8_12_31 rfl (inc1 j) (by decide) rfl ?_
          refine g_goto cx d_8_12_34 rfl ?_
          exact ih (j + 1) (fun t ht => (Nat.lt_or_ge t j).elim (hcv t) (fun q => by rw [show t = j by omega]; exact hnj)) (by omega) (by omega)
        · skip
          refine g_aload_n cx 1 d_8_12_20 rfl rfl ?_
          refine m_get cx (k := 22) d_8_12_21 t_920 ⟨by decide, rfl⟩ hm rfl ?_
          refine g_iload_n cx 0 d_8_12_24 rfl rfl ?_
          refine m_ld4 cx d_8_12_25 (by decide) hm rfl ⟨(show j < 8 by omega), by decide⟩ ?_
          refine g_if_ne cx d_8_12_26 rfl (fun c26 => ?_) (fun c26 => ?_)
          · skip
            have hnj : ¬ (x.2.1 12 j = v ∧ x.2.1 22 j = 0) := by
              first
                | exact fun q => c17 q.1
                | exact fun q => c26 q.2
            refine g_iinc cx 0 (lv' := [(2, .int (nI (j + 1))), (0, .ref am), (1, .int v)]) d_8_12_31 rfl (inc1 j) (by decide) rfl ?_
            refine g_goto cx d_8_12_34 rfl ?_
            exact ih (j + 1) (fun t ht => (Nat.lt_or_ge t j).elim (hcv t) (fun q => by rw [show t = j by omega]; exact hnj)) (by omega) (by omega)
          · skip
            refine g_iload_n cx 0 d_8_12_29 rfl rfl ?_
            exact m_iret cx d_8_12_30 rfl rfl hm hs ⟨rfl, Or.inl ⟨j, hj, rfl, ⟨c17, c26⟩, hcv⟩⟩
  refine g_iconst cx (v := 0) d_8_12_0 (by decide) ?_
  refine g_topi (fun k0 ek0 => ?_)
  obtain rfl : k0 = nI 0 := ek0
  refine g_istore_n cx (lv' := [(2, .int (nI 0)), (0, .ref am), (1, .int v)]) d_8_12_1 rfl (by decide) rfl ?_
  exact lp (a + 1) 0 (fun t ht => absurd ht (Nat.not_lt_zero _)) (by omega) (by omega)
set_option maxHeartbeats 4000000 in
theorem mc_isRealmF (hSt : Stb z0 E) (hA : Ad am ad) (x : MS) (v : Int32) (a : Nat) (ha : x.1 11 = nI a) (hal : a ≤ 8) : MC l y_194 prog_8_method_39_code 2 (Option.some Jvm.ClassFile.FieldType.boolean) 0 D z0 E am ad [.int v] x (fun r x' => x' = x ∧ ((r = some (.int 1) ∧ ∃ j, j < a ∧ v = nI j ∧ x.2.1 22 j = 0) ∨ (r = some (.int 0) ∧ (∀ t, t < a → v = nI t → ¬ x.2.1 22 t = 0)))) := by
  refine mc_of hSt rfl (Nat.le_of_ble_eq_true rfl) ?_
  intro h0 h p e s m args below meth c cx hm hs
  refine g_iload_n cx 1 d_8_39_0 rfl rfl ?_
  refine g_if_lt cx d_8_39_1 rfl (fun c1 => ?_) (fun c1 => ?_)
  · skip
    have hno : (∀ t, t < a → v = nI t → ¬ x.2.1 22 t = 0) := by
      intro t ht hvt
      first
        | exact absurd c1 (by rw [hvt]; exact nI_pos (by omega))
        | exact absurd c9 (by show ¬ x.1 11 ≤ v; rw [ha, hvt]; exact nI_ge ht (by omega))
        | exact (by
            have e9 : t = j := (nI_eq (by omega) (by omega)).mp (hvt.symm.trans hv)
            rw [e9]
            exact c18)
    refine g_iconst cx (v := 0) d_8_39_25 (by decide) ?_
    first
      | exact m_iret cx d_8_39_26 rfl rfl hm hs ⟨rfl, Or.inl ⟨rfl, j, hj, hv, c18⟩⟩
      | exact m_iret cx d_8_39_26 rfl rfl hm hs ⟨rfl, Or.inr ⟨rfl, hno⟩⟩
  · skip
    refine g_iload_n cx 1 d_8_39_4 rfl rfl ?_
    refine g_aload_n cx 0 d_8_39_5 rfl rfl ?_
    refine m_get cx (k := 11) d_8_39_6 t_909 ⟨by decide, rfl⟩ hm rfl ?_
    refine g_icmp_ge cx d_8_39_9 rfl (fun c9 => ?_) (fun c9 => ?_)
    · skip
      have hno : (∀ t, t < a → v = nI t → ¬ x.2.1 22 t = 0) := by
        intro t ht hvt
        first
          | exact absurd c1 (by rw [hvt]; exact nI_pos (by omega))
          | exact absurd c9 (by show ¬ x.1 11 ≤ v; rw [ha, hvt]; exact nI_ge ht (by omega))
          | exact (by
              have e9 : t = j := (nI_eq (by omega) (by omega)).mp (hvt.symm.trans hv)
              rw [e9]
              exact c18)
      refine g_iconst cx (v := 0) d_8_39_25 (by decide) ?_
      first
        | exact m_iret cx d_8_39_26 rfl rfl hm hs ⟨rfl, Or.inl ⟨rfl, j, hj, hv, c18⟩⟩
        | exact m_iret cx d_8_39_26 rfl rfl hm hs ⟨rfl, Or.inr ⟨rfl, hno⟩⟩
    · skip
      obtain ⟨j, hj, hv, -⟩ := pk_mu c1 (fun q => c9 (by show x.1 11 ≤ v; rw [ha]; exact q)) (by omega)
      refine g_aload_n cx 0 d_8_39_12 rfl rfl ?_
      refine m_get cx (k := 22) d_8_39_13 t_920 ⟨by decide, rfl⟩ hm rfl ?_
      refine g_iload_n cx 1 d_8_39_16 rfl rfl ?_
      refine m_ld4 cx d_8_39_17 (by decide) hm hv ⟨(show j < 8 by omega), by decide⟩ ?_
      refine g_if_ne cx d_8_39_18 rfl (fun c18 => ?_) (fun c18 => ?_)
      · skip
        have hno : (∀ t, t < a → v = nI t → ¬ x.2.1 22 t = 0) := by
          intro t ht hvt
          first
            | exact absurd c1 (by rw [hvt]; exact nI_pos (by omega))
            | exact absurd c9 (by show ¬ x.1 11 ≤ v; rw [ha, hvt]; exact nI_ge ht (by omega))
            | exact (by
                have e9 : t = j := (nI_eq (by omega) (by omega)).mp (hvt.symm.trans hv)
                rw [e9]
                exact c18)
        refine g_iconst cx (v := 0) d_8_39_25 (by decide) ?_
        first
          | exact m_iret cx d_8_39_26 rfl rfl hm hs ⟨rfl, Or.inl ⟨rfl, j, hj, hv, c18⟩⟩
          | exact m_iret cx d_8_39_26 rfl rfl hm hs ⟨rfl, Or.inr ⟨rfl, hno⟩⟩
      · skip
        refine g_iconst cx (v := 1) d_8_39_21 (by decide) ?_
        refine g_goto cx d_8_39_22 rfl ?_
        first
          | exact m_iret cx d_8_39_26 rfl rfl hm hs ⟨rfl, Or.inl ⟨rfl, j, hj, hv, c18⟩⟩
          | exact m_iret cx d_8_39_26 rfl rfl hm hs ⟨rfl, Or.inr ⟨rfl, hno⟩⟩
set_option maxHeartbeats 4000000 in
theorem mc_dropF (hSt : Stb z0 E) (hA : Ad am ad) (x : MS) (v : Int32) (a : Nat) (ha : x.1 11 = nI a) (hal : a ≤ 8) : MC l y_196 prog_8_method_42_code 2 (Option.some Jvm.ClassFile.FieldType.boolean) 1 D z0 E am ad [.int v] x (fun r x' => (r = some (.int 1) ∧ ∃ j, j < a ∧ v = nI j ∧ x.2.1 22 j = 0 ∧ x' = seta (seti x 0 0) 22 j 1) ∨ (r = some (.int 0) ∧ (∀ t, t < a → v = nI t → ¬ x.2.1 22 t = 0) ∧ x' = seti x 0 0)) := by
  refine mc_of hSt rfl (Nat.le_of_ble_eq_true rfl) ?_
  intro h0 h p e s m args below meth c cx hm hs
  refine g_aload_n cx 0 d_8_42_0 rfl rfl ?_
  refine g_iconst cx (v := 0) d_8_42_1 (by decide) ?_
  refine m_put cx (k := 0) hA d_8_42_2 t_898 ⟨by decide, rfl, rfl, rfl, by decide +kernel⟩ hm hs (fun h hm hs => ?_)
  refine g_aload_n cx 0 d_8_42_5 rfl rfl ?_
  refine g_iload_n cx 1 d_8_42_6 rfl rfl ?_
  refine m_call 1 cx (As := [.int v]) (n := 1) (mc_isRealmF hSt hA (seti x 0 0) v a ha hal) d_8_42_7 t_1141 t_1143 ts_54 t_1144 rfl ⟨rfl, by decide +kernel⟩ rfl ⟨by decide, by decide⟩ (Nat.le_of_ble_eq_true rfl) hm hs (fun v7 x7 h hm hs r7 => ?_)
  obtain ⟨e7, r7⟩ := r7
  rw [e7] at hm
  rcases r7 with ⟨rfl, j, hj, hv, h22⟩ | ⟨rfl, hno⟩
  · skip
    refine g_if_ne cx d_8_42_10 rfl (fun c10 => ?_) (fun c10 => absurd c10 (by decide))
    refine g_aload_n cx 0 d_8_42_15 rfl rfl ?_
    refine m_get cx (k := 22) d_8_42_16 t_920 ⟨by decide, rfl⟩ hm rfl ?_
    refine g_iload_n cx 1 d_8_42_19 rfl rfl ?_
    refine g_iconst cx (v := 1) d_8_42_20 (by decide) ?_
    refine m_st4 cx hA d_8_42_21 (by decide) hm hs hv ⟨(show j < 8 by omega), by decide⟩ (fun h hm hs => ?_)
    refine g_iconst cx (v := 1) d_8_42_22 (by decide) ?_
    exact m_iret cx d_8_42_23 rfl rfl hm hs (Or.inl ⟨rfl, j, hj, hv, h22, rfl⟩)
  · skip
    refine g_if_ne cx d_8_42_10 rfl (fun c10 => absurd rfl c10) (fun c10 => ?_)
    refine g_iconst cx (v := 0) d_8_42_13 (by decide) ?_
    exact m_iret cx d_8_42_14 rfl rfl hm hs (Or.inr ⟨rfl, hno, rfl⟩)
set_option maxHeartbeats 4000000 in
theorem mc_saysF (hSt : Stb z0 E) (hA : Ad am ad) (x : MS) (i pn : Nat) (bg en : Nat → Nat) (v1 v2 v3 v4 : Int32) (hp : PT x pn bg en) (hi : i < 15) : MC l y_160 prog_8_method_8_code 7 (Option.some Jvm.ClassFile.FieldType.boolean) 0 D z0 E am ad [.int (nI i), .int v1, .int v2, .int v3, .int v4] x (fun r x' => x' = x ∧ ((r = some (.int 1) ∧ SY x i pn bg en v1 v2 v3 v4) ∨ (r = some (.int 0) ∧ ¬ SY x i pn bg en v1 v2 v3 v4))) := by
  refine mc_of hSt rfl (Nat.le_of_ble_eq_true rfl) ?_
  intro h0 h p e s m args below meth c cx hm hs
  refine g_iload_n cx 1 d_8_8_0 rfl rfl ?_
  refine g_aload_n cx 0 d_8_8_1 rfl rfl ?_
  refine m_get cx (k := 3) d_8_8_2 t_901 ⟨by decide, rfl⟩ hm rfl ?_
  refine g_icmp_ge cx d_8_8_5 rfl (fun c5 => ?_) (fun c5 => ?_)
  · skip
    have hns : ¬ SY x i pn bg en v1 v2 v3 v4 := by
      intro q
      first
        | exact absurd c5 (by show ¬ x.1 3 ≤ nI i; rw [hp.1]; exact nI_ge q.1 (by have := hp.2.1; omega))
        | exact c37 q.2.2.1
        | exact c54 q.2.2.2.1
        | exact c72 q.2.2.2.2.1
        | exact c90 q.2.2.2.2.2
        | exact (by
            have h9 : nI (en i - bg i) < 4 := by rw [← pk_sub (by omega), ← p1, ← p2]; exact c22
            have := (nI_ltI (b := 4) (by omega) (by decide)).mp h9
            have := q.2.1
            omega)
    refine g_iconst cx (v := 0) d_8_8_97 (by decide) ?_
    refine g_topi (fun z ez => ?_)
    refine g_istore cx (lv' := [(6, .int z), (0, .ref am), (1, .int (nI i)), (2, .int v1), (3, .int v2), (4, .int v3), (5, .int v4)]) d_8_8_98 (by decide) rfl ?_
    refine g_iload cx 0 d_8_8_100 rfl ?_
    first
      | exact m_iret cx d_8_8_102 rfl (by rw [ez]; rfl) hm hs ⟨rfl, Or.inl ⟨congrArg (fun q => some (Value.int q)) ez, hsy⟩⟩
      | exact m_iret cx d_8_8_102 rfl (by rw [ez]; rfl) hm hs ⟨rfl, Or.inr ⟨congrArg (fun q => some (Value.int q)) ez, hns⟩⟩
  · skip
    have hip : i < pn := Nat.lt_of_not_le (fun q => c5 (by show x.1 3 ≤ nI i; rw [hp.1]; exact nI_le q (by omega)))
    obtain ⟨p1, p2, p3, p4⟩ := hp.2.2 i hip
    refine g_aload_n cx 0 d_8_8_8 rfl rfl ?_
    refine m_get cx (k := 5) d_8_8_9 t_903 ⟨by decide, rfl⟩ hm rfl ?_
    refine g_iload_n cx 1 d_8_8_12 rfl rfl ?_
    refine m_ld1 cx d_8_8_13 (by decide) hm rfl ⟨(show i < 15 from hi), by decide⟩ ?_
    refine g_aload_n cx 0 d_8_8_14 rfl rfl ?_
    refine m_get cx (k := 4) d_8_8_15 t_902 ⟨by decide, rfl⟩ hm rfl ?_
    refine g_iload_n cx 1 d_8_8_18 rfl rfl ?_
    refine m_ld1 cx d_8_8_19 (by decide) hm rfl ⟨(show i < 15 from hi), by decide⟩ ?_
    refine g_isub cx d_8_8_20 ?_
    refine g_iconst cx (v := 4) d_8_8_21 (by decide) ?_
    refine g_icmp_lt cx d_8_8_22 rfl (fun c22 => ?_) (fun c22 => ?_)
    · skip
      have hns : ¬ SY x i pn bg en v1 v2 v3 v4 := by
        intro q
        first
          | exact absurd c5 (by show ¬ x.1 3 ≤ nI i; rw [hp.1]; exact nI_ge q.1 (by have := hp.2.1; omega))
          | exact c37 q.2.2.1
          | exact c54 q.2.2.2.1
          | exact c72 q.2.2.2.2.1
          | exact c90 q.2.2.2.2.2
          | exact (by
              have h9 : nI (en i - bg i) < 4 := by rw [← pk_sub (by omega), ← p1, ← p2]; exact c22
              have := (nI_ltI (b := 4) (by omega) (by decide)).mp h9
              have := q.2.1
              omega)
      refine g_iconst cx (v := 0) d_8_8_97 (by decide) ?_
      refine g_topi (fun z ez => ?_)
      refine g_istore cx (lv' := [(6, .int z), (0, .ref am), (1, .int (nI i)), (2, .int v1), (3, .int v2), (4, .int v3), (5, .int v4)]) d_8_8_98 (by decide) rfl ?_
      refine g_iload cx 0 d_8_8_100 rfl ?_
      first
        | exact m_iret cx d_8_8_102 rfl (by rw [ez]; rfl) hm hs ⟨rfl, Or.inl ⟨congrArg (fun q => some (Value.int q)) ez, hsy⟩⟩
        | exact m_iret cx d_8_8_102 rfl (by rw [ez]; rfl) hm hs ⟨rfl, Or.inr ⟨congrArg (fun q => some (Value.int q)) ez, hns⟩⟩
    · skip
      have h4 : bg i + 4 ≤ en i := by
        refine Nat.le_of_not_lt (fun q => c22 ?_)
        show x.2.1 5 i - x.2.1 4 i < 4
        rw [p1, p2, pk_sub (by omega)]
        exact (nI_ltI (b := 4) (by omega) (by decide)).mpr (by omega)
      refine g_aload_n cx 0 d_8_8_25 rfl rfl ?_
      refine m_get cx (k := 1) d_8_8_26 t_899 ⟨by decide, rfl⟩ hm rfl ?_
      refine g_aload_n cx 0 d_8_8_29 rfl rfl ?_
      refine m_get cx (k := 4) d_8_8_30 t_902 ⟨by decide, rfl⟩ hm rfl ?_
      refine g_iload_n cx 1 d_8_8_33 rfl rfl ?_
      refine m_ld1 cx d_8_8_34 (by decide) hm rfl ⟨(show i < 15 from hi), by decide⟩ ?_
      refine m_ld2 cx d_8_8_35 (by decide) hm (show x.2.1 4 i = nI (bg i + 0) by exact p1) ⟨(show bg i + 0 < 30 by omega), by decide⟩ ?_
      refine g_iload_n cx 2 d_8_8_36 rfl rfl ?_
      refine g_icmp_ne cx d_8_8_37 rfl (fun c37 => ?_) (fun c37 => ?_)
      · skip
        have hns : ¬ SY x i pn bg en v1 v2 v3 v4 := by
          intro q
          first
            | exact absurd c5 (by show ¬ x.1 3 ≤ nI i; rw [hp.1]; exact nI_ge q.1 (by have := hp.2.1; omega))
            | exact c37 q.2.2.1
            | exact c54 q.2.2.2.1
            | exact c72 q.2.2.2.2.1
            | exact c90 q.2.2.2.2.2
            | exact (by
                have h9 : nI (en i - bg i) < 4 := by rw [← pk_sub (by omega), ← p1, ← p2]; exact c22
                have := (nI_ltI (b := 4) (by omega) (by decide)).mp h9
                have := q.2.1
                omega)
        refine g_iconst cx (v := 0) d_8_8_97 (by decide) ?_
        refine g_topi (fun z ez => ?_)
        refine g_istore cx (lv' := [(6, .int z), (0, .ref am), (1, .int (nI i)), (2, .int v1), (3, .int v2), (4, .int v3), (5, .int v4)]) d_8_8_98 (by decide) rfl ?_
        refine g_iload cx 0 d_8_8_100 rfl ?_
        first
          | exact m_iret cx d_8_8_102 rfl (by rw [ez]; rfl) hm hs ⟨rfl, Or.inl ⟨congrArg (fun q => some (Value.int q)) ez, hsy⟩⟩
          | exact m_iret cx d_8_8_102 rfl (by rw [ez]; rfl) hm hs ⟨rfl, Or.inr ⟨congrArg (fun q => some (Value.int q)) ez, hns⟩⟩
      · skip
        refine g_aload_n cx 0 d_8_8_40 rfl rfl ?_
        refine m_get cx (k := 1) d_8_8_41 t_899 ⟨by decide, rfl⟩ hm rfl ?_
        refine g_aload_n cx 0 d_8_8_44 rfl rfl ?_
        refine m_get cx (k := 4) d_8_8_45 t_902 ⟨by decide, rfl⟩ hm rfl ?_
        refine g_iload_n cx 1 d_8_8_48 rfl rfl ?_
        refine m_ld1 cx d_8_8_49 (by decide) hm rfl ⟨(show i < 15 from hi), by decide⟩ ?_
        refine g_iconst cx (v := 1) d_8_8_50 (by decide) ?_
        refine g_iadd cx d_8_8_51 ?_
        refine m_ld2 cx d_8_8_52 (by decide) hm (show x.2.1 4 i + 1 = nI (bg i + 1) by rw [p1]; exact nI_add (bg i) 1) ⟨(show bg i + 1 < 30 by omega), by decide⟩ ?_
        refine g_iload_n cx 3 d_8_8_53 rfl rfl ?_
        refine g_icmp_ne cx d_8_8_54 rfl (fun c54 => ?_) (fun c54 => ?_)
        · skip
          have hns : ¬ SY x i pn bg en v1 v2 v3 v4 := by
            intro q
            first
              | exact absurd c5 (by show ¬ x.1 3 ≤ nI i; rw [hp.1]; exact nI_ge q.1 (by have := hp.2.1; omega))
              | exact c37 q.2.2.1
              | exact c54 q.2.2.2.1
              | exact c72 q.2.2.2.2.1
              | exact c90 q.2.2.2.2.2
              | exact (by
                  have h9 : nI (en i - bg i) < 4 := by rw [← pk_sub (by omega), ← p1, ← p2]; exact c22
                  have := (nI_ltI (b := 4) (by omega) (by decide)).mp h9
                  have := q.2.1
                  omega)
          refine g_iconst cx (v := 0) d_8_8_97 (by decide) ?_
          refine g_topi (fun z ez => ?_)
          refine g_istore cx (lv' := [(6, .int z), (0, .ref am), (1, .int (nI i)), (2, .int v1), (3, .int v2), (4, .int v3), (5, .int v4)]) d_8_8_98 (by decide) rfl ?_
          refine g_iload cx 0 d_8_8_100 rfl ?_
          first
            | exact m_iret cx d_8_8_102 rfl (by rw [ez]; rfl) hm hs ⟨rfl, Or.inl ⟨congrArg (fun q => some (Value.int q)) ez, hsy⟩⟩
            | exact m_iret cx d_8_8_102 rfl (by rw [ez]; rfl) hm hs ⟨rfl, Or.inr ⟨congrArg (fun q => some (Value.int q)) ez, hns⟩⟩
        · skip
          refine g_aload_n cx 0 d_8_8_57 rfl rfl ?_
          refine m_get cx (k := 1) d_8_8_58 t_899 ⟨by decide, rfl⟩ hm rfl ?_
          refine g_aload_n cx 0 d_8_8_61 rfl rfl ?_
          refine m_get cx (k := 4) d_8_8_62 t_902 ⟨by decide, rfl⟩ hm rfl ?_
          refine g_iload_n cx 1 d_8_8_65 rfl rfl ?_
          refine m_ld1 cx d_8_8_66 (by decide) hm rfl ⟨(show i < 15 from hi), by decide⟩ ?_
          refine g_iconst cx (v := 2) d_8_8_67 (by decide) ?_
          refine g_iadd cx d_8_8_68 ?_
          refine m_ld2 cx d_8_8_69 (by decide) hm (show x.2.1 4 i + 2 = nI (bg i + 2) by rw [p1]; exact nI_add (bg i) 2) ⟨(show bg i + 2 < 30 by omega), by decide⟩ ?_
          refine g_iload cx 4 d_8_8_70 rfl ?_
          refine g_icmp_ne cx d_8_8_72 rfl (fun c72 => ?_) (fun c72 => ?_)
          · skip
            have hns : ¬ SY x i pn bg en v1 v2 v3 v4 := by
              intro q
              first
                | exact absurd c5 (by show ¬ x.1 3 ≤ nI i; rw [hp.1]; exact nI_ge q.1 (by have := hp.2.1; omega))
                | exact c37 q.2.2.1
                | exact c54 q.2.2.2.1
                | exact c72 q.2.2.2.2.1
                | exact c90 q.2.2.2.2.2
                | exact (by
                    have h9 : nI (en i - bg i) < 4 := by rw [← pk_sub (by omega), ← p1, ← p2]; exact c22
                    have := (nI_ltI (b := 4) (by omega) (by decide)).mp h9
                    have := q.2.1
                    omega)
            refine g_iconst cx (v := 0) d_8_8_97 (by decide) ?_
            refine g_topi (fun z ez => ?_)
            refine g_istore cx (lv' := [(6, .int z), (0, .ref am), (1, .int (nI i)), (2, .int v1), (3, .int v2), (4, .int v3), (5, .int v4)]) d_8_8_98 (by decide) rfl ?_
            refine g_iload cx 0 d_8_8_100 rfl ?_
            first
              | exact m_iret cx d_8_8_102 rfl (by rw [ez]; rfl) hm hs ⟨rfl, Or.inl ⟨congrArg (fun q => some (Value.int q)) ez, hsy⟩⟩
              | exact m_iret cx d_8_8_102 rfl (by rw [ez]; rfl) hm hs ⟨rfl, Or.inr ⟨congrArg (fun q => some (Value.int q)) ez, hns⟩⟩
          · skip
            refine g_aload_n cx 0 d_8_8_75 rfl rfl ?_
            refine m_get cx (k := 1) d_8_8_76 t_899 ⟨by decide, rfl⟩ hm rfl ?_
            refine g_aload_n cx 0 d_8_8_79 rfl rfl ?_
            refine m_get cx (k := 4) d_8_8_80 t_902 ⟨by decide, rfl⟩ hm rfl ?_
            refine g_iload_n cx 1 d_8_8_83 rfl rfl ?_
            refine m_ld1 cx d_8_8_84 (by decide) hm rfl ⟨(show i < 15 from hi), by decide⟩ ?_
            refine g_iconst cx (v := 3) d_8_8_85 (by decide) ?_
            refine g_iadd cx d_8_8_86 ?_
            refine m_ld2 cx d_8_8_87 (by decide) hm (show x.2.1 4 i + 3 = nI (bg i + 3) by rw [p1]; exact nI_add (bg i) 3) ⟨(show bg i + 3 < 30 by omega), by decide⟩ ?_
            refine g_iload cx 5 d_8_8_88 rfl ?_
            refine g_icmp_ne cx d_8_8_90 rfl (fun c90 => ?_) (fun c90 => ?_)
            · skip
              have hns : ¬ SY x i pn bg en v1 v2 v3 v4 := by
                intro q
                first
                  | exact absurd c5 (by show ¬ x.1 3 ≤ nI i; rw [hp.1]; exact nI_ge q.1 (by have := hp.2.1; omega))
                  | exact c37 q.2.2.1
                  | exact c54 q.2.2.2.1
                  | exact c72 q.2.2.2.2.1
                  | exact c90 q.2.2.2.2.2
                  | exact (by
                      have h9 : nI (en i - bg i) < 4 := by rw [← pk_sub (by omega), ← p1, ← p2]; exact c22
                      have := (nI_ltI (b := 4) (by omega) (by decide)).mp h9
                      have := q.2.1
                      omega)
              refine g_iconst cx (v := 0) d_8_8_97 (by decide) ?_
              refine g_topi (fun z ez => ?_)
              refine g_istore cx (lv' := [(6, .int z), (0, .ref am), (1, .int (nI i)), (2, .int v1), (3, .int v2), (4, .int v3), (5, .int v4)]) d_8_8_98 (by decide) rfl ?_
              refine g_iload cx 0 d_8_8_100 rfl ?_
              first
                | exact m_iret cx d_8_8_102 rfl (by rw [ez]; rfl) hm hs ⟨rfl, Or.inl ⟨congrArg (fun q => some (Value.int q)) ez, hsy⟩⟩
                | exact m_iret cx d_8_8_102 rfl (by rw [ez]; rfl) hm hs ⟨rfl, Or.inr ⟨congrArg (fun q => some (Value.int q)) ez, hns⟩⟩
            · skip
              have hsy : SY x i pn bg en v1 v2 v3 v4 := ⟨hip, h4, c37, c54, c72, c90⟩
              refine g_iconst cx (v := 1) d_8_8_93 (by decide) ?_
              refine g_goto cx d_8_8_94 rfl ?_
              refine g_topi (fun z ez => ?_)
              refine g_istore cx (lv' := [(6, .int z), (0, .ref am), (1, .int (nI i)), (2, .int v1), (3, .int v2), (4, .int v3), (5, .int v4)]) d_8_8_98 (by decide) rfl ?_
              refine g_iload cx 0 d_8_8_100 rfl ?_
              first
                | exact m_iret cx d_8_8_102 rfl (by rw [ez]; rfl) hm hs ⟨rfl, Or.inl ⟨congrArg (fun q => some (Value.int q)) ez, hsy⟩⟩
                | exact m_iret cx d_8_8_102 rfl (by rw [ez]; rfl) hm hs ⟨rfl, Or.inr ⟨congrArg (fun q => some (Value.int q)) ez, hns⟩⟩
set_option maxHeartbeats 4000000 in
theorem mc_isLongF (hSt : Stb z0 E) (hA : Ad am ad) (x : MS) (i pn nn : Nat) (bg en : Nat → Nat) (hp : PT x pn bg en) (hi : i < 15) (hnn : nn ≤ 30) : MC l y_161 prog_8_method_9_code 3 (Option.some Jvm.ClassFile.FieldType.boolean) 0 D z0 E am ad [.int (nI i), .int (nI nn)] x (fun r x' => x' = x ∧ ((r = some (.int 1) ∧ i < pn ∧ en i = bg i + nn) ∨ (r = some (.int 0) ∧ ¬ (i < pn ∧ en i = bg i + nn)))) := by
  refine mc_of hSt rfl (Nat.le_of_ble_eq_true rfl) ?_
  intro h0 h p e s m args below meth c cx hm hs
  refine g_iload_n cx 1 d_8_9_0 rfl rfl ?_
  refine g_aload_n cx 0 d_8_9_1 rfl rfl ?_
  refine m_get cx (k := 3) d_8_9_2 t_901 ⟨by decide, rfl⟩ hm rfl ?_
  refine g_icmp_ge cx d_8_9_5 rfl (fun c5 => ?_) (fun c5 => ?_)
  · skip
    have hnl : ¬ (i < pn ∧ en i = bg i + nn) := by
      intro q
      first
        | exact absurd c5 (by show ¬ x.1 3 ≤ nI i; rw [hp.1]; exact nI_ge q.1 (by have := hp.2.1; omega))
        | exact c22 (by show x.2.1 5 i - x.2.1 4 i = _; rw [p1, p2, pk_sub (by omega), show en i - bg i = nn by have := q.2; omega])
    refine g_iconst cx (v := 0) d_8_9_29 (by decide) ?_
    first
      | exact m_iret cx d_8_9_30 rfl rfl hm hs ⟨rfl, Or.inl ⟨rfl, hip, nI_len (Nat.le_of_lt p3) p4 hnn (by rw [← p1, ← p2]; exact c22)⟩⟩
      | exact m_iret cx d_8_9_30 rfl rfl hm hs ⟨rfl, Or.inr ⟨rfl, hnl⟩⟩
  · skip
    have hip : i < pn := Nat.lt_of_not_le (fun q => c5 (by show x.1 3 ≤ nI i; rw [hp.1]; exact nI_le q (by omega)))
    obtain ⟨p1, p2, p3, p4⟩ := hp.2.2 i hip
    refine g_aload_n cx 0 d_8_9_8 rfl rfl ?_
    refine m_get cx (k := 5) d_8_9_9 t_903 ⟨by decide, rfl⟩ hm rfl ?_
    refine g_iload_n cx 1 d_8_9_12 rfl rfl ?_
    refine m_ld1 cx d_8_9_13 (by decide) hm rfl ⟨(show i < 15 from hi), by decide⟩ ?_
    refine g_aload_n cx 0 d_8_9_14 rfl rfl ?_
    refine m_get cx (k := 4) d_8_9_15 t_902 ⟨by decide, rfl⟩ hm rfl ?_
    refine g_iload_n cx 1 d_8_9_18 rfl rfl ?_
    refine m_ld1 cx d_8_9_19 (by decide) hm rfl ⟨(show i < 15 from hi), by decide⟩ ?_
    refine g_isub cx d_8_9_20 ?_
    refine g_iload_n cx 2 d_8_9_21 rfl rfl ?_
    refine g_icmp_ne cx d_8_9_22 rfl (fun c22 => ?_) (fun c22 => ?_)
    · skip
      have hnl : ¬ (i < pn ∧ en i = bg i + nn) := by
        intro q
        first
          | exact absurd c5 (by show ¬ x.1 3 ≤ nI i; rw [hp.1]; exact nI_ge q.1 (by have := hp.2.1; omega))
          | exact c22 (by show x.2.1 5 i - x.2.1 4 i = _; rw [p1, p2, pk_sub (by omega), show en i - bg i = nn by have := q.2; omega])
      refine g_iconst cx (v := 0) d_8_9_29 (by decide) ?_
      first
        | exact m_iret cx d_8_9_30 rfl rfl hm hs ⟨rfl, Or.inl ⟨rfl, hip, nI_len (Nat.le_of_lt p3) p4 hnn (by rw [← p1, ← p2]; exact c22)⟩⟩
        | exact m_iret cx d_8_9_30 rfl rfl hm hs ⟨rfl, Or.inr ⟨rfl, hnl⟩⟩
    · skip
      refine g_iconst cx (v := 1) d_8_9_25 (by decide) ?_
      refine g_goto cx d_8_9_26 rfl ?_
      first
        | exact m_iret cx d_8_9_30 rfl rfl hm hs ⟨rfl, Or.inl ⟨rfl, hip, nI_len (Nat.le_of_lt p3) p4 hnn (by rw [← p1, ← p2]; exact c22)⟩⟩
        | exact m_iret cx d_8_9_30 rfl rfl hm hs ⟨rfl, Or.inr ⟨rfl, hnl⟩⟩
set_option maxHeartbeats 4000000 in
theorem mc_archiveOfF (hSt : Stb z0 E) (hA : Ad am ad) (x : MS) (v : Int32) (a : Nat) (ha : x.1 6 = nI a) (hal : a ≤ 6) : MC l y_166 prog_8_method_11_code 3 (Option.some Jvm.ClassFile.FieldType.int) 0 D z0 E am ad [.int v] x (fun r x' => x' = x ∧ ((∃ j, j < a ∧ r = some (.int (nI j)) ∧ x.2.1 7 j = v ∧ ∀ t, t < j → ¬ x.2.1 7 t = v) ∨ (r = some (.int (-1)) ∧ ∀ j, j < a → ¬ x.2.1 7 j = v))) := by
  refine mc_of hSt rfl (Nat.le_of_ble_eq_true rfl) ?_
  intro h0 h p e s m args below meth c cx hm hs
  have lp : ∀ (n : Nat) (j : Nat), (∀ t, t < j → ¬ x.2.1 7 t = v) → j ≤ a → a - j < n → G p l e (rmL 0) s m args below meth c 3 D z0 E (MQp D am ad h0 (fun r x' => x' = x ∧ ((∃ j, j < a ∧ r = some (.int (nI j)) ∧ x.2.1 7 j = v ∧ ∀ t, t < j → ¬ x.2.1 7 t = v) ∨ (r = some (.int (-1)) ∧ ∀ j, j < a → ¬ x.2.1 7 j = v)))) 0 0 2 [(2, .int (nI j)), (0, .ref am), (1, .int v)] [] h 0 0 := by
    intro n
    induction n with
    | zero => intro j hcv hj0 hn; exact absurd hn (Nat.not_lt_zero _)
    | succ n ih =>
      intro j hcv hj0 hn
      refine g_iload_n cx 0 d_8_11_2 rfl rfl ?_
      refine g_aload_n cx 1 d_8_11_3 rfl rfl ?_
      refine m_get cx (k := 6) d_8_11_4 t_904 ⟨by decide, rfl⟩ hm rfl ?_
      refine g_icmp_ge cx d_8_11_7 rfl (fun c7 => ?_) (fun c7 => ?_)
      · skip
        have hja : a ≤ j := Nat.le_of_not_lt (fun q => absurd c7 (by show ¬ x.1 6 ≤ nI j; rw [ha]; exact nI_ge q (by omega)))
        refine g_iconst cx (v := (-1)) d_8_11_28 (by decide) ?_
        exact m_iret cx d_8_11_29 rfl rfl hm hs ⟨rfl, Or.inr ⟨rfl, fun t ht => hcv t (by omega)⟩⟩
      · skip
        have hj : j < a := Nat.lt_of_not_le (fun q => c7 (by show x.1 6 ≤ nI j; rw [ha]; exact nI_le q (by omega)))
        refine g_aload_n cx 1 d_8_11_10 rfl rfl ?_
        refine m_get cx (k := 7) d_8_11_11 t_905 ⟨by decide, rfl⟩ hm rfl ?_
        refine g_iload_n cx 0 d_8_11_14 rfl rfl ?_
        refine m_ld1 cx d_8_11_15 (by decide) hm rfl ⟨(show j < 6 by omega), by decide⟩ ?_
        refine g_iload_n cx 2 d_8_11_16 rfl rfl ?_
        refine g_icmp_ne cx d_8_11_17 rfl (fun c17 => ?_) (fun c17 => ?_)
        · skip
          refine g_iinc cx 0 (lv' := [(2, .int (nI (j + 1))), (0, .ref am), (1, .int v)]) d_8_11_22 rfl (inc1 j) (by decide) rfl ?_
          refine g_goto cx d_8_11_25 rfl ?_
          exact ih (j + 1) (fun t ht => (Nat.lt_or_ge t j).elim (hcv t) (fun q => by rw [show t = j by omega]; exact c17)) (by omega) (by omega)
        · skip
          refine g_iload_n cx 0 d_8_11_20 rfl rfl ?_
          exact m_iret cx d_8_11_21 rfl rfl hm hs ⟨rfl, Or.inl ⟨j, hj, rfl, c17, hcv⟩⟩
  refine g_iconst cx (v := 0) d_8_11_0 (by decide) ?_
  refine g_topi (fun k0 ek0 => ?_)
  obtain rfl : k0 = nI 0 := ek0
  refine g_istore_n cx (lv' := [(2, .int (nI 0)), (0, .ref am), (1, .int v)]) d_8_11_1 rfl (by decide) rfl ?_
  exact lp (a + 1) 0 (fun t ht => absurd ht (Nat.not_lt_zero _)) (by omega) (by omega)
set_option maxHeartbeats 4000000 in
theorem mc_endsF (hSt : Stb z0 E) (hA : Ad am ad) (x : MS) (i pn : Nat) (bg en : Nat → Nat) (v u : Int32) (hp : PT x pn bg en) (hip : i < pn) (he : 2 ≤ en i) : MC l y_162 prog_8_method_10_code 4 (Option.some Jvm.ClassFile.FieldType.boolean) 0 D z0 E am ad [.int (nI i), .int v, .int u] x (fun r x' => x' = x ∧ ((r = some (.int 1) ∧ (x.2.1 1 (en i - 2) = v ∧ x.2.1 1 (en i - 1) = u)) ∨ (r = some (.int 0) ∧ ¬ (x.2.1 1 (en i - 2) = v ∧ x.2.1 1 (en i - 1) = u)))) := by
  refine mc_of hSt rfl (Nat.le_of_ble_eq_true rfl) ?_
  intro h0 h p e s m args below meth c cx hm hs
  have hpl := hp.2.1
  obtain ⟨p1, p2, p3, p4⟩ := hp.2.2 i hip
  refine g_aload_n cx 0 d_8_10_0 rfl rfl ?_
  refine m_get cx (k := 1) d_8_10_1 t_899 ⟨by decide, rfl⟩ hm rfl ?_
  refine g_aload_n cx 0 d_8_10_4 rfl rfl ?_
  refine m_get cx (k := 5) d_8_10_5 t_903 ⟨by decide, rfl⟩ hm rfl ?_
  refine g_iload_n cx 1 d_8_10_8 rfl rfl ?_
  refine m_ld1 cx d_8_10_9 (by decide) hm rfl ⟨(show i < 15 by omega), by decide⟩ ?_
  refine g_iconst cx (v := 2) d_8_10_10 (by decide) ?_
  refine g_isub cx d_8_10_11 ?_
  refine m_ld2 cx d_8_10_12 (by decide) hm (show x.2.1 5 i - 2 = nI (en i - 2) by rw [p2]; exact pk_sub (b := 2) he) ⟨(show en i - 2 < 30 by omega), by decide⟩ ?_
  refine g_iload_n cx 2 d_8_10_13 rfl rfl ?_
  refine g_icmp_ne cx d_8_10_14 rfl (fun c14 => ?_) (fun c14 => ?_)
  · skip
    refine g_iconst cx (v := 0) d_8_10_38 (by decide) ?_
    first
      | exact m_iret cx d_8_10_39 rfl rfl hm hs ⟨rfl, Or.inl ⟨rfl, c14, c31⟩⟩
      | exact m_iret cx d_8_10_39 rfl rfl hm hs ⟨rfl, Or.inr ⟨rfl, fun q => c14 q.1⟩⟩
      | exact m_iret cx d_8_10_39 rfl rfl hm hs ⟨rfl, Or.inr ⟨rfl, fun q => c31 q.2⟩⟩
  · skip
    refine g_aload_n cx 0 d_8_10_17 rfl rfl ?_
    refine m_get cx (k := 1) d_8_10_18 t_899 ⟨by decide, rfl⟩ hm rfl ?_
    refine g_aload_n cx 0 d_8_10_21 rfl rfl ?_
    refine m_get cx (k := 5) d_8_10_22 t_903 ⟨by decide, rfl⟩ hm rfl ?_
    refine g_iload_n cx 1 d_8_10_25 rfl rfl ?_
    refine m_ld1 cx d_8_10_26 (by decide) hm rfl ⟨(show i < 15 by omega), by decide⟩ ?_
    refine g_iconst cx (v := 1) d_8_10_27 (by decide) ?_
    refine g_isub cx d_8_10_28 ?_
    refine m_ld2 cx d_8_10_29 (by decide) hm (show x.2.1 5 i - 1 = nI (en i - 1) by rw [p2]; exact pk_sub (b := 1) (by omega)) ⟨(show en i - 1 < 30 by omega), by decide⟩ ?_
    refine g_iload_n cx 3 d_8_10_30 rfl rfl ?_
    refine g_icmp_ne cx d_8_10_31 rfl (fun c31 => ?_) (fun c31 => ?_)
    · skip
      refine g_iconst cx (v := 0) d_8_10_38 (by decide) ?_
      first
        | exact m_iret cx d_8_10_39 rfl rfl hm hs ⟨rfl, Or.inl ⟨rfl, c14, c31⟩⟩
        | exact m_iret cx d_8_10_39 rfl rfl hm hs ⟨rfl, Or.inr ⟨rfl, fun q => c14 q.1⟩⟩
        | exact m_iret cx d_8_10_39 rfl rfl hm hs ⟨rfl, Or.inr ⟨rfl, fun q => c31 q.2⟩⟩
    · skip
      refine g_iconst cx (v := 1) d_8_10_34 (by decide) ?_
      refine g_goto cx d_8_10_35 rfl ?_
      first
        | exact m_iret cx d_8_10_39 rfl rfl hm hs ⟨rfl, Or.inl ⟨rfl, c14, c31⟩⟩
        | exact m_iret cx d_8_10_39 rfl rfl hm hs ⟨rfl, Or.inr ⟨rfl, fun q => c14 q.1⟩⟩
        | exact m_iret cx d_8_10_39 rfl rfl hm hs ⟨rfl, Or.inr ⟨rfl, fun q => c31 q.2⟩⟩
end M11
