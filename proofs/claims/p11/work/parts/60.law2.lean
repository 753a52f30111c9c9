/-! The law's loop. -/
theorem d_code_0 : decode code 0 = .ok (.new 8, 3) := by decide +kernel
theorem d_code_3 : decode code 3 = .ok (.dup, 1) := by decide +kernel
theorem d_code_4 : decode code 4 = .ok (.invokespecial 23, 3) := by decide +kernel
theorem d_code_7 : decode code 7 = .ok (.astore_n 1, 1) := by decide +kernel
theorem d_code_8 : decode code 8 = .ok (.new 24, 3) := by decide +kernel
theorem d_code_11 : decode code 11 = .ok (.dup, 1) := by decide +kernel
theorem d_code_12 : decode code 12 = .ok (.invokespecial 26, 3) := by decide +kernel
theorem d_code_15 : decode code 15 = .ok (.astore_n 2, 1) := by decide +kernel
theorem d_code_16 : decode code 16 = .ok (.iconst 1, 1) := by decide +kernel
theorem d_code_17 : decode code 17 = .ok (.newarray .long, 2) := by decide +kernel
theorem d_code_19 : decode code 19 = .ok (.astore_n 3, 1) := by decide +kernel
theorem d_code_20 : decode code 20 = .ok (.iconst 0, 1) := by decide +kernel
theorem d_code_21 : decode code 21 = .ok (.istore 4, 2) := by decide +kernel
theorem d_code_23 : decode code 23 = .ok (.iload 4, 2) := by decide +kernel
theorem d_code_25 : decode code 25 = .ok (.aload_n 0, 1) := by decide +kernel
theorem d_code_26 : decode code 26 = .ok (.arraylength, 1) := by decide +kernel
theorem d_code_27 : decode code 27 = .ok (.iconst 2, 1) := by decide +kernel
theorem d_code_28 : decode code 28 = .ok (.isub, 1) := by decide +kernel
theorem d_code_29 : decode code 29 = .ok (.if_icmp .gt 291, 3) := by decide +kernel
theorem d_code_32 : decode code 32 = .ok (.aload_n 0, 1) := by decide +kernel
theorem d_code_33 : decode code 33 = .ok (.iload 4, 2) := by decide +kernel
theorem d_code_35 : decode code 35 = .ok (.iaload, 1) := by decide +kernel
theorem d_code_36 : decode code 36 = .ok (.bipush 15, 2) := by decide +kernel
theorem d_code_38 : decode code 38 = .ok (.iand, 1) := by decide +kernel
theorem d_code_39 : decode code 39 = .ok (.tableswitch 275 0 9 #[53, 80, 96, 124, 137, 162, 187, 212, 237, 250], 53) := by decide +kernel
theorem d_code_92 : decode code 92 = .ok (.aload_n 1, 1) := by decide +kernel
theorem d_code_93 : decode code 93 = .ok (.aload_n 0, 1) := by decide +kernel
theorem d_code_94 : decode code 94 = .ok (.iload 4, 2) := by decide +kernel
theorem d_code_96 : decode code 96 = .ok (.iconst 1, 1) := by decide +kernel
theorem d_code_97 : decode code 97 = .ok (.iadd, 1) := by decide +kernel
theorem d_code_98 : decode code 98 = .ok (.iaload, 1) := by decide +kernel
theorem d_code_99 : decode code 99 = .ok (.i2c, 1) := by decide +kernel
theorem d_code_100 : decode code 100 = .ok (.invokevirtual 27, 3) := by decide +kernel
theorem d_code_103 : decode code 103 = .ok (.pop, 1) := by decide +kernel
theorem d_code_104 : decode code 104 = .ok (.aload_n 2, 1) := by decide +kernel
theorem d_code_105 : decode code 105 = .ok (.aload_n 0, 1) := by decide +kernel
theorem d_code_106 : decode code 106 = .ok (.iload 4, 2) := by decide +kernel
theorem d_code_108 : decode code 108 = .ok (.iconst 1, 1) := by decide +kernel
theorem d_code_109 : decode code 109 = .ok (.iadd, 1) := by decide +kernel
theorem d_code_110 : decode code 110 = .ok (.iaload, 1) := by decide +kernel
theorem d_code_111 : decode code 111 = .ok (.i2c, 1) := by decide +kernel
theorem d_code_112 : decode code 112 = .ok (.invokevirtual 31, 3) := by decide +kernel
theorem d_code_115 : decode code 115 = .ok (.pop, 1) := by decide +kernel
theorem d_code_116 : decode code 116 = .ok (.goto 198, 3) := by decide +kernel
theorem d_code_119 : decode code 119 = .ok (.aload_n 1, 1) := by decide +kernel
theorem d_code_120 : decode code 120 = .ok (.aload_n 3, 1) := by decide +kernel
theorem d_code_121 : decode code 121 = .ok (.invokestatic 32, 3) := by decide +kernel
theorem d_code_124 : decode code 124 = .ok (.istore 5, 2) := by decide +kernel
theorem d_code_126 : decode code 126 = .ok (.aload_n 2, 1) := by decide +kernel
theorem d_code_127 : decode code 127 = .ok (.invokevirtual 37, 3) := by decide +kernel
theorem d_code_130 : decode code 130 = .ok (.istore 6, 2) := by decide +kernel
theorem d_code_132 : decode code 132 = .ok (.goto 182, 3) := by decide +kernel
theorem d_code_135 : decode code 135 = .ok (.aload_n 1, 1) := by decide +kernel
theorem d_code_136 : decode code 136 = .ok (.aload_n 0, 1) := by decide +kernel
theorem d_code_137 : decode code 137 = .ok (.iload 4, 2) := by decide +kernel
theorem d_code_139 : decode code 139 = .ok (.iconst 1, 1) := by decide +kernel
theorem d_code_140 : decode code 140 = .ok (.iadd, 1) := by decide +kernel
theorem d_code_141 : decode code 141 = .ok (.iaload, 1) := by decide +kernel
theorem d_code_142 : decode code 142 = .ok (.aload_n 3, 1) := by decide +kernel
theorem d_code_143 : decode code 143 = .ok (.invokestatic 38, 3) := by decide +kernel
theorem d_code_146 : decode code 146 = .ok (.istore 5, 2) := by decide +kernel
theorem d_code_148 : decode code 148 = .ok (.aload_n 2, 1) := by decide +kernel
theorem d_code_149 : decode code 149 = .ok (.aload_n 0, 1) := by decide +kernel
theorem d_code_150 : decode code 150 = .ok (.iload 4, 2) := by decide +kernel
theorem d_code_152 : decode code 152 = .ok (.iconst 1, 1) := by decide +kernel
theorem d_code_153 : decode code 153 = .ok (.iadd, 1) := by decide +kernel
theorem d_code_154 : decode code 154 = .ok (.iaload, 1) := by decide +kernel
theorem d_code_155 : decode code 155 = .ok (.invokevirtual 41, 3) := by decide +kernel
theorem d_code_158 : decode code 158 = .ok (.istore 6, 2) := by decide +kernel
theorem d_code_160 : decode code 160 = .ok (.goto 154, 3) := by decide +kernel
theorem d_code_163 : decode code 163 = .ok (.aload_n 1, 1) := by decide +kernel
theorem d_code_164 : decode code 164 = .ok (.invokevirtual 42, 3) := by decide +kernel
theorem d_code_167 : decode code 167 = .ok (.pop, 1) := by decide +kernel
theorem d_code_168 : decode code 168 = .ok (.aload_n 2, 1) := by decide +kernel
theorem d_code_169 : decode code 169 = .ok (.invokevirtual 45, 3) := by decide +kernel
theorem d_code_172 : decode code 172 = .ok (.pop, 1) := by decide +kernel
theorem d_code_173 : decode code 173 = .ok (.goto 141, 3) := by decide +kernel
theorem d_code_176 : decode code 176 = .ok (.aload_n 1, 1) := by decide +kernel
theorem d_code_177 : decode code 177 = .ok (.aload_n 0, 1) := by decide +kernel
theorem d_code_178 : decode code 178 = .ok (.iload 4, 2) := by decide +kernel
theorem d_code_180 : decode code 180 = .ok (.iconst 1, 1) := by decide +kernel
theorem d_code_181 : decode code 181 = .ok (.iadd, 1) := by decide +kernel
theorem d_code_182 : decode code 182 = .ok (.iaload, 1) := by decide +kernel
theorem d_code_183 : decode code 183 = .ok (.invokevirtual 46, 3) := by decide +kernel
theorem d_code_186 : decode code 186 = .ok (.pop, 1) := by decide +kernel
theorem d_code_187 : decode code 187 = .ok (.aload_n 2, 1) := by decide +kernel
theorem d_code_188 : decode code 188 = .ok (.aload_n 0, 1) := by decide +kernel
theorem d_code_189 : decode code 189 = .ok (.iload 4, 2) := by decide +kernel
theorem d_code_191 : decode code 191 = .ok (.iconst 1, 1) := by decide +kernel
theorem d_code_192 : decode code 192 = .ok (.iadd, 1) := by decide +kernel
theorem d_code_193 : decode code 193 = .ok (.iaload, 1) := by decide +kernel
theorem d_code_194 : decode code 194 = .ok (.invokevirtual 49, 3) := by decide +kernel
theorem d_code_197 : decode code 197 = .ok (.pop, 1) := by decide +kernel
theorem d_code_198 : decode code 198 = .ok (.goto 116, 3) := by decide +kernel
theorem d_code_201 : decode code 201 = .ok (.aload_n 1, 1) := by decide +kernel
theorem d_code_202 : decode code 202 = .ok (.aload_n 0, 1) := by decide +kernel
theorem d_code_203 : decode code 203 = .ok (.iload 4, 2) := by decide +kernel
theorem d_code_205 : decode code 205 = .ok (.iconst 1, 1) := by decide +kernel
theorem d_code_206 : decode code 206 = .ok (.iadd, 1) := by decide +kernel
theorem d_code_207 : decode code 207 = .ok (.iaload, 1) := by decide +kernel
theorem d_code_208 : decode code 208 = .ok (.invokevirtual 50, 3) := by decide +kernel
theorem d_code_211 : decode code 211 = .ok (.pop, 1) := by decide +kernel
theorem d_code_212 : decode code 212 = .ok (.aload_n 2, 1) := by decide +kernel
theorem d_code_213 : decode code 213 = .ok (.aload_n 0, 1) := by decide +kernel
theorem d_code_214 : decode code 214 = .ok (.iload 4, 2) := by decide +kernel
theorem d_code_216 : decode code 216 = .ok (.iconst 1, 1) := by decide +kernel
theorem d_code_217 : decode code 217 = .ok (.iadd, 1) := by decide +kernel
theorem d_code_218 : decode code 218 = .ok (.iaload, 1) := by decide +kernel
theorem d_code_219 : decode code 219 = .ok (.invokevirtual 53, 3) := by decide +kernel
theorem d_code_222 : decode code 222 = .ok (.pop, 1) := by decide +kernel
theorem d_code_223 : decode code 223 = .ok (.goto 91, 3) := by decide +kernel
theorem d_code_226 : decode code 226 = .ok (.aload_n 1, 1) := by decide +kernel
theorem d_code_227 : decode code 227 = .ok (.aload_n 0, 1) := by decide +kernel
theorem d_code_228 : decode code 228 = .ok (.iload 4, 2) := by decide +kernel
theorem d_code_230 : decode code 230 = .ok (.iconst 1, 1) := by decide +kernel
theorem d_code_231 : decode code 231 = .ok (.iadd, 1) := by decide +kernel
theorem d_code_232 : decode code 232 = .ok (.iaload, 1) := by decide +kernel
theorem d_code_233 : decode code 233 = .ok (.invokevirtual 54, 3) := by decide +kernel
theorem d_code_236 : decode code 236 = .ok (.pop, 1) := by decide +kernel
theorem d_code_237 : decode code 237 = .ok (.aload_n 2, 1) := by decide +kernel
theorem d_code_238 : decode code 238 = .ok (.aload_n 0, 1) := by decide +kernel
theorem d_code_239 : decode code 239 = .ok (.iload 4, 2) := by decide +kernel
theorem d_code_241 : decode code 241 = .ok (.iconst 1, 1) := by decide +kernel
theorem d_code_242 : decode code 242 = .ok (.iadd, 1) := by decide +kernel
theorem d_code_243 : decode code 243 = .ok (.iaload, 1) := by decide +kernel
theorem d_code_244 : decode code 244 = .ok (.invokevirtual 57, 3) := by decide +kernel
theorem d_code_247 : decode code 247 = .ok (.pop, 1) := by decide +kernel
theorem d_code_248 : decode code 248 = .ok (.goto 66, 3) := by decide +kernel
theorem d_code_251 : decode code 251 = .ok (.aload_n 1, 1) := by decide +kernel
theorem d_code_252 : decode code 252 = .ok (.aload_n 0, 1) := by decide +kernel
theorem d_code_253 : decode code 253 = .ok (.iload 4, 2) := by decide +kernel
theorem d_code_255 : decode code 255 = .ok (.iconst 1, 1) := by decide +kernel
theorem d_code_256 : decode code 256 = .ok (.iadd, 1) := by decide +kernel
theorem d_code_257 : decode code 257 = .ok (.iaload, 1) := by decide +kernel
theorem d_code_258 : decode code 258 = .ok (.invokevirtual 58, 3) := by decide +kernel
theorem d_code_261 : decode code 261 = .ok (.pop, 1) := by decide +kernel
theorem d_code_262 : decode code 262 = .ok (.aload_n 2, 1) := by decide +kernel
theorem d_code_263 : decode code 263 = .ok (.aload_n 0, 1) := by decide +kernel
theorem d_code_264 : decode code 264 = .ok (.iload 4, 2) := by decide +kernel
theorem d_code_266 : decode code 266 = .ok (.iconst 1, 1) := by decide +kernel
theorem d_code_267 : decode code 267 = .ok (.iadd, 1) := by decide +kernel
theorem d_code_268 : decode code 268 = .ok (.iaload, 1) := by decide +kernel
theorem d_code_269 : decode code 269 = .ok (.invokevirtual 62, 3) := by decide +kernel
theorem d_code_272 : decode code 272 = .ok (.pop, 1) := by decide +kernel
theorem d_code_273 : decode code 273 = .ok (.goto 41, 3) := by decide +kernel
theorem d_code_276 : decode code 276 = .ok (.aload_n 1, 1) := by decide +kernel
theorem d_code_277 : decode code 277 = .ok (.invokevirtual 63, 3) := by decide +kernel
theorem d_code_280 : decode code 280 = .ok (.pop, 1) := by decide +kernel
theorem d_code_281 : decode code 281 = .ok (.aload_n 2, 1) := by decide +kernel
theorem d_code_282 : decode code 282 = .ok (.invokevirtual 66, 3) := by decide +kernel
theorem d_code_285 : decode code 285 = .ok (.pop, 1) := by decide +kernel
theorem d_code_286 : decode code 286 = .ok (.goto 28, 3) := by decide +kernel
theorem d_code_289 : decode code 289 = .ok (.aload_n 1, 1) := by decide +kernel
theorem d_code_290 : decode code 290 = .ok (.aload_n 0, 1) := by decide +kernel
theorem d_code_291 : decode code 291 = .ok (.iload 4, 2) := by decide +kernel
theorem d_code_293 : decode code 293 = .ok (.iconst 1, 1) := by decide +kernel
theorem d_code_294 : decode code 294 = .ok (.iadd, 1) := by decide +kernel
theorem d_code_295 : decode code 295 = .ok (.iaload, 1) := by decide +kernel
theorem d_code_296 : decode code 296 = .ok (.invokevirtual 67, 3) := by decide +kernel
theorem d_code_299 : decode code 299 = .ok (.aload_n 2, 1) := by decide +kernel
theorem d_code_300 : decode code 300 = .ok (.aload_n 0, 1) := by decide +kernel
theorem d_code_301 : decode code 301 = .ok (.iload 4, 2) := by decide +kernel
theorem d_code_303 : decode code 303 = .ok (.iconst 1, 1) := by decide +kernel
theorem d_code_304 : decode code 304 = .ok (.iadd, 1) := by decide +kernel
theorem d_code_305 : decode code 305 = .ok (.iaload, 1) := by decide +kernel
theorem d_code_306 : decode code 306 = .ok (.invokevirtual 70, 3) := by decide +kernel
theorem d_code_309 : decode code 309 = .ok (.if_icmp .eq 5, 3) := by decide +kernel
theorem d_code_312 : decode code 312 = .ok (.iconst 0, 1) := by decide +kernel
theorem d_code_313 : decode code 313 = .ok (.ireturn, 1) := by decide +kernel
theorem d_code_314 : decode code 314 = .ok (.iinc 4 2, 3) := by decide +kernel
theorem d_code_317 : decode code 317 = .ok (.goto (-294), 3) := by decide +kernel
theorem d_code_320 : decode code 320 = .ok (.iconst 1, 1) := by decide +kernel
theorem d_code_321 : decode code 321 = .ok (.ireturn, 1) := by decide +kernel
def LSe (am : Nat) (ad : Nat → Nat) (ou : Nat) : Nat → Prop := fun z => Mi am ad z ∨ z = ou
/-- the class's half of what holds between two calls of the law -/
def LC (D : va_G) (z0 : Nat) (k : Nat → Nat) (a am ou : Nat) (ad : Nat → Nat) (K : KM) (B T : Nat) (h : hp) (c0 cd lr : Nat) : Prop := TP D z0 k K B T h ∧ Ty K h 1 a ∧ (∃ v cap, BK D K h (LSe am ad ou) (K a).2.1 v c0 cap cd) ∧ OU D K h (LSe am ad ou) ou ∧ Ad am ad ∧ (¬ Mi am ad ou) ∧ (∀ z, Mi am ad z → (K z).1 = 99) ∧ (K a).2.2 = lr
/-- the reference's half -/
def LM (D : va_G) (am : Nat) (ad : Nat → Nat) (h : hp) (w cd nr : Nat) (nq cq gq : Nat → Nat) (na : Nat) (nz cz : Nat → Nat) : Prop := ∃ x, Mo D am ad x h ∧ MIx x ∧ x.1 2 = nI w ∧ (∀ j, j < w → x.2.1 1 j = nI (chr cd j)) ∧ LKx nr nq cq gq x ∧ LKa na nz cz x
section LWL
variable {D : va_G} {z0 : Nat} {k : Nat → Nat} {K K' : KM} {B T B' T' c0 c1 cd cd1 lr nr na w a am ou : Nat} {ad rz nq cq gq az nz cz : Nat → Nat} {h h' : hp} {X : Nat → Prop}
theorem LM.ev (M : LM D am ad h w cd nr nq cq gq na nz cz) (ev : Ev k X K h K' h') (hX : ∀ z, Mi am ad z → ¬ X z) : LM D am ad h' w cd nr nq cq gq na nz cz := by
  obtain ⟨x, ⟨m1, m2, m3⟩, mi, mw⟩ := M
  have c1 := ev.1 am m1
  refine ⟨x, ⟨c1.1, (c1.2.2 (hX am (Or.inl rfl))).2.trans m2, fun i hi hm => ?_⟩, mi, mw⟩
  obtain ⟨n1, n2⟩ := m3 i hi hm
  have c2 := ev.1 _ n1
  exact ⟨c2.1, (c2.2.2 (hX _ (Or.inr ⟨i, hi, hm, rfl⟩))).2.trans n2⟩
theorem LM.hp (M : LM D am ad h w cd nr nq cq gq na nz cz) (s1 : h'.1 = h.1) (s2 : ∀ z, Mi am ad z → h'.2 z = h.2 z) : LM D am ad h' w cd nr nq cq gq na nz cz := by
  obtain ⟨x, ⟨m1, m2, m3⟩, mi⟩ := M
  refine ⟨x, ⟨by rw [s1]; exact m1, (s2 am (Or.inl rfl)).trans m2, fun i hi hm => ?_⟩, mi⟩
  obtain ⟨n1, n2⟩ := m3 i hi hm
  exact ⟨by rw [s1]; exact n1, (s2 _ (Or.inr ⟨i, hi, hm, rfl⟩)).trans n2⟩
theorem LC.ev (C : LC D z0 k a am ou ad K B T h c0 cd lr) (ev : Ev k X K h K' h') (hT' : TP D z0 k K' B' T' h') (hbk : ∃ v cap, BK D K' h' (LSe am ad ou) (K a).2.1 v c1 cap cd1) (hou : ∃ f : Nat → Int64, h'.2 ou = .inl (D.1 102, 1, .inr (.inl f))) : LC D z0 k a am ou ad K' B' T' h' c1 cd1 lr := by
  obtain ⟨t, ha, ⟨v, cap, b⟩, o, A, nm, m9, hl⟩ := C
  have e1 : (K' a).2.1 = (K a).2.1 := Ev.ab ev ha rfl
  have k9 : ∀ z, LSe am ad ou z → (K z).1 = 99 → (K' z).1 = 99 := fun z hz h9 => by
    have c := (ev.1 z (b.2.2.2.1 z hz)).2.1 (by rw [h9]; decide)
    exact c.1.trans h9
  exact ⟨hT', Ev.ty ev ha, by rw [e1]; exact hbk, ⟨Or.inr rfl, k9 ou (Or.inr rfl) o.2.1, hou⟩, A, nm, fun z hz => k9 z (Or.inl hz) (m9 z hz), (Ev.fix (κ := 0) ev ha (by unfold Gk; omega)).trans hl⟩
theorem LC.nX (C : LC D z0 k a am ou ad K B T h c0 cd lr) : ∀ z, LSe am ad ou z → ¬ XP (fun z => z = (K a).2.1) PK K z := by
  obtain ⟨t, ha, ⟨v, cap, b⟩, o, A, nm, m9, hl⟩ := C
  intro z hz y
  have h9 : (K z).1 = 99 := by
    rcases hz with hz | rfl
    · exact m9 z hz
    · exact o.2.1
  rcases y with y | y
  · have y2 : z = (K a).2.1 := y
    exact b.2.2.2.2.1 (y2 ▸ hz)
  · exact y.2 h9
theorem LC.nXO (C : LC D z0 k a am ou ad K B T h c0 cd lr) : ∀ z, Mi am ad z → ¬ XO PK (K a).2.1 ou K z := by
  intro z hz y
  rcases y with (y | y) | y
  · exact C.nX z (Or.inl hz) (Or.inl y)
  · have y2 : z = ou := y
    exact C.2.2.2.2.2.1 (y2 ▸ hz)
  · exact C.nX z (Or.inl hz) (Or.inr y)
theorem LC.s9 (C : LC D z0 k a am ou ad K B T h c0 cd lr) (s : Sm am ad h h') : h'.1 = h.1 ∧ ∀ z, (K z).1 ≠ 99 → h'.2 z = h.2 z := ⟨s.1, fun z hz => s.2 z (fun m => hz (C.2.2.2.2.2.2.1 z m))⟩
theorem LC.sm (C : LC D z0 k a am ou ad K B T h c0 cd lr) (s : Sm am ad h h') : LC D z0 k a am ou ad K B T h' c0 cd lr := by
  obtain ⟨t, ha, ⟨v, cap, b⟩, o, A, nm, m9, hl⟩ := C
  obtain ⟨s1, s2⟩ := s
  obtain ⟨⟨mb, f, g1, g2, g3, g4, g5⟩, b2, b3, b4, b5, b6⟩ := b
  have nab : ¬ Mi am ad (K a).2.1 := fun z => b5 (Or.inl z)
  have nv : ¬ Mi am ad v := fun z => b6 (Or.inl z)
  refine ⟨⟨fun z hz => ?_, t.2.1, t.2.2.1, by rw [s1]; exact t.2.2.2.1, t.2.2.2.2⟩, ⟨by rw [s1]; exact ha.1, ha.2⟩, ⟨v, cap, ⟨mb, f, by rw [s1]; exact g1, (s2 _ nab).trans g2, by rw [s1]; exact g3, (s2 _ nv).trans g4, g5⟩, b2, b3, by rw [s1]; exact b4, b5, b6⟩, ⟨o.1, o.2.1, by rw [s2 _ nm]; exact o.2.2⟩, A, nm, m9, hl⟩
  rw [s1] at hz ⊢
  by_cases hm : Mi am ad z
  · have h9 := m9 z hm
    rw [show K z = (99, (K z).2) from Prod.ext h9 rfl]
    exact ⟨fun x => absurd x.2 (by show ¬ 99 ≤ 29; decide), fun x => absurd x.2 (by show ¬ 99 ≤ 39; decide), trivial⟩
  · rw [s2 z hm]
    exact t.1 z hz
theorem LC.dr {y : Nat} {q : Nat × Nat × Nat} {e : va_E} (C : LC D z0 k a am ou ad K B T h c0 cd lr) (hy : Ty K h 6 y) (hT' : TP D z0 k (va_up K y q) B T (h.1, va_up h.2 y e)) : LC D z0 k a am ou ad (va_up K y q) B T (h.1, va_up h.2 y e) c0 cd lr := by
  obtain ⟨t, ha, ⟨v, cap, b⟩, o, A, nm, m9, hl⟩ := C
  obtain ⟨⟨mb, f, g1, g2, g3, g4, g5⟩, b2, b3, b4, b5, b6⟩ := b
  have hne : ∀ z, (K z).1 ≠ 6 → z ≠ y := fun z hz x => hz (by rw [x]; exact hy.2)
  have na : a ≠ y := hne a (by rw [ha.2]; decide)
  have nab : (K a).2.1 ≠ y := hne _ (by rw [b2]; decide)
  have nv : v ≠ y := hne v (by rw [b3]; decide)
  have no : ou ≠ y := hne ou (by rw [o.2.1]; decide)
  refine ⟨hT', ⟨ha.1, by rw [va_up_ne _ _ na]; exact ha.2⟩, ⟨v, cap, ?_⟩, ⟨o.1, by rw [va_up_ne _ _ no]; exact o.2.1, ?_⟩, A, nm, fun z hz => ?_, by rw [va_up_ne _ _ na]; exact hl⟩
  · rw [va_up_ne _ _ na]
    exact ⟨⟨mb, f, g1, (va_up_ne _ _ nab).trans g2, g3, (va_up_ne _ _ nv).trans g4, g5⟩, by rw [va_up_ne _ _ nab]; exact b2, by rw [va_up_ne _ _ nv]; exact b3, b4, b5, b6⟩
  · obtain ⟨f2, hf2⟩ := o.2.2
    exact ⟨f2, (va_up_ne _ _ no).trans hf2⟩
  · have h9 := m9 z hz
    rw [va_up_ne _ _ (hne z (by rw [h9]; decide))]
    exact h9
theorem RQ.sm (Q : RQ D k K h lr nr rz nq cq gq) (s1 : h'.1 = h.1) (s2 : ∀ z, (K z).1 ≠ 99 → h'.2 z = h.2 z) : RQ D k K h' lr nr rz nq cq gq := by
  obtain ⟨⟨l1, l2, ea, n, mo, l3, l4⟩, q2, q3⟩ := Q
  refine ⟨⟨⟨by rw [s1]; exact l1.1, l1.2⟩, l2, ea, n, mo, (s2 lr (by rw [l1.2]; decide)).trans l3, l4.imp id (fun w => ?_)⟩, fun j hj => ?_, q3⟩
  · obtain ⟨c, f, g1, g2⟩ := w.2.2
    exact ⟨by rw [s1]; exact w.1, w.2.1, c, f, (s2 ea (by rw [w.2.1]; decide)).trans g1, g2⟩
  · obtain ⟨a1, a2, a3, a4⟩ := q2 j hj
    exact ⟨⟨by rw [s1]; exact a1.1, a1.2⟩, ⟨⟨a2.1.1, a2.1.2.1, by rw [s1]; exact a2.1.2.2⟩, a2.2⟩, a3, a4⟩
theorem AQz.sm {la : Nat} (Q : AQz D k K h la na az nz cz) (s1 : h'.1 = h.1) (s2 : ∀ z, (K z).1 ≠ 99 → h'.2 z = h.2 z) : AQz D k K h' la na az nz cz := by
  obtain ⟨⟨l1, l2, ea, n, mo, l3, l4⟩, q2⟩ := Q
  refine ⟨⟨⟨by rw [s1]; exact l1.1, l1.2⟩, l2, ea, n, mo, (s2 la (by rw [l1.2]; decide)).trans l3, l4.imp id (fun w => ?_)⟩, fun j hj => ?_⟩
  · obtain ⟨c, f, g1, g2⟩ := w.2.2
    exact ⟨by rw [s1]; exact w.1, w.2.1, c, f, (s2 ea (by rw [w.2.1]; decide)).trans g1, g2⟩
  · obtain ⟨a1, a2, a3⟩ := q2 j hj
    exact ⟨⟨by rw [s1]; exact a1.1, a1.2⟩, ⟨⟨a2.1.1, a2.1.2.1, by rw [s1]; exact a2.1.2.2⟩, a2.2⟩, a3⟩
theorem BQ.sm (Q : BQ D k K h lr nr rz nq cq gq na az nz cz) (s1 : h'.1 = h.1) (s2 : ∀ z, (K z).1 ≠ 99 → h'.2 z = h.2 z) : BQ D k K h' lr nr rz nq cq gq na az nz cz := ⟨Q.1.sm s1 s2, Q.2.sm s1 s2⟩
end LWL
theorem nar_m {m : Nat} (h : m < 128) : vp_nar .char (nI m) = nI m := by
  have q : ∀ m : Fin 128, vp_nar .char (nI m.1) = nI m.1 := by decide +kernel
  exact q ⟨m, h⟩
theorem mi_s0 {x : MS} {v : Int32} (h : MIx x) : MIx (seti x 0 v) := h
theorem mi_dr {x : MS} {j : Nat} {v u : Int32} (h : MIx x) : MIx (seta (seti x 0 v) 22 j u) := h
theorem mi_wr {x : MS} {j : Nat} {v u q : Int32} (h : MIx x) : MIx (seti (seta (seti x 0 v) 1 j u) 2 q) := h
theorem inc2 (j : Nat) : nI (2 * j) + Int32.ofInt 2 = nI (2 * (j + 1)) := nI_add (2 * j) 2
theorem scr_le {L N : Nat} (hL : L ≤ 1024) (hN : N ≤ 512) (h : ¬ nI L - 2 < nI (2 * N)) : 2 * N + 2 ≤ L := by
  refine Nat.le_of_not_lt (fun q => h ?_)
  rw [Int32.lt_iff_toInt_lt, nI_toInt (by omega), show (2 : Int32) = nI 2 from rfl, pk_sub_toInt (by omega) (by decide)]
  omega
theorem t_n {t N : Nat} (ht : t = N * (N + 1)) : t + 2 * N + 2 = (N + 1) * (N + 1 + 1) := by
  have e1 : (N + 1) * (N + 1 + 1) = (N + 1) * (N + 1) + (N + 1) := Nat.mul_succ _ _
  have e2 : (N + 1) * (N + 1) = N * (N + 1) + (N + 1) := Nat.succ_mul _ _
  omega
theorem t_q {t N : Nat} (ht : t = N * (N + 1)) (hN : N + 1 ≤ 512) : t + 2 * N + 2 ≤ 262656 := by
  rw [t_n ht]
  show (N + 1) * (N + 1 + 1) ≤ 512 * 513
  exact Nat.mul_le_mul hN (by omega)
set_option maxRecDepth 4000 in
theorem lk_cost {N B F t rs : Nat} (hB : B ≤ 12 + 4 * N) (hF : 24 * N ≤ F) (hq : t + 2 * N + 2 ≤ 262656) (hN : N + 1 ≤ 512) (hrs : 4790272 + F ≤ rs + 12 * t + 3200 * N) : lookS B ≤ rs := by
  unfold lookS
  omega
set_option maxRecDepth 4000 in
theorem lk_cost2 {N B F t rs : Nat} (hB : B ≤ 12 + 4 * N) (hF : 24 * N ≤ F) (hq : t + 2 * N + 2 ≤ 262656) (hN : N + 1 ≤ 512) (hrs : 4790272 + F ≤ rs + 12 * t + 3200 * N) : 4790272 + 0 ≤ rs - lookS B - 0 + 12 * (t + 2 * N + 2) + 3200 * (N + 1) := by
  unfold lookS
  omega
theorem sw10 {x : Int32} (h0 : ¬ x = 0) (h1 : ¬ x = 1) (h2 : ¬ x = 2) (h3 : ¬ x = 3) (h4 : ¬ x = 4) (h5 : ¬ x = 5) (h6 : ¬ x = 6) (h7 : ¬ x = 7) (h8 : ¬ x = 8) (h9 : ¬ x = 9) : x.toInt < 0 ∨ 9 < x.toInt := by
  have e0 : x.toInt ≠ 0 := fun z => h0 (Int32.toInt_inj.mp (z.trans (by decide)))
  have e1 : x.toInt ≠ 1 := fun z => h1 (Int32.toInt_inj.mp (z.trans (by decide)))
  have e2 : x.toInt ≠ 2 := fun z => h2 (Int32.toInt_inj.mp (z.trans (by decide)))
  have e3 : x.toInt ≠ 3 := fun z => h3 (Int32.toInt_inj.mp (z.trans (by decide)))
  have e4 : x.toInt ≠ 4 := fun z => h4 (Int32.toInt_inj.mp (z.trans (by decide)))
  have e5 : x.toInt ≠ 5 := fun z => h5 (Int32.toInt_inj.mp (z.trans (by decide)))
  have e6 : x.toInt ≠ 6 := fun z => h6 (Int32.toInt_inj.mp (z.trans (by decide)))
  have e7 : x.toInt ≠ 7 := fun z => h7 (Int32.toInt_inj.mp (z.trans (by decide)))
  have e8 : x.toInt ≠ 8 := fun z => h8 (Int32.toInt_inj.mp (z.trans (by decide)))
  have e9 : x.toInt ≠ 9 := fun z => h9 (Int32.toInt_inj.mp (z.trans (by decide)))
  omega
section SCR
variable {p : Program} {l : Launch} {e : Env} {R : Room} {s : State} {m : MethodId} {args : Array Value} {below : List Frame} {meth : Method} {c : Code} {cc : ByteArray} {own : String} {nL : Nat} {ret : Option FieldType} {D : va_G} {z0 : Nat} {Qp : Outcome → hp → Prop} {mc ms pc : Nat} {lv lv' : List (Nat × Value)} {st rest : List Value} {h : hp} {rc rs : Nat}
variable {k : Nat → Nat} {b L : Nat} {xs : Nat → Int32}
theorem g_slen (C : Cx p R s m args meth c cc own nL ret D z0 (EE z0 k) mc ms) (hX : va_X b L xs s s.heap) (hbs : b < s.heap.size) (hbz : b < z0) (hd : decode cc pc = .ok (.arraylength, 1)) (kk : G p l e R s m args below meth c nL D z0 (EE z0 k) Qp mc ms (pc + 1) lv (.int (nI L) :: rest) h rc rs) : G p l e R s m args below meth c nL D z0 (EE z0 k) Qp mc ms pc lv (.ref b :: rest) h rc rs := fun ls H locs cells slots h1 h2 h3 h4 h5 => va_slen C.1 C.2.1 hX hbs (Nat.not_le.mpr hbz) h3 hd (kk ls H locs cells slots h1 h2 h3 h4 h5)
theorem g_sld (C : Cx p R s m args meth c cc own nL ret D z0 (EE z0 k) mc ms) (hX : va_X b L xs s s.heap) (hbs : b < s.heap.size) (hbz : b < z0) {j : Nat} {i : Int32} (hd : decode cc pc = .ok (.iaload, 1)) (hi : i = nI j) (hj : j < L) (hL : L < 2 ^ 31) (kk : G p l e R s m args below meth c nL D z0 (EE z0 k) Qp mc ms (pc + 1) lv (.int (xs j) :: rest) h rc rs) : G p l e R s m args below meth c nL D z0 (EE z0 k) Qp mc ms pc lv (.int i :: .ref b :: rest) h rc rs := by
  subst hi
  intro ls H locs cells slots h1 h2 h3 h4 h5
  refine va_sld C.1 C.2.1 hX hbs (Nat.not_le.mpr hbz) h3 (vp_in_nI hj hL) hd ?_
  rw [nI_clamp (by omega)]
  exact kk ls H locs cells slots h1 h2 h3 h4 h5
end SCR
section LLP
set_option maxHeartbeats 40000000 in
theorem lawLoop {p : Program} {l : Launch} {e : Env} {R : Room} {s : State} {m : MethodId} {args : Array Value} {below : List Frame} {meth : Method} {c : Code} {D : va_G} {z0 : Nat} {k : Nat → Nat} {MC MS : Nat} (cx : Cx p R s m args meth c code "RealmDeskLaw" 7 (some .boolean) D z0 (EE z0 k) MC MS) (hR : 100 ≤ R.frames ∧ 4000 ≤ R.locals) (htr : l.stackTraces = false) {b L : Nat} {xs : Nat → Int32} (hX : va_X b L xs s s.heap) (hbs : b < s.heap.size) (hbz : b < z0) (hL : L ≤ 1024) {a am ou : Nat} {ad : Nat → Nat} : ∀ (n0 N t c0 B T F cd lr nr na : Nat) (rz nq cq gq az nz cz : Nat → Nat) (K : KM) (h : hp) (rc rs : Nat), N + n0 = 513 → N ≤ 512 → t = N * (N + 1) → (B ≤ 16 + 4 * N ∧ (c0 = 0 ∨ B ≤ 12 + 4 * N)) → T ≤ 40 * N → LC D z0 k a am ou ad K B T h c0 cd lr → BQ D k K h lr nr rz nq cq gq na az nz cz → LM D am ad h c0 cd nr nq cq gq na nz cz → 102400 ≤ rc + 200 * N → (c0 = 0 ∨ 24 * N ≤ F) → 4790272 + F ≤ rs + 12 * t + 3200 * N → G p l e R s m args below meth c 7 D z0 (EE z0 k) (fun o _ => o = .returned (some (.int 1))) MC MS 23 [(4, .int (nI (2 * N))), (3, .ref ou), (2, .ref am), (1, .ref a), (0, .ref b)] [] h rc rs := by
  intro n0
  induction n0 with
  | zero => intro N t c0 B T F cd lr nr na rz nq cq gq az nz cz K h rc rs hN hN2; omega
  | succ n0 ih =>
    intro N t c0 B T F cd lr nr na rz nq cq gq az nz cz K h rc rs hN hN2 ht hBb hTT hLC hQ hLM hrc hF hrs
    obtain ⟨hR1, hR2⟩ := hR
    refine g_iload cx 0 d_code_23 rfl ?_
    refine g_aload_n cx 4 d_code_25 rfl rfl ?_
    refine g_slen cx hX hbs hbz d_code_26 ?_
    refine g_iconst cx (v := 2) d_code_27 (by decide) ?_
    refine g_isub cx d_code_28 ?_
    refine g_icmp_gt cx d_code_29 rfl (fun c29 => ?_) (fun c29 => ?_)
    · skip
      refine g_iconst cx (v := 1) d_code_320 (by decide) ?_
      exact g_iret cx d_code_321 rfl rfl rfl
    · skip
      have h2 : 2 * N + 2 ≤ L := scr_le hL hN2 c29
      have hN1 : N + 1 ≤ 512 := by omega
      have hq := t_q ht hN1
      have hc30 : c0 ≤ 30 := by obtain ⟨-, -, ⟨v8, c8, b8⟩, -⟩ := id hLC; obtain ⟨_, _, _, _, _, _, _, _, z, _⟩ := id b8.1; exact z
      refine g_aload_n cx 4 d_code_32 rfl rfl ?_
      refine g_iload cx 0 d_code_33 rfl ?_
      refine g_sld cx hX hbs hbz (j := 2 * N) d_code_35 rfl (by omega) (by omega) ?_
      refine g_bipush cx (v := 15) d_code_36 (by decide) ?_
      refine g_iand cx d_code_38 ?_
      refine g_topi (fun xk exk => ?_)
      by_cases s0 : xk = 0
      · skip
        refine g_tableIn cx (off := 53) (tgt := 92) d_code_39 (by rw [s0]; decide +kernel) (by rw [s0]; decide +kernel) (by rw [s0]; decide +kernel) rfl ?_
        refine g_aload_n cx 3 d_code_92 rfl rfl ?_
        refine g_aload_n cx 4 d_code_93 rfl rfl ?_
        refine g_iload cx 0 d_code_94 rfl ?_
        refine g_iconst cx (v := 1) d_code_96 (by decide) ?_
        refine g_iadd cx d_code_97 ?_
        refine g_topi (fun m97 em97 => ?_)
        obtain rfl : m97 = nI (2 * N + 1) := em97.trans (nI_1 _)
        refine g_sld cx hX hbs hbz (j := 2 * N + 1) d_code_98 rfl (by omega) (by omega) ?_
        refine g_i2c cx d_code_99 ?_
        refine g_topi (fun uc euc => ?_)
        obtain ⟨hT, ha, ⟨vb, cap, hbk⟩, hou, hAd, hnm, hM9, hlrq⟩ := id hLC
        obtain ⟨la9, lr9, tr9, tn9, hed, -⟩ := TP.desk hT ha rfl
        have hcdl : cd < 128 ^ c0 := by obtain ⟨_, _, _, _, _, _, _, _, _, _, _, _, z⟩ := id hbk.1; exact z
        have hc30 : c0 ≤ 30 := by obtain ⟨_, _, _, _, _, _, _, _, z, _⟩ := id hbk.1; exact z
        refine g_callV cx (As := [.int uc]) (n := 1) (tc_write (K := K) (B := B) (T := T) (S := LSe am ad ou) (ab := (K a).2.1) (v := vb) (c0 := c0) (cap := cap) (cd := cd) (x := uc)) d_code_100 t_113 t_114 t_115 t_1 t_116 ⟨by decide, by decide, by decide +kernel⟩ rfl (ci := 0) rfl ha.1 hed ⟨rfl, hT, ha, rfl, hbk⟩ ⟨by show 10 + 1 ≤ R.frames; omega, by show 8 + (2 + 11) + 60 * 10 ≤ R.locals; omega⟩ (Nat.le_of_ble_eq_true rfl) ⟨by simp only [rmT, lookS]; omega, by simp only [rmT, lookS]; omega⟩ (fun v100 h r100 => ?_) (fun x100 h r100 => by obtain ⟨K9, -, -, r9, c9, v9, p9, d9, e9, -⟩ := r100; cases e9)
        obtain ⟨K2, hT2, ev, x100, c1, v2, cap2, cd1, e100, hbk2, hrel100⟩ := r100
        cases e100
        have nW : ∀ z, LSe am ad ou z → ¬ (z = (K a).2.1 ∨ z = vb) := fun z hz y => by
          rcases y with y | y
          · exact hbk.2.2.2.2.1 (y ▸ hz)
          · exact hbk.2.2.2.2.2 (y ▸ hz)
        replace hQ := hQ.ev ev (fun z hz y => by
          have h9 : (K z).1 = 99 := y.elim (fun w => by rw [w]; exact hbk.2.1) (fun w => by rw [w]; exact hbk.2.2.1)
          omega)
        replace hLM := hLM.ev ev (fun z hz => nW z (Or.inl hz))
        replace hLC := hLC.ev ev hT2 ⟨v2, cap2, hbk2⟩ (by obtain ⟨f, hf⟩ := hou.2.2; exact ⟨f, ((ev.1 ou (hbk.2.2.2.1 ou (Or.inr rfl))).2.2 (nW ou (Or.inr rfl))).2.trans hf⟩)
        refine g_pop cx d_code_103 rfl ?_
        refine g_aload_n cx 2 d_code_104 rfl rfl ?_
        refine g_aload_n cx 4 d_code_105 rfl rfl ?_
        refine g_iload cx 0 d_code_106 rfl ?_
        refine g_iconst cx (v := 1) d_code_108 (by decide) ?_
        refine g_iadd cx d_code_109 ?_
        refine g_topi (fun m109 em109 => ?_)
        obtain rfl : m109 = nI (2 * N + 1) := em109.trans (nI_1 _)
        refine g_sld cx hX hbs hbz (j := 2 * N + 1) d_code_110 rfl (by omega) (by omega) ?_
        refine g_i2c cx d_code_111 ?_
        refine g_topi (fun ud eud => ?_)
        obtain rfl : uc = ud := euc.trans eud.symm
        obtain ⟨x0, hMo, hMI0, hw0, htx0, hLk0, hLa0⟩ := id hLM
        obtain ⟨a5, r5, nm5, ld5, im5, kp5, mn5, hMI⟩ := id hMI0
        have hAd5 := hLC.2.2.2.2.1
        refine g_callV cx (As := [.int uc]) (n := 1) (mc_write Cl.stb hAd5 x0 (uc) c0 hw0 hc30) d_code_112 t_989 t_990 t_991 t_9 t_992 ⟨by decide, by decide, by decide +kernel⟩ rfl (ci := 9) rfl hMo.1 hMo.2.1 ⟨rfl, hMo⟩ ⟨by show 0 + 1 ≤ R.frames; omega, by show 8 + (2 + 11) + 60 * 0 ≤ R.locals; omega⟩ (Nat.le_of_ble_eq_true rfl) ⟨Nat.zero_le _, Nat.zero_le _⟩ (fun v112 h r112 => ?_) (fun x112 h r112 => by obtain ⟨r9, x9, e9, -⟩ := r112; cases e9)
        obtain ⟨r9112, x1, e9, hMo1, hSm, hrel⟩ := r112
        cases e9
        have hs9 := hLC.s9 hSm
        replace hLC := hLC.sm hSm
        replace hQ := hQ.sm hs9.1 hs9.2
        
        obtain ⟨u112, rfl, hLM⟩ : ∃ u : Int32, v112 = some (.int u) ∧ LM D am ad h c1 cd1 nr nq cq gq na nz cz := by
          rcases hrel with ⟨g1, g2, g3⟩ | ⟨g1, g2, g3⟩
          · rcases hrel100 with ⟨w1, w2, w4, w3⟩ | ⟨w1, w2, ⟨xc, w5, w6, w7, w8⟩, w3⟩
            · exfalso
              rcases w3 with w3 | w3 | w3
              · exact g1.1 w3
              · exact g1.2.1 w3
              · exact absurd g1.2.2 (by omega)
            · refine ⟨1, g2, x1, hMo1, by rw [g3]; exact mi_wr hMI0, ?_, ?_, by rw [g3]; exact LKx.kp hLk0 rfl rfl rfl, by rw [g3]; exact LKa.kp hLa0 rfl rfl⟩
              · rw [g3, w2]
                rfl
              · rw [g3, w2, w8]
                show ∀ j, j < c0 + 1 → upd (x0.2.1 1) c0 (vp_nar .char uc) j = nI (chr (cd + 128 ^ c0 * xc) j)
                exact app_c (by rw [w5]; exact nar_m (by omega)) htx0 hcdl (by omega)
          · rcases hrel100 with ⟨w1, w2, w4, w3⟩ | ⟨w1, w2, ⟨xc, w5, w6, w7, w8⟩, w3⟩
            · refine ⟨0, g2, x1, hMo1, by rw [g3]; exact mi_s0 hMI0, ?_, ?_, by rw [g3]; exact LKx.kp hLk0 rfl rfl rfl, by rw [g3]; exact LKa.kp hLa0 rfl rfl⟩
              · rw [g3, w2]
                exact hw0
              · rw [g3, w2, w4]
                exact htx0
            · exact absurd w3 g1
        refine g_pop cx d_code_115 rfl ?_
        refine g_goto cx d_code_116 rfl ?_
        refine g_iinc cx 0 (lv' := [(4, .int (nI (2 * (N + 1)))), (3, .ref ou), (2, .ref am), (1, .ref a), (0, .ref b)]) d_code_314 rfl (inc2 N) (by decide) rfl ?_
        refine g_goto cx d_code_317 rfl ?_
        exact g_loc [0, 1, 2, 3, 4] rfl (ih (N + 1) (t + 2 * N + 2) c1 (B) (T) (24 * (N + 1)) _ _ _ _ _ _ _ _ _ _ _ K2 h _ _ (by omega) (by omega) (t_n ht) ⟨by omega, by omega⟩ (by omega) hLC hQ hLM (by first | (simp only [rmT, rmL, lookS]; omega) | omega) (by omega) (by first | (simp only [rmT, rmL, lookS]; omega) | omega))
      by_cases s1 : xk = 1
      · skip
        refine g_tableIn cx (off := 80) (tgt := 119) d_code_39 (by rw [s1]; decide +kernel) (by rw [s1]; decide +kernel) (by rw [s1]; decide +kernel) rfl ?_
        refine g_aload_n cx 3 d_code_119 rfl rfl ?_
        refine g_aload_n cx 1 d_code_120 rfl rfl ?_
        obtain ⟨hT, ha, ⟨vb, cap, hbk⟩, hou, hAd, hnm, hM9, hlrq⟩ := id hLC
        obtain ⟨la9, lr9, tr9, tn9, hed, -⟩ := TP.desk hT ha rfl
        refine g_callSH cx (As := [.ref a, .ref ou]) (n := 2) (hl_line (K := K) (B := B) (T := T) (S := LSe am ad ou) (ab := (K a).2.1) (v := vb) (c0 := c0) (cap := cap) (cd := cd) (ou := ou) (Pk := PK) (Pr := fun h => Ty K h 1 a ∧ (K a).2.1 = (K a).2.1 ∧ BK D K h (LSe am ad ou) (K a).2.1 vb c0 cap cd ∧ (K a).2.2 = lr ∧ BQ D k K h lr nr rz nq cq gq na az nz cz) (Rl := fun o K' h' => RL D (LSe am ad ou) S1 (K a).2.1 o K' h' ∧ LF D k lr nr rz nq cq gq na az nz cz c0 cd K' h') (Φ := LF D k lr nr rz nq cq gq na az nz cz c0 cd) (fun z => z.2 rfl) (fun _ _ _ q => q) (fun K9 h9 h8 ev9 h99 q => q.mp (fun _ _ _ _ _ _ _ _ _ b => b.ev ev9 (x1B h99))) (tc_lineF (by omega) htr)) d_code_121 t_507 t_508 t_0 t_509 ⟨by decide, by decide, by decide +kernel⟩ rfl ⟨rfl, hT, ha, rfl, hbk, hou, ⟨ha, rfl, hbk, hlrq, hQ⟩⟩ ⟨by show 13 + 1 + 1 ≤ R.frames; omega, by show 8 + (3 + 11) + (60 * 13 + 40) ≤ R.locals; omega⟩ (Nat.le_of_ble_eq_true rfl) ⟨by simp only [rmT, lookS]; omega, by simp only [rmT, lookS]; omega⟩ (fun v121 h r121 => ?_) (fun x121 h r121 => by obtain ⟨K9, -, -, ⟨v9, e9⟩, -⟩ := r121; cases e9)
        obtain ⟨K2, hT2, ev, ⟨x121, e121⟩, ⟨v2, cap2, hbk2⟩, hou2, hLF⟩ := r121
        cases e121
        replace hLM := hLM.ev ev hLC.nXO
        replace hLC := hLC.ev ev hT2 ⟨v2, cap2, hbk2⟩ hou2
        refine g_istore cx (lv' := [(5, .int x121), (4, .int (nI (2 * N))), (3, .ref ou), (2, .ref am), (1, .ref a), (0, .ref b)]) d_code_124 (by decide) rfl ?_
        refine g_aload_n cx 3 d_code_126 rfl rfl ?_
        obtain ⟨x0, hMo, hMI0, hw0, htx0, hLk0, hLa0⟩ := id hLM
        obtain ⟨a5, r5, nm5, ld5, im5, kp5, mn5, hMI⟩ := id hMI0
        have hAd5 := hLC.2.2.2.2.1
        refine g_callV cx (As := []) (n := 0) (mc_lineF Cl.stb hAd5 x0 c0 cd hw0 hc30 a5 r5 nm5 ld5 im5 kp5 mn5 hMI htx0) d_code_127 t_993 t_994 t_995 t_9 t_996 ⟨by decide, by decide, by decide +kernel⟩ rfl (ci := 9) rfl hMo.1 hMo.2.1 ⟨rfl, hMo⟩ ⟨by show 3 + 1 ≤ R.frames; omega, by show 8 + (2 + 11) + 60 * 3 ≤ R.locals; omega⟩ (Nat.le_of_ble_eq_true rfl) ⟨Nat.zero_le _, Nat.zero_le _⟩ (fun v127 h r127 => ?_) (fun x127 h r127 => by obtain ⟨r9, x9, e9, -⟩ := r127; cases e9)
        obtain ⟨r9127, x1, e9, hMo1, hSm, hrel⟩ := r127
        cases e9
        have hs9 := hLC.s9 hSm
        replace hLC := hLC.sm hSm
        replace hLF := hLF.mp (fun _ _ _ _ _ _ _ _ _ q => q.sm hs9.1 hs9.2)
        obtain ⟨⟨u127, rfl⟩, hx1, hle⟩ := hrel
        have hr5 : r5 = nr := (nI_eq (by have := hMI.2.1.2; omega) (by have := hLk0.1; omega)).mp (hMI.2.1.1.symm.trans hLk0.2.1)
        have ha5 : a5 = na := (nI_eq (by have := hMI.1.2; omega) (by have := hLa0.1; omega)).mp (hMI.1.1.symm.trans hLa0.2.1)
        rw [hr5, ha5] at hle
        obtain ⟨nr2, rz2, nq2, cq2, gq2, na2, az2, nz2, cz2, hQ, hLk2, hLa2⟩ := hLk0.line hLa0 hLF hle
        replace hLM : LM D am ad h 0 0 nr2 nq2 cq2 gq2 na2 nz2 cz2 := ⟨x1, hMo1, hx1, (by obtain ⟨_, _, _, _, z, _⟩ := id hle; exact z), fun j hj => absurd hj (Nat.not_lt_zero _), hLk2, hLa2⟩
        refine g_istore cx (lv' := [(6, .int u127), (5, .int x121), (4, .int (nI (2 * N))), (3, .ref ou), (2, .ref am), (1, .ref a), (0, .ref b)]) d_code_130 (by decide) rfl ?_
        refine g_goto cx d_code_132 rfl ?_
        refine g_iinc cx 2 (lv' := [(4, .int (nI (2 * (N + 1)))), (6, .int u127), (5, .int x121), (3, .ref ou), (2, .ref am), (1, .ref a), (0, .ref b)]) d_code_314 rfl (inc2 N) (by decide) rfl ?_
        refine g_goto cx d_code_317 rfl ?_
        exact g_loc [0, 3, 4, 5, 6] rfl (ih (N + 1) (t + 2 * N + 2) 0 (B) (T) 0 _ _ _ _ _ _ _ _ _ _ _ K2 h _ _ (by omega) (by omega) (t_n ht) ⟨by omega, by omega⟩ (by omega) hLC hQ hLM (by first | (simp only [rmT, rmL, lookS]; omega) | omega) (by omega) (by first | (simp only [rmT, rmL, lookS]; omega) | omega))
      by_cases s2 : xk = 2
      · skip
        refine g_tableIn cx (off := 96) (tgt := 135) d_code_39 (by rw [s2]; decide +kernel) (by rw [s2]; decide +kernel) (by rw [s2]; decide +kernel) rfl ?_
        refine g_aload_n cx 3 d_code_135 rfl rfl ?_
        refine g_aload_n cx 4 d_code_136 rfl rfl ?_
        refine g_iload cx 0 d_code_137 rfl ?_
        refine g_iconst cx (v := 1) d_code_139 (by decide) ?_
        refine g_iadd cx d_code_140 ?_
        refine g_topi (fun m140 em140 => ?_)
        obtain rfl : m140 = nI (2 * N + 1) := em140.trans (nI_1 _)
        refine g_sld cx hX hbs hbz (j := 2 * N + 1) d_code_141 rfl (by omega) (by omega) ?_
        refine g_aload_n cx 1 d_code_142 rfl rfl ?_
        obtain ⟨hT, ha, ⟨vb, cap, hbk⟩, hou, hAd, hnm, hM9, hlrq⟩ := id hLC
        obtain ⟨la9, lr9, tr9, tn9, hed, -⟩ := TP.desk hT ha rfl
        by_cases hc0 : c0 = 0
        · skip
          refine g_callSH cx (As := [.ref a, .int (xs (2 * N + 1)), .ref ou]) (n := 3) (hl_look (K := K) (B := B) (T := T) (S := LSe am ad ou) (ab := (K a).2.1) (v := vb) (c0 := c0) (cap := cap) (cd := cd) (ou := ou) (Pk := PN) (Pr := fun h => Ty K h 1 a ∧ (K a).2.1 = (K a).2.1 ∧ BK D K h (LSe am ad ou) (K a).2.1 vb c0 cap cd) (Rl := RL D (LSe am ad ou) S2 (K a).2.1) (Φ := fun _ _ => True) (fun z => z.2.1 rfl) (fun _ _ _ q => ⟨q, trivial⟩) (fun _ _ _ _ _ q => q) (tc_look0 hc0 (by omega) htr)) d_code_143 t_822 t_823 t_0 t_824 ⟨by decide, by decide, by decide +kernel⟩ rfl ⟨rfl, hT, ha, rfl, hbk, hou, ⟨ha, rfl, hbk⟩⟩ ⟨by show 34 + 1 + 1 ≤ R.frames; omega, by show 8 + (4 + 11) + (60 * 34 + 40) ≤ R.locals; omega⟩ (Nat.le_of_ble_eq_true rfl) ⟨by simp only [rmT, lookS]; omega, by simp only [rmT, lookS]; omega⟩ (fun v143 h r143 => ?_) (fun x143 h r143 => by obtain ⟨K9, -, -, ⟨v9, e9⟩, -⟩ := r143; cases e9)
          obtain ⟨K2, hT2, ev, ⟨x143, e143⟩, ⟨v2, cap2, hbk2⟩, hou2, -⟩ := r143
          cases e143
          replace hQ := hQ.ev ev (xeB (fun z hz => hz.elim (fun w => by rw [w]; exact hbk.2.1) (fun w => by rw [w]; exact hou.2.1)))
          replace ev := xnd ev
          replace hLM := hLM.ev ev hLC.nXO
          replace hLC := hLC.ev ev hT2 ⟨v2, cap2, hbk2⟩ hou2
          refine g_istore cx (lv' := [(5, .int x143), (4, .int (nI (2 * N))), (3, .ref ou), (2, .ref am), (1, .ref a), (0, .ref b)]) d_code_146 (by decide) rfl ?_
          refine g_aload_n cx 3 d_code_148 rfl rfl ?_
          refine g_aload_n cx 5 d_code_149 rfl rfl ?_
          refine g_iload cx 1 d_code_150 rfl ?_
          refine g_iconst cx (v := 1) d_code_152 (by decide) ?_
          refine g_iadd cx d_code_153 ?_
          refine g_topi (fun m153 em153 => ?_)
          obtain rfl : m153 = nI (2 * N + 1) := em153.trans (nI_1 _)
          refine g_sld cx hX hbs hbz (j := 2 * N + 1) d_code_154 rfl (by omega) (by omega) ?_
          obtain ⟨x0, hMo, hMI0, hw0, htx0, hLk0, hLa0⟩ := id hLM
          obtain ⟨a5, r5, nm5, ld5, im5, kp5, mn5, hMI⟩ := id hMI0
          have hAd5 := hLC.2.2.2.2.1
          refine g_callV cx (As := [.int (xs (2 * N + 1))]) (n := 1) (mc_look Cl.stb hAd5 x0 (xs (2 * N + 1)) c0 hw0 hc30 a5 r5 nm5 ld5 im5 kp5 mn5 hMI) d_code_155 t_1070 t_1071 t_1072 t_9 t_1073 ⟨by decide, by decide, by decide +kernel⟩ rfl (ci := 9) rfl hMo.1 hMo.2.1 ⟨rfl, hMo⟩ ⟨by show 5 + 1 ≤ R.frames; omega, by show 8 + (5 + 11) + 60 * 5 ≤ R.locals; omega⟩ (Nat.le_of_ble_eq_true rfl) ⟨Nat.zero_le _, Nat.zero_le _⟩ (fun v155 h r155 => ?_) (fun x155 h r155 => by obtain ⟨r9, x9, e9, -⟩ := r155; cases e9)
          obtain ⟨r9155, x1, e9, hMo1, hSm, hrel⟩ := r155
          cases e9
          have hs9 := hLC.s9 hSm
          replace hLC := hLC.sm hSm
          replace hQ := hQ.sm hs9.1 hs9.2
          obtain ⟨⟨u155, rfl⟩, hx1, hx2⟩ := hrel
          replace hLM : LM D am ad h 0 0 nr nq cq gq na nz cz := ⟨x1, hMo1, hx1, hx2.1, fun j hj => absurd hj (Nat.not_lt_zero _), hLk0.z hx2, hLa0.kp hx2.2.2.2.2.1 hx2.2.2.2.2.2⟩
          refine g_istore cx (lv' := [(6, .int u155), (5, .int x143), (4, .int (nI (2 * N))), (3, .ref ou), (2, .ref am), (1, .ref a), (0, .ref b)]) d_code_158 (by decide) rfl ?_
          refine g_goto cx d_code_160 rfl ?_
          refine g_iinc cx 2 (lv' := [(4, .int (nI (2 * (N + 1)))), (6, .int u155), (5, .int x143), (3, .ref ou), (2, .ref am), (1, .ref a), (0, .ref b)]) d_code_314 rfl (inc2 N) (by decide) rfl ?_
          refine g_goto cx d_code_317 rfl ?_
          exact g_loc [0, 3, 4, 5, 6] rfl (ih (N + 1) (t + 2 * N + 2) 0 (B) (T) 0 _ _ _ _ _ _ _ _ _ _ _ K2 h _ _ (by omega) (by omega) (t_n ht) ⟨by omega, by omega⟩ (by omega) hLC hQ hLM (by first | (simp only [rmT, rmL, lookS]; omega) | omega) (by omega) (by first | (simp only [rmT, rmL, lookS]; omega) | omega))
        · skip
          refine g_callSH cx (As := [.ref a, .int (xs (2 * N + 1)), .ref ou]) (n := 3) (hl_look (K := K) (B := B) (T := T) (S := LSe am ad ou) (ab := (K a).2.1) (v := vb) (c0 := c0) (cap := cap) (cd := cd) (ou := ou) (Pk := PN) (Pr := fun h => Ty K h 1 a ∧ (K a).2.1 = (K a).2.1 ∧ BK D K h (LSe am ad ou) (K a).2.1 vb c0 cap cd) (Rl := RL D (LSe am ad ou) S2 (K a).2.1) (Φ := fun _ _ => True) (fun z => z.2.1 rfl) (fun _ _ _ q => ⟨q, trivial⟩) (fun _ _ _ _ _ q => q) (tc_look (by omega) (by omega) htr)) d_code_143 t_822 t_823 t_0 t_824 ⟨by decide, by decide, by decide +kernel⟩ rfl ⟨rfl, hT, ha, rfl, hbk, hou, ⟨ha, rfl, hbk⟩⟩ ⟨by show 34 + 1 + 1 ≤ R.frames; omega, by show 8 + (4 + 11) + (60 * 34 + 40) ≤ R.locals; omega⟩ (Nat.le_of_ble_eq_true rfl) ⟨by simp only [rmT]; omega, lk_cost (hBb.2.resolve_left hc0) (hF.resolve_left hc0) hq hN1 hrs⟩ (fun v143 h r143 => ?_) (fun x143 h r143 => by obtain ⟨K9, -, -, ⟨v9, e9⟩, -⟩ := r143; cases e9)
          obtain ⟨K2, hT2, ev, ⟨x143, e143⟩, ⟨v2, cap2, hbk2⟩, hou2, -⟩ := r143
          cases e143
          replace hQ := hQ.ev ev (xeB (fun z hz => hz.elim (fun w => by rw [w]; exact hbk.2.1) (fun w => by rw [w]; exact hou.2.1)))
          replace ev := xnd ev
          replace hLM := hLM.ev ev hLC.nXO
          replace hLC := hLC.ev ev hT2 ⟨v2, cap2, hbk2⟩ hou2
          refine g_istore cx (lv' := [(5, .int x143), (4, .int (nI (2 * N))), (3, .ref ou), (2, .ref am), (1, .ref a), (0, .ref b)]) d_code_146 (by decide) rfl ?_
          refine g_aload_n cx 3 d_code_148 rfl rfl ?_
          refine g_aload_n cx 5 d_code_149 rfl rfl ?_
          refine g_iload cx 1 d_code_150 rfl ?_
          refine g_iconst cx (v := 1) d_code_152 (by decide) ?_
          refine g_iadd cx d_code_153 ?_
          refine g_topi (fun m153 em153 => ?_)
          obtain rfl : m153 = nI (2 * N + 1) := em153.trans (nI_1 _)
          refine g_sld cx hX hbs hbz (j := 2 * N + 1) d_code_154 rfl (by omega) (by omega) ?_
          obtain ⟨x0, hMo, hMI0, hw0, htx0, hLk0, hLa0⟩ := id hLM
          obtain ⟨a5, r5, nm5, ld5, im5, kp5, mn5, hMI⟩ := id hMI0
          have hAd5 := hLC.2.2.2.2.1
          refine g_callV cx (As := [.int (xs (2 * N + 1))]) (n := 1) (mc_look Cl.stb hAd5 x0 (xs (2 * N + 1)) c0 hw0 hc30 a5 r5 nm5 ld5 im5 kp5 mn5 hMI) d_code_155 t_1070 t_1071 t_1072 t_9 t_1073 ⟨by decide, by decide, by decide +kernel⟩ rfl (ci := 9) rfl hMo.1 hMo.2.1 ⟨rfl, hMo⟩ ⟨by show 5 + 1 ≤ R.frames; omega, by show 8 + (5 + 11) + 60 * 5 ≤ R.locals; omega⟩ (Nat.le_of_ble_eq_true rfl) ⟨Nat.zero_le _, Nat.zero_le _⟩ (fun v155 h r155 => ?_) (fun x155 h r155 => by obtain ⟨r9, x9, e9, -⟩ := r155; cases e9)
          obtain ⟨r9155, x1, e9, hMo1, hSm, hrel⟩ := r155
          cases e9
          have hs9 := hLC.s9 hSm
          replace hLC := hLC.sm hSm
          replace hQ := hQ.sm hs9.1 hs9.2
          obtain ⟨⟨u155, rfl⟩, hx1, hx2⟩ := hrel
          replace hLM : LM D am ad h 0 0 nr nq cq gq na nz cz := ⟨x1, hMo1, hx1, hx2.1, fun j hj => absurd hj (Nat.not_lt_zero _), hLk0.z hx2, hLa0.kp hx2.2.2.2.2.1 hx2.2.2.2.2.2⟩
          refine g_istore cx (lv' := [(6, .int u155), (5, .int x143), (4, .int (nI (2 * N))), (3, .ref ou), (2, .ref am), (1, .ref a), (0, .ref b)]) d_code_158 (by decide) rfl ?_
          refine g_goto cx d_code_160 rfl ?_
          refine g_iinc cx 2 (lv' := [(4, .int (nI (2 * (N + 1)))), (6, .int u155), (5, .int x143), (3, .ref ou), (2, .ref am), (1, .ref a), (0, .ref b)]) d_code_314 rfl (inc2 N) (by decide) rfl ?_
          refine g_goto cx d_code_317 rfl ?_
          exact g_loc [0, 3, 4, 5, 6] rfl (ih (N + 1) (t + 2 * N + 2) 0 (B + 8) (T + 40) 0 _ _ _ _ _ _ _ _ _ _ _ K2 h _ _ (by omega) (by omega) (t_n ht) ⟨by omega, by omega⟩ (by omega) hLC hQ hLM (by first | (simp only [rmT, rmL, lookS]; omega) | omega) (by omega) (lk_cost2 (hBb.2.resolve_left hc0) (hF.resolve_left hc0) hq hN1 hrs))
      by_cases s3 : xk = 3
      · skip
        refine g_tableIn cx (off := 124) (tgt := 163) d_code_39 (by rw [s3]; decide +kernel) (by rw [s3]; decide +kernel) (by rw [s3]; decide +kernel) rfl ?_
        refine g_aload_n cx 3 d_code_163 rfl rfl ?_
        obtain ⟨hT, ha, ⟨vb, cap, hbk⟩, hou, hAd, hnm, hM9, hlrq⟩ := id hLC
        obtain ⟨la9, lr9, tr9, tn9, hed, -⟩ := TP.desk hT ha rfl
        refine g_callV cx (As := []) (n := 0) (pt_many (K := K) (B := B) (T := T)) d_code_164 t_219 t_220 t_221 t_1 t_222 ⟨by decide, by decide, by decide +kernel⟩ rfl (ci := 0) rfl ha.1 hed ⟨rfl, hT, ha⟩ ⟨by show 0 + 1 ≤ R.frames; omega, by show 8 + (1 + 11) + 60 * 0 ≤ R.locals; omega⟩ (Nat.le_of_ble_eq_true rfl) ⟨Nat.zero_le _, Nat.zero_le _⟩ (fun v164 h r164 => ?_) (fun x164 h r164 => by obtain ⟨-, v9, e9, -⟩ := r164; cases e9)
        obtain ⟨rfl, wo164, e164, r164⟩ := r164
        cases e164
        obtain ⟨x164, rfl⟩ := r164
        refine g_pop cx d_code_167 rfl ?_
        refine g_aload_n cx 2 d_code_168 rfl rfl ?_
        obtain ⟨x0, hMo, hMI0, hw0, htx0, hLk0, hLa0⟩ := id hLM
        obtain ⟨a5, r5, nm5, ld5, im5, kp5, mn5, hMI⟩ := id hMI0
        have hAd5 := hLC.2.2.2.2.1
        refine g_callV cx (As := []) (n := 0) (mc_many Cl.stb hAd5 x0) d_code_169 t_1125 t_1126 t_1127 t_9 t_1128 ⟨by decide, by decide, by decide +kernel⟩ rfl (ci := 9) rfl hMo.1 hMo.2.1 ⟨rfl, hMo⟩ ⟨by show 0 + 1 ≤ R.frames; omega, by show 8 + (1 + 11) + 60 * 0 ≤ R.locals; omega⟩ (Nat.le_of_ble_eq_true rfl) ⟨Nat.zero_le _, Nat.zero_le _⟩ (fun v169 h r169 => ?_) (fun x169 h r169 => by obtain ⟨r9, x9, e9, -⟩ := r169; cases e9)
        obtain ⟨r9169, x1, e9, hMo1, hSm, hrel⟩ := r169
        cases e9
        have hs9 := hLC.s9 hSm
        replace hLC := hLC.sm hSm
        replace hQ := hQ.sm hs9.1 hs9.2
        obtain ⟨rfl, hx1⟩ := hrel
        replace hLM : LM D am ad h c0 cd nr nq cq gq na nz cz := ⟨x1, hMo1, by rw [hx1]; exact mi_s0 hMI0, by rw [hx1]; exact hw0, by rw [hx1]; exact htx0, by rw [hx1]; exact LKx.kp hLk0 rfl rfl rfl, by rw [hx1]; exact LKa.kp hLa0 rfl rfl⟩
        refine g_topi (fun u169 eu169 => ?_)
        refine g_pop cx d_code_172 rfl ?_
        refine g_goto cx d_code_173 rfl ?_
        refine g_iinc cx 0 (lv' := [(4, .int (nI (2 * (N + 1)))), (3, .ref ou), (2, .ref am), (1, .ref a), (0, .ref b)]) d_code_314 rfl (inc2 N) (by decide) rfl ?_
        refine g_goto cx d_code_317 rfl ?_
        exact g_loc [0, 1, 2, 3, 4] rfl (ih (N + 1) (t + 2 * N + 2) c0 (B) (T) (F + 24) _ _ _ _ _ _ _ _ _ _ _ K h _ _ (by omega) (by omega) (t_n ht) ⟨by omega, by omega⟩ (by omega) hLC hQ hLM (by first | (simp only [rmT, rmL, lookS]; omega) | omega) (by omega) (by first | (simp only [rmT, rmL, lookS]; omega) | omega))
      by_cases s4 : xk = 4
      · skip
        refine g_tableIn cx (off := 137) (tgt := 176) d_code_39 (by rw [s4]; decide +kernel) (by rw [s4]; decide +kernel) (by rw [s4]; decide +kernel) rfl ?_
        refine g_aload_n cx 3 d_code_176 rfl rfl ?_
        refine g_aload_n cx 4 d_code_177 rfl rfl ?_
        refine g_iload cx 0 d_code_178 rfl ?_
        refine g_iconst cx (v := 1) d_code_180 (by decide) ?_
        refine g_iadd cx d_code_181 ?_
        refine g_topi (fun m181 em181 => ?_)
        obtain rfl : m181 = nI (2 * N + 1) := em181.trans (nI_1 _)
        refine g_sld cx hX hbs hbz (j := 2 * N + 1) d_code_182 rfl (by omega) (by omega) ?_
        obtain ⟨hT, ha, ⟨vb, cap, hbk⟩, hou, hAd, hnm, hM9, hlrq⟩ := id hLC
        obtain ⟨la9, lr9, tr9, tn9, hed, -⟩ := TP.desk hT ha rfl
        refine g_callV cx (As := [.int (xs (2 * N + 1))]) (n := 1) (pt_asked (K := K) (B := B) (T := T) (v0 := xs (2 * N + 1))) d_code_183 t_223 t_224 t_225 t_1 t_226 ⟨by decide, by decide, by decide +kernel⟩ rfl (ci := 0) rfl ha.1 hed ⟨rfl, hT, ha⟩ ⟨by show 0 + 1 ≤ R.frames; omega, by show 8 + (2 + 11) + 60 * 0 ≤ R.locals; omega⟩ (Nat.le_of_ble_eq_true rfl) ⟨Nat.zero_le _, Nat.zero_le _⟩ (fun v183 h r183 => ?_) (fun x183 h r183 => by obtain ⟨-, v9, e9, -⟩ := r183; cases e9)
        obtain ⟨rfl, wo183, e183, r183⟩ := r183
        cases e183
        obtain ⟨x183, rfl⟩ := r183
        refine g_pop cx d_code_186 rfl ?_
        refine g_aload_n cx 2 d_code_187 rfl rfl ?_
        refine g_aload_n cx 4 d_code_188 rfl rfl ?_
        refine g_iload cx 0 d_code_189 rfl ?_
        refine g_iconst cx (v := 1) d_code_191 (by decide) ?_
        refine g_iadd cx d_code_192 ?_
        refine g_topi (fun m192 em192 => ?_)
        obtain rfl : m192 = nI (2 * N + 1) := em192.trans (nI_1 _)
        refine g_sld cx hX hbs hbz (j := 2 * N + 1) d_code_193 rfl (by omega) (by omega) ?_
        obtain ⟨x0, hMo, hMI0, hw0, htx0, hLk0, hLa0⟩ := id hLM
        obtain ⟨a5, r5, nm5, ld5, im5, kp5, mn5, hMI⟩ := id hMI0
        have hAd5 := hLC.2.2.2.2.1
        refine g_callV cx (As := [.int (xs (2 * N + 1))]) (n := 1) (mc_asked Cl.stb hAd5 x0 (xs (2 * N + 1))) d_code_194 t_1129 t_1130 t_1131 t_9 t_1132 ⟨by decide, by decide, by decide +kernel⟩ rfl (ci := 9) rfl hMo.1 hMo.2.1 ⟨rfl, hMo⟩ ⟨by show 0 + 1 ≤ R.frames; omega, by show 8 + (2 + 11) + 60 * 0 ≤ R.locals; omega⟩ (Nat.le_of_ble_eq_true rfl) ⟨Nat.zero_le _, Nat.zero_le _⟩ (fun v194 h r194 => ?_) (fun x194 h r194 => by obtain ⟨r9, x9, e9, -⟩ := r194; cases e9)
        obtain ⟨r9194, x1, e9, hMo1, hSm, hrel⟩ := r194
        cases e9
        have hs9 := hLC.s9 hSm
        replace hLC := hLC.sm hSm
        replace hQ := hQ.sm hs9.1 hs9.2
        obtain ⟨⟨u194, rfl⟩, hx1⟩ := hrel
        replace hLM : LM D am ad h c0 cd nr nq cq gq na nz cz := ⟨x1, hMo1, by rw [hx1]; exact mi_s0 hMI0, by rw [hx1]; exact hw0, by rw [hx1]; exact htx0, by rw [hx1]; exact LKx.kp hLk0 rfl rfl rfl, by rw [hx1]; exact LKa.kp hLa0 rfl rfl⟩
        refine g_pop cx d_code_197 rfl ?_
        refine g_goto cx d_code_198 rfl ?_
        refine g_iinc cx 0 (lv' := [(4, .int (nI (2 * (N + 1)))), (3, .ref ou), (2, .ref am), (1, .ref a), (0, .ref b)]) d_code_314 rfl (inc2 N) (by decide) rfl ?_
        refine g_goto cx d_code_317 rfl ?_
        exact g_loc [0, 1, 2, 3, 4] rfl (ih (N + 1) (t + 2 * N + 2) c0 (B) (T) (F + 24) _ _ _ _ _ _ _ _ _ _ _ K h _ _ (by omega) (by omega) (t_n ht) ⟨by omega, by omega⟩ (by omega) hLC hQ hLM (by first | (simp only [rmT, rmL, lookS]; omega) | omega) (by omega) (by first | (simp only [rmT, rmL, lookS]; omega) | omega))
      by_cases s5 : xk = 5
      · skip
        refine g_tableIn cx (off := 162) (tgt := 201) d_code_39 (by rw [s5]; decide +kernel) (by rw [s5]; decide +kernel) (by rw [s5]; decide +kernel) rfl ?_
        refine g_aload_n cx 3 d_code_201 rfl rfl ?_
        refine g_aload_n cx 4 d_code_202 rfl rfl ?_
        refine g_iload cx 0 d_code_203 rfl ?_
        refine g_iconst cx (v := 1) d_code_205 (by decide) ?_
        refine g_iadd cx d_code_206 ?_
        refine g_topi (fun m206 em206 => ?_)
        obtain rfl : m206 = nI (2 * N + 1) := em206.trans (nI_1 _)
        refine g_sld cx hX hbs hbz (j := 2 * N + 1) d_code_207 rfl (by omega) (by omega) ?_
        obtain ⟨hT, ha, ⟨vb, cap, hbk⟩, hou, hAd, hnm, hM9, hlrq⟩ := id hLC
        obtain ⟨la9, lr9, tr9, tn9, hed, -⟩ := TP.desk hT ha rfl
        refine g_callV cx (As := [.int (xs (2 * N + 1))]) (n := 1) (pt_keptN (K := K) (B := B) (T := T) (v0 := xs (2 * N + 1)) (by omega)) d_code_208 t_227 t_228 t_229 t_1 t_230 ⟨by decide, by decide, by decide +kernel⟩ rfl (ci := 0) rfl ha.1 hed ⟨rfl, hT, ha⟩ ⟨by show 7 + 1 ≤ R.frames; omega, by show 8 + (2 + 11) + 60 * 7 ≤ R.locals; omega⟩ (Nat.le_of_ble_eq_true rfl) ⟨Nat.zero_le _, Nat.zero_le _⟩ (fun v208 h r208 => ?_) (fun x208 h r208 => by obtain ⟨-, v9, e9, -⟩ := r208; cases e9)
        obtain ⟨rfl, wo208, e208, r208⟩ := r208
        cases e208
        obtain ⟨x208, rfl⟩ := r208
        refine g_pop cx d_code_211 rfl ?_
        refine g_aload_n cx 2 d_code_212 rfl rfl ?_
        refine g_aload_n cx 4 d_code_213 rfl rfl ?_
        refine g_iload cx 0 d_code_214 rfl ?_
        refine g_iconst cx (v := 1) d_code_216 (by decide) ?_
        refine g_iadd cx d_code_217 ?_
        refine g_topi (fun m217 em217 => ?_)
        obtain rfl : m217 = nI (2 * N + 1) := em217.trans (nI_1 _)
        refine g_sld cx hX hbs hbz (j := 2 * N + 1) d_code_218 rfl (by omega) (by omega) ?_
        obtain ⟨x0, hMo, hMI0, hw0, htx0, hLk0, hLa0⟩ := id hLM
        obtain ⟨a5, r5, nm5, ld5, im5, kp5, mn5, hMI⟩ := id hMI0
        have hAd5 := hLC.2.2.2.2.1
        refine g_callV cx (As := [.int (xs (2 * N + 1))]) (n := 1) (mc_kept Cl.stb hAd5 x0 (xs (2 * N + 1)) r5 hMI.2.1.1 hMI.2.1.2) d_code_219 t_1133 t_1134 t_1135 t_9 t_1136 ⟨by decide, by decide, by decide +kernel⟩ rfl (ci := 9) rfl hMo.1 hMo.2.1 ⟨rfl, hMo⟩ ⟨by show 1 + 1 ≤ R.frames; omega, by show 8 + (2 + 11) + 60 * 1 ≤ R.locals; omega⟩ (Nat.le_of_ble_eq_true rfl) ⟨Nat.zero_le _, Nat.zero_le _⟩ (fun v219 h r219 => ?_) (fun x219 h r219 => by obtain ⟨r9, x9, e9, -⟩ := r219; cases e9)
        obtain ⟨r9219, x1, e9, hMo1, hSm, hrel⟩ := r219
        cases e9
        have hs9 := hLC.s9 hSm
        replace hLC := hLC.sm hSm
        replace hQ := hQ.sm hs9.1 hs9.2
        obtain ⟨⟨u219, rfl⟩, hx1⟩ := hrel
        replace hLM : LM D am ad h c0 cd nr nq cq gq na nz cz := ⟨x1, hMo1, by rw [hx1]; exact mi_s0 hMI0, by rw [hx1]; exact hw0, by rw [hx1]; exact htx0, by rw [hx1]; exact LKx.kp hLk0 rfl rfl rfl, by rw [hx1]; exact LKa.kp hLa0 rfl rfl⟩
        refine g_pop cx d_code_222 rfl ?_
        refine g_goto cx d_code_223 rfl ?_
        refine g_iinc cx 0 (lv' := [(4, .int (nI (2 * (N + 1)))), (3, .ref ou), (2, .ref am), (1, .ref a), (0, .ref b)]) d_code_314 rfl (inc2 N) (by decide) rfl ?_
        refine g_goto cx d_code_317 rfl ?_
        exact g_loc [0, 1, 2, 3, 4] rfl (ih (N + 1) (t + 2 * N + 2) c0 (B) (T) (F + 24) _ _ _ _ _ _ _ _ _ _ _ K h _ _ (by omega) (by omega) (t_n ht) ⟨by omega, by omega⟩ (by omega) hLC hQ hLM (by first | (simp only [rmT, rmL, lookS]; omega) | omega) (by omega) (by first | (simp only [rmT, rmL, lookS]; omega) | omega))
      by_cases s6 : xk = 6
      · skip
        refine g_tableIn cx (off := 187) (tgt := 226) d_code_39 (by rw [s6]; decide +kernel) (by rw [s6]; decide +kernel) (by rw [s6]; decide +kernel) rfl ?_
        refine g_aload_n cx 3 d_code_226 rfl rfl ?_
        refine g_aload_n cx 4 d_code_227 rfl rfl ?_
        refine g_iload cx 0 d_code_228 rfl ?_
        refine g_iconst cx (v := 1) d_code_230 (by decide) ?_
        refine g_iadd cx d_code_231 ?_
        refine g_topi (fun m231 em231 => ?_)
        obtain rfl : m231 = nI (2 * N + 1) := em231.trans (nI_1 _)
        refine g_sld cx hX hbs hbz (j := 2 * N + 1) d_code_232 rfl (by omega) (by omega) ?_
        obtain ⟨hT, ha, ⟨vb, cap, hbk⟩, hou, hAd, hnm, hM9, hlrq⟩ := id hLC
        obtain ⟨la9, lr9, tr9, tn9, hed, -⟩ := TP.desk hT ha rfl
        refine g_callV cx (As := [.int (xs (2 * N + 1))]) (n := 1) (pt_used (K := K) (B := B) (T := T) (v0 := xs (2 * N + 1)) (by omega)) d_code_233 t_252 t_253 t_254 t_1 t_255 ⟨by decide, by decide, by decide +kernel⟩ rfl (ci := 0) rfl ha.1 hed ⟨rfl, hT, ha⟩ ⟨by show 6 + 1 ≤ R.frames; omega, by show 8 + (2 + 11) + 60 * 6 ≤ R.locals; omega⟩ (Nat.le_of_ble_eq_true rfl) ⟨Nat.zero_le _, Nat.zero_le _⟩ (fun v233 h r233 => ?_) (fun x233 h r233 => by obtain ⟨-, v9, e9, -⟩ := r233; cases e9)
        obtain ⟨rfl, wo233, e233, r233⟩ := r233
        cases e233
        obtain ⟨x233, rfl⟩ := r233
        refine g_pop cx d_code_236 rfl ?_
        refine g_aload_n cx 2 d_code_237 rfl rfl ?_
        refine g_aload_n cx 4 d_code_238 rfl rfl ?_
        refine g_iload cx 0 d_code_239 rfl ?_
        refine g_iconst cx (v := 1) d_code_241 (by decide) ?_
        refine g_iadd cx d_code_242 ?_
        refine g_topi (fun m242 em242 => ?_)
        obtain rfl : m242 = nI (2 * N + 1) := em242.trans (nI_1 _)
        refine g_sld cx hX hbs hbz (j := 2 * N + 1) d_code_243 rfl (by omega) (by omega) ?_
        obtain ⟨x0, hMo, hMI0, hw0, htx0, hLk0, hLa0⟩ := id hLM
        obtain ⟨a5, r5, nm5, ld5, im5, kp5, mn5, hMI⟩ := id hMI0
        have hAd5 := hLC.2.2.2.2.1
        refine g_callV cx (As := [.int (xs (2 * N + 1))]) (n := 1) (mc_used Cl.stb hAd5 x0 (xs (2 * N + 1)) a5 hMI.1.1 hMI.1.2) d_code_244 t_1141 t_1142 t_1143 t_9 t_1144 ⟨by decide, by decide, by decide +kernel⟩ rfl (ci := 9) rfl hMo.1 hMo.2.1 ⟨rfl, hMo⟩ ⟨by show 0 + 1 ≤ R.frames; omega, by show 8 + (2 + 11) + 60 * 0 ≤ R.locals; omega⟩ (Nat.le_of_ble_eq_true rfl) ⟨Nat.zero_le _, Nat.zero_le _⟩ (fun v244 h r244 => ?_) (fun x244 h r244 => by obtain ⟨r9, x9, e9, -⟩ := r244; cases e9)
        obtain ⟨r9244, x1, e9, hMo1, hSm, hrel⟩ := r244
        cases e9
        have hs9 := hLC.s9 hSm
        replace hLC := hLC.sm hSm
        replace hQ := hQ.sm hs9.1 hs9.2
        obtain ⟨⟨u244, rfl⟩, hx1⟩ := hrel
        replace hLM : LM D am ad h c0 cd nr nq cq gq na nz cz := ⟨x1, hMo1, by rw [hx1]; exact mi_s0 hMI0, by rw [hx1]; exact hw0, by rw [hx1]; exact htx0, by rw [hx1]; exact LKx.kp hLk0 rfl rfl rfl, by rw [hx1]; exact LKa.kp hLa0 rfl rfl⟩
        refine g_pop cx d_code_247 rfl ?_
        refine g_goto cx d_code_248 rfl ?_
        refine g_iinc cx 0 (lv' := [(4, .int (nI (2 * (N + 1)))), (3, .ref ou), (2, .ref am), (1, .ref a), (0, .ref b)]) d_code_314 rfl (inc2 N) (by decide) rfl ?_
        refine g_goto cx d_code_317 rfl ?_
        exact g_loc [0, 1, 2, 3, 4] rfl (ih (N + 1) (t + 2 * N + 2) c0 (B) (T) (F + 24) _ _ _ _ _ _ _ _ _ _ _ K h _ _ (by omega) (by omega) (t_n ht) ⟨by omega, by omega⟩ (by omega) hLC hQ hLM (by first | (simp only [rmT, rmL, lookS]; omega) | omega) (by omega) (by first | (simp only [rmT, rmL, lookS]; omega) | omega))
      by_cases s7 : xk = 7
      · skip
        refine g_tableIn cx (off := 212) (tgt := 251) d_code_39 (by rw [s7]; decide +kernel) (by rw [s7]; decide +kernel) (by rw [s7]; decide +kernel) rfl ?_
        refine g_aload_n cx 3 d_code_251 rfl rfl ?_
        refine g_aload_n cx 4 d_code_252 rfl rfl ?_
        refine g_iload cx 0 d_code_253 rfl ?_
        refine g_iconst cx (v := 1) d_code_255 (by decide) ?_
        refine g_iadd cx d_code_256 ?_
        refine g_topi (fun m256 em256 => ?_)
        obtain rfl : m256 = nI (2 * N + 1) := em256.trans (nI_1 _)
        refine g_sld cx hX hbs hbz (j := 2 * N + 1) d_code_257 rfl (by omega) (by omega) ?_
        obtain ⟨hT, ha, ⟨vb, cap, hbk⟩, hou, hAd, hnm, hM9, hlrq⟩ := id hLC
        obtain ⟨la9, lr9, tr9, tn9, hed, -⟩ := TP.desk hT ha rfl
        refine g_callV cx (As := [.int (xs (2 * N + 1))]) (n := 1) (tc_dropF (K := K) (B := B) (T := T) (v0 := xs (2 * N + 1)) (lr := lr) (nr := nr) (rz := rz) (nq := nq) (cq := cq) (gq := gq) (by omega)) d_code_258 t_257 t_258 t_259 t_1 t_260 ⟨by decide, by decide, by decide +kernel⟩ rfl (ci := 0) rfl ha.1 hed ⟨rfl, hT, ha, hlrq, hQ.1⟩ ⟨by show 7 + 1 ≤ R.frames; omega, by show 8 + (2 + 11) + 60 * 7 ≤ R.locals; omega⟩ (Nat.le_of_ble_eq_true rfl) ⟨Nat.zero_le _, Nat.zero_le _⟩ (fun v258 h r258 => ?_) (fun x258 h r258 => by rcases r258 with ⟨j9, e9, -, -, -, z9, -⟩ | ⟨-, z9, -⟩ <;> cases z9)
        obtain ⟨K2, gq2, x258, e258, hLC, hLM, hQ, hans⟩ : ∃ (K2 : KM) (gq2 : Nat → Nat) (x : Int32), v258 = some (.int x) ∧ LC D z0 k a am ou ad K2 B T h c0 cd lr ∧ LM D am ad h c0 cd nr nq cq gq na nz cz ∧ BQ D k K2 h lr nr rz nq cq gq2 na az nz cz ∧ ((x = 1 ∧ ∃ j, j < nr ∧ xs (2 * N + 1) = nI j ∧ gq j = 0 ∧ gq2 = va_up gq j 1) ∨ (x = 0 ∧ (∀ t, t < nr → xs (2 * N + 1) = nI t → ¬ gq t = 0) ∧ gq2 = gq)) := by
          rcases r258 with ⟨j, e9, hj, hv, hg, z9, hh, hT2⟩ | ⟨hh, z9, hno⟩
          · cases z9
            subst hh
            exact ⟨_, va_up gq j 1, 1, rfl, hLC.dr (hQ.1.2.1 j hj).1 hT2, hLM.hp rfl (fun z hz => va_up_ne _ _ (fun x => by have h9 := hM9 z hz; rw [x, (hQ.1.2.1 j hj).1.2] at h9; exact absurd h9 (by decide))), hQ.drop hj, Or.inl ⟨rfl, j, hj, hv, hg, rfl⟩⟩
          · cases z9
            subst hh
            exact ⟨K, gq, 0, rfl, hLC, hLM, hQ, Or.inr ⟨rfl, hno, rfl⟩⟩
        subst e258
        refine g_pop cx d_code_261 rfl ?_
        refine g_aload_n cx 2 d_code_262 rfl rfl ?_
        refine g_aload_n cx 4 d_code_263 rfl rfl ?_
        refine g_iload cx 0 d_code_264 rfl ?_
        refine g_iconst cx (v := 1) d_code_266 (by decide) ?_
        refine g_iadd cx d_code_267 ?_
        refine g_topi (fun m267 em267 => ?_)
        obtain rfl : m267 = nI (2 * N + 1) := em267.trans (nI_1 _)
        refine g_sld cx hX hbs hbz (j := 2 * N + 1) d_code_268 rfl (by omega) (by omega) ?_
        obtain ⟨x0, hMo, hMI0, hw0, htx0, hLk0, hLa0⟩ := id hLM
        obtain ⟨a5, r5, nm5, ld5, im5, kp5, mn5, hMI⟩ := id hMI0
        have hAd5 := hLC.2.2.2.2.1
        refine g_callV cx (As := [.int (xs (2 * N + 1))]) (n := 1) (mc_dropF Cl.stb hAd5 x0 (xs (2 * N + 1)) nr hLk0.2.1 hLk0.1) d_code_269 t_1145 t_1146 t_1147 t_9 t_1148 ⟨by decide, by decide, by decide +kernel⟩ rfl (ci := 9) rfl hMo.1 hMo.2.1 ⟨rfl, hMo⟩ ⟨by show 1 + 1 ≤ R.frames; omega, by show 8 + (2 + 11) + 60 * 1 ≤ R.locals; omega⟩ (Nat.le_of_ble_eq_true rfl) ⟨Nat.zero_le _, Nat.zero_le _⟩ (fun v269 h r269 => ?_) (fun x269 h r269 => by obtain ⟨r9, x9, e9, -⟩ := r269; cases e9)
        obtain ⟨r9269, x1, e9, hMo1, hSm, hrel⟩ := r269
        cases e9
        have hs9 := hLC.s9 hSm
        replace hLC := hLC.sm hSm
        replace hQ := hQ.sm hs9.1 hs9.2
        
        obtain ⟨u269, rfl, hue, hLM⟩ : ∃ u : Int32, v269 = some (.int u) ∧ x258 = u ∧ LM D am ad h c0 cd nr nq cq gq2 na nz cz := by
          rcases hrel with ⟨g1, j, hj, hv, h22, hx1⟩ | ⟨g1, hno, hx1⟩
          · rcases hans with ⟨w1, i, hi, hiv, hig, hgq⟩ | ⟨w1, w2, hgq⟩
            · have e9 : j = i := (nI_eq (by have := hLk0.1; omega) (by have := hLk0.1; omega)).mp (hv.symm.trans hiv)
              rw [e9] at hx1
              refine ⟨1, g1, w1, x1, hMo1, by rw [hx1]; exact mi_dr hMI0, by rw [hx1]; exact hw0, by rw [hx1]; exact htx0, ?_, by rw [hx1]; exact LKa.kp hLa0 rfl rfl⟩
              rw [hx1, hgq]
              exact hLk0.drop hi
            · exact absurd ((hLk0.g hj).mp h22) (w2 j hj hv)
          · rcases hans with ⟨w1, i, hi, hiv, hig, hgq⟩ | ⟨w1, w2, hgq⟩
            · exact absurd ((hLk0.g hi).mpr hig) (hno i hi hiv)
            · refine ⟨0, g1, w1, x1, hMo1, by rw [hx1]; exact mi_s0 hMI0, by rw [hx1]; exact hw0, by rw [hx1]; exact htx0, ?_, by rw [hx1]; exact LKa.kp hLa0 rfl rfl⟩
              rw [hx1, hgq]
              exact LKx.kp hLk0 rfl rfl rfl
        clear hans hrel
        refine g_pop cx d_code_272 rfl ?_
        refine g_goto cx d_code_273 rfl ?_
        refine g_iinc cx 0 (lv' := [(4, .int (nI (2 * (N + 1)))), (3, .ref ou), (2, .ref am), (1, .ref a), (0, .ref b)]) d_code_314 rfl (inc2 N) (by decide) rfl ?_
        refine g_goto cx d_code_317 rfl ?_
        exact g_loc [0, 1, 2, 3, 4] rfl (ih (N + 1) (t + 2 * N + 2) c0 (B) (T) (F + 24) _ _ _ _ _ _ _ _ _ _ _ K2 h _ _ (by omega) (by omega) (t_n ht) ⟨by omega, by omega⟩ (by omega) hLC hQ hLM (by first | (simp only [rmT, rmL, lookS]; omega) | omega) (by omega) (by first | (simp only [rmT, rmL, lookS]; omega) | omega))
      by_cases s8 : xk = 8
      · skip
        refine g_tableIn cx (off := 237) (tgt := 276) d_code_39 (by rw [s8]; decide +kernel) (by rw [s8]; decide +kernel) (by rw [s8]; decide +kernel) rfl ?_
        refine g_aload_n cx 3 d_code_276 rfl rfl ?_
        obtain ⟨hT, ha, ⟨vb, cap, hbk⟩, hou, hAd, hnm, hM9, hlrq⟩ := id hLC
        obtain ⟨la9, lr9, tr9, tn9, hed, -⟩ := TP.desk hT ha rfl
        refine g_callV cx (As := []) (n := 0) (tc_realmQ (K := K) (B := B) (T := T) (S := LSe am ad ou) (ab := (K a).2.1) (v := vb) (c0 := c0) (cap := cap) (cd := cd) (by omega)) d_code_277 t_261 t_262 t_263 t_1 t_264 ⟨by decide, by decide, by decide +kernel⟩ rfl (ci := 0) rfl ha.1 hed ⟨rfl, hT, ha, rfl, hbk⟩ ⟨by show 12 + 1 ≤ R.frames; omega, by show 8 + (2 + 11) + 60 * 12 ≤ R.locals; omega⟩ (Nat.le_of_ble_eq_true rfl) ⟨by simp only [rmT, lookS]; omega, by simp only [rmT, lookS]; omega⟩ (fun v277 h r277 => ?_) (fun x277 h r277 => by obtain ⟨K9, -, -, ⟨v9, e9⟩, -⟩ := r277; cases e9)
        obtain ⟨K2, hT2, ev, ⟨x277, e277⟩, v2, cap2, hbk2⟩ := r277
        cases e277
        replace hQ := hQ.ev ev (xeB (fun z hz => by rw [hz]; exact hbk.2.1))
        replace ev := xnd ev
        replace hLM := hLM.ev ev (fun z hz => hLC.nX z (Or.inl hz))
        replace hLC := hLC.ev ev hT2 ⟨v2, cap2, hbk2⟩ (by obtain ⟨f, hf⟩ := hou.2.2; exact ⟨f, ((ev.1 ou (hbk.2.2.2.1 ou (Or.inr rfl))).2.2 (hLC.nX ou (Or.inr rfl))).2.trans hf⟩)
        refine g_pop cx d_code_280 rfl ?_
        refine g_aload_n cx 2 d_code_281 rfl rfl ?_
        obtain ⟨x0, hMo, hMI0, hw0, htx0, hLk0, hLa0⟩ := id hLM
        obtain ⟨a5, r5, nm5, ld5, im5, kp5, mn5, hMI⟩ := id hMI0
        have hAd5 := hLC.2.2.2.2.1
        refine g_callV cx (As := []) (n := 0) (mc_realm Cl.stb hAd5 x0 c0 hw0 hc30 a5 r5 nm5 ld5 im5 kp5 mn5 hMI) d_code_282 t_1149 t_1150 t_1151 t_9 t_1152 ⟨by decide, by decide, by decide +kernel⟩ rfl (ci := 9) rfl hMo.1 hMo.2.1 ⟨rfl, hMo⟩ ⟨by show 3 + 1 ≤ R.frames; omega, by show 8 + (2 + 11) + 60 * 3 ≤ R.locals; omega⟩ (Nat.le_of_ble_eq_true rfl) ⟨Nat.zero_le _, Nat.zero_le _⟩ (fun v282 h r282 => ?_) (fun x282 h r282 => by obtain ⟨r9, x9, e9, -⟩ := r282; cases e9)
        obtain ⟨r9282, x1, e9, hMo1, hSm, hrel⟩ := r282
        cases e9
        have hs9 := hLC.s9 hSm
        replace hLC := hLC.sm hSm
        replace hQ := hQ.sm hs9.1 hs9.2
        obtain ⟨⟨u282, rfl⟩, hx1, hx2⟩ := hrel
        replace hLM : LM D am ad h 0 0 nr nq cq gq na nz cz := ⟨x1, hMo1, hx1, hx2.1, fun j hj => absurd hj (Nat.not_lt_zero _), hLk0.z hx2, hLa0.kp hx2.2.2.2.2.1 hx2.2.2.2.2.2⟩
        refine g_pop cx d_code_285 rfl ?_
        refine g_goto cx d_code_286 rfl ?_
        refine g_iinc cx 0 (lv' := [(4, .int (nI (2 * (N + 1)))), (3, .ref ou), (2, .ref am), (1, .ref a), (0, .ref b)]) d_code_314 rfl (inc2 N) (by decide) rfl ?_
        refine g_goto cx d_code_317 rfl ?_
        exact g_loc [0, 1, 2, 3, 4] rfl (ih (N + 1) (t + 2 * N + 2) 0 (B) (T) 0 _ _ _ _ _ _ _ _ _ _ _ K2 h _ _ (by omega) (by omega) (t_n ht) ⟨by omega, by omega⟩ (by omega) hLC hQ hLM (by first | (simp only [rmT, rmL, lookS]; omega) | omega) (by omega) (by first | (simp only [rmT, rmL, lookS]; omega) | omega))
      by_cases s9 : xk = 9
      · skip
        refine g_tableIn cx (off := 250) (tgt := 289) d_code_39 (by rw [s9]; decide +kernel) (by rw [s9]; decide +kernel) (by rw [s9]; decide +kernel) rfl ?_
        refine g_aload_n cx 3 d_code_289 rfl rfl ?_
        refine g_aload_n cx 4 d_code_290 rfl rfl ?_
        refine g_iload cx 0 d_code_291 rfl ?_
        refine g_iconst cx (v := 1) d_code_293 (by decide) ?_
        refine g_iadd cx d_code_294 ?_
        refine g_topi (fun m294 em294 => ?_)
        obtain rfl : m294 = nI (2 * N + 1) := em294.trans (nI_1 _)
        refine g_sld cx hX hbs hbz (j := 2 * N + 1) d_code_295 rfl (by omega) (by omega) ?_
        obtain ⟨hT, ha, ⟨vb, cap, hbk⟩, hou, hAd, hnm, hM9, hlrq⟩ := id hLC
        obtain ⟨la9, lr9, tr9, tn9, hed, -⟩ := TP.desk hT ha rfl
        refine g_callV cx (As := [.int (xs (2 * N + 1))]) (n := 1) (pt_countF (K := K) (B := B) (T := T) (v0 := xs (2 * N + 1)) (lr := lr) (nr := nr) (rz := rz) (nq := nq) (cq := cq) (gq := gq) (na := na) (az := az) (nz := nz) (cz := cz) (by omega)) d_code_296 t_499 t_500 t_501 t_1 t_502 ⟨by decide, by decide, by decide +kernel⟩ rfl (ci := 0) rfl ha.1 hed ⟨rfl, hT, ha, hlrq, hQ⟩ ⟨by show 7 + 1 ≤ R.frames; omega, by show 8 + (2 + 11) + 60 * 7 ≤ R.locals; omega⟩ (Nat.le_of_ble_eq_true rfl) ⟨Nat.zero_le _, Nat.zero_le _⟩ (fun v296 h r296 => ?_) (fun x296 h r296 => by obtain ⟨-, v9, e9, -⟩ := r296; cases e9)
        obtain ⟨rfl, wo296, e296, r296⟩ := r296
        cases e296
        obtain ⟨xct, rfl, hct⟩ := r296
        refine g_aload_n cx 2 d_code_299 rfl rfl ?_
        refine g_aload_n cx 4 d_code_300 rfl rfl ?_
        refine g_iload cx 0 d_code_301 rfl ?_
        refine g_iconst cx (v := 1) d_code_303 (by decide) ?_
        refine g_iadd cx d_code_304 ?_
        refine g_topi (fun m304 em304 => ?_)
        obtain rfl : m304 = nI (2 * N + 1) := em304.trans (nI_1 _)
        refine g_sld cx hX hbs hbz (j := 2 * N + 1) d_code_305 rfl (by omega) (by omega) ?_
        obtain ⟨x0, hMo, hMI0, hw0, htx0, hLk0, hLa0⟩ := id hLM
        obtain ⟨a5, r5, nm5, ld5, im5, kp5, mn5, hMI⟩ := id hMI0
        have hAd5 := hLC.2.2.2.2.1
        refine g_callV cx (As := [.int (xs (2 * N + 1))]) (n := 1) (mc_countF Cl.stb hAd5 x0 (xs (2 * N + 1)) nr hLk0.2.1 hLk0.1 gq (fun j hj => hLk0.g hj)) d_code_306 t_1153 t_1154 t_1155 t_9 t_1156 ⟨by decide, by decide, by decide +kernel⟩ rfl (ci := 9) rfl hMo.1 hMo.2.1 ⟨rfl, hMo⟩ ⟨by show 0 + 1 ≤ R.frames; omega, by show 8 + (4 + 11) + 60 * 0 ≤ R.locals; omega⟩ (Nat.le_of_ble_eq_true rfl) ⟨Nat.zero_le _, Nat.zero_le _⟩ (fun v306 h r306 => ?_) (fun x306 h r306 => by obtain ⟨r9, x9, e9, -⟩ := r306; cases e9)
        obtain ⟨r9306, x1, e9, hMo1, hSm, hrel⟩ := r306
        cases e9
        have hs9 := hLC.s9 hSm
        replace hLC := hLC.sm hSm
        replace hQ := hQ.sm hs9.1 hs9.2
        
        obtain ⟨⟨u306, rfl, hcu⟩, hx1⟩ := hrel
        replace hLM : LM D am ad h c0 cd nr nq cq gq na nz cz := ⟨x1, hMo1, by rw [hx1]; exact mi_s0 hMI0, by rw [hx1]; exact hw0, by rw [hx1]; exact htx0, by rw [hx1]; exact LKx.kp hLk0 rfl rfl rfl, by rw [hx1]; exact LKa.kp hLa0 rfl rfl⟩
        have hue : xct = u306 := by
          rcases hct with ⟨z1, z2⟩ | ⟨z1, z2⟩ | ⟨z1, z2⟩ | ⟨z1, z2, z3, z4⟩
          · rcases hcu with ⟨w1, w2⟩ | ⟨w1, w2⟩ | ⟨w1, w2⟩ | ⟨w1, w2, w3, w4⟩
            · rw [z2, w2, hLa0.2.1]
            · exact absurd (z1.symm.trans w1) (by decide)
            · exact absurd (z1.symm.trans w1) (by decide)
            · exact absurd z1 w1
          · rcases hcu with ⟨w1, w2⟩ | ⟨w1, w2⟩ | ⟨w1, w2⟩ | ⟨w1, w2, w3, w4⟩
            · exact absurd (z1.symm.trans w1) (by decide)
            · rw [z2, w2, hLk0.2.1]
            · exact absurd (z1.symm.trans w1) (by decide)
            · exact absurd z1 w2
          · rcases hcu with ⟨w1, w2⟩ | ⟨w1, w2⟩ | ⟨w1, w2⟩ | ⟨w1, w2, w3, w4⟩
            · exact absurd (z1.symm.trans w1) (by decide)
            · exact absurd (z1.symm.trans w1) (by decide)
            · rw [z2, w2]
            · exact absurd z1 w3
          · rcases hcu with ⟨w1, w2⟩ | ⟨w1, w2⟩ | ⟨w1, w2⟩ | ⟨w1, w2, w3, w4⟩
            · exact absurd w1 z1
            · exact absurd w1 z2
            · exact absurd w1 z3
            · rw [z4, w4]
        clear hct hcu
        refine g_icmp_eq cx d_code_309 rfl (fun c309 => ?_) (fun c309 => absurd hue c309)
        refine g_iinc cx 0 (lv' := [(4, .int (nI (2 * (N + 1)))), (3, .ref ou), (2, .ref am), (1, .ref a), (0, .ref b)]) d_code_314 rfl (inc2 N) (by decide) rfl ?_
        refine g_goto cx d_code_317 rfl ?_
        exact g_loc [0, 1, 2, 3, 4] rfl (ih (N + 1) (t + 2 * N + 2) c0 (B) (T) (F + 24) _ _ _ _ _ _ _ _ _ _ _ K h _ _ (by omega) (by omega) (t_n ht) ⟨by omega, by omega⟩ (by omega) hLC hQ hLM (by first | (simp only [rmT, rmL, lookS]; omega) | omega) (by omega) (by first | (simp only [rmT, rmL, lookS]; omega) | omega))
      refine g_tableOut cx (tgt := 314) d_code_39 (sw10 s0 s1 s2 s3 s4 s5 s6 s7 s8 s9) rfl ?_
      refine g_iinc cx 0 (lv' := [(4, .int (nI (2 * (N + 1)))), (3, .ref ou), (2, .ref am), (1, .ref a), (0, .ref b)]) d_code_314 rfl (inc2 N) (by decide) rfl ?_
      refine g_goto cx d_code_317 rfl ?_
      exact g_loc [0, 1, 2, 3, 4] rfl (ih (N + 1) (t + 2 * N + 2) c0 (B) (T) (F + 24) _ _ _ _ _ _ _ _ _ _ _ K h _ _ (by omega) (by omega) (t_n ht) ⟨by omega, by omega⟩ (by omega) hLC hQ hLM (by first | (simp only [rmT, rmL, lookS]; omega) | omega) (by omega) (by first | (simp only [rmT, rmL, lookS]; omega) | omega))
end LLP
