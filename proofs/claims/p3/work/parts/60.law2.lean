/-! The law's loop. -/
theorem d_code_0 : decode code 0 = .ok (.new 8, 3) := by decide +kernel
theorem d_code_3 : decode code 3 = .ok (.dup, 1) := by decide +kernel
theorem d_code_4 : decode code 4 = .ok (.invokespecial 23, 3) := by decide +kernel
theorem d_code_7 : decode code 7 = .ok (.astore_n 1, 1) := by decide +kernel
theorem d_code_8 : decode code 8 = .ok (.new 24, 3) := by decide +kernel
theorem d_code_11 : decode code 11 = .ok (.dup, 1) := by decide +kernel
theorem d_code_12 : decode code 12 = .ok (.invokespecial 26, 3) := by decide +kernel
theorem d_code_15 : decode code 15 = .ok (.astore_n 2, 1) := by decide +kernel
theorem d_code_16 : decode code 16 = .ok (.iconst 1, 1) := by decide +kernel
theorem d_code_17 : decode code 17 = .ok (.newarray .long, 2) := by decide +kernel
theorem d_code_19 : decode code 19 = .ok (.astore_n 3, 1) := by decide +kernel
theorem d_code_20 : decode code 20 = .ok (.iconst 0, 1) := by decide +kernel
theorem d_code_21 : decode code 21 = .ok (.istore 4, 2) := by decide +kernel
theorem d_code_23 : decode code 23 = .ok (.iload 4, 2) := by decide +kernel
theorem d_code_25 : decode code 25 = .ok (.aload_n 0, 1) := by decide +kernel
theorem d_code_26 : decode code 26 = .ok (.arraylength, 1) := by decide +kernel
theorem d_code_27 : decode code 27 = .ok (.iconst 2, 1) := by decide +kernel
theorem d_code_28 : decode code 28 = .ok (.isub, 1) := by decide +kernel
theorem d_code_29 : decode code 29 = .ok (.if_icmp .gt 319, 3) := by decide +kernel
theorem d_code_32 : decode code 32 = .ok (.aload_n 0, 1) := by decide +kernel
theorem d_code_33 : decode code 33 = .ok (.iload 4, 2) := by decide +kernel
theorem d_code_35 : decode code 35 = .ok (.iaload, 1) := by decide +kernel
theorem d_code_36 : decode code 36 = .ok (.bipush 15, 2) := by decide +kernel
theorem d_code_38 : decode code 38 = .ok (.iand, 1) := by decide +kernel
theorem d_code_39 : decode code 39 = .ok (.tableswitch 303 0 9 #[53, 80, 124, 152, 165, 190, 215, 240, 265, 278], 53) := by decide +kernel
theorem d_code_92 : decode code 92 = .ok (.aload_n 1, 1) := by decide +kernel
theorem d_code_93 : decode code 93 = .ok (.aload_n 0, 1) := by decide +kernel
theorem d_code_94 : decode code 94 = .ok (.iload 4, 2) := by decide +kernel
theorem d_code_96 : decode code 96 = .ok (.iconst 1, 1) := by decide +kernel
theorem d_code_97 : decode code 97 = .ok (.iadd, 1) := by decide +kernel
theorem d_code_98 : decode code 98 = .ok (.iaload, 1) := by decide +kernel
theorem d_code_99 : decode code 99 = .ok (.i2c, 1) := by decide +kernel
theorem d_code_100 : decode code 100 = .ok (.invokevirtual 27, 3) := by decide +kernel
theorem d_code_103 : decode code 103 = .ok (.pop, 1) := by decide +kernel
theorem d_code_104 : decode code 104 = .ok (.aload_n 2, 1) := by decide +kernel
theorem d_code_105 : decode code 105 = .ok (.aload_n 0, 1) := by decide +kernel
theorem d_code_106 : decode code 106 = .ok (.iload 4, 2) := by decide +kernel
theorem d_code_108 : decode code 108 = .ok (.iconst 1, 1) := by decide +kernel
theorem d_code_109 : decode code 109 = .ok (.iadd, 1) := by decide +kernel
theorem d_code_110 : decode code 110 = .ok (.iaload, 1) := by decide +kernel
theorem d_code_111 : decode code 111 = .ok (.i2c, 1) := by decide +kernel
theorem d_code_112 : decode code 112 = .ok (.invokevirtual 31, 3) := by decide +kernel
theorem d_code_115 : decode code 115 = .ok (.pop, 1) := by decide +kernel
theorem d_code_116 : decode code 116 = .ok (.goto 226, 3) := by decide +kernel
theorem d_code_119 : decode code 119 = .ok (.aload_n 1, 1) := by decide +kernel
theorem d_code_120 : decode code 120 = .ok (.aload_n 3, 1) := by decide +kernel
theorem d_code_121 : decode code 121 = .ok (.invokestatic 32, 3) := by decide +kernel
theorem d_code_124 : decode code 124 = .ok (.istore 5, 2) := by decide +kernel
theorem d_code_126 : decode code 126 = .ok (.aload_n 2, 1) := by decide +kernel
theorem d_code_127 : decode code 127 = .ok (.invokevirtual 37, 3) := by decide +kernel
theorem d_code_130 : decode code 130 = .ok (.istore 6, 2) := by decide +kernel
theorem d_code_132 : decode code 132 = .ok (.aload_n 2, 1) := by decide +kernel
theorem d_code_133 : decode code 133 = .ok (.invokevirtual 38, 3) := by decide +kernel
theorem d_code_136 : decode code 136 = .ok (.iload 5, 2) := by decide +kernel
theorem d_code_138 : decode code 138 = .ok (.if_icmp .eq 5, 3) := by decide +kernel
theorem d_code_141 : decode code 141 = .ok (.iconst 0, 1) := by decide +kernel
theorem d_code_142 : decode code 142 = .ok (.ireturn, 1) := by decide +kernel
theorem d_code_143 : decode code 143 = .ok (.iload 5, 2) := by decide +kernel
theorem d_code_145 : decode code 145 = .ok (.ifCond .ne 15, 3) := by decide +kernel
theorem d_code_148 : decode code 148 = .ok (.aload_n 3, 1) := by decide +kernel
theorem d_code_149 : decode code 149 = .ok (.iconst 0, 1) := by decide +kernel
theorem d_code_150 : decode code 150 = .ok (.laload, 1) := by decide +kernel
theorem d_code_151 : decode code 151 = .ok (.iload 6, 2) := by decide +kernel
theorem d_code_153 : decode code 153 = .ok (.i2l, 1) := by decide +kernel
theorem d_code_154 : decode code 154 = .ok (.lcmp, 1) := by decide +kernel
theorem d_code_155 : decode code 155 = .ok (.ifCond .eq 5, 3) := by decide +kernel
theorem d_code_158 : decode code 158 = .ok (.iconst 0, 1) := by decide +kernel
theorem d_code_159 : decode code 159 = .ok (.ireturn, 1) := by decide +kernel
theorem d_code_160 : decode code 160 = .ok (.goto 182, 3) := by decide +kernel
theorem d_code_163 : decode code 163 = .ok (.aload_n 1, 1) := by decide +kernel
theorem d_code_164 : decode code 164 = .ok (.aload_n 0, 1) := by decide +kernel
theorem d_code_165 : decode code 165 = .ok (.iload 4, 2) := by decide +kernel
theorem d_code_167 : decode code 167 = .ok (.iconst 1, 1) := by decide +kernel
theorem d_code_168 : decode code 168 = .ok (.iadd, 1) := by decide +kernel
theorem d_code_169 : decode code 169 = .ok (.iaload, 1) := by decide +kernel
theorem d_code_170 : decode code 170 = .ok (.aload_n 3, 1) := by decide +kernel
theorem d_code_171 : decode code 171 = .ok (.invokestatic 41, 3) := by decide +kernel
theorem d_code_174 : decode code 174 = .ok (.istore 5, 2) := by decide +kernel
theorem d_code_176 : decode code 176 = .ok (.aload_n 2, 1) := by decide +kernel
theorem d_code_177 : decode code 177 = .ok (.aload_n 0, 1) := by decide +kernel
theorem d_code_178 : decode code 178 = .ok (.iload 4, 2) := by decide +kernel
theorem d_code_180 : decode code 180 = .ok (.iconst 1, 1) := by decide +kernel
theorem d_code_181 : decode code 181 = .ok (.iadd, 1) := by decide +kernel
theorem d_code_182 : decode code 182 = .ok (.iaload, 1) := by decide +kernel
theorem d_code_183 : decode code 183 = .ok (.invokevirtual 44, 3) := by decide +kernel
theorem d_code_186 : decode code 186 = .ok (.istore 6, 2) := by decide +kernel
theorem d_code_188 : decode code 188 = .ok (.goto 154, 3) := by decide +kernel
theorem d_code_191 : decode code 191 = .ok (.aload_n 1, 1) := by decide +kernel
theorem d_code_192 : decode code 192 = .ok (.invokevirtual 45, 3) := by decide +kernel
theorem d_code_195 : decode code 195 = .ok (.pop, 1) := by decide +kernel
theorem d_code_196 : decode code 196 = .ok (.aload_n 2, 1) := by decide +kernel
theorem d_code_197 : decode code 197 = .ok (.invokevirtual 48, 3) := by decide +kernel
theorem d_code_200 : decode code 200 = .ok (.pop, 1) := by decide +kernel
theorem d_code_201 : decode code 201 = .ok (.goto 141, 3) := by decide +kernel
theorem d_code_204 : decode code 204 = .ok (.aload_n 1, 1) := by decide +kernel
theorem d_code_205 : decode code 205 = .ok (.aload_n 0, 1) := by decide +kernel
theorem d_code_206 : decode code 206 = .ok (.iload 4, 2) := by decide +kernel
theorem d_code_208 : decode code 208 = .ok (.iconst 1, 1) := by decide +kernel
theorem d_code_209 : decode code 209 = .ok (.iadd, 1) := by decide +kernel
theorem d_code_210 : decode code 210 = .ok (.iaload, 1) := by decide +kernel
theorem d_code_211 : decode code 211 = .ok (.invokevirtual 49, 3) := by decide +kernel
theorem d_code_214 : decode code 214 = .ok (.pop, 1) := by decide +kernel
theorem d_code_215 : decode code 215 = .ok (.aload_n 2, 1) := by decide +kernel
theorem d_code_216 : decode code 216 = .ok (.aload_n 0, 1) := by decide +kernel
theorem d_code_217 : decode code 217 = .ok (.iload 4, 2) := by decide +kernel
theorem d_code_219 : decode code 219 = .ok (.iconst 1, 1) := by decide +kernel
theorem d_code_220 : decode code 220 = .ok (.iadd, 1) := by decide +kernel
theorem d_code_221 : decode code 221 = .ok (.iaload, 1) := by decide +kernel
theorem d_code_222 : decode code 222 = .ok (.invokevirtual 52, 3) := by decide +kernel
theorem d_code_225 : decode code 225 = .ok (.pop, 1) := by decide +kernel
theorem d_code_226 : decode code 226 = .ok (.goto 116, 3) := by decide +kernel
theorem d_code_229 : decode code 229 = .ok (.aload_n 1, 1) := by decide +kernel
theorem d_code_230 : decode code 230 = .ok (.aload_n 0, 1) := by decide +kernel
theorem d_code_231 : decode code 231 = .ok (.iload 4, 2) := by decide +kernel
theorem d_code_233 : decode code 233 = .ok (.iconst 1, 1) := by decide +kernel
theorem d_code_234 : decode code 234 = .ok (.iadd, 1) := by decide +kernel
theorem d_code_235 : decode code 235 = .ok (.iaload, 1) := by decide +kernel
theorem d_code_236 : decode code 236 = .ok (.invokevirtual 53, 3) := by decide +kernel
theorem d_code_239 : decode code 239 = .ok (.pop, 1) := by decide +kernel
theorem d_code_240 : decode code 240 = .ok (.aload_n 2, 1) := by decide +kernel
theorem d_code_241 : decode code 241 = .ok (.aload_n 0, 1) := by decide +kernel
theorem d_code_242 : decode code 242 = .ok (.iload 4, 2) := by decide +kernel
theorem d_code_244 : decode code 244 = .ok (.iconst 1, 1) := by decide +kernel
theorem d_code_245 : decode code 245 = .ok (.iadd, 1) := by decide +kernel
theorem d_code_246 : decode code 246 = .ok (.iaload, 1) := by decide +kernel
theorem d_code_247 : decode code 247 = .ok (.invokevirtual 56, 3) := by decide +kernel
theorem d_code_250 : decode code 250 = .ok (.pop, 1) := by decide +kernel
theorem d_code_251 : decode code 251 = .ok (.goto 91, 3) := by decide +kernel
theorem d_code_254 : decode code 254 = .ok (.aload_n 1, 1) := by decide +kernel
theorem d_code_255 : decode code 255 = .ok (.aload_n 0, 1) := by decide +kernel
theorem d_code_256 : decode code 256 = .ok (.iload 4, 2) := by decide +kernel
theorem d_code_258 : decode code 258 = .ok (.iconst 1, 1) := by decide +kernel
theorem d_code_259 : decode code 259 = .ok (.iadd, 1) := by decide +kernel
theorem d_code_260 : decode code 260 = .ok (.iaload, 1) := by decide +kernel
theorem d_code_261 : decode code 261 = .ok (.invokevirtual 57, 3) := by decide +kernel
theorem d_code_264 : decode code 264 = .ok (.pop, 1) := by decide +kernel
theorem d_code_265 : decode code 265 = .ok (.aload_n 2, 1) := by decide +kernel
theorem d_code_266 : decode code 266 = .ok (.aload_n 0, 1) := by decide +kernel
theorem d_code_267 : decode code 267 = .ok (.iload 4, 2) := by decide +kernel
theorem d_code_269 : decode code 269 = .ok (.iconst 1, 1) := by decide +kernel
theorem d_code_270 : decode code 270 = .ok (.iadd, 1) := by decide +kernel
theorem d_code_271 : decode code 271 = .ok (.iaload, 1) := by decide +kernel
theorem d_code_272 : decode code 272 = .ok (.invokevirtual 60, 3) := by decide +kernel
theorem d_code_275 : decode code 275 = .ok (.pop, 1) := by decide +kernel
theorem d_code_276 : decode code 276 = .ok (.goto 66, 3) := by decide +kernel
theorem d_code_279 : decode code 279 = .ok (.aload_n 1, 1) := by decide +kernel
theorem d_code_280 : decode code 280 = .ok (.aload_n 0, 1) := by decide +kernel
theorem d_code_281 : decode code 281 = .ok (.iload 4, 2) := by decide +kernel
theorem d_code_283 : decode code 283 = .ok (.iconst 1, 1) := by decide +kernel
theorem d_code_284 : decode code 284 = .ok (.iadd, 1) := by decide +kernel
theorem d_code_285 : decode code 285 = .ok (.iaload, 1) := by decide +kernel
theorem d_code_286 : decode code 286 = .ok (.invokevirtual 61, 3) := by decide +kernel
theorem d_code_289 : decode code 289 = .ok (.pop, 1) := by decide +kernel
theorem d_code_290 : decode code 290 = .ok (.aload_n 2, 1) := by decide +kernel
theorem d_code_291 : decode code 291 = .ok (.aload_n 0, 1) := by decide +kernel
theorem d_code_292 : decode code 292 = .ok (.iload 4, 2) := by decide +kernel
theorem d_code_294 : decode code 294 = .ok (.iconst 1, 1) := by decide +kernel
theorem d_code_295 : decode code 295 = .ok (.iadd, 1) := by decide +kernel
theorem d_code_296 : decode code 296 = .ok (.iaload, 1) := by decide +kernel
theorem d_code_297 : decode code 297 = .ok (.invokevirtual 65, 3) := by decide +kernel
theorem d_code_300 : decode code 300 = .ok (.pop, 1) := by decide +kernel
theorem d_code_301 : decode code 301 = .ok (.goto 41, 3) := by decide +kernel
theorem d_code_304 : decode code 304 = .ok (.aload_n 1, 1) := by decide +kernel
theorem d_code_305 : decode code 305 = .ok (.invokevirtual 66, 3) := by decide +kernel
theorem d_code_308 : decode code 308 = .ok (.pop, 1) := by decide +kernel
theorem d_code_309 : decode code 309 = .ok (.aload_n 2, 1) := by decide +kernel
theorem d_code_310 : decode code 310 = .ok (.invokevirtual 69, 3) := by decide +kernel
theorem d_code_313 : decode code 313 = .ok (.pop, 1) := by decide +kernel
theorem d_code_314 : decode code 314 = .ok (.goto 28, 3) := by decide +kernel
theorem d_code_317 : decode code 317 = .ok (.aload_n 1, 1) := by decide +kernel
theorem d_code_318 : decode code 318 = .ok (.aload_n 0, 1) := by decide +kernel
theorem d_code_319 : decode code 319 = .ok (.iload 4, 2) := by decide +kernel
theorem d_code_321 : decode code 321 = .ok (.iconst 1, 1) := by decide +kernel
theorem d_code_322 : decode code 322 = .ok (.iadd, 1) := by decide +kernel
theorem d_code_323 : decode code 323 = .ok (.iaload, 1) := by decide +kernel
theorem d_code_324 : decode code 324 = .ok (.invokevirtual 70, 3) := by decide +kernel
theorem d_code_327 : decode code 327 = .ok (.pop, 1) := by decide +kernel
theorem d_code_328 : decode code 328 = .ok (.aload_n 2, 1) := by decide +kernel
theorem d_code_329 : decode code 329 = .ok (.aload_n 0, 1) := by decide +kernel
theorem d_code_330 : decode code 330 = .ok (.iload 4, 2) := by decide +kernel
theorem d_code_332 : decode code 332 = .ok (.iconst 1, 1) := by decide +kernel
theorem d_code_333 : decode code 333 = .ok (.iadd, 1) := by decide +kernel
theorem d_code_334 : decode code 334 = .ok (.iaload, 1) := by decide +kernel
theorem d_code_335 : decode code 335 = .ok (.invokevirtual 73, 3) := by decide +kernel
theorem d_code_338 : decode code 338 = .ok (.pop, 1) := by decide +kernel
theorem d_code_339 : decode code 339 = .ok (.goto 3, 3) := by decide +kernel
theorem d_code_342 : decode code 342 = .ok (.iinc 4 2, 3) := by decide +kernel
theorem d_code_345 : decode code 345 = .ok (.goto (-322), 3) := by decide +kernel
theorem d_code_348 : decode code 348 = .ok (.iconst 1, 1) := by decide +kernel
theorem d_code_349 : decode code 349 = .ok (.ireturn, 1) := by decide +kernel
def LSe (am : Nat) (ad : Nat → Nat) (ou : Nat) : Nat → Prop := fun z => Mi am ad z ∨ z = ou
/-- the class's half of what holds between two calls of the law -/
def LC (D : va_G) (z0 : Nat) (k : Nat → Nat) (a am ou : Nat) (ad : Nat → Nat) (K : KM) (B T : Nat) (h : hp) (c0 cd lr : Nat) : Prop := TP D z0 k K B T h ∧ Ty K h 1 a ∧ (∃ v cap, BK D K h (LSe am ad ou) (K a).2.1 v c0 cap cd) ∧ OU D K h (LSe am ad ou) ou ∧ Ad am ad ∧ (¬ Mi am ad ou) ∧ (∀ z, Mi am ad z → (K z).1 = 99) ∧ (K a).2.2 = lr
/-- the reference's half -/
def LM (D : va_G) (am : Nat) (ad : Nat → Nat) (h : hp) (w cd : Nat) (S : SL) : Prop := ∃ x, Mo D am ad x h ∧ MIx x ∧ x.1 2 = nI w ∧ (∀ j, j < w → x.2.1 1 j = nI (chr cd j)) ∧ LKS S x
section LWL
variable {D : va_G} {z0 : Nat} {k : Nat → Nat} {K K' : KM} {B T B' T' c0 c1 cd cd1 lr w a am ou : Nat} {S : SL} {ad rz az nt : Nat → Nat} {h h' : hp} {X : Nat → Prop}
theorem LM.ev (M : LM D am ad h w cd S) (ev : Ev k X K h K' h') (hX : ∀ z, Mi am ad z → ¬ X z) : LM D am ad h' w cd S := by
  obtain ⟨x, ⟨m1, m2, m3⟩, mi, mw⟩ := M
  have c1 := ev.1 am m1
  refine ⟨x, ⟨c1.1, (c1.2.2 (hX am (Or.inl rfl))).2.trans m2, fun i hi hm => ?_⟩, mi, mw⟩
  obtain ⟨n1, n2⟩ := m3 i hi hm
  have c2 := ev.1 _ n1
  exact ⟨c2.1, (c2.2.2 (hX _ (Or.inr ⟨i, hi, hm, rfl⟩))).2.trans n2⟩
theorem LM.hp (M : LM D am ad h w cd S) (s1 : h'.1 = h.1) (s2 : ∀ z, Mi am ad z → h'.2 z = h.2 z) : LM D am ad h' w cd S := by
  obtain ⟨x, ⟨m1, m2, m3⟩, mi⟩ := M
  refine ⟨x, ⟨by rw [s1]; exact m1, (s2 am (Or.inl rfl)).trans m2, fun i hi hm => ?_⟩, mi⟩
  obtain ⟨n1, n2⟩ := m3 i hi hm
  exact ⟨by rw [s1]; exact n1, (s2 _ (Or.inr ⟨i, hi, hm, rfl⟩)).trans n2⟩
theorem LC.ev (C : LC D z0 k a am ou ad K B T h c0 cd lr) (ev : Ev k X K h K' h') (hT' : TP D z0 k K' B' T' h') (hbk : ∃ v cap, BK D K' h' (LSe am ad ou) (K a).2.1 v c1 cap cd1) (hou : ∃ f : Nat → Int64, h'.2 ou = .inl (D.1 102, 1, .inr (.inl f))) : LC D z0 k a am ou ad K' B' T' h' c1 cd1 lr := by
  obtain ⟨t, ha, ⟨v, cap, b⟩, o, A, nm, m9, hl⟩ := C
  have e1 : (K' a).2.1 = (K a).2.1 := Ev.ab ev ha rfl
  have k9 : ∀ z, LSe am ad ou z → (K z).1 = 99 → (K' z).1 = 99 := fun z hz h9 => by
    have c := (ev.1 z (b.2.2.2.1 z hz)).2.1 (by rw [h9]; decide)
    exact c.1.trans h9
  exact ⟨hT', Ev.ty ev ha, by rw [e1]; exact hbk, ⟨Or.inr rfl, k9 ou (Or.inr rfl) o.2.1, hou⟩, A, nm, fun z hz => k9 z (Or.inl hz) (m9 z hz), (Ev.fix (κ := 0) ev ha (by unfold Gk; omega)).trans hl⟩
theorem LC.nX (C : LC D z0 k a am ou ad K B T h c0 cd lr) : ∀ z, LSe am ad ou z → ¬ XP (fun z => z = (K a).2.1) PK K z := by
  obtain ⟨t, ha, ⟨v, cap, b⟩, o, A, nm, m9, hl⟩ := C
  intro z hz y
  have h9 : (K z).1 = 99 := by
    rcases hz with hz | rfl
    · exact m9 z hz
    · exact o.2.1
  rcases y with y | y
  · have y2 : z = (K a).2.1 := y
    exact b.2.2.2.2.1 (y2 ▸ hz)
  · exact y.2 h9
theorem LC.nXO (C : LC D z0 k a am ou ad K B T h c0 cd lr) : ∀ z, Mi am ad z → ¬ XO PK (K a).2.1 ou K z := by
  intro z hz y
  rcases y with (y | y) | y
  · exact C.nX z (Or.inl hz) (Or.inl y)
  · have y2 : z = ou := y
    exact C.2.2.2.2.2.1 (y2 ▸ hz)
  · exact C.nX z (Or.inl hz) (Or.inr y)
theorem LC.s9 (C : LC D z0 k a am ou ad K B T h c0 cd lr) (s : Sm am ad h h') : h'.1 = h.1 ∧ ∀ z, (K z).1 ≠ 99 → h'.2 z = h.2 z := ⟨s.1, fun z hz => s.2 z (fun m => hz (C.2.2.2.2.2.2.1 z m))⟩
theorem LC.sm (C : LC D z0 k a am ou ad K B T h c0 cd lr) (s : Sm am ad h h') : LC D z0 k a am ou ad K B T h' c0 cd lr := by
  obtain ⟨t, ha, ⟨v, cap, b⟩, o, A, nm, m9, hl⟩ := C
  obtain ⟨s1, s2⟩ := s
  obtain ⟨⟨mb, f, g1, g2, g3, g4, g5⟩, b2, b3, b4, b5, b6⟩ := b
  have nab : ¬ Mi am ad (K a).2.1 := fun z => b5 (Or.inl z)
  have nv : ¬ Mi am ad v := fun z => b6 (Or.inl z)
  refine ⟨⟨fun z hz => ?_, t.2.1, t.2.2.1, by rw [s1]; exact t.2.2.2.1, t.2.2.2.2⟩, ⟨by rw [s1]; exact ha.1, ha.2⟩, ⟨v, cap, ⟨mb, f, by rw [s1]; exact g1, (s2 _ nab).trans g2, by rw [s1]; exact g3, (s2 _ nv).trans g4, g5⟩, b2, b3, by rw [s1]; exact b4, b5, b6⟩, ⟨o.1, o.2.1, by rw [s2 _ nm]; exact o.2.2⟩, A, nm, m9, hl⟩
  rw [s1] at hz ⊢
  by_cases hm : Mi am ad z
  · have h9 := m9 z hm
    rw [show K z = (99, (K z).2) from Prod.ext h9 rfl]
    exact ⟨fun x => absurd x.2 (by show ¬ 99 ≤ 29; decide), fun x => absurd x.2 (by show ¬ 99 ≤ 39; decide), trivial⟩
  · rw [s2 z hm]
    exact t.1 z hz
theorem LC.dr {y : Nat} {q : Nat × Nat × Nat} {e : va_E} (C : LC D z0 k a am ou ad K B T h c0 cd lr) (hy : Ty K h 6 y) (hT' : TP D z0 k (va_up K y q) B T (h.1, va_up h.2 y e)) : LC D z0 k a am ou ad (va_up K y q) B T (h.1, va_up h.2 y e) c0 cd lr := by
  obtain ⟨t, ha, ⟨v, cap, b⟩, o, A, nm, m9, hl⟩ := C
  obtain ⟨⟨mb, f, g1, g2, g3, g4, g5⟩, b2, b3, b4, b5, b6⟩ := b
  have hne : ∀ z, (K z).1 ≠ 6 → z ≠ y := fun z hz x => hz (by rw [x]; exact hy.2)
  have na : a ≠ y := hne a (by rw [ha.2]; decide)
  have nab : (K a).2.1 ≠ y := hne _ (by rw [b2]; decide)
  have nv : v ≠ y := hne v (by rw [b3]; decide)
  have no : ou ≠ y := hne ou (by rw [o.2.1]; decide)
  refine ⟨hT', ⟨ha.1, by rw [va_up_ne _ _ na]; exact ha.2⟩, ⟨v, cap, ?_⟩, ⟨o.1, by rw [va_up_ne _ _ no]; exact o.2.1, ?_⟩, A, nm, fun z hz => ?_, by rw [va_up_ne _ _ na]; exact hl⟩
  · rw [va_up_ne _ _ na]
    exact ⟨⟨mb, f, g1, (va_up_ne _ _ nab).trans g2, g3, (va_up_ne _ _ nv).trans g4, g5⟩, by rw [va_up_ne _ _ nab]; exact b2, by rw [va_up_ne _ _ nv]; exact b3, b4, b5, b6⟩
  · obtain ⟨f2, hf2⟩ := o.2.2
    exact ⟨f2, (va_up_ne _ _ no).trans hf2⟩
  · have h9 := m9 z hz
    rw [va_up_ne _ _ (hne z (by rw [h9]; decide))]
    exact h9
theorem LsK.sm {la κ m : Nat} {es : Nat → Nat} (q : LsK D K h la κ m es) (hk : κ ≤ 29) (s1 : h'.1 = h.1) (s2 : ∀ z, (K z).1 ≠ 99 → h'.2 z = h.2 z) : LsK D K h' la κ m es := by
  obtain ⟨l1, l2, ea, n, mo, l3, l4⟩ := q
  refine ⟨⟨by rw [s1]; exact l1.1, l1.2⟩, l2, ea, n, mo, (s2 la (by rw [l1.2]; omega)).trans l3, l4.imp id (fun w => ?_)⟩
  obtain ⟨c, f, g1, g2⟩ := w.2.2
  exact ⟨by rw [s1]; exact w.1, w.2.1, c, f, (s2 ea (by rw [w.2.1]; omega)).trans g1, g2⟩
theorem Tc.sm {w n cd : Nat} (q : Tc k K h w n cd) (s1 : h'.1 = h.1) : Tc k K h' w n cd := ⟨⟨q.1.1, q.1.2.1, by rw [s1]; exact q.1.2.2⟩, q.2⟩
theorem Ty.sm {κ a : Nat} (q : Ty K h κ a) (s1 : h'.1 = h.1) : Ty K h' κ a := ⟨by rw [s1]; exact q.1, q.2⟩
theorem CQ.sm (Q : CQ D k K h lr S rz az nt) (s1 : h'.1 = h.1) (s2 : ∀ z, (K z).1 ≠ 99 → h'.2 z = h.2 z) : CQ D k K h' lr S rz az nt := by
  obtain ⟨⟨l1, e1, i1⟩, ⟨l2, e2, i2⟩, q3, q4⟩ := Q
  refine ⟨⟨l1.sm (by decide) s1 s2, fun j hj => ?_, i1⟩, ⟨l2.sm (by decide) s1 s2, fun j hj => ?_, i2⟩, fun h0 => ⟨(q3 h0).1.sm (by decide) s1 s2, fun t ht => ?_⟩, fun h0 => ⟨⟨(q4 h0).1.1.sm s1, (q4 h0).1.2.1, (q4 h0).1.2.2.sm (by decide) s1 s2⟩, (q4 h0).2⟩⟩
  · obtain ⟨a1, a2, a3, a4⟩ := e1 j hj
    exact ⟨a1.sm s1, a2.sm s1, a3, a4⟩
  · obtain ⟨a1, a2, a3⟩ := e2 j hj
    exact ⟨a1.sm s1, a2.sm s1, a3⟩
  · obtain ⟨a1, a2, a3⟩ := (q3 h0).2 t ht
    exact ⟨a1.sm s1, a2.sm s1, a3⟩
end LWL
theorem nar_m {m : Nat} (h : m < 128) : vp_nar .char (nI m) = nI m := by
  have q : ∀ m : Fin 128, vp_nar .char (nI m.1) = nI m.1 := by decide +kernel
  exact q ⟨m, h⟩
theorem mi_s0 {x : MS} {v : Int32} (h : MIx x) : MIx (seti x 0 v) := h
theorem mi_dr {x : MS} {j : Nat} {v u : Int32} (h : MIx x) : MIx (seta (seti x 0 v) 22 j u) := h
theorem mi_wr {x : MS} {j : Nat} {v u q : Int32} (h : MIx x) : MIx (seti (seta (seti x 0 v) 1 j u) 2 q) := h
theorem kp_s0 {x : MS} {v : Int32} : KpF x (seti x 0 v) := ⟨⟨rfl, rfl⟩, ⟨rfl, rfl, rfl, rfl, rfl, rfl, rfl⟩, rfl⟩
theorem kp_wr {x : MS} {j : Nat} {v u q : Int32} : KpF x (seti (seta (seti x 0 v) 1 j u) 2 q) := ⟨⟨rfl, rfl⟩, ⟨rfl, rfl, rfl, rfl, rfl, rfl, rfl⟩, rfl⟩
theorem lgc_0 (x : Int64) : lg_cmp x x = 0 := by simp [lg_cmp]
theorem inc2 (j : Nat) : nI (2 * j) + Int32.ofInt 2 = nI (2 * (j + 1)) := nI_add (2 * j) 2
theorem scr_le {L N : Nat} (hL : L ≤ 1024) (hN : N ≤ 512) (h : ¬ nI L - 2 < nI (2 * N)) : 2 * N + 2 ≤ L := by
  refine Nat.le_of_not_lt (fun q => h ?_)
  rw [Int32.lt_iff_toInt_lt, nI_toInt (by omega), show (2 : Int32) = nI 2 from rfl, pk_sub_toInt (by omega) (by decide)]
  omega
theorem t_n {t N : Nat} (ht : t = N * (N + 1)) : t + 2 * N + 2 = (N + 1) * (N + 1 + 1) := by
  have e1 : (N + 1) * (N + 1 + 1) = (N + 1) * (N + 1) + (N + 1) := Nat.mul_succ _ _
  have e2 : (N + 1) * (N + 1) = N * (N + 1) + (N + 1) := Nat.succ_mul _ _
  omega
theorem t_q {t N : Nat} (ht : t = N * (N + 1)) (hN : N + 1 ≤ 512) : t + 2 * N + 2 ≤ 262656 := by
  rw [t_n ht]
  show (N + 1) * (N + 1 + 1) ≤ 512 * 513
  exact Nat.mul_le_mul hN (by omega)
set_option maxRecDepth 4000 in
theorem lk_cost {N B F t rs : Nat} (hB : B ≤ 12 + 4 * N) (hF : 24 * N ≤ F) (hq : t + 2 * N + 2 ≤ 262656) (hN : N + 1 ≤ 512) (hrs : 4790272 + F ≤ rs + 12 * t + 3200 * N) : lookS B ≤ rs := by
  unfold lookS
  omega
set_option maxRecDepth 4000 in
theorem lk_cost2 {N B F t rs : Nat} (hB : B ≤ 12 + 4 * N) (hF : 24 * N ≤ F) (hq : t + 2 * N + 2 ≤ 262656) (hN : N + 1 ≤ 512) (hrs : 4790272 + F ≤ rs + 12 * t + 3200 * N) : 4790272 + 0 ≤ rs - lookS B - 0 + 12 * (t + 2 * N + 2) + 3200 * (N + 1) := by
  unfold lookS
  omega
theorem sw10 {x : Int32} (h0 : ¬ x = 0) (h1 : ¬ x = 1) (h2 : ¬ x = 2) (h3 : ¬ x = 3) (h4 : ¬ x = 4) (h5 : ¬ x = 5) (h6 : ¬ x = 6) (h7 : ¬ x = 7) (h8 : ¬ x = 8) (h9 : ¬ x = 9) : x.toInt < 0 ∨ 9 < x.toInt := by
  have e0 : x.toInt ≠ 0 := fun z => h0 (Int32.toInt_inj.mp (z.trans (by decide)))
  have e1 : x.toInt ≠ 1 := fun z => h1 (Int32.toInt_inj.mp (z.trans (by decide)))
  have e2 : x.toInt ≠ 2 := fun z => h2 (Int32.toInt_inj.mp (z.trans (by decide)))
  have e3 : x.toInt ≠ 3 := fun z => h3 (Int32.toInt_inj.mp (z.trans (by decide)))
  have e4 : x.toInt ≠ 4 := fun z => h4 (Int32.toInt_inj.mp (z.trans (by decide)))
  have e5 : x.toInt ≠ 5 := fun z => h5 (Int32.toInt_inj.mp (z.trans (by decide)))
  have e6 : x.toInt ≠ 6 := fun z => h6 (Int32.toInt_inj.mp (z.trans (by decide)))
  have e7 : x.toInt ≠ 7 := fun z => h7 (Int32.toInt_inj.mp (z.trans (by decide)))
  have e8 : x.toInt ≠ 8 := fun z => h8 (Int32.toInt_inj.mp (z.trans (by decide)))
  have e9 : x.toInt ≠ 9 := fun z => h9 (Int32.toInt_inj.mp (z.trans (by decide)))
  omega
section SCR
variable {p : Program} {l : Launch} {e : Env} {R : Room} {s : State} {m : MethodId} {args : Array Value} {below : List Frame} {meth : Method} {c : Code} {cc : ByteArray} {own : String} {nL : Nat} {ret : Option FieldType} {D : va_G} {z0 : Nat} {Qp : Outcome → hp → Prop} {mc ms pc : Nat} {lv lv' : List (Nat × Value)} {st rest : List Value} {h : hp} {rc rs : Nat}
variable {k : Nat → Nat} {b L : Nat} {xs : Nat → Int32}
theorem g_slen (C : Cx p R s m args meth c cc own nL ret D z0 (EE z0 k) mc ms) (hX : va_X b L xs s s.heap) (hbs : b < s.heap.size) (hbz : b < z0) (hd : decode cc pc = .ok (.arraylength, 1)) (kk : G p l e R s m args below meth c nL D z0 (EE z0 k) Qp mc ms (pc + 1) lv (.int (nI L) :: rest) h rc rs) : G p l e R s m args below meth c nL D z0 (EE z0 k) Qp mc ms pc lv (.ref b :: rest) h rc rs := fun ls H locs cells slots h1 h2 h3 h4 h5 => va_slen C.1 C.2.1 hX hbs (Nat.not_le.mpr hbz) h3 hd (kk ls H locs cells slots h1 h2 h3 h4 h5)
theorem g_sld (C : Cx p R s m args meth c cc own nL ret D z0 (EE z0 k) mc ms) (hX : va_X b L xs s s.heap) (hbs : b < s.heap.size) (hbz : b < z0) {j : Nat} {i : Int32} (hd : decode cc pc = .ok (.iaload, 1)) (hi : i = nI j) (hj : j < L) (hL : L < 2 ^ 31) (kk : G p l e R s m args below meth c nL D z0 (EE z0 k) Qp mc ms (pc + 1) lv (.int (xs j) :: rest) h rc rs) : G p l e R s m args below meth c nL D z0 (EE z0 k) Qp mc ms pc lv (.int i :: .ref b :: rest) h rc rs := by
  subst hi
  intro ls H locs cells slots h1 h2 h3 h4 h5
  refine va_sld C.1 C.2.1 hX hbs (Nat.not_le.mpr hbz) h3 (vp_in_nI hj hL) hd ?_
  rw [nI_clamp (by omega)]
  exact kk ls H locs cells slots h1 h2 h3 h4 h5
end SCR
section LLP
set_option maxHeartbeats 40000000 in
theorem lawLoop {p : Program} {l : Launch} {e : Env} {R : Room} {s : State} {m : MethodId} {args : Array Value} {below : List Frame} {meth : Method} {c : Code} {D : va_G} {z0 : Nat} {k : Nat → Nat} {MC MS : Nat} (cx : Cx p R s m args meth c code "RealmDeskLaw" 7 (some .boolean) D z0 (EE z0 k) MC MS) (hR : 100 ≤ R.frames ∧ 4000 ≤ R.locals) (htr : l.stackTraces = false) {b L : Nat} {xs : Nat → Int32} (hX : va_X b L xs s s.heap) (hbs : b < s.heap.size) (hbz : b < z0) (hL : L ≤ 1024) {a am ou : Nat} {ad : Nat → Nat} : ∀ (n0 N t c0 B T F cd lr : Nat) (S : SL) (rz az nt : Nat → Nat) (K : KM) (h : hp) (rc rs : Nat), N + n0 = 513 → N ≤ 512 → t = N * (N + 1) → (B ≤ 16 + 4 * N ∧ (c0 = 0 ∨ B ≤ 12 + 4 * N)) → T ≤ 40 * N → LC D z0 k a am ou ad K B T h c0 cd lr → CQ D k K h lr S rz az nt → LM D am ad h c0 cd S → 102400 ≤ rc + 200 * N → (c0 = 0 ∨ 24 * N ≤ F) → 4790272 + F ≤ rs + 12 * t + 3200 * N → G p l e R s m args below meth c 7 D z0 (EE z0 k) (fun o _ => o = .returned (some (.int 1))) MC MS 23 [(4, .int (nI (2 * N))), (3, .ref ou), (2, .ref am), (1, .ref a), (0, .ref b)] [] h rc rs := by
  intro n0
  induction n0 with
  | zero => intro N t c0 B T F cd lr S rz az nt K h rc rs hN hN2; omega
  | succ n0 ih =>
    intro N t c0 B T F cd lr S rz az nt K h rc rs hN hN2 ht hBb hTT hLC hQ hLM hrc hF hrs
    obtain ⟨hR1, hR2⟩ := hR
    refine g_iload cx 0 d_code_23 rfl ?_
    refine g_aload_n cx 4 d_code_25 rfl rfl ?_
    refine g_slen cx hX hbs hbz d_code_26 ?_
    refine g_iconst cx (v := 2) d_code_27 (by decide) ?_
    refine g_isub cx d_code_28 ?_
    refine g_icmp_gt cx d_code_29 rfl (fun c29 => ?_) (fun c29 => ?_)
    · skip
      refine g_iconst cx (v := 1) d_code_348 (by decide) ?_
      exact g_iret cx d_code_349 rfl rfl rfl
    · skip
      have h2 : 2 * N + 2 ≤ L := scr_le hL hN2 c29
      have hN1 : N + 1 ≤ 512 := by omega
      have hq := t_q ht hN1
      have hc30 : c0 ≤ 30 := by obtain ⟨-, -, ⟨v8, c8, b8⟩, -⟩ := id hLC; obtain ⟨_, _, _, _, _, _, _, _, z, _⟩ := id b8.1; exact z
      refine g_aload_n cx 4 d_code_32 rfl rfl ?_
      refine g_iload cx 0 d_code_33 rfl ?_
      refine g_sld cx hX hbs hbz (j := 2 * N) d_code_35 rfl (by omega) (by omega) ?_
      refine g_bipush cx (v := 15) d_code_36 (by decide) ?_
      refine g_iand cx d_code_38 ?_
      refine g_topi (fun xk exk => ?_)
      by_cases s0 : xk = 0
      · skip
        refine g_tableIn cx (off := 53) (tgt := 92) d_code_39 (by rw [s0]; decide +kernel) (by rw [s0]; decide +kernel) (by rw [s0]; decide +kernel) rfl ?_
        refine g_aload_n cx 3 d_code_92 rfl rfl ?_
        refine g_aload_n cx 4 d_code_93 rfl rfl ?_
        refine g_iload cx 0 d_code_94 rfl ?_
        refine g_iconst cx (v := 1) d_code_96 (by decide) ?_
        refine g_iadd cx d_code_97 ?_
        refine g_topi (fun m97 em97 => ?_)
        obtain rfl : m97 = nI (2 * N + 1) := em97.trans (nI_1 _)
        refine g_sld cx hX hbs hbz (j := 2 * N + 1) d_code_98 rfl (by omega) (by omega) ?_
        refine g_i2c cx d_code_99 ?_
        refine g_topi (fun uc euc => ?_)
        obtain ⟨hT, ha, ⟨vb, cap, hbk⟩, hou, hAd, hnm, hM9, hlrq⟩ := id hLC
        obtain ⟨la9, lr9, tr9, tn9, hed, -⟩ := TP.desk hT ha rfl
        have hcdl : cd < 128 ^ c0 := by obtain ⟨_, _, _, _, _, _, _, _, _, _, _, _, z⟩ := id hbk.1; exact z
        have hc30 : c0 ≤ 30 := by obtain ⟨_, _, _, _, _, _, _, _, z, _⟩ := id hbk.1; exact z
        refine g_callV cx (As := [.int uc]) (n := 1) (tc_write (K := K) (B := B) (T := T) (S := LSe am ad ou) (ab := (K a).2.1) (v := vb) (c0 := c0) (cap := cap) (cd := cd) (x := uc)) d_code_100 t_113 t_114 t_115 t_1 t_116 ⟨by decide, by decide, by decide +kernel⟩ rfl (ci := 0) rfl ha.1 hed ⟨rfl, hT, ha, rfl, hbk⟩ ⟨by show 10 + 1 ≤ R.frames; omega, by show 8 + (2 + 11) + 60 * 10 ≤ R.locals; omega⟩ (Nat.le_of_ble_eq_true rfl) ⟨by simp only [rmT, lookS]; omega, by simp only [rmT, lookS]; omega⟩ (fun v100 h r100 => ?_) (fun x100 h r100 => by obtain ⟨K9, -, -, r9, c9, v9, p9, d9, e9, -⟩ := r100; cases e9)
        obtain ⟨K2, hT2, ev, x100, c1, v2, cap2, cd1, e100, hbk2, hrel100⟩ := r100
        cases e100
        have nW : ∀ z, LSe am ad ou z → ¬ (z = (K a).2.1 ∨ z = vb) := fun z hz y => by
          rcases y with y | y
          · exact hbk.2.2.2.2.1 (y ▸ hz)
          · exact hbk.2.2.2.2.2 (y ▸ hz)
        replace hQ := hQ.ev ev (fun z hz y => by
          have h9 : (K z).1 = 99 := y.elim (fun w => by rw [w]; exact hbk.2.1) (fun w => by rw [w]; exact hbk.2.2.1)
          unfold Pq at hz
          omega)
        replace hLM := hLM.ev ev (fun z hz => nW z (Or.inl hz))
        replace hLC := hLC.ev ev hT2 ⟨v2, cap2, hbk2⟩ (by obtain ⟨f, hf⟩ := hou.2.2; exact ⟨f, ((ev.1 ou (hbk.2.2.2.1 ou (Or.inr rfl))).2.2 (nW ou (Or.inr rfl))).2.trans hf⟩)
        refine g_pop cx d_code_103 rfl ?_
        refine g_aload_n cx 2 d_code_104 rfl rfl ?_
        refine g_aload_n cx 4 d_code_105 rfl rfl ?_
        refine g_iload cx 0 d_code_106 rfl ?_
        refine g_iconst cx (v := 1) d_code_108 (by decide) ?_
        refine g_iadd cx d_code_109 ?_
        refine g_topi (fun m109 em109 => ?_)
        obtain rfl : m109 = nI (2 * N + 1) := em109.trans (nI_1 _)
        refine g_sld cx hX hbs hbz (j := 2 * N + 1) d_code_110 rfl (by omega) (by omega) ?_
        refine g_i2c cx d_code_111 ?_
        refine g_topi (fun ud eud => ?_)
        obtain rfl : uc = ud := euc.trans eud.symm
        obtain ⟨x0, hMo, hMI0, hw0, htx0, hLk0⟩ := id hLM
        obtain ⟨a5, r5, nm5, ld5, im5, kp5, mn5, hMI⟩ := id hMI0
        have hAd5 := hLC.2.2.2.2.1
        refine g_callV cx (As := [.int uc]) (n := 1) (mc_write Cl.stb hAd5 x0 (uc) c0 hw0 hc30) d_code_112 t_993 t_994 t_995 t_9 t_996 ⟨by decide, by decide, by decide +kernel⟩ rfl (ci := 9) rfl hMo.1 hMo.2.1 ⟨rfl, hMo⟩ ⟨by show 0 + 1 ≤ R.frames; omega, by show 8 + (2 + 11) + 60 * 0 ≤ R.locals; omega⟩ (Nat.le_of_ble_eq_true rfl) ⟨Nat.zero_le _, Nat.zero_le _⟩ (fun v112 h r112 => ?_) (fun x112 h r112 => by obtain ⟨r9, x9, e9, -⟩ := r112; cases e9)
        obtain ⟨r9112, x1, e9, hMo1, hSm, hrel⟩ := r112
        cases e9
        have hs9 := hLC.s9 hSm
        replace hLC := hLC.sm hSm
        replace hQ := hQ.sm hs9.1 hs9.2
        
        obtain ⟨u112, rfl, hLM⟩ : ∃ u : Int32, v112 = some (.int u) ∧ LM D am ad h c1 cd1 S := by
          rcases hrel with ⟨g1, g2, g3⟩ | ⟨g1, g2, g3⟩
          · rcases hrel100 with ⟨w1, w2, w4, w3⟩ | ⟨w1, w2, ⟨xc, w5, w6, w7, w8⟩, w3⟩
            · exfalso
              rcases w3 with w3 | w3 | w3
              · exact g1.1 w3
              · exact g1.2.1 w3
              · exact absurd g1.2.2 (by omega)
            · refine ⟨1, g2, x1, hMo1, by rw [g3]; exact mi_wr hMI0, ?_, ?_, by rw [g3]; exact hLk0.kf kp_wr⟩
              · rw [g3, w2]
                rfl
              · rw [g3, w2, w8]
                show ∀ j, j < c0 + 1 → upd (x0.2.1 1) c0 (vp_nar .char uc) j = nI (chr (cd + 128 ^ c0 * xc) j)
                exact app_c (by rw [w5]; exact nar_m (by omega)) htx0 hcdl (by omega)
          · rcases hrel100 with ⟨w1, w2, w4, w3⟩ | ⟨w1, w2, ⟨xc, w5, w6, w7, w8⟩, w3⟩
            · refine ⟨0, g2, x1, hMo1, by rw [g3]; exact mi_s0 hMI0, ?_, ?_, by rw [g3]; exact hLk0.kf kp_s0⟩
              · rw [g3, w2]
                exact hw0
              · rw [g3, w2, w4]
                exact htx0
            · exact absurd w3 g1
        refine g_pop cx d_code_115 rfl ?_
        refine g_goto cx d_code_116 rfl ?_
        refine g_iinc cx 0 (lv' := [(4, .int (nI (2 * (N + 1)))), (3, .ref ou), (2, .ref am), (1, .ref a), (0, .ref b)]) d_code_342 rfl (inc2 N) (by decide) rfl ?_
        refine g_goto cx d_code_345 rfl ?_
        exact g_loc [0, 1, 2, 3, 4] rfl (ih (N + 1) (t + 2 * N + 2) c1 (B) (T) (24 * (N + 1)) _ _ _ _ _ _ K2 h _ _ (by omega) (by omega) (t_n ht) ⟨by omega, by omega⟩ (by omega) hLC hQ hLM (by first | (simp only [rmT, rmL, lookS]; omega) | omega) (by omega) (by first | (simp only [rmT, rmL, lookS]; omega) | omega))
      by_cases s1 : xk = 1
      · skip
        refine g_tableIn cx (off := 80) (tgt := 119) d_code_39 (by rw [s1]; decide +kernel) (by rw [s1]; decide +kernel) (by rw [s1]; decide +kernel) rfl ?_
        refine g_aload_n cx 3 d_code_119 rfl rfl ?_
        refine g_aload_n cx 1 d_code_120 rfl rfl ?_
        obtain ⟨hT, ha, ⟨vb, cap, hbk⟩, hou, hAd, hnm, hM9, hlrq⟩ := id hLC
        obtain ⟨la9, lr9, tr9, tn9, hed, -⟩ := TP.desk hT ha rfl
        refine g_callSH cx (As := [.ref a, .ref ou]) (n := 2) (hl_lineX (K := K) (B := B) (T := T) (Sb := LSe am ad ou) (ab := (K a).2.1) (v := vb) (c0 := c0) (cap := cap) (cd := cd) (ou := ou) (lr := lr) (Pr := fun h => Ty K h 1 a ∧ (K a).2.1 = (K a).2.1 ∧ BK D K h (LSe am ad ou) (K a).2.1 vb c0 cap cd ∧ (K a).2.2 = lr ∧ CQ D k K h lr S rz az nt) (Do := StepL cd c0 S) (tc_lineF (by omega) htr)) d_code_121 t_507 t_508 t_0 t_509 ⟨by decide, by decide, by decide +kernel⟩ rfl ⟨rfl, hT, ha, rfl, hbk, hou, ⟨ha, rfl, hbk, hlrq, hQ⟩⟩ ⟨by show 13 + 1 + 1 ≤ R.frames; omega, by show 8 + (3 + 11) + (60 * 13 + 40) ≤ R.locals; omega⟩ (Nat.le_of_ble_eq_true rfl) ⟨by simp only [rmT, lookS]; omega, by simp only [rmT, lookS]; omega⟩ (fun v121 h r121 => ?_) (fun x121 h r121 => by obtain ⟨K9, -, -, a9, u9, s9, z9, y9, n9, f9, e9, -⟩ := r121; cases e9)
        obtain ⟨K2, hT2, ev, an1, x121, S2, rz2, az2, nt2, f1, e121, ⟨v2, cap2, hbk2⟩, hfo, hKA, hStp, hQ⟩ := r121
        cases e121
        replace hLM := hLM.ev ev hLC.nXO
        replace hLC := hLC.ev ev hT2 ⟨v2, cap2, hbk2⟩ ⟨f1, hfo⟩
        refine g_istore cx (lv' := [(5, .int x121), (4, .int (nI (2 * N))), (3, .ref ou), (2, .ref am), (1, .ref a), (0, .ref b)]) d_code_124 (by decide) rfl ?_
        refine g_aload_n cx 3 d_code_126 rfl rfl ?_
        obtain ⟨x0, hMo, hMI0, hw0, htx0, hLk0⟩ := id hLM
        obtain ⟨a5, r5, nm5, ld5, im5, kp5, mn5, hMI⟩ := id hMI0
        have hAd5 := hLC.2.2.2.2.1
        have hr5 : r5 = S 0 0 := (nI_eq (by have := hMI.2.1.2; omega) (by have := hLk0.1.1; omega)).mp (hMI.2.1.1.symm.trans hLk0.1.2)
        have ha5 : a5 = S 4 0 := (nI_eq (by have := hMI.1.2; omega) (by have := hLk0.2.2.2.1.1; omega)).mp (hMI.1.1.symm.trans hLk0.2.2.2.1.2)
        rw [hr5, ha5] at hMI
        refine g_callV cx (As := []) (n := 0) (mc_lineG Cl.stb hAd5 x0 c0 cd hw0 hc30 S nm5 ld5 im5 kp5 mn5 hMI hLk0 htx0) d_code_127 t_997 t_998 t_999 t_9 t_1000 ⟨by decide, by decide, by decide +kernel⟩ rfl (ci := 9) rfl hMo.1 hMo.2.1 ⟨rfl, hMo⟩ ⟨by show 3 + 1 ≤ R.frames; omega, by show 8 + (2 + 11) + 60 * 3 ≤ R.locals; omega⟩ (Nat.le_of_ble_eq_true rfl) ⟨Nat.zero_le _, Nat.zero_le _⟩ (fun v127 h r127 => ?_) (fun x127 h r127 => by obtain ⟨r9, x9, e9, -⟩ := r127; cases e9)
        obtain ⟨r9127, x1, e9, hMo1, hSm, hrel⟩ := r127
        cases e9
        have hs9 := hLC.s9 hSm
        replace hLC := hLC.sm hSm
        replace hQ := hQ.sm hs9.1 hs9.2
        obtain ⟨an2, S3, hStp2, hLk2, hmx, hw2, hrr⟩ := hrel
        obtain ⟨hae, hse⟩ := hStp.det hStp2
        rw [← hae] at hrr
        rw [← hse] at hLk2
        replace hfo := (hSm.2 ou hLC.2.2.2.2.2.1).trans hfo
        obtain ⟨u127, rfl, hthr, hans⟩ : ∃ u : Int32, v127 = some (.int u) ∧ x1.1 0 = x121 ∧ (x121 = 0 → f1 0 = u.toInt64) := by
          rcases hKA with ⟨g1, g2, g3⟩ | ⟨g1, g2⟩ | ⟨g1, g2⟩ <;> rcases hrr with ⟨w1, w2, w3⟩ | ⟨w1, w2, u, w3⟩ | ⟨w1, w2, u, w3⟩
          · exact ⟨_, w2, w3.trans g2.symm, fun _ => g3⟩
          · exact absurd (by rw [w1]; decide) g1
          · exact absurd (by rw [w1]; decide) g1
          · exact absurd (by rw [g1]; decide) w1
          · exact ⟨u, w3, w2.trans g2.symm, fun z => absurd (g2.symm.trans z) (by decide)⟩
          · exact absurd (g1.symm.trans w1) (by decide)
          · exact absurd (by rw [g1]; decide) w1
          · exact absurd (g1.symm.trans w1) (by decide)
          · exact ⟨u, w3, w2.trans g2.symm, fun z => absurd (g2.symm.trans z) (by decide)⟩
        clear hrr hKA hStp hStp2 hae hse
        refine g_istore cx (lv' := [(6, .int u127), (5, .int x121), (4, .int (nI (2 * N))), (3, .ref ou), (2, .ref am), (1, .ref a), (0, .ref b)]) d_code_130 (by decide) rfl ?_
        refine g_aload_n cx 4 d_code_132 rfl rfl ?_
        refine g_callV cx (As := []) (n := 0) (mc_thrown Cl.stb hAd5 x1) d_code_133 t_989 t_990 t_991 t_9 t_992 ⟨by decide, by decide, by decide +kernel⟩ rfl (ci := 9) rfl hMo1.1 hMo1.2.1 ⟨rfl, hMo1⟩ ⟨by show 0 + 1 ≤ R.frames; omega, by show 8 + (1 + 11) + 60 * 0 ≤ R.locals; omega⟩ (Nat.le_of_ble_eq_true rfl) ⟨Nat.zero_le _, Nat.zero_le _⟩ (fun v133 h r133 => ?_) (fun x133 h r133 => by obtain ⟨r9, x9, e9, -⟩ := r133; cases e9)
        obtain ⟨r9133, x2, e9, hMo2, hSm2, hrel2⟩ := r133
        cases e9
        obtain ⟨hr2, hx2⟩ := hrel2
        subst hr2
        rw [hx2] at hMo2
        replace hfo := (hSm2.2 ou hLC.2.2.2.2.2.1).trans hfo
        have hs92 := hLC.s9 hSm2
        replace hLC := hLC.sm hSm2
        replace hQ := hQ.sm hs92.1 hs92.2
        replace hLM : LM D am ad h 0 0 S2 := ⟨x1, hMo2, hmx, hw2, fun j hj => absurd hj (Nat.not_lt_zero _), hLk2⟩
        refine g_iload cx 1 d_code_136 rfl ?_
        refine g_icmp_eq cx d_code_138 rfl (fun c138 => ?_) (fun c138 => absurd hthr c138)
        refine g_iload cx 1 d_code_143 rfl ?_
        refine g_if_ne cx d_code_145 rfl (fun c145 => ?_) (fun c145 => ?_)
        · skip
          refine g_goto cx d_code_160 rfl ?_
          refine g_iinc cx 2 (lv' := [(4, .int (nI (2 * (N + 1)))), (6, .int u127), (5, .int x121), (3, .ref ou), (2, .ref am), (1, .ref a), (0, .ref b)]) d_code_342 rfl (inc2 N) (by decide) rfl ?_
          refine g_goto cx d_code_345 rfl ?_
          exact g_loc [0, 3, 4, 5, 6] rfl (ih (N + 1) (t + 2 * N + 2) 0 (B) (T) 0 _ _ _ _ _ _ K2 h _ _ (by omega) (by omega) (t_n ht) ⟨by omega, by omega⟩ (by omega) hLC hQ hLM (by first | (simp only [rmT, rmL, lookS]; omega) | omega) (by omega) (by first | (simp only [rmT, rmL, lookS]; omega) | omega))
        · skip
          refine g_aload_n cx 3 d_code_148 rfl rfl ?_
          refine g_iconst cx (v := 0) d_code_149 (by decide) ?_
          refine g_lald cx d_code_150 (by obtain ⟨-, -, ⟨v8, c8, b8⟩, -⟩ := id hLC; exact b8.2.2.2.1 ou (Or.inr rfl)) hfo (vp_in_nI (n := 0) (N := 1) (by decide) (by decide)) ?_
          refine g_iload cx 0 d_code_151 rfl ?_
          refine g_i2l cx d_code_153 ?_
          refine g_lcmp cx d_code_154 ?_
          refine g_if_eq cx d_code_155 rfl (fun c155 => ?_) (fun c155 => absurd (show lg_cmp (f1 0) (u127).toInt64 = 0 from (by rw [hans c145]; exact lgc_0 _)) c155)
          refine g_goto cx d_code_160 rfl ?_
          refine g_iinc cx 2 (lv' := [(4, .int (nI (2 * (N + 1)))), (6, .int u127), (5, .int x121), (3, .ref ou), (2, .ref am), (1, .ref a), (0, .ref b)]) d_code_342 rfl (inc2 N) (by decide) rfl ?_
          refine g_goto cx d_code_345 rfl ?_
          exact g_loc [0, 3, 4, 5, 6] rfl (ih (N + 1) (t + 2 * N + 2) 0 (B) (T) 0 _ _ _ _ _ _ K2 h _ _ (by omega) (by omega) (t_n ht) ⟨by omega, by omega⟩ (by omega) hLC hQ hLM (by first | (simp only [rmT, rmL, lookS]; omega) | omega) (by omega) (by first | (simp only [rmT, rmL, lookS]; omega) | omega))
      by_cases s2 : xk = 2
      · skip
        refine g_tableIn cx (off := 124) (tgt := 163) d_code_39 (by rw [s2]; decide +kernel) (by rw [s2]; decide +kernel) (by rw [s2]; decide +kernel) rfl ?_
        refine g_aload_n cx 3 d_code_163 rfl rfl ?_
        refine g_aload_n cx 4 d_code_164 rfl rfl ?_
        refine g_iload cx 0 d_code_165 rfl ?_
        refine g_iconst cx (v := 1) d_code_167 (by decide) ?_
        refine g_iadd cx d_code_168 ?_
        refine g_topi (fun m168 em168 => ?_)
        obtain rfl : m168 = nI (2 * N + 1) := em168.trans (nI_1 _)
        refine g_sld cx hX hbs hbz (j := 2 * N + 1) d_code_169 rfl (by omega) (by omega) ?_
        refine g_aload_n cx 1 d_code_170 rfl rfl ?_
        obtain ⟨hT, ha, ⟨vb, cap, hbk⟩, hou, hAd, hnm, hM9, hlrq⟩ := id hLC
        obtain ⟨la9, lr9, tr9, tn9, hed, -⟩ := TP.desk hT ha rfl
        by_cases hc0 : c0 = 0
        · skip
          refine g_callSH cx (As := [.ref a, .int (xs (2 * N + 1)), .ref ou]) (n := 3) (hl_look (K := K) (B := B) (T := T) (S := LSe am ad ou) (ab := (K a).2.1) (v := vb) (c0 := c0) (cap := cap) (cd := cd) (ou := ou) (Pk := PN) (Pr := fun h => Ty K h 1 a ∧ (K a).2.1 = (K a).2.1 ∧ BK D K h (LSe am ad ou) (K a).2.1 vb c0 cap cd) (Rl := RL D (LSe am ad ou) S2 (K a).2.1) (Φ := fun _ _ => True) (fun z => z.2.1 rfl) (fun _ _ _ q => ⟨q, trivial⟩) (fun _ _ _ _ _ q => q) (tc_look0 hc0 (by omega) htr)) d_code_171 t_822 t_823 t_0 t_824 ⟨by decide, by decide, by decide +kernel⟩ rfl ⟨rfl, hT, ha, rfl, hbk, hou, ⟨ha, rfl, hbk⟩⟩ ⟨by show 34 + 1 + 1 ≤ R.frames; omega, by show 8 + (4 + 11) + (60 * 34 + 40) ≤ R.locals; omega⟩ (Nat.le_of_ble_eq_true rfl) ⟨by simp only [rmT, lookS]; omega, by simp only [rmT, lookS]; omega⟩ (fun v171 h r171 => ?_) (fun x171 h r171 => by obtain ⟨K9, -, -, ⟨v9, e9⟩, -⟩ := r171; cases e9)
          obtain ⟨K2, hT2, ev, ⟨x171, e171⟩, ⟨v2, cap2, hbk2⟩, hou2, -⟩ := r171
          cases e171
          replace hQ := hQ.ev ev (xeQ (fun z hz => hz.elim (fun w => by rw [w]; exact hbk.2.1) (fun w => by rw [w]; exact hou.2.1)))
          replace ev := xnd ev
          replace hLM := hLM.ev ev hLC.nXO
          replace hLC := hLC.ev ev hT2 ⟨v2, cap2, hbk2⟩ hou2
          refine g_istore cx (lv' := [(5, .int x171), (4, .int (nI (2 * N))), (3, .ref ou), (2, .ref am), (1, .ref a), (0, .ref b)]) d_code_174 (by decide) rfl ?_
          refine g_aload_n cx 3 d_code_176 rfl rfl ?_
          refine g_aload_n cx 5 d_code_177 rfl rfl ?_
          refine g_iload cx 1 d_code_178 rfl ?_
          refine g_iconst cx (v := 1) d_code_180 (by decide) ?_
          refine g_iadd cx d_code_181 ?_
          refine g_topi (fun m181 em181 => ?_)
          obtain rfl : m181 = nI (2 * N + 1) := em181.trans (nI_1 _)
          refine g_sld cx hX hbs hbz (j := 2 * N + 1) d_code_182 rfl (by omega) (by omega) ?_
          obtain ⟨x0, hMo, hMI0, hw0, htx0, hLk0⟩ := id hLM
          obtain ⟨a5, r5, nm5, ld5, im5, kp5, mn5, hMI⟩ := id hMI0
          have hAd5 := hLC.2.2.2.2.1
          refine g_callV cx (As := [.int (xs (2 * N + 1))]) (n := 1) (mc_look Cl.stb hAd5 x0 (xs (2 * N + 1)) c0 hw0 hc30 a5 r5 nm5 ld5 im5 kp5 mn5 hMI) d_code_183 t_1074 t_1075 t_1076 t_9 t_1077 ⟨by decide, by decide, by decide +kernel⟩ rfl (ci := 9) rfl hMo.1 hMo.2.1 ⟨rfl, hMo⟩ ⟨by show 5 + 1 ≤ R.frames; omega, by show 8 + (5 + 11) + 60 * 5 ≤ R.locals; omega⟩ (Nat.le_of_ble_eq_true rfl) ⟨Nat.zero_le _, Nat.zero_le _⟩ (fun v183 h r183 => ?_) (fun x183 h r183 => by obtain ⟨r9, x9, e9, -⟩ := r183; cases e9)
          obtain ⟨r9183, x1, e9, hMo1, hSm, hrel⟩ := r183
          cases e9
          have hs9 := hLC.s9 hSm
          replace hLC := hLC.sm hSm
          replace hQ := hQ.sm hs9.1 hs9.2
          obtain ⟨⟨u183, rfl⟩, hx1, hx2⟩ := hrel
          replace hLM : LM D am ad h 0 0 S := ⟨x1, hMo1, hx1, hx2.1, fun j hj => absurd hj (Nat.not_lt_zero _), hLk0.kf hx2.2⟩
          refine g_istore cx (lv' := [(6, .int u183), (5, .int x171), (4, .int (nI (2 * N))), (3, .ref ou), (2, .ref am), (1, .ref a), (0, .ref b)]) d_code_186 (by decide) rfl ?_
          refine g_goto cx d_code_188 rfl ?_
          refine g_iinc cx 2 (lv' := [(4, .int (nI (2 * (N + 1)))), (6, .int u183), (5, .int x171), (3, .ref ou), (2, .ref am), (1, .ref a), (0, .ref b)]) d_code_342 rfl (inc2 N) (by decide) rfl ?_
          refine g_goto cx d_code_345 rfl ?_
          exact g_loc [0, 3, 4, 5, 6] rfl (ih (N + 1) (t + 2 * N + 2) 0 (B) (T) 0 _ _ _ _ _ _ K2 h _ _ (by omega) (by omega) (t_n ht) ⟨by omega, by omega⟩ (by omega) hLC hQ hLM (by first | (simp only [rmT, rmL, lookS]; omega) | omega) (by omega) (by first | (simp only [rmT, rmL, lookS]; omega) | omega))
        · skip
          refine g_callSH cx (As := [.ref a, .int (xs (2 * N + 1)), .ref ou]) (n := 3) (hl_look (K := K) (B := B) (T := T) (S := LSe am ad ou) (ab := (K a).2.1) (v := vb) (c0 := c0) (cap := cap) (cd := cd) (ou := ou) (Pk := PN) (Pr := fun h => Ty K h 1 a ∧ (K a).2.1 = (K a).2.1 ∧ BK D K h (LSe am ad ou) (K a).2.1 vb c0 cap cd) (Rl := RL D (LSe am ad ou) S2 (K a).2.1) (Φ := fun _ _ => True) (fun z => z.2.1 rfl) (fun _ _ _ q => ⟨q, trivial⟩) (fun _ _ _ _ _ q => q) (tc_look (by omega) (by omega) htr)) d_code_171 t_822 t_823 t_0 t_824 ⟨by decide, by decide, by decide +kernel⟩ rfl ⟨rfl, hT, ha, rfl, hbk, hou, ⟨ha, rfl, hbk⟩⟩ ⟨by show 34 + 1 + 1 ≤ R.frames; omega, by show 8 + (4 + 11) + (60 * 34 + 40) ≤ R.locals; omega⟩ (Nat.le_of_ble_eq_true rfl) ⟨by simp only [rmT]; omega, lk_cost (hBb.2.resolve_left hc0) (hF.resolve_left hc0) hq hN1 hrs⟩ (fun v171 h r171 => ?_) (fun x171 h r171 => by obtain ⟨K9, -, -, ⟨v9, e9⟩, -⟩ := r171; cases e9)
          obtain ⟨K2, hT2, ev, ⟨x171, e171⟩, ⟨v2, cap2, hbk2⟩, hou2, -⟩ := r171
          cases e171
          replace hQ := hQ.ev ev (xeQ (fun z hz => hz.elim (fun w => by rw [w]; exact hbk.2.1) (fun w => by rw [w]; exact hou.2.1)))
          replace ev := xnd ev
          replace hLM := hLM.ev ev hLC.nXO
          replace hLC := hLC.ev ev hT2 ⟨v2, cap2, hbk2⟩ hou2
          refine g_istore cx (lv' := [(5, .int x171), (4, .int (nI (2 * N))), (3, .ref ou), (2, .ref am), (1, .ref a), (0, .ref b)]) d_code_174 (by decide) rfl ?_
          refine g_aload_n cx 3 d_code_176 rfl rfl ?_
          refine g_aload_n cx 5 d_code_177 rfl rfl ?_
          refine g_iload cx 1 d_code_178 rfl ?_
          refine g_iconst cx (v := 1) d_code_180 (by decide) ?_
          refine g_iadd cx d_code_181 ?_
          refine g_topi (fun m181 em181 => ?_)
          obtain rfl : m181 = nI (2 * N + 1) := em181.trans (nI_1 _)
          refine g_sld cx hX hbs hbz (j := 2 * N + 1) d_code_182 rfl (by omega) (by omega) ?_
          obtain ⟨x0, hMo, hMI0, hw0, htx0, hLk0⟩ := id hLM
          obtain ⟨a5, r5, nm5, ld5, im5, kp5, mn5, hMI⟩ := id hMI0
          have hAd5 := hLC.2.2.2.2.1
          refine g_callV cx (As := [.int (xs (2 * N + 1))]) (n := 1) (mc_look Cl.stb hAd5 x0 (xs (2 * N + 1)) c0 hw0 hc30 a5 r5 nm5 ld5 im5 kp5 mn5 hMI) d_code_183 t_1074 t_1075 t_1076 t_9 t_1077 ⟨by decide, by decide, by decide +kernel⟩ rfl (ci := 9) rfl hMo.1 hMo.2.1 ⟨rfl, hMo⟩ ⟨by show 5 + 1 ≤ R.frames; omega, by show 8 + (5 + 11) + 60 * 5 ≤ R.locals; omega⟩ (Nat.le_of_ble_eq_true rfl) ⟨Nat.zero_le _, Nat.zero_le _⟩ (fun v183 h r183 => ?_) (fun x183 h r183 => by obtain ⟨r9, x9, e9, -⟩ := r183; cases e9)
          obtain ⟨r9183, x1, e9, hMo1, hSm, hrel⟩ := r183
          cases e9
          have hs9 := hLC.s9 hSm
          replace hLC := hLC.sm hSm
          replace hQ := hQ.sm hs9.1 hs9.2
          obtain ⟨⟨u183, rfl⟩, hx1, hx2⟩ := hrel
          replace hLM : LM D am ad h 0 0 S := ⟨x1, hMo1, hx1, hx2.1, fun j hj => absurd hj (Nat.not_lt_zero _), hLk0.kf hx2.2⟩
          refine g_istore cx (lv' := [(6, .int u183), (5, .int x171), (4, .int (nI (2 * N))), (3, .ref ou), (2, .ref am), (1, .ref a), (0, .ref b)]) d_code_186 (by decide) rfl ?_
          refine g_goto cx d_code_188 rfl ?_
          refine g_iinc cx 2 (lv' := [(4, .int (nI (2 * (N + 1)))), (6, .int u183), (5, .int x171), (3, .ref ou), (2, .ref am), (1, .ref a), (0, .ref b)]) d_code_342 rfl (inc2 N) (by decide) rfl ?_
          refine g_goto cx d_code_345 rfl ?_
          exact g_loc [0, 3, 4, 5, 6] rfl (ih (N + 1) (t + 2 * N + 2) 0 (B + 8) (T + 40) 0 _ _ _ _ _ _ K2 h _ _ (by omega) (by omega) (t_n ht) ⟨by omega, by omega⟩ (by omega) hLC hQ hLM (by first | (simp only [rmT, rmL, lookS]; omega) | omega) (by omega) (lk_cost2 (hBb.2.resolve_left hc0) (hF.resolve_left hc0) hq hN1 hrs))
      by_cases s3 : xk = 3
      · skip
        refine g_tableIn cx (off := 152) (tgt := 191) d_code_39 (by rw [s3]; decide +kernel) (by rw [s3]; decide +kernel) (by rw [s3]; decide +kernel) rfl ?_
        refine g_aload_n cx 3 d_code_191 rfl rfl ?_
        obtain ⟨hT, ha, ⟨vb, cap, hbk⟩, hou, hAd, hnm, hM9, hlrq⟩ := id hLC
        obtain ⟨la9, lr9, tr9, tn9, hed, -⟩ := TP.desk hT ha rfl
        refine g_callV cx (As := []) (n := 0) (pt_many (K := K) (B := B) (T := T)) d_code_192 t_219 t_220 t_221 t_1 t_222 ⟨by decide, by decide, by decide +kernel⟩ rfl (ci := 0) rfl ha.1 hed ⟨rfl, hT, ha⟩ ⟨by show 0 + 1 ≤ R.frames; omega, by show 8 + (1 + 11) + 60 * 0 ≤ R.locals; omega⟩ (Nat.le_of_ble_eq_true rfl) ⟨Nat.zero_le _, Nat.zero_le _⟩ (fun v192 h r192 => ?_) (fun x192 h r192 => by obtain ⟨-, v9, e9, -⟩ := r192; cases e9)
        obtain ⟨rfl, wo192, e192, r192⟩ := r192
        cases e192
        obtain ⟨x192, rfl⟩ := r192
        refine g_pop cx d_code_195 rfl ?_
        refine g_aload_n cx 2 d_code_196 rfl rfl ?_
        obtain ⟨x0, hMo, hMI0, hw0, htx0, hLk0⟩ := id hLM
        obtain ⟨a5, r5, nm5, ld5, im5, kp5, mn5, hMI⟩ := id hMI0
        have hAd5 := hLC.2.2.2.2.1
        refine g_callV cx (As := []) (n := 0) (mc_many Cl.stb hAd5 x0) d_code_197 t_1129 t_1130 t_1131 t_9 t_1132 ⟨by decide, by decide, by decide +kernel⟩ rfl (ci := 9) rfl hMo.1 hMo.2.1 ⟨rfl, hMo⟩ ⟨by show 0 + 1 ≤ R.frames; omega, by show 8 + (1 + 11) + 60 * 0 ≤ R.locals; omega⟩ (Nat.le_of_ble_eq_true rfl) ⟨Nat.zero_le _, Nat.zero_le _⟩ (fun v197 h r197 => ?_) (fun x197 h r197 => by obtain ⟨r9, x9, e9, -⟩ := r197; cases e9)
        obtain ⟨r9197, x1, e9, hMo1, hSm, hrel⟩ := r197
        cases e9
        have hs9 := hLC.s9 hSm
        replace hLC := hLC.sm hSm
        replace hQ := hQ.sm hs9.1 hs9.2
        obtain ⟨rfl, hx1⟩ := hrel
        replace hLM : LM D am ad h c0 cd S := ⟨x1, hMo1, by rw [hx1]; exact mi_s0 hMI0, by rw [hx1]; exact hw0, by rw [hx1]; exact htx0, by rw [hx1]; exact hLk0.kf kp_s0⟩
        refine g_topi (fun u197 eu197 => ?_)
        refine g_pop cx d_code_200 rfl ?_
        refine g_goto cx d_code_201 rfl ?_
        refine g_iinc cx 0 (lv' := [(4, .int (nI (2 * (N + 1)))), (3, .ref ou), (2, .ref am), (1, .ref a), (0, .ref b)]) d_code_342 rfl (inc2 N) (by decide) rfl ?_
        refine g_goto cx d_code_345 rfl ?_
        exact g_loc [0, 1, 2, 3, 4] rfl (ih (N + 1) (t + 2 * N + 2) c0 (B) (T) (F + 24) _ _ _ _ _ _ K h _ _ (by omega) (by omega) (t_n ht) ⟨by omega, by omega⟩ (by omega) hLC hQ hLM (by first | (simp only [rmT, rmL, lookS]; omega) | omega) (by omega) (by first | (simp only [rmT, rmL, lookS]; omega) | omega))
      by_cases s4 : xk = 4
      · skip
        refine g_tableIn cx (off := 165) (tgt := 204) d_code_39 (by rw [s4]; decide +kernel) (by rw [s4]; decide +kernel) (by rw [s4]; decide +kernel) rfl ?_
        refine g_aload_n cx 3 d_code_204 rfl rfl ?_
        refine g_aload_n cx 4 d_code_205 rfl rfl ?_
        refine g_iload cx 0 d_code_206 rfl ?_
        refine g_iconst cx (v := 1) d_code_208 (by decide) ?_
        refine g_iadd cx d_code_209 ?_
        refine g_topi (fun m209 em209 => ?_)
        obtain rfl : m209 = nI (2 * N + 1) := em209.trans (nI_1 _)
        refine g_sld cx hX hbs hbz (j := 2 * N + 1) d_code_210 rfl (by omega) (by omega) ?_
        obtain ⟨hT, ha, ⟨vb, cap, hbk⟩, hou, hAd, hnm, hM9, hlrq⟩ := id hLC
        obtain ⟨la9, lr9, tr9, tn9, hed, -⟩ := TP.desk hT ha rfl
        refine g_callV cx (As := [.int (xs (2 * N + 1))]) (n := 1) (pt_asked (K := K) (B := B) (T := T) (v0 := xs (2 * N + 1))) d_code_211 t_223 t_224 t_225 t_1 t_226 ⟨by decide, by decide, by decide +kernel⟩ rfl (ci := 0) rfl ha.1 hed ⟨rfl, hT, ha⟩ ⟨by show 0 + 1 ≤ R.frames; omega, by show 8 + (2 + 11) + 60 * 0 ≤ R.locals; omega⟩ (Nat.le_of_ble_eq_true rfl) ⟨Nat.zero_le _, Nat.zero_le _⟩ (fun v211 h r211 => ?_) (fun x211 h r211 => by obtain ⟨-, v9, e9, -⟩ := r211; cases e9)
        obtain ⟨rfl, wo211, e211, r211⟩ := r211
        cases e211
        obtain ⟨x211, rfl⟩ := r211
        refine g_pop cx d_code_214 rfl ?_
        refine g_aload_n cx 2 d_code_215 rfl rfl ?_
        refine g_aload_n cx 4 d_code_216 rfl rfl ?_
        refine g_iload cx 0 d_code_217 rfl ?_
        refine g_iconst cx (v := 1) d_code_219 (by decide) ?_
        refine g_iadd cx d_code_220 ?_
        refine g_topi (fun m220 em220 => ?_)
        obtain rfl : m220 = nI (2 * N + 1) := em220.trans (nI_1 _)
        refine g_sld cx hX hbs hbz (j := 2 * N + 1) d_code_221 rfl (by omega) (by omega) ?_
        obtain ⟨x0, hMo, hMI0, hw0, htx0, hLk0⟩ := id hLM
        obtain ⟨a5, r5, nm5, ld5, im5, kp5, mn5, hMI⟩ := id hMI0
        have hAd5 := hLC.2.2.2.2.1
        refine g_callV cx (As := [.int (xs (2 * N + 1))]) (n := 1) (mc_asked Cl.stb hAd5 x0 (xs (2 * N + 1))) d_code_222 t_1133 t_1134 t_1135 t_9 t_1136 ⟨by decide, by decide, by decide +kernel⟩ rfl (ci := 9) rfl hMo.1 hMo.2.1 ⟨rfl, hMo⟩ ⟨by show 0 + 1 ≤ R.frames; omega, by show 8 + (2 + 11) + 60 * 0 ≤ R.locals; omega⟩ (Nat.le_of_ble_eq_true rfl) ⟨Nat.zero_le _, Nat.zero_le _⟩ (fun v222 h r222 => ?_) (fun x222 h r222 => by obtain ⟨r9, x9, e9, -⟩ := r222; cases e9)
        obtain ⟨r9222, x1, e9, hMo1, hSm, hrel⟩ := r222
        cases e9
        have hs9 := hLC.s9 hSm
        replace hLC := hLC.sm hSm
        replace hQ := hQ.sm hs9.1 hs9.2
        obtain ⟨⟨u222, rfl⟩, hx1⟩ := hrel
        replace hLM : LM D am ad h c0 cd S := ⟨x1, hMo1, by rw [hx1]; exact mi_s0 hMI0, by rw [hx1]; exact hw0, by rw [hx1]; exact htx0, by rw [hx1]; exact hLk0.kf kp_s0⟩
        refine g_pop cx d_code_225 rfl ?_
        refine g_goto cx d_code_226 rfl ?_
        refine g_iinc cx 0 (lv' := [(4, .int (nI (2 * (N + 1)))), (3, .ref ou), (2, .ref am), (1, .ref a), (0, .ref b)]) d_code_342 rfl (inc2 N) (by decide) rfl ?_
        refine g_goto cx d_code_345 rfl ?_
        exact g_loc [0, 1, 2, 3, 4] rfl (ih (N + 1) (t + 2 * N + 2) c0 (B) (T) (F + 24) _ _ _ _ _ _ K h _ _ (by omega) (by omega) (t_n ht) ⟨by omega, by omega⟩ (by omega) hLC hQ hLM (by first | (simp only [rmT, rmL, lookS]; omega) | omega) (by omega) (by first | (simp only [rmT, rmL, lookS]; omega) | omega))
      by_cases s5 : xk = 5
      · skip
        refine g_tableIn cx (off := 190) (tgt := 229) d_code_39 (by rw [s5]; decide +kernel) (by rw [s5]; decide +kernel) (by rw [s5]; decide +kernel) rfl ?_
        refine g_aload_n cx 3 d_code_229 rfl rfl ?_
        refine g_aload_n cx 4 d_code_230 rfl rfl ?_
        refine g_iload cx 0 d_code_231 rfl ?_
        refine g_iconst cx (v := 1) d_code_233 (by decide) ?_
        refine g_iadd cx d_code_234 ?_
        refine g_topi (fun m234 em234 => ?_)
        obtain rfl : m234 = nI (2 * N + 1) := em234.trans (nI_1 _)
        refine g_sld cx hX hbs hbz (j := 2 * N + 1) d_code_235 rfl (by omega) (by omega) ?_
        obtain ⟨hT, ha, ⟨vb, cap, hbk⟩, hou, hAd, hnm, hM9, hlrq⟩ := id hLC
        obtain ⟨la9, lr9, tr9, tn9, hed, -⟩ := TP.desk hT ha rfl
        refine g_callV cx (As := [.int (xs (2 * N + 1))]) (n := 1) (pt_keptN (K := K) (B := B) (T := T) (v0 := xs (2 * N + 1)) (by omega)) d_code_236 t_227 t_228 t_229 t_1 t_230 ⟨by decide, by decide, by decide +kernel⟩ rfl (ci := 0) rfl ha.1 hed ⟨rfl, hT, ha⟩ ⟨by show 7 + 1 ≤ R.frames; omega, by show 8 + (2 + 11) + 60 * 7 ≤ R.locals; omega⟩ (Nat.le_of_ble_eq_true rfl) ⟨Nat.zero_le _, Nat.zero_le _⟩ (fun v236 h r236 => ?_) (fun x236 h r236 => by obtain ⟨-, v9, e9, -⟩ := r236; cases e9)
        obtain ⟨rfl, wo236, e236, r236⟩ := r236
        cases e236
        obtain ⟨x236, rfl⟩ := r236
        refine g_pop cx d_code_239 rfl ?_
        refine g_aload_n cx 2 d_code_240 rfl rfl ?_
        refine g_aload_n cx 4 d_code_241 rfl rfl ?_
        refine g_iload cx 0 d_code_242 rfl ?_
        refine g_iconst cx (v := 1) d_code_244 (by decide) ?_
        refine g_iadd cx d_code_245 ?_
        refine g_topi (fun m245 em245 => ?_)
        obtain rfl : m245 = nI (2 * N + 1) := em245.trans (nI_1 _)
        refine g_sld cx hX hbs hbz (j := 2 * N + 1) d_code_246 rfl (by omega) (by omega) ?_
        obtain ⟨x0, hMo, hMI0, hw0, htx0, hLk0⟩ := id hLM
        obtain ⟨a5, r5, nm5, ld5, im5, kp5, mn5, hMI⟩ := id hMI0
        have hAd5 := hLC.2.2.2.2.1
        refine g_callV cx (As := [.int (xs (2 * N + 1))]) (n := 1) (mc_kept Cl.stb hAd5 x0 (xs (2 * N + 1)) r5 hMI.2.1.1 hMI.2.1.2) d_code_247 t_1137 t_1138 t_1139 t_9 t_1140 ⟨by decide, by decide, by decide +kernel⟩ rfl (ci := 9) rfl hMo.1 hMo.2.1 ⟨rfl, hMo⟩ ⟨by show 1 + 1 ≤ R.frames; omega, by show 8 + (2 + 11) + 60 * 1 ≤ R.locals; omega⟩ (Nat.le_of_ble_eq_true rfl) ⟨Nat.zero_le _, Nat.zero_le _⟩ (fun v247 h r247 => ?_) (fun x247 h r247 => by obtain ⟨r9, x9, e9, -⟩ := r247; cases e9)
        obtain ⟨r9247, x1, e9, hMo1, hSm, hrel⟩ := r247
        cases e9
        have hs9 := hLC.s9 hSm
        replace hLC := hLC.sm hSm
        replace hQ := hQ.sm hs9.1 hs9.2
        obtain ⟨⟨u247, rfl⟩, hx1⟩ := hrel
        replace hLM : LM D am ad h c0 cd S := ⟨x1, hMo1, by rw [hx1]; exact mi_s0 hMI0, by rw [hx1]; exact hw0, by rw [hx1]; exact htx0, by rw [hx1]; exact hLk0.kf kp_s0⟩
        refine g_pop cx d_code_250 rfl ?_
        refine g_goto cx d_code_251 rfl ?_
        refine g_iinc cx 0 (lv' := [(4, .int (nI (2 * (N + 1)))), (3, .ref ou), (2, .ref am), (1, .ref a), (0, .ref b)]) d_code_342 rfl (inc2 N) (by decide) rfl ?_
        refine g_goto cx d_code_345 rfl ?_
        exact g_loc [0, 1, 2, 3, 4] rfl (ih (N + 1) (t + 2 * N + 2) c0 (B) (T) (F + 24) _ _ _ _ _ _ K h _ _ (by omega) (by omega) (t_n ht) ⟨by omega, by omega⟩ (by omega) hLC hQ hLM (by first | (simp only [rmT, rmL, lookS]; omega) | omega) (by omega) (by first | (simp only [rmT, rmL, lookS]; omega) | omega))
      by_cases s6 : xk = 6
      · skip
        refine g_tableIn cx (off := 215) (tgt := 254) d_code_39 (by rw [s6]; decide +kernel) (by rw [s6]; decide +kernel) (by rw [s6]; decide +kernel) rfl ?_
        refine g_aload_n cx 3 d_code_254 rfl rfl ?_
        refine g_aload_n cx 4 d_code_255 rfl rfl ?_
        refine g_iload cx 0 d_code_256 rfl ?_
        refine g_iconst cx (v := 1) d_code_258 (by decide) ?_
        refine g_iadd cx d_code_259 ?_
        refine g_topi (fun m259 em259 => ?_)
        obtain rfl : m259 = nI (2 * N + 1) := em259.trans (nI_1 _)
        refine g_sld cx hX hbs hbz (j := 2 * N + 1) d_code_260 rfl (by omega) (by omega) ?_
        obtain ⟨hT, ha, ⟨vb, cap, hbk⟩, hou, hAd, hnm, hM9, hlrq⟩ := id hLC
        obtain ⟨la9, lr9, tr9, tn9, hed, -⟩ := TP.desk hT ha rfl
        refine g_callV cx (As := [.int (xs (2 * N + 1))]) (n := 1) (pt_used (K := K) (B := B) (T := T) (v0 := xs (2 * N + 1)) (by omega)) d_code_261 t_252 t_253 t_254 t_1 t_255 ⟨by decide, by decide, by decide +kernel⟩ rfl (ci := 0) rfl ha.1 hed ⟨rfl, hT, ha⟩ ⟨by show 6 + 1 ≤ R.frames; omega, by show 8 + (2 + 11) + 60 * 6 ≤ R.locals; omega⟩ (Nat.le_of_ble_eq_true rfl) ⟨Nat.zero_le _, Nat.zero_le _⟩ (fun v261 h r261 => ?_) (fun x261 h r261 => by obtain ⟨-, v9, e9, -⟩ := r261; cases e9)
        obtain ⟨rfl, wo261, e261, r261⟩ := r261
        cases e261
        obtain ⟨x261, rfl⟩ := r261
        refine g_pop cx d_code_264 rfl ?_
        refine g_aload_n cx 2 d_code_265 rfl rfl ?_
        refine g_aload_n cx 4 d_code_266 rfl rfl ?_
        refine g_iload cx 0 d_code_267 rfl ?_
        refine g_iconst cx (v := 1) d_code_269 (by decide) ?_
        refine g_iadd cx d_code_270 ?_
        refine g_topi (fun m270 em270 => ?_)
        obtain rfl : m270 = nI (2 * N + 1) := em270.trans (nI_1 _)
        refine g_sld cx hX hbs hbz (j := 2 * N + 1) d_code_271 rfl (by omega) (by omega) ?_
        obtain ⟨x0, hMo, hMI0, hw0, htx0, hLk0⟩ := id hLM
        obtain ⟨a5, r5, nm5, ld5, im5, kp5, mn5, hMI⟩ := id hMI0
        have hAd5 := hLC.2.2.2.2.1
        refine g_callV cx (As := [.int (xs (2 * N + 1))]) (n := 1) (mc_used Cl.stb hAd5 x0 (xs (2 * N + 1)) a5 hMI.1.1 hMI.1.2) d_code_272 t_1145 t_1146 t_1147 t_9 t_1148 ⟨by decide, by decide, by decide +kernel⟩ rfl (ci := 9) rfl hMo.1 hMo.2.1 ⟨rfl, hMo⟩ ⟨by show 0 + 1 ≤ R.frames; omega, by show 8 + (2 + 11) + 60 * 0 ≤ R.locals; omega⟩ (Nat.le_of_ble_eq_true rfl) ⟨Nat.zero_le _, Nat.zero_le _⟩ (fun v272 h r272 => ?_) (fun x272 h r272 => by obtain ⟨r9, x9, e9, -⟩ := r272; cases e9)
        obtain ⟨r9272, x1, e9, hMo1, hSm, hrel⟩ := r272
        cases e9
        have hs9 := hLC.s9 hSm
        replace hLC := hLC.sm hSm
        replace hQ := hQ.sm hs9.1 hs9.2
        obtain ⟨⟨u272, rfl⟩, hx1⟩ := hrel
        replace hLM : LM D am ad h c0 cd S := ⟨x1, hMo1, by rw [hx1]; exact mi_s0 hMI0, by rw [hx1]; exact hw0, by rw [hx1]; exact htx0, by rw [hx1]; exact hLk0.kf kp_s0⟩
        refine g_pop cx d_code_275 rfl ?_
        refine g_goto cx d_code_276 rfl ?_
        refine g_iinc cx 0 (lv' := [(4, .int (nI (2 * (N + 1)))), (3, .ref ou), (2, .ref am), (1, .ref a), (0, .ref b)]) d_code_342 rfl (inc2 N) (by decide) rfl ?_
        refine g_goto cx d_code_345 rfl ?_
        exact g_loc [0, 1, 2, 3, 4] rfl (ih (N + 1) (t + 2 * N + 2) c0 (B) (T) (F + 24) _ _ _ _ _ _ K h _ _ (by omega) (by omega) (t_n ht) ⟨by omega, by omega⟩ (by omega) hLC hQ hLM (by first | (simp only [rmT, rmL, lookS]; omega) | omega) (by omega) (by first | (simp only [rmT, rmL, lookS]; omega) | omega))
      by_cases s7 : xk = 7
      · skip
        refine g_tableIn cx (off := 240) (tgt := 279) d_code_39 (by rw [s7]; decide +kernel) (by rw [s7]; decide +kernel) (by rw [s7]; decide +kernel) rfl ?_
        refine g_aload_n cx 3 d_code_279 rfl rfl ?_
        refine g_aload_n cx 4 d_code_280 rfl rfl ?_
        refine g_iload cx 0 d_code_281 rfl ?_
        refine g_iconst cx (v := 1) d_code_283 (by decide) ?_
        refine g_iadd cx d_code_284 ?_
        refine g_topi (fun m284 em284 => ?_)
        obtain rfl : m284 = nI (2 * N + 1) := em284.trans (nI_1 _)
        refine g_sld cx hX hbs hbz (j := 2 * N + 1) d_code_285 rfl (by omega) (by omega) ?_
        obtain ⟨hT, ha, ⟨vb, cap, hbk⟩, hou, hAd, hnm, hM9, hlrq⟩ := id hLC
        obtain ⟨la9, lr9, tr9, tn9, hed, -⟩ := TP.desk hT ha rfl
        refine g_callV cx (As := [.int (xs (2 * N + 1))]) (n := 1) (tc_dropF (K := K) (B := B) (T := T) (v0 := xs (2 * N + 1)) (lr := lr) (S := S) (rz := rz) (az := az) (nt := nt) (by omega)) d_code_286 t_257 t_258 t_259 t_1 t_260 ⟨by decide, by decide, by decide +kernel⟩ rfl (ci := 0) rfl ha.1 hed ⟨rfl, hT, ha, hlrq, hQ⟩ ⟨by show 7 + 1 ≤ R.frames; omega, by show 8 + (2 + 11) + 60 * 7 ≤ R.locals; omega⟩ (Nat.le_of_ble_eq_true rfl) ⟨Nat.zero_le _, Nat.zero_le _⟩ (fun v286 h r286 => ?_) (fun x286 h r286 => by rcases r286 with ⟨j9, e9, -, -, -, z9, -⟩ | ⟨-, z9, -⟩ <;> cases z9)
        obtain ⟨K2, S2, x286, e286, hLC, hLM, hQ, hans⟩ : ∃ (K2 : KM) (S2 : SL) (x : Int32), v286 = some (.int x) ∧ LC D z0 k a am ou ad K2 B T h c0 cd lr ∧ LM D am ad h c0 cd S ∧ CQ D k K2 h lr S2 rz az nt ∧ ((∃ j, j < S 0 0 ∧ xs (2 * N + 1) = nI j ∧ S 3 j = 0 ∧ S2 = dropS S j) ∨ ((∀ t, t < S 0 0 → xs (2 * N + 1) = nI t → ¬ S 3 t = 0) ∧ S2 = S)) := by
          rcases r286 with ⟨j, e9, hj, hv, hg, z9, hh, hT2⟩ | ⟨hh, z9, hno⟩
          · cases z9
            subst hh
            exact ⟨_, dropS S j, 1, rfl, hLC.dr (hQ.1.2.1 j hj).1 hT2, hLM.hp rfl (fun z hz => va_up_ne _ _ (fun x => by have h9 := hM9 z hz; rw [x, (hQ.1.2.1 j hj).1.2] at h9; exact absurd h9 (by decide))), hQ.drop hj, Or.inl ⟨j, hj, hv, hg, rfl⟩⟩
          · cases z9
            subst hh
            exact ⟨K, S, 0, rfl, hLC, hLM, hQ, Or.inr ⟨hno, rfl⟩⟩
        subst e286
        refine g_pop cx d_code_289 rfl ?_
        refine g_aload_n cx 2 d_code_290 rfl rfl ?_
        refine g_aload_n cx 4 d_code_291 rfl rfl ?_
        refine g_iload cx 0 d_code_292 rfl ?_
        refine g_iconst cx (v := 1) d_code_294 (by decide) ?_
        refine g_iadd cx d_code_295 ?_
        refine g_topi (fun m295 em295 => ?_)
        obtain rfl : m295 = nI (2 * N + 1) := em295.trans (nI_1 _)
        refine g_sld cx hX hbs hbz (j := 2 * N + 1) d_code_296 rfl (by omega) (by omega) ?_
        obtain ⟨x0, hMo, hMI0, hw0, htx0, hLk0⟩ := id hLM
        obtain ⟨a5, r5, nm5, ld5, im5, kp5, mn5, hMI⟩ := id hMI0
        have hAd5 := hLC.2.2.2.2.1
        refine g_callV cx (As := [.int (xs (2 * N + 1))]) (n := 1) (mc_dropF Cl.stb hAd5 x0 (xs (2 * N + 1)) (S 0 0) hLk0.1.2 hLk0.1.1) d_code_297 t_1149 t_1150 t_1151 t_9 t_1152 ⟨by decide, by decide, by decide +kernel⟩ rfl (ci := 9) rfl hMo.1 hMo.2.1 ⟨rfl, hMo⟩ ⟨by show 1 + 1 ≤ R.frames; omega, by show 8 + (2 + 11) + 60 * 1 ≤ R.locals; omega⟩ (Nat.le_of_ble_eq_true rfl) ⟨Nat.zero_le _, Nat.zero_le _⟩ (fun v297 h r297 => ?_) (fun x297 h r297 => by obtain ⟨r9, x9, e9, -⟩ := r297; cases e9)
        obtain ⟨r9297, x1, e9, hMo1, hSm, hrel⟩ := r297
        cases e9
        have hs9 := hLC.s9 hSm
        replace hLC := hLC.sm hSm
        replace hQ := hQ.sm hs9.1 hs9.2
        
        obtain ⟨u297, rfl, hLM⟩ : ∃ u : Int32, v297 = some (.int u) ∧ LM D am ad h c0 cd S2 := by
          rcases hrel with ⟨g1, j, hj, hv, h22, hx1⟩ | ⟨g1, hno, hx1⟩
          · rcases hans with ⟨i, hi, hiv, hig, hgq⟩ | ⟨w2, hgq⟩
            · have e9 : j = i := (nI_eq (by have := hLk0.1.1; omega) (by have := hLk0.1.1; omega)).mp (hv.symm.trans hiv)
              rw [e9] at hx1
              refine ⟨1, g1, x1, hMo1, by rw [hx1]; exact mi_dr hMI0, by rw [hx1]; exact hw0, by rw [hx1]; exact htx0, ?_⟩
              rw [hx1, hgq]
              exact hLk0.drop hi
            · exact absurd ((hLk0.w hj).mp h22) (w2 j hj hv)
          · rcases hans with ⟨i, hi, hiv, hig, hgq⟩ | ⟨w2, hgq⟩
            · exact absurd ((hLk0.w hi).mpr hig) (hno i hi hiv)
            · refine ⟨0, g1, x1, hMo1, by rw [hx1]; exact mi_s0 hMI0, by rw [hx1]; exact hw0, by rw [hx1]; exact htx0, ?_⟩
              rw [hx1, hgq]
              exact hLk0.kf kp_s0
        clear hans hrel
        refine g_pop cx d_code_300 rfl ?_
        refine g_goto cx d_code_301 rfl ?_
        refine g_iinc cx 0 (lv' := [(4, .int (nI (2 * (N + 1)))), (3, .ref ou), (2, .ref am), (1, .ref a), (0, .ref b)]) d_code_342 rfl (inc2 N) (by decide) rfl ?_
        refine g_goto cx d_code_345 rfl ?_
        exact g_loc [0, 1, 2, 3, 4] rfl (ih (N + 1) (t + 2 * N + 2) c0 (B) (T) (F + 24) _ _ _ _ _ _ K2 h _ _ (by omega) (by omega) (t_n ht) ⟨by omega, by omega⟩ (by omega) hLC hQ hLM (by first | (simp only [rmT, rmL, lookS]; omega) | omega) (by omega) (by first | (simp only [rmT, rmL, lookS]; omega) | omega))
      by_cases s8 : xk = 8
      · skip
        refine g_tableIn cx (off := 265) (tgt := 304) d_code_39 (by rw [s8]; decide +kernel) (by rw [s8]; decide +kernel) (by rw [s8]; decide +kernel) rfl ?_
        refine g_aload_n cx 3 d_code_304 rfl rfl ?_
        obtain ⟨hT, ha, ⟨vb, cap, hbk⟩, hou, hAd, hnm, hM9, hlrq⟩ := id hLC
        obtain ⟨la9, lr9, tr9, tn9, hed, -⟩ := TP.desk hT ha rfl
        refine g_callV cx (As := []) (n := 0) (tc_realmQ (K := K) (B := B) (T := T) (S := LSe am ad ou) (ab := (K a).2.1) (v := vb) (c0 := c0) (cap := cap) (cd := cd) (by omega)) d_code_305 t_261 t_262 t_263 t_1 t_264 ⟨by decide, by decide, by decide +kernel⟩ rfl (ci := 0) rfl ha.1 hed ⟨rfl, hT, ha, rfl, hbk⟩ ⟨by show 12 + 1 ≤ R.frames; omega, by show 8 + (2 + 11) + 60 * 12 ≤ R.locals; omega⟩ (Nat.le_of_ble_eq_true rfl) ⟨by simp only [rmT, lookS]; omega, by simp only [rmT, lookS]; omega⟩ (fun v305 h r305 => ?_) (fun x305 h r305 => by obtain ⟨K9, -, -, ⟨v9, e9⟩, -⟩ := r305; cases e9)
        obtain ⟨K2, hT2, ev, ⟨x305, e305⟩, v2, cap2, hbk2⟩ := r305
        cases e305
        replace hQ := hQ.ev ev (xeQ (fun z hz => by rw [hz]; exact hbk.2.1))
        replace ev := xnd ev
        replace hLM := hLM.ev ev (fun z hz => hLC.nX z (Or.inl hz))
        replace hLC := hLC.ev ev hT2 ⟨v2, cap2, hbk2⟩ (by obtain ⟨f, hf⟩ := hou.2.2; exact ⟨f, ((ev.1 ou (hbk.2.2.2.1 ou (Or.inr rfl))).2.2 (hLC.nX ou (Or.inr rfl))).2.trans hf⟩)
        refine g_pop cx d_code_308 rfl ?_
        refine g_aload_n cx 2 d_code_309 rfl rfl ?_
        obtain ⟨x0, hMo, hMI0, hw0, htx0, hLk0⟩ := id hLM
        obtain ⟨a5, r5, nm5, ld5, im5, kp5, mn5, hMI⟩ := id hMI0
        have hAd5 := hLC.2.2.2.2.1
        refine g_callV cx (As := []) (n := 0) (mc_realm Cl.stb hAd5 x0 c0 hw0 hc30 a5 r5 nm5 ld5 im5 kp5 mn5 hMI) d_code_310 t_1153 t_1154 t_1155 t_9 t_1156 ⟨by decide, by decide, by decide +kernel⟩ rfl (ci := 9) rfl hMo.1 hMo.2.1 ⟨rfl, hMo⟩ ⟨by show 3 + 1 ≤ R.frames; omega, by show 8 + (2 + 11) + 60 * 3 ≤ R.locals; omega⟩ (Nat.le_of_ble_eq_true rfl) ⟨Nat.zero_le _, Nat.zero_le _⟩ (fun v310 h r310 => ?_) (fun x310 h r310 => by obtain ⟨r9, x9, e9, -⟩ := r310; cases e9)
        obtain ⟨r9310, x1, e9, hMo1, hSm, hrel⟩ := r310
        cases e9
        have hs9 := hLC.s9 hSm
        replace hLC := hLC.sm hSm
        replace hQ := hQ.sm hs9.1 hs9.2
        obtain ⟨⟨u310, rfl⟩, hx1, hx2⟩ := hrel
        replace hLM : LM D am ad h 0 0 S := ⟨x1, hMo1, hx1, hx2.1, fun j hj => absurd hj (Nat.not_lt_zero _), hLk0.kf hx2.2⟩
        refine g_pop cx d_code_313 rfl ?_
        refine g_goto cx d_code_314 rfl ?_
        refine g_iinc cx 0 (lv' := [(4, .int (nI (2 * (N + 1)))), (3, .ref ou), (2, .ref am), (1, .ref a), (0, .ref b)]) d_code_342 rfl (inc2 N) (by decide) rfl ?_
        refine g_goto cx d_code_345 rfl ?_
        exact g_loc [0, 1, 2, 3, 4] rfl (ih (N + 1) (t + 2 * N + 2) 0 (B) (T) 0 _ _ _ _ _ _ K2 h _ _ (by omega) (by omega) (t_n ht) ⟨by omega, by omega⟩ (by omega) hLC hQ hLM (by first | (simp only [rmT, rmL, lookS]; omega) | omega) (by omega) (by first | (simp only [rmT, rmL, lookS]; omega) | omega))
      by_cases s9 : xk = 9
      · skip
        refine g_tableIn cx (off := 278) (tgt := 317) d_code_39 (by rw [s9]; decide +kernel) (by rw [s9]; decide +kernel) (by rw [s9]; decide +kernel) rfl ?_
        refine g_aload_n cx 3 d_code_317 rfl rfl ?_
        refine g_aload_n cx 4 d_code_318 rfl rfl ?_
        refine g_iload cx 0 d_code_319 rfl ?_
        refine g_iconst cx (v := 1) d_code_321 (by decide) ?_
        refine g_iadd cx d_code_322 ?_
        refine g_topi (fun m322 em322 => ?_)
        obtain rfl : m322 = nI (2 * N + 1) := em322.trans (nI_1 _)
        refine g_sld cx hX hbs hbz (j := 2 * N + 1) d_code_323 rfl (by omega) (by omega) ?_
        obtain ⟨hT, ha, ⟨vb, cap, hbk⟩, hou, hAd, hnm, hM9, hlrq⟩ := id hLC
        obtain ⟨la9, lr9, tr9, tn9, hed, -⟩ := TP.desk hT ha rfl
        refine g_callV cx (As := [.int (xs (2 * N + 1))]) (n := 1) (pt_count (K := K) (B := B) (T := T) (v0 := xs (2 * N + 1)) (by omega)) d_code_324 t_499 t_500 t_501 t_1 t_502 ⟨by decide, by decide, by decide +kernel⟩ rfl (ci := 0) rfl ha.1 hed ⟨rfl, hT, ha⟩ ⟨by show 7 + 1 ≤ R.frames; omega, by show 8 + (2 + 11) + 60 * 7 ≤ R.locals; omega⟩ (Nat.le_of_ble_eq_true rfl) ⟨Nat.zero_le _, Nat.zero_le _⟩ (fun v324 h r324 => ?_) (fun x324 h r324 => by obtain ⟨-, v9, e9, -⟩ := r324; cases e9)
        obtain ⟨rfl, wo324, e324, r324⟩ := r324
        cases e324
        obtain ⟨x324, rfl⟩ := r324
        refine g_pop cx d_code_327 rfl ?_
        refine g_aload_n cx 2 d_code_328 rfl rfl ?_
        refine g_aload_n cx 4 d_code_329 rfl rfl ?_
        refine g_iload cx 0 d_code_330 rfl ?_
        refine g_iconst cx (v := 1) d_code_332 (by decide) ?_
        refine g_iadd cx d_code_333 ?_
        refine g_topi (fun m333 em333 => ?_)
        obtain rfl : m333 = nI (2 * N + 1) := em333.trans (nI_1 _)
        refine g_sld cx hX hbs hbz (j := 2 * N + 1) d_code_334 rfl (by omega) (by omega) ?_
        obtain ⟨x0, hMo, hMI0, hw0, htx0, hLk0⟩ := id hLM
        obtain ⟨a5, r5, nm5, ld5, im5, kp5, mn5, hMI⟩ := id hMI0
        have hAd5 := hLC.2.2.2.2.1
        refine g_callV cx (As := [.int (xs (2 * N + 1))]) (n := 1) (mc_count Cl.stb hAd5 x0 (xs (2 * N + 1)) r5 hMI.2.1.1 hMI.2.1.2) d_code_335 t_1157 t_1158 t_1159 t_9 t_1160 ⟨by decide, by decide, by decide +kernel⟩ rfl (ci := 9) rfl hMo.1 hMo.2.1 ⟨rfl, hMo⟩ ⟨by show 0 + 1 ≤ R.frames; omega, by show 8 + (4 + 11) + 60 * 0 ≤ R.locals; omega⟩ (Nat.le_of_ble_eq_true rfl) ⟨Nat.zero_le _, Nat.zero_le _⟩ (fun v335 h r335 => ?_) (fun x335 h r335 => by obtain ⟨r9, x9, e9, -⟩ := r335; cases e9)
        obtain ⟨r9335, x1, e9, hMo1, hSm, hrel⟩ := r335
        cases e9
        have hs9 := hLC.s9 hSm
        replace hLC := hLC.sm hSm
        replace hQ := hQ.sm hs9.1 hs9.2
        obtain ⟨⟨u335, rfl⟩, hx1⟩ := hrel
        replace hLM : LM D am ad h c0 cd S := ⟨x1, hMo1, by rw [hx1]; exact mi_s0 hMI0, by rw [hx1]; exact hw0, by rw [hx1]; exact htx0, by rw [hx1]; exact hLk0.kf kp_s0⟩
        refine g_pop cx d_code_338 rfl ?_
        refine g_goto cx d_code_339 rfl ?_
        refine g_iinc cx 0 (lv' := [(4, .int (nI (2 * (N + 1)))), (3, .ref ou), (2, .ref am), (1, .ref a), (0, .ref b)]) d_code_342 rfl (inc2 N) (by decide) rfl ?_
        refine g_goto cx d_code_345 rfl ?_
        exact g_loc [0, 1, 2, 3, 4] rfl (ih (N + 1) (t + 2 * N + 2) c0 (B) (T) (F + 24) _ _ _ _ _ _ K h _ _ (by omega) (by omega) (t_n ht) ⟨by omega, by omega⟩ (by omega) hLC hQ hLM (by first | (simp only [rmT, rmL, lookS]; omega) | omega) (by omega) (by first | (simp only [rmT, rmL, lookS]; omega) | omega))
      refine g_tableOut cx (tgt := 342) d_code_39 (sw10 s0 s1 s2 s3 s4 s5 s6 s7 s8 s9) rfl ?_
      refine g_iinc cx 0 (lv' := [(4, .int (nI (2 * (N + 1)))), (3, .ref ou), (2, .ref am), (1, .ref a), (0, .ref b)]) d_code_342 rfl (inc2 N) (by decide) rfl ?_
      refine g_goto cx d_code_345 rfl ?_
      exact g_loc [0, 1, 2, 3, 4] rfl (ih (N + 1) (t + 2 * N + 2) c0 (B) (T) (F + 24) _ _ _ _ _ _ K h _ _ (by omega) (by omega) (t_n ht) ⟨by omega, by omega⟩ (by omega) hLC hQ hLM (by first | (simp only [rmT, rmL, lookS]; omega) | omega) (by omega) (by first | (simp only [rmT, rmL, lookS]; omega) | omega))
end LLP
