/-! line and realm of the reference. -/
theorem nI_len {e b k : Nat} (hb : b ≤ e) (he : e ≤ 30) (hk : k ≤ 30) (h : nI e - nI b = nI k) : e = b + k := by
  rw [pk_sub hb] at h
  have := (nI_eq (a := e - b) (b := k) (by omega) (by omega)).mp h
  omega
theorem MI.fx {si sa sl : List Nat} {x y : MS} {a r : Nat} {nm ld im kp : Nat → Nat} {mn : Nat} (h : MI x a r nm ld im kp mn) (f : Fx si sa sl x y) (h1 : 6 ∉ si ∧ 11 ∉ si ∧ 25 ∉ si) (h2 : 8 ∉ sa ∧ 13 ∉ sa ∧ 14 ∉ sa ∧ 15 ∉ sa ∧ 16 ∉ sa ∧ 17 ∉ sa ∧ 18 ∉ sa ∧ 19 ∉ sa) (h3 : 10 ∉ sl ∧ 21 ∉ sl) : MI y a r nm ld im kp mn := by
  unfold MI IA IR INm ILd ILo IIm IFr IPa IKp IMn at h ⊢
  rw [f.1 6 h1.1, f.1 11 h1.2.1, f.1 25 h1.2.2, f.2.1 8 h2.1, f.2.1 13 h2.2.1, f.2.1 14 h2.2.2.1, f.2.1 15 h2.2.2.2.1, f.2.1 16 h2.2.2.2.2.1, f.2.1 17 h2.2.2.2.2.2.1, f.2.1 18 h2.2.2.2.2.2.2.1, f.2.1 19 h2.2.2.2.2.2.2.2, f.2.2 10 h3.1, f.2.2 21 h3.2]
  exact h
section M7
variable {l : Launch} {D : va_G} {z0 : Nat} {E : State → Prop} {am : Nat} {ad : Nat → Nat}
set_option maxHeartbeats 4000000 in
theorem mc_line (hSt : Stb z0 E) (hA : Ad am ad) (x : MS) (w : Nat) (hw : x.1 2 = nI w) (hwl : w ≤ 30) (a r : Nat) (nm ld im kp : Nat → Nat) (mn : Nat) (hM : MI x a r nm ld im kp mn) : MC l y_158 prog_8_method_13_code 2 (Option.some Jvm.ClassFile.FieldType.int) 3 D z0 E am ad [] x (fun r x' => (∃ v, r = some (.int v)) ∧ MIx x' ∧ x'.1 2 = nI 0) := by
  refine mc_of hSt rfl (Nat.le_of_ble_eq_true rfl) ?_
  intro h0 h p e s m args below meth c cx hm hs
  refine g_aload_n cx 0 d_8_13_0 rfl rfl ?_
  refine g_iconst cx (v := 0) d_8_13_1 (by decide) ?_
  refine m_put cx (k := 0) hA d_8_13_2 t_898 ⟨by decide, rfl, rfl, rfl, by decide +kernel⟩ hm hs (fun h hm hs => ?_)
  refine g_aload_n cx 0 d_8_13_5 rfl rfl ?_
  refine m_call 3 cx (As := []) (n := 0) (mc_split hSt hA (seti x 0 0) w hw hwl) d_8_13_6 t_1001 t_1003 ts_26 t_1004 rfl ⟨rfl, by decide +kernel⟩ rfl ⟨by decide, by decide⟩ (Nat.le_of_ble_eq_true rfl) hm hs (fun v6 x6 h hm hs r6 => ?_)
  obtain ⟨rfl, pn, bg, en, hpt, hw6, hf6⟩ := r6
  have hM6 : MI x6 a r nm ld im kp mn := MI.fx (show MI (seti x 0 0) a r nm ld im kp mn from hM) hf6 (by decide) (by decide) (by decide)
  have c392 : ∀ (y : MS) (an : Int32) (hMy : MIx y) (hwy : y.1 2 = nI 0) (h : hp) (hm : Mo D am ad y h) (hs : Sm am ad h0 h), G p l e (rmL 3) s m args below meth c 2 D z0 E (MQp D am ad h0 (fun r x' => (∃ v, r = some (.int v)) ∧ MIx x' ∧ x'.1 2 = nI 0)) 0 0 392 [(1, .int an), (0, .ref am)] [] h 0 0 := by
    intro y an hMy hwy h hm hs
    refine g_iload_n cx 0 d_8_13_392 rfl rfl ?_
    refine g_if_ge cx d_8_13_393 rfl (fun c393 => ?_) (fun c393 => ?_)
    · skip
      refine g_iload_n cx 0 d_8_13_412 rfl rfl ?_
      exact m_iret cx d_8_13_413 rfl rfl hm hs ⟨⟨_, rfl⟩, hMy, hwy⟩
    · skip
      have hMy' : ∀ v, MIx (seti y 0 v) := fun v => by
        obtain ⟨a9, r9, n9, l9, i9, k9, m9, q⟩ := hMy
        exact ⟨a9, r9, n9, l9, i9, k9, m9, q⟩
      refine g_aload_n cx 1 d_8_13_396 rfl rfl ?_
      refine g_iload_n cx 0 d_8_13_397 rfl rfl ?_
      refine g_bipush cx (v := (-2)) d_8_13_398 (by decide) ?_
      refine g_icmp_ne cx d_8_13_400 rfl (fun c400 => ?_) (fun c400 => ?_)
      · skip
        refine g_iconst cx (v := 1) d_8_13_407 (by decide) ?_
        refine m_call 3 cx (As := [.int _]) (n := 1) (mc_fails hSt hA y _) d_8_13_408 t_1070 t_1072 ts_43 t_1073 rfl ⟨rfl, by decide +kernel⟩ rfl ⟨by decide, by decide⟩ (Nat.le_of_ble_eq_true rfl) hm hs (fun v408 x408 h hm hs r408 => ?_)
        obtain ⟨rfl, rfl⟩ := r408
        exact m_iret cx d_8_13_411 rfl rfl hm hs ⟨⟨_, rfl⟩, hMy' _, hwy⟩
      · skip
        refine g_iconst cx (v := 2) d_8_13_403 (by decide) ?_
        refine g_goto cx d_8_13_404 rfl ?_
        refine m_call 3 cx (As := [.int _]) (n := 1) (mc_fails hSt hA y _) d_8_13_408 t_1070 t_1072 ts_43 t_1073 rfl ⟨rfl, by decide +kernel⟩ rfl ⟨by decide, by decide⟩ (Nat.le_of_ble_eq_true rfl) hm hs (fun v408 x408 h hm hs r408 => ?_)
        obtain ⟨rfl, rfl⟩ := r408
        exact m_iret cx d_8_13_411 rfl rfl hm hs ⟨⟨_, rfl⟩, hMy' _, hwy⟩
  have k335 : ∀ (h : hp) (hm : Mo D am ad x6 h) (hs : Sm am ad h0 h), G p l e (rmL 3) s m args below meth c 2 D z0 E (MQp D am ad h0 (fun r x' => (∃ v, r = some (.int v)) ∧ MIx x' ∧ x'.1 2 = nI 0)) 0 0 335 [(1, .int (-1)), (0, .ref am)] [] h 0 0 := by
    intro h hm hs
    refine g_aload_n cx 1 d_8_13_335 rfl rfl ?_
    refine g_iconst cx (v := 0) d_8_13_336 (by decide) ?_
    refine g_bipush cx (v := 102) d_8_13_337 (by decide) ?_
    refine g_bipush cx (v := 105) d_8_13_339 (by decide) ?_
    refine g_bipush cx (v := 114) d_8_13_341 (by decide) ?_
    refine g_bipush cx (v := 115) d_8_13_343 (by decide) ?_
    refine m_call 3 cx (As := [.int (nI 0), .int 102, .int 105, .int 114, .int 115]) (n := 5) (mc_says hSt hA x6 0 pn bg en 102 105 114 115 hpt (by decide)) d_8_13_345 t_1005 t_1007 ts_27 t_1008 rfl ⟨rfl, by decide +kernel⟩ rfl ⟨by decide, by decide⟩ (Nat.le_of_ble_eq_true rfl) hm hs (fun v345 x345 h hm hs r345 => ?_)
    obtain ⟨e9, r9⟩ := r345
    rw [e9] at hm
    rcases r9 with rfl | rfl
    · skip
      refine g_if_eq cx d_8_13_348 rfl (fun c348 => absurd c348 (by decide)) (fun c348 => ?_)
      refine g_aload_n cx 1 d_8_13_351 rfl rfl ?_
      refine g_iconst cx (v := 0) d_8_13_352 (by decide) ?_
      refine g_iconst cx (v := 5) d_8_13_353 (by decide) ?_
      refine m_call 3 cx (As := [.int (nI 0), .int 5]) (n := 2) (mc_isLong hSt hA x6 0 pn bg en 5 hpt (by decide)) d_8_13_354 t_1009 t_1011 ts_28 t_1012 rfl ⟨rfl, by decide +kernel⟩ rfl ⟨by decide, by decide⟩ (Nat.le_of_ble_eq_true rfl) hm hs (fun v354 x354 h hm hs r354 => ?_)
      obtain ⟨e9, r9⟩ := r354
      rw [e9] at hm
      rcases r9 with ⟨rfl, h0p, hl9⟩ | rfl
      · skip
        refine g_if_eq cx d_8_13_357 rfl (fun c357 => absurd c357 (by decide)) (fun c357 => ?_)
        obtain ⟨p1, p2, p3, p4⟩ := hpt.2.2 0 h0p
        have hlen : en 0 = bg 0 + 5 := nI_len (Nat.le_of_lt p3) p4 (by decide) hl9
        refine g_aload_n cx 1 d_8_13_360 rfl rfl ?_
        refine m_get cx (k := 1) d_8_13_361 t_899 ⟨by decide, rfl⟩ hm rfl ?_
        refine g_aload_n cx 1 d_8_13_364 rfl rfl ?_
        refine m_get cx (k := 5) d_8_13_365 t_903 ⟨by decide, rfl⟩ hm rfl ?_
        refine g_iconst cx (v := 0) d_8_13_368 (by decide) ?_
        refine m_ld1 cx d_8_13_369 (by decide) hm (rfl : (0 : Int32) = nI 0) ⟨(show 0 < 15 by decide), by decide⟩ ?_
        refine g_iconst cx (v := 1) d_8_13_370 (by decide) ?_
        refine g_isub cx d_8_13_371 ?_
        refine m_ld2 cx d_8_13_372 (by decide) hm (show x6.2.1 5 0 - 1 = nI (en 0 - 1) by rw [p2]; exact pk_sub (b := 1) (by omega)) ⟨(show en 0 - 1 < 30 by omega), by decide⟩ ?_
        refine g_bipush cx (v := 116) d_8_13_373 (by decide) ?_
        refine g_icmp_ne cx d_8_13_375 rfl (fun c375 => ?_) (fun c375 => ?_)
        · skip
          exact c392 x6 _ (MIx.of hM6) hw6 h hm hs
        · skip
          refine g_aload_n cx 1 d_8_13_378 rfl rfl ?_
          refine m_get cx (k := 3) d_8_13_379 t_901 ⟨by decide, rfl⟩ hm rfl ?_
          refine g_iconst cx (v := 1) d_8_13_382 (by decide) ?_
          refine g_icmp_ne cx d_8_13_383 rfl (fun c383 => ?_) (fun c383 => ?_)
          · skip
            exact c392 x6 _ (MIx.of hM6) hw6 h hm hs
          · skip
            refine g_aload_n cx 1 d_8_13_386 rfl rfl ?_
            refine g_iconst cx (v := 1) d_8_13_387 (by decide) ?_
            refine m_call 3 cx (As := [.int 1]) (n := 1) (mc_ordered hSt hA x6 1 a r nm ld im kp mn hM6) d_8_13_388 t_1066 t_1068 ts_42 t_1069 rfl ⟨rfl, by decide +kernel⟩ rfl ⟨by decide, by decide⟩ (Nat.le_of_ble_eq_true rfl) hm hs (fun v388 x388 h hm hs r388 => ?_)
            obtain ⟨⟨v9, rfl⟩, hM9, hw9⟩ := r388
            refine g_topi (fun an ean => ?_)
            refine g_istore_n cx (lv' := [(1, .int an), (0, .ref am)]) d_8_13_391 rfl (by decide) rfl ?_
            exact c392 _ an hM9 (hw9.trans hw6) h hm hs
      · skip
        refine g_if_eq cx d_8_13_357 rfl (fun c357 => ?_) (fun c357 => absurd rfl c357)
        exact c392 x6 _ (MIx.of hM6) hw6 h hm hs
    · skip
      refine g_if_eq cx d_8_13_348 rfl (fun c348 => ?_) (fun c348 => absurd rfl c348)
      exact c392 x6 _ (MIx.of hM6) hw6 h hm hs
  have k293 : ∀ (h : hp) (hm : Mo D am ad x6 h) (hs : Sm am ad h0 h), G p l e (rmL 3) s m args below meth c 2 D z0 E (MQp D am ad h0 (fun r x' => (∃ v, r = some (.int v)) ∧ MIx x' ∧ x'.1 2 = nI 0)) 0 0 293 [(1, .int (-1)), (0, .ref am)] [] h 0 0 := by
    intro h hm hs
    refine g_aload_n cx 1 d_8_13_293 rfl rfl ?_
    refine g_iconst cx (v := 0) d_8_13_294 (by decide) ?_
    refine g_bipush cx (v := 115) d_8_13_295 (by decide) ?_
    refine g_bipush cx (v := 101) d_8_13_297 (by decide) ?_
    refine g_bipush cx (v := 108) d_8_13_299 (by decide) ?_
    refine g_bipush cx (v := 102) d_8_13_301 (by decide) ?_
    refine m_call 3 cx (As := [.int (nI 0), .int 115, .int 101, .int 108, .int 102]) (n := 5) (mc_says hSt hA x6 0 pn bg en 115 101 108 102 hpt (by decide)) d_8_13_303 t_1005 t_1007 ts_27 t_1008 rfl ⟨rfl, by decide +kernel⟩ rfl ⟨by decide, by decide⟩ (Nat.le_of_ble_eq_true rfl) hm hs (fun v303 x303 h hm hs r303 => ?_)
    obtain ⟨e9, r9⟩ := r303
    rw [e9] at hm
    rcases r9 with rfl | rfl
    · skip
      refine g_if_eq cx d_8_13_306 rfl (fun c306 => absurd c306 (by decide)) (fun c306 => ?_)
      refine g_aload_n cx 1 d_8_13_309 rfl rfl ?_
      refine g_iconst cx (v := 0) d_8_13_310 (by decide) ?_
      refine g_iconst cx (v := 4) d_8_13_311 (by decide) ?_
      refine m_call 3 cx (As := [.int (nI 0), .int 4]) (n := 2) (mc_isLong hSt hA x6 0 pn bg en 4 hpt (by decide)) d_8_13_312 t_1009 t_1011 ts_28 t_1012 rfl ⟨rfl, by decide +kernel⟩ rfl ⟨by decide, by decide⟩ (Nat.le_of_ble_eq_true rfl) hm hs (fun v312 x312 h hm hs r312 => ?_)
      obtain ⟨e9, r9⟩ := r312
      rw [e9] at hm
      rcases r9 with ⟨rfl, h0p, hl9⟩ | rfl
      · skip
        refine g_if_eq cx d_8_13_315 rfl (fun c315 => absurd c315 (by decide)) (fun c315 => ?_)
        obtain ⟨p1, p2, p3, p4⟩ := hpt.2.2 0 h0p
        have hlen : en 0 = bg 0 + 4 := nI_len (Nat.le_of_lt p3) p4 (by decide) hl9
        refine g_aload_n cx 1 d_8_13_318 rfl rfl ?_
        refine m_get cx (k := 3) d_8_13_319 t_901 ⟨by decide, rfl⟩ hm rfl ?_
        refine g_iconst cx (v := 1) d_8_13_322 (by decide) ?_
        refine g_icmp_ne cx d_8_13_323 rfl (fun c323 => ?_) (fun c323 => ?_)
        · skip
          exact k335 h hm hs
        · skip
          refine g_aload_n cx 1 d_8_13_326 rfl rfl ?_
          refine g_iconst cx (v := 0) d_8_13_327 (by decide) ?_
          refine m_call 3 cx (As := [.int 0]) (n := 1) (mc_ordered hSt hA x6 0 a r nm ld im kp mn hM6) d_8_13_328 t_1066 t_1068 ts_42 t_1069 rfl ⟨rfl, by decide +kernel⟩ rfl ⟨by decide, by decide⟩ (Nat.le_of_ble_eq_true rfl) hm hs (fun v328 x328 h hm hs r328 => ?_)
          obtain ⟨⟨v9, rfl⟩, hM9, hw9⟩ := r328
          refine g_topi (fun an ean => ?_)
          refine g_istore_n cx (lv' := [(1, .int an), (0, .ref am)]) d_8_13_331 rfl (by decide) rfl ?_
          refine g_goto cx d_8_13_332 rfl ?_
          exact c392 _ an hM9 (hw9.trans hw6) h hm hs
      · skip
        refine g_if_eq cx d_8_13_315 rfl (fun c315 => ?_) (fun c315 => absurd rfl c315)
        exact k335 h hm hs
    · skip
      refine g_if_eq cx d_8_13_306 rfl (fun c306 => ?_) (fun c306 => absurd rfl c306)
      exact k335 h hm hs
  have k247 : ∀ (h : hp) (hm : Mo D am ad x6 h) (hs : Sm am ad h0 h), G p l e (rmL 3) s m args below meth c 2 D z0 E (MQp D am ad h0 (fun r x' => (∃ v, r = some (.int v)) ∧ MIx x' ∧ x'.1 2 = nI 0)) 0 0 247 [(1, .int (-1)), (0, .ref am)] [] h 0 0 := by
    intro h hm hs
    refine g_aload_n cx 1 d_8_13_247 rfl rfl ?_
    refine g_iconst cx (v := 0) d_8_13_248 (by decide) ?_
    refine g_bipush cx (v := 112) d_8_13_249 (by decide) ?_
    refine g_bipush cx (v := 97) d_8_13_251 (by decide) ?_
    refine g_bipush cx (v := 114) d_8_13_253 (by decide) ?_
    refine g_bipush cx (v := 101) d_8_13_255 (by decide) ?_
    refine m_call 3 cx (As := [.int (nI 0), .int 112, .int 97, .int 114, .int 101]) (n := 5) (mc_says hSt hA x6 0 pn bg en 112 97 114 101 hpt (by decide)) d_8_13_257 t_1005 t_1007 ts_27 t_1008 rfl ⟨rfl, by decide +kernel⟩ rfl ⟨by decide, by decide⟩ (Nat.le_of_ble_eq_true rfl) hm hs (fun v257 x257 h hm hs r257 => ?_)
    obtain ⟨e9, r9⟩ := r257
    rw [e9] at hm
    rcases r9 with rfl | rfl
    · skip
      refine g_if_eq cx d_8_13_260 rfl (fun c260 => absurd c260 (by decide)) (fun c260 => ?_)
      refine g_aload_n cx 1 d_8_13_263 rfl rfl ?_
      refine g_iconst cx (v := 0) d_8_13_264 (by decide) ?_
      refine g_bipush cx (v := 6) d_8_13_265 (by decide) ?_
      refine m_call 3 cx (As := [.int (nI 0), .int 6]) (n := 2) (mc_isLong hSt hA x6 0 pn bg en 6 hpt (by decide)) d_8_13_267 t_1009 t_1011 ts_28 t_1012 rfl ⟨rfl, by decide +kernel⟩ rfl ⟨by decide, by decide⟩ (Nat.le_of_ble_eq_true rfl) hm hs (fun v267 x267 h hm hs r267 => ?_)
      obtain ⟨e9, r9⟩ := r267
      rw [e9] at hm
      rcases r9 with ⟨rfl, h0p, hl9⟩ | rfl
      · skip
        refine g_if_eq cx d_8_13_270 rfl (fun c270 => absurd c270 (by decide)) (fun c270 => ?_)
        obtain ⟨p1, p2, p3, p4⟩ := hpt.2.2 0 h0p
        have hlen : en 0 = bg 0 + 6 := nI_len (Nat.le_of_lt p3) p4 (by decide) hl9
        refine g_aload_n cx 1 d_8_13_273 rfl rfl ?_
        refine g_iconst cx (v := 0) d_8_13_274 (by decide) ?_
        refine g_bipush cx (v := 110) d_8_13_275 (by decide) ?_
        refine g_bipush cx (v := 116) d_8_13_277 (by decide) ?_
        refine m_call 3 cx (As := [.int (nI 0), .int 110, .int 116]) (n := 3) (mc_ends hSt hA x6 0 pn bg en 110 116 hpt h0p (by omega)) d_8_13_279 t_1013 t_1015 ts_29 t_1016 rfl ⟨rfl, by decide +kernel⟩ rfl ⟨by decide, by decide⟩ (Nat.le_of_ble_eq_true rfl) hm hs (fun v279 x279 h hm hs r279 => ?_)
        obtain ⟨e9, r9⟩ := r279
        rw [e9] at hm
        rcases r9 with rfl | rfl
        · skip
          refine g_if_eq cx d_8_13_282 rfl (fun c282 => absurd c282 (by decide)) (fun c282 => ?_)
          refine g_aload_n cx 1 d_8_13_285 rfl rfl ?_
          refine m_call 3 cx (As := []) (n := 0) (mc_newParent hSt hA x6 pn bg en a r nm ld im kp mn hpt hM6) d_8_13_286 t_1062 t_1064 ts_41 t_1065 rfl ⟨rfl, by decide +kernel⟩ rfl ⟨by decide, by decide⟩ (Nat.le_of_ble_eq_true rfl) hm hs (fun v286 x286 h hm hs r286 => ?_)
          obtain ⟨⟨v9, rfl⟩, hM9, hw9⟩ := r286
          refine g_topi (fun an ean => ?_)
          refine g_istore_n cx (lv' := [(1, .int an), (0, .ref am)]) d_8_13_289 rfl (by decide) rfl ?_
          refine g_goto cx d_8_13_290 rfl ?_
          exact c392 _ an hM9 (hw9.trans hw6) h hm hs
        · skip
          refine g_if_eq cx d_8_13_282 rfl (fun c282 => ?_) (fun c282 => absurd rfl c282)
          exact k293 h hm hs
      · skip
        refine g_if_eq cx d_8_13_270 rfl (fun c270 => ?_) (fun c270 => absurd rfl c270)
        exact k293 h hm hs
    · skip
      refine g_if_eq cx d_8_13_260 rfl (fun c260 => ?_) (fun c260 => absurd rfl c260)
      exact k293 h hm hs
  have k201 : ∀ (h : hp) (hm : Mo D am ad x6 h) (hs : Sm am ad h0 h), G p l e (rmL 3) s m args below meth c 2 D z0 E (MQp D am ad h0 (fun r x' => (∃ v, r = some (.int v)) ∧ MIx x' ∧ x'.1 2 = nI 0)) 0 0 201 [(1, .int (-1)), (0, .ref am)] [] h 0 0 := by
    intro h hm hs
    refine g_aload_n cx 1 d_8_13_201 rfl rfl ?_
    refine g_iconst cx (v := 0) d_8_13_202 (by decide) ?_
    refine g_bipush cx (v := 105) d_8_13_203 (by decide) ?_
    refine g_bipush cx (v := 109) d_8_13_205 (by decide) ?_
    refine g_bipush cx (v := 112) d_8_13_207 (by decide) ?_
    refine g_bipush cx (v := 111) d_8_13_209 (by decide) ?_
    refine m_call 3 cx (As := [.int (nI 0), .int 105, .int 109, .int 112, .int 111]) (n := 5) (mc_says hSt hA x6 0 pn bg en 105 109 112 111 hpt (by decide)) d_8_13_211 t_1005 t_1007 ts_27 t_1008 rfl ⟨rfl, by decide +kernel⟩ rfl ⟨by decide, by decide⟩ (Nat.le_of_ble_eq_true rfl) hm hs (fun v211 x211 h hm hs r211 => ?_)
    obtain ⟨e9, r9⟩ := r211
    rw [e9] at hm
    rcases r9 with rfl | rfl
    · skip
      refine g_if_eq cx d_8_13_214 rfl (fun c214 => absurd c214 (by decide)) (fun c214 => ?_)
      refine g_aload_n cx 1 d_8_13_217 rfl rfl ?_
      refine g_iconst cx (v := 0) d_8_13_218 (by decide) ?_
      refine g_bipush cx (v := 6) d_8_13_219 (by decide) ?_
      refine m_call 3 cx (As := [.int (nI 0), .int 6]) (n := 2) (mc_isLong hSt hA x6 0 pn bg en 6 hpt (by decide)) d_8_13_221 t_1009 t_1011 ts_28 t_1012 rfl ⟨rfl, by decide +kernel⟩ rfl ⟨by decide, by decide⟩ (Nat.le_of_ble_eq_true rfl) hm hs (fun v221 x221 h hm hs r221 => ?_)
      obtain ⟨e9, r9⟩ := r221
      rw [e9] at hm
      rcases r9 with ⟨rfl, h0p, hl9⟩ | rfl
      · skip
        refine g_if_eq cx d_8_13_224 rfl (fun c224 => absurd c224 (by decide)) (fun c224 => ?_)
        obtain ⟨p1, p2, p3, p4⟩ := hpt.2.2 0 h0p
        have hlen : en 0 = bg 0 + 6 := nI_len (Nat.le_of_lt p3) p4 (by decide) hl9
        refine g_aload_n cx 1 d_8_13_227 rfl rfl ?_
        refine g_iconst cx (v := 0) d_8_13_228 (by decide) ?_
        refine g_bipush cx (v := 114) d_8_13_229 (by decide) ?_
        refine g_bipush cx (v := 116) d_8_13_231 (by decide) ?_
        refine m_call 3 cx (As := [.int (nI 0), .int 114, .int 116]) (n := 3) (mc_ends hSt hA x6 0 pn bg en 114 116 hpt h0p (by omega)) d_8_13_233 t_1013 t_1015 ts_29 t_1016 rfl ⟨rfl, by decide +kernel⟩ rfl ⟨by decide, by decide⟩ (Nat.le_of_ble_eq_true rfl) hm hs (fun v233 x233 h hm hs r233 => ?_)
        obtain ⟨e9, r9⟩ := r233
        rw [e9] at hm
        rcases r9 with rfl | rfl
        · skip
          refine g_if_eq cx d_8_13_236 rfl (fun c236 => absurd c236 (by decide)) (fun c236 => ?_)
          refine g_aload_n cx 1 d_8_13_239 rfl rfl ?_
          refine m_call 3 cx (As := []) (n := 0) (mc_newImport hSt hA x6 pn bg en a r nm ld im kp mn hpt hM6) d_8_13_240 t_1058 t_1060 ts_40 t_1061 rfl ⟨rfl, by decide +kernel⟩ rfl ⟨by decide, by decide⟩ (Nat.le_of_ble_eq_true rfl) hm hs (fun v240 x240 h hm hs r240 => ?_)
          obtain ⟨⟨v9, rfl⟩, hM9, hw9⟩ := r240
          refine g_topi (fun an ean => ?_)
          refine g_istore_n cx (lv' := [(1, .int an), (0, .ref am)]) d_8_13_243 rfl (by decide) rfl ?_
          refine g_goto cx d_8_13_244 rfl ?_
          exact c392 _ an hM9 (hw9.trans hw6) h hm hs
        · skip
          refine g_if_eq cx d_8_13_236 rfl (fun c236 => ?_) (fun c236 => absurd rfl c236)
          exact k247 h hm hs
      · skip
        refine g_if_eq cx d_8_13_224 rfl (fun c224 => ?_) (fun c224 => absurd rfl c224)
        exact k247 h hm hs
    · skip
      refine g_if_eq cx d_8_13_214 rfl (fun c214 => ?_) (fun c214 => absurd rfl c214)
      exact k247 h hm hs
  have k168 : ∀ (h : hp) (hm : Mo D am ad x6 h) (hs : Sm am ad h0 h), G p l e (rmL 3) s m args below meth c 2 D z0 E (MQp D am ad h0 (fun r x' => (∃ v, r = some (.int v)) ∧ MIx x' ∧ x'.1 2 = nI 0)) 0 0 168 [(1, .int (-1)), (0, .ref am)] [] h 0 0 := by
    intro h hm hs
    refine g_aload_n cx 1 d_8_13_168 rfl rfl ?_
    refine g_iconst cx (v := 0) d_8_13_169 (by decide) ?_
    refine g_bipush cx (v := 108) d_8_13_170 (by decide) ?_
    refine g_bipush cx (v := 111) d_8_13_172 (by decide) ?_
    refine g_bipush cx (v := 97) d_8_13_174 (by decide) ?_
    refine g_bipush cx (v := 100) d_8_13_176 (by decide) ?_
    refine m_call 3 cx (As := [.int (nI 0), .int 108, .int 111, .int 97, .int 100]) (n := 5) (mc_says hSt hA x6 0 pn bg en 108 111 97 100 hpt (by decide)) d_8_13_178 t_1005 t_1007 ts_27 t_1008 rfl ⟨rfl, by decide +kernel⟩ rfl ⟨by decide, by decide⟩ (Nat.le_of_ble_eq_true rfl) hm hs (fun v178 x178 h hm hs r178 => ?_)
    obtain ⟨e9, r9⟩ := r178
    rw [e9] at hm
    rcases r9 with rfl | rfl
    · skip
      refine g_if_eq cx d_8_13_181 rfl (fun c181 => absurd c181 (by decide)) (fun c181 => ?_)
      refine g_aload_n cx 1 d_8_13_184 rfl rfl ?_
      refine g_iconst cx (v := 0) d_8_13_185 (by decide) ?_
      refine g_iconst cx (v := 4) d_8_13_186 (by decide) ?_
      refine m_call 3 cx (As := [.int (nI 0), .int 4]) (n := 2) (mc_isLong hSt hA x6 0 pn bg en 4 hpt (by decide)) d_8_13_187 t_1009 t_1011 ts_28 t_1012 rfl ⟨rfl, by decide +kernel⟩ rfl ⟨by decide, by decide⟩ (Nat.le_of_ble_eq_true rfl) hm hs (fun v187 x187 h hm hs r187 => ?_)
      obtain ⟨e9, r9⟩ := r187
      rw [e9] at hm
      rcases r9 with ⟨rfl, h0p, hl9⟩ | rfl
      · skip
        refine g_if_eq cx d_8_13_190 rfl (fun c190 => absurd c190 (by decide)) (fun c190 => ?_)
        obtain ⟨p1, p2, p3, p4⟩ := hpt.2.2 0 h0p
        have hlen : en 0 = bg 0 + 4 := nI_len (Nat.le_of_lt p3) p4 (by decide) hl9
        refine g_aload_n cx 1 d_8_13_193 rfl rfl ?_
        refine m_call 3 cx (As := []) (n := 0) (mc_loads hSt hA x6 pn bg en a r nm ld im kp mn hpt hM6) d_8_13_194 t_1050 t_1052 ts_38 t_1053 rfl ⟨rfl, by decide +kernel⟩ rfl ⟨by decide, by decide⟩ (Nat.le_of_ble_eq_true rfl) hm hs (fun v194 x194 h hm hs r194 => ?_)
        obtain ⟨⟨v9, rfl⟩, hM9, hw9⟩ := r194
        refine g_topi (fun an ean => ?_)
        refine g_istore_n cx (lv' := [(1, .int an), (0, .ref am)]) d_8_13_197 rfl (by decide) rfl ?_
        refine g_goto cx d_8_13_198 rfl ?_
        exact c392 _ an hM9 (hw9.trans hw6) h hm hs
      · skip
        refine g_if_eq cx d_8_13_190 rfl (fun c190 => ?_) (fun c190 => absurd rfl c190)
        exact k201 h hm hs
    · skip
      refine g_if_eq cx d_8_13_181 rfl (fun c181 => ?_) (fun c181 => absurd rfl c181)
      exact k201 h hm hs
  have k117 : ∀ (h : hp) (hm : Mo D am ad x6 h) (hs : Sm am ad h0 h), G p l e (rmL 3) s m args below meth c 2 D z0 E (MQp D am ad h0 (fun r x' => (∃ v, r = some (.int v)) ∧ MIx x' ∧ x'.1 2 = nI 0)) 0 0 117 [(1, .int (-1)), (0, .ref am)] [] h 0 0 := by
    intro h hm hs
    refine g_aload_n cx 1 d_8_13_117 rfl rfl ?_
    refine g_iconst cx (v := 0) d_8_13_118 (by decide) ?_
    refine g_bipush cx (v := 114) d_8_13_119 (by decide) ?_
    refine g_bipush cx (v := 101) d_8_13_121 (by decide) ?_
    refine g_bipush cx (v := 97) d_8_13_123 (by decide) ?_
    refine g_bipush cx (v := 108) d_8_13_125 (by decide) ?_
    refine m_call 3 cx (As := [.int (nI 0), .int 114, .int 101, .int 97, .int 108]) (n := 5) (mc_says hSt hA x6 0 pn bg en 114 101 97 108 hpt (by decide)) d_8_13_127 t_1005 t_1007 ts_27 t_1008 rfl ⟨rfl, by decide +kernel⟩ rfl ⟨by decide, by decide⟩ (Nat.le_of_ble_eq_true rfl) hm hs (fun v127 x127 h hm hs r127 => ?_)
    obtain ⟨e9, r9⟩ := r127
    rw [e9] at hm
    rcases r9 with rfl | rfl
    · skip
      refine g_if_eq cx d_8_13_130 rfl (fun c130 => absurd c130 (by decide)) (fun c130 => ?_)
      refine g_aload_n cx 1 d_8_13_133 rfl rfl ?_
      refine g_iconst cx (v := 0) d_8_13_134 (by decide) ?_
      refine g_iconst cx (v := 5) d_8_13_135 (by decide) ?_
      refine m_call 3 cx (As := [.int (nI 0), .int 5]) (n := 2) (mc_isLong hSt hA x6 0 pn bg en 5 hpt (by decide)) d_8_13_136 t_1009 t_1011 ts_28 t_1012 rfl ⟨rfl, by decide +kernel⟩ rfl ⟨by decide, by decide⟩ (Nat.le_of_ble_eq_true rfl) hm hs (fun v136 x136 h hm hs r136 => ?_)
      obtain ⟨e9, r9⟩ := r136
      rw [e9] at hm
      rcases r9 with ⟨rfl, h0p, hl9⟩ | rfl
      · skip
        refine g_if_eq cx d_8_13_139 rfl (fun c139 => absurd c139 (by decide)) (fun c139 => ?_)
        obtain ⟨p1, p2, p3, p4⟩ := hpt.2.2 0 h0p
        have hlen : en 0 = bg 0 + 5 := nI_len (Nat.le_of_lt p3) p4 (by decide) hl9
        refine g_aload_n cx 1 d_8_13_142 rfl rfl ?_
        refine m_get cx (k := 1) d_8_13_143 t_899 ⟨by decide, rfl⟩ hm rfl ?_
        refine g_aload_n cx 1 d_8_13_146 rfl rfl ?_
        refine m_get cx (k := 5) d_8_13_147 t_903 ⟨by decide, rfl⟩ hm rfl ?_
        refine g_iconst cx (v := 0) d_8_13_150 (by decide) ?_
        refine m_ld1 cx d_8_13_151 (by decide) hm (rfl : (0 : Int32) = nI 0) ⟨(show 0 < 15 by decide), by decide⟩ ?_
        refine g_iconst cx (v := 1) d_8_13_152 (by decide) ?_
        refine g_isub cx d_8_13_153 ?_
        refine m_ld2 cx d_8_13_154 (by decide) hm (show x6.2.1 5 0 - 1 = nI (en 0 - 1) by rw [p2]; exact pk_sub (b := 1) (by omega)) ⟨(show en 0 - 1 < 30 by omega), by decide⟩ ?_
        refine g_bipush cx (v := 109) d_8_13_155 (by decide) ?_
        refine g_icmp_ne cx d_8_13_157 rfl (fun c157 => ?_) (fun c157 => ?_)
        · skip
          exact k168 h hm hs
        · skip
          refine g_aload_n cx 1 d_8_13_160 rfl rfl ?_
          refine m_call 3 cx (As := []) (n := 0) (mc_newRealm hSt hA x6 pn bg en a r nm ld im kp mn hpt hM6) d_8_13_161 t_1042 t_1044 ts_36 t_1045 rfl ⟨rfl, by decide +kernel⟩ rfl ⟨by decide, by decide⟩ (Nat.le_of_ble_eq_true rfl) hm hs (fun v161 x161 h hm hs r161 => ?_)
          obtain ⟨⟨v9, rfl⟩, hM9, hw9⟩ := r161
          refine g_topi (fun an ean => ?_)
          refine g_istore_n cx (lv' := [(1, .int an), (0, .ref am)]) d_8_13_164 rfl (by decide) rfl ?_
          refine g_goto cx d_8_13_165 rfl ?_
          exact c392 _ an hM9 (hw9.trans hw6) h hm hs
      · skip
        refine g_if_eq cx d_8_13_139 rfl (fun c139 => ?_) (fun c139 => absurd rfl c139)
        exact k168 h hm hs
    · skip
      refine g_if_eq cx d_8_13_130 rfl (fun c130 => ?_) (fun c130 => absurd rfl c130)
      exact k168 h hm hs
  have k84 : ∀ (h : hp) (hm : Mo D am ad x6 h) (hs : Sm am ad h0 h), G p l e (rmL 3) s m args below meth c 2 D z0 E (MQp D am ad h0 (fun r x' => (∃ v, r = some (.int v)) ∧ MIx x' ∧ x'.1 2 = nI 0)) 0 0 84 [(1, .int (-1)), (0, .ref am)] [] h 0 0 := by
    intro h hm hs
    refine g_aload_n cx 1 d_8_13_84 rfl rfl ?_
    refine g_iconst cx (v := 0) d_8_13_85 (by decide) ?_
    refine g_bipush cx (v := 110) d_8_13_86 (by decide) ?_
    refine g_bipush cx (v := 97) d_8_13_88 (by decide) ?_
    refine g_bipush cx (v := 109) d_8_13_90 (by decide) ?_
    refine g_bipush cx (v := 101) d_8_13_92 (by decide) ?_
    refine m_call 3 cx (As := [.int (nI 0), .int 110, .int 97, .int 109, .int 101]) (n := 5) (mc_says hSt hA x6 0 pn bg en 110 97 109 101 hpt (by decide)) d_8_13_94 t_1005 t_1007 ts_27 t_1008 rfl ⟨rfl, by decide +kernel⟩ rfl ⟨by decide, by decide⟩ (Nat.le_of_ble_eq_true rfl) hm hs (fun v94 x94 h hm hs r94 => ?_)
    obtain ⟨e9, r9⟩ := r94
    rw [e9] at hm
    rcases r9 with rfl | rfl
    · skip
      refine g_if_eq cx d_8_13_97 rfl (fun c97 => absurd c97 (by decide)) (fun c97 => ?_)
      refine g_aload_n cx 1 d_8_13_100 rfl rfl ?_
      refine g_iconst cx (v := 0) d_8_13_101 (by decide) ?_
      refine g_iconst cx (v := 4) d_8_13_102 (by decide) ?_
      refine m_call 3 cx (As := [.int (nI 0), .int 4]) (n := 2) (mc_isLong hSt hA x6 0 pn bg en 4 hpt (by decide)) d_8_13_103 t_1009 t_1011 ts_28 t_1012 rfl ⟨rfl, by decide +kernel⟩ rfl ⟨by decide, by decide⟩ (Nat.le_of_ble_eq_true rfl) hm hs (fun v103 x103 h hm hs r103 => ?_)
      obtain ⟨e9, r9⟩ := r103
      rw [e9] at hm
      rcases r9 with ⟨rfl, h0p, hl9⟩ | rfl
      · skip
        refine g_if_eq cx d_8_13_106 rfl (fun c106 => absurd c106 (by decide)) (fun c106 => ?_)
        obtain ⟨p1, p2, p3, p4⟩ := hpt.2.2 0 h0p
        have hlen : en 0 = bg 0 + 4 := nI_len (Nat.le_of_lt p3) p4 (by decide) hl9
        refine g_aload_n cx 1 d_8_13_109 rfl rfl ?_
        refine m_call 3 cx (As := []) (n := 0) (mc_newName hSt hA x6 pn bg en a r nm ld im kp mn hpt hM6) d_8_13_110 t_1034 t_1036 ts_34 t_1037 rfl ⟨rfl, by decide +kernel⟩ rfl ⟨by decide, by decide⟩ (Nat.le_of_ble_eq_true rfl) hm hs (fun v110 x110 h hm hs r110 => ?_)
        obtain ⟨⟨v9, rfl⟩, hM9, hw9⟩ := r110
        refine g_topi (fun an ean => ?_)
        refine g_istore_n cx (lv' := [(1, .int an), (0, .ref am)]) d_8_13_113 rfl (by decide) rfl ?_
        refine g_goto cx d_8_13_114 rfl ?_
        exact c392 _ an hM9 (hw9.trans hw6) h hm hs
      · skip
        refine g_if_eq cx d_8_13_106 rfl (fun c106 => ?_) (fun c106 => absurd rfl c106)
        exact k117 h hm hs
    · skip
      refine g_if_eq cx d_8_13_97 rfl (fun c97 => ?_) (fun c97 => absurd rfl c97)
      exact k117 h hm hs
  have k20 : ∀ (h : hp) (hm : Mo D am ad x6 h) (hs : Sm am ad h0 h), G p l e (rmL 3) s m args below meth c 2 D z0 E (MQp D am ad h0 (fun r x' => (∃ v, r = some (.int v)) ∧ MIx x' ∧ x'.1 2 = nI 0)) 0 0 20 [(1, .int (-1)), (0, .ref am)] [] h 0 0 := by
    intro h hm hs
    refine g_aload_n cx 1 d_8_13_20 rfl rfl ?_
    refine g_iconst cx (v := 0) d_8_13_21 (by decide) ?_
    refine g_bipush cx (v := 97) d_8_13_22 (by decide) ?_
    refine g_bipush cx (v := 114) d_8_13_24 (by decide) ?_
    refine g_bipush cx (v := 99) d_8_13_26 (by decide) ?_
    refine g_bipush cx (v := 104) d_8_13_28 (by decide) ?_
    refine m_call 3 cx (As := [.int (nI 0), .int 97, .int 114, .int 99, .int 104]) (n := 5) (mc_says hSt hA x6 0 pn bg en 97 114 99 104 hpt (by decide)) d_8_13_30 t_1005 t_1007 ts_27 t_1008 rfl ⟨rfl, by decide +kernel⟩ rfl ⟨by decide, by decide⟩ (Nat.le_of_ble_eq_true rfl) hm hs (fun v30 x30 h hm hs r30 => ?_)
    obtain ⟨e9, r9⟩ := r30
    rw [e9] at hm
    rcases r9 with rfl | rfl
    · skip
      refine g_if_eq cx d_8_13_33 rfl (fun c33 => absurd c33 (by decide)) (fun c33 => ?_)
      refine g_aload_n cx 1 d_8_13_36 rfl rfl ?_
      refine g_iconst cx (v := 0) d_8_13_37 (by decide) ?_
      refine g_bipush cx (v := 7) d_8_13_38 (by decide) ?_
      refine m_call 3 cx (As := [.int (nI 0), .int 7]) (n := 2) (mc_isLong hSt hA x6 0 pn bg en 7 hpt (by decide)) d_8_13_40 t_1009 t_1011 ts_28 t_1012 rfl ⟨rfl, by decide +kernel⟩ rfl ⟨by decide, by decide⟩ (Nat.le_of_ble_eq_true rfl) hm hs (fun v40 x40 h hm hs r40 => ?_)
      obtain ⟨e9, r9⟩ := r40
      rw [e9] at hm
      rcases r9 with ⟨rfl, h0p, hl9⟩ | rfl
      · skip
        refine g_if_eq cx d_8_13_43 rfl (fun c43 => absurd c43 (by decide)) (fun c43 => ?_)
        obtain ⟨p1, p2, p3, p4⟩ := hpt.2.2 0 h0p
        have hlen : en 0 = bg 0 + 7 := nI_len (Nat.le_of_lt p3) p4 (by decide) hl9
        refine g_aload_n cx 1 d_8_13_46 rfl rfl ?_
        refine m_get cx (k := 1) d_8_13_47 t_899 ⟨by decide, rfl⟩ hm rfl ?_
        refine g_aload_n cx 1 d_8_13_50 rfl rfl ?_
        refine m_get cx (k := 4) d_8_13_51 t_902 ⟨by decide, rfl⟩ hm rfl ?_
        refine g_iconst cx (v := 0) d_8_13_54 (by decide) ?_
        refine m_ld1 cx d_8_13_55 (by decide) hm (rfl : (0 : Int32) = nI 0) ⟨(show 0 < 15 by decide), by decide⟩ ?_
        refine g_iconst cx (v := 4) d_8_13_56 (by decide) ?_
        refine g_iadd cx d_8_13_57 ?_
        refine m_ld2 cx d_8_13_58 (by decide) hm (show x6.2.1 4 0 + 4 = nI (bg 0 + 4) by rw [p1]; exact nI_add (bg 0) 4) ⟨(show bg 0 + 4 < 30 by omega), by decide⟩ ?_
        refine g_bipush cx (v := 105) d_8_13_59 (by decide) ?_
        refine g_icmp_ne cx d_8_13_61 rfl (fun c61 => ?_) (fun c61 => ?_)
        · skip
          exact k84 h hm hs
        · skip
          refine g_aload_n cx 1 d_8_13_64 rfl rfl ?_
          refine g_iconst cx (v := 0) d_8_13_65 (by decide) ?_
          refine g_bipush cx (v := 118) d_8_13_66 (by decide) ?_
          refine g_bipush cx (v := 101) d_8_13_68 (by decide) ?_
          refine m_call 3 cx (As := [.int (nI 0), .int 118, .int 101]) (n := 3) (mc_ends hSt hA x6 0 pn bg en 118 101 hpt h0p (by omega)) d_8_13_70 t_1013 t_1015 ts_29 t_1016 rfl ⟨rfl, by decide +kernel⟩ rfl ⟨by decide, by decide⟩ (Nat.le_of_ble_eq_true rfl) hm hs (fun v70 x70 h hm hs r70 => ?_)
          obtain ⟨e9, r9⟩ := r70
          rw [e9] at hm
          rcases r9 with rfl | rfl
          · skip
            refine g_if_eq cx d_8_13_73 rfl (fun c73 => absurd c73 (by decide)) (fun c73 => ?_)
            refine g_aload_n cx 1 d_8_13_76 rfl rfl ?_
            refine m_call 3 cx (As := []) (n := 0) (mc_newArchive hSt hA x6 pn bg en a r nm ld im kp mn hpt hM6) d_8_13_77 t_1017 t_1019 ts_30 t_1020 rfl ⟨rfl, by decide +kernel⟩ rfl ⟨by decide, by decide⟩ (Nat.le_of_ble_eq_true rfl) hm hs (fun v77 x77 h hm hs r77 => ?_)
            obtain ⟨⟨v9, rfl⟩, hM9, hw9⟩ := r77
            refine g_topi (fun an ean => ?_)
            refine g_istore_n cx (lv' := [(1, .int an), (0, .ref am)]) d_8_13_80 rfl (by decide) rfl ?_
            refine g_goto cx d_8_13_81 rfl ?_
            exact c392 _ an hM9 (hw9.trans hw6) h hm hs
          · skip
            refine g_if_eq cx d_8_13_73 rfl (fun c73 => ?_) (fun c73 => absurd rfl c73)
            exact k84 h hm hs
      · skip
        refine g_if_eq cx d_8_13_43 rfl (fun c43 => ?_) (fun c43 => absurd rfl c43)
        exact k84 h hm hs
    · skip
      refine g_if_eq cx d_8_13_33 rfl (fun c33 => ?_) (fun c33 => absurd rfl c33)
      exact k84 h hm hs
  refine g_aload_n cx 0 d_8_13_9 rfl rfl ?_
  refine m_get cx (k := 3) d_8_13_10 t_901 ⟨by decide, rfl⟩ hm rfl ?_
  refine g_if_ne cx d_8_13_13 rfl (fun c13 => ?_) (fun c13 => ?_)
  · skip
    refine g_iconst cx (v := (-1)) d_8_13_18 (by decide) ?_
    refine g_topi (fun an ean => ?_)
    obtain rfl : an = -1 := ean
    refine g_istore_n cx (lv' := [(1, .int (-1)), (0, .ref am)]) d_8_13_19 rfl (by decide) rfl ?_
    exact k20 h hm hs
  · skip
    refine g_iconst cx (v := 0) d_8_13_16 (by decide) ?_
    exact m_iret cx d_8_13_17 rfl rfl hm hs ⟨⟨_, rfl⟩, MIx.of hM6, hw6⟩
set_option maxHeartbeats 4000000 in
theorem mc_realm (hSt : Stb z0 E) (hA : Ad am ad) (x : MS) (w : Nat) (hw : x.1 2 = nI w) (hwl : w ≤ 30) (a r : Nat) (nm ld im kp : Nat → Nat) (mn : Nat) (hM : MI x a r nm ld im kp mn) : MC l y_197 prog_8_method_43_code 2 (Option.some Jvm.ClassFile.FieldType.int) 3 D z0 E am ad [] x (fun r x' => (∃ v, r = some (.int v)) ∧ MIx x' ∧ KpZ x x') := by
  refine mc_of hSt rfl (Nat.le_of_ble_eq_true rfl) ?_
  intro h0 h p e s m args below meth c cx hm hs
  refine g_aload_n cx 0 d_8_43_0 rfl rfl ?_
  refine g_iconst cx (v := 0) d_8_43_1 (by decide) ?_
  refine m_put cx (k := 0) hA d_8_43_2 t_898 ⟨by decide, rfl, rfl, rfl, by decide +kernel⟩ hm hs (fun h hm hs => ?_)
  refine g_aload_n cx 0 d_8_43_5 rfl rfl ?_
  refine m_call 3 cx (As := []) (n := 0) (mc_split hSt hA (seti x 0 0) w hw hwl) d_8_43_6 t_1001 t_1003 ts_26 t_1004 rfl ⟨rfl, by decide +kernel⟩ rfl ⟨by decide, by decide⟩ (Nat.le_of_ble_eq_true rfl) hm hs (fun v6 x6 h hm hs r6 => ?_)
  obtain ⟨rfl, pn, bg, en, hpt, hw6, hf6⟩ := r6
  have hM6 : MI x6 a r nm ld im kp mn := MI.fx (show MI (seti x 0 0) a r nm ld im kp mn from hM) hf6 (by decide) (by decide) (by decide)
  have c27 : ∀ (w1 : Int32) (h : hp) (hm : Mo D am ad x6 h) (hs : Sm am ad h0 h), G p l e (rmL 3) s m args below meth c 2 D z0 E (MQp D am ad h0 (fun r x' => (∃ v, r = some (.int v)) ∧ MIx x' ∧ KpZ x x')) 0 0 27 [(1, .int w1), (0, .ref am)] [] h 0 0 := by
    intro w1 h hm hs
    refine g_iload_n cx 0 d_8_43_27 rfl rfl ?_
    refine g_if_ne cx d_8_43_28 rfl (fun c28 => ?_) (fun c28 => ?_)
    · skip
      refine g_aload_n cx 1 d_8_43_35 rfl rfl ?_
      refine g_iload_n cx 0 d_8_43_36 rfl rfl ?_
      refine m_call 3 cx (As := [.int w1]) (n := 1) (mc_realmOf hSt hA x6 w1 r hM6.2.1.1 hM6.2.1.2) d_8_43_37 t_1046 t_1048 ts_37 t_1049 rfl ⟨rfl, by decide +kernel⟩ rfl ⟨by decide, by decide⟩ (Nat.le_of_ble_eq_true rfl) hm hs (fun v37 x37 h hm hs r37 => ?_)
      obtain ⟨e9, r9⟩ := r37
      rw [e9] at hm
      rcases r9 with ⟨j, hj, rfl⟩ | rfl
      · skip
        exact m_iret cx d_8_43_40 rfl rfl hm hs ⟨⟨_, rfl⟩, MIx.of hM6, hw6, hf6.kf (by decide)⟩
      · skip
        exact m_iret cx d_8_43_40 rfl rfl hm hs ⟨⟨_, rfl⟩, MIx.of hM6, hw6, hf6.kf (by decide)⟩
    · skip
      refine g_iconst cx (v := (-1)) d_8_43_31 (by decide) ?_
      refine g_goto cx d_8_43_32 rfl ?_
      exact m_iret cx d_8_43_40 rfl rfl hm hs ⟨⟨_, rfl⟩, MIx.of hM6, hw6, hf6.kf (by decide)⟩
  refine g_aload_n cx 0 d_8_43_9 rfl rfl ?_
  refine m_get cx (k := 3) d_8_43_10 t_901 ⟨by decide, rfl⟩ hm rfl ?_
  refine g_iconst cx (v := 1) d_8_43_13 (by decide) ?_
  refine g_icmp_ne cx d_8_43_14 rfl (fun c14 => ?_) (fun c14 => ?_)
  · skip
    refine g_iconst cx (v := 0) d_8_43_25 (by decide) ?_
    refine g_topi (fun w1 ew1 => ?_)
    refine g_istore_n cx (lv' := [(1, .int w1), (0, .ref am)]) d_8_43_26 rfl (by decide) rfl ?_
    exact c27 w1 h hm hs
  · skip
    refine g_aload_n cx 0 d_8_43_17 rfl rfl ?_
    refine g_iconst cx (v := 0) d_8_43_18 (by decide) ?_
    refine m_call 3 cx (As := [.int (nI 0)]) (n := 1) (mc_wordOf hSt hA x6 0 pn bg en hpt (by decide)) d_8_43_19 t_1021 t_1023 ts_31 t_1024 rfl ⟨rfl, by decide +kernel⟩ rfl ⟨by decide, by decide⟩ (Nat.le_of_ble_eq_true rfl) hm hs (fun v19 x19 h hm hs r19 => ?_)
    obtain ⟨e19, V19, rfl⟩ := r19
    rw [e19] at hm
    refine g_goto cx d_8_43_22 rfl ?_
    refine g_topi (fun w1 ew1 => ?_)
    refine g_istore_n cx (lv' := [(1, .int w1), (0, .ref am)]) d_8_43_26 rfl (by decide) rfl ?_
    exact c27 w1 h hm hs
end M7
