/-! ===== the reference: rows ===== -/
def shB (r : Nat → Int32) (i e : Nat) : Nat → Int32 := fun x => if 32 * i ≤ x ∧ x < e then (r (x + 32)).toInt8.toInt32 else r x
theorem shB_0 (r : Nat → Int32) (i : Nat) : shB r i (32 * i) = r := by
  funext x
  exact if_neg (by omega)
theorem shB_at {r : Nat → Int32} {i e x : Nat} (h : e ≤ x) : shB r i e x = r x := if_neg (by omega)
theorem shB_s (r : Nat → Int32) (i e : Nat) (h : 32 * i ≤ e) : upd (shB r i e) e (r (e + 32)).toInt8.toInt32 = shB r i (e + 1) := by
  funext x
  by_cases q : x = e
  · subst q
    rw [pk_us]
    exact (if_pos (by omega)).symm
  · rw [pk_un q]
    unfold shB
    by_cases h1 : 32 * i ≤ x ∧ x < e
    · rw [if_pos h1, if_pos (by omega)]
    · rw [if_neg h1, if_neg (by omega)]
theorem up_r3 (f : Nat → va_E) (o a b c d a' b' c' : va_E) : va_up (va_up (va_up (va_up (va_up (va_up (va_up (va_up f 302 o) 314 a) 315 b) 316 c) 317 d) 314 a') 315 b') 316 c' = va_up (va_up (va_up (va_up (va_up f 302 o) 314 a') 315 b') 316 c') 317 d := by
  funext j
  simp only [va_up]
  by_cases h1 : j = 316
  · simp [h1]
  · by_cases h2 : j = 315
    · simp [h2]
    · by_cases h3 : j = 314
      · simp [h3]
      · simp [h1, h2, h3]

abbrev rmX6_spoil : Room := { frames := 1, cells := 0, slots := 0, locals := 22 }

set_option maxHeartbeats 4000000 in
set_option maxRecDepth 100000 in
theorem k_X6_spoil_none (l : Launch) (D : va_G) (ca : Nat → ClassId) (N : Nat) (ad : Nat → Nat) (B tR tK : Nat) (f : Nat → va_E) (dd : xD N ad B) (hN : 326 ≤ N) (n : Nat → Nat) (g : Nat → Nat → Int32) (z : Nat → Nat → Int32) (zn : Nat) (tb : Nat → Int32) (hR : RepM ca ad n g z zn tb f) (x : Int32) (y : Int32) (h5 : n 4 ≤ 200) (ho : x < 0 ∨ nI (n 4) ≤ x) : xMi l yX6_spoil wsX6_spoil rmX6_spoil [.ref (ad 302), .int x, .int y] D ca N ad B tR tK f (fun r u => (-1) = r ∧ ∃ (z1 : Nat → Nat → Int32) (zn1 : Nat), RepM ca ad (va_up n 7 0) g z1 zn1 tb u ∧ ∀ y, (y < 302 ∨ 326 ≤ y) → u y = f y) := by
  refine x_open (cc := cX6_spoil) (maxL := 5) (ret := (some .int)) (by decide) rfl (Nat.le_of_ble_eq_true rfl) ?_
  intro p e s m below meth c ls hx hb hml hown hts hr hlocks hnm hB hK hE hw hl
  have hown : s.vm.findClass RX6 = some m.cls := hown
  have hl : lv_has ls 5 [(0, .ref (ad 302)), (1, .int x), (2, .int y)] := hl
  obtain ⟨c_302, c_303, c_304, c_305, c_306, c_307, c_308, c_309, c_310, c_311, c_312, c_313, c_314, c_315, c_316, c_317, c_318, c_319, c_320, c_321, c_322, c_323, c_324, c_325, hzn⟩ := hR
  have hin_7 : ∀ w ∈ u_ws RX6 TX6 32, w ∈ wsX6_spoil := by decide +kernel
  have hf_160 := hts (.fieldLink RX6 160 "FixityRowsModel" "thrown" "I") (by decide +kernel)
  have hf_203 := hts (.fieldLink RX6 203 "FixityRowsModel" "rows" "I") (by decide +kernel)
  have b_302 := c_302
  have b_303 := c_303
  have b_304 := c_304
  have b_305 := c_305
  have b_306 := c_306
  have b_307 := c_307
  have b_308 := c_308
  have b_309 := c_309
  have b_310 := c_310
  have b_311 := c_311
  have b_312 := c_312
  have b_313 := c_313
  have b_314 := c_314
  have b_315 := c_315
  have b_316 := c_316
  have b_317 := c_317
  have b_318 := c_318
  have b_319 := c_319
  have b_320 := c_320
  have b_321 := c_321
  have b_322 := c_322
  have b_323 := c_323
  have b_324 := c_324
  have b_325 := c_325
  refine lv_aload_n hx hb dX6_spoil_0 rfl (lv_at hl 0 rfl) ?_
  refine lv_iconst (v := nI 0) hx hb dX6_spoil_1 (by decide) ?_
  refine x_put (ci := 7) (C := RX6) (T := TX6) (n := 32) (ref := RX6) (fs' := mO ad 0 (n 0) (n 1) (n 2) (g 13 0) (n 3) (n 4) (n 5) zn) hx hb hts hin_7 tyX6 tyX6_ok nmX6 hown hK dd hw 302 (by omega) c_302 rfl 0 (by decide) hf_160 (fun _ h => h) rfl rfl rfl (Nat.le_of_ble_eq_true rfl) rfl dX6_spoil_2 (fun H locs hw => ?_)
  obtain ⟨f_1, ef_1⟩ : ∃ z, z = va_up f 302 (.inr (7, mO ad 0 (n 0) (n 1) (n 2) (g 13 0) (n 3) (n 4) (n 5) zn)) := ⟨_, rfl⟩
  have hw : xw D vwCl N ad B s.heap f_1 H locs := by rw [ef_1]; exact hw
  have c_302 : f_1 302 = .inr (7, mO ad 0 (n 0) (n 1) (n 2) (g 13 0) (n 3) (n 4) (n 5) zn) := va_up_of ef_1
  refine lv_iload_n hx hb dX6_spoil_5 rfl (lv_at hl 1 rfl) ?_
  refine lv_iconst (v := nI 0) hx hb dX6_spoil_6 (by decide) ?_
  refine lv_aload_n hx hb dX6_spoil_7 rfl (lv_at hl 0 rfl) ?_
  refine x_get (ci := 7) (C := RX6) (T := TX6) (n := 32) (ref := RX6) hx hb hts hin_7 hown hK hw 302 (by omega) c_302 rfl 17 (by decide) hf_203 (fun _ h => h) rfl dX6_spoil_8 ?_
  refine lv_iconst (v := nI 1) hx hb dX6_spoil_11 (by decide) ?_
  refine lv_isub hx hb dX6_spoil_12 ?_
  refine lv_topi (fun x_2 ex_2 => ?_)
  refine x_Si (As := [.int x, .int (nI 0), .int x_2]) (rest := []) ⟨hx, hb, hml, hown, hts⟩ (k_X6_in_no l D ca N ad B tR tK f_1 dd x (nI 0) x_2   (by rw [ex_2]; exact out_of (by omega) ho)) (va_cwS 3 hts gX6_spoil_X6_in rfl rfl rfl (by decide +kernel) ⟨Nat.le_of_ble_eq_true rfl, Nat.le_of_ble_eq_true rfl⟩) hK hE hB hw rfl rfl hl.1 (Nat.le_of_ble_eq_true rfl) ⟨Nat.zero_le _, Nat.zero_le _⟩ dX6_spoil_13 (fun r_4 f_3 H locs hp hw => ?_)
  obtain ⟨er, eu⟩ := hp
  rw [← er]
  rw [← eu] at hw
  refine lv_if_ne (tgt := 21) hx hb dX6_spoil_16 (by decide) (fun h => False.elim (h (by decide))) (fun _ => ?_)
  refine lv_iconst (v := (-1)) hx hb dX6_spoil_19 (by decide) ?_
  have c_303 : f_1 303 = ai (ca 1) 200 (g 0) := by rw [ef_1, va_up_ne _ _ (by decide)]; exact c_303
  have c_304 : f_1 304 = ai (ca 1) 4000 (g 1) := by rw [ef_1, va_up_ne _ _ (by decide)]; exact c_304
  have c_305 : f_1 305 = ai (ca 0) 20 (g 2) := by rw [ef_1, va_up_ne _ _ (by decide)]; exact c_305
  have c_306 : f_1 306 = ai (ca 0) 20 (g 3) := by rw [ef_1, va_up_ne _ _ (by decide)]; exact c_306
  have c_307 : f_1 307 = ai (ca 1) 720 (g 4) := by rw [ef_1, va_up_ne _ _ (by decide)]; exact c_307
  have c_308 : f_1 308 = ai (ca 0) 20 (g 5) := by rw [ef_1, va_up_ne _ _ (by decide)]; exact c_308
  have c_309 : f_1 309 = ai (ca 0) 20 (g 6) := by rw [ef_1, va_up_ne _ _ (by decide)]; exact c_309
  have c_310 : f_1 310 = ai (ca 0) 20 (g 7) := by rw [ef_1, va_up_ne _ _ (by decide)]; exact c_310
  have c_311 : f_1 311 = ai (ca 0) 20 (g 8) := by rw [ef_1, va_up_ne _ _ (by decide)]; exact c_311
  have c_312 : f_1 312 = ai (ca 0) 20 (g 9) := by rw [ef_1, va_up_ne _ _ (by decide)]; exact c_312
  have c_313 : f_1 313 = ai (ca 2) 20 (g 10) := by rw [ef_1, va_up_ne _ _ (by decide)]; exact c_313
  have c_314 : f_1 314 = ai (ca 0) 200 (g 11) := by rw [ef_1, va_up_ne _ _ (by decide)]; exact c_314
  have c_315 : f_1 315 = ai (ca 0) 200 (g 12) := by rw [ef_1, va_up_ne _ _ (by decide)]; exact c_315
  have c_316 : f_1 316 = ai (ca 0) 200 (g 14) := by rw [ef_1, va_up_ne _ _ (by decide)]; exact c_316
  have c_317 : f_1 317 = ai (ca 1) 6400 (g 15) := by rw [ef_1, va_up_ne _ _ (by decide)]; exact c_317
  have c_318 : f_1 318 = ai (ca 1) 32 (g 16) := by rw [ef_1, va_up_ne _ _ (by decide)]; exact c_318
  have c_319 : f_1 319 = ai (ca 1) 320 (z 0) := by rw [ef_1, va_up_ne _ _ (by decide)]; exact c_319
  have c_320 : f_1 320 = ai (ca 1) 36 (z 1) := by rw [ef_1, va_up_ne _ _ (by decide)]; exact c_320
  have c_321 : f_1 321 = ai (ca 0) 64 (z 2) := by rw [ef_1, va_up_ne _ _ (by decide)]; exact c_321
  have c_322 : f_1 322 = ai (ca 0) 8 (z 3) := by rw [ef_1, va_up_ne _ _ (by decide)]; exact c_322
  have c_323 : f_1 323 = ai (ca 0) 8 (z 4) := by rw [ef_1, va_up_ne _ _ (by decide)]; exact c_323
  have c_324 : f_1 324 = ai (ca 0) 8 shR := by rw [ef_1, va_up_ne _ _ (by decide)]; exact c_324
  have c_325 : f_1 325 = ai (ca 0) 64 shK := by rw [ef_1, va_up_ne _ _ (by decide)]; exact c_325
  have qn_0 : (va_up n 7 0) 0 = n 0 := by rw [va_up_ne _ _ (by decide)]
  have qn_1 : (va_up n 7 0) 1 = n 1 := by rw [va_up_ne _ _ (by decide)]
  have qn_2 : (va_up n 7 0) 2 = n 2 := by rw [va_up_ne _ _ (by decide)]
  have qn_3 : (va_up n 7 0) 3 = n 3 := by rw [va_up_ne _ _ (by decide)]
  have qn_4 : (va_up n 7 0) 4 = n 4 := by rw [va_up_ne _ _ (by decide)]
  have qn_5 : (va_up n 7 0) 5 = n 5 := by rw [va_up_ne _ _ (by decide)]
  have qn_6 : (va_up n 7 0) 6 = n 6 := by rw [va_up_ne _ _ (by decide)]
  have qn_7 : (va_up n 7 0) 7 = 0 := by rw [va_up_self]
  have hRz : RepM ca ad (va_up n 7 0) g z zn tb f_1 := ⟨(by rw [qn_7, qn_0, qn_1, qn_2, qn_3, qn_4, qn_5]; exact c_302),
        c_303,
        c_304,
        c_305,
        c_306,
        c_307,
        c_308,
        c_309,
        c_310,
        c_311,
        c_312,
        c_313,
        c_314,
        c_315,
        c_316,
        c_317,
        c_318,
        c_319,
        c_320,
        c_321,
        c_322,
        c_323,
        c_324,
        c_325, hzn⟩
  exact x_iret hx hb hr hlocks hw ⟨rfl, z, zn, hRz, (fun y hy => by rw [ef_1, va_up_ne _ _ (by omega)])⟩ dX6_spoil_20

set_option maxHeartbeats 4000000 in
set_option maxRecDepth 100000 in
theorem k_X6_spoil_day (l : Launch) (D : va_G) (ca : Nat → ClassId) (N : Nat) (ad : Nat → Nat) (B tR tK : Nat) (f : Nat → va_E) (dd : xD N ad B) (hN : 326 ≤ N) (n : Nat → Nat) (g : Nat → Nat → Int32) (z : Nat → Nat → Int32) (zn : Nat) (tb : Nat → Int32) (hR : RepM ca ad n g z zn tb f) (i : Nat) (y : Int32) (h5 : n 4 ≤ 200) (hi : i < n 4) (ho : ¬ y = 0) : xMi l yX6_spoil wsX6_spoil rmX6_spoil [.ref (ad 302), .int (nI i), .int y] D ca N ad B tR tK f (fun r u => nI 1 = r ∧ ∃ (z1 : Nat → Nat → Int32) (zn1 : Nat), RepM ca ad (va_up n 7 0) (va_up g 14 (upd (g 14) i (((g 14) i) ^^^ y))) z1 zn1 tb u ∧ ∀ y, (y < 302 ∨ 326 ≤ y) → u y = f y) := by
  refine x_open (cc := cX6_spoil) (maxL := 5) (ret := (some .int)) (by decide) rfl (Nat.le_of_ble_eq_true rfl) ?_
  intro p e s m below meth c ls hx hb hml hown hts hr hlocks hnm hB hK hE hw hl
  have hown : s.vm.findClass RX6 = some m.cls := hown
  have hl : lv_has ls 5 [(0, .ref (ad 302)), (1, .int (nI i)), (2, .int y)] := hl
  obtain ⟨c_302, c_303, c_304, c_305, c_306, c_307, c_308, c_309, c_310, c_311, c_312, c_313, c_314, c_315, c_316, c_317, c_318, c_319, c_320, c_321, c_322, c_323, c_324, c_325, hzn⟩ := hR
  have hin_7 : ∀ w ∈ u_ws RX6 TX6 32, w ∈ wsX6_spoil := by decide +kernel
  have hf_160 := hts (.fieldLink RX6 160 "FixityRowsModel" "thrown" "I") (by decide +kernel)
  have hf_203 := hts (.fieldLink RX6 203 "FixityRowsModel" "rows" "I") (by decide +kernel)
  have hf_55 := hts (.fieldLink RX6 55 "FixityRowsModel" "rowDay" "[I") (by decide +kernel)
  have b_302 := c_302
  have b_303 := c_303
  have b_304 := c_304
  have b_305 := c_305
  have b_306 := c_306
  have b_307 := c_307
  have b_308 := c_308
  have b_309 := c_309
  have b_310 := c_310
  have b_311 := c_311
  have b_312 := c_312
  have b_313 := c_313
  have b_314 := c_314
  have b_315 := c_315
  have b_316 := c_316
  have b_317 := c_317
  have b_318 := c_318
  have b_319 := c_319
  have b_320 := c_320
  have b_321 := c_321
  have b_322 := c_322
  have b_323 := c_323
  have b_324 := c_324
  have b_325 := c_325
  refine lv_aload_n hx hb dX6_spoil_0 rfl (lv_at hl 0 rfl) ?_
  refine lv_iconst (v := nI 0) hx hb dX6_spoil_1 (by decide) ?_
  refine x_put (ci := 7) (C := RX6) (T := TX6) (n := 32) (ref := RX6) (fs' := mO ad 0 (n 0) (n 1) (n 2) (g 13 0) (n 3) (n 4) (n 5) zn) hx hb hts hin_7 tyX6 tyX6_ok nmX6 hown hK dd hw 302 (by omega) c_302 rfl 0 (by decide) hf_160 (fun _ h => h) rfl rfl rfl (Nat.le_of_ble_eq_true rfl) rfl dX6_spoil_2 (fun H locs hw => ?_)
  obtain ⟨f_1, ef_1⟩ : ∃ z, z = va_up f 302 (.inr (7, mO ad 0 (n 0) (n 1) (n 2) (g 13 0) (n 3) (n 4) (n 5) zn)) := ⟨_, rfl⟩
  have hw : xw D vwCl N ad B s.heap f_1 H locs := by rw [ef_1]; exact hw
  have c_302 : f_1 302 = .inr (7, mO ad 0 (n 0) (n 1) (n 2) (g 13 0) (n 3) (n 4) (n 5) zn) := va_up_of ef_1
  refine lv_iload_n hx hb dX6_spoil_5 rfl (lv_at hl 1 rfl) ?_
  refine lv_iconst (v := nI 0) hx hb dX6_spoil_6 (by decide) ?_
  refine lv_aload_n hx hb dX6_spoil_7 rfl (lv_at hl 0 rfl) ?_
  refine x_get (ci := 7) (C := RX6) (T := TX6) (n := 32) (ref := RX6) hx hb hts hin_7 hown hK hw 302 (by omega) c_302 rfl 17 (by decide) hf_203 (fun _ h => h) rfl dX6_spoil_8 ?_
  refine lv_iconst (v := nI 1) hx hb dX6_spoil_11 (by decide) ?_
  refine n_isub hx hb dX6_spoil_12 (by omega) ?_
  refine x_Si (As := [.int (nI i), .int (nI 0), .int (nI ((n 4) - 1))]) (rest := []) ⟨hx, hb, hml, hown, hts⟩ (k_X6_in_yes l D ca N ad B tR tK f_1 dd i 0 ((n 4) - 1)   (by omega) (by omega) (by omega)) (va_cwS 3 hts gX6_spoil_X6_in rfl rfl rfl (by decide +kernel) ⟨Nat.le_of_ble_eq_true rfl, Nat.le_of_ble_eq_true rfl⟩) hK hE hB hw rfl rfl hl.1 (Nat.le_of_ble_eq_true rfl) ⟨Nat.zero_le _, Nat.zero_le _⟩ dX6_spoil_13 (fun r_3 f_2 H locs hp hw => ?_)
  obtain ⟨er, eu⟩ := hp
  rw [← er]
  rw [← eu] at hw
  refine lv_if_ne (tgt := 21) hx hb dX6_spoil_16 (by decide) (fun _ => ?_) (fun h => absurd h (by decide))
  refine lv_iload_n hx hb dX6_spoil_21 rfl (lv_at hl 2 rfl) ?_
  refine lv_if_eq (tgt := 37) hx hb dX6_spoil_22 (by decide) (fun hc_22 => ?_) (fun hc_22 => ?_)
  · exact absurd hc_22 ho
  · refine lv_aload_n hx hb dX6_spoil_25 rfl (lv_at hl 0 rfl) ?_
    refine x_get (ci := 7) (C := RX6) (T := TX6) (n := 32) (ref := RX6) hx hb hts hin_7 hown hK hw 302 (by omega) c_302 rfl 20 (by decide) hf_55 (fun _ h => h) rfl dX6_spoil_26 ?_
    refine lv_iload_n hx hb dX6_spoil_29 rfl (lv_at hl 1 rfl) ?_
    refine lv_dup2_11 hx hb dX6_spoil_30 rfl rfl ?_
    have c_316 : f_1 316 = ai (ca 0) 200 (g 14) := by rw [ef_1, va_up_ne _ _ (by decide)]; exact c_316
    refine x_iald (j := i) hx hb hK hw 316 0 (by omega) c_316 rfl rfl (by omega) (by decide) dX6_spoil_31 ?_
    refine lv_iload_n hx hb dX6_spoil_32 rfl (lv_at hl 2 rfl) ?_
    refine lv_ixor hx hb dX6_spoil_33 ?_
    refine lv_topi (fun x_4 ex_4 => ?_)
    refine x_iast (j := i) hx hb hK dd hw 316 0 (by omega) c_316 rfl rfl (by omega) (by decide) dX6_spoil_34 (fun H locs hw => ?_)
    obtain ⟨f_5, ef_5⟩ : ∃ z, z = va_up f_1 316 (ai (ca 0) 200 (upd (g 14) i x_4)) := ⟨_, rfl⟩
    have hw : xw D vwCl N ad B s.heap f_5 H locs := by rw [ef_5]; exact hw
    have c_316 : f_5 316 = ai (ca 0) 200 (upd (g 14) i x_4) := va_up_of ef_5
    refine lv_iconst (v := nI 1) hx hb dX6_spoil_35 (by decide) ?_
    have c_302 : f_5 302 = .inr (7, mO ad 0 (n 0) (n 1) (n 2) (g 13 0) (n 3) (n 4) (n 5) zn) := by rw [ef_5, va_up_ne _ _ (by decide)]; exact c_302
    have c_303 : f_5 303 = ai (ca 1) 200 (g 0) := by rw [ef_5, va_up_ne _ _ (by decide), ef_1, va_up_ne _ _ (by decide)]; exact c_303
    have c_304 : f_5 304 = ai (ca 1) 4000 (g 1) := by rw [ef_5, va_up_ne _ _ (by decide), ef_1, va_up_ne _ _ (by decide)]; exact c_304
    have c_305 : f_5 305 = ai (ca 0) 20 (g 2) := by rw [ef_5, va_up_ne _ _ (by decide), ef_1, va_up_ne _ _ (by decide)]; exact c_305
    have c_306 : f_5 306 = ai (ca 0) 20 (g 3) := by rw [ef_5, va_up_ne _ _ (by decide), ef_1, va_up_ne _ _ (by decide)]; exact c_306
    have c_307 : f_5 307 = ai (ca 1) 720 (g 4) := by rw [ef_5, va_up_ne _ _ (by decide), ef_1, va_up_ne _ _ (by decide)]; exact c_307
    have c_308 : f_5 308 = ai (ca 0) 20 (g 5) := by rw [ef_5, va_up_ne _ _ (by decide), ef_1, va_up_ne _ _ (by decide)]; exact c_308
    have c_309 : f_5 309 = ai (ca 0) 20 (g 6) := by rw [ef_5, va_up_ne _ _ (by decide), ef_1, va_up_ne _ _ (by decide)]; exact c_309
    have c_310 : f_5 310 = ai (ca 0) 20 (g 7) := by rw [ef_5, va_up_ne _ _ (by decide), ef_1, va_up_ne _ _ (by decide)]; exact c_310
    have c_311 : f_5 311 = ai (ca 0) 20 (g 8) := by rw [ef_5, va_up_ne _ _ (by decide), ef_1, va_up_ne _ _ (by decide)]; exact c_311
    have c_312 : f_5 312 = ai (ca 0) 20 (g 9) := by rw [ef_5, va_up_ne _ _ (by decide), ef_1, va_up_ne _ _ (by decide)]; exact c_312
    have c_313 : f_5 313 = ai (ca 2) 20 (g 10) := by rw [ef_5, va_up_ne _ _ (by decide), ef_1, va_up_ne _ _ (by decide)]; exact c_313
    have c_314 : f_5 314 = ai (ca 0) 200 (g 11) := by rw [ef_5, va_up_ne _ _ (by decide), ef_1, va_up_ne _ _ (by decide)]; exact c_314
    have c_315 : f_5 315 = ai (ca 0) 200 (g 12) := by rw [ef_5, va_up_ne _ _ (by decide), ef_1, va_up_ne _ _ (by decide)]; exact c_315
    have c_317 : f_5 317 = ai (ca 1) 6400 (g 15) := by rw [ef_5, va_up_ne _ _ (by decide), ef_1, va_up_ne _ _ (by decide)]; exact c_317
    have c_318 : f_5 318 = ai (ca 1) 32 (g 16) := by rw [ef_5, va_up_ne _ _ (by decide), ef_1, va_up_ne _ _ (by decide)]; exact c_318
    have c_319 : f_5 319 = ai (ca 1) 320 (z 0) := by rw [ef_5, va_up_ne _ _ (by decide), ef_1, va_up_ne _ _ (by decide)]; exact c_319
    have c_320 : f_5 320 = ai (ca 1) 36 (z 1) := by rw [ef_5, va_up_ne _ _ (by decide), ef_1, va_up_ne _ _ (by decide)]; exact c_320
    have c_321 : f_5 321 = ai (ca 0) 64 (z 2) := by rw [ef_5, va_up_ne _ _ (by decide), ef_1, va_up_ne _ _ (by decide)]; exact c_321
    have c_322 : f_5 322 = ai (ca 0) 8 (z 3) := by rw [ef_5, va_up_ne _ _ (by decide), ef_1, va_up_ne _ _ (by decide)]; exact c_322
    have c_323 : f_5 323 = ai (ca 0) 8 (z 4) := by rw [ef_5, va_up_ne _ _ (by decide), ef_1, va_up_ne _ _ (by decide)]; exact c_323
    have c_324 : f_5 324 = ai (ca 0) 8 shR := by rw [ef_5, va_up_ne _ _ (by decide), ef_1, va_up_ne _ _ (by decide)]; exact c_324
    have c_325 : f_5 325 = ai (ca 0) 64 shK := by rw [ef_5, va_up_ne _ _ (by decide), ef_1, va_up_ne _ _ (by decide)]; exact c_325
    have c_316 : f_5 316 = ai (ca 0) 200 (upd (g 14) i (((g 14) i) ^^^ y)) := by rw [c_316]; simp only [ex_4]
    have qn_0 : (va_up n 7 0) 0 = n 0 := by rw [va_up_ne _ _ (by decide)]
    have qn_1 : (va_up n 7 0) 1 = n 1 := by rw [va_up_ne _ _ (by decide)]
    have qn_2 : (va_up n 7 0) 2 = n 2 := by rw [va_up_ne _ _ (by decide)]
    have qn_3 : (va_up n 7 0) 3 = n 3 := by rw [va_up_ne _ _ (by decide)]
    have qn_4 : (va_up n 7 0) 4 = n 4 := by rw [va_up_ne _ _ (by decide)]
    have qn_5 : (va_up n 7 0) 5 = n 5 := by rw [va_up_ne _ _ (by decide)]
    have qn_6 : (va_up n 7 0) 6 = n 6 := by rw [va_up_ne _ _ (by decide)]
    have qn_7 : (va_up n 7 0) 7 = 0 := by rw [va_up_self]
    have qg_0 : (va_up g 14 (upd (g 14) i (((g 14) i) ^^^ y))) 0 = g 0 := by rw [va_up_ne _ _ (by decide)]
    have qg_1 : (va_up g 14 (upd (g 14) i (((g 14) i) ^^^ y))) 1 = g 1 := by rw [va_up_ne _ _ (by decide)]
    have qg_2 : (va_up g 14 (upd (g 14) i (((g 14) i) ^^^ y))) 2 = g 2 := by rw [va_up_ne _ _ (by decide)]
    have qg_3 : (va_up g 14 (upd (g 14) i (((g 14) i) ^^^ y))) 3 = g 3 := by rw [va_up_ne _ _ (by decide)]
    have qg_4 : (va_up g 14 (upd (g 14) i (((g 14) i) ^^^ y))) 4 = g 4 := by rw [va_up_ne _ _ (by decide)]
    have qg_5 : (va_up g 14 (upd (g 14) i (((g 14) i) ^^^ y))) 5 = g 5 := by rw [va_up_ne _ _ (by decide)]
    have qg_6 : (va_up g 14 (upd (g 14) i (((g 14) i) ^^^ y))) 6 = g 6 := by rw [va_up_ne _ _ (by decide)]
    have qg_7 : (va_up g 14 (upd (g 14) i (((g 14) i) ^^^ y))) 7 = g 7 := by rw [va_up_ne _ _ (by decide)]
    have qg_8 : (va_up g 14 (upd (g 14) i (((g 14) i) ^^^ y))) 8 = g 8 := by rw [va_up_ne _ _ (by decide)]
    have qg_9 : (va_up g 14 (upd (g 14) i (((g 14) i) ^^^ y))) 9 = g 9 := by rw [va_up_ne _ _ (by decide)]
    have qg_10 : (va_up g 14 (upd (g 14) i (((g 14) i) ^^^ y))) 10 = g 10 := by rw [va_up_ne _ _ (by decide)]
    have qg_11 : (va_up g 14 (upd (g 14) i (((g 14) i) ^^^ y))) 11 = g 11 := by rw [va_up_ne _ _ (by decide)]
    have qg_12 : (va_up g 14 (upd (g 14) i (((g 14) i) ^^^ y))) 12 = g 12 := by rw [va_up_ne _ _ (by decide)]
    have qg_13 : (va_up g 14 (upd (g 14) i (((g 14) i) ^^^ y))) 13 = g 13 := by rw [va_up_ne _ _ (by decide)]
    have qg_14 : (va_up g 14 (upd (g 14) i (((g 14) i) ^^^ y))) 14 = upd (g 14) i (((g 14) i) ^^^ y) := by rw [va_up_self]
    have qg_15 : (va_up g 14 (upd (g 14) i (((g 14) i) ^^^ y))) 15 = g 15 := by rw [va_up_ne _ _ (by decide)]
    have qg_16 : (va_up g 14 (upd (g 14) i (((g 14) i) ^^^ y))) 16 = g 16 := by rw [va_up_ne _ _ (by decide)]
    have hRz : RepM ca ad (va_up n 7 0) (va_up g 14 (upd (g 14) i (((g 14) i) ^^^ y))) z zn tb f_5 := ⟨(by rw [qn_7, qn_0, qn_1, qn_2, qn_3, qn_4, qn_5, qg_13]; exact c_302),
          (by rw [qg_0]; exact c_303),
          (by rw [qg_1]; exact c_304),
          (by rw [qg_2]; exact c_305),
          (by rw [qg_3]; exact c_306),
          (by rw [qg_4]; exact c_307),
          (by rw [qg_5]; exact c_308),
          (by rw [qg_6]; exact c_309),
          (by rw [qg_7]; exact c_310),
          (by rw [qg_8]; exact c_311),
          (by rw [qg_9]; exact c_312),
          (by rw [qg_10]; exact c_313),
          (by rw [qg_11]; exact c_314),
          (by rw [qg_12]; exact c_315),
          (by rw [qg_14]; exact c_316),
          (by rw [qg_15]; exact c_317),
          (by rw [qg_16]; exact c_318),
          c_319,
          c_320,
          c_321,
          c_322,
          c_323,
          c_324,
          c_325, hzn⟩
    exact x_iret hx hb hr hlocks hw ⟨rfl, z, zn, hRz, (fun y hy => by rw [ef_5, va_up_ne _ _ (by omega), ef_1, va_up_ne _ _ (by omega)])⟩ dX6_spoil_36

set_option maxHeartbeats 4000000 in
set_option maxRecDepth 100000 in
theorem k_X6_spoil_gone (l : Launch) (D : va_G) (ca : Nat → ClassId) (N : Nat) (ad : Nat → Nat) (B tR tK : Nat) (f : Nat → va_E) (dd : xD N ad B) (hN : 326 ≤ N) (n : Nat → Nat) (g : Nat → Nat → Int32) (z : Nat → Nat → Int32) (zn : Nat) (tb : Nat → Int32) (hR : RepM ca ad n g z zn tb f) (i : Nat) (h5 : n 4 ≤ 200) (hi : i < n 4) : xMi l yX6_spoil wsX6_spoil rmX6_spoil [.ref (ad 302), .int (nI i), .int (nI 0)] D ca N ad B tR tK f (fun r u => nI 0 = r ∧ ∃ (z1 : Nat → Nat → Int32) (zn1 : Nat), RepM ca ad (va_up (va_up n 7 0) 4 (n 4 - 1)) (va_up (va_up (va_up (va_up g 11 (shl (g 11) i (n 4 - 1))) 12 (shl (g 12) i (n 4 - 1))) 14 (shl (g 14) i (n 4 - 1))) 15 (shB (g 15) i (32 * (n 4 - 1)))) z1 zn1 tb u ∧ ∀ y, (y < 302 ∨ 326 ≤ y) → u y = f y) := by
  refine x_open (cc := cX6_spoil) (maxL := 5) (ret := (some .int)) (by decide) rfl (Nat.le_of_ble_eq_true rfl) ?_
  intro p e s m below meth c ls hx hb hml hown hts hr hlocks hnm hB hK hE hw hl
  have hown : s.vm.findClass RX6 = some m.cls := hown
  have hl : lv_has ls 5 [(0, .ref (ad 302)), (1, .int (nI i)), (2, .int (nI 0))] := hl
  obtain ⟨c_302, c_303, c_304, c_305, c_306, c_307, c_308, c_309, c_310, c_311, c_312, c_313, c_314, c_315, c_316, c_317, c_318, c_319, c_320, c_321, c_322, c_323, c_324, c_325, hzn⟩ := hR
  have hin_7 : ∀ w ∈ u_ws RX6 TX6 32, w ∈ wsX6_spoil := by decide +kernel
  have hf_58 := hts (.fieldLink RX6 58 "FixityRowsModel" "rowDigest" "[B") (by decide +kernel)
  have hf_203 := hts (.fieldLink RX6 203 "FixityRowsModel" "rows" "I") (by decide +kernel)
  have hf_49 := hts (.fieldLink RX6 49 "FixityRowsModel" "rowWhat" "[I") (by decide +kernel)
  have hf_52 := hts (.fieldLink RX6 52 "FixityRowsModel" "rowFile" "[I") (by decide +kernel)
  have hf_55 := hts (.fieldLink RX6 55 "FixityRowsModel" "rowDay" "[I") (by decide +kernel)
  have hf_160 := hts (.fieldLink RX6 160 "FixityRowsModel" "thrown" "I") (by decide +kernel)
  have b_302 := c_302
  have b_303 := c_303
  have b_304 := c_304
  have b_305 := c_305
  have b_306 := c_306
  have b_307 := c_307
  have b_308 := c_308
  have b_309 := c_309
  have b_310 := c_310
  have b_311 := c_311
  have b_312 := c_312
  have b_313 := c_313
  have b_314 := c_314
  have b_315 := c_315
  have b_316 := c_316
  have b_317 := c_317
  have b_318 := c_318
  have b_319 := c_319
  have b_320 := c_320
  have b_321 := c_321
  have b_322 := c_322
  have b_323 := c_323
  have b_324 := c_324
  have b_325 := c_325
  have P_148 : ∀ (H : Heap) (locs : List Loc) (ls : Array Slot), xw D vwCl N ad B s.heap (va_up (va_up (va_up (va_up (va_up f 302 (.inr (7, mO ad 0 (n 0) (n 1) (n 2) (g 13 0) (n 3) (n 4 - 1) (n 5) zn))) 314 (ai (ca 0) 200 (shl (g 11) i (n 4 - 1)))) 315 (ai (ca 0) 200 (shl (g 12) i (n 4 - 1)))) 316 (ai (ca 0) 200 (shl (g 14) i (n 4 - 1)))) 317 (ai (ca 1) 6400 (shB (g 15) i (32 * (n 4 - 1))))) H locs → lv_has ls 5 [(0, .ref (ad 302)), (1, .int (nI i))] → W p l e rmX6_spoil s m ([.ref (ad 302), .int (nI i), .int (nI 0)] : List Value).toArray below meth c H locs 0 0 (MQ below (xQi (fun r u => nI 0 = r ∧ ∃ (z1 : Nat → Nat → Int32) (zn1 : Nat), RepM ca ad (va_up (va_up n 7 0) 4 (n 4 - 1)) (va_up (va_up (va_up (va_up g 11 (shl (g 11) i (n 4 - 1))) 12 (shl (g 12) i (n 4 - 1))) 14 (shl (g 14) i (n 4 - 1))) 15 (shB (g 15) i (32 * (n 4 - 1)))) z1 zn1 tb u ∧ ∀ y, (y < 302 ∨ 326 ≤ y) → u y = f y) D N ad B) ([.ref (ad 302), .int (nI i), .int (nI 0)] : List Value).toArray s 0 0 (xA B)) (F0 m 148 ls []) := by
    intro H locs ls hw hl
    have c_302 := b_302
    have c_303 := b_303
    have c_304 := b_304
    have c_305 := b_305
    have c_306 := b_306
    have c_307 := b_307
    have c_308 := b_308
    have c_309 := b_309
    have c_310 := b_310
    have c_311 := b_311
    have c_312 := b_312
    have c_313 := b_313
    have c_314 := b_314
    have c_315 := b_315
    have c_316 := b_316
    have c_317 := b_317
    have c_318 := b_318
    have c_319 := b_319
    have c_320 := b_320
    have c_321 := b_321
    have c_322 := b_322
    have c_323 := b_323
    have c_324 := b_324
    have c_325 := b_325
    obtain ⟨f_1, ef_1⟩ : ∃ z, z = va_up (va_up (va_up (va_up (va_up f 302 (.inr (7, mO ad 0 (n 0) (n 1) (n 2) (g 13 0) (n 3) (n 4 - 1) (n 5) zn))) 314 (ai (ca 0) 200 (shl (g 11) i (n 4 - 1)))) 315 (ai (ca 0) 200 (shl (g 12) i (n 4 - 1)))) 316 (ai (ca 0) 200 (shl (g 14) i (n 4 - 1)))) 317 (ai (ca 1) 6400 (shB (g 15) i (32 * (n 4 - 1)))) := ⟨_, rfl⟩
    have hw : xw D vwCl N ad B s.heap f_1 H locs := by rw [ef_1]; exact hw
    have c_302 : f_1 302 = .inr (7, mO ad 0 (n 0) (n 1) (n 2) (g 13 0) (n 3) (n 4 - 1) (n 5) zn) := by rw [ef_1, va_up_ne _ _ (by decide), va_up_ne _ _ (by decide), va_up_ne _ _ (by decide), va_up_ne _ _ (by decide), va_up_self]
    have c_314 : f_1 314 = ai (ca 0) 200 (shl (g 11) i (n 4 - 1)) := by rw [ef_1, va_up_ne _ _ (by decide), va_up_ne _ _ (by decide), va_up_ne _ _ (by decide), va_up_self]
    have c_315 : f_1 315 = ai (ca 0) 200 (shl (g 12) i (n 4 - 1)) := by rw [ef_1, va_up_ne _ _ (by decide), va_up_ne _ _ (by decide), va_up_self]
    have c_316 : f_1 316 = ai (ca 0) 200 (shl (g 14) i (n 4 - 1)) := by rw [ef_1, va_up_ne _ _ (by decide), va_up_self]
    have c_317 : f_1 317 = ai (ca 1) 6400 (shB (g 15) i (32 * (n 4 - 1))) := by rw [ef_1, va_up_self]
    refine lv_iconst (v := nI 0) hx hb dX6_spoil_148 (by decide) ?_
    have c_303 : f_1 303 = ai (ca 1) 200 (g 0) := by rw [ef_1, va_up_ne _ _ (by decide), va_up_ne _ _ (by decide), va_up_ne _ _ (by decide), va_up_ne _ _ (by decide), va_up_ne _ _ (by decide)]; exact c_303
    have c_304 : f_1 304 = ai (ca 1) 4000 (g 1) := by rw [ef_1, va_up_ne _ _ (by decide), va_up_ne _ _ (by decide), va_up_ne _ _ (by decide), va_up_ne _ _ (by decide), va_up_ne _ _ (by decide)]; exact c_304
    have c_305 : f_1 305 = ai (ca 0) 20 (g 2) := by rw [ef_1, va_up_ne _ _ (by decide), va_up_ne _ _ (by decide), va_up_ne _ _ (by decide), va_up_ne _ _ (by decide), va_up_ne _ _ (by decide)]; exact c_305
    have c_306 : f_1 306 = ai (ca 0) 20 (g 3) := by rw [ef_1, va_up_ne _ _ (by decide), va_up_ne _ _ (by decide), va_up_ne _ _ (by decide), va_up_ne _ _ (by decide), va_up_ne _ _ (by decide)]; exact c_306
    have c_307 : f_1 307 = ai (ca 1) 720 (g 4) := by rw [ef_1, va_up_ne _ _ (by decide), va_up_ne _ _ (by decide), va_up_ne _ _ (by decide), va_up_ne _ _ (by decide), va_up_ne _ _ (by decide)]; exact c_307
    have c_308 : f_1 308 = ai (ca 0) 20 (g 5) := by rw [ef_1, va_up_ne _ _ (by decide), va_up_ne _ _ (by decide), va_up_ne _ _ (by decide), va_up_ne _ _ (by decide), va_up_ne _ _ (by decide)]; exact c_308
    have c_309 : f_1 309 = ai (ca 0) 20 (g 6) := by rw [ef_1, va_up_ne _ _ (by decide), va_up_ne _ _ (by decide), va_up_ne _ _ (by decide), va_up_ne _ _ (by decide), va_up_ne _ _ (by decide)]; exact c_309
    have c_310 : f_1 310 = ai (ca 0) 20 (g 7) := by rw [ef_1, va_up_ne _ _ (by decide), va_up_ne _ _ (by decide), va_up_ne _ _ (by decide), va_up_ne _ _ (by decide), va_up_ne _ _ (by decide)]; exact c_310
    have c_311 : f_1 311 = ai (ca 0) 20 (g 8) := by rw [ef_1, va_up_ne _ _ (by decide), va_up_ne _ _ (by decide), va_up_ne _ _ (by decide), va_up_ne _ _ (by decide), va_up_ne _ _ (by decide)]; exact c_311
    have c_312 : f_1 312 = ai (ca 0) 20 (g 9) := by rw [ef_1, va_up_ne _ _ (by decide), va_up_ne _ _ (by decide), va_up_ne _ _ (by decide), va_up_ne _ _ (by decide), va_up_ne _ _ (by decide)]; exact c_312
    have c_313 : f_1 313 = ai (ca 2) 20 (g 10) := by rw [ef_1, va_up_ne _ _ (by decide), va_up_ne _ _ (by decide), va_up_ne _ _ (by decide), va_up_ne _ _ (by decide), va_up_ne _ _ (by decide)]; exact c_313
    have c_318 : f_1 318 = ai (ca 1) 32 (g 16) := by rw [ef_1, va_up_ne _ _ (by decide), va_up_ne _ _ (by decide), va_up_ne _ _ (by decide), va_up_ne _ _ (by decide), va_up_ne _ _ (by decide)]; exact c_318
    have c_319 : f_1 319 = ai (ca 1) 320 (z 0) := by rw [ef_1, va_up_ne _ _ (by decide), va_up_ne _ _ (by decide), va_up_ne _ _ (by decide), va_up_ne _ _ (by decide), va_up_ne _ _ (by decide)]; exact c_319
    have c_320 : f_1 320 = ai (ca 1) 36 (z 1) := by rw [ef_1, va_up_ne _ _ (by decide), va_up_ne _ _ (by decide), va_up_ne _ _ (by decide), va_up_ne _ _ (by decide), va_up_ne _ _ (by decide)]; exact c_320
    have c_321 : f_1 321 = ai (ca 0) 64 (z 2) := by rw [ef_1, va_up_ne _ _ (by decide), va_up_ne _ _ (by decide), va_up_ne _ _ (by decide), va_up_ne _ _ (by decide), va_up_ne _ _ (by decide)]; exact c_321
    have c_322 : f_1 322 = ai (ca 0) 8 (z 3) := by rw [ef_1, va_up_ne _ _ (by decide), va_up_ne _ _ (by decide), va_up_ne _ _ (by decide), va_up_ne _ _ (by decide), va_up_ne _ _ (by decide)]; exact c_322
    have c_323 : f_1 323 = ai (ca 0) 8 (z 4) := by rw [ef_1, va_up_ne _ _ (by decide), va_up_ne _ _ (by decide), va_up_ne _ _ (by decide), va_up_ne _ _ (by decide), va_up_ne _ _ (by decide)]; exact c_323
    have c_324 : f_1 324 = ai (ca 0) 8 shR := by rw [ef_1, va_up_ne _ _ (by decide), va_up_ne _ _ (by decide), va_up_ne _ _ (by decide), va_up_ne _ _ (by decide), va_up_ne _ _ (by decide)]; exact c_324
    have c_325 : f_1 325 = ai (ca 0) 64 shK := by rw [ef_1, va_up_ne _ _ (by decide), va_up_ne _ _ (by decide), va_up_ne _ _ (by decide), va_up_ne _ _ (by decide), va_up_ne _ _ (by decide)]; exact c_325
    have qn_0 : (va_up (va_up n 7 0) 4 (n 4 - 1)) 0 = n 0 := by rw [va_up_ne _ _ (by decide), va_up_ne _ _ (by decide)]
    have qn_1 : (va_up (va_up n 7 0) 4 (n 4 - 1)) 1 = n 1 := by rw [va_up_ne _ _ (by decide), va_up_ne _ _ (by decide)]
    have qn_2 : (va_up (va_up n 7 0) 4 (n 4 - 1)) 2 = n 2 := by rw [va_up_ne _ _ (by decide), va_up_ne _ _ (by decide)]
    have qn_3 : (va_up (va_up n 7 0) 4 (n 4 - 1)) 3 = n 3 := by rw [va_up_ne _ _ (by decide), va_up_ne _ _ (by decide)]
    have qn_4 : (va_up (va_up n 7 0) 4 (n 4 - 1)) 4 = n 4 - 1 := by rw [va_up_self]
    have qn_5 : (va_up (va_up n 7 0) 4 (n 4 - 1)) 5 = n 5 := by rw [va_up_ne _ _ (by decide), va_up_ne _ _ (by decide)]
    have qn_6 : (va_up (va_up n 7 0) 4 (n 4 - 1)) 6 = n 6 := by rw [va_up_ne _ _ (by decide), va_up_ne _ _ (by decide)]
    have qn_7 : (va_up (va_up n 7 0) 4 (n 4 - 1)) 7 = 0 := by rw [va_up_ne _ _ (by decide), va_up_self]
    have qg_0 : (va_up (va_up (va_up (va_up g 11 (shl (g 11) i (n 4 - 1))) 12 (shl (g 12) i (n 4 - 1))) 14 (shl (g 14) i (n 4 - 1))) 15 (shB (g 15) i (32 * (n 4 - 1)))) 0 = g 0 := by rw [va_up_ne _ _ (by decide), va_up_ne _ _ (by decide), va_up_ne _ _ (by decide), va_up_ne _ _ (by decide)]
    have qg_1 : (va_up (va_up (va_up (va_up g 11 (shl (g 11) i (n 4 - 1))) 12 (shl (g 12) i (n 4 - 1))) 14 (shl (g 14) i (n 4 - 1))) 15 (shB (g 15) i (32 * (n 4 - 1)))) 1 = g 1 := by rw [va_up_ne _ _ (by decide), va_up_ne _ _ (by decide), va_up_ne _ _ (by decide), va_up_ne _ _ (by decide)]
    have qg_2 : (va_up (va_up (va_up (va_up g 11 (shl (g 11) i (n 4 - 1))) 12 (shl (g 12) i (n 4 - 1))) 14 (shl (g 14) i (n 4 - 1))) 15 (shB (g 15) i (32 * (n 4 - 1)))) 2 = g 2 := by rw [va_up_ne _ _ (by decide), va_up_ne _ _ (by decide), va_up_ne _ _ (by decide), va_up_ne _ _ (by decide)]
    have qg_3 : (va_up (va_up (va_up (va_up g 11 (shl (g 11) i (n 4 - 1))) 12 (shl (g 12) i (n 4 - 1))) 14 (shl (g 14) i (n 4 - 1))) 15 (shB (g 15) i (32 * (n 4 - 1)))) 3 = g 3 := by rw [va_up_ne _ _ (by decide), va_up_ne _ _ (by decide), va_up_ne _ _ (by decide), va_up_ne _ _ (by decide)]
    have qg_4 : (va_up (va_up (va_up (va_up g 11 (shl (g 11) i (n 4 - 1))) 12 (shl (g 12) i (n 4 - 1))) 14 (shl (g 14) i (n 4 - 1))) 15 (shB (g 15) i (32 * (n 4 - 1)))) 4 = g 4 := by rw [va_up_ne _ _ (by decide), va_up_ne _ _ (by decide), va_up_ne _ _ (by decide), va_up_ne _ _ (by decide)]
    have qg_5 : (va_up (va_up (va_up (va_up g 11 (shl (g 11) i (n 4 - 1))) 12 (shl (g 12) i (n 4 - 1))) 14 (shl (g 14) i (n 4 - 1))) 15 (shB (g 15) i (32 * (n 4 - 1)))) 5 = g 5 := by rw [va_up_ne _ _ (by decide), va_up_ne _ _ (by decide), va_up_ne _ _ (by decide), va_up_ne _ _ (by decide)]
    have qg_6 : (va_up (va_up (va_up (va_up g 11 (shl (g 11) i (n 4 - 1))) 12 (shl (g 12) i (n 4 - 1))) 14 (shl (g 14) i (n 4 - 1))) 15 (shB (g 15) i (32 * (n 4 - 1)))) 6 = g 6 := by rw [va_up_ne _ _ (by decide), va_up_ne _ _ (by decide), va_up_ne _ _ (by decide), va_up_ne _ _ (by decide)]
    have qg_7 : (va_up (va_up (va_up (va_up g 11 (shl (g 11) i (n 4 - 1))) 12 (shl (g 12) i (n 4 - 1))) 14 (shl (g 14) i (n 4 - 1))) 15 (shB (g 15) i (32 * (n 4 - 1)))) 7 = g 7 := by rw [va_up_ne _ _ (by decide), va_up_ne _ _ (by decide), va_up_ne _ _ (by decide), va_up_ne _ _ (by decide)]
    have qg_8 : (va_up (va_up (va_up (va_up g 11 (shl (g 11) i (n 4 - 1))) 12 (shl (g 12) i (n 4 - 1))) 14 (shl (g 14) i (n 4 - 1))) 15 (shB (g 15) i (32 * (n 4 - 1)))) 8 = g 8 := by rw [va_up_ne _ _ (by decide), va_up_ne _ _ (by decide), va_up_ne _ _ (by decide), va_up_ne _ _ (by decide)]
    have qg_9 : (va_up (va_up (va_up (va_up g 11 (shl (g 11) i (n 4 - 1))) 12 (shl (g 12) i (n 4 - 1))) 14 (shl (g 14) i (n 4 - 1))) 15 (shB (g 15) i (32 * (n 4 - 1)))) 9 = g 9 := by rw [va_up_ne _ _ (by decide), va_up_ne _ _ (by decide), va_up_ne _ _ (by decide), va_up_ne _ _ (by decide)]
    have qg_10 : (va_up (va_up (va_up (va_up g 11 (shl (g 11) i (n 4 - 1))) 12 (shl (g 12) i (n 4 - 1))) 14 (shl (g 14) i (n 4 - 1))) 15 (shB (g 15) i (32 * (n 4 - 1)))) 10 = g 10 := by rw [va_up_ne _ _ (by decide), va_up_ne _ _ (by decide), va_up_ne _ _ (by decide), va_up_ne _ _ (by decide)]
    have qg_11 : (va_up (va_up (va_up (va_up g 11 (shl (g 11) i (n 4 - 1))) 12 (shl (g 12) i (n 4 - 1))) 14 (shl (g 14) i (n 4 - 1))) 15 (shB (g 15) i (32 * (n 4 - 1)))) 11 = shl (g 11) i (n 4 - 1) := by rw [va_up_ne _ _ (by decide), va_up_ne _ _ (by decide), va_up_ne _ _ (by decide), va_up_self]
    have qg_12 : (va_up (va_up (va_up (va_up g 11 (shl (g 11) i (n 4 - 1))) 12 (shl (g 12) i (n 4 - 1))) 14 (shl (g 14) i (n 4 - 1))) 15 (shB (g 15) i (32 * (n 4 - 1)))) 12 = shl (g 12) i (n 4 - 1) := by rw [va_up_ne _ _ (by decide), va_up_ne _ _ (by decide), va_up_self]
    have qg_13 : (va_up (va_up (va_up (va_up g 11 (shl (g 11) i (n 4 - 1))) 12 (shl (g 12) i (n 4 - 1))) 14 (shl (g 14) i (n 4 - 1))) 15 (shB (g 15) i (32 * (n 4 - 1)))) 13 = g 13 := by rw [va_up_ne _ _ (by decide), va_up_ne _ _ (by decide), va_up_ne _ _ (by decide), va_up_ne _ _ (by decide)]
    have qg_14 : (va_up (va_up (va_up (va_up g 11 (shl (g 11) i (n 4 - 1))) 12 (shl (g 12) i (n 4 - 1))) 14 (shl (g 14) i (n 4 - 1))) 15 (shB (g 15) i (32 * (n 4 - 1)))) 14 = shl (g 14) i (n 4 - 1) := by rw [va_up_ne _ _ (by decide), va_up_self]
    have qg_15 : (va_up (va_up (va_up (va_up g 11 (shl (g 11) i (n 4 - 1))) 12 (shl (g 12) i (n 4 - 1))) 14 (shl (g 14) i (n 4 - 1))) 15 (shB (g 15) i (32 * (n 4 - 1)))) 15 = shB (g 15) i (32 * (n 4 - 1)) := by rw [va_up_self]
    have qg_16 : (va_up (va_up (va_up (va_up g 11 (shl (g 11) i (n 4 - 1))) 12 (shl (g 12) i (n 4 - 1))) 14 (shl (g 14) i (n 4 - 1))) 15 (shB (g 15) i (32 * (n 4 - 1)))) 16 = g 16 := by rw [va_up_ne _ _ (by decide), va_up_ne _ _ (by decide), va_up_ne _ _ (by decide), va_up_ne _ _ (by decide)]
    have hRz : RepM ca ad (va_up (va_up n 7 0) 4 (n 4 - 1)) (va_up (va_up (va_up (va_up g 11 (shl (g 11) i (n 4 - 1))) 12 (shl (g 12) i (n 4 - 1))) 14 (shl (g 14) i (n 4 - 1))) 15 (shB (g 15) i (32 * (n 4 - 1)))) z zn tb f_1 := ⟨(by rw [qn_7, qn_0, qn_1, qn_2, qn_3, qn_4, qn_5, qg_13]; exact c_302),
          (by rw [qg_0]; exact c_303),
          (by rw [qg_1]; exact c_304),
          (by rw [qg_2]; exact c_305),
          (by rw [qg_3]; exact c_306),
          (by rw [qg_4]; exact c_307),
          (by rw [qg_5]; exact c_308),
          (by rw [qg_6]; exact c_309),
          (by rw [qg_7]; exact c_310),
          (by rw [qg_8]; exact c_311),
          (by rw [qg_9]; exact c_312),
          (by rw [qg_10]; exact c_313),
          (by rw [qg_11]; exact c_314),
          (by rw [qg_12]; exact c_315),
          (by rw [qg_14]; exact c_316),
          (by rw [qg_15]; exact c_317),
          (by rw [qg_16]; exact c_318),
          c_319,
          c_320,
          c_321,
          c_322,
          c_323,
          c_324,
          c_325, hzn⟩
    exact x_iret hx hb hr hlocks hw ⟨rfl, z, zn, hRz, (fun y hy => by rw [ef_1, va_up_ne _ _ (by omega), va_up_ne _ _ (by omega), va_up_ne _ _ (by omega), va_up_ne _ _ (by omega), va_up_ne _ _ (by omega)])⟩ dX6_spoil_149
  have P_49 : ∀ (n_49 : Nat) (r : Nat) (H : Heap) (locs : List Loc) (ls : Array Slot), (n 4 - 1) + 1 ≤ r + n_49 → (i ≤ r) → (r ≤ n 4 - 1) → xw D vwCl N ad B s.heap (va_up (va_up (va_up (va_up (va_up f 302 (.inr (7, mO ad 0 (n 0) (n 1) (n 2) (g 13 0) (n 3) (n 4 - 1) (n 5) zn))) 314 (ai (ca 0) 200 (shl (g 11) i r))) 315 (ai (ca 0) 200 (shl (g 12) i r))) 316 (ai (ca 0) 200 (shl (g 14) i r))) 317 (ai (ca 1) 6400 (shB (g 15) i (32 * r)))) H locs → lv_has ls 5 [(0, .ref (ad 302)), (1, .int (nI i)), (3, .int (nI r))] → W p l e rmX6_spoil s m ([.ref (ad 302), .int (nI i), .int (nI 0)] : List Value).toArray below meth c H locs 0 0 (MQ below (xQi (fun r u => nI 0 = r ∧ ∃ (z1 : Nat → Nat → Int32) (zn1 : Nat), RepM ca ad (va_up (va_up n 7 0) 4 (n 4 - 1)) (va_up (va_up (va_up (va_up g 11 (shl (g 11) i (n 4 - 1))) 12 (shl (g 12) i (n 4 - 1))) 14 (shl (g 14) i (n 4 - 1))) 15 (shB (g 15) i (32 * (n 4 - 1)))) z1 zn1 tb u ∧ ∀ y, (y < 302 ∨ 326 ≤ y) → u y = f y) D N ad B) ([.ref (ad 302), .int (nI i), .int (nI 0)] : List Value).toArray s 0 0 (xA B)) (F0 m 49 ls []) := by
    intro n_49
    induction n_49 with
    | zero =>
      intro r H locs ls hm_49 hr1 hr0 hw hl
      exact absurd hm_49 (by omega)
    | succ n_49 ih_49 =>
      intro r H locs ls hm_49 hr1 hr0 hw hl
      have P_102 : ∀ (n_102 : Nat) (r : Nat) (k : Nat) (H : Heap) (locs : List Loc) (ls : Array Slot), 32 + 1 ≤ k + n_102 → (i ≤ r) → (r < n 4 - 1) → ((n 4 - 1) + 1 ≤ r + (n_49 + 1)) → (k ≤ 32) → xw D vwCl N ad B s.heap (va_up (va_up (va_up (va_up (va_up f 302 (.inr (7, mO ad 0 (n 0) (n 1) (n 2) (g 13 0) (n 3) (n 4 - 1) (n 5) zn))) 314 (ai (ca 0) 200 (shl (g 11) i (r + 1)))) 315 (ai (ca 0) 200 (shl (g 12) i (r + 1)))) 316 (ai (ca 0) 200 (shl (g 14) i (r + 1)))) 317 (ai (ca 1) 6400 (shB (g 15) i (32 * r + k)))) H locs → lv_has ls 5 [(0, .ref (ad 302)), (1, .int (nI i)), (3, .int (nI r)), (4, .int (nI k))] → W p l e rmX6_spoil s m ([.ref (ad 302), .int (nI i), .int (nI 0)] : List Value).toArray below meth c H locs 0 0 (MQ below (xQi (fun r u => nI 0 = r ∧ ∃ (z1 : Nat → Nat → Int32) (zn1 : Nat), RepM ca ad (va_up (va_up n 7 0) 4 (n 4 - 1)) (va_up (va_up (va_up (va_up g 11 (shl (g 11) i (n 4 - 1))) 12 (shl (g 12) i (n 4 - 1))) 14 (shl (g 14) i (n 4 - 1))) 15 (shB (g 15) i (32 * (n 4 - 1)))) z1 zn1 tb u ∧ ∀ y, (y < 302 ∨ 326 ≤ y) → u y = f y) D N ad B) ([.ref (ad 302), .int (nI i), .int (nI 0)] : List Value).toArray s 0 0 (xA B)) (F0 m 102 ls []) := by
        intro n_102
        induction n_102 with
        | zero =>
          intro r k H locs ls hm_102 hr1 hr2 hu hk hw hl
          exact absurd hm_102 (by omega)
        | succ n_102 ih_102 =>
          intro r k H locs ls hm_102 hr1 hr2 hu hk hw hl
          have c_302 := b_302
          have c_303 := b_303
          have c_304 := b_304
          have c_305 := b_305
          have c_306 := b_306
          have c_307 := b_307
          have c_308 := b_308
          have c_309 := b_309
          have c_310 := b_310
          have c_311 := b_311
          have c_312 := b_312
          have c_313 := b_313
          have c_314 := b_314
          have c_315 := b_315
          have c_316 := b_316
          have c_317 := b_317
          have c_318 := b_318
          have c_319 := b_319
          have c_320 := b_320
          have c_321 := b_321
          have c_322 := b_322
          have c_323 := b_323
          have c_324 := b_324
          have c_325 := b_325
          obtain ⟨f_2, ef_2⟩ : ∃ z, z = va_up (va_up (va_up (va_up (va_up f 302 (.inr (7, mO ad 0 (n 0) (n 1) (n 2) (g 13 0) (n 3) (n 4 - 1) (n 5) zn))) 314 (ai (ca 0) 200 (shl (g 11) i (r + 1)))) 315 (ai (ca 0) 200 (shl (g 12) i (r + 1)))) 316 (ai (ca 0) 200 (shl (g 14) i (r + 1)))) 317 (ai (ca 1) 6400 (shB (g 15) i (32 * r + k))) := ⟨_, rfl⟩
          have hw : xw D vwCl N ad B s.heap f_2 H locs := by rw [ef_2]; exact hw
          have c_302 : f_2 302 = .inr (7, mO ad 0 (n 0) (n 1) (n 2) (g 13 0) (n 3) (n 4 - 1) (n 5) zn) := by rw [ef_2, va_up_ne _ _ (by decide), va_up_ne _ _ (by decide), va_up_ne _ _ (by decide), va_up_ne _ _ (by decide), va_up_self]
          have c_314 : f_2 314 = ai (ca 0) 200 (shl (g 11) i (r + 1)) := by rw [ef_2, va_up_ne _ _ (by decide), va_up_ne _ _ (by decide), va_up_ne _ _ (by decide), va_up_self]
          have c_315 : f_2 315 = ai (ca 0) 200 (shl (g 12) i (r + 1)) := by rw [ef_2, va_up_ne _ _ (by decide), va_up_ne _ _ (by decide), va_up_self]
          have c_316 : f_2 316 = ai (ca 0) 200 (shl (g 14) i (r + 1)) := by rw [ef_2, va_up_ne _ _ (by decide), va_up_self]
          have c_317 : f_2 317 = ai (ca 1) 6400 (shB (g 15) i (32 * r + k)) := by rw [ef_2, va_up_self]
          refine lv_iload hx hb dX6_spoil_102 (lv_at hl 3 rfl) ?_
          refine lv_bipush (v := nI 32) hx hb dX6_spoil_104 (by decide) ?_
          refine n_icge (tgt := 142) hx hb dX6_spoil_106 (by decide) (by omega) (by omega) (fun hc_106 => ?_) (fun hc_106 => ?_)
          · refine lv_iinc (v := nI (r + 1)) (lv' := [(3, .int (nI (r + 1))), (0, .ref (ad 302)), (1, .int (nI i)), (4, .int (nI k))]) hx hb dX6_spoil_142 hl (k := 2) rfl (by rw [show Int32.ofInt 1 = nI 1 from rfl]; exact nI_add _ _) (by decide) rfl (fun ls hl => ?_)
            refine lv_goto (tgt := 49) hx hb dX6_spoil_145 (by decide) ?_
            have hw : xw D vwCl N ad B s.heap (va_up (va_up (va_up (va_up (va_up f 302 (.inr (7, mO ad 0 (n 0) (n 1) (n 2) (g 13 0) (n 3) (n 4 - 1) (n 5) zn))) 314 (ai (ca 0) 200 (shl (g 11) i (r + 1)))) 315 (ai (ca 0) 200 (shl (g 12) i (r + 1)))) 316 (ai (ca 0) 200 (shl (g 14) i (r + 1)))) 317 (ai (ca 1) 6400 (shB (g 15) i (32 * (r + 1))))) H locs := by
              have ez : f_2 = va_up (va_up (va_up (va_up (va_up f 302 (.inr (7, mO ad 0 (n 0) (n 1) (n 2) (g 13 0) (n 3) (n 4 - 1) (n 5) zn))) 314 (ai (ca 0) 200 (shl (g 11) i (r + 1)))) 315 (ai (ca 0) 200 (shl (g 12) i (r + 1)))) 316 (ai (ca 0) 200 (shl (g 14) i (r + 1)))) 317 (ai (ca 1) 6400 (shB (g 15) i (32 * (r + 1)))) := by have ek : k = 32 := (by omega); subst ek; simp only [ef_2]; rfl
              rw [← ez]; exact hw
            exact ih_49 (r + 1) _ _ _ (by omega) (by omega) (by omega) hw (lv_sub hl [1, 2, 0] rfl)
          · refine lv_aload_n hx hb dX6_spoil_109 rfl (lv_at hl 0 rfl) ?_
            refine x_get (ci := 7) (C := RX6) (T := TX6) (n := 32) (ref := RX6) hx hb hts hin_7 hown hK hw 302 (by omega) c_302 rfl 21 (by decide) hf_58 (fun _ h => h) rfl dX6_spoil_110 ?_
            refine lv_bipush (v := nI 32) hx hb dX6_spoil_113 (by decide) ?_
            refine lv_iload_n hx hb dX6_spoil_115 rfl (lv_at hl 2 rfl) ?_
            refine n_imul hx hb dX6_spoil_116 ?_
            refine lv_iload hx hb dX6_spoil_117 (lv_at hl 3 rfl) ?_
            refine n_iadd hx hb dX6_spoil_119 ?_
            refine lv_aload_n hx hb dX6_spoil_120 rfl (lv_at hl 0 rfl) ?_
            refine x_get (ci := 7) (C := RX6) (T := TX6) (n := 32) (ref := RX6) hx hb hts hin_7 hown hK hw 302 (by omega) c_302 rfl 21 (by decide) hf_58 (fun _ h => h) rfl dX6_spoil_121 ?_
            refine lv_bipush (v := nI 32) hx hb dX6_spoil_124 (by decide) ?_
            refine lv_iload_n hx hb dX6_spoil_126 rfl (lv_at hl 2 rfl) ?_
            refine n_imul hx hb dX6_spoil_127 ?_
            refine lv_bipush (v := nI 32) hx hb dX6_spoil_128 (by decide) ?_
            refine n_iadd hx hb dX6_spoil_130 ?_
            refine lv_iload hx hb dX6_spoil_131 (lv_at hl 3 rfl) ?_
            refine n_iadd hx hb dX6_spoil_133 ?_
            refine x_bald (j := ((32 * r) + 32) + k) hx hb hK hw 317 1 (by omega) c_317 rfl rfl (by omega) (by decide) dX6_spoil_134 ?_
            rw [shB_at (show 32 * r + k ≤ (32 * r + 32) + k by omega), show (32 * r + 32) + k = 32 * r + k + 32 by omega]
            refine x_bast (j := (32 * r) + k) (y := (g 15 (32 * r + k + 32)).toInt8.toInt32) hx hb hK dd hw 317 1 (by omega) c_317 rfl rfl (by omega) (by decide) rfl dX6_spoil_135 (fun H locs hw => ?_)
            obtain ⟨f_3, ef_3⟩ : ∃ z, z = va_up f_2 317 (ai (ca 1) 6400 (upd (shB (g 15) i (32 * r + k)) ((32 * r) + k) ((g 15 (32 * r + k + 32)).toInt8.toInt32))) := ⟨_, rfl⟩
            have hw : xw D vwCl N ad B s.heap f_3 H locs := by rw [ef_3]; exact hw
            have c_317 : f_3 317 = ai (ca 1) 6400 (upd (shB (g 15) i (32 * r + k)) ((32 * r) + k) ((g 15 (32 * r + k + 32)).toInt8.toInt32)) := va_up_of ef_3
            refine lv_iinc (v := nI (k + 1)) (lv' := [(4, .int (nI (k + 1))), (0, .ref (ad 302)), (1, .int (nI i)), (3, .int (nI r))]) hx hb dX6_spoil_136 hl (k := 3) rfl (by rw [show Int32.ofInt 1 = nI 1 from rfl]; exact nI_add _ _) (by decide) rfl (fun ls hl => ?_)
            refine lv_goto (tgt := 102) hx hb dX6_spoil_139 (by decide) ?_
            have hw : xw D vwCl N ad B s.heap (va_up (va_up (va_up (va_up (va_up f 302 (.inr (7, mO ad 0 (n 0) (n 1) (n 2) (g 13 0) (n 3) (n 4 - 1) (n 5) zn))) 314 (ai (ca 0) 200 (shl (g 11) i (r + 1)))) 315 (ai (ca 0) 200 (shl (g 12) i (r + 1)))) 316 (ai (ca 0) 200 (shl (g 14) i (r + 1)))) 317 (ai (ca 1) 6400 (shB (g 15) i (32 * r + (k + 1))))) H locs := by
              have ez : f_3 = va_up (va_up (va_up (va_up (va_up f 302 (.inr (7, mO ad 0 (n 0) (n 1) (n 2) (g 13 0) (n 3) (n 4 - 1) (n 5) zn))) 314 (ai (ca 0) 200 (shl (g 11) i (r + 1)))) 315 (ai (ca 0) 200 (shl (g 12) i (r + 1)))) 316 (ai (ca 0) 200 (shl (g 14) i (r + 1)))) 317 (ai (ca 1) 6400 (shB (g 15) i (32 * r + (k + 1)))) := by simp only [ef_3, ef_2, up_aa, shB_s _ i _ (show 32 * i ≤ 32 * r + k by omega)]; rfl
              rw [← ez]; exact hw
            exact ih_102 r (k + 1) _ _ _ (by omega) (by omega) (by omega) (by omega) (by omega) hw (lv_sub hl [1, 2, 3, 0] rfl)
      have c_302 := b_302
      have c_303 := b_303
      have c_304 := b_304
      have c_305 := b_305
      have c_306 := b_306
      have c_307 := b_307
      have c_308 := b_308
      have c_309 := b_309
      have c_310 := b_310
      have c_311 := b_311
      have c_312 := b_312
      have c_313 := b_313
      have c_314 := b_314
      have c_315 := b_315
      have c_316 := b_316
      have c_317 := b_317
      have c_318 := b_318
      have c_319 := b_319
      have c_320 := b_320
      have c_321 := b_321
      have c_322 := b_322
      have c_323 := b_323
      have c_324 := b_324
      have c_325 := b_325
      obtain ⟨f_4, ef_4⟩ : ∃ z, z = va_up (va_up (va_up (va_up (va_up f 302 (.inr (7, mO ad 0 (n 0) (n 1) (n 2) (g 13 0) (n 3) (n 4 - 1) (n 5) zn))) 314 (ai (ca 0) 200 (shl (g 11) i r))) 315 (ai (ca 0) 200 (shl (g 12) i r))) 316 (ai (ca 0) 200 (shl (g 14) i r))) 317 (ai (ca 1) 6400 (shB (g 15) i (32 * r))) := ⟨_, rfl⟩
      have hw : xw D vwCl N ad B s.heap f_4 H locs := by rw [ef_4]; exact hw
      have c_302 : f_4 302 = .inr (7, mO ad 0 (n 0) (n 1) (n 2) (g 13 0) (n 3) (n 4 - 1) (n 5) zn) := by rw [ef_4, va_up_ne _ _ (by decide), va_up_ne _ _ (by decide), va_up_ne _ _ (by decide), va_up_ne _ _ (by decide), va_up_self]
      have c_314 : f_4 314 = ai (ca 0) 200 (shl (g 11) i r) := by rw [ef_4, va_up_ne _ _ (by decide), va_up_ne _ _ (by decide), va_up_ne _ _ (by decide), va_up_self]
      have c_315 : f_4 315 = ai (ca 0) 200 (shl (g 12) i r) := by rw [ef_4, va_up_ne _ _ (by decide), va_up_ne _ _ (by decide), va_up_self]
      have c_316 : f_4 316 = ai (ca 0) 200 (shl (g 14) i r) := by rw [ef_4, va_up_ne _ _ (by decide), va_up_self]
      have c_317 : f_4 317 = ai (ca 1) 6400 (shB (g 15) i (32 * r)) := by rw [ef_4, va_up_self]
      refine lv_iload_n hx hb dX6_spoil_49 rfl (lv_at hl 2 rfl) ?_
      refine lv_aload_n hx hb dX6_spoil_50 rfl (lv_at hl 0 rfl) ?_
      refine x_get (ci := 7) (C := RX6) (T := TX6) (n := 32) (ref := RX6) hx hb hts hin_7 hown hK hw 302 (by omega) c_302 rfl 17 (by decide) hf_203 (fun _ h => h) rfl dX6_spoil_51 ?_
      refine n_icge (tgt := 148) hx hb dX6_spoil_54 (by decide) (by omega) (by omega) (fun hc_54 => ?_) (fun hc_54 => ?_)
      · have hw : xw D vwCl N ad B s.heap (va_up (va_up (va_up (va_up (va_up f 302 (.inr (7, mO ad 0 (n 0) (n 1) (n 2) (g 13 0) (n 3) (n 4 - 1) (n 5) zn))) 314 (ai (ca 0) 200 (shl (g 11) i (n 4 - 1)))) 315 (ai (ca 0) 200 (shl (g 12) i (n 4 - 1)))) 316 (ai (ca 0) 200 (shl (g 14) i (n 4 - 1)))) 317 (ai (ca 1) 6400 (shB (g 15) i (32 * (n 4 - 1))))) H locs := by
          have ez : f_4 = va_up (va_up (va_up (va_up (va_up f 302 (.inr (7, mO ad 0 (n 0) (n 1) (n 2) (g 13 0) (n 3) (n 4 - 1) (n 5) zn))) 314 (ai (ca 0) 200 (shl (g 11) i (n 4 - 1)))) 315 (ai (ca 0) 200 (shl (g 12) i (n 4 - 1)))) 316 (ai (ca 0) 200 (shl (g 14) i (n 4 - 1)))) 317 (ai (ca 1) 6400 (shB (g 15) i (32 * (n 4 - 1)))) := by have er9 : r = n 4 - 1 := (by omega); subst er9; simp only [ef_4]
          rw [← ez]; exact hw
        exact P_148  _ _ _  hw (lv_sub hl [0, 1] rfl)
      · refine lv_aload_n hx hb dX6_spoil_57 rfl (lv_at hl 0 rfl) ?_
        refine x_get (ci := 7) (C := RX6) (T := TX6) (n := 32) (ref := RX6) hx hb hts hin_7 hown hK hw 302 (by omega) c_302 rfl 18 (by decide) hf_49 (fun _ h => h) rfl dX6_spoil_58 ?_
        refine lv_iload_n hx hb dX6_spoil_61 rfl (lv_at hl 2 rfl) ?_
        refine lv_aload_n hx hb dX6_spoil_62 rfl (lv_at hl 0 rfl) ?_
        refine x_get (ci := 7) (C := RX6) (T := TX6) (n := 32) (ref := RX6) hx hb hts hin_7 hown hK hw 302 (by omega) c_302 rfl 18 (by decide) hf_49 (fun _ h => h) rfl dX6_spoil_63 ?_
        refine lv_iload_n hx hb dX6_spoil_66 rfl (lv_at hl 2 rfl) ?_
        refine lv_iconst (v := nI 1) hx hb dX6_spoil_67 (by decide) ?_
        refine n_iadd hx hb dX6_spoil_68 ?_
        refine x_iald (j := r + 1) hx hb hK hw 314 0 (by omega) c_314 rfl rfl (by omega) (by decide) dX6_spoil_69 ?_
        refine lv_topi (fun x_5 ex_5 => ?_)
        refine x_iast (j := r) hx hb hK dd hw 314 0 (by omega) c_314 rfl rfl (by omega) (by decide) dX6_spoil_70 (fun H locs hw => ?_)
        obtain ⟨f_6, ef_6⟩ : ∃ z, z = va_up f_4 314 (ai (ca 0) 200 (upd (shl (g 11) i r) r x_5)) := ⟨_, rfl⟩
        have hw : xw D vwCl N ad B s.heap f_6 H locs := by rw [ef_6]; exact hw
        have c_314 : f_6 314 = ai (ca 0) 200 (upd (shl (g 11) i r) r x_5) := va_up_of ef_6
        refine lv_aload_n hx hb dX6_spoil_71 rfl (lv_at hl 0 rfl) ?_
        have c_302 : f_6 302 = .inr (7, mO ad 0 (n 0) (n 1) (n 2) (g 13 0) (n 3) (n 4 - 1) (n 5) zn) := by rw [ef_6, va_up_ne _ _ (by decide)]; exact c_302
        refine x_get (ci := 7) (C := RX6) (T := TX6) (n := 32) (ref := RX6) hx hb hts hin_7 hown hK hw 302 (by omega) c_302 rfl 19 (by decide) hf_52 (fun _ h => h) rfl dX6_spoil_72 ?_
        refine lv_iload_n hx hb dX6_spoil_75 rfl (lv_at hl 2 rfl) ?_
        refine lv_aload_n hx hb dX6_spoil_76 rfl (lv_at hl 0 rfl) ?_
        refine x_get (ci := 7) (C := RX6) (T := TX6) (n := 32) (ref := RX6) hx hb hts hin_7 hown hK hw 302 (by omega) c_302 rfl 19 (by decide) hf_52 (fun _ h => h) rfl dX6_spoil_77 ?_
        refine lv_iload_n hx hb dX6_spoil_80 rfl (lv_at hl 2 rfl) ?_
        refine lv_iconst (v := nI 1) hx hb dX6_spoil_81 (by decide) ?_
        refine n_iadd hx hb dX6_spoil_82 ?_
        have c_315 : f_6 315 = ai (ca 0) 200 (shl (g 12) i r) := by rw [ef_6, va_up_ne _ _ (by decide)]; exact c_315
        refine x_iald (j := r + 1) hx hb hK hw 315 0 (by omega) c_315 rfl rfl (by omega) (by decide) dX6_spoil_83 ?_
        refine lv_topi (fun x_7 ex_7 => ?_)
        refine x_iast (j := r) hx hb hK dd hw 315 0 (by omega) c_315 rfl rfl (by omega) (by decide) dX6_spoil_84 (fun H locs hw => ?_)
        obtain ⟨f_8, ef_8⟩ : ∃ z, z = va_up f_6 315 (ai (ca 0) 200 (upd (shl (g 12) i r) r x_7)) := ⟨_, rfl⟩
        have hw : xw D vwCl N ad B s.heap f_8 H locs := by rw [ef_8]; exact hw
        have c_315 : f_8 315 = ai (ca 0) 200 (upd (shl (g 12) i r) r x_7) := va_up_of ef_8
        refine lv_aload_n hx hb dX6_spoil_85 rfl (lv_at hl 0 rfl) ?_
        have c_302 : f_8 302 = .inr (7, mO ad 0 (n 0) (n 1) (n 2) (g 13 0) (n 3) (n 4 - 1) (n 5) zn) := by rw [ef_8, va_up_ne _ _ (by decide)]; exact c_302
        refine x_get (ci := 7) (C := RX6) (T := TX6) (n := 32) (ref := RX6) hx hb hts hin_7 hown hK hw 302 (by omega) c_302 rfl 20 (by decide) hf_55 (fun _ h => h) rfl dX6_spoil_86 ?_
        refine lv_iload_n hx hb dX6_spoil_89 rfl (lv_at hl 2 rfl) ?_
        refine lv_aload_n hx hb dX6_spoil_90 rfl (lv_at hl 0 rfl) ?_
        refine x_get (ci := 7) (C := RX6) (T := TX6) (n := 32) (ref := RX6) hx hb hts hin_7 hown hK hw 302 (by omega) c_302 rfl 20 (by decide) hf_55 (fun _ h => h) rfl dX6_spoil_91 ?_
        refine lv_iload_n hx hb dX6_spoil_94 rfl (lv_at hl 2 rfl) ?_
        refine lv_iconst (v := nI 1) hx hb dX6_spoil_95 (by decide) ?_
        refine n_iadd hx hb dX6_spoil_96 ?_
        have c_316 : f_8 316 = ai (ca 0) 200 (shl (g 14) i r) := by rw [ef_8, va_up_ne _ _ (by decide), ef_6, va_up_ne _ _ (by decide)]; exact c_316
        refine x_iald (j := r + 1) hx hb hK hw 316 0 (by omega) c_316 rfl rfl (by omega) (by decide) dX6_spoil_97 ?_
        refine lv_topi (fun x_9 ex_9 => ?_)
        refine x_iast (j := r) hx hb hK dd hw 316 0 (by omega) c_316 rfl rfl (by omega) (by decide) dX6_spoil_98 (fun H locs hw => ?_)
        obtain ⟨f_10, ef_10⟩ : ∃ z, z = va_up f_8 316 (ai (ca 0) 200 (upd (shl (g 14) i r) r x_9)) := ⟨_, rfl⟩
        have hw : xw D vwCl N ad B s.heap f_10 H locs := by rw [ef_10]; exact hw
        have c_316 : f_10 316 = ai (ca 0) 200 (upd (shl (g 14) i r) r x_9) := va_up_of ef_10
        refine lv_iconst (v := nI 0) hx hb dX6_spoil_99 (by decide) ?_
        refine lv_istore (lv' := [(4, .int (nI 0)), (0, .ref (ad 302)), (1, .int (nI i)), (3, .int (nI r))]) hx hb dX6_spoil_100 hl (by decide) rfl (fun ls hl => ?_)
        have hw : xw D vwCl N ad B s.heap (va_up (va_up (va_up (va_up (va_up f 302 (.inr (7, mO ad 0 (n 0) (n 1) (n 2) (g 13 0) (n 3) (n 4 - 1) (n 5) zn))) 314 (ai (ca 0) 200 (shl (g 11) i (r + 1)))) 315 (ai (ca 0) 200 (shl (g 12) i (r + 1)))) 316 (ai (ca 0) 200 (shl (g 14) i (r + 1)))) 317 (ai (ca 1) 6400 (shB (g 15) i (32 * r + 0)))) H locs := by
          have ez : f_10 = va_up (va_up (va_up (va_up (va_up f 302 (.inr (7, mO ad 0 (n 0) (n 1) (n 2) (g 13 0) (n 3) (n 4 - 1) (n 5) zn))) 314 (ai (ca 0) 200 (shl (g 11) i (r + 1)))) 315 (ai (ca 0) 200 (shl (g 12) i (r + 1)))) 316 (ai (ca 0) 200 (shl (g 14) i (r + 1)))) 317 (ai (ca 1) 6400 (shB (g 15) i (32 * r + 0))) := by simp only [ef_10, ex_9, ef_8, ex_7, ef_6, ex_5, ef_4, up_r3, shl_step _ i r hr1]; rfl
          rw [← ez]; exact hw
        exact P_102 33 r 0 _ _ _ (by omega) (by omega) (by omega) (by omega) (by omega) hw (lv_sub hl [1, 2, 3, 0] rfl)
  refine lv_aload_n hx hb dX6_spoil_0 rfl (lv_at hl 0 rfl) ?_
  refine lv_iconst (v := nI 0) hx hb dX6_spoil_1 (by decide) ?_
  refine x_put (ci := 7) (C := RX6) (T := TX6) (n := 32) (ref := RX6) (fs' := mO ad 0 (n 0) (n 1) (n 2) (g 13 0) (n 3) (n 4) (n 5) zn) hx hb hts hin_7 tyX6 tyX6_ok nmX6 hown hK dd hw 302 (by omega) c_302 rfl 0 (by decide) hf_160 (fun _ h => h) rfl rfl rfl (Nat.le_of_ble_eq_true rfl) rfl dX6_spoil_2 (fun H locs hw => ?_)
  obtain ⟨f_11, ef_11⟩ : ∃ z, z = va_up f 302 (.inr (7, mO ad 0 (n 0) (n 1) (n 2) (g 13 0) (n 3) (n 4) (n 5) zn)) := ⟨_, rfl⟩
  have hw : xw D vwCl N ad B s.heap f_11 H locs := by rw [ef_11]; exact hw
  have c_302 : f_11 302 = .inr (7, mO ad 0 (n 0) (n 1) (n 2) (g 13 0) (n 3) (n 4) (n 5) zn) := va_up_of ef_11
  refine lv_iload_n hx hb dX6_spoil_5 rfl (lv_at hl 1 rfl) ?_
  refine lv_iconst (v := nI 0) hx hb dX6_spoil_6 (by decide) ?_
  refine lv_aload_n hx hb dX6_spoil_7 rfl (lv_at hl 0 rfl) ?_
  refine x_get (ci := 7) (C := RX6) (T := TX6) (n := 32) (ref := RX6) hx hb hts hin_7 hown hK hw 302 (by omega) c_302 rfl 17 (by decide) hf_203 (fun _ h => h) rfl dX6_spoil_8 ?_
  refine lv_iconst (v := nI 1) hx hb dX6_spoil_11 (by decide) ?_
  refine n_isub hx hb dX6_spoil_12 (by omega) ?_
  refine x_Si (As := [.int (nI i), .int (nI 0), .int (nI ((n 4) - 1))]) (rest := []) ⟨hx, hb, hml, hown, hts⟩ (k_X6_in_yes l D ca N ad B tR tK f_11 dd i 0 ((n 4) - 1)   (by omega) (by omega) (by omega)) (va_cwS 3 hts gX6_spoil_X6_in rfl rfl rfl (by decide +kernel) ⟨Nat.le_of_ble_eq_true rfl, Nat.le_of_ble_eq_true rfl⟩) hK hE hB hw rfl rfl hl.1 (Nat.le_of_ble_eq_true rfl) ⟨Nat.zero_le _, Nat.zero_le _⟩ dX6_spoil_13 (fun r_13 f_12 H locs hp hw => ?_)
  obtain ⟨er, eu⟩ := hp
  rw [← er]
  rw [← eu] at hw
  refine lv_if_ne (tgt := 21) hx hb dX6_spoil_16 (by decide) (fun _ => ?_) (fun h => absurd h (by decide))
  refine lv_iload_n hx hb dX6_spoil_21 rfl (lv_at hl 2 rfl) ?_
  refine lv_if_eq (tgt := 37) hx hb dX6_spoil_22 (by decide) (fun _ => ?_) (fun h => False.elim (h (by decide)))
  refine lv_aload_n hx hb dX6_spoil_37 rfl (lv_at hl 0 rfl) ?_
  refine lv_dup hx hb dX6_spoil_38 rfl ?_
  refine x_get (ci := 7) (C := RX6) (T := TX6) (n := 32) (ref := RX6) hx hb hts hin_7 hown hK hw 302 (by omega) c_302 rfl 17 (by decide) hf_203 (fun _ h => h) rfl dX6_spoil_39 ?_
  refine lv_iconst (v := nI 1) hx hb dX6_spoil_42 (by decide) ?_
  refine n_isub hx hb dX6_spoil_43 (by omega) ?_
  refine x_put (ci := 7) (C := RX6) (T := TX6) (n := 32) (ref := RX6) (fs' := mO ad 0 (n 0) (n 1) (n 2) (g 13 0) (n 3) ((n 4) - 1) (n 5) zn) hx hb hts hin_7 tyX6 tyX6_ok nmX6 hown hK dd hw 302 (by omega) c_302 rfl 17 (by decide) hf_203 (fun _ h => h) rfl rfl rfl (Nat.le_of_ble_eq_true rfl) rfl dX6_spoil_44 (fun H locs hw => ?_)
  obtain ⟨f_14, ef_14⟩ : ∃ z, z = va_up f_11 302 (.inr (7, mO ad 0 (n 0) (n 1) (n 2) (g 13 0) (n 3) ((n 4) - 1) (n 5) zn)) := ⟨_, rfl⟩
  have hw : xw D vwCl N ad B s.heap f_14 H locs := by rw [ef_14]; exact hw
  have c_302 : f_14 302 = .inr (7, mO ad 0 (n 0) (n 1) (n 2) (g 13 0) (n 3) ((n 4) - 1) (n 5) zn) := va_up_of ef_14
  refine lv_iload_n hx hb dX6_spoil_47 rfl (lv_at hl 1 rfl) ?_
  refine lv_istore_n (lv' := [(3, .int (nI i)), (0, .ref (ad 302)), (1, .int (nI i)), (2, .int (nI 0))]) hx hb dX6_spoil_48 rfl hl (by decide) rfl (fun ls hl => ?_)
  have hw : xw D vwCl N ad B s.heap (va_up (va_up (va_up (va_up (va_up f 302 (.inr (7, mO ad 0 (n 0) (n 1) (n 2) (g 13 0) (n 3) (n 4 - 1) (n 5) zn))) 314 (ai (ca 0) 200 (shl (g 11) i i))) 315 (ai (ca 0) 200 (shl (g 12) i i))) 316 (ai (ca 0) 200 (shl (g 14) i i))) 317 (ai (ca 1) 6400 (shB (g 15) i (32 * i)))) H locs := by
    have ez : f_14 = va_up (va_up (va_up (va_up (va_up f 302 (.inr (7, mO ad 0 (n 0) (n 1) (n 2) (g 13 0) (n 3) (n 4 - 1) (n 5) zn))) 314 (ai (ca 0) 200 (shl (g 11) i i))) 315 (ai (ca 0) 200 (shl (g 12) i i))) 316 (ai (ca 0) 200 (shl (g 14) i i))) 317 (ai (ca 1) 6400 (shB (g 15) i (32 * i))) := by rw [shl_0, shl_0, shl_0, shB_0]; simp only [ef_14, ef_11, up_aa]; rw [up_noop (x := ai (ca 0) 200 (g 11)) (by rw [va_up_ne _ _ (by decide)]; exact b_314), up_noop (x := ai (ca 0) 200 (g 12)) (by rw [va_up_ne _ _ (by decide)]; exact b_315), up_noop (x := ai (ca 0) 200 (g 14)) (by rw [va_up_ne _ _ (by decide)]; exact b_316), up_noop (x := ai (ca 1) 6400 (g 15)) (by rw [va_up_ne _ _ (by decide)]; exact b_317)]
    rw [← ez]; exact hw
  exact P_49 (((n 4 - 1) + 1)) i _ _ _ (by omega) (by omega) (by omega) hw (lv_sub hl [1, 2, 0] rfl)

abbrev rmX6_chain : Room := { frames := 5, cells := 0, slots := 0, locals := 114 }

theorem up_c6 (f : Nat → va_E) (o b x y z m o' b' x' y' z' m' : va_E) : va_up (va_up (va_up (va_up (va_up (va_up (va_up (va_up (va_up (va_up (va_up (va_up f 302 o) 319 b) 321 x) 323 y) 322 z) 320 m) 302 o') 319 b') 321 x') 323 y') 322 z') 320 m' = va_up (va_up (va_up (va_up (va_up (va_up f 302 o') 319 b') 321 x') 323 y') 322 z') 320 m' := by
  funext j
  simp only [va_up]
  by_cases h1 : j = 320
  · simp [h1]
  · by_cases h2 : j = 322
    · simp [h2]
    · by_cases h3 : j = 323
      · simp [h3]
      · by_cases h4 : j = 321
        · simp [h4]
        · by_cases h5 : j = 319
          · simp [h5]
          · by_cases h6 : j = 302
            · simp [h6]
            · simp [h1, h2, h3, h4, h5, h6]

set_option maxHeartbeats 4000000 in
set_option maxRecDepth 100000 in
theorem k_X6_chain_none (l : Launch) (D : va_G) (ca : Nat → ClassId) (N : Nat) (ad : Nat → Nat) (B tR tK : Nat) (f : Nat → va_E) (dd : xD N ad B) (hN : 326 ≤ N) (n : Nat → Nat) (g : Nat → Nat → Int32) (z : Nat → Nat → Int32) (zn : Nat) (tb : Nat → Int32) (hR : RepM ca ad n g z zn tb f)  (h5 : n 4 ≤ 200) (hall : ∀ i, i < n 4 → ∀ k, k < 32 → (jushr (rowS (g 15) i (g 11 i) (g 12 i) (g 14 i) (k / 4)) (nI (24 - 8 * (k % 4)))).toInt8.toInt32 = g 15 (32 * i + k)) : xMi l yX6_chain wsX6_chain rmX6_chain [.ref (ad 302)] D ca N ad B tR tK f (fun r u => (-1) = r ∧ ∃ (z1 : Nat → Nat → Int32) (zn1 : Nat), RepM ca ad (va_up n 7 0) g z1 zn1 tb u ∧ ∀ y, (y < 302 ∨ 326 ≤ y) → u y = f y) := by
  refine x_open (cc := cX6_chain) (maxL := 3) (ret := (some .int)) (by decide) rfl (Nat.le_of_ble_eq_true rfl) ?_
  intro p e s m below meth c ls hx hb hml hown hts hr hlocks hnm hB hK hE hw hl
  have hown : s.vm.findClass RX6 = some m.cls := hown
  have hl : lv_has ls 3 [(0, .ref (ad 302))] := hl
  obtain ⟨c_302, c_303, c_304, c_305, c_306, c_307, c_308, c_309, c_310, c_311, c_312, c_313, c_314, c_315, c_316, c_317, c_318, c_319, c_320, c_321, c_322, c_323, c_324, c_325, hzn⟩ := hR
  have hin_7 : ∀ w ∈ u_ws RX6 TX6 32, w ∈ wsX6_chain := by decide +kernel
  have hf_67 := hts (.fieldLink RX6 67 "FixityRowsModel" "made" "[B") (by decide +kernel)
  have hf_58 := hts (.fieldLink RX6 58 "FixityRowsModel" "rowDigest" "[B") (by decide +kernel)
  have hf_203 := hts (.fieldLink RX6 203 "FixityRowsModel" "rows" "I") (by decide +kernel)
  have hf_160 := hts (.fieldLink RX6 160 "FixityRowsModel" "thrown" "I") (by decide +kernel)
  have b_302 := c_302
  have b_303 := c_303
  have b_304 := c_304
  have b_305 := c_305
  have b_306 := c_306
  have b_307 := c_307
  have b_308 := c_308
  have b_309 := c_309
  have b_310 := c_310
  have b_311 := c_311
  have b_312 := c_312
  have b_313 := c_313
  have b_314 := c_314
  have b_315 := c_315
  have b_316 := c_316
  have b_317 := c_317
  have b_318 := c_318
  have b_319 := c_319
  have b_320 := c_320
  have b_321 := c_321
  have b_322 := c_322
  have b_323 := c_323
  have b_324 := c_324
  have b_325 := c_325
  have P_7 : ∀ (n_7 : Nat) (f1 : Nat) (b1 : Nat → Int32) (w1 : Nat → Int32) (v1 : Nat → Int32) (h1 : Nat → Int32) (m1 : Nat → Int32) (i : Nat) (H : Heap) (locs : List Loc) (ls : Array Slot), n 4 + 1 ≤ i + n_7 → (i ≤ n 4) → (f1 ≤ 200) → xw D vwCl N ad B s.heap (va_up (va_up (va_up (va_up (va_up (va_up f 302 (.inr (7, mO ad 0 (n 0) (n 1) (n 2) (g 13 0) (n 3) (n 4) (n 5) f1))) 319 (ai (ca 1) 320 b1)) 321 (ai (ca 0) 64 w1)) 323 (ai (ca 0) 8 v1)) 322 (ai (ca 0) 8 h1)) 320 (ai (ca 1) 36 m1)) H locs → lv_has ls 3 [(0, .ref (ad 302)), (1, .int (nI i))] → W p l e rmX6_chain s m ([.ref (ad 302)] : List Value).toArray below meth c H locs 0 0 (MQ below (xQi (fun r u => (-1) = r ∧ ∃ (z1 : Nat → Nat → Int32) (zn1 : Nat), RepM ca ad (va_up n 7 0) g z1 zn1 tb u ∧ ∀ y, (y < 302 ∨ 326 ≤ y) → u y = f y) D N ad B) ([.ref (ad 302)] : List Value).toArray s 0 0 (xA B)) (F0 m 7 ls []) := by
    intro n_7
    induction n_7 with
    | zero =>
      intro f1 b1 w1 v1 h1 m1 i H locs ls hm_7 hi hf1 hw hl
      exact absurd hm_7 (by omega)
    | succ n_7 ih_7 =>
      intro f1 b1 w1 v1 h1 m1 i H locs ls hm_7 hi hf1 hw hl
      have P_22 : ∀ (n_22 : Nat) (b1 : Nat → Int32) (w1 : Nat → Int32) (v1 : Nat → Int32) (h1 : Nat → Int32) (m1 : Nat → Int32) (i : Nat) (j : Nat) (H : Heap) (locs : List Loc) (ls : Array Slot), 32 + 1 ≤ j + n_22 → (i < n 4) → (i ≤ n 4) → (n 4 + 1 ≤ i + (n_7 + 1)) → (j ≤ 32) → (∀ k, k < j → (jushr (rowS (g 15) i (g 11 i) (g 12 i) (g 14 i) (k / 4)) (nI (24 - 8 * (k % 4)))).toInt8.toInt32 = g 15 (32 * i + k)) → xw D vwCl N ad B s.heap (va_up (va_up (va_up (va_up (va_up (va_up f 302 (.inr (7, mO ad 0 (n 0) (n 1) (n 2) (g 13 0) (n 3) (n 4) (n 5) 44))) 319 (ai (ca 1) 320 b1)) 321 (ai (ca 0) 64 w1)) 323 (ai (ca 0) 8 v1)) 322 (ai (ca 0) 8 h1)) 320 (ai (ca 1) 36 (mkf m1 (rowS (g 15) i (g 11 i) (g 12 i) (g 14 i)) 32))) H locs → lv_has ls 3 [(0, .ref (ad 302)), (1, .int (nI i)), (2, .int (nI j))] → W p l e rmX6_chain s m ([.ref (ad 302)] : List Value).toArray below meth c H locs 0 0 (MQ below (xQi (fun r u => (-1) = r ∧ ∃ (z1 : Nat → Nat → Int32) (zn1 : Nat), RepM ca ad (va_up n 7 0) g z1 zn1 tb u ∧ ∀ y, (y < 302 ∨ 326 ≤ y) → u y = f y) D N ad B) ([.ref (ad 302)] : List Value).toArray s 0 0 (xA B)) (F0 m 22 ls []) := by
        intro n_22
        induction n_22 with
        | zero =>
          intro b1 w1 v1 h1 m1 i j H locs ls hm_22 hi hib hu hj hs hw hl
          exact absurd hm_22 (by omega)
        | succ n_22 ih_22 =>
          intro b1 w1 v1 h1 m1 i j H locs ls hm_22 hi hib hu hj hs hw hl
          have c_302 := b_302
          have c_303 := b_303
          have c_304 := b_304
          have c_305 := b_305
          have c_306 := b_306
          have c_307 := b_307
          have c_308 := b_308
          have c_309 := b_309
          have c_310 := b_310
          have c_311 := b_311
          have c_312 := b_312
          have c_313 := b_313
          have c_314 := b_314
          have c_315 := b_315
          have c_316 := b_316
          have c_317 := b_317
          have c_318 := b_318
          have c_319 := b_319
          have c_320 := b_320
          have c_321 := b_321
          have c_322 := b_322
          have c_323 := b_323
          have c_324 := b_324
          have c_325 := b_325
          obtain ⟨f_1, ef_1⟩ : ∃ z, z = va_up (va_up (va_up (va_up (va_up (va_up f 302 (.inr (7, mO ad 0 (n 0) (n 1) (n 2) (g 13 0) (n 3) (n 4) (n 5) 44))) 319 (ai (ca 1) 320 b1)) 321 (ai (ca 0) 64 w1)) 323 (ai (ca 0) 8 v1)) 322 (ai (ca 0) 8 h1)) 320 (ai (ca 1) 36 (mkf m1 (rowS (g 15) i (g 11 i) (g 12 i) (g 14 i)) 32)) := ⟨_, rfl⟩
          have hw : xw D vwCl N ad B s.heap f_1 H locs := by rw [ef_1]; exact hw
          have c_302 : f_1 302 = .inr (7, mO ad 0 (n 0) (n 1) (n 2) (g 13 0) (n 3) (n 4) (n 5) 44) := by rw [ef_1, va_up_ne _ _ (by decide), va_up_ne _ _ (by decide), va_up_ne _ _ (by decide), va_up_ne _ _ (by decide), va_up_ne _ _ (by decide), va_up_self]
          have c_319 : f_1 319 = ai (ca 1) 320 b1 := by rw [ef_1, va_up_ne _ _ (by decide), va_up_ne _ _ (by decide), va_up_ne _ _ (by decide), va_up_ne _ _ (by decide), va_up_self]
          have c_321 : f_1 321 = ai (ca 0) 64 w1 := by rw [ef_1, va_up_ne _ _ (by decide), va_up_ne _ _ (by decide), va_up_ne _ _ (by decide), va_up_self]
          have c_323 : f_1 323 = ai (ca 0) 8 v1 := by rw [ef_1, va_up_ne _ _ (by decide), va_up_ne _ _ (by decide), va_up_self]
          have c_322 : f_1 322 = ai (ca 0) 8 h1 := by rw [ef_1, va_up_ne _ _ (by decide), va_up_self]
          have c_320 : f_1 320 = ai (ca 1) 36 (mkf m1 (rowS (g 15) i (g 11 i) (g 12 i) (g 14 i)) 32) := by rw [ef_1, va_up_self]
          refine lv_iload_n hx hb dX6_chain_22 rfl (lv_at hl 2 rfl) ?_
          refine lv_bipush (v := nI 32) hx hb dX6_chain_23 (by decide) ?_
          refine n_icge (tgt := 56) hx hb dX6_chain_25 (by decide) (by omega) (by omega) (fun hc_25 => ?_) (fun hc_25 => ?_)
          · refine lv_iinc (v := nI (i + 1)) (lv' := [(1, .int (nI (i + 1))), (0, .ref (ad 302)), (2, .int (nI j))]) hx hb dX6_chain_56 hl (k := 1) rfl (by rw [show Int32.ofInt 1 = nI 1 from rfl]; exact nI_add _ _) (by decide) rfl (fun ls hl => ?_)
            refine lv_goto (tgt := 7) hx hb dX6_chain_59 (by decide) ?_
            have hw : xw D vwCl N ad B s.heap (va_up (va_up (va_up (va_up (va_up (va_up f 302 (.inr (7, mO ad 0 (n 0) (n 1) (n 2) (g 13 0) (n 3) (n 4) (n 5) 44))) 319 (ai (ca 1) 320 b1)) 321 (ai (ca 0) 64 w1)) 323 (ai (ca 0) 8 v1)) 322 (ai (ca 0) 8 h1)) 320 (ai (ca 1) 36 (mkf m1 (rowS (g 15) i (g 11 i) (g 12 i) (g 14 i)) 32))) H locs := by
              have ez : f_1 = va_up (va_up (va_up (va_up (va_up (va_up f 302 (.inr (7, mO ad 0 (n 0) (n 1) (n 2) (g 13 0) (n 3) (n 4) (n 5) 44))) 319 (ai (ca 1) 320 b1)) 321 (ai (ca 0) 64 w1)) 323 (ai (ca 0) 8 v1)) 322 (ai (ca 0) 8 h1)) 320 (ai (ca 1) 36 (mkf m1 (rowS (g 15) i (g 11 i) (g 12 i) (g 14 i)) 32)) := by simp only [ef_1]
              rw [← ez]; exact hw
            exact ih_7 44 b1 w1 v1 h1 (mkf m1 (rowS (g 15) i (g 11 i) (g 12 i) (g 14 i)) 32) (i + 1) _ _ _ (by omega) (by omega) (by omega) hw (lv_sub hl [1, 0] rfl)
          · refine lv_aload_n hx hb dX6_chain_28 rfl (lv_at hl 0 rfl) ?_
            refine x_get (ci := 7) (C := RX6) (T := TX6) (n := 32) (ref := RX6) hx hb hts hin_7 hown hK hw 302 (by omega) c_302 rfl 26 (by decide) hf_67 (fun _ h => h) rfl dX6_chain_29 ?_
            refine lv_iload_n hx hb dX6_chain_32 rfl (lv_at hl 2 rfl) ?_
            refine x_bald (j := j) hx hb hK hw 320 1 (by omega) c_320 rfl rfl (by omega) (by decide) dX6_chain_33 ?_
            have hmk : mkf m1 (rowS (g 15) i (g 11 i) (g 12 i) (g 14 i)) 32 j = (jushr (rowS (g 15) i (g 11 i) (g 12 i) (g 14 i) (j / 4)) (nI (24 - 8 * (j % 4)))).toInt8.toInt32 := if_pos hc_25
            refine lv_aload_n hx hb dX6_chain_34 rfl (lv_at hl 0 rfl) ?_
            refine x_get (ci := 7) (C := RX6) (T := TX6) (n := 32) (ref := RX6) hx hb hts hin_7 hown hK hw 302 (by omega) c_302 rfl 21 (by decide) hf_58 (fun _ h => h) rfl dX6_chain_35 ?_
            refine lv_bipush (v := nI 32) hx hb dX6_chain_38 (by decide) ?_
            refine lv_iload_n hx hb dX6_chain_40 rfl (lv_at hl 1 rfl) ?_
            refine n_imul hx hb dX6_chain_41 ?_
            refine lv_iload_n hx hb dX6_chain_42 rfl (lv_at hl 2 rfl) ?_
            refine n_iadd hx hb dX6_chain_43 ?_
            have c_317 : f_1 317 = ai (ca 1) 6400 (g 15) := by rw [ef_1, va_up_ne _ _ (by decide), va_up_ne _ _ (by decide), va_up_ne _ _ (by decide), va_up_ne _ _ (by decide), va_up_ne _ _ (by decide), va_up_ne _ _ (by decide)]; exact c_317
            refine x_bald (j := (32 * i) + j) hx hb hK hw 317 1 (by omega) c_317 rfl rfl (by omega) (by decide) dX6_chain_44 ?_
            refine lv_icmp_eq (tgt := 50) hx hb dX6_chain_45 (by decide) (fun hc_45 => ?_) (fun hc_45 => ?_)
            · refine lv_iinc (v := nI (j + 1)) (lv' := [(2, .int (nI (j + 1))), (0, .ref (ad 302)), (1, .int (nI i))]) hx hb dX6_chain_50 hl (k := 2) rfl (by rw [show Int32.ofInt 1 = nI 1 from rfl]; exact nI_add _ _) (by decide) rfl (fun ls hl => ?_)
              refine lv_goto (tgt := 22) hx hb dX6_chain_53 (by decide) ?_
              have hw : xw D vwCl N ad B s.heap (va_up (va_up (va_up (va_up (va_up (va_up f 302 (.inr (7, mO ad 0 (n 0) (n 1) (n 2) (g 13 0) (n 3) (n 4) (n 5) 44))) 319 (ai (ca 1) 320 b1)) 321 (ai (ca 0) 64 w1)) 323 (ai (ca 0) 8 v1)) 322 (ai (ca 0) 8 h1)) 320 (ai (ca 1) 36 (mkf m1 (rowS (g 15) i (g 11 i) (g 12 i) (g 14 i)) 32))) H locs := by
                have ez : f_1 = va_up (va_up (va_up (va_up (va_up (va_up f 302 (.inr (7, mO ad 0 (n 0) (n 1) (n 2) (g 13 0) (n 3) (n 4) (n 5) 44))) 319 (ai (ca 1) 320 b1)) 321 (ai (ca 0) 64 w1)) 323 (ai (ca 0) 8 v1)) 322 (ai (ca 0) 8 h1)) 320 (ai (ca 1) 36 (mkf m1 (rowS (g 15) i (g 11 i) (g 12 i) (g 14 i)) 32)) := by simp only [ef_1]
                rw [← ez]; exact hw
              exact ih_22 b1 w1 v1 h1 m1 i (j + 1) _ _ _ (by omega) (by omega) (by omega) (by omega) (by omega) (lt_s hs (by rw [← hmk]; exact hc_45)) hw (lv_sub hl [1, 2, 0] rfl)
            · exact absurd (by rw [hmk]; exact hall i hi j hc_25) hc_45
      have c_302 := b_302
      have c_303 := b_303
      have c_304 := b_304
      have c_305 := b_305
      have c_306 := b_306
      have c_307 := b_307
      have c_308 := b_308
      have c_309 := b_309
      have c_310 := b_310
      have c_311 := b_311
      have c_312 := b_312
      have c_313 := b_313
      have c_314 := b_314
      have c_315 := b_315
      have c_316 := b_316
      have c_317 := b_317
      have c_318 := b_318
      have c_319 := b_319
      have c_320 := b_320
      have c_321 := b_321
      have c_322 := b_322
      have c_323 := b_323
      have c_324 := b_324
      have c_325 := b_325
      obtain ⟨f_2, ef_2⟩ : ∃ z, z = va_up (va_up (va_up (va_up (va_up (va_up f 302 (.inr (7, mO ad 0 (n 0) (n 1) (n 2) (g 13 0) (n 3) (n 4) (n 5) f1))) 319 (ai (ca 1) 320 b1)) 321 (ai (ca 0) 64 w1)) 323 (ai (ca 0) 8 v1)) 322 (ai (ca 0) 8 h1)) 320 (ai (ca 1) 36 m1) := ⟨_, rfl⟩
      have hw : xw D vwCl N ad B s.heap f_2 H locs := by rw [ef_2]; exact hw
      have c_302 : f_2 302 = .inr (7, mO ad 0 (n 0) (n 1) (n 2) (g 13 0) (n 3) (n 4) (n 5) f1) := by rw [ef_2, va_up_ne _ _ (by decide), va_up_ne _ _ (by decide), va_up_ne _ _ (by decide), va_up_ne _ _ (by decide), va_up_ne _ _ (by decide), va_up_self]
      have c_319 : f_2 319 = ai (ca 1) 320 b1 := by rw [ef_2, va_up_ne _ _ (by decide), va_up_ne _ _ (by decide), va_up_ne _ _ (by decide), va_up_ne _ _ (by decide), va_up_self]
      have c_321 : f_2 321 = ai (ca 0) 64 w1 := by rw [ef_2, va_up_ne _ _ (by decide), va_up_ne _ _ (by decide), va_up_ne _ _ (by decide), va_up_self]
      have c_323 : f_2 323 = ai (ca 0) 8 v1 := by rw [ef_2, va_up_ne _ _ (by decide), va_up_ne _ _ (by decide), va_up_self]
      have c_322 : f_2 322 = ai (ca 0) 8 h1 := by rw [ef_2, va_up_ne _ _ (by decide), va_up_self]
      have c_320 : f_2 320 = ai (ca 1) 36 m1 := by rw [ef_2, va_up_self]
      refine lv_iload_n hx hb dX6_chain_7 rfl (lv_at hl 1 rfl) ?_
      refine lv_aload_n hx hb dX6_chain_8 rfl (lv_at hl 0 rfl) ?_
      refine x_get (ci := 7) (C := RX6) (T := TX6) (n := 32) (ref := RX6) hx hb hts hin_7 hown hK hw 302 (by omega) c_302 rfl 17 (by decide) hf_203 (fun _ h => h) rfl dX6_chain_9 ?_
      refine n_icge (tgt := 62) hx hb dX6_chain_12 (by decide) (by omega) (by omega) (fun hc_12 => ?_) (fun hc_12 => ?_)
      · refine lv_iconst (v := (-1)) hx hb dX6_chain_62 (by decide) ?_
        have c_303 : f_2 303 = ai (ca 1) 200 (g 0) := by rw [ef_2, va_up_ne _ _ (by decide), va_up_ne _ _ (by decide), va_up_ne _ _ (by decide), va_up_ne _ _ (by decide), va_up_ne _ _ (by decide), va_up_ne _ _ (by decide)]; exact c_303
        have c_304 : f_2 304 = ai (ca 1) 4000 (g 1) := by rw [ef_2, va_up_ne _ _ (by decide), va_up_ne _ _ (by decide), va_up_ne _ _ (by decide), va_up_ne _ _ (by decide), va_up_ne _ _ (by decide), va_up_ne _ _ (by decide)]; exact c_304
        have c_305 : f_2 305 = ai (ca 0) 20 (g 2) := by rw [ef_2, va_up_ne _ _ (by decide), va_up_ne _ _ (by decide), va_up_ne _ _ (by decide), va_up_ne _ _ (by decide), va_up_ne _ _ (by decide), va_up_ne _ _ (by decide)]; exact c_305
        have c_306 : f_2 306 = ai (ca 0) 20 (g 3) := by rw [ef_2, va_up_ne _ _ (by decide), va_up_ne _ _ (by decide), va_up_ne _ _ (by decide), va_up_ne _ _ (by decide), va_up_ne _ _ (by decide), va_up_ne _ _ (by decide)]; exact c_306
        have c_307 : f_2 307 = ai (ca 1) 720 (g 4) := by rw [ef_2, va_up_ne _ _ (by decide), va_up_ne _ _ (by decide), va_up_ne _ _ (by decide), va_up_ne _ _ (by decide), va_up_ne _ _ (by decide), va_up_ne _ _ (by decide)]; exact c_307
        have c_308 : f_2 308 = ai (ca 0) 20 (g 5) := by rw [ef_2, va_up_ne _ _ (by decide), va_up_ne _ _ (by decide), va_up_ne _ _ (by decide), va_up_ne _ _ (by decide), va_up_ne _ _ (by decide), va_up_ne _ _ (by decide)]; exact c_308
        have c_309 : f_2 309 = ai (ca 0) 20 (g 6) := by rw [ef_2, va_up_ne _ _ (by decide), va_up_ne _ _ (by decide), va_up_ne _ _ (by decide), va_up_ne _ _ (by decide), va_up_ne _ _ (by decide), va_up_ne _ _ (by decide)]; exact c_309
        have c_310 : f_2 310 = ai (ca 0) 20 (g 7) := by rw [ef_2, va_up_ne _ _ (by decide), va_up_ne _ _ (by decide), va_up_ne _ _ (by decide), va_up_ne _ _ (by decide), va_up_ne _ _ (by decide), va_up_ne _ _ (by decide)]; exact c_310
        have c_311 : f_2 311 = ai (ca 0) 20 (g 8) := by rw [ef_2, va_up_ne _ _ (by decide), va_up_ne _ _ (by decide), va_up_ne _ _ (by decide), va_up_ne _ _ (by decide), va_up_ne _ _ (by decide), va_up_ne _ _ (by decide)]; exact c_311
        have c_312 : f_2 312 = ai (ca 0) 20 (g 9) := by rw [ef_2, va_up_ne _ _ (by decide), va_up_ne _ _ (by decide), va_up_ne _ _ (by decide), va_up_ne _ _ (by decide), va_up_ne _ _ (by decide), va_up_ne _ _ (by decide)]; exact c_312
        have c_313 : f_2 313 = ai (ca 2) 20 (g 10) := by rw [ef_2, va_up_ne _ _ (by decide), va_up_ne _ _ (by decide), va_up_ne _ _ (by decide), va_up_ne _ _ (by decide), va_up_ne _ _ (by decide), va_up_ne _ _ (by decide)]; exact c_313
        have c_314 : f_2 314 = ai (ca 0) 200 (g 11) := by rw [ef_2, va_up_ne _ _ (by decide), va_up_ne _ _ (by decide), va_up_ne _ _ (by decide), va_up_ne _ _ (by decide), va_up_ne _ _ (by decide), va_up_ne _ _ (by decide)]; exact c_314
        have c_315 : f_2 315 = ai (ca 0) 200 (g 12) := by rw [ef_2, va_up_ne _ _ (by decide), va_up_ne _ _ (by decide), va_up_ne _ _ (by decide), va_up_ne _ _ (by decide), va_up_ne _ _ (by decide), va_up_ne _ _ (by decide)]; exact c_315
        have c_316 : f_2 316 = ai (ca 0) 200 (g 14) := by rw [ef_2, va_up_ne _ _ (by decide), va_up_ne _ _ (by decide), va_up_ne _ _ (by decide), va_up_ne _ _ (by decide), va_up_ne _ _ (by decide), va_up_ne _ _ (by decide)]; exact c_316
        have c_317 : f_2 317 = ai (ca 1) 6400 (g 15) := by rw [ef_2, va_up_ne _ _ (by decide), va_up_ne _ _ (by decide), va_up_ne _ _ (by decide), va_up_ne _ _ (by decide), va_up_ne _ _ (by decide), va_up_ne _ _ (by decide)]; exact c_317
        have c_318 : f_2 318 = ai (ca 1) 32 (g 16) := by rw [ef_2, va_up_ne _ _ (by decide), va_up_ne _ _ (by decide), va_up_ne _ _ (by decide), va_up_ne _ _ (by decide), va_up_ne _ _ (by decide), va_up_ne _ _ (by decide)]; exact c_318
        have c_324 : f_2 324 = ai (ca 0) 8 shR := by rw [ef_2, va_up_ne _ _ (by decide), va_up_ne _ _ (by decide), va_up_ne _ _ (by decide), va_up_ne _ _ (by decide), va_up_ne _ _ (by decide), va_up_ne _ _ (by decide)]; exact c_324
        have c_325 : f_2 325 = ai (ca 0) 64 shK := by rw [ef_2, va_up_ne _ _ (by decide), va_up_ne _ _ (by decide), va_up_ne _ _ (by decide), va_up_ne _ _ (by decide), va_up_ne _ _ (by decide), va_up_ne _ _ (by decide)]; exact c_325
        have qn_0 : (va_up n 7 0) 0 = n 0 := by rw [va_up_ne _ _ (by decide)]
        have qn_1 : (va_up n 7 0) 1 = n 1 := by rw [va_up_ne _ _ (by decide)]
        have qn_2 : (va_up n 7 0) 2 = n 2 := by rw [va_up_ne _ _ (by decide)]
        have qn_3 : (va_up n 7 0) 3 = n 3 := by rw [va_up_ne _ _ (by decide)]
        have qn_4 : (va_up n 7 0) 4 = n 4 := by rw [va_up_ne _ _ (by decide)]
        have qn_5 : (va_up n 7 0) 5 = n 5 := by rw [va_up_ne _ _ (by decide)]
        have qn_6 : (va_up n 7 0) 6 = n 6 := by rw [va_up_ne _ _ (by decide)]
        have qn_7 : (va_up n 7 0) 7 = 0 := by rw [va_up_self]
        have qz_0 : (va_up (va_up (va_up (va_up (va_up z 0 b1) 1 m1) 2 w1) 3 h1) 4 v1) 0 = b1 := by rw [va_up_ne _ _ (by decide), va_up_ne _ _ (by decide), va_up_ne _ _ (by decide), va_up_ne _ _ (by decide), va_up_self]
        have qz_1 : (va_up (va_up (va_up (va_up (va_up z 0 b1) 1 m1) 2 w1) 3 h1) 4 v1) 1 = m1 := by rw [va_up_ne _ _ (by decide), va_up_ne _ _ (by decide), va_up_ne _ _ (by decide), va_up_self]
        have qz_2 : (va_up (va_up (va_up (va_up (va_up z 0 b1) 1 m1) 2 w1) 3 h1) 4 v1) 2 = w1 := by rw [va_up_ne _ _ (by decide), va_up_ne _ _ (by decide), va_up_self]
        have qz_3 : (va_up (va_up (va_up (va_up (va_up z 0 b1) 1 m1) 2 w1) 3 h1) 4 v1) 3 = h1 := by rw [va_up_ne _ _ (by decide), va_up_self]
        have qz_4 : (va_up (va_up (va_up (va_up (va_up z 0 b1) 1 m1) 2 w1) 3 h1) 4 v1) 4 = v1 := by rw [va_up_self]
        have hRz : RepM ca ad (va_up n 7 0) g (va_up (va_up (va_up (va_up (va_up z 0 b1) 1 m1) 2 w1) 3 h1) 4 v1) f1 tb f_2 := ⟨(by rw [qn_7, qn_0, qn_1, qn_2, qn_3, qn_4, qn_5]; exact c_302),
              c_303,
              c_304,
              c_305,
              c_306,
              c_307,
              c_308,
              c_309,
              c_310,
              c_311,
              c_312,
              c_313,
              c_314,
              c_315,
              c_316,
              c_317,
              c_318,
              (by rw [qz_0]; exact c_319),
              (by rw [qz_1]; exact c_320),
              (by rw [qz_2]; exact c_321),
              (by rw [qz_3]; exact c_322),
              (by rw [qz_4]; exact c_323),
              c_324,
              c_325, (by first | omega | assumption)⟩
        exact x_iret hx hb hr hlocks hw ⟨rfl, va_up (va_up (va_up (va_up (va_up z 0 b1) 1 m1) 2 w1) 3 h1) 4 v1, f1, hRz, (fun y hy => by rw [ef_2, va_up_ne _ _ (by omega), va_up_ne _ _ (by omega), va_up_ne _ _ (by omega), va_up_ne _ _ (by omega), va_up_ne _ _ (by omega), va_up_ne _ _ (by omega)])⟩ dX6_chain_63
      · refine lv_aload_n hx hb dX6_chain_15 rfl (lv_at hl 0 rfl) ?_
        refine lv_iload_n hx hb dX6_chain_16 rfl (lv_at hl 1 rfl) ?_
        have c_314 : f_2 314 = ai (ca 0) 200 (g 11) := by rw [ef_2, va_up_ne _ _ (by decide), va_up_ne _ _ (by decide), va_up_ne _ _ (by decide), va_up_ne _ _ (by decide), va_up_ne _ _ (by decide), va_up_ne _ _ (by decide)]; exact c_314
        have c_315 : f_2 315 = ai (ca 0) 200 (g 12) := by rw [ef_2, va_up_ne _ _ (by decide), va_up_ne _ _ (by decide), va_up_ne _ _ (by decide), va_up_ne _ _ (by decide), va_up_ne _ _ (by decide), va_up_ne _ _ (by decide)]; exact c_315
        have c_316 : f_2 316 = ai (ca 0) 200 (g 14) := by rw [ef_2, va_up_ne _ _ (by decide), va_up_ne _ _ (by decide), va_up_ne _ _ (by decide), va_up_ne _ _ (by decide), va_up_ne _ _ (by decide), va_up_ne _ _ (by decide)]; exact c_316
        have c_317 : f_2 317 = ai (ca 1) 6400 (g 15) := by rw [ef_2, va_up_ne _ _ (by decide), va_up_ne _ _ (by decide), va_up_ne _ _ (by decide), va_up_ne _ _ (by decide), va_up_ne _ _ (by decide), va_up_ne _ _ (by decide)]; exact c_317
        have c_324 : f_2 324 = ai (ca 0) 8 shR := by rw [ef_2, va_up_ne _ _ (by decide), va_up_ne _ _ (by decide), va_up_ne _ _ (by decide), va_up_ne _ _ (by decide), va_up_ne _ _ (by decide), va_up_ne _ _ (by decide)]; exact c_324
        have c_325 : f_2 325 = ai (ca 0) 64 shK := by rw [ef_2, va_up_ne _ _ (by decide), va_up_ne _ _ (by decide), va_up_ne _ _ (by decide), va_up_ne _ _ (by decide), va_up_ne _ _ (by decide), va_up_ne _ _ (by decide)]; exact c_325
        refine x_Vv (q := 302) (As := [.int (nI i)]) (rest := []) ⟨hx, hb, hml, hown, hts⟩ (k_X6_chained l D ca N ad B tR tK f_2 dd 0 (n 0) (n 1) (n 2) (g 13 0) (n 3) (n 4) (n 5) f1 (g 11) (g 12) (g 14) (g 15) b1 m1 w1 h1 v1 i c_302 c_314 c_315 c_316 c_317 c_319 c_320 c_321 c_322 c_323 c_324 c_325  (by omega) (by omega)) (cwV 1 hts gX6_chain_X6_chained rfl rfl rfl (by decide +kernel) ⟨Nat.le_of_ble_eq_true rfl, Nat.le_of_ble_eq_true rfl⟩) hK hE hB hw (by omega) c_302 rfl rfl rfl rfl hl.1 (Nat.le_of_ble_eq_true rfl) ⟨Nat.zero_le _, Nat.zero_le _⟩ dX6_chain_17 (fun f_3 H locs hp hw => ?_)
        obtain ⟨b1_5, w1_6, v1_7, h1_8, eu⟩ := hp
        have ef_3 : f_3 = va_up (va_up (va_up (va_up (va_up (va_up f_2 302 (.inr (7, mO ad 0 (n 0) (n 1) (n 2) (g 13 0) (n 3) (n 4) (n 5) 44))) 319 (ai (ca 1) 320 b1_5)) 321 (ai (ca 0) 64 w1_6)) 323 (ai (ca 0) 8 v1_7)) 322 (ai (ca 0) 8 h1_8)) 320 (ai (ca 1) 36 (mkf m1 (rowS (g 15) i ((g 11) i) ((g 12) i) ((g 14) i)) 32)) := eu
        have c_302 : f_3 302 = .inr (7, mO ad 0 (n 0) (n 1) (n 2) (g 13 0) (n 3) (n 4) (n 5) 44) := by rw [ef_3, va_up_ne _ _ (by decide), va_up_ne _ _ (by decide), va_up_ne _ _ (by decide), va_up_ne _ _ (by decide), va_up_ne _ _ (by decide), va_up_self]
        have c_319 : f_3 319 = ai (ca 1) 320 b1_5 := by rw [ef_3, va_up_ne _ _ (by decide), va_up_ne _ _ (by decide), va_up_ne _ _ (by decide), va_up_ne _ _ (by decide), va_up_self]
        have c_321 : f_3 321 = ai (ca 0) 64 w1_6 := by rw [ef_3, va_up_ne _ _ (by decide), va_up_ne _ _ (by decide), va_up_ne _ _ (by decide), va_up_self]
        have c_323 : f_3 323 = ai (ca 0) 8 v1_7 := by rw [ef_3, va_up_ne _ _ (by decide), va_up_ne _ _ (by decide), va_up_self]
        have c_322 : f_3 322 = ai (ca 0) 8 h1_8 := by rw [ef_3, va_up_ne _ _ (by decide), va_up_self]
        have c_320 : f_3 320 = ai (ca 1) 36 (mkf m1 (rowS (g 15) i ((g 11) i) ((g 12) i) ((g 14) i)) 32) := by rw [ef_3, va_up_self]
        refine lv_iconst (v := nI 0) hx hb dX6_chain_20 (by decide) ?_
        refine lv_istore_n (lv' := [(2, .int (nI 0)), (0, .ref (ad 302)), (1, .int (nI i))]) hx hb dX6_chain_21 rfl hl (by decide) rfl (fun ls hl => ?_)
        have hw : xw D vwCl N ad B s.heap (va_up (va_up (va_up (va_up (va_up (va_up f 302 (.inr (7, mO ad 0 (n 0) (n 1) (n 2) (g 13 0) (n 3) (n 4) (n 5) 44))) 319 (ai (ca 1) 320 b1_5)) 321 (ai (ca 0) 64 w1_6)) 323 (ai (ca 0) 8 v1_7)) 322 (ai (ca 0) 8 h1_8)) 320 (ai (ca 1) 36 (mkf m1 (rowS (g 15) i (g 11 i) (g 12 i) (g 14 i)) 32))) H locs := by
          have ez : f_3 = va_up (va_up (va_up (va_up (va_up (va_up f 302 (.inr (7, mO ad 0 (n 0) (n 1) (n 2) (g 13 0) (n 3) (n 4) (n 5) 44))) 319 (ai (ca 1) 320 b1_5)) 321 (ai (ca 0) 64 w1_6)) 323 (ai (ca 0) 8 v1_7)) 322 (ai (ca 0) 8 h1_8)) 320 (ai (ca 1) 36 (mkf m1 (rowS (g 15) i (g 11 i) (g 12 i) (g 14 i)) 32)) := by simp only [ef_3, ef_2, up_c6]
          rw [← ez]; exact hw
        exact P_22 33 b1_5 w1_6 v1_7 h1_8 m1 i 0 _ _ _ (by omega) (by omega) (by omega) (by omega) (by omega) (fun k hk => absurd hk (by omega)) hw (lv_sub hl [1, 2, 0] rfl)
  refine lv_aload_n hx hb dX6_chain_0 rfl (lv_at hl 0 rfl) ?_
  refine lv_iconst (v := nI 0) hx hb dX6_chain_1 (by decide) ?_
  refine x_put (ci := 7) (C := RX6) (T := TX6) (n := 32) (ref := RX6) (fs' := mO ad 0 (n 0) (n 1) (n 2) (g 13 0) (n 3) (n 4) (n 5) zn) hx hb hts hin_7 tyX6 tyX6_ok nmX6 hown hK dd hw 302 (by omega) c_302 rfl 0 (by decide) hf_160 (fun _ h => h) rfl rfl rfl (Nat.le_of_ble_eq_true rfl) rfl dX6_chain_2 (fun H locs hw => ?_)
  obtain ⟨f_9, ef_9⟩ : ∃ z, z = va_up f 302 (.inr (7, mO ad 0 (n 0) (n 1) (n 2) (g 13 0) (n 3) (n 4) (n 5) zn)) := ⟨_, rfl⟩
  have hw : xw D vwCl N ad B s.heap f_9 H locs := by rw [ef_9]; exact hw
  have c_302 : f_9 302 = .inr (7, mO ad 0 (n 0) (n 1) (n 2) (g 13 0) (n 3) (n 4) (n 5) zn) := va_up_of ef_9
  refine lv_iconst (v := nI 0) hx hb dX6_chain_5 (by decide) ?_
  refine lv_istore_n (lv' := [(1, .int (nI 0)), (0, .ref (ad 302))]) hx hb dX6_chain_6 rfl hl (by decide) rfl (fun ls hl => ?_)
  have hw : xw D vwCl N ad B s.heap (va_up (va_up (va_up (va_up (va_up (va_up f 302 (.inr (7, mO ad 0 (n 0) (n 1) (n 2) (g 13 0) (n 3) (n 4) (n 5) zn))) 319 (ai (ca 1) 320 (z 0))) 321 (ai (ca 0) 64 (z 2))) 323 (ai (ca 0) 8 (z 4))) 322 (ai (ca 0) 8 (z 3))) 320 (ai (ca 1) 36 (z 1))) H locs := by
    have ez : f_9 = va_up (va_up (va_up (va_up (va_up (va_up f 302 (.inr (7, mO ad 0 (n 0) (n 1) (n 2) (g 13 0) (n 3) (n 4) (n 5) zn))) 319 (ai (ca 1) 320 (z 0))) 321 (ai (ca 0) 64 (z 2))) 323 (ai (ca 0) 8 (z 4))) 322 (ai (ca 0) 8 (z 3))) 320 (ai (ca 1) 36 (z 1)) := by simp only [ef_9]; rw [up_noop (x := ai (ca 1) 320 (z 0)) (by rw [va_up_ne _ _ (by decide)]; exact b_319), up_noop (x := ai (ca 0) 64 (z 2)) (by rw [va_up_ne _ _ (by decide)]; exact b_321), up_noop (x := ai (ca 0) 8 (z 4)) (by rw [va_up_ne _ _ (by decide)]; exact b_323), up_noop (x := ai (ca 0) 8 (z 3)) (by rw [va_up_ne _ _ (by decide)]; exact b_322), up_noop (x := ai (ca 1) 36 (z 1)) (by rw [va_up_ne _ _ (by decide)]; exact b_320)]
    rw [← ez]; exact hw
  exact P_7 ((n 4 + 1)) zn (z 0) (z 2) (z 4) (z 3) (z 1) 0 _ _ _ (by omega) (by omega) (by omega) hw (lv_sub hl [1, 0] rfl)

set_option maxHeartbeats 4000000 in
set_option maxRecDepth 100000 in
theorem k_X6_chain_some (l : Launch) (D : va_G) (ca : Nat → ClassId) (N : Nat) (ad : Nat → Nat) (B tR tK : Nat) (f : Nat → va_E) (dd : xD N ad B) (hN : 326 ≤ N) (n : Nat → Nat) (g : Nat → Nat → Int32) (z : Nat → Nat → Int32) (zn : Nat) (tb : Nat → Int32) (hR : RepM ca ad n g z zn tb f) (b : Nat) (h5 : n 4 ≤ 200) (hb9 : b < n 4) (hall : ∀ i, i < b → ∀ k, k < 32 → (jushr (rowS (g 15) i (g 11 i) (g 12 i) (g 14 i) (k / 4)) (nI (24 - 8 * (k % 4)))).toInt8.toInt32 = g 15 (32 * i + k)) (hbad : ∃ k, k < 32 ∧ ¬ (jushr (rowS (g 15) b (g 11 b) (g 12 b) (g 14 b) (k / 4)) (nI (24 - 8 * (k % 4)))).toInt8.toInt32 = g 15 (32 * b + k)) : xMi l yX6_chain wsX6_chain rmX6_chain [.ref (ad 302)] D ca N ad B tR tK f (fun r u => nI b = r ∧ ∃ (z1 : Nat → Nat → Int32) (zn1 : Nat), RepM ca ad (va_up n 7 0) g z1 zn1 tb u ∧ ∀ y, (y < 302 ∨ 326 ≤ y) → u y = f y) := by
  refine x_open (cc := cX6_chain) (maxL := 3) (ret := (some .int)) (by decide) rfl (Nat.le_of_ble_eq_true rfl) ?_
  intro p e s m below meth c ls hx hb hml hown hts hr hlocks hnm hB hK hE hw hl
  have hown : s.vm.findClass RX6 = some m.cls := hown
  have hl : lv_has ls 3 [(0, .ref (ad 302))] := hl
  obtain ⟨c_302, c_303, c_304, c_305, c_306, c_307, c_308, c_309, c_310, c_311, c_312, c_313, c_314, c_315, c_316, c_317, c_318, c_319, c_320, c_321, c_322, c_323, c_324, c_325, hzn⟩ := hR
  have hin_7 : ∀ w ∈ u_ws RX6 TX6 32, w ∈ wsX6_chain := by decide +kernel
  have hf_67 := hts (.fieldLink RX6 67 "FixityRowsModel" "made" "[B") (by decide +kernel)
  have hf_58 := hts (.fieldLink RX6 58 "FixityRowsModel" "rowDigest" "[B") (by decide +kernel)
  have hf_203 := hts (.fieldLink RX6 203 "FixityRowsModel" "rows" "I") (by decide +kernel)
  have hf_160 := hts (.fieldLink RX6 160 "FixityRowsModel" "thrown" "I") (by decide +kernel)
  have b_302 := c_302
  have b_303 := c_303
  have b_304 := c_304
  have b_305 := c_305
  have b_306 := c_306
  have b_307 := c_307
  have b_308 := c_308
  have b_309 := c_309
  have b_310 := c_310
  have b_311 := c_311
  have b_312 := c_312
  have b_313 := c_313
  have b_314 := c_314
  have b_315 := c_315
  have b_316 := c_316
  have b_317 := c_317
  have b_318 := c_318
  have b_319 := c_319
  have b_320 := c_320
  have b_321 := c_321
  have b_322 := c_322
  have b_323 := c_323
  have b_324 := c_324
  have b_325 := c_325
  have P_7 : ∀ (n_7 : Nat) (f1 : Nat) (b1 : Nat → Int32) (w1 : Nat → Int32) (v1 : Nat → Int32) (h1 : Nat → Int32) (m1 : Nat → Int32) (i : Nat) (H : Heap) (locs : List Loc) (ls : Array Slot), n 4 + 1 ≤ i + n_7 → (i ≤ b) → (f1 ≤ 200) → xw D vwCl N ad B s.heap (va_up (va_up (va_up (va_up (va_up (va_up f 302 (.inr (7, mO ad 0 (n 0) (n 1) (n 2) (g 13 0) (n 3) (n 4) (n 5) f1))) 319 (ai (ca 1) 320 b1)) 321 (ai (ca 0) 64 w1)) 323 (ai (ca 0) 8 v1)) 322 (ai (ca 0) 8 h1)) 320 (ai (ca 1) 36 m1)) H locs → lv_has ls 3 [(0, .ref (ad 302)), (1, .int (nI i))] → W p l e rmX6_chain s m ([.ref (ad 302)] : List Value).toArray below meth c H locs 0 0 (MQ below (xQi (fun r u => nI b = r ∧ ∃ (z1 : Nat → Nat → Int32) (zn1 : Nat), RepM ca ad (va_up n 7 0) g z1 zn1 tb u ∧ ∀ y, (y < 302 ∨ 326 ≤ y) → u y = f y) D N ad B) ([.ref (ad 302)] : List Value).toArray s 0 0 (xA B)) (F0 m 7 ls []) := by
    intro n_7
    induction n_7 with
    | zero =>
      intro f1 b1 w1 v1 h1 m1 i H locs ls hm_7 hi hf1 hw hl
      exact absurd hm_7 (by omega)
    | succ n_7 ih_7 =>
      intro f1 b1 w1 v1 h1 m1 i H locs ls hm_7 hi hf1 hw hl
      have P_22 : ∀ (n_22 : Nat) (b1 : Nat → Int32) (w1 : Nat → Int32) (v1 : Nat → Int32) (h1 : Nat → Int32) (m1 : Nat → Int32) (i : Nat) (j : Nat) (H : Heap) (locs : List Loc) (ls : Array Slot), 32 + 1 ≤ j + n_22 → (i < n 4) → (i ≤ b) → (n 4 + 1 ≤ i + (n_7 + 1)) → (j ≤ 32) → (∀ k, k < j → (jushr (rowS (g 15) i (g 11 i) (g 12 i) (g 14 i) (k / 4)) (nI (24 - 8 * (k % 4)))).toInt8.toInt32 = g 15 (32 * i + k)) → xw D vwCl N ad B s.heap (va_up (va_up (va_up (va_up (va_up (va_up f 302 (.inr (7, mO ad 0 (n 0) (n 1) (n 2) (g 13 0) (n 3) (n 4) (n 5) 44))) 319 (ai (ca 1) 320 b1)) 321 (ai (ca 0) 64 w1)) 323 (ai (ca 0) 8 v1)) 322 (ai (ca 0) 8 h1)) 320 (ai (ca 1) 36 (mkf m1 (rowS (g 15) i (g 11 i) (g 12 i) (g 14 i)) 32))) H locs → lv_has ls 3 [(0, .ref (ad 302)), (1, .int (nI i)), (2, .int (nI j))] → W p l e rmX6_chain s m ([.ref (ad 302)] : List Value).toArray below meth c H locs 0 0 (MQ below (xQi (fun r u => nI b = r ∧ ∃ (z1 : Nat → Nat → Int32) (zn1 : Nat), RepM ca ad (va_up n 7 0) g z1 zn1 tb u ∧ ∀ y, (y < 302 ∨ 326 ≤ y) → u y = f y) D N ad B) ([.ref (ad 302)] : List Value).toArray s 0 0 (xA B)) (F0 m 22 ls []) := by
        intro n_22
        induction n_22 with
        | zero =>
          intro b1 w1 v1 h1 m1 i j H locs ls hm_22 hi hib hu hj hs hw hl
          exact absurd hm_22 (by omega)
        | succ n_22 ih_22 =>
          intro b1 w1 v1 h1 m1 i j H locs ls hm_22 hi hib hu hj hs hw hl
          have c_302 := b_302
          have c_303 := b_303
          have c_304 := b_304
          have c_305 := b_305
          have c_306 := b_306
          have c_307 := b_307
          have c_308 := b_308
          have c_309 := b_309
          have c_310 := b_310
          have c_311 := b_311
          have c_312 := b_312
          have c_313 := b_313
          have c_314 := b_314
          have c_315 := b_315
          have c_316 := b_316
          have c_317 := b_317
          have c_318 := b_318
          have c_319 := b_319
          have c_320 := b_320
          have c_321 := b_321
          have c_322 := b_322
          have c_323 := b_323
          have c_324 := b_324
          have c_325 := b_325
          obtain ⟨f_1, ef_1⟩ : ∃ z, z = va_up (va_up (va_up (va_up (va_up (va_up f 302 (.inr (7, mO ad 0 (n 0) (n 1) (n 2) (g 13 0) (n 3) (n 4) (n 5) 44))) 319 (ai (ca 1) 320 b1)) 321 (ai (ca 0) 64 w1)) 323 (ai (ca 0) 8 v1)) 322 (ai (ca 0) 8 h1)) 320 (ai (ca 1) 36 (mkf m1 (rowS (g 15) i (g 11 i) (g 12 i) (g 14 i)) 32)) := ⟨_, rfl⟩
          have hw : xw D vwCl N ad B s.heap f_1 H locs := by rw [ef_1]; exact hw
          have c_302 : f_1 302 = .inr (7, mO ad 0 (n 0) (n 1) (n 2) (g 13 0) (n 3) (n 4) (n 5) 44) := by rw [ef_1, va_up_ne _ _ (by decide), va_up_ne _ _ (by decide), va_up_ne _ _ (by decide), va_up_ne _ _ (by decide), va_up_ne _ _ (by decide), va_up_self]
          have c_319 : f_1 319 = ai (ca 1) 320 b1 := by rw [ef_1, va_up_ne _ _ (by decide), va_up_ne _ _ (by decide), va_up_ne _ _ (by decide), va_up_ne _ _ (by decide), va_up_self]
          have c_321 : f_1 321 = ai (ca 0) 64 w1 := by rw [ef_1, va_up_ne _ _ (by decide), va_up_ne _ _ (by decide), va_up_ne _ _ (by decide), va_up_self]
          have c_323 : f_1 323 = ai (ca 0) 8 v1 := by rw [ef_1, va_up_ne _ _ (by decide), va_up_ne _ _ (by decide), va_up_self]
          have c_322 : f_1 322 = ai (ca 0) 8 h1 := by rw [ef_1, va_up_ne _ _ (by decide), va_up_self]
          have c_320 : f_1 320 = ai (ca 1) 36 (mkf m1 (rowS (g 15) i (g 11 i) (g 12 i) (g 14 i)) 32) := by rw [ef_1, va_up_self]
          refine lv_iload_n hx hb dX6_chain_22 rfl (lv_at hl 2 rfl) ?_
          refine lv_bipush (v := nI 32) hx hb dX6_chain_23 (by decide) ?_
          refine n_icge (tgt := 56) hx hb dX6_chain_25 (by decide) (by omega) (by omega) (fun hc_25 => ?_) (fun hc_25 => ?_)
          · have hlt : i < b := (Nat.lt_or_ge i b).elim id (fun q => by have ei : i = b := (by omega); obtain ⟨k, h1, h3⟩ := hbad; exact absurd (ei ▸ hs k (by omega)) h3)
            refine lv_iinc (v := nI (i + 1)) (lv' := [(1, .int (nI (i + 1))), (0, .ref (ad 302)), (2, .int (nI j))]) hx hb dX6_chain_56 hl (k := 1) rfl (by rw [show Int32.ofInt 1 = nI 1 from rfl]; exact nI_add _ _) (by decide) rfl (fun ls hl => ?_)
            refine lv_goto (tgt := 7) hx hb dX6_chain_59 (by decide) ?_
            have hw : xw D vwCl N ad B s.heap (va_up (va_up (va_up (va_up (va_up (va_up f 302 (.inr (7, mO ad 0 (n 0) (n 1) (n 2) (g 13 0) (n 3) (n 4) (n 5) 44))) 319 (ai (ca 1) 320 b1)) 321 (ai (ca 0) 64 w1)) 323 (ai (ca 0) 8 v1)) 322 (ai (ca 0) 8 h1)) 320 (ai (ca 1) 36 (mkf m1 (rowS (g 15) i (g 11 i) (g 12 i) (g 14 i)) 32))) H locs := by
              have ez : f_1 = va_up (va_up (va_up (va_up (va_up (va_up f 302 (.inr (7, mO ad 0 (n 0) (n 1) (n 2) (g 13 0) (n 3) (n 4) (n 5) 44))) 319 (ai (ca 1) 320 b1)) 321 (ai (ca 0) 64 w1)) 323 (ai (ca 0) 8 v1)) 322 (ai (ca 0) 8 h1)) 320 (ai (ca 1) 36 (mkf m1 (rowS (g 15) i (g 11 i) (g 12 i) (g 14 i)) 32)) := by simp only [ef_1]
              rw [← ez]; exact hw
            exact ih_7 44 b1 w1 v1 h1 (mkf m1 (rowS (g 15) i (g 11 i) (g 12 i) (g 14 i)) 32) (i + 1) _ _ _ (by omega) (by omega) (by omega) hw (lv_sub hl [1, 0] rfl)
          · refine lv_aload_n hx hb dX6_chain_28 rfl (lv_at hl 0 rfl) ?_
            refine x_get (ci := 7) (C := RX6) (T := TX6) (n := 32) (ref := RX6) hx hb hts hin_7 hown hK hw 302 (by omega) c_302 rfl 26 (by decide) hf_67 (fun _ h => h) rfl dX6_chain_29 ?_
            refine lv_iload_n hx hb dX6_chain_32 rfl (lv_at hl 2 rfl) ?_
            refine x_bald (j := j) hx hb hK hw 320 1 (by omega) c_320 rfl rfl (by omega) (by decide) dX6_chain_33 ?_
            have hmk : mkf m1 (rowS (g 15) i (g 11 i) (g 12 i) (g 14 i)) 32 j = (jushr (rowS (g 15) i (g 11 i) (g 12 i) (g 14 i) (j / 4)) (nI (24 - 8 * (j % 4)))).toInt8.toInt32 := if_pos hc_25
            refine lv_aload_n hx hb dX6_chain_34 rfl (lv_at hl 0 rfl) ?_
            refine x_get (ci := 7) (C := RX6) (T := TX6) (n := 32) (ref := RX6) hx hb hts hin_7 hown hK hw 302 (by omega) c_302 rfl 21 (by decide) hf_58 (fun _ h => h) rfl dX6_chain_35 ?_
            refine lv_bipush (v := nI 32) hx hb dX6_chain_38 (by decide) ?_
            refine lv_iload_n hx hb dX6_chain_40 rfl (lv_at hl 1 rfl) ?_
            refine n_imul hx hb dX6_chain_41 ?_
            refine lv_iload_n hx hb dX6_chain_42 rfl (lv_at hl 2 rfl) ?_
            refine n_iadd hx hb dX6_chain_43 ?_
            have c_317 : f_1 317 = ai (ca 1) 6400 (g 15) := by rw [ef_1, va_up_ne _ _ (by decide), va_up_ne _ _ (by decide), va_up_ne _ _ (by decide), va_up_ne _ _ (by decide), va_up_ne _ _ (by decide), va_up_ne _ _ (by decide)]; exact c_317
            refine x_bald (j := (32 * i) + j) hx hb hK hw 317 1 (by omega) c_317 rfl rfl (by omega) (by decide) dX6_chain_44 ?_
            refine lv_icmp_eq (tgt := 50) hx hb dX6_chain_45 (by decide) (fun hc_45 => ?_) (fun hc_45 => ?_)
            · refine lv_iinc (v := nI (j + 1)) (lv' := [(2, .int (nI (j + 1))), (0, .ref (ad 302)), (1, .int (nI i))]) hx hb dX6_chain_50 hl (k := 2) rfl (by rw [show Int32.ofInt 1 = nI 1 from rfl]; exact nI_add _ _) (by decide) rfl (fun ls hl => ?_)
              refine lv_goto (tgt := 22) hx hb dX6_chain_53 (by decide) ?_
              have hw : xw D vwCl N ad B s.heap (va_up (va_up (va_up (va_up (va_up (va_up f 302 (.inr (7, mO ad 0 (n 0) (n 1) (n 2) (g 13 0) (n 3) (n 4) (n 5) 44))) 319 (ai (ca 1) 320 b1)) 321 (ai (ca 0) 64 w1)) 323 (ai (ca 0) 8 v1)) 322 (ai (ca 0) 8 h1)) 320 (ai (ca 1) 36 (mkf m1 (rowS (g 15) i (g 11 i) (g 12 i) (g 14 i)) 32))) H locs := by
                have ez : f_1 = va_up (va_up (va_up (va_up (va_up (va_up f 302 (.inr (7, mO ad 0 (n 0) (n 1) (n 2) (g 13 0) (n 3) (n 4) (n 5) 44))) 319 (ai (ca 1) 320 b1)) 321 (ai (ca 0) 64 w1)) 323 (ai (ca 0) 8 v1)) 322 (ai (ca 0) 8 h1)) 320 (ai (ca 1) 36 (mkf m1 (rowS (g 15) i (g 11 i) (g 12 i) (g 14 i)) 32)) := by simp only [ef_1]
                rw [← ez]; exact hw
              exact ih_22 b1 w1 v1 h1 m1 i (j + 1) _ _ _ (by omega) (by omega) (by omega) (by omega) (by omega) (lt_s hs (by rw [← hmk]; exact hc_45)) hw (lv_sub hl [1, 2, 0] rfl)
            · refine lv_iload_n hx hb dX6_chain_48 rfl (lv_at hl 1 rfl) ?_
              have c_303 : f_1 303 = ai (ca 1) 200 (g 0) := by rw [ef_1, va_up_ne _ _ (by decide), va_up_ne _ _ (by decide), va_up_ne _ _ (by decide), va_up_ne _ _ (by decide), va_up_ne _ _ (by decide), va_up_ne _ _ (by decide)]; exact c_303
              have c_304 : f_1 304 = ai (ca 1) 4000 (g 1) := by rw [ef_1, va_up_ne _ _ (by decide), va_up_ne _ _ (by decide), va_up_ne _ _ (by decide), va_up_ne _ _ (by decide), va_up_ne _ _ (by decide), va_up_ne _ _ (by decide)]; exact c_304
              have c_305 : f_1 305 = ai (ca 0) 20 (g 2) := by rw [ef_1, va_up_ne _ _ (by decide), va_up_ne _ _ (by decide), va_up_ne _ _ (by decide), va_up_ne _ _ (by decide), va_up_ne _ _ (by decide), va_up_ne _ _ (by decide)]; exact c_305
              have c_306 : f_1 306 = ai (ca 0) 20 (g 3) := by rw [ef_1, va_up_ne _ _ (by decide), va_up_ne _ _ (by decide), va_up_ne _ _ (by decide), va_up_ne _ _ (by decide), va_up_ne _ _ (by decide), va_up_ne _ _ (by decide)]; exact c_306
              have c_307 : f_1 307 = ai (ca 1) 720 (g 4) := by rw [ef_1, va_up_ne _ _ (by decide), va_up_ne _ _ (by decide), va_up_ne _ _ (by decide), va_up_ne _ _ (by decide), va_up_ne _ _ (by decide), va_up_ne _ _ (by decide)]; exact c_307
              have c_308 : f_1 308 = ai (ca 0) 20 (g 5) := by rw [ef_1, va_up_ne _ _ (by decide), va_up_ne _ _ (by decide), va_up_ne _ _ (by decide), va_up_ne _ _ (by decide), va_up_ne _ _ (by decide), va_up_ne _ _ (by decide)]; exact c_308
              have c_309 : f_1 309 = ai (ca 0) 20 (g 6) := by rw [ef_1, va_up_ne _ _ (by decide), va_up_ne _ _ (by decide), va_up_ne _ _ (by decide), va_up_ne _ _ (by decide), va_up_ne _ _ (by decide), va_up_ne _ _ (by decide)]; exact c_309
              have c_310 : f_1 310 = ai (ca 0) 20 (g 7) := by rw [ef_1, va_up_ne _ _ (by decide), va_up_ne _ _ (by decide), va_up_ne _ _ (by decide), va_up_ne _ _ (by decide), va_up_ne _ _ (by decide), va_up_ne _ _ (by decide)]; exact c_310
              have c_311 : f_1 311 = ai (ca 0) 20 (g 8) := by rw [ef_1, va_up_ne _ _ (by decide), va_up_ne _ _ (by decide), va_up_ne _ _ (by decide), va_up_ne _ _ (by decide), va_up_ne _ _ (by decide), va_up_ne _ _ (by decide)]; exact c_311
              have c_312 : f_1 312 = ai (ca 0) 20 (g 9) := by rw [ef_1, va_up_ne _ _ (by decide), va_up_ne _ _ (by decide), va_up_ne _ _ (by decide), va_up_ne _ _ (by decide), va_up_ne _ _ (by decide), va_up_ne _ _ (by decide)]; exact c_312
              have c_313 : f_1 313 = ai (ca 2) 20 (g 10) := by rw [ef_1, va_up_ne _ _ (by decide), va_up_ne _ _ (by decide), va_up_ne _ _ (by decide), va_up_ne _ _ (by decide), va_up_ne _ _ (by decide), va_up_ne _ _ (by decide)]; exact c_313
              have c_314 : f_1 314 = ai (ca 0) 200 (g 11) := by rw [ef_1, va_up_ne _ _ (by decide), va_up_ne _ _ (by decide), va_up_ne _ _ (by decide), va_up_ne _ _ (by decide), va_up_ne _ _ (by decide), va_up_ne _ _ (by decide)]; exact c_314
              have c_315 : f_1 315 = ai (ca 0) 200 (g 12) := by rw [ef_1, va_up_ne _ _ (by decide), va_up_ne _ _ (by decide), va_up_ne _ _ (by decide), va_up_ne _ _ (by decide), va_up_ne _ _ (by decide), va_up_ne _ _ (by decide)]; exact c_315
              have c_316 : f_1 316 = ai (ca 0) 200 (g 14) := by rw [ef_1, va_up_ne _ _ (by decide), va_up_ne _ _ (by decide), va_up_ne _ _ (by decide), va_up_ne _ _ (by decide), va_up_ne _ _ (by decide), va_up_ne _ _ (by decide)]; exact c_316
              have c_318 : f_1 318 = ai (ca 1) 32 (g 16) := by rw [ef_1, va_up_ne _ _ (by decide), va_up_ne _ _ (by decide), va_up_ne _ _ (by decide), va_up_ne _ _ (by decide), va_up_ne _ _ (by decide), va_up_ne _ _ (by decide)]; exact c_318
              have c_324 : f_1 324 = ai (ca 0) 8 shR := by rw [ef_1, va_up_ne _ _ (by decide), va_up_ne _ _ (by decide), va_up_ne _ _ (by decide), va_up_ne _ _ (by decide), va_up_ne _ _ (by decide), va_up_ne _ _ (by decide)]; exact c_324
              have c_325 : f_1 325 = ai (ca 0) 64 shK := by rw [ef_1, va_up_ne _ _ (by decide), va_up_ne _ _ (by decide), va_up_ne _ _ (by decide), va_up_ne _ _ (by decide), va_up_ne _ _ (by decide), va_up_ne _ _ (by decide)]; exact c_325
              have qn_0 : (va_up n 7 0) 0 = n 0 := by rw [va_up_ne _ _ (by decide)]
              have qn_1 : (va_up n 7 0) 1 = n 1 := by rw [va_up_ne _ _ (by decide)]
              have qn_2 : (va_up n 7 0) 2 = n 2 := by rw [va_up_ne _ _ (by decide)]
              have qn_3 : (va_up n 7 0) 3 = n 3 := by rw [va_up_ne _ _ (by decide)]
              have qn_4 : (va_up n 7 0) 4 = n 4 := by rw [va_up_ne _ _ (by decide)]
              have qn_5 : (va_up n 7 0) 5 = n 5 := by rw [va_up_ne _ _ (by decide)]
              have qn_6 : (va_up n 7 0) 6 = n 6 := by rw [va_up_ne _ _ (by decide)]
              have qn_7 : (va_up n 7 0) 7 = 0 := by rw [va_up_self]
              have qz_0 : (va_up (va_up (va_up (va_up (va_up z 0 b1) 1 (mkf m1 (rowS (g 15) i (g 11 i) (g 12 i) (g 14 i)) 32)) 2 w1) 3 h1) 4 v1) 0 = b1 := by rw [va_up_ne _ _ (by decide), va_up_ne _ _ (by decide), va_up_ne _ _ (by decide), va_up_ne _ _ (by decide), va_up_self]
              have qz_1 : (va_up (va_up (va_up (va_up (va_up z 0 b1) 1 (mkf m1 (rowS (g 15) i (g 11 i) (g 12 i) (g 14 i)) 32)) 2 w1) 3 h1) 4 v1) 1 = mkf m1 (rowS (g 15) i (g 11 i) (g 12 i) (g 14 i)) 32 := by rw [va_up_ne _ _ (by decide), va_up_ne _ _ (by decide), va_up_ne _ _ (by decide), va_up_self]
              have qz_2 : (va_up (va_up (va_up (va_up (va_up z 0 b1) 1 (mkf m1 (rowS (g 15) i (g 11 i) (g 12 i) (g 14 i)) 32)) 2 w1) 3 h1) 4 v1) 2 = w1 := by rw [va_up_ne _ _ (by decide), va_up_ne _ _ (by decide), va_up_self]
              have qz_3 : (va_up (va_up (va_up (va_up (va_up z 0 b1) 1 (mkf m1 (rowS (g 15) i (g 11 i) (g 12 i) (g 14 i)) 32)) 2 w1) 3 h1) 4 v1) 3 = h1 := by rw [va_up_ne _ _ (by decide), va_up_self]
              have qz_4 : (va_up (va_up (va_up (va_up (va_up z 0 b1) 1 (mkf m1 (rowS (g 15) i (g 11 i) (g 12 i) (g 14 i)) 32)) 2 w1) 3 h1) 4 v1) 4 = v1 := by rw [va_up_self]
              have hRz : RepM ca ad (va_up n 7 0) g (va_up (va_up (va_up (va_up (va_up z 0 b1) 1 (mkf m1 (rowS (g 15) i (g 11 i) (g 12 i) (g 14 i)) 32)) 2 w1) 3 h1) 4 v1) 44 tb f_1 := ⟨(by rw [qn_7, qn_0, qn_1, qn_2, qn_3, qn_4, qn_5]; exact c_302),
                    c_303,
                    c_304,
                    c_305,
                    c_306,
                    c_307,
                    c_308,
                    c_309,
                    c_310,
                    c_311,
                    c_312,
                    c_313,
                    c_314,
                    c_315,
                    c_316,
                    c_317,
                    c_318,
                    (by rw [qz_0]; exact c_319),
                    (by rw [qz_1]; exact c_320),
                    (by rw [qz_2]; exact c_321),
                    (by rw [qz_3]; exact c_322),
                    (by rw [qz_4]; exact c_323),
                    c_324,
                    c_325, (by first | omega | assumption)⟩
              exact x_iret hx hb hr hlocks hw ⟨(by have ei : i = b := (Nat.lt_or_ge i b).elim (fun q => absurd (by rw [hmk]; exact hall i q j hc_25) hc_45) (fun q => by omega); rw [ei]), va_up (va_up (va_up (va_up (va_up z 0 b1) 1 (mkf m1 (rowS (g 15) i (g 11 i) (g 12 i) (g 14 i)) 32)) 2 w1) 3 h1) 4 v1, 44, hRz, (fun y hy => by rw [ef_1, va_up_ne _ _ (by omega), va_up_ne _ _ (by omega), va_up_ne _ _ (by omega), va_up_ne _ _ (by omega), va_up_ne _ _ (by omega), va_up_ne _ _ (by omega)])⟩ dX6_chain_49
      have c_302 := b_302
      have c_303 := b_303
      have c_304 := b_304
      have c_305 := b_305
      have c_306 := b_306
      have c_307 := b_307
      have c_308 := b_308
      have c_309 := b_309
      have c_310 := b_310
      have c_311 := b_311
      have c_312 := b_312
      have c_313 := b_313
      have c_314 := b_314
      have c_315 := b_315
      have c_316 := b_316
      have c_317 := b_317
      have c_318 := b_318
      have c_319 := b_319
      have c_320 := b_320
      have c_321 := b_321
      have c_322 := b_322
      have c_323 := b_323
      have c_324 := b_324
      have c_325 := b_325
      obtain ⟨f_2, ef_2⟩ : ∃ z, z = va_up (va_up (va_up (va_up (va_up (va_up f 302 (.inr (7, mO ad 0 (n 0) (n 1) (n 2) (g 13 0) (n 3) (n 4) (n 5) f1))) 319 (ai (ca 1) 320 b1)) 321 (ai (ca 0) 64 w1)) 323 (ai (ca 0) 8 v1)) 322 (ai (ca 0) 8 h1)) 320 (ai (ca 1) 36 m1) := ⟨_, rfl⟩
      have hw : xw D vwCl N ad B s.heap f_2 H locs := by rw [ef_2]; exact hw
      have c_302 : f_2 302 = .inr (7, mO ad 0 (n 0) (n 1) (n 2) (g 13 0) (n 3) (n 4) (n 5) f1) := by rw [ef_2, va_up_ne _ _ (by decide), va_up_ne _ _ (by decide), va_up_ne _ _ (by decide), va_up_ne _ _ (by decide), va_up_ne _ _ (by decide), va_up_self]
      have c_319 : f_2 319 = ai (ca 1) 320 b1 := by rw [ef_2, va_up_ne _ _ (by decide), va_up_ne _ _ (by decide), va_up_ne _ _ (by decide), va_up_ne _ _ (by decide), va_up_self]
      have c_321 : f_2 321 = ai (ca 0) 64 w1 := by rw [ef_2, va_up_ne _ _ (by decide), va_up_ne _ _ (by decide), va_up_ne _ _ (by decide), va_up_self]
      have c_323 : f_2 323 = ai (ca 0) 8 v1 := by rw [ef_2, va_up_ne _ _ (by decide), va_up_ne _ _ (by decide), va_up_self]
      have c_322 : f_2 322 = ai (ca 0) 8 h1 := by rw [ef_2, va_up_ne _ _ (by decide), va_up_self]
      have c_320 : f_2 320 = ai (ca 1) 36 m1 := by rw [ef_2, va_up_self]
      refine lv_iload_n hx hb dX6_chain_7 rfl (lv_at hl 1 rfl) ?_
      refine lv_aload_n hx hb dX6_chain_8 rfl (lv_at hl 0 rfl) ?_
      refine x_get (ci := 7) (C := RX6) (T := TX6) (n := 32) (ref := RX6) hx hb hts hin_7 hown hK hw 302 (by omega) c_302 rfl 17 (by decide) hf_203 (fun _ h => h) rfl dX6_chain_9 ?_
      refine n_icge (tgt := 62) hx hb dX6_chain_12 (by decide) (by omega) (by omega) (fun hc_12 => ?_) (fun hc_12 => ?_)
      · omega
      · refine lv_aload_n hx hb dX6_chain_15 rfl (lv_at hl 0 rfl) ?_
        refine lv_iload_n hx hb dX6_chain_16 rfl (lv_at hl 1 rfl) ?_
        have c_314 : f_2 314 = ai (ca 0) 200 (g 11) := by rw [ef_2, va_up_ne _ _ (by decide), va_up_ne _ _ (by decide), va_up_ne _ _ (by decide), va_up_ne _ _ (by decide), va_up_ne _ _ (by decide), va_up_ne _ _ (by decide)]; exact c_314
        have c_315 : f_2 315 = ai (ca 0) 200 (g 12) := by rw [ef_2, va_up_ne _ _ (by decide), va_up_ne _ _ (by decide), va_up_ne _ _ (by decide), va_up_ne _ _ (by decide), va_up_ne _ _ (by decide), va_up_ne _ _ (by decide)]; exact c_315
        have c_316 : f_2 316 = ai (ca 0) 200 (g 14) := by rw [ef_2, va_up_ne _ _ (by decide), va_up_ne _ _ (by decide), va_up_ne _ _ (by decide), va_up_ne _ _ (by decide), va_up_ne _ _ (by decide), va_up_ne _ _ (by decide)]; exact c_316
        have c_317 : f_2 317 = ai (ca 1) 6400 (g 15) := by rw [ef_2, va_up_ne _ _ (by decide), va_up_ne _ _ (by decide), va_up_ne _ _ (by decide), va_up_ne _ _ (by decide), va_up_ne _ _ (by decide), va_up_ne _ _ (by decide)]; exact c_317
        have c_324 : f_2 324 = ai (ca 0) 8 shR := by rw [ef_2, va_up_ne _ _ (by decide), va_up_ne _ _ (by decide), va_up_ne _ _ (by decide), va_up_ne _ _ (by decide), va_up_ne _ _ (by decide), va_up_ne _ _ (by decide)]; exact c_324
        have c_325 : f_2 325 = ai (ca 0) 64 shK := by rw [ef_2, va_up_ne _ _ (by decide), va_up_ne _ _ (by decide), va_up_ne _ _ (by decide), va_up_ne _ _ (by decide), va_up_ne _ _ (by decide), va_up_ne _ _ (by decide)]; exact c_325
        refine x_Vv (q := 302) (As := [.int (nI i)]) (rest := []) ⟨hx, hb, hml, hown, hts⟩ (k_X6_chained l D ca N ad B tR tK f_2 dd 0 (n 0) (n 1) (n 2) (g 13 0) (n 3) (n 4) (n 5) f1 (g 11) (g 12) (g 14) (g 15) b1 m1 w1 h1 v1 i c_302 c_314 c_315 c_316 c_317 c_319 c_320 c_321 c_322 c_323 c_324 c_325  (by omega) (by omega)) (cwV 1 hts gX6_chain_X6_chained rfl rfl rfl (by decide +kernel) ⟨Nat.le_of_ble_eq_true rfl, Nat.le_of_ble_eq_true rfl⟩) hK hE hB hw (by omega) c_302 rfl rfl rfl rfl hl.1 (Nat.le_of_ble_eq_true rfl) ⟨Nat.zero_le _, Nat.zero_le _⟩ dX6_chain_17 (fun f_3 H locs hp hw => ?_)
        obtain ⟨b1_5, w1_6, v1_7, h1_8, eu⟩ := hp
        have ef_3 : f_3 = va_up (va_up (va_up (va_up (va_up (va_up f_2 302 (.inr (7, mO ad 0 (n 0) (n 1) (n 2) (g 13 0) (n 3) (n 4) (n 5) 44))) 319 (ai (ca 1) 320 b1_5)) 321 (ai (ca 0) 64 w1_6)) 323 (ai (ca 0) 8 v1_7)) 322 (ai (ca 0) 8 h1_8)) 320 (ai (ca 1) 36 (mkf m1 (rowS (g 15) i ((g 11) i) ((g 12) i) ((g 14) i)) 32)) := eu
        have c_302 : f_3 302 = .inr (7, mO ad 0 (n 0) (n 1) (n 2) (g 13 0) (n 3) (n 4) (n 5) 44) := by rw [ef_3, va_up_ne _ _ (by decide), va_up_ne _ _ (by decide), va_up_ne _ _ (by decide), va_up_ne _ _ (by decide), va_up_ne _ _ (by decide), va_up_self]
        have c_319 : f_3 319 = ai (ca 1) 320 b1_5 := by rw [ef_3, va_up_ne _ _ (by decide), va_up_ne _ _ (by decide), va_up_ne _ _ (by decide), va_up_ne _ _ (by decide), va_up_self]
        have c_321 : f_3 321 = ai (ca 0) 64 w1_6 := by rw [ef_3, va_up_ne _ _ (by decide), va_up_ne _ _ (by decide), va_up_ne _ _ (by decide), va_up_self]
        have c_323 : f_3 323 = ai (ca 0) 8 v1_7 := by rw [ef_3, va_up_ne _ _ (by decide), va_up_ne _ _ (by decide), va_up_self]
        have c_322 : f_3 322 = ai (ca 0) 8 h1_8 := by rw [ef_3, va_up_ne _ _ (by decide), va_up_self]
        have c_320 : f_3 320 = ai (ca 1) 36 (mkf m1 (rowS (g 15) i ((g 11) i) ((g 12) i) ((g 14) i)) 32) := by rw [ef_3, va_up_self]
        refine lv_iconst (v := nI 0) hx hb dX6_chain_20 (by decide) ?_
        refine lv_istore_n (lv' := [(2, .int (nI 0)), (0, .ref (ad 302)), (1, .int (nI i))]) hx hb dX6_chain_21 rfl hl (by decide) rfl (fun ls hl => ?_)
        have hw : xw D vwCl N ad B s.heap (va_up (va_up (va_up (va_up (va_up (va_up f 302 (.inr (7, mO ad 0 (n 0) (n 1) (n 2) (g 13 0) (n 3) (n 4) (n 5) 44))) 319 (ai (ca 1) 320 b1_5)) 321 (ai (ca 0) 64 w1_6)) 323 (ai (ca 0) 8 v1_7)) 322 (ai (ca 0) 8 h1_8)) 320 (ai (ca 1) 36 (mkf m1 (rowS (g 15) i (g 11 i) (g 12 i) (g 14 i)) 32))) H locs := by
          have ez : f_3 = va_up (va_up (va_up (va_up (va_up (va_up f 302 (.inr (7, mO ad 0 (n 0) (n 1) (n 2) (g 13 0) (n 3) (n 4) (n 5) 44))) 319 (ai (ca 1) 320 b1_5)) 321 (ai (ca 0) 64 w1_6)) 323 (ai (ca 0) 8 v1_7)) 322 (ai (ca 0) 8 h1_8)) 320 (ai (ca 1) 36 (mkf m1 (rowS (g 15) i (g 11 i) (g 12 i) (g 14 i)) 32)) := by simp only [ef_3, ef_2, up_c6]
          rw [← ez]; exact hw
        exact P_22 33 b1_5 w1_6 v1_7 h1_8 m1 i 0 _ _ _ (by omega) (by omega) (by omega) (by omega) (by omega) (fun k hk => absurd hk (by omega)) hw (lv_sub hl [1, 2, 0] rfl)
  refine lv_aload_n hx hb dX6_chain_0 rfl (lv_at hl 0 rfl) ?_
  refine lv_iconst (v := nI 0) hx hb dX6_chain_1 (by decide) ?_
  refine x_put (ci := 7) (C := RX6) (T := TX6) (n := 32) (ref := RX6) (fs' := mO ad 0 (n 0) (n 1) (n 2) (g 13 0) (n 3) (n 4) (n 5) zn) hx hb hts hin_7 tyX6 tyX6_ok nmX6 hown hK dd hw 302 (by omega) c_302 rfl 0 (by decide) hf_160 (fun _ h => h) rfl rfl rfl (Nat.le_of_ble_eq_true rfl) rfl dX6_chain_2 (fun H locs hw => ?_)
  obtain ⟨f_9, ef_9⟩ : ∃ z, z = va_up f 302 (.inr (7, mO ad 0 (n 0) (n 1) (n 2) (g 13 0) (n 3) (n 4) (n 5) zn)) := ⟨_, rfl⟩
  have hw : xw D vwCl N ad B s.heap f_9 H locs := by rw [ef_9]; exact hw
  have c_302 : f_9 302 = .inr (7, mO ad 0 (n 0) (n 1) (n 2) (g 13 0) (n 3) (n 4) (n 5) zn) := va_up_of ef_9
  refine lv_iconst (v := nI 0) hx hb dX6_chain_5 (by decide) ?_
  refine lv_istore_n (lv' := [(1, .int (nI 0)), (0, .ref (ad 302))]) hx hb dX6_chain_6 rfl hl (by decide) rfl (fun ls hl => ?_)
  have hw : xw D vwCl N ad B s.heap (va_up (va_up (va_up (va_up (va_up (va_up f 302 (.inr (7, mO ad 0 (n 0) (n 1) (n 2) (g 13 0) (n 3) (n 4) (n 5) zn))) 319 (ai (ca 1) 320 (z 0))) 321 (ai (ca 0) 64 (z 2))) 323 (ai (ca 0) 8 (z 4))) 322 (ai (ca 0) 8 (z 3))) 320 (ai (ca 1) 36 (z 1))) H locs := by
    have ez : f_9 = va_up (va_up (va_up (va_up (va_up (va_up f 302 (.inr (7, mO ad 0 (n 0) (n 1) (n 2) (g 13 0) (n 3) (n 4) (n 5) zn))) 319 (ai (ca 1) 320 (z 0))) 321 (ai (ca 0) 64 (z 2))) 323 (ai (ca 0) 8 (z 4))) 322 (ai (ca 0) 8 (z 3))) 320 (ai (ca 1) 36 (z 1)) := by simp only [ef_9]; rw [up_noop (x := ai (ca 1) 320 (z 0)) (by rw [va_up_ne _ _ (by decide)]; exact b_319), up_noop (x := ai (ca 0) 64 (z 2)) (by rw [va_up_ne _ _ (by decide)]; exact b_321), up_noop (x := ai (ca 0) 8 (z 4)) (by rw [va_up_ne _ _ (by decide)]; exact b_323), up_noop (x := ai (ca 0) 8 (z 3)) (by rw [va_up_ne _ _ (by decide)]; exact b_322), up_noop (x := ai (ca 1) 36 (z 1)) (by rw [va_up_ne _ _ (by decide)]; exact b_320)]
    rw [← ez]; exact hw
  exact P_7 ((n 4 + 1)) zn (z 0) (z 2) (z 4) (z 3) (z 1) 0 _ _ _ (by omega) (by omega) (by omega) hw (lv_sub hl [1, 0] rfl)
