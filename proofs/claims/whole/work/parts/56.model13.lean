/-! ===== the reference: mend ===== -/
theorem up_c5 (f : Nat → va_E) (o b x y z m b' x' y' z' m' : va_E) : va_up (va_up (va_up (va_up (va_up (va_up (va_up (va_up (va_up (va_up (va_up f 302 o) 319 b) 321 x) 323 y) 322 z) 320 m) 319 b') 321 x') 323 y') 322 z') 320 m' = va_up (va_up (va_up (va_up (va_up (va_up f 302 o) 319 b') 321 x') 323 y') 322 z') 320 m' := by
  funext j
  simp only [va_up]
  by_cases h1 : j = 320
  · simp [h1]
  · by_cases h2 : j = 322
    · simp [h2]
    · by_cases h3 : j = 323
      · simp [h3]
      · by_cases h4 : j = 321
        · simp [h4]
        · by_cases h5 : j = 319
          · simp [h5]
          · simp [h1, h2, h3, h4, h5]

abbrev rmX6_mend : Room := { frames := 6, cells := 0, slots := 0, locals := 138 }

set_option maxHeartbeats 4000000 in
set_option maxRecDepth 100000 in
theorem k_X6_mend_nofile (l : Launch) (D : va_G) (ca : Nat → ClassId) (N : Nat) (ad : Nat → Nat) (B tR tK : Nat) (f : Nat → va_E) (dd : xD N ad B) (hN : 326 ≤ N) (n : Nat → Nat) (g : Nat → Nat → Int32) (z : Nat → Nat → Int32) (zn : Nat) (tb : Nat → Int32) (hR : RepM ca ad n g z zn tb f) (x : Int32) (y : Int32) (h2 : n 2 ≤ 20) (ho : x < 0 ∨ nI (n 2) ≤ x) : xMi l yX6_mend wsX6_mend rmX6_mend [.ref (ad 302), .int x, .int y] D ca N ad B tR tK f (fun r u => (-1) = r ∧ ∃ (z1 : Nat → Nat → Int32) (zn1 : Nat), RepM ca ad (va_up n 7 0) g z1 zn1 tb u ∧ ∀ y, (y < 302 ∨ 326 ≤ y) → u y = f y) := by
  refine x_open (cc := cX6_mend) (maxL := 5) (ret := (some .int)) (by decide) rfl (Nat.le_of_ble_eq_true rfl) ?_
  intro p e s m below meth c ls hx hb hml hown hts hr hlocks hnm hB hK hE hw hl
  have hown : s.vm.findClass RX6 = some m.cls := hown
  have hl : lv_has ls 5 [(0, .ref (ad 302)), (1, .int x), (2, .int y)] := hl
  obtain ⟨c_302, c_303, c_304, c_305, c_306, c_307, c_308, c_309, c_310, c_311, c_312, c_313, c_314, c_315, c_316, c_317, c_318, c_319, c_320, c_321, c_322, c_323, c_324, c_325, hzn⟩ := hR
  have hin_7 : ∀ w ∈ u_ws RX6 TX6 32, w ∈ wsX6_mend := by decide +kernel
  have hf_160 := hts (.fieldLink RX6 160 "FixityRowsModel" "thrown" "I") (by decide +kernel)
  have b_302 := c_302
  have b_303 := c_303
  have b_304 := c_304
  have b_305 := c_305
  have b_306 := c_306
  have b_307 := c_307
  have b_308 := c_308
  have b_309 := c_309
  have b_310 := c_310
  have b_311 := c_311
  have b_312 := c_312
  have b_313 := c_313
  have b_314 := c_314
  have b_315 := c_315
  have b_316 := c_316
  have b_317 := c_317
  have b_318 := c_318
  have b_319 := c_319
  have b_320 := c_320
  have b_321 := c_321
  have b_322 := c_322
  have b_323 := c_323
  have b_324 := c_324
  have b_325 := c_325
  refine lv_aload_n hx hb dX6_mend_0 rfl (lv_at hl 0 rfl) ?_
  refine lv_iconst (v := nI 0) hx hb dX6_mend_1 (by decide) ?_
  refine x_put (ci := 7) (C := RX6) (T := TX6) (n := 32) (ref := RX6) (fs' := mO ad 0 (n 0) (n 1) (n 2) (g 13 0) (n 3) (n 4) (n 5) zn) hx hb hts hin_7 tyX6 tyX6_ok nmX6 hown hK dd hw 302 (by omega) c_302 rfl 0 (by decide) hf_160 (fun _ h => h) rfl rfl rfl (Nat.le_of_ble_eq_true rfl) rfl dX6_mend_2 (fun H locs hw => ?_)
  obtain ⟨f_1, ef_1⟩ : ∃ z, z = va_up f 302 (.inr (7, mO ad 0 (n 0) (n 1) (n 2) (g 13 0) (n 3) (n 4) (n 5) zn)) := ⟨_, rfl⟩
  have hw : xw D vwCl N ad B s.heap f_1 H locs := by rw [ef_1]; exact hw
  have c_302 : f_1 302 = .inr (7, mO ad 0 (n 0) (n 1) (n 2) (g 13 0) (n 3) (n 4) (n 5) zn) := va_up_of ef_1
  refine lv_aload_n hx hb dX6_mend_5 rfl (lv_at hl 0 rfl) ?_
  refine lv_iload_n hx hb dX6_mend_6 rfl (lv_at hl 1 rfl) ?_
  have c_303 : f_1 303 = ai (ca 1) 200 (g 0) := by rw [ef_1, va_up_ne _ _ (by decide)]; exact c_303
  have c_304 : f_1 304 = ai (ca 1) 4000 (g 1) := by rw [ef_1, va_up_ne _ _ (by decide)]; exact c_304
  have c_305 : f_1 305 = ai (ca 0) 20 (g 2) := by rw [ef_1, va_up_ne _ _ (by decide)]; exact c_305
  have c_306 : f_1 306 = ai (ca 0) 20 (g 3) := by rw [ef_1, va_up_ne _ _ (by decide)]; exact c_306
  have c_307 : f_1 307 = ai (ca 1) 720 (g 4) := by rw [ef_1, va_up_ne _ _ (by decide)]; exact c_307
  have c_308 : f_1 308 = ai (ca 0) 20 (g 5) := by rw [ef_1, va_up_ne _ _ (by decide)]; exact c_308
  have c_309 : f_1 309 = ai (ca 0) 20 (g 6) := by rw [ef_1, va_up_ne _ _ (by decide)]; exact c_309
  have c_310 : f_1 310 = ai (ca 0) 20 (g 7) := by rw [ef_1, va_up_ne _ _ (by decide)]; exact c_310
  have c_311 : f_1 311 = ai (ca 0) 20 (g 8) := by rw [ef_1, va_up_ne _ _ (by decide)]; exact c_311
  have c_312 : f_1 312 = ai (ca 0) 20 (g 9) := by rw [ef_1, va_up_ne _ _ (by decide)]; exact c_312
  have c_313 : f_1 313 = ai (ca 2) 20 (g 10) := by rw [ef_1, va_up_ne _ _ (by decide)]; exact c_313
  have c_314 : f_1 314 = ai (ca 0) 200 (g 11) := by rw [ef_1, va_up_ne _ _ (by decide)]; exact c_314
  have c_315 : f_1 315 = ai (ca 0) 200 (g 12) := by rw [ef_1, va_up_ne _ _ (by decide)]; exact c_315
  have c_316 : f_1 316 = ai (ca 0) 200 (g 14) := by rw [ef_1, va_up_ne _ _ (by decide)]; exact c_316
  have c_317 : f_1 317 = ai (ca 1) 6400 (g 15) := by rw [ef_1, va_up_ne _ _ (by decide)]; exact c_317
  have c_318 : f_1 318 = ai (ca 1) 32 (g 16) := by rw [ef_1, va_up_ne _ _ (by decide)]; exact c_318
  have c_319 : f_1 319 = ai (ca 1) 320 (z 0) := by rw [ef_1, va_up_ne _ _ (by decide)]; exact c_319
  have c_320 : f_1 320 = ai (ca 1) 36 (z 1) := by rw [ef_1, va_up_ne _ _ (by decide)]; exact c_320
  have c_321 : f_1 321 = ai (ca 0) 64 (z 2) := by rw [ef_1, va_up_ne _ _ (by decide)]; exact c_321
  have c_322 : f_1 322 = ai (ca 0) 8 (z 3) := by rw [ef_1, va_up_ne _ _ (by decide)]; exact c_322
  have c_323 : f_1 323 = ai (ca 0) 8 (z 4) := by rw [ef_1, va_up_ne _ _ (by decide)]; exact c_323
  have c_324 : f_1 324 = ai (ca 0) 8 shR := by rw [ef_1, va_up_ne _ _ (by decide)]; exact c_324
  have c_325 : f_1 325 = ai (ca 0) 64 shK := by rw [ef_1, va_up_ne _ _ (by decide)]; exact c_325
  have qn_0 : (va_up n 7 0) 0 = n 0 := by rw [va_up_ne _ _ (by decide)]
  have qn_1 : (va_up n 7 0) 1 = n 1 := by rw [va_up_ne _ _ (by decide)]
  have qn_2 : (va_up n 7 0) 2 = n 2 := by rw [va_up_ne _ _ (by decide)]
  have qn_3 : (va_up n 7 0) 3 = n 3 := by rw [va_up_ne _ _ (by decide)]
  have qn_4 : (va_up n 7 0) 4 = n 4 := by rw [va_up_ne _ _ (by decide)]
  have qn_5 : (va_up n 7 0) 5 = n 5 := by rw [va_up_ne _ _ (by decide)]
  have qn_6 : (va_up n 7 0) 6 = n 6 := by rw [va_up_ne _ _ (by decide)]
  have qn_7 : (va_up n 7 0) 7 = 0 := by rw [va_up_self]
  have hRk : RepM ca ad (va_up n 7 0) g z zn tb f_1 := ⟨(by rw [qn_7, qn_0, qn_1, qn_2, qn_3, qn_4, qn_5]; exact c_302),
        c_303,
        c_304,
        c_305,
        c_306,
        c_307,
        c_308,
        c_309,
        c_310,
        c_311,
        c_312,
        c_313,
        c_314,
        c_315,
        c_316,
        c_317,
        c_318,
        c_319,
        c_320,
        c_321,
        c_322,
        c_323,
        c_324,
        c_325, hzn⟩
  have hfr : ∀ y, (y < 302 ∨ 326 ≤ y) → f_1 y = f y := (fun y hy => by rw [ef_1, va_up_ne _ _ (by omega)])
  refine x_Vi (q := 302) (As := [.int x]) (rest := []) ⟨hx, hb, hml, hown, hts⟩ (k_X6_isFile_no l D ca N ad B tR tK f_1 dd hN (va_up n 7 0) g z zn tb hRk x (by omega) ho) (cwV 1 hts gX6_mend_X6_isFile rfl rfl rfl (by decide +kernel) ⟨Nat.le_of_ble_eq_true rfl, Nat.le_of_ble_eq_true rfl⟩) hK hE hB hw (by omega) c_302 rfl rfl rfl rfl hl.1 (Nat.le_of_ble_eq_true rfl) ⟨Nat.zero_le _, Nat.zero_le _⟩ dX6_mend_7 (fun r_3 f_2 H locs hp hw => ?_)
  obtain ⟨er, hp⟩ := hp
  rw [← er]
  rw [← hp] at hw
  refine lv_if_ne (tgt := 15) hx hb dX6_mend_10 (by decide) (fun h => False.elim (h (by decide))) (fun _ => ?_)
  refine lv_iconst (v := (-1)) hx hb dX6_mend_13 (by decide) ?_
  have qn_0 : (va_up n 7 0) 0 = n 0 := by rw [va_up_ne _ _ (by decide)]
  have qn_1 : (va_up n 7 0) 1 = n 1 := by rw [va_up_ne _ _ (by decide)]
  have qn_2 : (va_up n 7 0) 2 = n 2 := by rw [va_up_ne _ _ (by decide)]
  have qn_3 : (va_up n 7 0) 3 = n 3 := by rw [va_up_ne _ _ (by decide)]
  have qn_4 : (va_up n 7 0) 4 = n 4 := by rw [va_up_ne _ _ (by decide)]
  have qn_5 : (va_up n 7 0) 5 = n 5 := by rw [va_up_ne _ _ (by decide)]
  have qn_6 : (va_up n 7 0) 6 = n 6 := by rw [va_up_ne _ _ (by decide)]
  have qn_7 : (va_up n 7 0) 7 = 0 := by rw [va_up_self]
  have hRz : RepM ca ad (va_up n 7 0) g z zn tb f_1 := ⟨(by rw [qn_7, qn_0, qn_1, qn_2, qn_3, qn_4, qn_5]; exact c_302),
        c_303,
        c_304,
        c_305,
        c_306,
        c_307,
        c_308,
        c_309,
        c_310,
        c_311,
        c_312,
        c_313,
        c_314,
        c_315,
        c_316,
        c_317,
        c_318,
        c_319,
        c_320,
        c_321,
        c_322,
        c_323,
        c_324,
        c_325, hzn⟩
  exact x_iret hx hb hr hlocks hw ⟨rfl, z, zn, hRz, (fun y hy => by rw [ef_1, va_up_ne _ _ (by omega)])⟩ dX6_mend_14

set_option maxHeartbeats 4000000 in
set_option maxRecDepth 100000 in
theorem k_X6_mend_day (l : Launch) (D : va_G) (ca : Nat → ClassId) (N : Nat) (ad : Nat → Nat) (B tR tK : Nat) (f : Nat → va_E) (dd : xD N ad B) (hN : 326 ≤ N) (n : Nat → Nat) (g : Nat → Nat → Int32) (z : Nat → Nat → Int32) (zn : Nat) (tb : Nat → Int32) (hR : RepM ca ad n g z zn tb f) (i : Nat) (y : Int32) (h2 : n 2 ≤ 20) (hi : i < n 2) (ho : y < 0 ∨ nI 1000000 < y) : xMi l yX6_mend wsX6_mend rmX6_mend [.ref (ad 302), .int (nI i), .int y] D ca N ad B tR tK f (fun r u => (-2) = r ∧ ∃ (z1 : Nat → Nat → Int32) (zn1 : Nat), RepM ca ad (va_up n 7 0) g z1 zn1 tb u ∧ ∀ y, (y < 302 ∨ 326 ≤ y) → u y = f y) := by
  refine x_open (cc := cX6_mend) (maxL := 5) (ret := (some .int)) (by decide) rfl (Nat.le_of_ble_eq_true rfl) ?_
  intro p e s m below meth c ls hx hb hml hown hts hr hlocks hnm hB hK hE hw hl
  have hown : s.vm.findClass RX6 = some m.cls := hown
  have hl : lv_has ls 5 [(0, .ref (ad 302)), (1, .int (nI i)), (2, .int y)] := hl
  obtain ⟨c_302, c_303, c_304, c_305, c_306, c_307, c_308, c_309, c_310, c_311, c_312, c_313, c_314, c_315, c_316, c_317, c_318, c_319, c_320, c_321, c_322, c_323, c_324, c_325, hzn⟩ := hR
  have hin_7 : ∀ w ∈ u_ws RX6 TX6 32, w ∈ wsX6_mend := by decide +kernel
  have hf_160 := hts (.fieldLink RX6 160 "FixityRowsModel" "thrown" "I") (by decide +kernel)
  have b_302 := c_302
  have b_303 := c_303
  have b_304 := c_304
  have b_305 := c_305
  have b_306 := c_306
  have b_307 := c_307
  have b_308 := c_308
  have b_309 := c_309
  have b_310 := c_310
  have b_311 := c_311
  have b_312 := c_312
  have b_313 := c_313
  have b_314 := c_314
  have b_315 := c_315
  have b_316 := c_316
  have b_317 := c_317
  have b_318 := c_318
  have b_319 := c_319
  have b_320 := c_320
  have b_321 := c_321
  have b_322 := c_322
  have b_323 := c_323
  have b_324 := c_324
  have b_325 := c_325
  refine lv_aload_n hx hb dX6_mend_0 rfl (lv_at hl 0 rfl) ?_
  refine lv_iconst (v := nI 0) hx hb dX6_mend_1 (by decide) ?_
  refine x_put (ci := 7) (C := RX6) (T := TX6) (n := 32) (ref := RX6) (fs' := mO ad 0 (n 0) (n 1) (n 2) (g 13 0) (n 3) (n 4) (n 5) zn) hx hb hts hin_7 tyX6 tyX6_ok nmX6 hown hK dd hw 302 (by omega) c_302 rfl 0 (by decide) hf_160 (fun _ h => h) rfl rfl rfl (Nat.le_of_ble_eq_true rfl) rfl dX6_mend_2 (fun H locs hw => ?_)
  obtain ⟨f_1, ef_1⟩ : ∃ z, z = va_up f 302 (.inr (7, mO ad 0 (n 0) (n 1) (n 2) (g 13 0) (n 3) (n 4) (n 5) zn)) := ⟨_, rfl⟩
  have hw : xw D vwCl N ad B s.heap f_1 H locs := by rw [ef_1]; exact hw
  have c_302 : f_1 302 = .inr (7, mO ad 0 (n 0) (n 1) (n 2) (g 13 0) (n 3) (n 4) (n 5) zn) := va_up_of ef_1
  refine lv_aload_n hx hb dX6_mend_5 rfl (lv_at hl 0 rfl) ?_
  refine lv_iload_n hx hb dX6_mend_6 rfl (lv_at hl 1 rfl) ?_
  have c_303 : f_1 303 = ai (ca 1) 200 (g 0) := by rw [ef_1, va_up_ne _ _ (by decide)]; exact c_303
  have c_304 : f_1 304 = ai (ca 1) 4000 (g 1) := by rw [ef_1, va_up_ne _ _ (by decide)]; exact c_304
  have c_305 : f_1 305 = ai (ca 0) 20 (g 2) := by rw [ef_1, va_up_ne _ _ (by decide)]; exact c_305
  have c_306 : f_1 306 = ai (ca 0) 20 (g 3) := by rw [ef_1, va_up_ne _ _ (by decide)]; exact c_306
  have c_307 : f_1 307 = ai (ca 1) 720 (g 4) := by rw [ef_1, va_up_ne _ _ (by decide)]; exact c_307
  have c_308 : f_1 308 = ai (ca 0) 20 (g 5) := by rw [ef_1, va_up_ne _ _ (by decide)]; exact c_308
  have c_309 : f_1 309 = ai (ca 0) 20 (g 6) := by rw [ef_1, va_up_ne _ _ (by decide)]; exact c_309
  have c_310 : f_1 310 = ai (ca 0) 20 (g 7) := by rw [ef_1, va_up_ne _ _ (by decide)]; exact c_310
  have c_311 : f_1 311 = ai (ca 0) 20 (g 8) := by rw [ef_1, va_up_ne _ _ (by decide)]; exact c_311
  have c_312 : f_1 312 = ai (ca 0) 20 (g 9) := by rw [ef_1, va_up_ne _ _ (by decide)]; exact c_312
  have c_313 : f_1 313 = ai (ca 2) 20 (g 10) := by rw [ef_1, va_up_ne _ _ (by decide)]; exact c_313
  have c_314 : f_1 314 = ai (ca 0) 200 (g 11) := by rw [ef_1, va_up_ne _ _ (by decide)]; exact c_314
  have c_315 : f_1 315 = ai (ca 0) 200 (g 12) := by rw [ef_1, va_up_ne _ _ (by decide)]; exact c_315
  have c_316 : f_1 316 = ai (ca 0) 200 (g 14) := by rw [ef_1, va_up_ne _ _ (by decide)]; exact c_316
  have c_317 : f_1 317 = ai (ca 1) 6400 (g 15) := by rw [ef_1, va_up_ne _ _ (by decide)]; exact c_317
  have c_318 : f_1 318 = ai (ca 1) 32 (g 16) := by rw [ef_1, va_up_ne _ _ (by decide)]; exact c_318
  have c_319 : f_1 319 = ai (ca 1) 320 (z 0) := by rw [ef_1, va_up_ne _ _ (by decide)]; exact c_319
  have c_320 : f_1 320 = ai (ca 1) 36 (z 1) := by rw [ef_1, va_up_ne _ _ (by decide)]; exact c_320
  have c_321 : f_1 321 = ai (ca 0) 64 (z 2) := by rw [ef_1, va_up_ne _ _ (by decide)]; exact c_321
  have c_322 : f_1 322 = ai (ca 0) 8 (z 3) := by rw [ef_1, va_up_ne _ _ (by decide)]; exact c_322
  have c_323 : f_1 323 = ai (ca 0) 8 (z 4) := by rw [ef_1, va_up_ne _ _ (by decide)]; exact c_323
  have c_324 : f_1 324 = ai (ca 0) 8 shR := by rw [ef_1, va_up_ne _ _ (by decide)]; exact c_324
  have c_325 : f_1 325 = ai (ca 0) 64 shK := by rw [ef_1, va_up_ne _ _ (by decide)]; exact c_325
  have qn_0 : (va_up n 7 0) 0 = n 0 := by rw [va_up_ne _ _ (by decide)]
  have qn_1 : (va_up n 7 0) 1 = n 1 := by rw [va_up_ne _ _ (by decide)]
  have qn_2 : (va_up n 7 0) 2 = n 2 := by rw [va_up_ne _ _ (by decide)]
  have qn_3 : (va_up n 7 0) 3 = n 3 := by rw [va_up_ne _ _ (by decide)]
  have qn_4 : (va_up n 7 0) 4 = n 4 := by rw [va_up_ne _ _ (by decide)]
  have qn_5 : (va_up n 7 0) 5 = n 5 := by rw [va_up_ne _ _ (by decide)]
  have qn_6 : (va_up n 7 0) 6 = n 6 := by rw [va_up_ne _ _ (by decide)]
  have qn_7 : (va_up n 7 0) 7 = 0 := by rw [va_up_self]
  have hRk : RepM ca ad (va_up n 7 0) g z zn tb f_1 := ⟨(by rw [qn_7, qn_0, qn_1, qn_2, qn_3, qn_4, qn_5]; exact c_302),
        c_303,
        c_304,
        c_305,
        c_306,
        c_307,
        c_308,
        c_309,
        c_310,
        c_311,
        c_312,
        c_313,
        c_314,
        c_315,
        c_316,
        c_317,
        c_318,
        c_319,
        c_320,
        c_321,
        c_322,
        c_323,
        c_324,
        c_325, hzn⟩
  have hfr : ∀ y, (y < 302 ∨ 326 ≤ y) → f_1 y = f y := (fun y hy => by rw [ef_1, va_up_ne _ _ (by omega)])
  refine x_Vi (q := 302) (As := [.int (nI i)]) (rest := []) ⟨hx, hb, hml, hown, hts⟩ (k_X6_isFile_yes l D ca N ad B tR tK f_1 dd hN (va_up n 7 0) g z zn tb hRk i (by omega) (by omega)) (cwV 1 hts gX6_mend_X6_isFile rfl rfl rfl (by decide +kernel) ⟨Nat.le_of_ble_eq_true rfl, Nat.le_of_ble_eq_true rfl⟩) hK hE hB hw (by omega) c_302 rfl rfl rfl rfl hl.1 (Nat.le_of_ble_eq_true rfl) ⟨Nat.zero_le _, Nat.zero_le _⟩ dX6_mend_7 (fun r_3 f_2 H locs hp hw => ?_)
  obtain ⟨er, hp⟩ := hp
  rw [← er]
  rw [← hp] at hw
  refine lv_if_ne (tgt := 15) hx hb dX6_mend_10 (by decide) (fun _ => ?_) (fun h => absurd h (by decide))
  refine lv_iload_n hx hb dX6_mend_15 rfl (lv_at hl 2 rfl) ?_
  refine x_Si (As := [.int y]) (rest := []) ⟨hx, hb, hml, hown, hts⟩ (k_X6_isDay_no l D ca N ad B tR tK f_1 dd y   ho) (va_cwS 1 hts gX6_mend_X6_isDay rfl rfl rfl (by decide +kernel) ⟨Nat.le_of_ble_eq_true rfl, Nat.le_of_ble_eq_true rfl⟩) hK hE hB hw rfl rfl hl.1 (Nat.le_of_ble_eq_true rfl) ⟨Nat.zero_le _, Nat.zero_le _⟩ dX6_mend_16 (fun r_5 f_4 H locs hp hw => ?_)
  obtain ⟨er, eu⟩ := hp
  rw [← er]
  rw [← eu] at hw
  refine lv_if_ne (tgt := 25) hx hb dX6_mend_19 (by decide) (fun h => False.elim (h (by decide))) (fun _ => ?_)
  refine lv_bipush (v := (-2)) hx hb dX6_mend_22 (by decide) ?_
  have qn_0 : (va_up n 7 0) 0 = n 0 := by rw [va_up_ne _ _ (by decide)]
  have qn_1 : (va_up n 7 0) 1 = n 1 := by rw [va_up_ne _ _ (by decide)]
  have qn_2 : (va_up n 7 0) 2 = n 2 := by rw [va_up_ne _ _ (by decide)]
  have qn_3 : (va_up n 7 0) 3 = n 3 := by rw [va_up_ne _ _ (by decide)]
  have qn_4 : (va_up n 7 0) 4 = n 4 := by rw [va_up_ne _ _ (by decide)]
  have qn_5 : (va_up n 7 0) 5 = n 5 := by rw [va_up_ne _ _ (by decide)]
  have qn_6 : (va_up n 7 0) 6 = n 6 := by rw [va_up_ne _ _ (by decide)]
  have qn_7 : (va_up n 7 0) 7 = 0 := by rw [va_up_self]
  have hRz : RepM ca ad (va_up n 7 0) g z zn tb f_1 := ⟨(by rw [qn_7, qn_0, qn_1, qn_2, qn_3, qn_4, qn_5]; exact c_302),
        c_303,
        c_304,
        c_305,
        c_306,
        c_307,
        c_308,
        c_309,
        c_310,
        c_311,
        c_312,
        c_313,
        c_314,
        c_315,
        c_316,
        c_317,
        c_318,
        c_319,
        c_320,
        c_321,
        c_322,
        c_323,
        c_324,
        c_325, hzn⟩
  exact x_iret hx hb hr hlocks hw ⟨rfl, z, zn, hRz, (fun y hy => by rw [ef_1, va_up_ne _ _ (by omega)])⟩ dX6_mend_24

set_option maxHeartbeats 4000000 in
set_option maxRecDepth 100000 in
theorem k_X6_mend_state (l : Launch) (D : va_G) (ca : Nat → ClassId) (N : Nat) (ad : Nat → Nat) (B tR tK : Nat) (f : Nat → va_E) (dd : xD N ad B) (hN : 326 ≤ N) (n : Nat → Nat) (g : Nat → Nat → Int32) (z : Nat → Nat → Int32) (zn : Nat) (tb : Nat → Int32) (hR : RepM ca ad n g z zn tb f) (i : Nat) (j : Nat) (h2 : n 2 ≤ 20) (hi : i < n 2) (hj : j ≤ 1000000) (hsz : ∀ i, i < 20 → zN g i ≤ 200 ∧ g 2 i = nI (zN g i)) (hf : mFit g i i (zN g i)) : xMi l yX6_mend wsX6_mend rmX6_mend [.ref (ad 302), .int (nI i), .int (nI j)] D ca N ad B tR tK f (fun r u => (-3) = r ∧ ∃ (z1 : Nat → Nat → Int32) (zn1 : Nat), RepM ca ad (va_up n 7 0) g z1 zn1 tb u ∧ ∀ y, (y < 302 ∨ 326 ≤ y) → u y = f y) := by
  refine x_open (cc := cX6_mend) (maxL := 5) (ret := (some .int)) (by decide) rfl (Nat.le_of_ble_eq_true rfl) ?_
  intro p e s m below meth c ls hx hb hml hown hts hr hlocks hnm hB hK hE hw hl
  have hown : s.vm.findClass RX6 = some m.cls := hown
  have hl : lv_has ls 5 [(0, .ref (ad 302)), (1, .int (nI i)), (2, .int (nI j))] := hl
  obtain ⟨c_302, c_303, c_304, c_305, c_306, c_307, c_308, c_309, c_310, c_311, c_312, c_313, c_314, c_315, c_316, c_317, c_318, c_319, c_320, c_321, c_322, c_323, c_324, c_325, hzn⟩ := hR
  have hin_7 : ∀ w ∈ u_ws RX6 TX6 32, w ∈ wsX6_mend := by decide +kernel
  have hf_160 := hts (.fieldLink RX6 160 "FixityRowsModel" "thrown" "I") (by decide +kernel)
  have b_302 := c_302
  have b_303 := c_303
  have b_304 := c_304
  have b_305 := c_305
  have b_306 := c_306
  have b_307 := c_307
  have b_308 := c_308
  have b_309 := c_309
  have b_310 := c_310
  have b_311 := c_311
  have b_312 := c_312
  have b_313 := c_313
  have b_314 := c_314
  have b_315 := c_315
  have b_316 := c_316
  have b_317 := c_317
  have b_318 := c_318
  have b_319 := c_319
  have b_320 := c_320
  have b_321 := c_321
  have b_322 := c_322
  have b_323 := c_323
  have b_324 := c_324
  have b_325 := c_325
  refine lv_aload_n hx hb dX6_mend_0 rfl (lv_at hl 0 rfl) ?_
  refine lv_iconst (v := nI 0) hx hb dX6_mend_1 (by decide) ?_
  refine x_put (ci := 7) (C := RX6) (T := TX6) (n := 32) (ref := RX6) (fs' := mO ad 0 (n 0) (n 1) (n 2) (g 13 0) (n 3) (n 4) (n 5) zn) hx hb hts hin_7 tyX6 tyX6_ok nmX6 hown hK dd hw 302 (by omega) c_302 rfl 0 (by decide) hf_160 (fun _ h => h) rfl rfl rfl (Nat.le_of_ble_eq_true rfl) rfl dX6_mend_2 (fun H locs hw => ?_)
  obtain ⟨f_1, ef_1⟩ : ∃ z, z = va_up f 302 (.inr (7, mO ad 0 (n 0) (n 1) (n 2) (g 13 0) (n 3) (n 4) (n 5) zn)) := ⟨_, rfl⟩
  have hw : xw D vwCl N ad B s.heap f_1 H locs := by rw [ef_1]; exact hw
  have c_302 : f_1 302 = .inr (7, mO ad 0 (n 0) (n 1) (n 2) (g 13 0) (n 3) (n 4) (n 5) zn) := va_up_of ef_1
  refine lv_aload_n hx hb dX6_mend_5 rfl (lv_at hl 0 rfl) ?_
  refine lv_iload_n hx hb dX6_mend_6 rfl (lv_at hl 1 rfl) ?_
  have c_303 : f_1 303 = ai (ca 1) 200 (g 0) := by rw [ef_1, va_up_ne _ _ (by decide)]; exact c_303
  have c_304 : f_1 304 = ai (ca 1) 4000 (g 1) := by rw [ef_1, va_up_ne _ _ (by decide)]; exact c_304
  have c_305 : f_1 305 = ai (ca 0) 20 (g 2) := by rw [ef_1, va_up_ne _ _ (by decide)]; exact c_305
  have c_306 : f_1 306 = ai (ca 0) 20 (g 3) := by rw [ef_1, va_up_ne _ _ (by decide)]; exact c_306
  have c_307 : f_1 307 = ai (ca 1) 720 (g 4) := by rw [ef_1, va_up_ne _ _ (by decide)]; exact c_307
  have c_308 : f_1 308 = ai (ca 0) 20 (g 5) := by rw [ef_1, va_up_ne _ _ (by decide)]; exact c_308
  have c_309 : f_1 309 = ai (ca 0) 20 (g 6) := by rw [ef_1, va_up_ne _ _ (by decide)]; exact c_309
  have c_310 : f_1 310 = ai (ca 0) 20 (g 7) := by rw [ef_1, va_up_ne _ _ (by decide)]; exact c_310
  have c_311 : f_1 311 = ai (ca 0) 20 (g 8) := by rw [ef_1, va_up_ne _ _ (by decide)]; exact c_311
  have c_312 : f_1 312 = ai (ca 0) 20 (g 9) := by rw [ef_1, va_up_ne _ _ (by decide)]; exact c_312
  have c_313 : f_1 313 = ai (ca 2) 20 (g 10) := by rw [ef_1, va_up_ne _ _ (by decide)]; exact c_313
  have c_314 : f_1 314 = ai (ca 0) 200 (g 11) := by rw [ef_1, va_up_ne _ _ (by decide)]; exact c_314
  have c_315 : f_1 315 = ai (ca 0) 200 (g 12) := by rw [ef_1, va_up_ne _ _ (by decide)]; exact c_315
  have c_316 : f_1 316 = ai (ca 0) 200 (g 14) := by rw [ef_1, va_up_ne _ _ (by decide)]; exact c_316
  have c_317 : f_1 317 = ai (ca 1) 6400 (g 15) := by rw [ef_1, va_up_ne _ _ (by decide)]; exact c_317
  have c_318 : f_1 318 = ai (ca 1) 32 (g 16) := by rw [ef_1, va_up_ne _ _ (by decide)]; exact c_318
  have c_319 : f_1 319 = ai (ca 1) 320 (z 0) := by rw [ef_1, va_up_ne _ _ (by decide)]; exact c_319
  have c_320 : f_1 320 = ai (ca 1) 36 (z 1) := by rw [ef_1, va_up_ne _ _ (by decide)]; exact c_320
  have c_321 : f_1 321 = ai (ca 0) 64 (z 2) := by rw [ef_1, va_up_ne _ _ (by decide)]; exact c_321
  have c_322 : f_1 322 = ai (ca 0) 8 (z 3) := by rw [ef_1, va_up_ne _ _ (by decide)]; exact c_322
  have c_323 : f_1 323 = ai (ca 0) 8 (z 4) := by rw [ef_1, va_up_ne _ _ (by decide)]; exact c_323
  have c_324 : f_1 324 = ai (ca 0) 8 shR := by rw [ef_1, va_up_ne _ _ (by decide)]; exact c_324
  have c_325 : f_1 325 = ai (ca 0) 64 shK := by rw [ef_1, va_up_ne _ _ (by decide)]; exact c_325
  have qn_0 : (va_up n 7 0) 0 = n 0 := by rw [va_up_ne _ _ (by decide)]
  have qn_1 : (va_up n 7 0) 1 = n 1 := by rw [va_up_ne _ _ (by decide)]
  have qn_2 : (va_up n 7 0) 2 = n 2 := by rw [va_up_ne _ _ (by decide)]
  have qn_3 : (va_up n 7 0) 3 = n 3 := by rw [va_up_ne _ _ (by decide)]
  have qn_4 : (va_up n 7 0) 4 = n 4 := by rw [va_up_ne _ _ (by decide)]
  have qn_5 : (va_up n 7 0) 5 = n 5 := by rw [va_up_ne _ _ (by decide)]
  have qn_6 : (va_up n 7 0) 6 = n 6 := by rw [va_up_ne _ _ (by decide)]
  have qn_7 : (va_up n 7 0) 7 = 0 := by rw [va_up_self]
  have hRk : RepM ca ad (va_up n 7 0) g z zn tb f_1 := ⟨(by rw [qn_7, qn_0, qn_1, qn_2, qn_3, qn_4, qn_5]; exact c_302),
        c_303,
        c_304,
        c_305,
        c_306,
        c_307,
        c_308,
        c_309,
        c_310,
        c_311,
        c_312,
        c_313,
        c_314,
        c_315,
        c_316,
        c_317,
        c_318,
        c_319,
        c_320,
        c_321,
        c_322,
        c_323,
        c_324,
        c_325, hzn⟩
  have hfr : ∀ y, (y < 302 ∨ 326 ≤ y) → f_1 y = f y := (fun y hy => by rw [ef_1, va_up_ne _ _ (by omega)])
  refine x_Vi (q := 302) (As := [.int (nI i)]) (rest := []) ⟨hx, hb, hml, hown, hts⟩ (k_X6_isFile_yes l D ca N ad B tR tK f_1 dd hN (va_up n 7 0) g z zn tb hRk i (by omega) (by omega)) (cwV 1 hts gX6_mend_X6_isFile rfl rfl rfl (by decide +kernel) ⟨Nat.le_of_ble_eq_true rfl, Nat.le_of_ble_eq_true rfl⟩) hK hE hB hw (by omega) c_302 rfl rfl rfl rfl hl.1 (Nat.le_of_ble_eq_true rfl) ⟨Nat.zero_le _, Nat.zero_le _⟩ dX6_mend_7 (fun r_3 f_2 H locs hp hw => ?_)
  obtain ⟨er, hp⟩ := hp
  rw [← er]
  rw [← hp] at hw
  refine lv_if_ne (tgt := 15) hx hb dX6_mend_10 (by decide) (fun _ => ?_) (fun h => absurd h (by decide))
  refine lv_iload_n hx hb dX6_mend_15 rfl (lv_at hl 2 rfl) ?_
  refine x_Si (As := [.int (nI j)]) (rest := []) ⟨hx, hb, hml, hown, hts⟩ (k_X6_isDay_yes l D ca N ad B tR tK f_1 dd j   (by omega)) (va_cwS 1 hts gX6_mend_X6_isDay rfl rfl rfl (by decide +kernel) ⟨Nat.le_of_ble_eq_true rfl, Nat.le_of_ble_eq_true rfl⟩) hK hE hB hw rfl rfl hl.1 (Nat.le_of_ble_eq_true rfl) ⟨Nat.zero_le _, Nat.zero_le _⟩ dX6_mend_16 (fun r_5 f_4 H locs hp hw => ?_)
  obtain ⟨er, eu⟩ := hp
  rw [← er]
  rw [← eu] at hw
  refine lv_if_ne (tgt := 25) hx hb dX6_mend_19 (by decide) (fun _ => ?_) (fun h => absurd h (by decide))
  refine lv_aload_n hx hb dX6_mend_25 rfl (lv_at hl 0 rfl) ?_
  refine lv_iload_n hx hb dX6_mend_26 rfl (lv_at hl 1 rfl) ?_
  refine x_Vi (q := 302) (As := [.int (nI i)]) (rest := []) ⟨hx, hb, hml, hown, hts⟩ (k_X6_fits l D ca N ad B tR tK f_1 dd 0 (n 0) (n 1) (n 2) (g 13 0) (n 3) (n 4) (n 5) zn (g 3) (g 4) (z 0) (z 1) (z 2) (z 3) (z 4) (g 1) (g 2) i (zN g i) c_302 c_306 c_307 c_319 c_320 c_321 c_322 c_323 c_324 c_325 c_304 c_305  (by omega) (by omega) (hsz i (by omega)).2 (hsz i (by omega)).1) (cwV 1 hts gX6_mend_X6_fits rfl rfl rfl (by decide +kernel) ⟨Nat.le_of_ble_eq_true rfl, Nat.le_of_ble_eq_true rfl⟩) hK hE hB hw (by omega) c_302 rfl rfl rfl rfl hl.1 (Nat.le_of_ble_eq_true rfl) ⟨Nat.zero_le _, Nat.zero_le _⟩ dX6_mend_27 (fun r_7 f_6 H locs hp hw => ?_)
  obtain ⟨b1_8, w1_9, v1_10, h1_11, m1_12, hq_13, er, eu⟩ := hp
  rw [← er]
  have ef_6 : f_6 = va_up (va_up (va_up (va_up (va_up (va_up f_1 302 (.inr (7, mO ad 0 (n 0) (n 1) (n 2) (g 13 0) (n 3) (n 4) (n 5) (zN g i)))) 319 (ai (ca 1) 320 b1_8)) 321 (ai (ca 0) 64 w1_9)) 323 (ai (ca 0) 8 v1_10)) 322 (ai (ca 0) 8 h1_11)) 320 (ai (ca 1) 36 m1_12) := eu
  have c_302 : f_6 302 = .inr (7, mO ad 0 (n 0) (n 1) (n 2) (g 13 0) (n 3) (n 4) (n 5) (zN g i)) := by rw [ef_6, va_up_ne _ _ (by decide), va_up_ne _ _ (by decide), va_up_ne _ _ (by decide), va_up_ne _ _ (by decide), va_up_ne _ _ (by decide), va_up_self]
  have c_319 : f_6 319 = ai (ca 1) 320 b1_8 := by rw [ef_6, va_up_ne _ _ (by decide), va_up_ne _ _ (by decide), va_up_ne _ _ (by decide), va_up_ne _ _ (by decide), va_up_self]
  have c_321 : f_6 321 = ai (ca 0) 64 w1_9 := by rw [ef_6, va_up_ne _ _ (by decide), va_up_ne _ _ (by decide), va_up_ne _ _ (by decide), va_up_self]
  have c_323 : f_6 323 = ai (ca 0) 8 v1_10 := by rw [ef_6, va_up_ne _ _ (by decide), va_up_ne _ _ (by decide), va_up_self]
  have c_322 : f_6 322 = ai (ca 0) 8 h1_11 := by rw [ef_6, va_up_ne _ _ (by decide), va_up_self]
  have c_320 : f_6 320 = ai (ca 1) 36 m1_12 := by rw [ef_6, va_up_self]
  have hz27 := (hsz i (by omega)).1
  rw [bI_t (show hasM (g 4) i (sha (zN g i) (fun x => g 1 (200 * i + x) &&& nI 255)) (crM (fun x => g 1 (200 * i + x)) (zN g i) ^^^ (-1)) (g 3 i) from hf)]
  refine lv_if_eq (tgt := 36) hx hb dX6_mend_30 (by decide) (fun h => absurd h (by decide)) (fun _ => ?_)
  refine lv_bipush (v := (-3)) hx hb dX6_mend_33 (by decide) ?_
  have c_303 : f_6 303 = ai (ca 1) 200 (g 0) := by rw [ef_6, va_up_ne _ _ (by decide), va_up_ne _ _ (by decide), va_up_ne _ _ (by decide), va_up_ne _ _ (by decide), va_up_ne _ _ (by decide), va_up_ne _ _ (by decide)]; exact c_303
  have c_304 : f_6 304 = ai (ca 1) 4000 (g 1) := by rw [ef_6, va_up_ne _ _ (by decide), va_up_ne _ _ (by decide), va_up_ne _ _ (by decide), va_up_ne _ _ (by decide), va_up_ne _ _ (by decide), va_up_ne _ _ (by decide)]; exact c_304
  have c_305 : f_6 305 = ai (ca 0) 20 (g 2) := by rw [ef_6, va_up_ne _ _ (by decide), va_up_ne _ _ (by decide), va_up_ne _ _ (by decide), va_up_ne _ _ (by decide), va_up_ne _ _ (by decide), va_up_ne _ _ (by decide)]; exact c_305
  have c_306 : f_6 306 = ai (ca 0) 20 (g 3) := by rw [ef_6, va_up_ne _ _ (by decide), va_up_ne _ _ (by decide), va_up_ne _ _ (by decide), va_up_ne _ _ (by decide), va_up_ne _ _ (by decide), va_up_ne _ _ (by decide)]; exact c_306
  have c_307 : f_6 307 = ai (ca 1) 720 (g 4) := by rw [ef_6, va_up_ne _ _ (by decide), va_up_ne _ _ (by decide), va_up_ne _ _ (by decide), va_up_ne _ _ (by decide), va_up_ne _ _ (by decide), va_up_ne _ _ (by decide)]; exact c_307
  have c_308 : f_6 308 = ai (ca 0) 20 (g 5) := by rw [ef_6, va_up_ne _ _ (by decide), va_up_ne _ _ (by decide), va_up_ne _ _ (by decide), va_up_ne _ _ (by decide), va_up_ne _ _ (by decide), va_up_ne _ _ (by decide)]; exact c_308
  have c_309 : f_6 309 = ai (ca 0) 20 (g 6) := by rw [ef_6, va_up_ne _ _ (by decide), va_up_ne _ _ (by decide), va_up_ne _ _ (by decide), va_up_ne _ _ (by decide), va_up_ne _ _ (by decide), va_up_ne _ _ (by decide)]; exact c_309
  have c_310 : f_6 310 = ai (ca 0) 20 (g 7) := by rw [ef_6, va_up_ne _ _ (by decide), va_up_ne _ _ (by decide), va_up_ne _ _ (by decide), va_up_ne _ _ (by decide), va_up_ne _ _ (by decide), va_up_ne _ _ (by decide)]; exact c_310
  have c_311 : f_6 311 = ai (ca 0) 20 (g 8) := by rw [ef_6, va_up_ne _ _ (by decide), va_up_ne _ _ (by decide), va_up_ne _ _ (by decide), va_up_ne _ _ (by decide), va_up_ne _ _ (by decide), va_up_ne _ _ (by decide)]; exact c_311
  have c_312 : f_6 312 = ai (ca 0) 20 (g 9) := by rw [ef_6, va_up_ne _ _ (by decide), va_up_ne _ _ (by decide), va_up_ne _ _ (by decide), va_up_ne _ _ (by decide), va_up_ne _ _ (by decide), va_up_ne _ _ (by decide)]; exact c_312
  have c_313 : f_6 313 = ai (ca 2) 20 (g 10) := by rw [ef_6, va_up_ne _ _ (by decide), va_up_ne _ _ (by decide), va_up_ne _ _ (by decide), va_up_ne _ _ (by decide), va_up_ne _ _ (by decide), va_up_ne _ _ (by decide)]; exact c_313
  have c_314 : f_6 314 = ai (ca 0) 200 (g 11) := by rw [ef_6, va_up_ne _ _ (by decide), va_up_ne _ _ (by decide), va_up_ne _ _ (by decide), va_up_ne _ _ (by decide), va_up_ne _ _ (by decide), va_up_ne _ _ (by decide)]; exact c_314
  have c_315 : f_6 315 = ai (ca 0) 200 (g 12) := by rw [ef_6, va_up_ne _ _ (by decide), va_up_ne _ _ (by decide), va_up_ne _ _ (by decide), va_up_ne _ _ (by decide), va_up_ne _ _ (by decide), va_up_ne _ _ (by decide)]; exact c_315
  have c_316 : f_6 316 = ai (ca 0) 200 (g 14) := by rw [ef_6, va_up_ne _ _ (by decide), va_up_ne _ _ (by decide), va_up_ne _ _ (by decide), va_up_ne _ _ (by decide), va_up_ne _ _ (by decide), va_up_ne _ _ (by decide)]; exact c_316
  have c_317 : f_6 317 = ai (ca 1) 6400 (g 15) := by rw [ef_6, va_up_ne _ _ (by decide), va_up_ne _ _ (by decide), va_up_ne _ _ (by decide), va_up_ne _ _ (by decide), va_up_ne _ _ (by decide), va_up_ne _ _ (by decide)]; exact c_317
  have c_318 : f_6 318 = ai (ca 1) 32 (g 16) := by rw [ef_6, va_up_ne _ _ (by decide), va_up_ne _ _ (by decide), va_up_ne _ _ (by decide), va_up_ne _ _ (by decide), va_up_ne _ _ (by decide), va_up_ne _ _ (by decide)]; exact c_318
  have c_324 : f_6 324 = ai (ca 0) 8 shR := by rw [ef_6, va_up_ne _ _ (by decide), va_up_ne _ _ (by decide), va_up_ne _ _ (by decide), va_up_ne _ _ (by decide), va_up_ne _ _ (by decide), va_up_ne _ _ (by decide)]; exact c_324
  have c_325 : f_6 325 = ai (ca 0) 64 shK := by rw [ef_6, va_up_ne _ _ (by decide), va_up_ne _ _ (by decide), va_up_ne _ _ (by decide), va_up_ne _ _ (by decide), va_up_ne _ _ (by decide), va_up_ne _ _ (by decide)]; exact c_325
  have qn_0 : (va_up n 7 0) 0 = n 0 := by rw [va_up_ne _ _ (by decide)]
  have qn_1 : (va_up n 7 0) 1 = n 1 := by rw [va_up_ne _ _ (by decide)]
  have qn_2 : (va_up n 7 0) 2 = n 2 := by rw [va_up_ne _ _ (by decide)]
  have qn_3 : (va_up n 7 0) 3 = n 3 := by rw [va_up_ne _ _ (by decide)]
  have qn_4 : (va_up n 7 0) 4 = n 4 := by rw [va_up_ne _ _ (by decide)]
  have qn_5 : (va_up n 7 0) 5 = n 5 := by rw [va_up_ne _ _ (by decide)]
  have qn_6 : (va_up n 7 0) 6 = n 6 := by rw [va_up_ne _ _ (by decide)]
  have qn_7 : (va_up n 7 0) 7 = 0 := by rw [va_up_self]
  have qz_0 : (va_up (va_up (va_up (va_up (va_up z 0 b1_8) 1 m1_12) 2 w1_9) 3 h1_11) 4 v1_10) 0 = b1_8 := by rw [va_up_ne _ _ (by decide), va_up_ne _ _ (by decide), va_up_ne _ _ (by decide), va_up_ne _ _ (by decide), va_up_self]
  have qz_1 : (va_up (va_up (va_up (va_up (va_up z 0 b1_8) 1 m1_12) 2 w1_9) 3 h1_11) 4 v1_10) 1 = m1_12 := by rw [va_up_ne _ _ (by decide), va_up_ne _ _ (by decide), va_up_ne _ _ (by decide), va_up_self]
  have qz_2 : (va_up (va_up (va_up (va_up (va_up z 0 b1_8) 1 m1_12) 2 w1_9) 3 h1_11) 4 v1_10) 2 = w1_9 := by rw [va_up_ne _ _ (by decide), va_up_ne _ _ (by decide), va_up_self]
  have qz_3 : (va_up (va_up (va_up (va_up (va_up z 0 b1_8) 1 m1_12) 2 w1_9) 3 h1_11) 4 v1_10) 3 = h1_11 := by rw [va_up_ne _ _ (by decide), va_up_self]
  have qz_4 : (va_up (va_up (va_up (va_up (va_up z 0 b1_8) 1 m1_12) 2 w1_9) 3 h1_11) 4 v1_10) 4 = v1_10 := by rw [va_up_self]
  have hRz : RepM ca ad (va_up n 7 0) g (va_up (va_up (va_up (va_up (va_up z 0 b1_8) 1 m1_12) 2 w1_9) 3 h1_11) 4 v1_10) (zN g i) tb f_6 := ⟨(by rw [qn_7, qn_0, qn_1, qn_2, qn_3, qn_4, qn_5]; exact c_302),
        c_303,
        c_304,
        c_305,
        c_306,
        c_307,
        c_308,
        c_309,
        c_310,
        c_311,
        c_312,
        c_313,
        c_314,
        c_315,
        c_316,
        c_317,
        c_318,
        (by rw [qz_0]; exact c_319),
        (by rw [qz_1]; exact c_320),
        (by rw [qz_2]; exact c_321),
        (by rw [qz_3]; exact c_322),
        (by rw [qz_4]; exact c_323),
        c_324,
        c_325, (by first | omega | assumption)⟩
  exact x_iret hx hb hr hlocks hw ⟨rfl, va_up (va_up (va_up (va_up (va_up z 0 b1_8) 1 m1_12) 2 w1_9) 3 h1_11) 4 v1_10, zN g i, hRz, (fun y hy => by rw [ef_6, va_up_ne _ _ (by omega), va_up_ne _ _ (by omega), va_up_ne _ _ (by omega), va_up_ne _ _ (by omega), va_up_ne _ _ (by omega), va_up_ne _ _ (by omega), ef_1, va_up_ne _ _ (by omega)])⟩ dX6_mend_35

set_option maxHeartbeats 4000000 in
set_option maxRecDepth 100000 in
theorem k_X6_mend_none (l : Launch) (D : va_G) (ca : Nat → ClassId) (N : Nat) (ad : Nat → Nat) (B tR tK : Nat) (f : Nat → va_E) (dd : xD N ad B) (hN : 326 ≤ N) (n : Nat → Nat) (g : Nat → Nat → Int32) (z : Nat → Nat → Int32) (zn : Nat) (tb : Nat → Int32) (hR : RepM ca ad n g z zn tb f) (i : Nat) (j : Nat) (h2 : n 2 ≤ 20) (hi : i < n 2) (hj : j ≤ 1000000) (hsz : ∀ i, i < 20 → zN g i ≤ 200 ∧ g 2 i = nI (zN g i)) (hf : ¬ mFit g i i (zN g i)) (hno : ∀ b, b < n 2 → ¬ (mFit g b b (zN g b) ∧ mFit g b i (zN g b))) : xMi l yX6_mend wsX6_mend rmX6_mend [.ref (ad 302), .int (nI i), .int (nI j)] D ca N ad B tR tK f (fun r u => (-10) = r ∧ ∃ (z1 : Nat → Nat → Int32) (zn1 : Nat), RepM ca ad (va_up n 7 0) g z1 zn1 tb u ∧ ∀ y, (y < 302 ∨ 326 ≤ y) → u y = f y) := by
  refine x_open (cc := cX6_mend) (maxL := 5) (ret := (some .int)) (by decide) rfl (Nat.le_of_ble_eq_true rfl) ?_
  intro p e s m below meth c ls hx hb hml hown hts hr hlocks hnm hB hK hE hw hl
  have hown : s.vm.findClass RX6 = some m.cls := hown
  have hl : lv_has ls 5 [(0, .ref (ad 302)), (1, .int (nI i)), (2, .int (nI j))] := hl
  obtain ⟨c_302, c_303, c_304, c_305, c_306, c_307, c_308, c_309, c_310, c_311, c_312, c_313, c_314, c_315, c_316, c_317, c_318, c_319, c_320, c_321, c_322, c_323, c_324, c_325, hzn⟩ := hR
  have hin_7 : ∀ w ∈ u_ws RX6 TX6 32, w ∈ wsX6_mend := by decide +kernel
  have hf_163 := hts (.fieldLink RX6 163 "FixityRowsModel" "files" "I") (by decide +kernel)
  have hf_160 := hts (.fieldLink RX6 160 "FixityRowsModel" "thrown" "I") (by decide +kernel)
  have b_302 := c_302
  have b_303 := c_303
  have b_304 := c_304
  have b_305 := c_305
  have b_306 := c_306
  have b_307 := c_307
  have b_308 := c_308
  have b_309 := c_309
  have b_310 := c_310
  have b_311 := c_311
  have b_312 := c_312
  have b_313 := c_313
  have b_314 := c_314
  have b_315 := c_315
  have b_316 := c_316
  have b_317 := c_317
  have b_318 := c_318
  have b_319 := c_319
  have b_320 := c_320
  have b_321 := c_321
  have b_322 := c_322
  have b_323 := c_323
  have b_324 := c_324
  have b_325 := c_325
  have P_38 : ∀ (n_38 : Nat) (f1 : Nat) (b1 : Nat → Int32) (w1 : Nat → Int32) (v1 : Nat → Int32) (h1 : Nat → Int32) (m1 : Nat → Int32) (q : Nat) (H : Heap) (locs : List Loc) (ls : Array Slot), n 2 + 1 ≤ q + n_38 → (q ≤ n 2) → (f1 ≤ 200) → xw D vwCl N ad B s.heap (va_up (va_up (va_up (va_up (va_up (va_up f 302 (.inr (7, mO ad 0 (n 0) (n 1) (n 2) (g 13 0) (n 3) (n 4) (n 5) f1))) 319 (ai (ca 1) 320 b1)) 321 (ai (ca 0) 64 w1)) 323 (ai (ca 0) 8 v1)) 322 (ai (ca 0) 8 h1)) 320 (ai (ca 1) 36 m1)) H locs → lv_has ls 5 [(0, .ref (ad 302)), (1, .int (nI i)), (2, .int (nI j)), (3, .int (nI q))] → W p l e rmX6_mend s m ([.ref (ad 302), .int (nI i), .int (nI j)] : List Value).toArray below meth c H locs 0 0 (MQ below (xQi (fun r u => (-10) = r ∧ ∃ (z1 : Nat → Nat → Int32) (zn1 : Nat), RepM ca ad (va_up n 7 0) g z1 zn1 tb u ∧ ∀ y, (y < 302 ∨ 326 ≤ y) → u y = f y) D N ad B) ([.ref (ad 302), .int (nI i), .int (nI j)] : List Value).toArray s 0 0 (xA B)) (F0 m 38 ls []) := by
    intro n_38
    induction n_38 with
    | zero =>
      intro f1 b1 w1 v1 h1 m1 q H locs ls hm_38 hq hf1 hw hl
      exact absurd hm_38 (by omega)
    | succ n_38 ih_38 =>
      intro f1 b1 w1 v1 h1 m1 q H locs ls hm_38 hq hf1 hw hl
      have c_302 := b_302
      have c_303 := b_303
      have c_304 := b_304
      have c_305 := b_305
      have c_306 := b_306
      have c_307 := b_307
      have c_308 := b_308
      have c_309 := b_309
      have c_310 := b_310
      have c_311 := b_311
      have c_312 := b_312
      have c_313 := b_313
      have c_314 := b_314
      have c_315 := b_315
      have c_316 := b_316
      have c_317 := b_317
      have c_318 := b_318
      have c_319 := b_319
      have c_320 := b_320
      have c_321 := b_321
      have c_322 := b_322
      have c_323 := b_323
      have c_324 := b_324
      have c_325 := b_325
      obtain ⟨f_1, ef_1⟩ : ∃ z, z = va_up (va_up (va_up (va_up (va_up (va_up f 302 (.inr (7, mO ad 0 (n 0) (n 1) (n 2) (g 13 0) (n 3) (n 4) (n 5) f1))) 319 (ai (ca 1) 320 b1)) 321 (ai (ca 0) 64 w1)) 323 (ai (ca 0) 8 v1)) 322 (ai (ca 0) 8 h1)) 320 (ai (ca 1) 36 m1) := ⟨_, rfl⟩
      have hw : xw D vwCl N ad B s.heap f_1 H locs := by rw [ef_1]; exact hw
      have c_302 : f_1 302 = .inr (7, mO ad 0 (n 0) (n 1) (n 2) (g 13 0) (n 3) (n 4) (n 5) f1) := by rw [ef_1, va_up_ne _ _ (by decide), va_up_ne _ _ (by decide), va_up_ne _ _ (by decide), va_up_ne _ _ (by decide), va_up_ne _ _ (by decide), va_up_self]
      have c_319 : f_1 319 = ai (ca 1) 320 b1 := by rw [ef_1, va_up_ne _ _ (by decide), va_up_ne _ _ (by decide), va_up_ne _ _ (by decide), va_up_ne _ _ (by decide), va_up_self]
      have c_321 : f_1 321 = ai (ca 0) 64 w1 := by rw [ef_1, va_up_ne _ _ (by decide), va_up_ne _ _ (by decide), va_up_ne _ _ (by decide), va_up_self]
      have c_323 : f_1 323 = ai (ca 0) 8 v1 := by rw [ef_1, va_up_ne _ _ (by decide), va_up_ne _ _ (by decide), va_up_self]
      have c_322 : f_1 322 = ai (ca 0) 8 h1 := by rw [ef_1, va_up_ne _ _ (by decide), va_up_self]
      have c_320 : f_1 320 = ai (ca 1) 36 m1 := by rw [ef_1, va_up_self]
      refine lv_iload_n hx hb dX6_mend_38 rfl (lv_at hl 3 rfl) ?_
      refine lv_aload_n hx hb dX6_mend_39 rfl (lv_at hl 0 rfl) ?_
      refine x_get (ci := 7) (C := RX6) (T := TX6) (n := 32) (ref := RX6) hx hb hts hin_7 hown hK hw 302 (by omega) c_302 rfl 4 (by decide) hf_163 (fun _ h => h) rfl dX6_mend_40 ?_
      refine n_icge (tgt := 153) hx hb dX6_mend_43 (by decide) (by omega) (by omega) (fun hc_43 => ?_) (fun hc_43 => ?_)
      · refine lv_bipush (v := (-10)) hx hb dX6_mend_153 (by decide) ?_
        have c_303 : f_1 303 = ai (ca 1) 200 (g 0) := by rw [ef_1, va_up_ne _ _ (by decide), va_up_ne _ _ (by decide), va_up_ne _ _ (by decide), va_up_ne _ _ (by decide), va_up_ne _ _ (by decide), va_up_ne _ _ (by decide)]; exact c_303
        have c_304 : f_1 304 = ai (ca 1) 4000 (g 1) := by rw [ef_1, va_up_ne _ _ (by decide), va_up_ne _ _ (by decide), va_up_ne _ _ (by decide), va_up_ne _ _ (by decide), va_up_ne _ _ (by decide), va_up_ne _ _ (by decide)]; exact c_304
        have c_305 : f_1 305 = ai (ca 0) 20 (g 2) := by rw [ef_1, va_up_ne _ _ (by decide), va_up_ne _ _ (by decide), va_up_ne _ _ (by decide), va_up_ne _ _ (by decide), va_up_ne _ _ (by decide), va_up_ne _ _ (by decide)]; exact c_305
        have c_306 : f_1 306 = ai (ca 0) 20 (g 3) := by rw [ef_1, va_up_ne _ _ (by decide), va_up_ne _ _ (by decide), va_up_ne _ _ (by decide), va_up_ne _ _ (by decide), va_up_ne _ _ (by decide), va_up_ne _ _ (by decide)]; exact c_306
        have c_307 : f_1 307 = ai (ca 1) 720 (g 4) := by rw [ef_1, va_up_ne _ _ (by decide), va_up_ne _ _ (by decide), va_up_ne _ _ (by decide), va_up_ne _ _ (by decide), va_up_ne _ _ (by decide), va_up_ne _ _ (by decide)]; exact c_307
        have c_308 : f_1 308 = ai (ca 0) 20 (g 5) := by rw [ef_1, va_up_ne _ _ (by decide), va_up_ne _ _ (by decide), va_up_ne _ _ (by decide), va_up_ne _ _ (by decide), va_up_ne _ _ (by decide), va_up_ne _ _ (by decide)]; exact c_308
        have c_309 : f_1 309 = ai (ca 0) 20 (g 6) := by rw [ef_1, va_up_ne _ _ (by decide), va_up_ne _ _ (by decide), va_up_ne _ _ (by decide), va_up_ne _ _ (by decide), va_up_ne _ _ (by decide), va_up_ne _ _ (by decide)]; exact c_309
        have c_310 : f_1 310 = ai (ca 0) 20 (g 7) := by rw [ef_1, va_up_ne _ _ (by decide), va_up_ne _ _ (by decide), va_up_ne _ _ (by decide), va_up_ne _ _ (by decide), va_up_ne _ _ (by decide), va_up_ne _ _ (by decide)]; exact c_310
        have c_311 : f_1 311 = ai (ca 0) 20 (g 8) := by rw [ef_1, va_up_ne _ _ (by decide), va_up_ne _ _ (by decide), va_up_ne _ _ (by decide), va_up_ne _ _ (by decide), va_up_ne _ _ (by decide), va_up_ne _ _ (by decide)]; exact c_311
        have c_312 : f_1 312 = ai (ca 0) 20 (g 9) := by rw [ef_1, va_up_ne _ _ (by decide), va_up_ne _ _ (by decide), va_up_ne _ _ (by decide), va_up_ne _ _ (by decide), va_up_ne _ _ (by decide), va_up_ne _ _ (by decide)]; exact c_312
        have c_313 : f_1 313 = ai (ca 2) 20 (g 10) := by rw [ef_1, va_up_ne _ _ (by decide), va_up_ne _ _ (by decide), va_up_ne _ _ (by decide), va_up_ne _ _ (by decide), va_up_ne _ _ (by decide), va_up_ne _ _ (by decide)]; exact c_313
        have c_314 : f_1 314 = ai (ca 0) 200 (g 11) := by rw [ef_1, va_up_ne _ _ (by decide), va_up_ne _ _ (by decide), va_up_ne _ _ (by decide), va_up_ne _ _ (by decide), va_up_ne _ _ (by decide), va_up_ne _ _ (by decide)]; exact c_314
        have c_315 : f_1 315 = ai (ca 0) 200 (g 12) := by rw [ef_1, va_up_ne _ _ (by decide), va_up_ne _ _ (by decide), va_up_ne _ _ (by decide), va_up_ne _ _ (by decide), va_up_ne _ _ (by decide), va_up_ne _ _ (by decide)]; exact c_315
        have c_316 : f_1 316 = ai (ca 0) 200 (g 14) := by rw [ef_1, va_up_ne _ _ (by decide), va_up_ne _ _ (by decide), va_up_ne _ _ (by decide), va_up_ne _ _ (by decide), va_up_ne _ _ (by decide), va_up_ne _ _ (by decide)]; exact c_316
        have c_317 : f_1 317 = ai (ca 1) 6400 (g 15) := by rw [ef_1, va_up_ne _ _ (by decide), va_up_ne _ _ (by decide), va_up_ne _ _ (by decide), va_up_ne _ _ (by decide), va_up_ne _ _ (by decide), va_up_ne _ _ (by decide)]; exact c_317
        have c_318 : f_1 318 = ai (ca 1) 32 (g 16) := by rw [ef_1, va_up_ne _ _ (by decide), va_up_ne _ _ (by decide), va_up_ne _ _ (by decide), va_up_ne _ _ (by decide), va_up_ne _ _ (by decide), va_up_ne _ _ (by decide)]; exact c_318
        have c_324 : f_1 324 = ai (ca 0) 8 shR := by rw [ef_1, va_up_ne _ _ (by decide), va_up_ne _ _ (by decide), va_up_ne _ _ (by decide), va_up_ne _ _ (by decide), va_up_ne _ _ (by decide), va_up_ne _ _ (by decide)]; exact c_324
        have c_325 : f_1 325 = ai (ca 0) 64 shK := by rw [ef_1, va_up_ne _ _ (by decide), va_up_ne _ _ (by decide), va_up_ne _ _ (by decide), va_up_ne _ _ (by decide), va_up_ne _ _ (by decide), va_up_ne _ _ (by decide)]; exact c_325
        have qn_0 : (va_up n 7 0) 0 = n 0 := by rw [va_up_ne _ _ (by decide)]
        have qn_1 : (va_up n 7 0) 1 = n 1 := by rw [va_up_ne _ _ (by decide)]
        have qn_2 : (va_up n 7 0) 2 = n 2 := by rw [va_up_ne _ _ (by decide)]
        have qn_3 : (va_up n 7 0) 3 = n 3 := by rw [va_up_ne _ _ (by decide)]
        have qn_4 : (va_up n 7 0) 4 = n 4 := by rw [va_up_ne _ _ (by decide)]
        have qn_5 : (va_up n 7 0) 5 = n 5 := by rw [va_up_ne _ _ (by decide)]
        have qn_6 : (va_up n 7 0) 6 = n 6 := by rw [va_up_ne _ _ (by decide)]
        have qn_7 : (va_up n 7 0) 7 = 0 := by rw [va_up_self]
        have qz_0 : (va_up (va_up (va_up (va_up (va_up z 0 b1) 1 m1) 2 w1) 3 h1) 4 v1) 0 = b1 := by rw [va_up_ne _ _ (by decide), va_up_ne _ _ (by decide), va_up_ne _ _ (by decide), va_up_ne _ _ (by decide), va_up_self]
        have qz_1 : (va_up (va_up (va_up (va_up (va_up z 0 b1) 1 m1) 2 w1) 3 h1) 4 v1) 1 = m1 := by rw [va_up_ne _ _ (by decide), va_up_ne _ _ (by decide), va_up_ne _ _ (by decide), va_up_self]
        have qz_2 : (va_up (va_up (va_up (va_up (va_up z 0 b1) 1 m1) 2 w1) 3 h1) 4 v1) 2 = w1 := by rw [va_up_ne _ _ (by decide), va_up_ne _ _ (by decide), va_up_self]
        have qz_3 : (va_up (va_up (va_up (va_up (va_up z 0 b1) 1 m1) 2 w1) 3 h1) 4 v1) 3 = h1 := by rw [va_up_ne _ _ (by decide), va_up_self]
        have qz_4 : (va_up (va_up (va_up (va_up (va_up z 0 b1) 1 m1) 2 w1) 3 h1) 4 v1) 4 = v1 := by rw [va_up_self]
        have hRz : RepM ca ad (va_up n 7 0) g (va_up (va_up (va_up (va_up (va_up z 0 b1) 1 m1) 2 w1) 3 h1) 4 v1) f1 tb f_1 := ⟨(by rw [qn_7, qn_0, qn_1, qn_2, qn_3, qn_4, qn_5]; exact c_302),
              c_303,
              c_304,
              c_305,
              c_306,
              c_307,
              c_308,
              c_309,
              c_310,
              c_311,
              c_312,
              c_313,
              c_314,
              c_315,
              c_316,
              c_317,
              c_318,
              (by rw [qz_0]; exact c_319),
              (by rw [qz_1]; exact c_320),
              (by rw [qz_2]; exact c_321),
              (by rw [qz_3]; exact c_322),
              (by rw [qz_4]; exact c_323),
              c_324,
              c_325, (by first | omega | assumption)⟩
        exact x_iret hx hb hr hlocks hw ⟨rfl, va_up (va_up (va_up (va_up (va_up z 0 b1) 1 m1) 2 w1) 3 h1) 4 v1, f1, hRz, (fun y hy => by rw [ef_1, va_up_ne _ _ (by omega), va_up_ne _ _ (by omega), va_up_ne _ _ (by omega), va_up_ne _ _ (by omega), va_up_ne _ _ (by omega), va_up_ne _ _ (by omega)])⟩ dX6_mend_155
      · refine lv_iload_n hx hb dX6_mend_46 rfl (lv_at hl 3 rfl) ?_
        refine lv_iload_n hx hb dX6_mend_47 rfl (lv_at hl 1 rfl) ?_
        refine n_iceq (tgt := 147) hx hb dX6_mend_48 (by decide) (by omega) (by omega) (fun hc_48 => ?_) (fun hc_48 => ?_)
        · refine lv_iinc (v := nI (q + 1)) (lv' := [(3, .int (nI (q + 1))), (0, .ref (ad 302)), (1, .int (nI i)), (2, .int (nI j))]) hx hb dX6_mend_147 hl (k := 3) rfl (by rw [show Int32.ofInt 1 = nI 1 from rfl]; exact nI_add _ _) (by decide) rfl (fun ls hl => ?_)
          refine lv_goto (tgt := 38) hx hb dX6_mend_150 (by decide) ?_
          have hw : xw D vwCl N ad B s.heap (va_up (va_up (va_up (va_up (va_up (va_up f 302 (.inr (7, mO ad 0 (n 0) (n 1) (n 2) (g 13 0) (n 3) (n 4) (n 5) f1))) 319 (ai (ca 1) 320 b1)) 321 (ai (ca 0) 64 w1)) 323 (ai (ca 0) 8 v1)) 322 (ai (ca 0) 8 h1)) 320 (ai (ca 1) 36 m1)) H locs := by
            have ez : f_1 = va_up (va_up (va_up (va_up (va_up (va_up f 302 (.inr (7, mO ad 0 (n 0) (n 1) (n 2) (g 13 0) (n 3) (n 4) (n 5) f1))) 319 (ai (ca 1) 320 b1)) 321 (ai (ca 0) 64 w1)) 323 (ai (ca 0) 8 v1)) 322 (ai (ca 0) 8 h1)) 320 (ai (ca 1) 36 m1) := by first | (simp only [ef_1]; done) | (simp only [ef_1, up_c6]; done) | (simp only [ef_1, up_c6, up_c5]; done)
            rw [← ez]; exact hw
          exact ih_38 f1 b1 w1 v1 h1 m1 (q + 1) _ _ _ (by omega) (by omega) (by first | assumption | exact (hsz q (by omega)).1) hw (lv_sub hl [1, 2, 3, 0] rfl)
        · refine lv_aload_n hx hb dX6_mend_51 rfl (lv_at hl 0 rfl) ?_
          refine lv_iload_n hx hb dX6_mend_52 rfl (lv_at hl 3 rfl) ?_
          have c_306 : f_1 306 = ai (ca 0) 20 (g 3) := by rw [ef_1, va_up_ne _ _ (by decide), va_up_ne _ _ (by decide), va_up_ne _ _ (by decide), va_up_ne _ _ (by decide), va_up_ne _ _ (by decide), va_up_ne _ _ (by decide)]; exact c_306
          have c_307 : f_1 307 = ai (ca 1) 720 (g 4) := by rw [ef_1, va_up_ne _ _ (by decide), va_up_ne _ _ (by decide), va_up_ne _ _ (by decide), va_up_ne _ _ (by decide), va_up_ne _ _ (by decide), va_up_ne _ _ (by decide)]; exact c_307
          have c_324 : f_1 324 = ai (ca 0) 8 shR := by rw [ef_1, va_up_ne _ _ (by decide), va_up_ne _ _ (by decide), va_up_ne _ _ (by decide), va_up_ne _ _ (by decide), va_up_ne _ _ (by decide), va_up_ne _ _ (by decide)]; exact c_324
          have c_325 : f_1 325 = ai (ca 0) 64 shK := by rw [ef_1, va_up_ne _ _ (by decide), va_up_ne _ _ (by decide), va_up_ne _ _ (by decide), va_up_ne _ _ (by decide), va_up_ne _ _ (by decide), va_up_ne _ _ (by decide)]; exact c_325
          have c_304 : f_1 304 = ai (ca 1) 4000 (g 1) := by rw [ef_1, va_up_ne _ _ (by decide), va_up_ne _ _ (by decide), va_up_ne _ _ (by decide), va_up_ne _ _ (by decide), va_up_ne _ _ (by decide), va_up_ne _ _ (by decide)]; exact c_304
          have c_305 : f_1 305 = ai (ca 0) 20 (g 2) := by rw [ef_1, va_up_ne _ _ (by decide), va_up_ne _ _ (by decide), va_up_ne _ _ (by decide), va_up_ne _ _ (by decide), va_up_ne _ _ (by decide), va_up_ne _ _ (by decide)]; exact c_305
          refine x_Vi (q := 302) (As := [.int (nI q)]) (rest := []) ⟨hx, hb, hml, hown, hts⟩ (k_X6_fits l D ca N ad B tR tK f_1 dd 0 (n 0) (n 1) (n 2) (g 13 0) (n 3) (n 4) (n 5) f1 (g 3) (g 4) b1 m1 w1 h1 v1 (g 1) (g 2) q (zN g q) c_302 c_306 c_307 c_319 c_320 c_321 c_322 c_323 c_324 c_325 c_304 c_305  (by omega) (by omega) (hsz q (by omega)).2 (hsz q (by omega)).1) (cwV 1 hts gX6_mend_X6_fits rfl rfl rfl (by decide +kernel) ⟨Nat.le_of_ble_eq_true rfl, Nat.le_of_ble_eq_true rfl⟩) hK hE hB hw (by omega) c_302 rfl rfl rfl rfl hl.1 (Nat.le_of_ble_eq_true rfl) ⟨Nat.zero_le _, Nat.zero_le _⟩ dX6_mend_53 (fun r_3 f_2 H locs hp hw => ?_)
          obtain ⟨b1_4, w1_5, v1_6, h1_7, m1_8, hq_9, er, eu⟩ := hp
          rw [← er]
          have ef_2 : f_2 = va_up (va_up (va_up (va_up (va_up (va_up f_1 302 (.inr (7, mO ad 0 (n 0) (n 1) (n 2) (g 13 0) (n 3) (n 4) (n 5) (zN g q)))) 319 (ai (ca 1) 320 b1_4)) 321 (ai (ca 0) 64 w1_5)) 323 (ai (ca 0) 8 v1_6)) 322 (ai (ca 0) 8 h1_7)) 320 (ai (ca 1) 36 m1_8) := eu
          have c_302 : f_2 302 = .inr (7, mO ad 0 (n 0) (n 1) (n 2) (g 13 0) (n 3) (n 4) (n 5) (zN g q)) := by rw [ef_2, va_up_ne _ _ (by decide), va_up_ne _ _ (by decide), va_up_ne _ _ (by decide), va_up_ne _ _ (by decide), va_up_ne _ _ (by decide), va_up_self]
          have c_319 : f_2 319 = ai (ca 1) 320 b1_4 := by rw [ef_2, va_up_ne _ _ (by decide), va_up_ne _ _ (by decide), va_up_ne _ _ (by decide), va_up_ne _ _ (by decide), va_up_self]
          have c_321 : f_2 321 = ai (ca 0) 64 w1_5 := by rw [ef_2, va_up_ne _ _ (by decide), va_up_ne _ _ (by decide), va_up_ne _ _ (by decide), va_up_self]
          have c_323 : f_2 323 = ai (ca 0) 8 v1_6 := by rw [ef_2, va_up_ne _ _ (by decide), va_up_ne _ _ (by decide), va_up_self]
          have c_322 : f_2 322 = ai (ca 0) 8 h1_7 := by rw [ef_2, va_up_ne _ _ (by decide), va_up_self]
          have c_320 : f_2 320 = ai (ca 1) 36 m1_8 := by rw [ef_2, va_up_self]
          refine lv_if_eq (tgt := 147) hx hb dX6_mend_56 (by decide) (fun hc_56 => ?_) (fun hc_56 => ?_)
          · refine lv_iinc (v := nI (q + 1)) (lv' := [(3, .int (nI (q + 1))), (0, .ref (ad 302)), (1, .int (nI i)), (2, .int (nI j))]) hx hb dX6_mend_147 hl (k := 3) rfl (by rw [show Int32.ofInt 1 = nI 1 from rfl]; exact nI_add _ _) (by decide) rfl (fun ls hl => ?_)
            refine lv_goto (tgt := 38) hx hb dX6_mend_150 (by decide) ?_
            have hw : xw D vwCl N ad B s.heap (va_up (va_up (va_up (va_up (va_up (va_up f 302 (.inr (7, mO ad 0 (n 0) (n 1) (n 2) (g 13 0) (n 3) (n 4) (n 5) (zN g q)))) 319 (ai (ca 1) 320 b1_4)) 321 (ai (ca 0) 64 w1_5)) 323 (ai (ca 0) 8 v1_6)) 322 (ai (ca 0) 8 h1_7)) 320 (ai (ca 1) 36 m1_8)) H locs := by
              have ez : f_2 = va_up (va_up (va_up (va_up (va_up (va_up f 302 (.inr (7, mO ad 0 (n 0) (n 1) (n 2) (g 13 0) (n 3) (n 4) (n 5) (zN g q)))) 319 (ai (ca 1) 320 b1_4)) 321 (ai (ca 0) 64 w1_5)) 323 (ai (ca 0) 8 v1_6)) 322 (ai (ca 0) 8 h1_7)) 320 (ai (ca 1) 36 m1_8) := by first | (simp only [ef_2, ef_1]; done) | (simp only [ef_2, ef_1, up_c6]; done) | (simp only [ef_2, ef_1, up_c6, up_c5]; done)
              rw [← ez]; exact hw
            exact ih_38 (zN g q) b1_4 w1_5 v1_6 h1_7 m1_8 (q + 1) _ _ _ (by omega) (by omega) (by first | assumption | exact (hsz q (by omega)).1) hw (lv_sub hl [1, 2, 3, 0] rfl)
          · refine lv_aload_n hx hb dX6_mend_59 rfl (lv_at hl 0 rfl) ?_
            refine lv_iload_n hx hb dX6_mend_60 rfl (lv_at hl 1 rfl) ?_
            have c_306 : f_2 306 = ai (ca 0) 20 (g 3) := by rw [ef_2, va_up_ne _ _ (by decide), va_up_ne _ _ (by decide), va_up_ne _ _ (by decide), va_up_ne _ _ (by decide), va_up_ne _ _ (by decide), va_up_ne _ _ (by decide)]; exact c_306
            have c_307 : f_2 307 = ai (ca 1) 720 (g 4) := by rw [ef_2, va_up_ne _ _ (by decide), va_up_ne _ _ (by decide), va_up_ne _ _ (by decide), va_up_ne _ _ (by decide), va_up_ne _ _ (by decide), va_up_ne _ _ (by decide)]; exact c_307
            have c_324 : f_2 324 = ai (ca 0) 8 shR := by rw [ef_2, va_up_ne _ _ (by decide), va_up_ne _ _ (by decide), va_up_ne _ _ (by decide), va_up_ne _ _ (by decide), va_up_ne _ _ (by decide), va_up_ne _ _ (by decide)]; exact c_324
            have c_325 : f_2 325 = ai (ca 0) 64 shK := by rw [ef_2, va_up_ne _ _ (by decide), va_up_ne _ _ (by decide), va_up_ne _ _ (by decide), va_up_ne _ _ (by decide), va_up_ne _ _ (by decide), va_up_ne _ _ (by decide)]; exact c_325
            refine x_Vi (q := 302) (As := [.int (nI i)]) (rest := []) ⟨hx, hb, hml, hown, hts⟩ (k_X6_has l D ca N ad B tR tK f_2 dd 0 (n 0) (n 1) (n 2) (g 13 0) (n 3) (n 4) (n 5) (zN g q) (g 3) (g 4) b1_4 m1_8 w1_5 h1_7 v1_6 i c_302 c_306 c_307 c_319 c_320 c_321 c_322 c_323 c_324 c_325  (by omega) (hsz q (by omega)).1 (by omega)) (cwV 1 hts gX6_mend_X6_has rfl rfl rfl (by decide +kernel) ⟨Nat.le_of_ble_eq_true rfl, Nat.le_of_ble_eq_true rfl⟩) hK hE hB hw (by omega) c_302 rfl rfl rfl rfl hl.1 (Nat.le_of_ble_eq_true rfl) ⟨Nat.zero_le _, Nat.zero_le _⟩ dX6_mend_61 (fun r_11 f_10 H locs hp hw => ?_)
            obtain ⟨b1_12, w1_13, v1_14, h1_15, m1_16, hq_17, er, eu⟩ := hp
            rw [← er]
            have ef_10 : f_10 = va_up (va_up (va_up (va_up (va_up f_2 319 (ai (ca 1) 320 b1_12)) 321 (ai (ca 0) 64 w1_13)) 323 (ai (ca 0) 8 v1_14)) 322 (ai (ca 0) 8 h1_15)) 320 (ai (ca 1) 36 m1_16) := eu
            have c_319 : f_10 319 = ai (ca 1) 320 b1_12 := by rw [ef_10, va_up_ne _ _ (by decide), va_up_ne _ _ (by decide), va_up_ne _ _ (by decide), va_up_ne _ _ (by decide), va_up_self]
            have c_321 : f_10 321 = ai (ca 0) 64 w1_13 := by rw [ef_10, va_up_ne _ _ (by decide), va_up_ne _ _ (by decide), va_up_ne _ _ (by decide), va_up_self]
            have c_323 : f_10 323 = ai (ca 0) 8 v1_14 := by rw [ef_10, va_up_ne _ _ (by decide), va_up_ne _ _ (by decide), va_up_self]
            have c_322 : f_10 322 = ai (ca 0) 8 h1_15 := by rw [ef_10, va_up_ne _ _ (by decide), va_up_self]
            have c_320 : f_10 320 = ai (ca 1) 36 m1_16 := by rw [ef_10, va_up_self]
            have hM : hasM (g 4) i (sha (zN g q) (fun i7 => b1_4 i7 &&& nI 255)) (crM b1_4 (zN g q) ^^^ (-1)) (g 3 i) = mFit g q i (zN g q) := by unfold mFit; rw [sha_ext (g := fun i7 => b1_4 i7 &&& nI 255) (g' := fun x => g 1 (200 * q + x) &&& nI 255) hq_9, crM_ext (b := b1_4) (b' := fun x => g 1 (200 * q + x)) (zN g q) hq_9]
            refine lv_if_ne (tgt := 70) hx hb dX6_mend_64 (by decide) (fun hc_64 => ?_) (fun hc_64 => ?_)
            · exact absurd ⟨(show mFit g q q (zN g q) from bI_nz hc_56), (hM ▸ bI_nz hc_64)⟩ (hno q (by omega))
            · refine lv_goto (tgt := 147) hx hb dX6_mend_67 (by decide) ?_
              refine lv_iinc (v := nI (q + 1)) (lv' := [(3, .int (nI (q + 1))), (0, .ref (ad 302)), (1, .int (nI i)), (2, .int (nI j))]) hx hb dX6_mend_147 hl (k := 3) rfl (by rw [show Int32.ofInt 1 = nI 1 from rfl]; exact nI_add _ _) (by decide) rfl (fun ls hl => ?_)
              refine lv_goto (tgt := 38) hx hb dX6_mend_150 (by decide) ?_
              have hw : xw D vwCl N ad B s.heap (va_up (va_up (va_up (va_up (va_up (va_up f 302 (.inr (7, mO ad 0 (n 0) (n 1) (n 2) (g 13 0) (n 3) (n 4) (n 5) (zN g q)))) 319 (ai (ca 1) 320 b1_12)) 321 (ai (ca 0) 64 w1_13)) 323 (ai (ca 0) 8 v1_14)) 322 (ai (ca 0) 8 h1_15)) 320 (ai (ca 1) 36 m1_16)) H locs := by
                have ez : f_10 = va_up (va_up (va_up (va_up (va_up (va_up f 302 (.inr (7, mO ad 0 (n 0) (n 1) (n 2) (g 13 0) (n 3) (n 4) (n 5) (zN g q)))) 319 (ai (ca 1) 320 b1_12)) 321 (ai (ca 0) 64 w1_13)) 323 (ai (ca 0) 8 v1_14)) 322 (ai (ca 0) 8 h1_15)) 320 (ai (ca 1) 36 m1_16) := by first | (simp only [ef_10, ef_2, ef_1]; done) | (simp only [ef_10, ef_2, ef_1, up_c6]; done) | (simp only [ef_10, ef_2, ef_1, up_c6, up_c5]; done)
                rw [← ez]; exact hw
              exact ih_38 (zN g q) b1_12 w1_13 v1_14 h1_15 m1_16 (q + 1) _ _ _ (by omega) (by omega) (by first | assumption | exact (hsz q (by omega)).1) hw (lv_sub hl [1, 2, 3, 0] rfl)
  refine lv_aload_n hx hb dX6_mend_0 rfl (lv_at hl 0 rfl) ?_
  refine lv_iconst (v := nI 0) hx hb dX6_mend_1 (by decide) ?_
  refine x_put (ci := 7) (C := RX6) (T := TX6) (n := 32) (ref := RX6) (fs' := mO ad 0 (n 0) (n 1) (n 2) (g 13 0) (n 3) (n 4) (n 5) zn) hx hb hts hin_7 tyX6 tyX6_ok nmX6 hown hK dd hw 302 (by omega) c_302 rfl 0 (by decide) hf_160 (fun _ h => h) rfl rfl rfl (Nat.le_of_ble_eq_true rfl) rfl dX6_mend_2 (fun H locs hw => ?_)
  obtain ⟨f_18, ef_18⟩ : ∃ z, z = va_up f 302 (.inr (7, mO ad 0 (n 0) (n 1) (n 2) (g 13 0) (n 3) (n 4) (n 5) zn)) := ⟨_, rfl⟩
  have hw : xw D vwCl N ad B s.heap f_18 H locs := by rw [ef_18]; exact hw
  have c_302 : f_18 302 = .inr (7, mO ad 0 (n 0) (n 1) (n 2) (g 13 0) (n 3) (n 4) (n 5) zn) := va_up_of ef_18
  refine lv_aload_n hx hb dX6_mend_5 rfl (lv_at hl 0 rfl) ?_
  refine lv_iload_n hx hb dX6_mend_6 rfl (lv_at hl 1 rfl) ?_
  have c_303 : f_18 303 = ai (ca 1) 200 (g 0) := by rw [ef_18, va_up_ne _ _ (by decide)]; exact c_303
  have c_304 : f_18 304 = ai (ca 1) 4000 (g 1) := by rw [ef_18, va_up_ne _ _ (by decide)]; exact c_304
  have c_305 : f_18 305 = ai (ca 0) 20 (g 2) := by rw [ef_18, va_up_ne _ _ (by decide)]; exact c_305
  have c_306 : f_18 306 = ai (ca 0) 20 (g 3) := by rw [ef_18, va_up_ne _ _ (by decide)]; exact c_306
  have c_307 : f_18 307 = ai (ca 1) 720 (g 4) := by rw [ef_18, va_up_ne _ _ (by decide)]; exact c_307
  have c_308 : f_18 308 = ai (ca 0) 20 (g 5) := by rw [ef_18, va_up_ne _ _ (by decide)]; exact c_308
  have c_309 : f_18 309 = ai (ca 0) 20 (g 6) := by rw [ef_18, va_up_ne _ _ (by decide)]; exact c_309
  have c_310 : f_18 310 = ai (ca 0) 20 (g 7) := by rw [ef_18, va_up_ne _ _ (by decide)]; exact c_310
  have c_311 : f_18 311 = ai (ca 0) 20 (g 8) := by rw [ef_18, va_up_ne _ _ (by decide)]; exact c_311
  have c_312 : f_18 312 = ai (ca 0) 20 (g 9) := by rw [ef_18, va_up_ne _ _ (by decide)]; exact c_312
  have c_313 : f_18 313 = ai (ca 2) 20 (g 10) := by rw [ef_18, va_up_ne _ _ (by decide)]; exact c_313
  have c_314 : f_18 314 = ai (ca 0) 200 (g 11) := by rw [ef_18, va_up_ne _ _ (by decide)]; exact c_314
  have c_315 : f_18 315 = ai (ca 0) 200 (g 12) := by rw [ef_18, va_up_ne _ _ (by decide)]; exact c_315
  have c_316 : f_18 316 = ai (ca 0) 200 (g 14) := by rw [ef_18, va_up_ne _ _ (by decide)]; exact c_316
  have c_317 : f_18 317 = ai (ca 1) 6400 (g 15) := by rw [ef_18, va_up_ne _ _ (by decide)]; exact c_317
  have c_318 : f_18 318 = ai (ca 1) 32 (g 16) := by rw [ef_18, va_up_ne _ _ (by decide)]; exact c_318
  have c_319 : f_18 319 = ai (ca 1) 320 (z 0) := by rw [ef_18, va_up_ne _ _ (by decide)]; exact c_319
  have c_320 : f_18 320 = ai (ca 1) 36 (z 1) := by rw [ef_18, va_up_ne _ _ (by decide)]; exact c_320
  have c_321 : f_18 321 = ai (ca 0) 64 (z 2) := by rw [ef_18, va_up_ne _ _ (by decide)]; exact c_321
  have c_322 : f_18 322 = ai (ca 0) 8 (z 3) := by rw [ef_18, va_up_ne _ _ (by decide)]; exact c_322
  have c_323 : f_18 323 = ai (ca 0) 8 (z 4) := by rw [ef_18, va_up_ne _ _ (by decide)]; exact c_323
  have c_324 : f_18 324 = ai (ca 0) 8 shR := by rw [ef_18, va_up_ne _ _ (by decide)]; exact c_324
  have c_325 : f_18 325 = ai (ca 0) 64 shK := by rw [ef_18, va_up_ne _ _ (by decide)]; exact c_325
  have qn_0 : (va_up n 7 0) 0 = n 0 := by rw [va_up_ne _ _ (by decide)]
  have qn_1 : (va_up n 7 0) 1 = n 1 := by rw [va_up_ne _ _ (by decide)]
  have qn_2 : (va_up n 7 0) 2 = n 2 := by rw [va_up_ne _ _ (by decide)]
  have qn_3 : (va_up n 7 0) 3 = n 3 := by rw [va_up_ne _ _ (by decide)]
  have qn_4 : (va_up n 7 0) 4 = n 4 := by rw [va_up_ne _ _ (by decide)]
  have qn_5 : (va_up n 7 0) 5 = n 5 := by rw [va_up_ne _ _ (by decide)]
  have qn_6 : (va_up n 7 0) 6 = n 6 := by rw [va_up_ne _ _ (by decide)]
  have qn_7 : (va_up n 7 0) 7 = 0 := by rw [va_up_self]
  have hRk : RepM ca ad (va_up n 7 0) g z zn tb f_18 := ⟨(by rw [qn_7, qn_0, qn_1, qn_2, qn_3, qn_4, qn_5]; exact c_302),
        c_303,
        c_304,
        c_305,
        c_306,
        c_307,
        c_308,
        c_309,
        c_310,
        c_311,
        c_312,
        c_313,
        c_314,
        c_315,
        c_316,
        c_317,
        c_318,
        c_319,
        c_320,
        c_321,
        c_322,
        c_323,
        c_324,
        c_325, hzn⟩
  have hfr : ∀ y, (y < 302 ∨ 326 ≤ y) → f_18 y = f y := (fun y hy => by rw [ef_18, va_up_ne _ _ (by omega)])
  refine x_Vi (q := 302) (As := [.int (nI i)]) (rest := []) ⟨hx, hb, hml, hown, hts⟩ (k_X6_isFile_yes l D ca N ad B tR tK f_18 dd hN (va_up n 7 0) g z zn tb hRk i (by omega) (by omega)) (cwV 1 hts gX6_mend_X6_isFile rfl rfl rfl (by decide +kernel) ⟨Nat.le_of_ble_eq_true rfl, Nat.le_of_ble_eq_true rfl⟩) hK hE hB hw (by omega) c_302 rfl rfl rfl rfl hl.1 (Nat.le_of_ble_eq_true rfl) ⟨Nat.zero_le _, Nat.zero_le _⟩ dX6_mend_7 (fun r_20 f_19 H locs hp hw => ?_)
  obtain ⟨er, hp⟩ := hp
  rw [← er]
  rw [← hp] at hw
  refine lv_if_ne (tgt := 15) hx hb dX6_mend_10 (by decide) (fun _ => ?_) (fun h => absurd h (by decide))
  refine lv_iload_n hx hb dX6_mend_15 rfl (lv_at hl 2 rfl) ?_
  refine x_Si (As := [.int (nI j)]) (rest := []) ⟨hx, hb, hml, hown, hts⟩ (k_X6_isDay_yes l D ca N ad B tR tK f_18 dd j   (by omega)) (va_cwS 1 hts gX6_mend_X6_isDay rfl rfl rfl (by decide +kernel) ⟨Nat.le_of_ble_eq_true rfl, Nat.le_of_ble_eq_true rfl⟩) hK hE hB hw rfl rfl hl.1 (Nat.le_of_ble_eq_true rfl) ⟨Nat.zero_le _, Nat.zero_le _⟩ dX6_mend_16 (fun r_22 f_21 H locs hp hw => ?_)
  obtain ⟨er, eu⟩ := hp
  rw [← er]
  rw [← eu] at hw
  refine lv_if_ne (tgt := 25) hx hb dX6_mend_19 (by decide) (fun _ => ?_) (fun h => absurd h (by decide))
  refine lv_aload_n hx hb dX6_mend_25 rfl (lv_at hl 0 rfl) ?_
  refine lv_iload_n hx hb dX6_mend_26 rfl (lv_at hl 1 rfl) ?_
  refine x_Vi (q := 302) (As := [.int (nI i)]) (rest := []) ⟨hx, hb, hml, hown, hts⟩ (k_X6_fits l D ca N ad B tR tK f_18 dd 0 (n 0) (n 1) (n 2) (g 13 0) (n 3) (n 4) (n 5) zn (g 3) (g 4) (z 0) (z 1) (z 2) (z 3) (z 4) (g 1) (g 2) i (zN g i) c_302 c_306 c_307 c_319 c_320 c_321 c_322 c_323 c_324 c_325 c_304 c_305  (by omega) (by omega) (hsz i (by omega)).2 (hsz i (by omega)).1) (cwV 1 hts gX6_mend_X6_fits rfl rfl rfl (by decide +kernel) ⟨Nat.le_of_ble_eq_true rfl, Nat.le_of_ble_eq_true rfl⟩) hK hE hB hw (by omega) c_302 rfl rfl rfl rfl hl.1 (Nat.le_of_ble_eq_true rfl) ⟨Nat.zero_le _, Nat.zero_le _⟩ dX6_mend_27 (fun r_24 f_23 H locs hp hw => ?_)
  obtain ⟨b1_25, w1_26, v1_27, h1_28, m1_29, hq_30, er, eu⟩ := hp
  rw [← er]
  have ef_23 : f_23 = va_up (va_up (va_up (va_up (va_up (va_up f_18 302 (.inr (7, mO ad 0 (n 0) (n 1) (n 2) (g 13 0) (n 3) (n 4) (n 5) (zN g i)))) 319 (ai (ca 1) 320 b1_25)) 321 (ai (ca 0) 64 w1_26)) 323 (ai (ca 0) 8 v1_27)) 322 (ai (ca 0) 8 h1_28)) 320 (ai (ca 1) 36 m1_29) := eu
  have c_302 : f_23 302 = .inr (7, mO ad 0 (n 0) (n 1) (n 2) (g 13 0) (n 3) (n 4) (n 5) (zN g i)) := by rw [ef_23, va_up_ne _ _ (by decide), va_up_ne _ _ (by decide), va_up_ne _ _ (by decide), va_up_ne _ _ (by decide), va_up_ne _ _ (by decide), va_up_self]
  have c_319 : f_23 319 = ai (ca 1) 320 b1_25 := by rw [ef_23, va_up_ne _ _ (by decide), va_up_ne _ _ (by decide), va_up_ne _ _ (by decide), va_up_ne _ _ (by decide), va_up_self]
  have c_321 : f_23 321 = ai (ca 0) 64 w1_26 := by rw [ef_23, va_up_ne _ _ (by decide), va_up_ne _ _ (by decide), va_up_ne _ _ (by decide), va_up_self]
  have c_323 : f_23 323 = ai (ca 0) 8 v1_27 := by rw [ef_23, va_up_ne _ _ (by decide), va_up_ne _ _ (by decide), va_up_self]
  have c_322 : f_23 322 = ai (ca 0) 8 h1_28 := by rw [ef_23, va_up_ne _ _ (by decide), va_up_self]
  have c_320 : f_23 320 = ai (ca 1) 36 m1_29 := by rw [ef_23, va_up_self]
  have hz27 := (hsz i (by omega)).1
  rw [bI_f (show ¬ hasM (g 4) i (sha (zN g i) (fun x => g 1 (200 * i + x) &&& nI 255)) (crM (fun x => g 1 (200 * i + x)) (zN g i) ^^^ (-1)) (g 3 i) from hf)]
  refine lv_if_eq (tgt := 36) hx hb dX6_mend_30 (by decide) (fun _ => ?_) (fun h => False.elim (h (by decide)))
  refine lv_iconst (v := nI 0) hx hb dX6_mend_36 (by decide) ?_
  refine lv_istore_n (lv' := [(3, .int (nI 0)), (0, .ref (ad 302)), (1, .int (nI i)), (2, .int (nI j))]) hx hb dX6_mend_37 rfl hl (by decide) rfl (fun ls hl => ?_)
  have hw : xw D vwCl N ad B s.heap (va_up (va_up (va_up (va_up (va_up (va_up f 302 (.inr (7, mO ad 0 (n 0) (n 1) (n 2) (g 13 0) (n 3) (n 4) (n 5) (zN g i)))) 319 (ai (ca 1) 320 b1_25)) 321 (ai (ca 0) 64 w1_26)) 323 (ai (ca 0) 8 v1_27)) 322 (ai (ca 0) 8 h1_28)) 320 (ai (ca 1) 36 m1_29)) H locs := by
    have ez : f_23 = va_up (va_up (va_up (va_up (va_up (va_up f 302 (.inr (7, mO ad 0 (n 0) (n 1) (n 2) (g 13 0) (n 3) (n 4) (n 5) (zN g i)))) 319 (ai (ca 1) 320 b1_25)) 321 (ai (ca 0) 64 w1_26)) 323 (ai (ca 0) 8 v1_27)) 322 (ai (ca 0) 8 h1_28)) 320 (ai (ca 1) 36 m1_29) := by simp only [ef_23, ef_18, up_aa]
    rw [← ez]; exact hw
  exact P_38 ((n 2 + 1)) (zN g i) b1_25 w1_26 v1_27 h1_28 m1_29 0 _ _ _ (by omega) (by omega) (hsz i (by omega)).1 hw (lv_sub hl [1, 2, 3, 0] rfl)

set_option maxHeartbeats 4000000 in
set_option maxRecDepth 100000 in
theorem k_X6_mend_in (l : Launch) (D : va_G) (ca : Nat → ClassId) (N : Nat) (ad : Nat → Nat) (B tR tK : Nat) (f : Nat → va_E) (dd : xD N ad B) (hN : 326 ≤ N) (n : Nat → Nat) (g : Nat → Nat → Int32) (z : Nat → Nat → Int32) (zn : Nat) (tb : Nat → Int32) (hR : RepM ca ad n g z zn tb f) (i : Nat) (j : Nat) (b : Nat) (h2 : n 2 ≤ 20) (hi : i < n 2) (hj : j ≤ 1000000) (hsz : ∀ i, i < 20 → zN g i ≤ 200 ∧ g 2 i = nI (zN g i)) (hf : ¬ mFit g i i (zN g i)) (hb9 : b < n 2) (hib : i ≠ b) (hyes : mFit g b b (zN g b) ∧ mFit g b i (zN g b)) (hno : ∀ q, q < b → ¬ (mFit g q q (zN g q) ∧ mFit g q i (zN g q))) (hr9 : n 4 < 200) : xMi l yX6_mend wsX6_mend rmX6_mend [.ref (ad 302), .int (nI i), .int (nI j)] D ca N ad B tR tK f (fun r u => nI b = r ∧ ∃ (z1 : Nat → Nat → Int32) (zn1 : Nat), RepM ca ad (va_up (va_up n 7 0) 4 ((n 4) + 1)) (va_up (va_up (va_up (va_up (va_up (va_up (va_up g 1 (cpF (g 1) (fun x => g 1 (200 * b + x)) (200 * i) (zN g b))) 2 (upd (g 2) i (nI (zN g b)))) 6 (upd (g 6) i (((g 6) i) + (nI 1)))) 11 (upd (g 11) (n 4) (nI 3))) 12 (upd (g 12) (n 4) (nI i))) 14 (upd (g 14) (n 4) (nI j))) 15 (rowB (g 15) (rowS (g 15) (n 4) (nI 3) (nI i) (nI j)) (n 4))) z1 zn1 tb u ∧ ∀ y, (y < 302 ∨ 326 ≤ y) → u y = f y) := by
  refine x_open (cc := cX6_mend) (maxL := 5) (ret := (some .int)) (by decide) rfl (Nat.le_of_ble_eq_true rfl) ?_
  intro p e s m below meth c ls hx hb hml hown hts hr hlocks hnm hB hK hE hw hl
  have hown : s.vm.findClass RX6 = some m.cls := hown
  have hl : lv_has ls 5 [(0, .ref (ad 302)), (1, .int (nI i)), (2, .int (nI j))] := hl
  obtain ⟨c_302, c_303, c_304, c_305, c_306, c_307, c_308, c_309, c_310, c_311, c_312, c_313, c_314, c_315, c_316, c_317, c_318, c_319, c_320, c_321, c_322, c_323, c_324, c_325, hzn⟩ := hR
  have hin_7 : ∀ w ∈ u_ws RX6 TX6 32, w ∈ wsX6_mend := by decide +kernel
  have hf_29 := hts (.fieldLink RX6 29 "FixityRowsModel" "mended" "[I") (by decide +kernel)
  have hf_16 := hts (.fieldLink RX6 16 "FixityRowsModel" "size" "[I") (by decide +kernel)
  have hf_13 := hts (.fieldLink RX6 13 "FixityRowsModel" "bytes" "[B") (by decide +kernel)
  have hf_163 := hts (.fieldLink RX6 163 "FixityRowsModel" "files" "I") (by decide +kernel)
  have hf_160 := hts (.fieldLink RX6 160 "FixityRowsModel" "thrown" "I") (by decide +kernel)
  have b_302 := c_302
  have b_303 := c_303
  have b_304 := c_304
  have b_305 := c_305
  have b_306 := c_306
  have b_307 := c_307
  have b_308 := c_308
  have b_309 := c_309
  have b_310 := c_310
  have b_311 := c_311
  have b_312 := c_312
  have b_313 := c_313
  have b_314 := c_314
  have b_315 := c_315
  have b_316 := c_316
  have b_317 := c_317
  have b_318 := c_318
  have b_319 := c_319
  have b_320 := c_320
  have b_321 := c_321
  have b_322 := c_322
  have b_323 := c_323
  have b_324 := c_324
  have b_325 := c_325
  have P_128 : ∀ (f1 : Nat) (b1 : Nat → Int32) (w1 : Nat → Int32) (v1 : Nat → Int32) (h1 : Nat → Int32) (m1 : Nat → Int32) (H : Heap) (locs : List Loc) (ls : Array Slot), (f1 ≤ 200) → xw D vwCl N ad B s.heap (va_up (va_up (va_up (va_up (va_up (va_up (va_up (va_up f 302 (.inr (7, mO ad 0 (n 0) (n 1) (n 2) (g 13 0) (n 3) (n 4) (n 5) f1))) 319 (ai (ca 1) 320 b1)) 321 (ai (ca 0) 64 w1)) 323 (ai (ca 0) 8 v1)) 322 (ai (ca 0) 8 h1)) 320 (ai (ca 1) 36 m1)) 305 (ai (ca 0) 20 (upd (g 2) i (nI (zN g b))))) 304 (ai (ca 1) 4000 (cpF (g 1) (fun x => g 1 (200 * b + x)) (200 * i) (zN g b)))) H locs → lv_has ls 5 [(0, .ref (ad 302)), (1, .int (nI i)), (2, .int (nI j)), (3, .int (nI b))] → W p l e rmX6_mend s m ([.ref (ad 302), .int (nI i), .int (nI j)] : List Value).toArray below meth c H locs 0 0 (MQ below (xQi (fun r u => nI b = r ∧ ∃ (z1 : Nat → Nat → Int32) (zn1 : Nat), RepM ca ad (va_up (va_up n 7 0) 4 ((n 4) + 1)) (va_up (va_up (va_up (va_up (va_up (va_up (va_up g 1 (cpF (g 1) (fun x => g 1 (200 * b + x)) (200 * i) (zN g b))) 2 (upd (g 2) i (nI (zN g b)))) 6 (upd (g 6) i (((g 6) i) + (nI 1)))) 11 (upd (g 11) (n 4) (nI 3))) 12 (upd (g 12) (n 4) (nI i))) 14 (upd (g 14) (n 4) (nI j))) 15 (rowB (g 15) (rowS (g 15) (n 4) (nI 3) (nI i) (nI j)) (n 4))) z1 zn1 tb u ∧ ∀ y, (y < 302 ∨ 326 ≤ y) → u y = f y) D N ad B) ([.ref (ad 302), .int (nI i), .int (nI j)] : List Value).toArray s 0 0 (xA B)) (F0 m 128 ls []) := by
    intro f1 b1 w1 v1 h1 m1 H locs ls hf1 hw hl
    have c_302 := b_302
    have c_303 := b_303
    have c_304 := b_304
    have c_305 := b_305
    have c_306 := b_306
    have c_307 := b_307
    have c_308 := b_308
    have c_309 := b_309
    have c_310 := b_310
    have c_311 := b_311
    have c_312 := b_312
    have c_313 := b_313
    have c_314 := b_314
    have c_315 := b_315
    have c_316 := b_316
    have c_317 := b_317
    have c_318 := b_318
    have c_319 := b_319
    have c_320 := b_320
    have c_321 := b_321
    have c_322 := b_322
    have c_323 := b_323
    have c_324 := b_324
    have c_325 := b_325
    obtain ⟨f_1, ef_1⟩ : ∃ z, z = va_up (va_up (va_up (va_up (va_up (va_up (va_up (va_up f 302 (.inr (7, mO ad 0 (n 0) (n 1) (n 2) (g 13 0) (n 3) (n 4) (n 5) f1))) 319 (ai (ca 1) 320 b1)) 321 (ai (ca 0) 64 w1)) 323 (ai (ca 0) 8 v1)) 322 (ai (ca 0) 8 h1)) 320 (ai (ca 1) 36 m1)) 305 (ai (ca 0) 20 (upd (g 2) i (nI (zN g b))))) 304 (ai (ca 1) 4000 (cpF (g 1) (fun x => g 1 (200 * b + x)) (200 * i) (zN g b))) := ⟨_, rfl⟩
    have hw : xw D vwCl N ad B s.heap f_1 H locs := by rw [ef_1]; exact hw
    have c_302 : f_1 302 = .inr (7, mO ad 0 (n 0) (n 1) (n 2) (g 13 0) (n 3) (n 4) (n 5) f1) := by rw [ef_1, va_up_ne _ _ (by decide), va_up_ne _ _ (by decide), va_up_ne _ _ (by decide), va_up_ne _ _ (by decide), va_up_ne _ _ (by decide), va_up_ne _ _ (by decide), va_up_ne _ _ (by decide), va_up_self]
    have c_319 : f_1 319 = ai (ca 1) 320 b1 := by rw [ef_1, va_up_ne _ _ (by decide), va_up_ne _ _ (by decide), va_up_ne _ _ (by decide), va_up_ne _ _ (by decide), va_up_ne _ _ (by decide), va_up_ne _ _ (by decide), va_up_self]
    have c_321 : f_1 321 = ai (ca 0) 64 w1 := by rw [ef_1, va_up_ne _ _ (by decide), va_up_ne _ _ (by decide), va_up_ne _ _ (by decide), va_up_ne _ _ (by decide), va_up_ne _ _ (by decide), va_up_self]
    have c_323 : f_1 323 = ai (ca 0) 8 v1 := by rw [ef_1, va_up_ne _ _ (by decide), va_up_ne _ _ (by decide), va_up_ne _ _ (by decide), va_up_ne _ _ (by decide), va_up_self]
    have c_322 : f_1 322 = ai (ca 0) 8 h1 := by rw [ef_1, va_up_ne _ _ (by decide), va_up_ne _ _ (by decide), va_up_ne _ _ (by decide), va_up_self]
    have c_320 : f_1 320 = ai (ca 1) 36 m1 := by rw [ef_1, va_up_ne _ _ (by decide), va_up_ne _ _ (by decide), va_up_self]
    have c_305 : f_1 305 = ai (ca 0) 20 (upd (g 2) i (nI (zN g b))) := by rw [ef_1, va_up_ne _ _ (by decide), va_up_self]
    have c_304 : f_1 304 = ai (ca 1) 4000 (cpF (g 1) (fun x => g 1 (200 * b + x)) (200 * i) (zN g b)) := by rw [ef_1, va_up_self]
    refine lv_aload_n hx hb dX6_mend_128 rfl (lv_at hl 0 rfl) ?_
    refine x_get (ci := 7) (C := RX6) (T := TX6) (n := 32) (ref := RX6) hx hb hts hin_7 hown hK hw 302 (by omega) c_302 rfl 10 (by decide) hf_29 (fun _ h => h) rfl dX6_mend_129 ?_
    refine lv_iload_n hx hb dX6_mend_132 rfl (lv_at hl 1 rfl) ?_
    refine lv_dup2_11 hx hb dX6_mend_133 rfl rfl ?_
    have c_309 : f_1 309 = ai (ca 0) 20 (g 6) := by rw [ef_1, va_up_ne _ _ (by decide), va_up_ne _ _ (by decide), va_up_ne _ _ (by decide), va_up_ne _ _ (by decide), va_up_ne _ _ (by decide), va_up_ne _ _ (by decide), va_up_ne _ _ (by decide), va_up_ne _ _ (by decide)]; exact c_309
    refine x_iald (j := i) hx hb hK hw 309 0 (by omega) c_309 rfl rfl (by omega) (by decide) dX6_mend_134 ?_
    refine lv_iconst (v := nI 1) hx hb dX6_mend_135 (by decide) ?_
    refine lv_iadd hx hb dX6_mend_136 ?_
    refine lv_topi (fun x_2 ex_2 => ?_)
    refine x_iast (j := i) hx hb hK dd hw 309 0 (by omega) c_309 rfl rfl (by omega) (by decide) dX6_mend_137 (fun H locs hw => ?_)
    obtain ⟨f_3, ef_3⟩ : ∃ z, z = va_up f_1 309 (ai (ca 0) 20 (upd (g 6) i x_2)) := ⟨_, rfl⟩
    have hw : xw D vwCl N ad B s.heap f_3 H locs := by rw [ef_3]; exact hw
    have c_309 : f_3 309 = ai (ca 0) 20 (upd (g 6) i x_2) := va_up_of ef_3
    refine lv_aload_n hx hb dX6_mend_138 rfl (lv_at hl 0 rfl) ?_
    refine lv_iconst (v := nI 3) hx hb dX6_mend_139 (by decide) ?_
    refine lv_iload_n hx hb dX6_mend_140 rfl (lv_at hl 1 rfl) ?_
    refine lv_iload_n hx hb dX6_mend_141 rfl (lv_at hl 2 rfl) ?_
    have c_302 : f_3 302 = .inr (7, mO ad 0 (n 0) (n 1) (n 2) (g 13 0) (n 3) (n 4) (n 5) f1) := by rw [ef_3, va_up_ne _ _ (by decide)]; exact c_302
    have c_314 : f_3 314 = ai (ca 0) 200 (g 11) := by rw [ef_3, va_up_ne _ _ (by decide), ef_1, va_up_ne _ _ (by decide), va_up_ne _ _ (by decide), va_up_ne _ _ (by decide), va_up_ne _ _ (by decide), va_up_ne _ _ (by decide), va_up_ne _ _ (by decide), va_up_ne _ _ (by decide), va_up_ne _ _ (by decide)]; exact c_314
    have c_315 : f_3 315 = ai (ca 0) 200 (g 12) := by rw [ef_3, va_up_ne _ _ (by decide), ef_1, va_up_ne _ _ (by decide), va_up_ne _ _ (by decide), va_up_ne _ _ (by decide), va_up_ne _ _ (by decide), va_up_ne _ _ (by decide), va_up_ne _ _ (by decide), va_up_ne _ _ (by decide), va_up_ne _ _ (by decide)]; exact c_315
    have c_316 : f_3 316 = ai (ca 0) 200 (g 14) := by rw [ef_3, va_up_ne _ _ (by decide), ef_1, va_up_ne _ _ (by decide), va_up_ne _ _ (by decide), va_up_ne _ _ (by decide), va_up_ne _ _ (by decide), va_up_ne _ _ (by decide), va_up_ne _ _ (by decide), va_up_ne _ _ (by decide), va_up_ne _ _ (by decide)]; exact c_316
    have c_317 : f_3 317 = ai (ca 1) 6400 (g 15) := by rw [ef_3, va_up_ne _ _ (by decide), ef_1, va_up_ne _ _ (by decide), va_up_ne _ _ (by decide), va_up_ne _ _ (by decide), va_up_ne _ _ (by decide), va_up_ne _ _ (by decide), va_up_ne _ _ (by decide), va_up_ne _ _ (by decide), va_up_ne _ _ (by decide)]; exact c_317
    have c_319 : f_3 319 = ai (ca 1) 320 b1 := by rw [ef_3, va_up_ne _ _ (by decide)]; exact c_319
    have c_320 : f_3 320 = ai (ca 1) 36 m1 := by rw [ef_3, va_up_ne _ _ (by decide)]; exact c_320
    have c_321 : f_3 321 = ai (ca 0) 64 w1 := by rw [ef_3, va_up_ne _ _ (by decide)]; exact c_321
    have c_322 : f_3 322 = ai (ca 0) 8 h1 := by rw [ef_3, va_up_ne _ _ (by decide)]; exact c_322
    have c_323 : f_3 323 = ai (ca 0) 8 v1 := by rw [ef_3, va_up_ne _ _ (by decide)]; exact c_323
    have c_324 : f_3 324 = ai (ca 0) 8 shR := by rw [ef_3, va_up_ne _ _ (by decide), ef_1, va_up_ne _ _ (by decide), va_up_ne _ _ (by decide), va_up_ne _ _ (by decide), va_up_ne _ _ (by decide), va_up_ne _ _ (by decide), va_up_ne _ _ (by decide), va_up_ne _ _ (by decide), va_up_ne _ _ (by decide)]; exact c_324
    have c_325 : f_3 325 = ai (ca 0) 64 shK := by rw [ef_3, va_up_ne _ _ (by decide), ef_1, va_up_ne _ _ (by decide), va_up_ne _ _ (by decide), va_up_ne _ _ (by decide), va_up_ne _ _ (by decide), va_up_ne _ _ (by decide), va_up_ne _ _ (by decide), va_up_ne _ _ (by decide), va_up_ne _ _ (by decide)]; exact c_325
    refine x_Vv (q := 302) (As := [.int (nI 3), .int (nI i), .int (nI j)]) (rest := []) ⟨hx, hb, hml, hown, hts⟩ (k_X6_enter_in l D ca N ad B tR tK f_3 dd 0 (n 0) (n 1) (n 2) (g 13 0) (n 3) (n 4) (n 5) f1 (g 11) (g 12) (g 14) (g 15) b1 m1 w1 h1 v1 (nI 3) (nI i) (nI j) c_302 c_314 c_315 c_316 c_317 c_319 c_320 c_321 c_322 c_323 c_324 c_325  (by omega) (by omega)) (cwV 3 hts gX6_mend_X6_enter rfl rfl rfl (by decide +kernel) ⟨Nat.le_of_ble_eq_true rfl, Nat.le_of_ble_eq_true rfl⟩) hK hE hB hw (by omega) c_302 rfl rfl rfl rfl hl.1 (Nat.le_of_ble_eq_true rfl) ⟨Nat.zero_le _, Nat.zero_le _⟩ dX6_mend_142 (fun f_4 H locs hp hw => ?_)
    obtain ⟨b1_6, w1_7, v1_8, h1_9, eu⟩ := hp
    have ef_4 : f_4 = va_up (va_up (va_up (va_up (va_up (va_up (va_up (va_up (va_up (va_up f_3 314 (ai (ca 0) 200 (upd (g 11) (n 4) (nI 3)))) 315 (ai (ca 0) 200 (upd (g 12) (n 4) (nI i)))) 316 (ai (ca 0) 200 (upd (g 14) (n 4) (nI j)))) 302 (.inr (7, mO ad 0 (n 0) (n 1) (n 2) (g 13 0) (n 3) ((n 4) + 1) (n 5) 44))) 319 (ai (ca 1) 320 b1_6)) 321 (ai (ca 0) 64 w1_7)) 323 (ai (ca 0) 8 v1_8)) 322 (ai (ca 0) 8 h1_9)) 320 (ai (ca 1) 36 (mkf m1 (rowS (g 15) (n 4) (nI 3) (nI i) (nI j)) 32))) 317 (ai (ca 1) 6400 (rowB (g 15) (rowS (g 15) (n 4) (nI 3) (nI i) (nI j)) (n 4))) := eu
    have c_314 : f_4 314 = ai (ca 0) 200 (upd (g 11) (n 4) (nI 3)) := by rw [ef_4, va_up_ne _ _ (by decide), va_up_ne _ _ (by decide), va_up_ne _ _ (by decide), va_up_ne _ _ (by decide), va_up_ne _ _ (by decide), va_up_ne _ _ (by decide), va_up_ne _ _ (by decide), va_up_ne _ _ (by decide), va_up_ne _ _ (by decide), va_up_self]
    have c_315 : f_4 315 = ai (ca 0) 200 (upd (g 12) (n 4) (nI i)) := by rw [ef_4, va_up_ne _ _ (by decide), va_up_ne _ _ (by decide), va_up_ne _ _ (by decide), va_up_ne _ _ (by decide), va_up_ne _ _ (by decide), va_up_ne _ _ (by decide), va_up_ne _ _ (by decide), va_up_ne _ _ (by decide), va_up_self]
    have c_316 : f_4 316 = ai (ca 0) 200 (upd (g 14) (n 4) (nI j)) := by rw [ef_4, va_up_ne _ _ (by decide), va_up_ne _ _ (by decide), va_up_ne _ _ (by decide), va_up_ne _ _ (by decide), va_up_ne _ _ (by decide), va_up_ne _ _ (by decide), va_up_ne _ _ (by decide), va_up_self]
    have c_302 : f_4 302 = .inr (7, mO ad 0 (n 0) (n 1) (n 2) (g 13 0) (n 3) ((n 4) + 1) (n 5) 44) := by rw [ef_4, va_up_ne _ _ (by decide), va_up_ne _ _ (by decide), va_up_ne _ _ (by decide), va_up_ne _ _ (by decide), va_up_ne _ _ (by decide), va_up_ne _ _ (by decide), va_up_self]
    have c_319 : f_4 319 = ai (ca 1) 320 b1_6 := by rw [ef_4, va_up_ne _ _ (by decide), va_up_ne _ _ (by decide), va_up_ne _ _ (by decide), va_up_ne _ _ (by decide), va_up_ne _ _ (by decide), va_up_self]
    have c_321 : f_4 321 = ai (ca 0) 64 w1_7 := by rw [ef_4, va_up_ne _ _ (by decide), va_up_ne _ _ (by decide), va_up_ne _ _ (by decide), va_up_ne _ _ (by decide), va_up_self]
    have c_323 : f_4 323 = ai (ca 0) 8 v1_8 := by rw [ef_4, va_up_ne _ _ (by decide), va_up_ne _ _ (by decide), va_up_ne _ _ (by decide), va_up_self]
    have c_322 : f_4 322 = ai (ca 0) 8 h1_9 := by rw [ef_4, va_up_ne _ _ (by decide), va_up_ne _ _ (by decide), va_up_self]
    have c_320 : f_4 320 = ai (ca 1) 36 (mkf m1 (rowS (g 15) (n 4) (nI 3) (nI i) (nI j)) 32) := by rw [ef_4, va_up_ne _ _ (by decide), va_up_self]
    have c_317 : f_4 317 = ai (ca 1) 6400 (rowB (g 15) (rowS (g 15) (n 4) (nI 3) (nI i) (nI j)) (n 4)) := by rw [ef_4, va_up_self]
    refine lv_iload_n hx hb dX6_mend_145 rfl (lv_at hl 3 rfl) ?_
    have c_303 : f_4 303 = ai (ca 1) 200 (g 0) := by rw [ef_4, va_up_ne _ _ (by decide), va_up_ne _ _ (by decide), va_up_ne _ _ (by decide), va_up_ne _ _ (by decide), va_up_ne _ _ (by decide), va_up_ne _ _ (by decide), va_up_ne _ _ (by decide), va_up_ne _ _ (by decide), va_up_ne _ _ (by decide), va_up_ne _ _ (by decide), ef_3, va_up_ne _ _ (by decide), ef_1, va_up_ne _ _ (by decide), va_up_ne _ _ (by decide), va_up_ne _ _ (by decide), va_up_ne _ _ (by decide), va_up_ne _ _ (by decide), va_up_ne _ _ (by decide), va_up_ne _ _ (by decide), va_up_ne _ _ (by decide)]; exact c_303
    have c_304 : f_4 304 = ai (ca 1) 4000 (cpF (g 1) (fun x => g 1 (200 * b + x)) (200 * i) (zN g b)) := by rw [ef_4, va_up_ne _ _ (by decide), va_up_ne _ _ (by decide), va_up_ne _ _ (by decide), va_up_ne _ _ (by decide), va_up_ne _ _ (by decide), va_up_ne _ _ (by decide), va_up_ne _ _ (by decide), va_up_ne _ _ (by decide), va_up_ne _ _ (by decide), va_up_ne _ _ (by decide), ef_3, va_up_ne _ _ (by decide)]; exact c_304
    have c_305 : f_4 305 = ai (ca 0) 20 (upd (g 2) i (nI (zN g b))) := by rw [ef_4, va_up_ne _ _ (by decide), va_up_ne _ _ (by decide), va_up_ne _ _ (by decide), va_up_ne _ _ (by decide), va_up_ne _ _ (by decide), va_up_ne _ _ (by decide), va_up_ne _ _ (by decide), va_up_ne _ _ (by decide), va_up_ne _ _ (by decide), va_up_ne _ _ (by decide), ef_3, va_up_ne _ _ (by decide)]; exact c_305
    have c_306 : f_4 306 = ai (ca 0) 20 (g 3) := by rw [ef_4, va_up_ne _ _ (by decide), va_up_ne _ _ (by decide), va_up_ne _ _ (by decide), va_up_ne _ _ (by decide), va_up_ne _ _ (by decide), va_up_ne _ _ (by decide), va_up_ne _ _ (by decide), va_up_ne _ _ (by decide), va_up_ne _ _ (by decide), va_up_ne _ _ (by decide), ef_3, va_up_ne _ _ (by decide), ef_1, va_up_ne _ _ (by decide), va_up_ne _ _ (by decide), va_up_ne _ _ (by decide), va_up_ne _ _ (by decide), va_up_ne _ _ (by decide), va_up_ne _ _ (by decide), va_up_ne _ _ (by decide), va_up_ne _ _ (by decide)]; exact c_306
    have c_307 : f_4 307 = ai (ca 1) 720 (g 4) := by rw [ef_4, va_up_ne _ _ (by decide), va_up_ne _ _ (by decide), va_up_ne _ _ (by decide), va_up_ne _ _ (by decide), va_up_ne _ _ (by decide), va_up_ne _ _ (by decide), va_up_ne _ _ (by decide), va_up_ne _ _ (by decide), va_up_ne _ _ (by decide), va_up_ne _ _ (by decide), ef_3, va_up_ne _ _ (by decide), ef_1, va_up_ne _ _ (by decide), va_up_ne _ _ (by decide), va_up_ne _ _ (by decide), va_up_ne _ _ (by decide), va_up_ne _ _ (by decide), va_up_ne _ _ (by decide), va_up_ne _ _ (by decide), va_up_ne _ _ (by decide)]; exact c_307
    have c_308 : f_4 308 = ai (ca 0) 20 (g 5) := by rw [ef_4, va_up_ne _ _ (by decide), va_up_ne _ _ (by decide), va_up_ne _ _ (by decide), va_up_ne _ _ (by decide), va_up_ne _ _ (by decide), va_up_ne _ _ (by decide), va_up_ne _ _ (by decide), va_up_ne _ _ (by decide), va_up_ne _ _ (by decide), va_up_ne _ _ (by decide), ef_3, va_up_ne _ _ (by decide), ef_1, va_up_ne _ _ (by decide), va_up_ne _ _ (by decide), va_up_ne _ _ (by decide), va_up_ne _ _ (by decide), va_up_ne _ _ (by decide), va_up_ne _ _ (by decide), va_up_ne _ _ (by decide), va_up_ne _ _ (by decide)]; exact c_308
    have c_309 : f_4 309 = ai (ca 0) 20 (upd (g 6) i x_2) := by rw [ef_4, va_up_ne _ _ (by decide), va_up_ne _ _ (by decide), va_up_ne _ _ (by decide), va_up_ne _ _ (by decide), va_up_ne _ _ (by decide), va_up_ne _ _ (by decide), va_up_ne _ _ (by decide), va_up_ne _ _ (by decide), va_up_ne _ _ (by decide), va_up_ne _ _ (by decide)]; exact c_309
    have c_310 : f_4 310 = ai (ca 0) 20 (g 7) := by rw [ef_4, va_up_ne _ _ (by decide), va_up_ne _ _ (by decide), va_up_ne _ _ (by decide), va_up_ne _ _ (by decide), va_up_ne _ _ (by decide), va_up_ne _ _ (by decide), va_up_ne _ _ (by decide), va_up_ne _ _ (by decide), va_up_ne _ _ (by decide), va_up_ne _ _ (by decide), ef_3, va_up_ne _ _ (by decide), ef_1, va_up_ne _ _ (by decide), va_up_ne _ _ (by decide), va_up_ne _ _ (by decide), va_up_ne _ _ (by decide), va_up_ne _ _ (by decide), va_up_ne _ _ (by decide), va_up_ne _ _ (by decide), va_up_ne _ _ (by decide)]; exact c_310
    have c_311 : f_4 311 = ai (ca 0) 20 (g 8) := by rw [ef_4, va_up_ne _ _ (by decide), va_up_ne _ _ (by decide), va_up_ne _ _ (by decide), va_up_ne _ _ (by decide), va_up_ne _ _ (by decide), va_up_ne _ _ (by decide), va_up_ne _ _ (by decide), va_up_ne _ _ (by decide), va_up_ne _ _ (by decide), va_up_ne _ _ (by decide), ef_3, va_up_ne _ _ (by decide), ef_1, va_up_ne _ _ (by decide), va_up_ne _ _ (by decide), va_up_ne _ _ (by decide), va_up_ne _ _ (by decide), va_up_ne _ _ (by decide), va_up_ne _ _ (by decide), va_up_ne _ _ (by decide), va_up_ne _ _ (by decide)]; exact c_311
    have c_312 : f_4 312 = ai (ca 0) 20 (g 9) := by rw [ef_4, va_up_ne _ _ (by decide), va_up_ne _ _ (by decide), va_up_ne _ _ (by decide), va_up_ne _ _ (by decide), va_up_ne _ _ (by decide), va_up_ne _ _ (by decide), va_up_ne _ _ (by decide), va_up_ne _ _ (by decide), va_up_ne _ _ (by decide), va_up_ne _ _ (by decide), ef_3, va_up_ne _ _ (by decide), ef_1, va_up_ne _ _ (by decide), va_up_ne _ _ (by decide), va_up_ne _ _ (by decide), va_up_ne _ _ (by decide), va_up_ne _ _ (by decide), va_up_ne _ _ (by decide), va_up_ne _ _ (by decide), va_up_ne _ _ (by decide)]; exact c_312
    have c_313 : f_4 313 = ai (ca 2) 20 (g 10) := by rw [ef_4, va_up_ne _ _ (by decide), va_up_ne _ _ (by decide), va_up_ne _ _ (by decide), va_up_ne _ _ (by decide), va_up_ne _ _ (by decide), va_up_ne _ _ (by decide), va_up_ne _ _ (by decide), va_up_ne _ _ (by decide), va_up_ne _ _ (by decide), va_up_ne _ _ (by decide), ef_3, va_up_ne _ _ (by decide), ef_1, va_up_ne _ _ (by decide), va_up_ne _ _ (by decide), va_up_ne _ _ (by decide), va_up_ne _ _ (by decide), va_up_ne _ _ (by decide), va_up_ne _ _ (by decide), va_up_ne _ _ (by decide), va_up_ne _ _ (by decide)]; exact c_313
    have c_318 : f_4 318 = ai (ca 1) 32 (g 16) := by rw [ef_4, va_up_ne _ _ (by decide), va_up_ne _ _ (by decide), va_up_ne _ _ (by decide), va_up_ne _ _ (by decide), va_up_ne _ _ (by decide), va_up_ne _ _ (by decide), va_up_ne _ _ (by decide), va_up_ne _ _ (by decide), va_up_ne _ _ (by decide), va_up_ne _ _ (by decide), ef_3, va_up_ne _ _ (by decide), ef_1, va_up_ne _ _ (by decide), va_up_ne _ _ (by decide), va_up_ne _ _ (by decide), va_up_ne _ _ (by decide), va_up_ne _ _ (by decide), va_up_ne _ _ (by decide), va_up_ne _ _ (by decide), va_up_ne _ _ (by decide)]; exact c_318
    have c_324 : f_4 324 = ai (ca 0) 8 shR := by rw [ef_4, va_up_ne _ _ (by decide), va_up_ne _ _ (by decide), va_up_ne _ _ (by decide), va_up_ne _ _ (by decide), va_up_ne _ _ (by decide), va_up_ne _ _ (by decide), va_up_ne _ _ (by decide), va_up_ne _ _ (by decide), va_up_ne _ _ (by decide), va_up_ne _ _ (by decide)]; exact c_324
    have c_325 : f_4 325 = ai (ca 0) 64 shK := by rw [ef_4, va_up_ne _ _ (by decide), va_up_ne _ _ (by decide), va_up_ne _ _ (by decide), va_up_ne _ _ (by decide), va_up_ne _ _ (by decide), va_up_ne _ _ (by decide), va_up_ne _ _ (by decide), va_up_ne _ _ (by decide), va_up_ne _ _ (by decide), va_up_ne _ _ (by decide)]; exact c_325
    have c_309 : f_4 309 = ai (ca 0) 20 (upd (g 6) i (((g 6) i) + (nI 1))) := by rw [c_309]; simp only [ex_2]
    have qn_0 : (va_up (va_up n 7 0) 4 ((n 4) + 1)) 0 = n 0 := by rw [va_up_ne _ _ (by decide), va_up_ne _ _ (by decide)]
    have qn_1 : (va_up (va_up n 7 0) 4 ((n 4) + 1)) 1 = n 1 := by rw [va_up_ne _ _ (by decide), va_up_ne _ _ (by decide)]
    have qn_2 : (va_up (va_up n 7 0) 4 ((n 4) + 1)) 2 = n 2 := by rw [va_up_ne _ _ (by decide), va_up_ne _ _ (by decide)]
    have qn_3 : (va_up (va_up n 7 0) 4 ((n 4) + 1)) 3 = n 3 := by rw [va_up_ne _ _ (by decide), va_up_ne _ _ (by decide)]
    have qn_4 : (va_up (va_up n 7 0) 4 ((n 4) + 1)) 4 = (n 4) + 1 := by rw [va_up_self]
    have qn_5 : (va_up (va_up n 7 0) 4 ((n 4) + 1)) 5 = n 5 := by rw [va_up_ne _ _ (by decide), va_up_ne _ _ (by decide)]
    have qn_6 : (va_up (va_up n 7 0) 4 ((n 4) + 1)) 6 = n 6 := by rw [va_up_ne _ _ (by decide), va_up_ne _ _ (by decide)]
    have qn_7 : (va_up (va_up n 7 0) 4 ((n 4) + 1)) 7 = 0 := by rw [va_up_ne _ _ (by decide), va_up_self]
    have qg_0 : (va_up (va_up (va_up (va_up (va_up (va_up (va_up g 1 (cpF (g 1) (fun x => g 1 (200 * b + x)) (200 * i) (zN g b))) 2 (upd (g 2) i (nI (zN g b)))) 6 (upd (g 6) i (((g 6) i) + (nI 1)))) 11 (upd (g 11) (n 4) (nI 3))) 12 (upd (g 12) (n 4) (nI i))) 14 (upd (g 14) (n 4) (nI j))) 15 (rowB (g 15) (rowS (g 15) (n 4) (nI 3) (nI i) (nI j)) (n 4))) 0 = g 0 := by rw [va_up_ne _ _ (by decide), va_up_ne _ _ (by decide), va_up_ne _ _ (by decide), va_up_ne _ _ (by decide), va_up_ne _ _ (by decide), va_up_ne _ _ (by decide), va_up_ne _ _ (by decide)]
    have qg_1 : (va_up (va_up (va_up (va_up (va_up (va_up (va_up g 1 (cpF (g 1) (fun x => g 1 (200 * b + x)) (200 * i) (zN g b))) 2 (upd (g 2) i (nI (zN g b)))) 6 (upd (g 6) i (((g 6) i) + (nI 1)))) 11 (upd (g 11) (n 4) (nI 3))) 12 (upd (g 12) (n 4) (nI i))) 14 (upd (g 14) (n 4) (nI j))) 15 (rowB (g 15) (rowS (g 15) (n 4) (nI 3) (nI i) (nI j)) (n 4))) 1 = cpF (g 1) (fun x => g 1 (200 * b + x)) (200 * i) (zN g b) := by rw [va_up_ne _ _ (by decide), va_up_ne _ _ (by decide), va_up_ne _ _ (by decide), va_up_ne _ _ (by decide), va_up_ne _ _ (by decide), va_up_ne _ _ (by decide), va_up_self]
    have qg_2 : (va_up (va_up (va_up (va_up (va_up (va_up (va_up g 1 (cpF (g 1) (fun x => g 1 (200 * b + x)) (200 * i) (zN g b))) 2 (upd (g 2) i (nI (zN g b)))) 6 (upd (g 6) i (((g 6) i) + (nI 1)))) 11 (upd (g 11) (n 4) (nI 3))) 12 (upd (g 12) (n 4) (nI i))) 14 (upd (g 14) (n 4) (nI j))) 15 (rowB (g 15) (rowS (g 15) (n 4) (nI 3) (nI i) (nI j)) (n 4))) 2 = upd (g 2) i (nI (zN g b)) := by rw [va_up_ne _ _ (by decide), va_up_ne _ _ (by decide), va_up_ne _ _ (by decide), va_up_ne _ _ (by decide), va_up_ne _ _ (by decide), va_up_self]
    have qg_3 : (va_up (va_up (va_up (va_up (va_up (va_up (va_up g 1 (cpF (g 1) (fun x => g 1 (200 * b + x)) (200 * i) (zN g b))) 2 (upd (g 2) i (nI (zN g b)))) 6 (upd (g 6) i (((g 6) i) + (nI 1)))) 11 (upd (g 11) (n 4) (nI 3))) 12 (upd (g 12) (n 4) (nI i))) 14 (upd (g 14) (n 4) (nI j))) 15 (rowB (g 15) (rowS (g 15) (n 4) (nI 3) (nI i) (nI j)) (n 4))) 3 = g 3 := by rw [va_up_ne _ _ (by decide), va_up_ne _ _ (by decide), va_up_ne _ _ (by decide), va_up_ne _ _ (by decide), va_up_ne _ _ (by decide), va_up_ne _ _ (by decide), va_up_ne _ _ (by decide)]
    have qg_4 : (va_up (va_up (va_up (va_up (va_up (va_up (va_up g 1 (cpF (g 1) (fun x => g 1 (200 * b + x)) (200 * i) (zN g b))) 2 (upd (g 2) i (nI (zN g b)))) 6 (upd (g 6) i (((g 6) i) + (nI 1)))) 11 (upd (g 11) (n 4) (nI 3))) 12 (upd (g 12) (n 4) (nI i))) 14 (upd (g 14) (n 4) (nI j))) 15 (rowB (g 15) (rowS (g 15) (n 4) (nI 3) (nI i) (nI j)) (n 4))) 4 = g 4 := by rw [va_up_ne _ _ (by decide), va_up_ne _ _ (by decide), va_up_ne _ _ (by decide), va_up_ne _ _ (by decide), va_up_ne _ _ (by decide), va_up_ne _ _ (by decide), va_up_ne _ _ (by decide)]
    have qg_5 : (va_up (va_up (va_up (va_up (va_up (va_up (va_up g 1 (cpF (g 1) (fun x => g 1 (200 * b + x)) (200 * i) (zN g b))) 2 (upd (g 2) i (nI (zN g b)))) 6 (upd (g 6) i (((g 6) i) + (nI 1)))) 11 (upd (g 11) (n 4) (nI 3))) 12 (upd (g 12) (n 4) (nI i))) 14 (upd (g 14) (n 4) (nI j))) 15 (rowB (g 15) (rowS (g 15) (n 4) (nI 3) (nI i) (nI j)) (n 4))) 5 = g 5 := by rw [va_up_ne _ _ (by decide), va_up_ne _ _ (by decide), va_up_ne _ _ (by decide), va_up_ne _ _ (by decide), va_up_ne _ _ (by decide), va_up_ne _ _ (by decide), va_up_ne _ _ (by decide)]
    have qg_6 : (va_up (va_up (va_up (va_up (va_up (va_up (va_up g 1 (cpF (g 1) (fun x => g 1 (200 * b + x)) (200 * i) (zN g b))) 2 (upd (g 2) i (nI (zN g b)))) 6 (upd (g 6) i (((g 6) i) + (nI 1)))) 11 (upd (g 11) (n 4) (nI 3))) 12 (upd (g 12) (n 4) (nI i))) 14 (upd (g 14) (n 4) (nI j))) 15 (rowB (g 15) (rowS (g 15) (n 4) (nI 3) (nI i) (nI j)) (n 4))) 6 = upd (g 6) i (((g 6) i) + (nI 1)) := by rw [va_up_ne _ _ (by decide), va_up_ne _ _ (by decide), va_up_ne _ _ (by decide), va_up_ne _ _ (by decide), va_up_self]
    have qg_7 : (va_up (va_up (va_up (va_up (va_up (va_up (va_up g 1 (cpF (g 1) (fun x => g 1 (200 * b + x)) (200 * i) (zN g b))) 2 (upd (g 2) i (nI (zN g b)))) 6 (upd (g 6) i (((g 6) i) + (nI 1)))) 11 (upd (g 11) (n 4) (nI 3))) 12 (upd (g 12) (n 4) (nI i))) 14 (upd (g 14) (n 4) (nI j))) 15 (rowB (g 15) (rowS (g 15) (n 4) (nI 3) (nI i) (nI j)) (n 4))) 7 = g 7 := by rw [va_up_ne _ _ (by decide), va_up_ne _ _ (by decide), va_up_ne _ _ (by decide), va_up_ne _ _ (by decide), va_up_ne _ _ (by decide), va_up_ne _ _ (by decide), va_up_ne _ _ (by decide)]
    have qg_8 : (va_up (va_up (va_up (va_up (va_up (va_up (va_up g 1 (cpF (g 1) (fun x => g 1 (200 * b + x)) (200 * i) (zN g b))) 2 (upd (g 2) i (nI (zN g b)))) 6 (upd (g 6) i (((g 6) i) + (nI 1)))) 11 (upd (g 11) (n 4) (nI 3))) 12 (upd (g 12) (n 4) (nI i))) 14 (upd (g 14) (n 4) (nI j))) 15 (rowB (g 15) (rowS (g 15) (n 4) (nI 3) (nI i) (nI j)) (n 4))) 8 = g 8 := by rw [va_up_ne _ _ (by decide), va_up_ne _ _ (by decide), va_up_ne _ _ (by decide), va_up_ne _ _ (by decide), va_up_ne _ _ (by decide), va_up_ne _ _ (by decide), va_up_ne _ _ (by decide)]
    have qg_9 : (va_up (va_up (va_up (va_up (va_up (va_up (va_up g 1 (cpF (g 1) (fun x => g 1 (200 * b + x)) (200 * i) (zN g b))) 2 (upd (g 2) i (nI (zN g b)))) 6 (upd (g 6) i (((g 6) i) + (nI 1)))) 11 (upd (g 11) (n 4) (nI 3))) 12 (upd (g 12) (n 4) (nI i))) 14 (upd (g 14) (n 4) (nI j))) 15 (rowB (g 15) (rowS (g 15) (n 4) (nI 3) (nI i) (nI j)) (n 4))) 9 = g 9 := by rw [va_up_ne _ _ (by decide), va_up_ne _ _ (by decide), va_up_ne _ _ (by decide), va_up_ne _ _ (by decide), va_up_ne _ _ (by decide), va_up_ne _ _ (by decide), va_up_ne _ _ (by decide)]
    have qg_10 : (va_up (va_up (va_up (va_up (va_up (va_up (va_up g 1 (cpF (g 1) (fun x => g 1 (200 * b + x)) (200 * i) (zN g b))) 2 (upd (g 2) i (nI (zN g b)))) 6 (upd (g 6) i (((g 6) i) + (nI 1)))) 11 (upd (g 11) (n 4) (nI 3))) 12 (upd (g 12) (n 4) (nI i))) 14 (upd (g 14) (n 4) (nI j))) 15 (rowB (g 15) (rowS (g 15) (n 4) (nI 3) (nI i) (nI j)) (n 4))) 10 = g 10 := by rw [va_up_ne _ _ (by decide), va_up_ne _ _ (by decide), va_up_ne _ _ (by decide), va_up_ne _ _ (by decide), va_up_ne _ _ (by decide), va_up_ne _ _ (by decide), va_up_ne _ _ (by decide)]
    have qg_11 : (va_up (va_up (va_up (va_up (va_up (va_up (va_up g 1 (cpF (g 1) (fun x => g 1 (200 * b + x)) (200 * i) (zN g b))) 2 (upd (g 2) i (nI (zN g b)))) 6 (upd (g 6) i (((g 6) i) + (nI 1)))) 11 (upd (g 11) (n 4) (nI 3))) 12 (upd (g 12) (n 4) (nI i))) 14 (upd (g 14) (n 4) (nI j))) 15 (rowB (g 15) (rowS (g 15) (n 4) (nI 3) (nI i) (nI j)) (n 4))) 11 = upd (g 11) (n 4) (nI 3) := by rw [va_up_ne _ _ (by decide), va_up_ne _ _ (by decide), va_up_ne _ _ (by decide), va_up_self]
    have qg_12 : (va_up (va_up (va_up (va_up (va_up (va_up (va_up g 1 (cpF (g 1) (fun x => g 1 (200 * b + x)) (200 * i) (zN g b))) 2 (upd (g 2) i (nI (zN g b)))) 6 (upd (g 6) i (((g 6) i) + (nI 1)))) 11 (upd (g 11) (n 4) (nI 3))) 12 (upd (g 12) (n 4) (nI i))) 14 (upd (g 14) (n 4) (nI j))) 15 (rowB (g 15) (rowS (g 15) (n 4) (nI 3) (nI i) (nI j)) (n 4))) 12 = upd (g 12) (n 4) (nI i) := by rw [va_up_ne _ _ (by decide), va_up_ne _ _ (by decide), va_up_self]
    have qg_13 : (va_up (va_up (va_up (va_up (va_up (va_up (va_up g 1 (cpF (g 1) (fun x => g 1 (200 * b + x)) (200 * i) (zN g b))) 2 (upd (g 2) i (nI (zN g b)))) 6 (upd (g 6) i (((g 6) i) + (nI 1)))) 11 (upd (g 11) (n 4) (nI 3))) 12 (upd (g 12) (n 4) (nI i))) 14 (upd (g 14) (n 4) (nI j))) 15 (rowB (g 15) (rowS (g 15) (n 4) (nI 3) (nI i) (nI j)) (n 4))) 13 = g 13 := by rw [va_up_ne _ _ (by decide), va_up_ne _ _ (by decide), va_up_ne _ _ (by decide), va_up_ne _ _ (by decide), va_up_ne _ _ (by decide), va_up_ne _ _ (by decide), va_up_ne _ _ (by decide)]
    have qg_14 : (va_up (va_up (va_up (va_up (va_up (va_up (va_up g 1 (cpF (g 1) (fun x => g 1 (200 * b + x)) (200 * i) (zN g b))) 2 (upd (g 2) i (nI (zN g b)))) 6 (upd (g 6) i (((g 6) i) + (nI 1)))) 11 (upd (g 11) (n 4) (nI 3))) 12 (upd (g 12) (n 4) (nI i))) 14 (upd (g 14) (n 4) (nI j))) 15 (rowB (g 15) (rowS (g 15) (n 4) (nI 3) (nI i) (nI j)) (n 4))) 14 = upd (g 14) (n 4) (nI j) := by rw [va_up_ne _ _ (by decide), va_up_self]
    have qg_15 : (va_up (va_up (va_up (va_up (va_up (va_up (va_up g 1 (cpF (g 1) (fun x => g 1 (200 * b + x)) (200 * i) (zN g b))) 2 (upd (g 2) i (nI (zN g b)))) 6 (upd (g 6) i (((g 6) i) + (nI 1)))) 11 (upd (g 11) (n 4) (nI 3))) 12 (upd (g 12) (n 4) (nI i))) 14 (upd (g 14) (n 4) (nI j))) 15 (rowB (g 15) (rowS (g 15) (n 4) (nI 3) (nI i) (nI j)) (n 4))) 15 = rowB (g 15) (rowS (g 15) (n 4) (nI 3) (nI i) (nI j)) (n 4) := by rw [va_up_self]
    have qg_16 : (va_up (va_up (va_up (va_up (va_up (va_up (va_up g 1 (cpF (g 1) (fun x => g 1 (200 * b + x)) (200 * i) (zN g b))) 2 (upd (g 2) i (nI (zN g b)))) 6 (upd (g 6) i (((g 6) i) + (nI 1)))) 11 (upd (g 11) (n 4) (nI 3))) 12 (upd (g 12) (n 4) (nI i))) 14 (upd (g 14) (n 4) (nI j))) 15 (rowB (g 15) (rowS (g 15) (n 4) (nI 3) (nI i) (nI j)) (n 4))) 16 = g 16 := by rw [va_up_ne _ _ (by decide), va_up_ne _ _ (by decide), va_up_ne _ _ (by decide), va_up_ne _ _ (by decide), va_up_ne _ _ (by decide), va_up_ne _ _ (by decide), va_up_ne _ _ (by decide)]
    have qz_0 : (va_up (va_up (va_up (va_up (va_up z 0 b1_6) 1 (mkf m1 (rowS (g 15) (n 4) (nI 3) (nI i) (nI j)) 32)) 2 w1_7) 3 h1_9) 4 v1_8) 0 = b1_6 := by rw [va_up_ne _ _ (by decide), va_up_ne _ _ (by decide), va_up_ne _ _ (by decide), va_up_ne _ _ (by decide), va_up_self]
    have qz_1 : (va_up (va_up (va_up (va_up (va_up z 0 b1_6) 1 (mkf m1 (rowS (g 15) (n 4) (nI 3) (nI i) (nI j)) 32)) 2 w1_7) 3 h1_9) 4 v1_8) 1 = mkf m1 (rowS (g 15) (n 4) (nI 3) (nI i) (nI j)) 32 := by rw [va_up_ne _ _ (by decide), va_up_ne _ _ (by decide), va_up_ne _ _ (by decide), va_up_self]
    have qz_2 : (va_up (va_up (va_up (va_up (va_up z 0 b1_6) 1 (mkf m1 (rowS (g 15) (n 4) (nI 3) (nI i) (nI j)) 32)) 2 w1_7) 3 h1_9) 4 v1_8) 2 = w1_7 := by rw [va_up_ne _ _ (by decide), va_up_ne _ _ (by decide), va_up_self]
    have qz_3 : (va_up (va_up (va_up (va_up (va_up z 0 b1_6) 1 (mkf m1 (rowS (g 15) (n 4) (nI 3) (nI i) (nI j)) 32)) 2 w1_7) 3 h1_9) 4 v1_8) 3 = h1_9 := by rw [va_up_ne _ _ (by decide), va_up_self]
    have qz_4 : (va_up (va_up (va_up (va_up (va_up z 0 b1_6) 1 (mkf m1 (rowS (g 15) (n 4) (nI 3) (nI i) (nI j)) 32)) 2 w1_7) 3 h1_9) 4 v1_8) 4 = v1_8 := by rw [va_up_self]
    have hRz : RepM ca ad (va_up (va_up n 7 0) 4 ((n 4) + 1)) (va_up (va_up (va_up (va_up (va_up (va_up (va_up g 1 (cpF (g 1) (fun x => g 1 (200 * b + x)) (200 * i) (zN g b))) 2 (upd (g 2) i (nI (zN g b)))) 6 (upd (g 6) i (((g 6) i) + (nI 1)))) 11 (upd (g 11) (n 4) (nI 3))) 12 (upd (g 12) (n 4) (nI i))) 14 (upd (g 14) (n 4) (nI j))) 15 (rowB (g 15) (rowS (g 15) (n 4) (nI 3) (nI i) (nI j)) (n 4))) (va_up (va_up (va_up (va_up (va_up z 0 b1_6) 1 (mkf m1 (rowS (g 15) (n 4) (nI 3) (nI i) (nI j)) 32)) 2 w1_7) 3 h1_9) 4 v1_8) 44 tb f_4 := ⟨(by rw [qn_7, qn_0, qn_1, qn_2, qn_3, qn_4, qn_5, qg_13]; exact c_302),
          (by rw [qg_0]; exact c_303),
          (by rw [qg_1]; exact c_304),
          (by rw [qg_2]; exact c_305),
          (by rw [qg_3]; exact c_306),
          (by rw [qg_4]; exact c_307),
          (by rw [qg_5]; exact c_308),
          (by rw [qg_6]; exact c_309),
          (by rw [qg_7]; exact c_310),
          (by rw [qg_8]; exact c_311),
          (by rw [qg_9]; exact c_312),
          (by rw [qg_10]; exact c_313),
          (by rw [qg_11]; exact c_314),
          (by rw [qg_12]; exact c_315),
          (by rw [qg_14]; exact c_316),
          (by rw [qg_15]; exact c_317),
          (by rw [qg_16]; exact c_318),
          (by rw [qz_0]; exact c_319),
          (by rw [qz_1]; exact c_320),
          (by rw [qz_2]; exact c_321),
          (by rw [qz_3]; exact c_322),
          (by rw [qz_4]; exact c_323),
          c_324,
          c_325, (by first | omega | assumption)⟩
    exact x_iret hx hb hr hlocks hw ⟨rfl, va_up (va_up (va_up (va_up (va_up z 0 b1_6) 1 (mkf m1 (rowS (g 15) (n 4) (nI 3) (nI i) (nI j)) 32)) 2 w1_7) 3 h1_9) 4 v1_8, 44, hRz, (fun y hy => by rw [ef_4, va_up_ne _ _ (by omega), va_up_ne _ _ (by omega), va_up_ne _ _ (by omega), va_up_ne _ _ (by omega), va_up_ne _ _ (by omega), va_up_ne _ _ (by omega), va_up_ne _ _ (by omega), va_up_ne _ _ (by omega), va_up_ne _ _ (by omega), va_up_ne _ _ (by omega), ef_3, va_up_ne _ _ (by omega), ef_1, va_up_ne _ _ (by omega), va_up_ne _ _ (by omega), va_up_ne _ _ (by omega), va_up_ne _ _ (by omega), va_up_ne _ _ (by omega), va_up_ne _ _ (by omega), va_up_ne _ _ (by omega), va_up_ne _ _ (by omega)])⟩ dX6_mend_146
  have P_85 : ∀ (n_85 : Nat) (f1 : Nat) (b1 : Nat → Int32) (w1 : Nat → Int32) (v1 : Nat → Int32) (h1 : Nat → Int32) (m1 : Nat → Int32) (k : Nat) (H : Heap) (locs : List Loc) (ls : Array Slot), zN g b + 1 ≤ k + n_85 → (k ≤ zN g b) → (f1 ≤ 200) → xw D vwCl N ad B s.heap (va_up (va_up (va_up (va_up (va_up (va_up (va_up (va_up f 302 (.inr (7, mO ad 0 (n 0) (n 1) (n 2) (g 13 0) (n 3) (n 4) (n 5) f1))) 319 (ai (ca 1) 320 b1)) 321 (ai (ca 0) 64 w1)) 323 (ai (ca 0) 8 v1)) 322 (ai (ca 0) 8 h1)) 320 (ai (ca 1) 36 m1)) 305 (ai (ca 0) 20 (upd (g 2) i (nI (zN g b))))) 304 (ai (ca 1) 4000 (cpF (g 1) (fun x => g 1 (200 * b + x)) (200 * i) k))) H locs → lv_has ls 5 [(0, .ref (ad 302)), (1, .int (nI i)), (2, .int (nI j)), (3, .int (nI b)), (4, .int (nI k))] → W p l e rmX6_mend s m ([.ref (ad 302), .int (nI i), .int (nI j)] : List Value).toArray below meth c H locs 0 0 (MQ below (xQi (fun r u => nI b = r ∧ ∃ (z1 : Nat → Nat → Int32) (zn1 : Nat), RepM ca ad (va_up (va_up n 7 0) 4 ((n 4) + 1)) (va_up (va_up (va_up (va_up (va_up (va_up (va_up g 1 (cpF (g 1) (fun x => g 1 (200 * b + x)) (200 * i) (zN g b))) 2 (upd (g 2) i (nI (zN g b)))) 6 (upd (g 6) i (((g 6) i) + (nI 1)))) 11 (upd (g 11) (n 4) (nI 3))) 12 (upd (g 12) (n 4) (nI i))) 14 (upd (g 14) (n 4) (nI j))) 15 (rowB (g 15) (rowS (g 15) (n 4) (nI 3) (nI i) (nI j)) (n 4))) z1 zn1 tb u ∧ ∀ y, (y < 302 ∨ 326 ≤ y) → u y = f y) D N ad B) ([.ref (ad 302), .int (nI i), .int (nI j)] : List Value).toArray s 0 0 (xA B)) (F0 m 85 ls []) := by
    intro n_85
    induction n_85 with
    | zero =>
      intro f1 b1 w1 v1 h1 m1 k H locs ls hm_85 hk hf1 hw hl
      exact absurd hm_85 (by omega)
    | succ n_85 ih_85 =>
      intro f1 b1 w1 v1 h1 m1 k H locs ls hm_85 hk hf1 hw hl
      have c_302 := b_302
      have c_303 := b_303
      have c_304 := b_304
      have c_305 := b_305
      have c_306 := b_306
      have c_307 := b_307
      have c_308 := b_308
      have c_309 := b_309
      have c_310 := b_310
      have c_311 := b_311
      have c_312 := b_312
      have c_313 := b_313
      have c_314 := b_314
      have c_315 := b_315
      have c_316 := b_316
      have c_317 := b_317
      have c_318 := b_318
      have c_319 := b_319
      have c_320 := b_320
      have c_321 := b_321
      have c_322 := b_322
      have c_323 := b_323
      have c_324 := b_324
      have c_325 := b_325
      obtain ⟨f_10, ef_10⟩ : ∃ z, z = va_up (va_up (va_up (va_up (va_up (va_up (va_up (va_up f 302 (.inr (7, mO ad 0 (n 0) (n 1) (n 2) (g 13 0) (n 3) (n 4) (n 5) f1))) 319 (ai (ca 1) 320 b1)) 321 (ai (ca 0) 64 w1)) 323 (ai (ca 0) 8 v1)) 322 (ai (ca 0) 8 h1)) 320 (ai (ca 1) 36 m1)) 305 (ai (ca 0) 20 (upd (g 2) i (nI (zN g b))))) 304 (ai (ca 1) 4000 (cpF (g 1) (fun x => g 1 (200 * b + x)) (200 * i) k)) := ⟨_, rfl⟩
      have hw : xw D vwCl N ad B s.heap f_10 H locs := by rw [ef_10]; exact hw
      have c_302 : f_10 302 = .inr (7, mO ad 0 (n 0) (n 1) (n 2) (g 13 0) (n 3) (n 4) (n 5) f1) := by rw [ef_10, va_up_ne _ _ (by decide), va_up_ne _ _ (by decide), va_up_ne _ _ (by decide), va_up_ne _ _ (by decide), va_up_ne _ _ (by decide), va_up_ne _ _ (by decide), va_up_ne _ _ (by decide), va_up_self]
      have c_319 : f_10 319 = ai (ca 1) 320 b1 := by rw [ef_10, va_up_ne _ _ (by decide), va_up_ne _ _ (by decide), va_up_ne _ _ (by decide), va_up_ne _ _ (by decide), va_up_ne _ _ (by decide), va_up_ne _ _ (by decide), va_up_self]
      have c_321 : f_10 321 = ai (ca 0) 64 w1 := by rw [ef_10, va_up_ne _ _ (by decide), va_up_ne _ _ (by decide), va_up_ne _ _ (by decide), va_up_ne _ _ (by decide), va_up_ne _ _ (by decide), va_up_self]
      have c_323 : f_10 323 = ai (ca 0) 8 v1 := by rw [ef_10, va_up_ne _ _ (by decide), va_up_ne _ _ (by decide), va_up_ne _ _ (by decide), va_up_ne _ _ (by decide), va_up_self]
      have c_322 : f_10 322 = ai (ca 0) 8 h1 := by rw [ef_10, va_up_ne _ _ (by decide), va_up_ne _ _ (by decide), va_up_ne _ _ (by decide), va_up_self]
      have c_320 : f_10 320 = ai (ca 1) 36 m1 := by rw [ef_10, va_up_ne _ _ (by decide), va_up_ne _ _ (by decide), va_up_self]
      have c_305 : f_10 305 = ai (ca 0) 20 (upd (g 2) i (nI (zN g b))) := by rw [ef_10, va_up_ne _ _ (by decide), va_up_self]
      have c_304 : f_10 304 = ai (ca 1) 4000 (cpF (g 1) (fun x => g 1 (200 * b + x)) (200 * i) k) := by rw [ef_10, va_up_self]
      have hzb := (hsz b (by omega)).2
      have hzc := (hsz b (by omega)).1
      refine lv_iload hx hb dX6_mend_85 (lv_at hl 4 rfl) ?_
      refine lv_aload_n hx hb dX6_mend_87 rfl (lv_at hl 0 rfl) ?_
      refine x_get (ci := 7) (C := RX6) (T := TX6) (n := 32) (ref := RX6) hx hb hts hin_7 hown hK hw 302 (by omega) c_302 rfl 6 (by decide) hf_16 (fun _ h => h) rfl dX6_mend_88 ?_
      refine lv_iload_n hx hb dX6_mend_91 rfl (lv_at hl 3 rfl) ?_
      refine x_iald (j := b) hx hb hK hw 305 0 (by omega) c_305 rfl rfl (by omega) (by decide) dX6_mend_92 ?_
      rw [pk_un (fun z9 => hib z9.symm), hzb]
      refine n_icge (tgt := 128) hx hb dX6_mend_93 (by decide) (by omega) (by omega) (fun hc_93 => ?_) (fun hc_93 => ?_)
      · have hw : xw D vwCl N ad B s.heap (va_up (va_up (va_up (va_up (va_up (va_up (va_up (va_up f 302 (.inr (7, mO ad 0 (n 0) (n 1) (n 2) (g 13 0) (n 3) (n 4) (n 5) f1))) 319 (ai (ca 1) 320 b1)) 321 (ai (ca 0) 64 w1)) 323 (ai (ca 0) 8 v1)) 322 (ai (ca 0) 8 h1)) 320 (ai (ca 1) 36 m1)) 305 (ai (ca 0) 20 (upd (g 2) i (nI (zN g b))))) 304 (ai (ca 1) 4000 (cpF (g 1) (fun x => g 1 (200 * b + x)) (200 * i) (zN g b)))) H locs := by
          have ez : f_10 = va_up (va_up (va_up (va_up (va_up (va_up (va_up (va_up f 302 (.inr (7, mO ad 0 (n 0) (n 1) (n 2) (g 13 0) (n 3) (n 4) (n 5) f1))) 319 (ai (ca 1) 320 b1)) 321 (ai (ca 0) 64 w1)) 323 (ai (ca 0) 8 v1)) 322 (ai (ca 0) 8 h1)) 320 (ai (ca 1) 36 m1)) 305 (ai (ca 0) 20 (upd (g 2) i (nI (zN g b))))) 304 (ai (ca 1) 4000 (cpF (g 1) (fun x => g 1 (200 * b + x)) (200 * i) (zN g b))) := by have ek : k = zN g b := (by omega); subst ek; simp only [ef_10]
          rw [← ez]; exact hw
        exact P_128 f1 b1 w1 v1 h1 m1 _ _ _ (by omega) hw (lv_sub hl [0, 1, 2, 3] rfl)
      · refine lv_aload_n hx hb dX6_mend_96 rfl (lv_at hl 0 rfl) ?_
        refine x_get (ci := 7) (C := RX6) (T := TX6) (n := 32) (ref := RX6) hx hb hts hin_7 hown hK hw 302 (by omega) c_302 rfl 5 (by decide) hf_13 (fun _ h => h) rfl dX6_mend_97 ?_
        refine lv_sipush (v := nI 200) hx hb dX6_mend_100 (by decide) ?_
        refine lv_iload_n hx hb dX6_mend_103 rfl (lv_at hl 1 rfl) ?_
        refine n_imul hx hb dX6_mend_104 ?_
        refine lv_iload hx hb dX6_mend_105 (lv_at hl 4 rfl) ?_
        refine n_iadd hx hb dX6_mend_107 ?_
        refine lv_aload_n hx hb dX6_mend_108 rfl (lv_at hl 0 rfl) ?_
        refine x_get (ci := 7) (C := RX6) (T := TX6) (n := 32) (ref := RX6) hx hb hts hin_7 hown hK hw 302 (by omega) c_302 rfl 5 (by decide) hf_13 (fun _ h => h) rfl dX6_mend_109 ?_
        refine lv_sipush (v := nI 200) hx hb dX6_mend_112 (by decide) ?_
        refine lv_iload_n hx hb dX6_mend_115 rfl (lv_at hl 3 rfl) ?_
        refine n_imul hx hb dX6_mend_116 ?_
        refine lv_iload hx hb dX6_mend_117 (lv_at hl 4 rfl) ?_
        refine n_iadd hx hb dX6_mend_119 ?_
        refine x_bald (j := (200 * b) + k) hx hb hK hw 304 1 (by omega) c_304 rfl rfl (by omega) (by decide) dX6_mend_120 ?_
        rw [cpF_out (by omega)]
        refine x_bast (j := (200 * i) + k) (y := (g 1 ((200 * b) + k)).toInt8.toInt32) hx hb hK dd hw 304 1 (by omega) c_304 rfl rfl (by omega) (by decide) rfl dX6_mend_121 (fun H locs hw => ?_)
        obtain ⟨f_11, ef_11⟩ : ∃ z, z = va_up f_10 304 (ai (ca 1) 4000 (upd (cpF (g 1) (fun x => g 1 (200 * b + x)) (200 * i) k) ((200 * i) + k) ((g 1 ((200 * b) + k)).toInt8.toInt32))) := ⟨_, rfl⟩
        have hw : xw D vwCl N ad B s.heap f_11 H locs := by rw [ef_11]; exact hw
        have c_304 : f_11 304 = ai (ca 1) 4000 (upd (cpF (g 1) (fun x => g 1 (200 * b + x)) (200 * i) k) ((200 * i) + k) ((g 1 ((200 * b) + k)).toInt8.toInt32)) := va_up_of ef_11
        refine lv_iinc (v := nI (k + 1)) (lv' := [(4, .int (nI (k + 1))), (0, .ref (ad 302)), (1, .int (nI i)), (2, .int (nI j)), (3, .int (nI b))]) hx hb dX6_mend_122 hl (k := 4) rfl (by rw [show Int32.ofInt 1 = nI 1 from rfl]; exact nI_add _ _) (by decide) rfl (fun ls hl => ?_)
        refine lv_goto (tgt := 85) hx hb dX6_mend_125 (by decide) ?_
        have hw : xw D vwCl N ad B s.heap (va_up (va_up (va_up (va_up (va_up (va_up (va_up (va_up f 302 (.inr (7, mO ad 0 (n 0) (n 1) (n 2) (g 13 0) (n 3) (n 4) (n 5) f1))) 319 (ai (ca 1) 320 b1)) 321 (ai (ca 0) 64 w1)) 323 (ai (ca 0) 8 v1)) 322 (ai (ca 0) 8 h1)) 320 (ai (ca 1) 36 m1)) 305 (ai (ca 0) 20 (upd (g 2) i (nI (zN g b))))) 304 (ai (ca 1) 4000 (cpF (g 1) (fun x => g 1 (200 * b + x)) (200 * i) (k + 1)))) H locs := by
          have ez : f_11 = va_up (va_up (va_up (va_up (va_up (va_up (va_up (va_up f 302 (.inr (7, mO ad 0 (n 0) (n 1) (n 2) (g 13 0) (n 3) (n 4) (n 5) f1))) 319 (ai (ca 1) 320 b1)) 321 (ai (ca 0) 64 w1)) 323 (ai (ca 0) 8 v1)) 322 (ai (ca 0) 8 h1)) 320 (ai (ca 1) 36 m1)) 305 (ai (ca 0) 20 (upd (g 2) i (nI (zN g b))))) 304 (ai (ca 1) 4000 (cpF (g 1) (fun x => g 1 (200 * b + x)) (200 * i) (k + 1))) := by simp only [ef_11, ef_10, up_aa]; rw [← cpF_s]
          rw [← ez]; exact hw
        exact ih_85 f1 b1 w1 v1 h1 m1 (k + 1) _ _ _ (by omega) (by omega) (by omega) hw (lv_sub hl [1, 2, 3, 4, 0] rfl)
  have P_38 : ∀ (n_38 : Nat) (f1 : Nat) (b1 : Nat → Int32) (w1 : Nat → Int32) (v1 : Nat → Int32) (h1 : Nat → Int32) (m1 : Nat → Int32) (q : Nat) (H : Heap) (locs : List Loc) (ls : Array Slot), n 2 + 1 ≤ q + n_38 → (q ≤ b) → (f1 ≤ 200) → xw D vwCl N ad B s.heap (va_up (va_up (va_up (va_up (va_up (va_up f 302 (.inr (7, mO ad 0 (n 0) (n 1) (n 2) (g 13 0) (n 3) (n 4) (n 5) f1))) 319 (ai (ca 1) 320 b1)) 321 (ai (ca 0) 64 w1)) 323 (ai (ca 0) 8 v1)) 322 (ai (ca 0) 8 h1)) 320 (ai (ca 1) 36 m1)) H locs → lv_has ls 5 [(0, .ref (ad 302)), (1, .int (nI i)), (2, .int (nI j)), (3, .int (nI q))] → W p l e rmX6_mend s m ([.ref (ad 302), .int (nI i), .int (nI j)] : List Value).toArray below meth c H locs 0 0 (MQ below (xQi (fun r u => nI b = r ∧ ∃ (z1 : Nat → Nat → Int32) (zn1 : Nat), RepM ca ad (va_up (va_up n 7 0) 4 ((n 4) + 1)) (va_up (va_up (va_up (va_up (va_up (va_up (va_up g 1 (cpF (g 1) (fun x => g 1 (200 * b + x)) (200 * i) (zN g b))) 2 (upd (g 2) i (nI (zN g b)))) 6 (upd (g 6) i (((g 6) i) + (nI 1)))) 11 (upd (g 11) (n 4) (nI 3))) 12 (upd (g 12) (n 4) (nI i))) 14 (upd (g 14) (n 4) (nI j))) 15 (rowB (g 15) (rowS (g 15) (n 4) (nI 3) (nI i) (nI j)) (n 4))) z1 zn1 tb u ∧ ∀ y, (y < 302 ∨ 326 ≤ y) → u y = f y) D N ad B) ([.ref (ad 302), .int (nI i), .int (nI j)] : List Value).toArray s 0 0 (xA B)) (F0 m 38 ls []) := by
    intro n_38
    induction n_38 with
    | zero =>
      intro f1 b1 w1 v1 h1 m1 q H locs ls hm_38 hq hf1 hw hl
      exact absurd hm_38 (by omega)
    | succ n_38 ih_38 =>
      intro f1 b1 w1 v1 h1 m1 q H locs ls hm_38 hq hf1 hw hl
      have c_302 := b_302
      have c_303 := b_303
      have c_304 := b_304
      have c_305 := b_305
      have c_306 := b_306
      have c_307 := b_307
      have c_308 := b_308
      have c_309 := b_309
      have c_310 := b_310
      have c_311 := b_311
      have c_312 := b_312
      have c_313 := b_313
      have c_314 := b_314
      have c_315 := b_315
      have c_316 := b_316
      have c_317 := b_317
      have c_318 := b_318
      have c_319 := b_319
      have c_320 := b_320
      have c_321 := b_321
      have c_322 := b_322
      have c_323 := b_323
      have c_324 := b_324
      have c_325 := b_325
      obtain ⟨f_12, ef_12⟩ : ∃ z, z = va_up (va_up (va_up (va_up (va_up (va_up f 302 (.inr (7, mO ad 0 (n 0) (n 1) (n 2) (g 13 0) (n 3) (n 4) (n 5) f1))) 319 (ai (ca 1) 320 b1)) 321 (ai (ca 0) 64 w1)) 323 (ai (ca 0) 8 v1)) 322 (ai (ca 0) 8 h1)) 320 (ai (ca 1) 36 m1) := ⟨_, rfl⟩
      have hw : xw D vwCl N ad B s.heap f_12 H locs := by rw [ef_12]; exact hw
      have c_302 : f_12 302 = .inr (7, mO ad 0 (n 0) (n 1) (n 2) (g 13 0) (n 3) (n 4) (n 5) f1) := by rw [ef_12, va_up_ne _ _ (by decide), va_up_ne _ _ (by decide), va_up_ne _ _ (by decide), va_up_ne _ _ (by decide), va_up_ne _ _ (by decide), va_up_self]
      have c_319 : f_12 319 = ai (ca 1) 320 b1 := by rw [ef_12, va_up_ne _ _ (by decide), va_up_ne _ _ (by decide), va_up_ne _ _ (by decide), va_up_ne _ _ (by decide), va_up_self]
      have c_321 : f_12 321 = ai (ca 0) 64 w1 := by rw [ef_12, va_up_ne _ _ (by decide), va_up_ne _ _ (by decide), va_up_ne _ _ (by decide), va_up_self]
      have c_323 : f_12 323 = ai (ca 0) 8 v1 := by rw [ef_12, va_up_ne _ _ (by decide), va_up_ne _ _ (by decide), va_up_self]
      have c_322 : f_12 322 = ai (ca 0) 8 h1 := by rw [ef_12, va_up_ne _ _ (by decide), va_up_self]
      have c_320 : f_12 320 = ai (ca 1) 36 m1 := by rw [ef_12, va_up_self]
      refine lv_iload_n hx hb dX6_mend_38 rfl (lv_at hl 3 rfl) ?_
      refine lv_aload_n hx hb dX6_mend_39 rfl (lv_at hl 0 rfl) ?_
      refine x_get (ci := 7) (C := RX6) (T := TX6) (n := 32) (ref := RX6) hx hb hts hin_7 hown hK hw 302 (by omega) c_302 rfl 4 (by decide) hf_163 (fun _ h => h) rfl dX6_mend_40 ?_
      refine n_icge (tgt := 153) hx hb dX6_mend_43 (by decide) (by omega) (by omega) (fun hc_43 => ?_) (fun hc_43 => ?_)
      · omega
      · refine lv_iload_n hx hb dX6_mend_46 rfl (lv_at hl 3 rfl) ?_
        refine lv_iload_n hx hb dX6_mend_47 rfl (lv_at hl 1 rfl) ?_
        refine n_iceq (tgt := 147) hx hb dX6_mend_48 (by decide) (by omega) (by omega) (fun hc_48 => ?_) (fun hc_48 => ?_)
        · refine lv_iinc (v := nI (q + 1)) (lv' := [(3, .int (nI (q + 1))), (0, .ref (ad 302)), (1, .int (nI i)), (2, .int (nI j))]) hx hb dX6_mend_147 hl (k := 3) rfl (by rw [show Int32.ofInt 1 = nI 1 from rfl]; exact nI_add _ _) (by decide) rfl (fun ls hl => ?_)
          refine lv_goto (tgt := 38) hx hb dX6_mend_150 (by decide) ?_
          have hw : xw D vwCl N ad B s.heap (va_up (va_up (va_up (va_up (va_up (va_up f 302 (.inr (7, mO ad 0 (n 0) (n 1) (n 2) (g 13 0) (n 3) (n 4) (n 5) f1))) 319 (ai (ca 1) 320 b1)) 321 (ai (ca 0) 64 w1)) 323 (ai (ca 0) 8 v1)) 322 (ai (ca 0) 8 h1)) 320 (ai (ca 1) 36 m1)) H locs := by
            have ez : f_12 = va_up (va_up (va_up (va_up (va_up (va_up f 302 (.inr (7, mO ad 0 (n 0) (n 1) (n 2) (g 13 0) (n 3) (n 4) (n 5) f1))) 319 (ai (ca 1) 320 b1)) 321 (ai (ca 0) 64 w1)) 323 (ai (ca 0) 8 v1)) 322 (ai (ca 0) 8 h1)) 320 (ai (ca 1) 36 m1) := by first | (simp only [ef_12]; done) | (simp only [ef_12, up_c6]; done) | (simp only [ef_12, up_c6, up_c5]; done)
            rw [← ez]; exact hw
          exact ih_38 f1 b1 w1 v1 h1 m1 (q + 1) _ _ _ (by omega) (by omega) (by first | assumption | exact (hsz q (by omega)).1) hw (lv_sub hl [1, 2, 3, 0] rfl)
        · refine lv_aload_n hx hb dX6_mend_51 rfl (lv_at hl 0 rfl) ?_
          refine lv_iload_n hx hb dX6_mend_52 rfl (lv_at hl 3 rfl) ?_
          have c_306 : f_12 306 = ai (ca 0) 20 (g 3) := by rw [ef_12, va_up_ne _ _ (by decide), va_up_ne _ _ (by decide), va_up_ne _ _ (by decide), va_up_ne _ _ (by decide), va_up_ne _ _ (by decide), va_up_ne _ _ (by decide)]; exact c_306
          have c_307 : f_12 307 = ai (ca 1) 720 (g 4) := by rw [ef_12, va_up_ne _ _ (by decide), va_up_ne _ _ (by decide), va_up_ne _ _ (by decide), va_up_ne _ _ (by decide), va_up_ne _ _ (by decide), va_up_ne _ _ (by decide)]; exact c_307
          have c_324 : f_12 324 = ai (ca 0) 8 shR := by rw [ef_12, va_up_ne _ _ (by decide), va_up_ne _ _ (by decide), va_up_ne _ _ (by decide), va_up_ne _ _ (by decide), va_up_ne _ _ (by decide), va_up_ne _ _ (by decide)]; exact c_324
          have c_325 : f_12 325 = ai (ca 0) 64 shK := by rw [ef_12, va_up_ne _ _ (by decide), va_up_ne _ _ (by decide), va_up_ne _ _ (by decide), va_up_ne _ _ (by decide), va_up_ne _ _ (by decide), va_up_ne _ _ (by decide)]; exact c_325
          have c_304 : f_12 304 = ai (ca 1) 4000 (g 1) := by rw [ef_12, va_up_ne _ _ (by decide), va_up_ne _ _ (by decide), va_up_ne _ _ (by decide), va_up_ne _ _ (by decide), va_up_ne _ _ (by decide), va_up_ne _ _ (by decide)]; exact c_304
          have c_305 : f_12 305 = ai (ca 0) 20 (g 2) := by rw [ef_12, va_up_ne _ _ (by decide), va_up_ne _ _ (by decide), va_up_ne _ _ (by decide), va_up_ne _ _ (by decide), va_up_ne _ _ (by decide), va_up_ne _ _ (by decide)]; exact c_305
          refine x_Vi (q := 302) (As := [.int (nI q)]) (rest := []) ⟨hx, hb, hml, hown, hts⟩ (k_X6_fits l D ca N ad B tR tK f_12 dd 0 (n 0) (n 1) (n 2) (g 13 0) (n 3) (n 4) (n 5) f1 (g 3) (g 4) b1 m1 w1 h1 v1 (g 1) (g 2) q (zN g q) c_302 c_306 c_307 c_319 c_320 c_321 c_322 c_323 c_324 c_325 c_304 c_305  (by omega) (by omega) (hsz q (by omega)).2 (hsz q (by omega)).1) (cwV 1 hts gX6_mend_X6_fits rfl rfl rfl (by decide +kernel) ⟨Nat.le_of_ble_eq_true rfl, Nat.le_of_ble_eq_true rfl⟩) hK hE hB hw (by omega) c_302 rfl rfl rfl rfl hl.1 (Nat.le_of_ble_eq_true rfl) ⟨Nat.zero_le _, Nat.zero_le _⟩ dX6_mend_53 (fun r_14 f_13 H locs hp hw => ?_)
          obtain ⟨b1_15, w1_16, v1_17, h1_18, m1_19, hq_20, er, eu⟩ := hp
          rw [← er]
          have ef_13 : f_13 = va_up (va_up (va_up (va_up (va_up (va_up f_12 302 (.inr (7, mO ad 0 (n 0) (n 1) (n 2) (g 13 0) (n 3) (n 4) (n 5) (zN g q)))) 319 (ai (ca 1) 320 b1_15)) 321 (ai (ca 0) 64 w1_16)) 323 (ai (ca 0) 8 v1_17)) 322 (ai (ca 0) 8 h1_18)) 320 (ai (ca 1) 36 m1_19) := eu
          have c_302 : f_13 302 = .inr (7, mO ad 0 (n 0) (n 1) (n 2) (g 13 0) (n 3) (n 4) (n 5) (zN g q)) := by rw [ef_13, va_up_ne _ _ (by decide), va_up_ne _ _ (by decide), va_up_ne _ _ (by decide), va_up_ne _ _ (by decide), va_up_ne _ _ (by decide), va_up_self]
          have c_319 : f_13 319 = ai (ca 1) 320 b1_15 := by rw [ef_13, va_up_ne _ _ (by decide), va_up_ne _ _ (by decide), va_up_ne _ _ (by decide), va_up_ne _ _ (by decide), va_up_self]
          have c_321 : f_13 321 = ai (ca 0) 64 w1_16 := by rw [ef_13, va_up_ne _ _ (by decide), va_up_ne _ _ (by decide), va_up_ne _ _ (by decide), va_up_self]
          have c_323 : f_13 323 = ai (ca 0) 8 v1_17 := by rw [ef_13, va_up_ne _ _ (by decide), va_up_ne _ _ (by decide), va_up_self]
          have c_322 : f_13 322 = ai (ca 0) 8 h1_18 := by rw [ef_13, va_up_ne _ _ (by decide), va_up_self]
          have c_320 : f_13 320 = ai (ca 1) 36 m1_19 := by rw [ef_13, va_up_self]
          refine lv_if_eq (tgt := 147) hx hb dX6_mend_56 (by decide) (fun hc_56 => ?_) (fun hc_56 => ?_)
          · have hqb : q ≠ b := fun z9 => bI_z hc_56 (show mFit g q q (zN g q) from z9 ▸ hyes.1)
            refine lv_iinc (v := nI (q + 1)) (lv' := [(3, .int (nI (q + 1))), (0, .ref (ad 302)), (1, .int (nI i)), (2, .int (nI j))]) hx hb dX6_mend_147 hl (k := 3) rfl (by rw [show Int32.ofInt 1 = nI 1 from rfl]; exact nI_add _ _) (by decide) rfl (fun ls hl => ?_)
            refine lv_goto (tgt := 38) hx hb dX6_mend_150 (by decide) ?_
            have hw : xw D vwCl N ad B s.heap (va_up (va_up (va_up (va_up (va_up (va_up f 302 (.inr (7, mO ad 0 (n 0) (n 1) (n 2) (g 13 0) (n 3) (n 4) (n 5) (zN g q)))) 319 (ai (ca 1) 320 b1_15)) 321 (ai (ca 0) 64 w1_16)) 323 (ai (ca 0) 8 v1_17)) 322 (ai (ca 0) 8 h1_18)) 320 (ai (ca 1) 36 m1_19)) H locs := by
              have ez : f_13 = va_up (va_up (va_up (va_up (va_up (va_up f 302 (.inr (7, mO ad 0 (n 0) (n 1) (n 2) (g 13 0) (n 3) (n 4) (n 5) (zN g q)))) 319 (ai (ca 1) 320 b1_15)) 321 (ai (ca 0) 64 w1_16)) 323 (ai (ca 0) 8 v1_17)) 322 (ai (ca 0) 8 h1_18)) 320 (ai (ca 1) 36 m1_19) := by first | (simp only [ef_13, ef_12]; done) | (simp only [ef_13, ef_12, up_c6]; done) | (simp only [ef_13, ef_12, up_c6, up_c5]; done)
              rw [← ez]; exact hw
            exact ih_38 (zN g q) b1_15 w1_16 v1_17 h1_18 m1_19 (q + 1) _ _ _ (by omega) (by omega) (by first | assumption | exact (hsz q (by omega)).1) hw (lv_sub hl [1, 2, 3, 0] rfl)
          · refine lv_aload_n hx hb dX6_mend_59 rfl (lv_at hl 0 rfl) ?_
            refine lv_iload_n hx hb dX6_mend_60 rfl (lv_at hl 1 rfl) ?_
            have c_306 : f_13 306 = ai (ca 0) 20 (g 3) := by rw [ef_13, va_up_ne _ _ (by decide), va_up_ne _ _ (by decide), va_up_ne _ _ (by decide), va_up_ne _ _ (by decide), va_up_ne _ _ (by decide), va_up_ne _ _ (by decide)]; exact c_306
            have c_307 : f_13 307 = ai (ca 1) 720 (g 4) := by rw [ef_13, va_up_ne _ _ (by decide), va_up_ne _ _ (by decide), va_up_ne _ _ (by decide), va_up_ne _ _ (by decide), va_up_ne _ _ (by decide), va_up_ne _ _ (by decide)]; exact c_307
            have c_324 : f_13 324 = ai (ca 0) 8 shR := by rw [ef_13, va_up_ne _ _ (by decide), va_up_ne _ _ (by decide), va_up_ne _ _ (by decide), va_up_ne _ _ (by decide), va_up_ne _ _ (by decide), va_up_ne _ _ (by decide)]; exact c_324
            have c_325 : f_13 325 = ai (ca 0) 64 shK := by rw [ef_13, va_up_ne _ _ (by decide), va_up_ne _ _ (by decide), va_up_ne _ _ (by decide), va_up_ne _ _ (by decide), va_up_ne _ _ (by decide), va_up_ne _ _ (by decide)]; exact c_325
            refine x_Vi (q := 302) (As := [.int (nI i)]) (rest := []) ⟨hx, hb, hml, hown, hts⟩ (k_X6_has l D ca N ad B tR tK f_13 dd 0 (n 0) (n 1) (n 2) (g 13 0) (n 3) (n 4) (n 5) (zN g q) (g 3) (g 4) b1_15 m1_19 w1_16 h1_18 v1_17 i c_302 c_306 c_307 c_319 c_320 c_321 c_322 c_323 c_324 c_325  (by omega) (hsz q (by omega)).1 (by omega)) (cwV 1 hts gX6_mend_X6_has rfl rfl rfl (by decide +kernel) ⟨Nat.le_of_ble_eq_true rfl, Nat.le_of_ble_eq_true rfl⟩) hK hE hB hw (by omega) c_302 rfl rfl rfl rfl hl.1 (Nat.le_of_ble_eq_true rfl) ⟨Nat.zero_le _, Nat.zero_le _⟩ dX6_mend_61 (fun r_22 f_21 H locs hp hw => ?_)
            obtain ⟨b1_23, w1_24, v1_25, h1_26, m1_27, hq_28, er, eu⟩ := hp
            rw [← er]
            have ef_21 : f_21 = va_up (va_up (va_up (va_up (va_up f_13 319 (ai (ca 1) 320 b1_23)) 321 (ai (ca 0) 64 w1_24)) 323 (ai (ca 0) 8 v1_25)) 322 (ai (ca 0) 8 h1_26)) 320 (ai (ca 1) 36 m1_27) := eu
            have c_319 : f_21 319 = ai (ca 1) 320 b1_23 := by rw [ef_21, va_up_ne _ _ (by decide), va_up_ne _ _ (by decide), va_up_ne _ _ (by decide), va_up_ne _ _ (by decide), va_up_self]
            have c_321 : f_21 321 = ai (ca 0) 64 w1_24 := by rw [ef_21, va_up_ne _ _ (by decide), va_up_ne _ _ (by decide), va_up_ne _ _ (by decide), va_up_self]
            have c_323 : f_21 323 = ai (ca 0) 8 v1_25 := by rw [ef_21, va_up_ne _ _ (by decide), va_up_ne _ _ (by decide), va_up_self]
            have c_322 : f_21 322 = ai (ca 0) 8 h1_26 := by rw [ef_21, va_up_ne _ _ (by decide), va_up_self]
            have c_320 : f_21 320 = ai (ca 1) 36 m1_27 := by rw [ef_21, va_up_self]
            have hM : hasM (g 4) i (sha (zN g q) (fun i7 => b1_15 i7 &&& nI 255)) (crM b1_15 (zN g q) ^^^ (-1)) (g 3 i) = mFit g q i (zN g q) := by unfold mFit; rw [sha_ext (g := fun i7 => b1_15 i7 &&& nI 255) (g' := fun x => g 1 (200 * q + x) &&& nI 255) hq_20, crM_ext (b := b1_15) (b' := fun x => g 1 (200 * q + x)) (zN g q) hq_20]
            refine lv_if_ne (tgt := 70) hx hb dX6_mend_64 (by decide) (fun hc_64 => ?_) (fun hc_64 => ?_)
            · have hqb : b = q := (Nat.lt_or_ge q b).elim (fun z9 => absurd ⟨(show mFit g q q (zN g q) from bI_nz hc_56), (hM ▸ bI_nz hc_64)⟩ (hno q z9)) (fun z9 => by omega)
              subst hqb
              have hzb := (hsz b (by omega)).2
              have hzc := (hsz b (by omega)).1
              refine lv_aload_n hx hb dX6_mend_70 rfl (lv_at hl 0 rfl) ?_
              have c_302 : f_21 302 = .inr (7, mO ad 0 (n 0) (n 1) (n 2) (g 13 0) (n 3) (n 4) (n 5) (zN g b)) := by rw [ef_21, va_up_ne _ _ (by decide), va_up_ne _ _ (by decide), va_up_ne _ _ (by decide), va_up_ne _ _ (by decide), va_up_ne _ _ (by decide)]; exact c_302
              refine x_get (ci := 7) (C := RX6) (T := TX6) (n := 32) (ref := RX6) hx hb hts hin_7 hown hK hw 302 (by omega) c_302 rfl 6 (by decide) hf_16 (fun _ h => h) rfl dX6_mend_71 ?_
              refine lv_iload_n hx hb dX6_mend_74 rfl (lv_at hl 1 rfl) ?_
              refine lv_aload_n hx hb dX6_mend_75 rfl (lv_at hl 0 rfl) ?_
              refine x_get (ci := 7) (C := RX6) (T := TX6) (n := 32) (ref := RX6) hx hb hts hin_7 hown hK hw 302 (by omega) c_302 rfl 6 (by decide) hf_16 (fun _ h => h) rfl dX6_mend_76 ?_
              refine lv_iload_n hx hb dX6_mend_79 rfl (lv_at hl 3 rfl) ?_
              have c_305 : f_21 305 = ai (ca 0) 20 (g 2) := by rw [ef_21, va_up_ne _ _ (by decide), va_up_ne _ _ (by decide), va_up_ne _ _ (by decide), va_up_ne _ _ (by decide), va_up_ne _ _ (by decide), ef_13, va_up_ne _ _ (by decide), va_up_ne _ _ (by decide), va_up_ne _ _ (by decide), va_up_ne _ _ (by decide), va_up_ne _ _ (by decide), va_up_ne _ _ (by decide)]; exact c_305
              refine x_iald (j := b) hx hb hK hw 305 0 (by omega) c_305 rfl rfl (by omega) (by decide) dX6_mend_80 ?_
              rw [hzb]
              refine x_iast (j := i) hx hb hK dd hw 305 0 (by omega) c_305 rfl rfl (by omega) (by decide) dX6_mend_81 (fun H locs hw => ?_)
              obtain ⟨f_29, ef_29⟩ : ∃ z, z = va_up f_21 305 (ai (ca 0) 20 (upd (g 2) i (nI (zN g b)))) := ⟨_, rfl⟩
              have hw : xw D vwCl N ad B s.heap f_29 H locs := by rw [ef_29]; exact hw
              have c_305 : f_29 305 = ai (ca 0) 20 (upd (g 2) i (nI (zN g b))) := va_up_of ef_29
              refine lv_iconst (v := nI 0) hx hb dX6_mend_82 (by decide) ?_
              refine lv_istore (lv' := [(4, .int (nI 0)), (0, .ref (ad 302)), (1, .int (nI i)), (2, .int (nI j)), (3, .int (nI b))]) hx hb dX6_mend_83 hl (by decide) rfl (fun ls hl => ?_)
              have hw : xw D vwCl N ad B s.heap (va_up (va_up (va_up (va_up (va_up (va_up (va_up (va_up f 302 (.inr (7, mO ad 0 (n 0) (n 1) (n 2) (g 13 0) (n 3) (n 4) (n 5) (zN g b)))) 319 (ai (ca 1) 320 b1_23)) 321 (ai (ca 0) 64 w1_24)) 323 (ai (ca 0) 8 v1_25)) 322 (ai (ca 0) 8 h1_26)) 320 (ai (ca 1) 36 m1_27)) 305 (ai (ca 0) 20 (upd (g 2) i (nI (zN g b))))) 304 (ai (ca 1) 4000 (cpF (g 1) (fun x => g 1 (200 * b + x)) (200 * i) 0))) H locs := by
                have ez : f_29 = va_up (va_up (va_up (va_up (va_up (va_up (va_up (va_up f 302 (.inr (7, mO ad 0 (n 0) (n 1) (n 2) (g 13 0) (n 3) (n 4) (n 5) (zN g b)))) 319 (ai (ca 1) 320 b1_23)) 321 (ai (ca 0) 64 w1_24)) 323 (ai (ca 0) 8 v1_25)) 322 (ai (ca 0) 8 h1_26)) 320 (ai (ca 1) 36 m1_27)) 305 (ai (ca 0) 20 (upd (g 2) i (nI (zN g b))))) 304 (ai (ca 1) 4000 (cpF (g 1) (fun x => g 1 (200 * b + x)) (200 * i) 0)) := by rw [cpF_0]; simp only [ef_29, ef_21, ef_13, ef_12, up_c6, up_c5]; exact (up_noop (by simp only [va_up]; exact b_304)).symm
                rw [← ez]; exact hw
              exact P_85 ((zN g b + 1)) (zN g b) b1_23 w1_24 v1_25 h1_26 m1_27 0 _ _ _ (by omega) (by omega) hzc hw (lv_sub hl [1, 2, 3, 4, 0] rfl)
            · have hqb : q ≠ b := fun z9 => bI_z hc_64 (by rw [hM, z9]; exact hyes.2)
              refine lv_goto (tgt := 147) hx hb dX6_mend_67 (by decide) ?_
              refine lv_iinc (v := nI (q + 1)) (lv' := [(3, .int (nI (q + 1))), (0, .ref (ad 302)), (1, .int (nI i)), (2, .int (nI j))]) hx hb dX6_mend_147 hl (k := 3) rfl (by rw [show Int32.ofInt 1 = nI 1 from rfl]; exact nI_add _ _) (by decide) rfl (fun ls hl => ?_)
              refine lv_goto (tgt := 38) hx hb dX6_mend_150 (by decide) ?_
              have hw : xw D vwCl N ad B s.heap (va_up (va_up (va_up (va_up (va_up (va_up f 302 (.inr (7, mO ad 0 (n 0) (n 1) (n 2) (g 13 0) (n 3) (n 4) (n 5) (zN g q)))) 319 (ai (ca 1) 320 b1_23)) 321 (ai (ca 0) 64 w1_24)) 323 (ai (ca 0) 8 v1_25)) 322 (ai (ca 0) 8 h1_26)) 320 (ai (ca 1) 36 m1_27)) H locs := by
                have ez : f_21 = va_up (va_up (va_up (va_up (va_up (va_up f 302 (.inr (7, mO ad 0 (n 0) (n 1) (n 2) (g 13 0) (n 3) (n 4) (n 5) (zN g q)))) 319 (ai (ca 1) 320 b1_23)) 321 (ai (ca 0) 64 w1_24)) 323 (ai (ca 0) 8 v1_25)) 322 (ai (ca 0) 8 h1_26)) 320 (ai (ca 1) 36 m1_27) := by first | (simp only [ef_21, ef_13, ef_12]; done) | (simp only [ef_21, ef_13, ef_12, up_c6]; done) | (simp only [ef_21, ef_13, ef_12, up_c6, up_c5]; done)
                rw [← ez]; exact hw
              exact ih_38 (zN g q) b1_23 w1_24 v1_25 h1_26 m1_27 (q + 1) _ _ _ (by omega) (by omega) (by first | assumption | exact (hsz q (by omega)).1) hw (lv_sub hl [1, 2, 3, 0] rfl)
  refine lv_aload_n hx hb dX6_mend_0 rfl (lv_at hl 0 rfl) ?_
  refine lv_iconst (v := nI 0) hx hb dX6_mend_1 (by decide) ?_
  refine x_put (ci := 7) (C := RX6) (T := TX6) (n := 32) (ref := RX6) (fs' := mO ad 0 (n 0) (n 1) (n 2) (g 13 0) (n 3) (n 4) (n 5) zn) hx hb hts hin_7 tyX6 tyX6_ok nmX6 hown hK dd hw 302 (by omega) c_302 rfl 0 (by decide) hf_160 (fun _ h => h) rfl rfl rfl (Nat.le_of_ble_eq_true rfl) rfl dX6_mend_2 (fun H locs hw => ?_)
  obtain ⟨f_30, ef_30⟩ : ∃ z, z = va_up f 302 (.inr (7, mO ad 0 (n 0) (n 1) (n 2) (g 13 0) (n 3) (n 4) (n 5) zn)) := ⟨_, rfl⟩
  have hw : xw D vwCl N ad B s.heap f_30 H locs := by rw [ef_30]; exact hw
  have c_302 : f_30 302 = .inr (7, mO ad 0 (n 0) (n 1) (n 2) (g 13 0) (n 3) (n 4) (n 5) zn) := va_up_of ef_30
  refine lv_aload_n hx hb dX6_mend_5 rfl (lv_at hl 0 rfl) ?_
  refine lv_iload_n hx hb dX6_mend_6 rfl (lv_at hl 1 rfl) ?_
  have c_303 : f_30 303 = ai (ca 1) 200 (g 0) := by rw [ef_30, va_up_ne _ _ (by decide)]; exact c_303
  have c_304 : f_30 304 = ai (ca 1) 4000 (g 1) := by rw [ef_30, va_up_ne _ _ (by decide)]; exact c_304
  have c_305 : f_30 305 = ai (ca 0) 20 (g 2) := by rw [ef_30, va_up_ne _ _ (by decide)]; exact c_305
  have c_306 : f_30 306 = ai (ca 0) 20 (g 3) := by rw [ef_30, va_up_ne _ _ (by decide)]; exact c_306
  have c_307 : f_30 307 = ai (ca 1) 720 (g 4) := by rw [ef_30, va_up_ne _ _ (by decide)]; exact c_307
  have c_308 : f_30 308 = ai (ca 0) 20 (g 5) := by rw [ef_30, va_up_ne _ _ (by decide)]; exact c_308
  have c_309 : f_30 309 = ai (ca 0) 20 (g 6) := by rw [ef_30, va_up_ne _ _ (by decide)]; exact c_309
  have c_310 : f_30 310 = ai (ca 0) 20 (g 7) := by rw [ef_30, va_up_ne _ _ (by decide)]; exact c_310
  have c_311 : f_30 311 = ai (ca 0) 20 (g 8) := by rw [ef_30, va_up_ne _ _ (by decide)]; exact c_311
  have c_312 : f_30 312 = ai (ca 0) 20 (g 9) := by rw [ef_30, va_up_ne _ _ (by decide)]; exact c_312
  have c_313 : f_30 313 = ai (ca 2) 20 (g 10) := by rw [ef_30, va_up_ne _ _ (by decide)]; exact c_313
  have c_314 : f_30 314 = ai (ca 0) 200 (g 11) := by rw [ef_30, va_up_ne _ _ (by decide)]; exact c_314
  have c_315 : f_30 315 = ai (ca 0) 200 (g 12) := by rw [ef_30, va_up_ne _ _ (by decide)]; exact c_315
  have c_316 : f_30 316 = ai (ca 0) 200 (g 14) := by rw [ef_30, va_up_ne _ _ (by decide)]; exact c_316
  have c_317 : f_30 317 = ai (ca 1) 6400 (g 15) := by rw [ef_30, va_up_ne _ _ (by decide)]; exact c_317
  have c_318 : f_30 318 = ai (ca 1) 32 (g 16) := by rw [ef_30, va_up_ne _ _ (by decide)]; exact c_318
  have c_319 : f_30 319 = ai (ca 1) 320 (z 0) := by rw [ef_30, va_up_ne _ _ (by decide)]; exact c_319
  have c_320 : f_30 320 = ai (ca 1) 36 (z 1) := by rw [ef_30, va_up_ne _ _ (by decide)]; exact c_320
  have c_321 : f_30 321 = ai (ca 0) 64 (z 2) := by rw [ef_30, va_up_ne _ _ (by decide)]; exact c_321
  have c_322 : f_30 322 = ai (ca 0) 8 (z 3) := by rw [ef_30, va_up_ne _ _ (by decide)]; exact c_322
  have c_323 : f_30 323 = ai (ca 0) 8 (z 4) := by rw [ef_30, va_up_ne _ _ (by decide)]; exact c_323
  have c_324 : f_30 324 = ai (ca 0) 8 shR := by rw [ef_30, va_up_ne _ _ (by decide)]; exact c_324
  have c_325 : f_30 325 = ai (ca 0) 64 shK := by rw [ef_30, va_up_ne _ _ (by decide)]; exact c_325
  have qn_0 : (va_up n 7 0) 0 = n 0 := by rw [va_up_ne _ _ (by decide)]
  have qn_1 : (va_up n 7 0) 1 = n 1 := by rw [va_up_ne _ _ (by decide)]
  have qn_2 : (va_up n 7 0) 2 = n 2 := by rw [va_up_ne _ _ (by decide)]
  have qn_3 : (va_up n 7 0) 3 = n 3 := by rw [va_up_ne _ _ (by decide)]
  have qn_4 : (va_up n 7 0) 4 = n 4 := by rw [va_up_ne _ _ (by decide)]
  have qn_5 : (va_up n 7 0) 5 = n 5 := by rw [va_up_ne _ _ (by decide)]
  have qn_6 : (va_up n 7 0) 6 = n 6 := by rw [va_up_ne _ _ (by decide)]
  have qn_7 : (va_up n 7 0) 7 = 0 := by rw [va_up_self]
  have hRk : RepM ca ad (va_up n 7 0) g z zn tb f_30 := ⟨(by rw [qn_7, qn_0, qn_1, qn_2, qn_3, qn_4, qn_5]; exact c_302),
        c_303,
        c_304,
        c_305,
        c_306,
        c_307,
        c_308,
        c_309,
        c_310,
        c_311,
        c_312,
        c_313,
        c_314,
        c_315,
        c_316,
        c_317,
        c_318,
        c_319,
        c_320,
        c_321,
        c_322,
        c_323,
        c_324,
        c_325, hzn⟩
  have hfr : ∀ y, (y < 302 ∨ 326 ≤ y) → f_30 y = f y := (fun y hy => by rw [ef_30, va_up_ne _ _ (by omega)])
  refine x_Vi (q := 302) (As := [.int (nI i)]) (rest := []) ⟨hx, hb, hml, hown, hts⟩ (k_X6_isFile_yes l D ca N ad B tR tK f_30 dd hN (va_up n 7 0) g z zn tb hRk i (by omega) (by omega)) (cwV 1 hts gX6_mend_X6_isFile rfl rfl rfl (by decide +kernel) ⟨Nat.le_of_ble_eq_true rfl, Nat.le_of_ble_eq_true rfl⟩) hK hE hB hw (by omega) c_302 rfl rfl rfl rfl hl.1 (Nat.le_of_ble_eq_true rfl) ⟨Nat.zero_le _, Nat.zero_le _⟩ dX6_mend_7 (fun r_32 f_31 H locs hp hw => ?_)
  obtain ⟨er, hp⟩ := hp
  rw [← er]
  rw [← hp] at hw
  refine lv_if_ne (tgt := 15) hx hb dX6_mend_10 (by decide) (fun _ => ?_) (fun h => absurd h (by decide))
  refine lv_iload_n hx hb dX6_mend_15 rfl (lv_at hl 2 rfl) ?_
  refine x_Si (As := [.int (nI j)]) (rest := []) ⟨hx, hb, hml, hown, hts⟩ (k_X6_isDay_yes l D ca N ad B tR tK f_30 dd j   (by omega)) (va_cwS 1 hts gX6_mend_X6_isDay rfl rfl rfl (by decide +kernel) ⟨Nat.le_of_ble_eq_true rfl, Nat.le_of_ble_eq_true rfl⟩) hK hE hB hw rfl rfl hl.1 (Nat.le_of_ble_eq_true rfl) ⟨Nat.zero_le _, Nat.zero_le _⟩ dX6_mend_16 (fun r_34 f_33 H locs hp hw => ?_)
  obtain ⟨er, eu⟩ := hp
  rw [← er]
  rw [← eu] at hw
  refine lv_if_ne (tgt := 25) hx hb dX6_mend_19 (by decide) (fun _ => ?_) (fun h => absurd h (by decide))
  refine lv_aload_n hx hb dX6_mend_25 rfl (lv_at hl 0 rfl) ?_
  refine lv_iload_n hx hb dX6_mend_26 rfl (lv_at hl 1 rfl) ?_
  refine x_Vi (q := 302) (As := [.int (nI i)]) (rest := []) ⟨hx, hb, hml, hown, hts⟩ (k_X6_fits l D ca N ad B tR tK f_30 dd 0 (n 0) (n 1) (n 2) (g 13 0) (n 3) (n 4) (n 5) zn (g 3) (g 4) (z 0) (z 1) (z 2) (z 3) (z 4) (g 1) (g 2) i (zN g i) c_302 c_306 c_307 c_319 c_320 c_321 c_322 c_323 c_324 c_325 c_304 c_305  (by omega) (by omega) (hsz i (by omega)).2 (hsz i (by omega)).1) (cwV 1 hts gX6_mend_X6_fits rfl rfl rfl (by decide +kernel) ⟨Nat.le_of_ble_eq_true rfl, Nat.le_of_ble_eq_true rfl⟩) hK hE hB hw (by omega) c_302 rfl rfl rfl rfl hl.1 (Nat.le_of_ble_eq_true rfl) ⟨Nat.zero_le _, Nat.zero_le _⟩ dX6_mend_27 (fun r_36 f_35 H locs hp hw => ?_)
  obtain ⟨b1_37, w1_38, v1_39, h1_40, m1_41, hq_42, er, eu⟩ := hp
  rw [← er]
  have ef_35 : f_35 = va_up (va_up (va_up (va_up (va_up (va_up f_30 302 (.inr (7, mO ad 0 (n 0) (n 1) (n 2) (g 13 0) (n 3) (n 4) (n 5) (zN g i)))) 319 (ai (ca 1) 320 b1_37)) 321 (ai (ca 0) 64 w1_38)) 323 (ai (ca 0) 8 v1_39)) 322 (ai (ca 0) 8 h1_40)) 320 (ai (ca 1) 36 m1_41) := eu
  have c_302 : f_35 302 = .inr (7, mO ad 0 (n 0) (n 1) (n 2) (g 13 0) (n 3) (n 4) (n 5) (zN g i)) := by rw [ef_35, va_up_ne _ _ (by decide), va_up_ne _ _ (by decide), va_up_ne _ _ (by decide), va_up_ne _ _ (by decide), va_up_ne _ _ (by decide), va_up_self]
  have c_319 : f_35 319 = ai (ca 1) 320 b1_37 := by rw [ef_35, va_up_ne _ _ (by decide), va_up_ne _ _ (by decide), va_up_ne _ _ (by decide), va_up_ne _ _ (by decide), va_up_self]
  have c_321 : f_35 321 = ai (ca 0) 64 w1_38 := by rw [ef_35, va_up_ne _ _ (by decide), va_up_ne _ _ (by decide), va_up_ne _ _ (by decide), va_up_self]
  have c_323 : f_35 323 = ai (ca 0) 8 v1_39 := by rw [ef_35, va_up_ne _ _ (by decide), va_up_ne _ _ (by decide), va_up_self]
  have c_322 : f_35 322 = ai (ca 0) 8 h1_40 := by rw [ef_35, va_up_ne _ _ (by decide), va_up_self]
  have c_320 : f_35 320 = ai (ca 1) 36 m1_41 := by rw [ef_35, va_up_self]
  have hz27 := (hsz i (by omega)).1
  rw [bI_f (show ¬ hasM (g 4) i (sha (zN g i) (fun x => g 1 (200 * i + x) &&& nI 255)) (crM (fun x => g 1 (200 * i + x)) (zN g i) ^^^ (-1)) (g 3 i) from hf)]
  refine lv_if_eq (tgt := 36) hx hb dX6_mend_30 (by decide) (fun _ => ?_) (fun h => False.elim (h (by decide)))
  refine lv_iconst (v := nI 0) hx hb dX6_mend_36 (by decide) ?_
  refine lv_istore_n (lv' := [(3, .int (nI 0)), (0, .ref (ad 302)), (1, .int (nI i)), (2, .int (nI j))]) hx hb dX6_mend_37 rfl hl (by decide) rfl (fun ls hl => ?_)
  have hw : xw D vwCl N ad B s.heap (va_up (va_up (va_up (va_up (va_up (va_up f 302 (.inr (7, mO ad 0 (n 0) (n 1) (n 2) (g 13 0) (n 3) (n 4) (n 5) (zN g i)))) 319 (ai (ca 1) 320 b1_37)) 321 (ai (ca 0) 64 w1_38)) 323 (ai (ca 0) 8 v1_39)) 322 (ai (ca 0) 8 h1_40)) 320 (ai (ca 1) 36 m1_41)) H locs := by
    have ez : f_35 = va_up (va_up (va_up (va_up (va_up (va_up f 302 (.inr (7, mO ad 0 (n 0) (n 1) (n 2) (g 13 0) (n 3) (n 4) (n 5) (zN g i)))) 319 (ai (ca 1) 320 b1_37)) 321 (ai (ca 0) 64 w1_38)) 323 (ai (ca 0) 8 v1_39)) 322 (ai (ca 0) 8 h1_40)) 320 (ai (ca 1) 36 m1_41) := by simp only [ef_35, ef_30, up_aa]
    rw [← ez]; exact hw
  exact P_38 ((n 2 + 1)) (zN g i) b1_37 w1_38 v1_39 h1_40 m1_41 0 _ _ _ (by omega) (by omega) (hsz i (by omega)).1 hw (lv_sub hl [1, 2, 3, 0] rfl)

set_option maxHeartbeats 4000000 in
set_option maxRecDepth 100000 in
theorem k_X6_mend_inF (l : Launch) (D : va_G) (ca : Nat → ClassId) (N : Nat) (ad : Nat → Nat) (B tR tK : Nat) (f : Nat → va_E) (dd : xD N ad B) (hN : 326 ≤ N) (n : Nat → Nat) (g : Nat → Nat → Int32) (z : Nat → Nat → Int32) (zn : Nat) (tb : Nat → Int32) (hR : RepM ca ad n g z zn tb f) (i : Nat) (j : Nat) (b : Nat) (h2 : n 2 ≤ 20) (hi : i < n 2) (hj : j ≤ 1000000) (hsz : ∀ i, i < 20 → zN g i ≤ 200 ∧ g 2 i = nI (zN g i)) (hf : ¬ mFit g i i (zN g i)) (hb9 : b < n 2) (hib : i ≠ b) (hyes : mFit g b b (zN g b) ∧ mFit g b i (zN g b)) (hno : ∀ q, q < b → ¬ (mFit g q q (zN g q) ∧ mFit g q i (zN g q))) (hr9 : n 4 = 200) : xMi l yX6_mend wsX6_mend rmX6_mend [.ref (ad 302), .int (nI i), .int (nI j)] D ca N ad B tR tK f (fun r u => nI b = r ∧ ∃ (z1 : Nat → Nat → Int32) (zn1 : Nat), RepM ca ad (va_up n 7 0) (va_up (va_up (va_up g 1 (cpF (g 1) (fun x => g 1 (200 * b + x)) (200 * i) (zN g b))) 2 (upd (g 2) i (nI (zN g b)))) 6 (upd (g 6) i (((g 6) i) + (nI 1)))) z1 zn1 tb u ∧ ∀ y, (y < 302 ∨ 326 ≤ y) → u y = f y) := by
  refine x_open (cc := cX6_mend) (maxL := 5) (ret := (some .int)) (by decide) rfl (Nat.le_of_ble_eq_true rfl) ?_
  intro p e s m below meth c ls hx hb hml hown hts hr hlocks hnm hB hK hE hw hl
  have hown : s.vm.findClass RX6 = some m.cls := hown
  have hl : lv_has ls 5 [(0, .ref (ad 302)), (1, .int (nI i)), (2, .int (nI j))] := hl
  obtain ⟨c_302, c_303, c_304, c_305, c_306, c_307, c_308, c_309, c_310, c_311, c_312, c_313, c_314, c_315, c_316, c_317, c_318, c_319, c_320, c_321, c_322, c_323, c_324, c_325, hzn⟩ := hR
  have hin_7 : ∀ w ∈ u_ws RX6 TX6 32, w ∈ wsX6_mend := by decide +kernel
  have hf_29 := hts (.fieldLink RX6 29 "FixityRowsModel" "mended" "[I") (by decide +kernel)
  have hf_16 := hts (.fieldLink RX6 16 "FixityRowsModel" "size" "[I") (by decide +kernel)
  have hf_13 := hts (.fieldLink RX6 13 "FixityRowsModel" "bytes" "[B") (by decide +kernel)
  have hf_163 := hts (.fieldLink RX6 163 "FixityRowsModel" "files" "I") (by decide +kernel)
  have hf_160 := hts (.fieldLink RX6 160 "FixityRowsModel" "thrown" "I") (by decide +kernel)
  have b_302 := c_302
  have b_303 := c_303
  have b_304 := c_304
  have b_305 := c_305
  have b_306 := c_306
  have b_307 := c_307
  have b_308 := c_308
  have b_309 := c_309
  have b_310 := c_310
  have b_311 := c_311
  have b_312 := c_312
  have b_313 := c_313
  have b_314 := c_314
  have b_315 := c_315
  have b_316 := c_316
  have b_317 := c_317
  have b_318 := c_318
  have b_319 := c_319
  have b_320 := c_320
  have b_321 := c_321
  have b_322 := c_322
  have b_323 := c_323
  have b_324 := c_324
  have b_325 := c_325
  have P_128 : ∀ (f1 : Nat) (b1 : Nat → Int32) (w1 : Nat → Int32) (v1 : Nat → Int32) (h1 : Nat → Int32) (m1 : Nat → Int32) (H : Heap) (locs : List Loc) (ls : Array Slot), (f1 ≤ 200) → xw D vwCl N ad B s.heap (va_up (va_up (va_up (va_up (va_up (va_up (va_up (va_up f 302 (.inr (7, mO ad 0 (n 0) (n 1) (n 2) (g 13 0) (n 3) (n 4) (n 5) f1))) 319 (ai (ca 1) 320 b1)) 321 (ai (ca 0) 64 w1)) 323 (ai (ca 0) 8 v1)) 322 (ai (ca 0) 8 h1)) 320 (ai (ca 1) 36 m1)) 305 (ai (ca 0) 20 (upd (g 2) i (nI (zN g b))))) 304 (ai (ca 1) 4000 (cpF (g 1) (fun x => g 1 (200 * b + x)) (200 * i) (zN g b)))) H locs → lv_has ls 5 [(0, .ref (ad 302)), (1, .int (nI i)), (2, .int (nI j)), (3, .int (nI b))] → W p l e rmX6_mend s m ([.ref (ad 302), .int (nI i), .int (nI j)] : List Value).toArray below meth c H locs 0 0 (MQ below (xQi (fun r u => nI b = r ∧ ∃ (z1 : Nat → Nat → Int32) (zn1 : Nat), RepM ca ad (va_up n 7 0) (va_up (va_up (va_up g 1 (cpF (g 1) (fun x => g 1 (200 * b + x)) (200 * i) (zN g b))) 2 (upd (g 2) i (nI (zN g b)))) 6 (upd (g 6) i (((g 6) i) + (nI 1)))) z1 zn1 tb u ∧ ∀ y, (y < 302 ∨ 326 ≤ y) → u y = f y) D N ad B) ([.ref (ad 302), .int (nI i), .int (nI j)] : List Value).toArray s 0 0 (xA B)) (F0 m 128 ls []) := by
    intro f1 b1 w1 v1 h1 m1 H locs ls hf1 hw hl
    have c_302 := b_302
    have c_303 := b_303
    have c_304 := b_304
    have c_305 := b_305
    have c_306 := b_306
    have c_307 := b_307
    have c_308 := b_308
    have c_309 := b_309
    have c_310 := b_310
    have c_311 := b_311
    have c_312 := b_312
    have c_313 := b_313
    have c_314 := b_314
    have c_315 := b_315
    have c_316 := b_316
    have c_317 := b_317
    have c_318 := b_318
    have c_319 := b_319
    have c_320 := b_320
    have c_321 := b_321
    have c_322 := b_322
    have c_323 := b_323
    have c_324 := b_324
    have c_325 := b_325
    obtain ⟨f_1, ef_1⟩ : ∃ z, z = va_up (va_up (va_up (va_up (va_up (va_up (va_up (va_up f 302 (.inr (7, mO ad 0 (n 0) (n 1) (n 2) (g 13 0) (n 3) (n 4) (n 5) f1))) 319 (ai (ca 1) 320 b1)) 321 (ai (ca 0) 64 w1)) 323 (ai (ca 0) 8 v1)) 322 (ai (ca 0) 8 h1)) 320 (ai (ca 1) 36 m1)) 305 (ai (ca 0) 20 (upd (g 2) i (nI (zN g b))))) 304 (ai (ca 1) 4000 (cpF (g 1) (fun x => g 1 (200 * b + x)) (200 * i) (zN g b))) := ⟨_, rfl⟩
    have hw : xw D vwCl N ad B s.heap f_1 H locs := by rw [ef_1]; exact hw
    have c_302 : f_1 302 = .inr (7, mO ad 0 (n 0) (n 1) (n 2) (g 13 0) (n 3) (n 4) (n 5) f1) := by rw [ef_1, va_up_ne _ _ (by decide), va_up_ne _ _ (by decide), va_up_ne _ _ (by decide), va_up_ne _ _ (by decide), va_up_ne _ _ (by decide), va_up_ne _ _ (by decide), va_up_ne _ _ (by decide), va_up_self]
    have c_319 : f_1 319 = ai (ca 1) 320 b1 := by rw [ef_1, va_up_ne _ _ (by decide), va_up_ne _ _ (by decide), va_up_ne _ _ (by decide), va_up_ne _ _ (by decide), va_up_ne _ _ (by decide), va_up_ne _ _ (by decide), va_up_self]
    have c_321 : f_1 321 = ai (ca 0) 64 w1 := by rw [ef_1, va_up_ne _ _ (by decide), va_up_ne _ _ (by decide), va_up_ne _ _ (by decide), va_up_ne _ _ (by decide), va_up_ne _ _ (by decide), va_up_self]
    have c_323 : f_1 323 = ai (ca 0) 8 v1 := by rw [ef_1, va_up_ne _ _ (by decide), va_up_ne _ _ (by decide), va_up_ne _ _ (by decide), va_up_ne _ _ (by decide), va_up_self]
    have c_322 : f_1 322 = ai (ca 0) 8 h1 := by rw [ef_1, va_up_ne _ _ (by decide), va_up_ne _ _ (by decide), va_up_ne _ _ (by decide), va_up_self]
    have c_320 : f_1 320 = ai (ca 1) 36 m1 := by rw [ef_1, va_up_ne _ _ (by decide), va_up_ne _ _ (by decide), va_up_self]
    have c_305 : f_1 305 = ai (ca 0) 20 (upd (g 2) i (nI (zN g b))) := by rw [ef_1, va_up_ne _ _ (by decide), va_up_self]
    have c_304 : f_1 304 = ai (ca 1) 4000 (cpF (g 1) (fun x => g 1 (200 * b + x)) (200 * i) (zN g b)) := by rw [ef_1, va_up_self]
    refine lv_aload_n hx hb dX6_mend_128 rfl (lv_at hl 0 rfl) ?_
    refine x_get (ci := 7) (C := RX6) (T := TX6) (n := 32) (ref := RX6) hx hb hts hin_7 hown hK hw 302 (by omega) c_302 rfl 10 (by decide) hf_29 (fun _ h => h) rfl dX6_mend_129 ?_
    refine lv_iload_n hx hb dX6_mend_132 rfl (lv_at hl 1 rfl) ?_
    refine lv_dup2_11 hx hb dX6_mend_133 rfl rfl ?_
    have c_309 : f_1 309 = ai (ca 0) 20 (g 6) := by rw [ef_1, va_up_ne _ _ (by decide), va_up_ne _ _ (by decide), va_up_ne _ _ (by decide), va_up_ne _ _ (by decide), va_up_ne _ _ (by decide), va_up_ne _ _ (by decide), va_up_ne _ _ (by decide), va_up_ne _ _ (by decide)]; exact c_309
    refine x_iald (j := i) hx hb hK hw 309 0 (by omega) c_309 rfl rfl (by omega) (by decide) dX6_mend_134 ?_
    refine lv_iconst (v := nI 1) hx hb dX6_mend_135 (by decide) ?_
    refine lv_iadd hx hb dX6_mend_136 ?_
    refine lv_topi (fun x_2 ex_2 => ?_)
    refine x_iast (j := i) hx hb hK dd hw 309 0 (by omega) c_309 rfl rfl (by omega) (by decide) dX6_mend_137 (fun H locs hw => ?_)
    obtain ⟨f_3, ef_3⟩ : ∃ z, z = va_up f_1 309 (ai (ca 0) 20 (upd (g 6) i x_2)) := ⟨_, rfl⟩
    have hw : xw D vwCl N ad B s.heap f_3 H locs := by rw [ef_3]; exact hw
    have c_309 : f_3 309 = ai (ca 0) 20 (upd (g 6) i x_2) := va_up_of ef_3
    refine lv_aload_n hx hb dX6_mend_138 rfl (lv_at hl 0 rfl) ?_
    refine lv_iconst (v := nI 3) hx hb dX6_mend_139 (by decide) ?_
    refine lv_iload_n hx hb dX6_mend_140 rfl (lv_at hl 1 rfl) ?_
    refine lv_iload_n hx hb dX6_mend_141 rfl (lv_at hl 2 rfl) ?_
    have c_302 : f_3 302 = .inr (7, mO ad 0 (n 0) (n 1) (n 2) (g 13 0) (n 3) (n 4) (n 5) f1) := by rw [ef_3, va_up_ne _ _ (by decide)]; exact c_302
    refine x_Vv (q := 302) (As := [.int (nI 3), .int (nI i), .int (nI j)]) (rest := []) ⟨hx, hb, hml, hown, hts⟩ (k_X6_enter_full l D ca N ad B tR tK f_3 dd 0 (n 0) (n 1) (n 2) (g 13 0) (n 3) (n 4) (n 5) f1 (nI 3) (nI i) (nI j) c_302  (by omega) (by omega)) (cwV 3 hts gX6_mend_X6_enter rfl rfl rfl (by decide +kernel) ⟨Nat.le_of_ble_eq_true rfl, Nat.le_of_ble_eq_true rfl⟩) hK hE hB hw (by omega) c_302 rfl rfl rfl rfl hl.1 (Nat.le_of_ble_eq_true rfl) ⟨Nat.zero_le _, Nat.zero_le _⟩ dX6_mend_142 (fun f_4 H locs hp hw => ?_)
    have eu := hp
    rw [← eu] at hw
    refine lv_iload_n hx hb dX6_mend_145 rfl (lv_at hl 3 rfl) ?_
    have c_303 : f_3 303 = ai (ca 1) 200 (g 0) := by rw [ef_3, va_up_ne _ _ (by decide), ef_1, va_up_ne _ _ (by decide), va_up_ne _ _ (by decide), va_up_ne _ _ (by decide), va_up_ne _ _ (by decide), va_up_ne _ _ (by decide), va_up_ne _ _ (by decide), va_up_ne _ _ (by decide), va_up_ne _ _ (by decide)]; exact c_303
    have c_304 : f_3 304 = ai (ca 1) 4000 (cpF (g 1) (fun x => g 1 (200 * b + x)) (200 * i) (zN g b)) := by rw [ef_3, va_up_ne _ _ (by decide)]; exact c_304
    have c_305 : f_3 305 = ai (ca 0) 20 (upd (g 2) i (nI (zN g b))) := by rw [ef_3, va_up_ne _ _ (by decide)]; exact c_305
    have c_306 : f_3 306 = ai (ca 0) 20 (g 3) := by rw [ef_3, va_up_ne _ _ (by decide), ef_1, va_up_ne _ _ (by decide), va_up_ne _ _ (by decide), va_up_ne _ _ (by decide), va_up_ne _ _ (by decide), va_up_ne _ _ (by decide), va_up_ne _ _ (by decide), va_up_ne _ _ (by decide), va_up_ne _ _ (by decide)]; exact c_306
    have c_307 : f_3 307 = ai (ca 1) 720 (g 4) := by rw [ef_3, va_up_ne _ _ (by decide), ef_1, va_up_ne _ _ (by decide), va_up_ne _ _ (by decide), va_up_ne _ _ (by decide), va_up_ne _ _ (by decide), va_up_ne _ _ (by decide), va_up_ne _ _ (by decide), va_up_ne _ _ (by decide), va_up_ne _ _ (by decide)]; exact c_307
    have c_308 : f_3 308 = ai (ca 0) 20 (g 5) := by rw [ef_3, va_up_ne _ _ (by decide), ef_1, va_up_ne _ _ (by decide), va_up_ne _ _ (by decide), va_up_ne _ _ (by decide), va_up_ne _ _ (by decide), va_up_ne _ _ (by decide), va_up_ne _ _ (by decide), va_up_ne _ _ (by decide), va_up_ne _ _ (by decide)]; exact c_308
    have c_310 : f_3 310 = ai (ca 0) 20 (g 7) := by rw [ef_3, va_up_ne _ _ (by decide), ef_1, va_up_ne _ _ (by decide), va_up_ne _ _ (by decide), va_up_ne _ _ (by decide), va_up_ne _ _ (by decide), va_up_ne _ _ (by decide), va_up_ne _ _ (by decide), va_up_ne _ _ (by decide), va_up_ne _ _ (by decide)]; exact c_310
    have c_311 : f_3 311 = ai (ca 0) 20 (g 8) := by rw [ef_3, va_up_ne _ _ (by decide), ef_1, va_up_ne _ _ (by decide), va_up_ne _ _ (by decide), va_up_ne _ _ (by decide), va_up_ne _ _ (by decide), va_up_ne _ _ (by decide), va_up_ne _ _ (by decide), va_up_ne _ _ (by decide), va_up_ne _ _ (by decide)]; exact c_311
    have c_312 : f_3 312 = ai (ca 0) 20 (g 9) := by rw [ef_3, va_up_ne _ _ (by decide), ef_1, va_up_ne _ _ (by decide), va_up_ne _ _ (by decide), va_up_ne _ _ (by decide), va_up_ne _ _ (by decide), va_up_ne _ _ (by decide), va_up_ne _ _ (by decide), va_up_ne _ _ (by decide), va_up_ne _ _ (by decide)]; exact c_312
    have c_313 : f_3 313 = ai (ca 2) 20 (g 10) := by rw [ef_3, va_up_ne _ _ (by decide), ef_1, va_up_ne _ _ (by decide), va_up_ne _ _ (by decide), va_up_ne _ _ (by decide), va_up_ne _ _ (by decide), va_up_ne _ _ (by decide), va_up_ne _ _ (by decide), va_up_ne _ _ (by decide), va_up_ne _ _ (by decide)]; exact c_313
    have c_314 : f_3 314 = ai (ca 0) 200 (g 11) := by rw [ef_3, va_up_ne _ _ (by decide), ef_1, va_up_ne _ _ (by decide), va_up_ne _ _ (by decide), va_up_ne _ _ (by decide), va_up_ne _ _ (by decide), va_up_ne _ _ (by decide), va_up_ne _ _ (by decide), va_up_ne _ _ (by decide), va_up_ne _ _ (by decide)]; exact c_314
    have c_315 : f_3 315 = ai (ca 0) 200 (g 12) := by rw [ef_3, va_up_ne _ _ (by decide), ef_1, va_up_ne _ _ (by decide), va_up_ne _ _ (by decide), va_up_ne _ _ (by decide), va_up_ne _ _ (by decide), va_up_ne _ _ (by decide), va_up_ne _ _ (by decide), va_up_ne _ _ (by decide), va_up_ne _ _ (by decide)]; exact c_315
    have c_316 : f_3 316 = ai (ca 0) 200 (g 14) := by rw [ef_3, va_up_ne _ _ (by decide), ef_1, va_up_ne _ _ (by decide), va_up_ne _ _ (by decide), va_up_ne _ _ (by decide), va_up_ne _ _ (by decide), va_up_ne _ _ (by decide), va_up_ne _ _ (by decide), va_up_ne _ _ (by decide), va_up_ne _ _ (by decide)]; exact c_316
    have c_317 : f_3 317 = ai (ca 1) 6400 (g 15) := by rw [ef_3, va_up_ne _ _ (by decide), ef_1, va_up_ne _ _ (by decide), va_up_ne _ _ (by decide), va_up_ne _ _ (by decide), va_up_ne _ _ (by decide), va_up_ne _ _ (by decide), va_up_ne _ _ (by decide), va_up_ne _ _ (by decide), va_up_ne _ _ (by decide)]; exact c_317
    have c_318 : f_3 318 = ai (ca 1) 32 (g 16) := by rw [ef_3, va_up_ne _ _ (by decide), ef_1, va_up_ne _ _ (by decide), va_up_ne _ _ (by decide), va_up_ne _ _ (by decide), va_up_ne _ _ (by decide), va_up_ne _ _ (by decide), va_up_ne _ _ (by decide), va_up_ne _ _ (by decide), va_up_ne _ _ (by decide)]; exact c_318
    have c_319 : f_3 319 = ai (ca 1) 320 b1 := by rw [ef_3, va_up_ne _ _ (by decide)]; exact c_319
    have c_320 : f_3 320 = ai (ca 1) 36 m1 := by rw [ef_3, va_up_ne _ _ (by decide)]; exact c_320
    have c_321 : f_3 321 = ai (ca 0) 64 w1 := by rw [ef_3, va_up_ne _ _ (by decide)]; exact c_321
    have c_322 : f_3 322 = ai (ca 0) 8 h1 := by rw [ef_3, va_up_ne _ _ (by decide)]; exact c_322
    have c_323 : f_3 323 = ai (ca 0) 8 v1 := by rw [ef_3, va_up_ne _ _ (by decide)]; exact c_323
    have c_324 : f_3 324 = ai (ca 0) 8 shR := by rw [ef_3, va_up_ne _ _ (by decide), ef_1, va_up_ne _ _ (by decide), va_up_ne _ _ (by decide), va_up_ne _ _ (by decide), va_up_ne _ _ (by decide), va_up_ne _ _ (by decide), va_up_ne _ _ (by decide), va_up_ne _ _ (by decide), va_up_ne _ _ (by decide)]; exact c_324
    have c_325 : f_3 325 = ai (ca 0) 64 shK := by rw [ef_3, va_up_ne _ _ (by decide), ef_1, va_up_ne _ _ (by decide), va_up_ne _ _ (by decide), va_up_ne _ _ (by decide), va_up_ne _ _ (by decide), va_up_ne _ _ (by decide), va_up_ne _ _ (by decide), va_up_ne _ _ (by decide), va_up_ne _ _ (by decide)]; exact c_325
    have c_309 : f_3 309 = ai (ca 0) 20 (upd (g 6) i (((g 6) i) + (nI 1))) := by rw [c_309]; simp only [ex_2]
    have qn_0 : (va_up n 7 0) 0 = n 0 := by rw [va_up_ne _ _ (by decide)]
    have qn_1 : (va_up n 7 0) 1 = n 1 := by rw [va_up_ne _ _ (by decide)]
    have qn_2 : (va_up n 7 0) 2 = n 2 := by rw [va_up_ne _ _ (by decide)]
    have qn_3 : (va_up n 7 0) 3 = n 3 := by rw [va_up_ne _ _ (by decide)]
    have qn_4 : (va_up n 7 0) 4 = n 4 := by rw [va_up_ne _ _ (by decide)]
    have qn_5 : (va_up n 7 0) 5 = n 5 := by rw [va_up_ne _ _ (by decide)]
    have qn_6 : (va_up n 7 0) 6 = n 6 := by rw [va_up_ne _ _ (by decide)]
    have qn_7 : (va_up n 7 0) 7 = 0 := by rw [va_up_self]
    have qg_0 : (va_up (va_up (va_up g 1 (cpF (g 1) (fun x => g 1 (200 * b + x)) (200 * i) (zN g b))) 2 (upd (g 2) i (nI (zN g b)))) 6 (upd (g 6) i (((g 6) i) + (nI 1)))) 0 = g 0 := by rw [va_up_ne _ _ (by decide), va_up_ne _ _ (by decide), va_up_ne _ _ (by decide)]
    have qg_1 : (va_up (va_up (va_up g 1 (cpF (g 1) (fun x => g 1 (200 * b + x)) (200 * i) (zN g b))) 2 (upd (g 2) i (nI (zN g b)))) 6 (upd (g 6) i (((g 6) i) + (nI 1)))) 1 = cpF (g 1) (fun x => g 1 (200 * b + x)) (200 * i) (zN g b) := by rw [va_up_ne _ _ (by decide), va_up_ne _ _ (by decide), va_up_self]
    have qg_2 : (va_up (va_up (va_up g 1 (cpF (g 1) (fun x => g 1 (200 * b + x)) (200 * i) (zN g b))) 2 (upd (g 2) i (nI (zN g b)))) 6 (upd (g 6) i (((g 6) i) + (nI 1)))) 2 = upd (g 2) i (nI (zN g b)) := by rw [va_up_ne _ _ (by decide), va_up_self]
    have qg_3 : (va_up (va_up (va_up g 1 (cpF (g 1) (fun x => g 1 (200 * b + x)) (200 * i) (zN g b))) 2 (upd (g 2) i (nI (zN g b)))) 6 (upd (g 6) i (((g 6) i) + (nI 1)))) 3 = g 3 := by rw [va_up_ne _ _ (by decide), va_up_ne _ _ (by decide), va_up_ne _ _ (by decide)]
    have qg_4 : (va_up (va_up (va_up g 1 (cpF (g 1) (fun x => g 1 (200 * b + x)) (200 * i) (zN g b))) 2 (upd (g 2) i (nI (zN g b)))) 6 (upd (g 6) i (((g 6) i) + (nI 1)))) 4 = g 4 := by rw [va_up_ne _ _ (by decide), va_up_ne _ _ (by decide), va_up_ne _ _ (by decide)]
    have qg_5 : (va_up (va_up (va_up g 1 (cpF (g 1) (fun x => g 1 (200 * b + x)) (200 * i) (zN g b))) 2 (upd (g 2) i (nI (zN g b)))) 6 (upd (g 6) i (((g 6) i) + (nI 1)))) 5 = g 5 := by rw [va_up_ne _ _ (by decide), va_up_ne _ _ (by decide), va_up_ne _ _ (by decide)]
    have qg_6 : (va_up (va_up (va_up g 1 (cpF (g 1) (fun x => g 1 (200 * b + x)) (200 * i) (zN g b))) 2 (upd (g 2) i (nI (zN g b)))) 6 (upd (g 6) i (((g 6) i) + (nI 1)))) 6 = upd (g 6) i (((g 6) i) + (nI 1)) := by rw [va_up_self]
    have qg_7 : (va_up (va_up (va_up g 1 (cpF (g 1) (fun x => g 1 (200 * b + x)) (200 * i) (zN g b))) 2 (upd (g 2) i (nI (zN g b)))) 6 (upd (g 6) i (((g 6) i) + (nI 1)))) 7 = g 7 := by rw [va_up_ne _ _ (by decide), va_up_ne _ _ (by decide), va_up_ne _ _ (by decide)]
    have qg_8 : (va_up (va_up (va_up g 1 (cpF (g 1) (fun x => g 1 (200 * b + x)) (200 * i) (zN g b))) 2 (upd (g 2) i (nI (zN g b)))) 6 (upd (g 6) i (((g 6) i) + (nI 1)))) 8 = g 8 := by rw [va_up_ne _ _ (by decide), va_up_ne _ _ (by decide), va_up_ne _ _ (by decide)]
    have qg_9 : (va_up (va_up (va_up g 1 (cpF (g 1) (fun x => g 1 (200 * b + x)) (200 * i) (zN g b))) 2 (upd (g 2) i (nI (zN g b)))) 6 (upd (g 6) i (((g 6) i) + (nI 1)))) 9 = g 9 := by rw [va_up_ne _ _ (by decide), va_up_ne _ _ (by decide), va_up_ne _ _ (by decide)]
    have qg_10 : (va_up (va_up (va_up g 1 (cpF (g 1) (fun x => g 1 (200 * b + x)) (200 * i) (zN g b))) 2 (upd (g 2) i (nI (zN g b)))) 6 (upd (g 6) i (((g 6) i) + (nI 1)))) 10 = g 10 := by rw [va_up_ne _ _ (by decide), va_up_ne _ _ (by decide), va_up_ne _ _ (by decide)]
    have qg_11 : (va_up (va_up (va_up g 1 (cpF (g 1) (fun x => g 1 (200 * b + x)) (200 * i) (zN g b))) 2 (upd (g 2) i (nI (zN g b)))) 6 (upd (g 6) i (((g 6) i) + (nI 1)))) 11 = g 11 := by rw [va_up_ne _ _ (by decide), va_up_ne _ _ (by decide), va_up_ne _ _ (by decide)]
    have qg_12 : (va_up (va_up (va_up g 1 (cpF (g 1) (fun x => g 1 (200 * b + x)) (200 * i) (zN g b))) 2 (upd (g 2) i (nI (zN g b)))) 6 (upd (g 6) i (((g 6) i) + (nI 1)))) 12 = g 12 := by rw [va_up_ne _ _ (by decide), va_up_ne _ _ (by decide), va_up_ne _ _ (by decide)]
    have qg_13 : (va_up (va_up (va_up g 1 (cpF (g 1) (fun x => g 1 (200 * b + x)) (200 * i) (zN g b))) 2 (upd (g 2) i (nI (zN g b)))) 6 (upd (g 6) i (((g 6) i) + (nI 1)))) 13 = g 13 := by rw [va_up_ne _ _ (by decide), va_up_ne _ _ (by decide), va_up_ne _ _ (by decide)]
    have qg_14 : (va_up (va_up (va_up g 1 (cpF (g 1) (fun x => g 1 (200 * b + x)) (200 * i) (zN g b))) 2 (upd (g 2) i (nI (zN g b)))) 6 (upd (g 6) i (((g 6) i) + (nI 1)))) 14 = g 14 := by rw [va_up_ne _ _ (by decide), va_up_ne _ _ (by decide), va_up_ne _ _ (by decide)]
    have qg_15 : (va_up (va_up (va_up g 1 (cpF (g 1) (fun x => g 1 (200 * b + x)) (200 * i) (zN g b))) 2 (upd (g 2) i (nI (zN g b)))) 6 (upd (g 6) i (((g 6) i) + (nI 1)))) 15 = g 15 := by rw [va_up_ne _ _ (by decide), va_up_ne _ _ (by decide), va_up_ne _ _ (by decide)]
    have qg_16 : (va_up (va_up (va_up g 1 (cpF (g 1) (fun x => g 1 (200 * b + x)) (200 * i) (zN g b))) 2 (upd (g 2) i (nI (zN g b)))) 6 (upd (g 6) i (((g 6) i) + (nI 1)))) 16 = g 16 := by rw [va_up_ne _ _ (by decide), va_up_ne _ _ (by decide), va_up_ne _ _ (by decide)]
    have qz_0 : (va_up (va_up (va_up (va_up (va_up z 0 b1) 1 m1) 2 w1) 3 h1) 4 v1) 0 = b1 := by rw [va_up_ne _ _ (by decide), va_up_ne _ _ (by decide), va_up_ne _ _ (by decide), va_up_ne _ _ (by decide), va_up_self]
    have qz_1 : (va_up (va_up (va_up (va_up (va_up z 0 b1) 1 m1) 2 w1) 3 h1) 4 v1) 1 = m1 := by rw [va_up_ne _ _ (by decide), va_up_ne _ _ (by decide), va_up_ne _ _ (by decide), va_up_self]
    have qz_2 : (va_up (va_up (va_up (va_up (va_up z 0 b1) 1 m1) 2 w1) 3 h1) 4 v1) 2 = w1 := by rw [va_up_ne _ _ (by decide), va_up_ne _ _ (by decide), va_up_self]
    have qz_3 : (va_up (va_up (va_up (va_up (va_up z 0 b1) 1 m1) 2 w1) 3 h1) 4 v1) 3 = h1 := by rw [va_up_ne _ _ (by decide), va_up_self]
    have qz_4 : (va_up (va_up (va_up (va_up (va_up z 0 b1) 1 m1) 2 w1) 3 h1) 4 v1) 4 = v1 := by rw [va_up_self]
    have hRz : RepM ca ad (va_up n 7 0) (va_up (va_up (va_up g 1 (cpF (g 1) (fun x => g 1 (200 * b + x)) (200 * i) (zN g b))) 2 (upd (g 2) i (nI (zN g b)))) 6 (upd (g 6) i (((g 6) i) + (nI 1)))) (va_up (va_up (va_up (va_up (va_up z 0 b1) 1 m1) 2 w1) 3 h1) 4 v1) f1 tb f_3 := ⟨(by rw [qn_7, qn_0, qn_1, qn_2, qn_3, qn_4, qn_5, qg_13]; exact c_302),
          (by rw [qg_0]; exact c_303),
          (by rw [qg_1]; exact c_304),
          (by rw [qg_2]; exact c_305),
          (by rw [qg_3]; exact c_306),
          (by rw [qg_4]; exact c_307),
          (by rw [qg_5]; exact c_308),
          (by rw [qg_6]; exact c_309),
          (by rw [qg_7]; exact c_310),
          (by rw [qg_8]; exact c_311),
          (by rw [qg_9]; exact c_312),
          (by rw [qg_10]; exact c_313),
          (by rw [qg_11]; exact c_314),
          (by rw [qg_12]; exact c_315),
          (by rw [qg_14]; exact c_316),
          (by rw [qg_15]; exact c_317),
          (by rw [qg_16]; exact c_318),
          (by rw [qz_0]; exact c_319),
          (by rw [qz_1]; exact c_320),
          (by rw [qz_2]; exact c_321),
          (by rw [qz_3]; exact c_322),
          (by rw [qz_4]; exact c_323),
          c_324,
          c_325, (by first | omega | assumption)⟩
    exact x_iret hx hb hr hlocks hw ⟨rfl, va_up (va_up (va_up (va_up (va_up z 0 b1) 1 m1) 2 w1) 3 h1) 4 v1, f1, hRz, (fun y hy => by rw [ef_3, va_up_ne _ _ (by omega), ef_1, va_up_ne _ _ (by omega), va_up_ne _ _ (by omega), va_up_ne _ _ (by omega), va_up_ne _ _ (by omega), va_up_ne _ _ (by omega), va_up_ne _ _ (by omega), va_up_ne _ _ (by omega), va_up_ne _ _ (by omega)])⟩ dX6_mend_146
  have P_85 : ∀ (n_85 : Nat) (f1 : Nat) (b1 : Nat → Int32) (w1 : Nat → Int32) (v1 : Nat → Int32) (h1 : Nat → Int32) (m1 : Nat → Int32) (k : Nat) (H : Heap) (locs : List Loc) (ls : Array Slot), zN g b + 1 ≤ k + n_85 → (k ≤ zN g b) → (f1 ≤ 200) → xw D vwCl N ad B s.heap (va_up (va_up (va_up (va_up (va_up (va_up (va_up (va_up f 302 (.inr (7, mO ad 0 (n 0) (n 1) (n 2) (g 13 0) (n 3) (n 4) (n 5) f1))) 319 (ai (ca 1) 320 b1)) 321 (ai (ca 0) 64 w1)) 323 (ai (ca 0) 8 v1)) 322 (ai (ca 0) 8 h1)) 320 (ai (ca 1) 36 m1)) 305 (ai (ca 0) 20 (upd (g 2) i (nI (zN g b))))) 304 (ai (ca 1) 4000 (cpF (g 1) (fun x => g 1 (200 * b + x)) (200 * i) k))) H locs → lv_has ls 5 [(0, .ref (ad 302)), (1, .int (nI i)), (2, .int (nI j)), (3, .int (nI b)), (4, .int (nI k))] → W p l e rmX6_mend s m ([.ref (ad 302), .int (nI i), .int (nI j)] : List Value).toArray below meth c H locs 0 0 (MQ below (xQi (fun r u => nI b = r ∧ ∃ (z1 : Nat → Nat → Int32) (zn1 : Nat), RepM ca ad (va_up n 7 0) (va_up (va_up (va_up g 1 (cpF (g 1) (fun x => g 1 (200 * b + x)) (200 * i) (zN g b))) 2 (upd (g 2) i (nI (zN g b)))) 6 (upd (g 6) i (((g 6) i) + (nI 1)))) z1 zn1 tb u ∧ ∀ y, (y < 302 ∨ 326 ≤ y) → u y = f y) D N ad B) ([.ref (ad 302), .int (nI i), .int (nI j)] : List Value).toArray s 0 0 (xA B)) (F0 m 85 ls []) := by
    intro n_85
    induction n_85 with
    | zero =>
      intro f1 b1 w1 v1 h1 m1 k H locs ls hm_85 hk hf1 hw hl
      exact absurd hm_85 (by omega)
    | succ n_85 ih_85 =>
      intro f1 b1 w1 v1 h1 m1 k H locs ls hm_85 hk hf1 hw hl
      have c_302 := b_302
      have c_303 := b_303
      have c_304 := b_304
      have c_305 := b_305
      have c_306 := b_306
      have c_307 := b_307
      have c_308 := b_308
      have c_309 := b_309
      have c_310 := b_310
      have c_311 := b_311
      have c_312 := b_312
      have c_313 := b_313
      have c_314 := b_314
      have c_315 := b_315
      have c_316 := b_316
      have c_317 := b_317
      have c_318 := b_318
      have c_319 := b_319
      have c_320 := b_320
      have c_321 := b_321
      have c_322 := b_322
      have c_323 := b_323
      have c_324 := b_324
      have c_325 := b_325
      obtain ⟨f_6, ef_6⟩ : ∃ z, z = va_up (va_up (va_up (va_up (va_up (va_up (va_up (va_up f 302 (.inr (7, mO ad 0 (n 0) (n 1) (n 2) (g 13 0) (n 3) (n 4) (n 5) f1))) 319 (ai (ca 1) 320 b1)) 321 (ai (ca 0) 64 w1)) 323 (ai (ca 0) 8 v1)) 322 (ai (ca 0) 8 h1)) 320 (ai (ca 1) 36 m1)) 305 (ai (ca 0) 20 (upd (g 2) i (nI (zN g b))))) 304 (ai (ca 1) 4000 (cpF (g 1) (fun x => g 1 (200 * b + x)) (200 * i) k)) := ⟨_, rfl⟩
      have hw : xw D vwCl N ad B s.heap f_6 H locs := by rw [ef_6]; exact hw
      have c_302 : f_6 302 = .inr (7, mO ad 0 (n 0) (n 1) (n 2) (g 13 0) (n 3) (n 4) (n 5) f1) := by rw [ef_6, va_up_ne _ _ (by decide), va_up_ne _ _ (by decide), va_up_ne _ _ (by decide), va_up_ne _ _ (by decide), va_up_ne _ _ (by decide), va_up_ne _ _ (by decide), va_up_ne _ _ (by decide), va_up_self]
      have c_319 : f_6 319 = ai (ca 1) 320 b1 := by rw [ef_6, va_up_ne _ _ (by decide), va_up_ne _ _ (by decide), va_up_ne _ _ (by decide), va_up_ne _ _ (by decide), va_up_ne _ _ (by decide), va_up_ne _ _ (by decide), va_up_self]
      have c_321 : f_6 321 = ai (ca 0) 64 w1 := by rw [ef_6, va_up_ne _ _ (by decide), va_up_ne _ _ (by decide), va_up_ne _ _ (by decide), va_up_ne _ _ (by decide), va_up_ne _ _ (by decide), va_up_self]
      have c_323 : f_6 323 = ai (ca 0) 8 v1 := by rw [ef_6, va_up_ne _ _ (by decide), va_up_ne _ _ (by decide), va_up_ne _ _ (by decide), va_up_ne _ _ (by decide), va_up_self]
      have c_322 : f_6 322 = ai (ca 0) 8 h1 := by rw [ef_6, va_up_ne _ _ (by decide), va_up_ne _ _ (by decide), va_up_ne _ _ (by decide), va_up_self]
      have c_320 : f_6 320 = ai (ca 1) 36 m1 := by rw [ef_6, va_up_ne _ _ (by decide), va_up_ne _ _ (by decide), va_up_self]
      have c_305 : f_6 305 = ai (ca 0) 20 (upd (g 2) i (nI (zN g b))) := by rw [ef_6, va_up_ne _ _ (by decide), va_up_self]
      have c_304 : f_6 304 = ai (ca 1) 4000 (cpF (g 1) (fun x => g 1 (200 * b + x)) (200 * i) k) := by rw [ef_6, va_up_self]
      have hzb := (hsz b (by omega)).2
      have hzc := (hsz b (by omega)).1
      refine lv_iload hx hb dX6_mend_85 (lv_at hl 4 rfl) ?_
      refine lv_aload_n hx hb dX6_mend_87 rfl (lv_at hl 0 rfl) ?_
      refine x_get (ci := 7) (C := RX6) (T := TX6) (n := 32) (ref := RX6) hx hb hts hin_7 hown hK hw 302 (by omega) c_302 rfl 6 (by decide) hf_16 (fun _ h => h) rfl dX6_mend_88 ?_
      refine lv_iload_n hx hb dX6_mend_91 rfl (lv_at hl 3 rfl) ?_
      refine x_iald (j := b) hx hb hK hw 305 0 (by omega) c_305 rfl rfl (by omega) (by decide) dX6_mend_92 ?_
      rw [pk_un (fun z9 => hib z9.symm), hzb]
      refine n_icge (tgt := 128) hx hb dX6_mend_93 (by decide) (by omega) (by omega) (fun hc_93 => ?_) (fun hc_93 => ?_)
      · have hw : xw D vwCl N ad B s.heap (va_up (va_up (va_up (va_up (va_up (va_up (va_up (va_up f 302 (.inr (7, mO ad 0 (n 0) (n 1) (n 2) (g 13 0) (n 3) (n 4) (n 5) f1))) 319 (ai (ca 1) 320 b1)) 321 (ai (ca 0) 64 w1)) 323 (ai (ca 0) 8 v1)) 322 (ai (ca 0) 8 h1)) 320 (ai (ca 1) 36 m1)) 305 (ai (ca 0) 20 (upd (g 2) i (nI (zN g b))))) 304 (ai (ca 1) 4000 (cpF (g 1) (fun x => g 1 (200 * b + x)) (200 * i) (zN g b)))) H locs := by
          have ez : f_6 = va_up (va_up (va_up (va_up (va_up (va_up (va_up (va_up f 302 (.inr (7, mO ad 0 (n 0) (n 1) (n 2) (g 13 0) (n 3) (n 4) (n 5) f1))) 319 (ai (ca 1) 320 b1)) 321 (ai (ca 0) 64 w1)) 323 (ai (ca 0) 8 v1)) 322 (ai (ca 0) 8 h1)) 320 (ai (ca 1) 36 m1)) 305 (ai (ca 0) 20 (upd (g 2) i (nI (zN g b))))) 304 (ai (ca 1) 4000 (cpF (g 1) (fun x => g 1 (200 * b + x)) (200 * i) (zN g b))) := by have ek : k = zN g b := (by omega); subst ek; simp only [ef_6]
          rw [← ez]; exact hw
        exact P_128 f1 b1 w1 v1 h1 m1 _ _ _ (by omega) hw (lv_sub hl [0, 1, 2, 3] rfl)
      · refine lv_aload_n hx hb dX6_mend_96 rfl (lv_at hl 0 rfl) ?_
        refine x_get (ci := 7) (C := RX6) (T := TX6) (n := 32) (ref := RX6) hx hb hts hin_7 hown hK hw 302 (by omega) c_302 rfl 5 (by decide) hf_13 (fun _ h => h) rfl dX6_mend_97 ?_
        refine lv_sipush (v := nI 200) hx hb dX6_mend_100 (by decide) ?_
        refine lv_iload_n hx hb dX6_mend_103 rfl (lv_at hl 1 rfl) ?_
        refine n_imul hx hb dX6_mend_104 ?_
        refine lv_iload hx hb dX6_mend_105 (lv_at hl 4 rfl) ?_
        refine n_iadd hx hb dX6_mend_107 ?_
        refine lv_aload_n hx hb dX6_mend_108 rfl (lv_at hl 0 rfl) ?_
        refine x_get (ci := 7) (C := RX6) (T := TX6) (n := 32) (ref := RX6) hx hb hts hin_7 hown hK hw 302 (by omega) c_302 rfl 5 (by decide) hf_13 (fun _ h => h) rfl dX6_mend_109 ?_
        refine lv_sipush (v := nI 200) hx hb dX6_mend_112 (by decide) ?_
        refine lv_iload_n hx hb dX6_mend_115 rfl (lv_at hl 3 rfl) ?_
        refine n_imul hx hb dX6_mend_116 ?_
        refine lv_iload hx hb dX6_mend_117 (lv_at hl 4 rfl) ?_
        refine n_iadd hx hb dX6_mend_119 ?_
        refine x_bald (j := (200 * b) + k) hx hb hK hw 304 1 (by omega) c_304 rfl rfl (by omega) (by decide) dX6_mend_120 ?_
        rw [cpF_out (by omega)]
        refine x_bast (j := (200 * i) + k) (y := (g 1 ((200 * b) + k)).toInt8.toInt32) hx hb hK dd hw 304 1 (by omega) c_304 rfl rfl (by omega) (by decide) rfl dX6_mend_121 (fun H locs hw => ?_)
        obtain ⟨f_7, ef_7⟩ : ∃ z, z = va_up f_6 304 (ai (ca 1) 4000 (upd (cpF (g 1) (fun x => g 1 (200 * b + x)) (200 * i) k) ((200 * i) + k) ((g 1 ((200 * b) + k)).toInt8.toInt32))) := ⟨_, rfl⟩
        have hw : xw D vwCl N ad B s.heap f_7 H locs := by rw [ef_7]; exact hw
        have c_304 : f_7 304 = ai (ca 1) 4000 (upd (cpF (g 1) (fun x => g 1 (200 * b + x)) (200 * i) k) ((200 * i) + k) ((g 1 ((200 * b) + k)).toInt8.toInt32)) := va_up_of ef_7
        refine lv_iinc (v := nI (k + 1)) (lv' := [(4, .int (nI (k + 1))), (0, .ref (ad 302)), (1, .int (nI i)), (2, .int (nI j)), (3, .int (nI b))]) hx hb dX6_mend_122 hl (k := 4) rfl (by rw [show Int32.ofInt 1 = nI 1 from rfl]; exact nI_add _ _) (by decide) rfl (fun ls hl => ?_)
        refine lv_goto (tgt := 85) hx hb dX6_mend_125 (by decide) ?_
        have hw : xw D vwCl N ad B s.heap (va_up (va_up (va_up (va_up (va_up (va_up (va_up (va_up f 302 (.inr (7, mO ad 0 (n 0) (n 1) (n 2) (g 13 0) (n 3) (n 4) (n 5) f1))) 319 (ai (ca 1) 320 b1)) 321 (ai (ca 0) 64 w1)) 323 (ai (ca 0) 8 v1)) 322 (ai (ca 0) 8 h1)) 320 (ai (ca 1) 36 m1)) 305 (ai (ca 0) 20 (upd (g 2) i (nI (zN g b))))) 304 (ai (ca 1) 4000 (cpF (g 1) (fun x => g 1 (200 * b + x)) (200 * i) (k + 1)))) H locs := by
          have ez : f_7 = va_up (va_up (va_up (va_up (va_up (va_up (va_up (va_up f 302 (.inr (7, mO ad 0 (n 0) (n 1) (n 2) (g 13 0) (n 3) (n 4) (n 5) f1))) 319 (ai (ca 1) 320 b1)) 321 (ai (ca 0) 64 w1)) 323 (ai (ca 0) 8 v1)) 322 (ai (ca 0) 8 h1)) 320 (ai (ca 1) 36 m1)) 305 (ai (ca 0) 20 (upd (g 2) i (nI (zN g b))))) 304 (ai (ca 1) 4000 (cpF (g 1) (fun x => g 1 (200 * b + x)) (200 * i) (k + 1))) := by simp only [ef_7, ef_6, up_aa]; rw [← cpF_s]
          rw [← ez]; exact hw
        exact ih_85 f1 b1 w1 v1 h1 m1 (k + 1) _ _ _ (by omega) (by omega) (by omega) hw (lv_sub hl [1, 2, 3, 4, 0] rfl)
  have P_38 : ∀ (n_38 : Nat) (f1 : Nat) (b1 : Nat → Int32) (w1 : Nat → Int32) (v1 : Nat → Int32) (h1 : Nat → Int32) (m1 : Nat → Int32) (q : Nat) (H : Heap) (locs : List Loc) (ls : Array Slot), n 2 + 1 ≤ q + n_38 → (q ≤ b) → (f1 ≤ 200) → xw D vwCl N ad B s.heap (va_up (va_up (va_up (va_up (va_up (va_up f 302 (.inr (7, mO ad 0 (n 0) (n 1) (n 2) (g 13 0) (n 3) (n 4) (n 5) f1))) 319 (ai (ca 1) 320 b1)) 321 (ai (ca 0) 64 w1)) 323 (ai (ca 0) 8 v1)) 322 (ai (ca 0) 8 h1)) 320 (ai (ca 1) 36 m1)) H locs → lv_has ls 5 [(0, .ref (ad 302)), (1, .int (nI i)), (2, .int (nI j)), (3, .int (nI q))] → W p l e rmX6_mend s m ([.ref (ad 302), .int (nI i), .int (nI j)] : List Value).toArray below meth c H locs 0 0 (MQ below (xQi (fun r u => nI b = r ∧ ∃ (z1 : Nat → Nat → Int32) (zn1 : Nat), RepM ca ad (va_up n 7 0) (va_up (va_up (va_up g 1 (cpF (g 1) (fun x => g 1 (200 * b + x)) (200 * i) (zN g b))) 2 (upd (g 2) i (nI (zN g b)))) 6 (upd (g 6) i (((g 6) i) + (nI 1)))) z1 zn1 tb u ∧ ∀ y, (y < 302 ∨ 326 ≤ y) → u y = f y) D N ad B) ([.ref (ad 302), .int (nI i), .int (nI j)] : List Value).toArray s 0 0 (xA B)) (F0 m 38 ls []) := by
    intro n_38
    induction n_38 with
    | zero =>
      intro f1 b1 w1 v1 h1 m1 q H locs ls hm_38 hq hf1 hw hl
      exact absurd hm_38 (by omega)
    | succ n_38 ih_38 =>
      intro f1 b1 w1 v1 h1 m1 q H locs ls hm_38 hq hf1 hw hl
      have c_302 := b_302
      have c_303 := b_303
      have c_304 := b_304
      have c_305 := b_305
      have c_306 := b_306
      have c_307 := b_307
      have c_308 := b_308
      have c_309 := b_309
      have c_310 := b_310
      have c_311 := b_311
      have c_312 := b_312
      have c_313 := b_313
      have c_314 := b_314
      have c_315 := b_315
      have c_316 := b_316
      have c_317 := b_317
      have c_318 := b_318
      have c_319 := b_319
      have c_320 := b_320
      have c_321 := b_321
      have c_322 := b_322
      have c_323 := b_323
      have c_324 := b_324
      have c_325 := b_325
      obtain ⟨f_8, ef_8⟩ : ∃ z, z = va_up (va_up (va_up (va_up (va_up (va_up f 302 (.inr (7, mO ad 0 (n 0) (n 1) (n 2) (g 13 0) (n 3) (n 4) (n 5) f1))) 319 (ai (ca 1) 320 b1)) 321 (ai (ca 0) 64 w1)) 323 (ai (ca 0) 8 v1)) 322 (ai (ca 0) 8 h1)) 320 (ai (ca 1) 36 m1) := ⟨_, rfl⟩
      have hw : xw D vwCl N ad B s.heap f_8 H locs := by rw [ef_8]; exact hw
      have c_302 : f_8 302 = .inr (7, mO ad 0 (n 0) (n 1) (n 2) (g 13 0) (n 3) (n 4) (n 5) f1) := by rw [ef_8, va_up_ne _ _ (by decide), va_up_ne _ _ (by decide), va_up_ne _ _ (by decide), va_up_ne _ _ (by decide), va_up_ne _ _ (by decide), va_up_self]
      have c_319 : f_8 319 = ai (ca 1) 320 b1 := by rw [ef_8, va_up_ne _ _ (by decide), va_up_ne _ _ (by decide), va_up_ne _ _ (by decide), va_up_ne _ _ (by decide), va_up_self]
      have c_321 : f_8 321 = ai (ca 0) 64 w1 := by rw [ef_8, va_up_ne _ _ (by decide), va_up_ne _ _ (by decide), va_up_ne _ _ (by decide), va_up_self]
      have c_323 : f_8 323 = ai (ca 0) 8 v1 := by rw [ef_8, va_up_ne _ _ (by decide), va_up_ne _ _ (by decide), va_up_self]
      have c_322 : f_8 322 = ai (ca 0) 8 h1 := by rw [ef_8, va_up_ne _ _ (by decide), va_up_self]
      have c_320 : f_8 320 = ai (ca 1) 36 m1 := by rw [ef_8, va_up_self]
      refine lv_iload_n hx hb dX6_mend_38 rfl (lv_at hl 3 rfl) ?_
      refine lv_aload_n hx hb dX6_mend_39 rfl (lv_at hl 0 rfl) ?_
      refine x_get (ci := 7) (C := RX6) (T := TX6) (n := 32) (ref := RX6) hx hb hts hin_7 hown hK hw 302 (by omega) c_302 rfl 4 (by decide) hf_163 (fun _ h => h) rfl dX6_mend_40 ?_
      refine n_icge (tgt := 153) hx hb dX6_mend_43 (by decide) (by omega) (by omega) (fun hc_43 => ?_) (fun hc_43 => ?_)
      · omega
      · refine lv_iload_n hx hb dX6_mend_46 rfl (lv_at hl 3 rfl) ?_
        refine lv_iload_n hx hb dX6_mend_47 rfl (lv_at hl 1 rfl) ?_
        refine n_iceq (tgt := 147) hx hb dX6_mend_48 (by decide) (by omega) (by omega) (fun hc_48 => ?_) (fun hc_48 => ?_)
        · refine lv_iinc (v := nI (q + 1)) (lv' := [(3, .int (nI (q + 1))), (0, .ref (ad 302)), (1, .int (nI i)), (2, .int (nI j))]) hx hb dX6_mend_147 hl (k := 3) rfl (by rw [show Int32.ofInt 1 = nI 1 from rfl]; exact nI_add _ _) (by decide) rfl (fun ls hl => ?_)
          refine lv_goto (tgt := 38) hx hb dX6_mend_150 (by decide) ?_
          have hw : xw D vwCl N ad B s.heap (va_up (va_up (va_up (va_up (va_up (va_up f 302 (.inr (7, mO ad 0 (n 0) (n 1) (n 2) (g 13 0) (n 3) (n 4) (n 5) f1))) 319 (ai (ca 1) 320 b1)) 321 (ai (ca 0) 64 w1)) 323 (ai (ca 0) 8 v1)) 322 (ai (ca 0) 8 h1)) 320 (ai (ca 1) 36 m1)) H locs := by
            have ez : f_8 = va_up (va_up (va_up (va_up (va_up (va_up f 302 (.inr (7, mO ad 0 (n 0) (n 1) (n 2) (g 13 0) (n 3) (n 4) (n 5) f1))) 319 (ai (ca 1) 320 b1)) 321 (ai (ca 0) 64 w1)) 323 (ai (ca 0) 8 v1)) 322 (ai (ca 0) 8 h1)) 320 (ai (ca 1) 36 m1) := by first | (simp only [ef_8]; done) | (simp only [ef_8, up_c6]; done) | (simp only [ef_8, up_c6, up_c5]; done)
            rw [← ez]; exact hw
          exact ih_38 f1 b1 w1 v1 h1 m1 (q + 1) _ _ _ (by omega) (by omega) (by first | assumption | exact (hsz q (by omega)).1) hw (lv_sub hl [1, 2, 3, 0] rfl)
        · refine lv_aload_n hx hb dX6_mend_51 rfl (lv_at hl 0 rfl) ?_
          refine lv_iload_n hx hb dX6_mend_52 rfl (lv_at hl 3 rfl) ?_
          have c_306 : f_8 306 = ai (ca 0) 20 (g 3) := by rw [ef_8, va_up_ne _ _ (by decide), va_up_ne _ _ (by decide), va_up_ne _ _ (by decide), va_up_ne _ _ (by decide), va_up_ne _ _ (by decide), va_up_ne _ _ (by decide)]; exact c_306
          have c_307 : f_8 307 = ai (ca 1) 720 (g 4) := by rw [ef_8, va_up_ne _ _ (by decide), va_up_ne _ _ (by decide), va_up_ne _ _ (by decide), va_up_ne _ _ (by decide), va_up_ne _ _ (by decide), va_up_ne _ _ (by decide)]; exact c_307
          have c_324 : f_8 324 = ai (ca 0) 8 shR := by rw [ef_8, va_up_ne _ _ (by decide), va_up_ne _ _ (by decide), va_up_ne _ _ (by decide), va_up_ne _ _ (by decide), va_up_ne _ _ (by decide), va_up_ne _ _ (by decide)]; exact c_324
          have c_325 : f_8 325 = ai (ca 0) 64 shK := by rw [ef_8, va_up_ne _ _ (by decide), va_up_ne _ _ (by decide), va_up_ne _ _ (by decide), va_up_ne _ _ (by decide), va_up_ne _ _ (by decide), va_up_ne _ _ (by decide)]; exact c_325
          have c_304 : f_8 304 = ai (ca 1) 4000 (g 1) := by rw [ef_8, va_up_ne _ _ (by decide), va_up_ne _ _ (by decide), va_up_ne _ _ (by decide), va_up_ne _ _ (by decide), va_up_ne _ _ (by decide), va_up_ne _ _ (by decide)]; exact c_304
          have c_305 : f_8 305 = ai (ca 0) 20 (g 2) := by rw [ef_8, va_up_ne _ _ (by decide), va_up_ne _ _ (by decide), va_up_ne _ _ (by decide), va_up_ne _ _ (by decide), va_up_ne _ _ (by decide), va_up_ne _ _ (by decide)]; exact c_305
          refine x_Vi (q := 302) (As := [.int (nI q)]) (rest := []) ⟨hx, hb, hml, hown, hts⟩ (k_X6_fits l D ca N ad B tR tK f_8 dd 0 (n 0) (n 1) (n 2) (g 13 0) (n 3) (n 4) (n 5) f1 (g 3) (g 4) b1 m1 w1 h1 v1 (g 1) (g 2) q (zN g q) c_302 c_306 c_307 c_319 c_320 c_321 c_322 c_323 c_324 c_325 c_304 c_305  (by omega) (by omega) (hsz q (by omega)).2 (hsz q (by omega)).1) (cwV 1 hts gX6_mend_X6_fits rfl rfl rfl (by decide +kernel) ⟨Nat.le_of_ble_eq_true rfl, Nat.le_of_ble_eq_true rfl⟩) hK hE hB hw (by omega) c_302 rfl rfl rfl rfl hl.1 (Nat.le_of_ble_eq_true rfl) ⟨Nat.zero_le _, Nat.zero_le _⟩ dX6_mend_53 (fun r_10 f_9 H locs hp hw => ?_)
          obtain ⟨b1_11, w1_12, v1_13, h1_14, m1_15, hq_16, er, eu⟩ := hp
          rw [← er]
          have ef_9 : f_9 = va_up (va_up (va_up (va_up (va_up (va_up f_8 302 (.inr (7, mO ad 0 (n 0) (n 1) (n 2) (g 13 0) (n 3) (n 4) (n 5) (zN g q)))) 319 (ai (ca 1) 320 b1_11)) 321 (ai (ca 0) 64 w1_12)) 323 (ai (ca 0) 8 v1_13)) 322 (ai (ca 0) 8 h1_14)) 320 (ai (ca 1) 36 m1_15) := eu
          have c_302 : f_9 302 = .inr (7, mO ad 0 (n 0) (n 1) (n 2) (g 13 0) (n 3) (n 4) (n 5) (zN g q)) := by rw [ef_9, va_up_ne _ _ (by decide), va_up_ne _ _ (by decide), va_up_ne _ _ (by decide), va_up_ne _ _ (by decide), va_up_ne _ _ (by decide), va_up_self]
          have c_319 : f_9 319 = ai (ca 1) 320 b1_11 := by rw [ef_9, va_up_ne _ _ (by decide), va_up_ne _ _ (by decide), va_up_ne _ _ (by decide), va_up_ne _ _ (by decide), va_up_self]
          have c_321 : f_9 321 = ai (ca 0) 64 w1_12 := by rw [ef_9, va_up_ne _ _ (by decide), va_up_ne _ _ (by decide), va_up_ne _ _ (by decide), va_up_self]
          have c_323 : f_9 323 = ai (ca 0) 8 v1_13 := by rw [ef_9, va_up_ne _ _ (by decide), va_up_ne _ _ (by decide), va_up_self]
          have c_322 : f_9 322 = ai (ca 0) 8 h1_14 := by rw [ef_9, va_up_ne _ _ (by decide), va_up_self]
          have c_320 : f_9 320 = ai (ca 1) 36 m1_15 := by rw [ef_9, va_up_self]
          refine lv_if_eq (tgt := 147) hx hb dX6_mend_56 (by decide) (fun hc_56 => ?_) (fun hc_56 => ?_)
          · have hqb : q ≠ b := fun z9 => bI_z hc_56 (show mFit g q q (zN g q) from z9 ▸ hyes.1)
            refine lv_iinc (v := nI (q + 1)) (lv' := [(3, .int (nI (q + 1))), (0, .ref (ad 302)), (1, .int (nI i)), (2, .int (nI j))]) hx hb dX6_mend_147 hl (k := 3) rfl (by rw [show Int32.ofInt 1 = nI 1 from rfl]; exact nI_add _ _) (by decide) rfl (fun ls hl => ?_)
            refine lv_goto (tgt := 38) hx hb dX6_mend_150 (by decide) ?_
            have hw : xw D vwCl N ad B s.heap (va_up (va_up (va_up (va_up (va_up (va_up f 302 (.inr (7, mO ad 0 (n 0) (n 1) (n 2) (g 13 0) (n 3) (n 4) (n 5) (zN g q)))) 319 (ai (ca 1) 320 b1_11)) 321 (ai (ca 0) 64 w1_12)) 323 (ai (ca 0) 8 v1_13)) 322 (ai (ca 0) 8 h1_14)) 320 (ai (ca 1) 36 m1_15)) H locs := by
              have ez : f_9 = va_up (va_up (va_up (va_up (va_up (va_up f 302 (.inr (7, mO ad 0 (n 0) (n 1) (n 2) (g 13 0) (n 3) (n 4) (n 5) (zN g q)))) 319 (ai (ca 1) 320 b1_11)) 321 (ai (ca 0) 64 w1_12)) 323 (ai (ca 0) 8 v1_13)) 322 (ai (ca 0) 8 h1_14)) 320 (ai (ca 1) 36 m1_15) := by first | (simp only [ef_9, ef_8]; done) | (simp only [ef_9, ef_8, up_c6]; done) | (simp only [ef_9, ef_8, up_c6, up_c5]; done)
              rw [← ez]; exact hw
            exact ih_38 (zN g q) b1_11 w1_12 v1_13 h1_14 m1_15 (q + 1) _ _ _ (by omega) (by omega) (by first | assumption | exact (hsz q (by omega)).1) hw (lv_sub hl [1, 2, 3, 0] rfl)
          · refine lv_aload_n hx hb dX6_mend_59 rfl (lv_at hl 0 rfl) ?_
            refine lv_iload_n hx hb dX6_mend_60 rfl (lv_at hl 1 rfl) ?_
            have c_306 : f_9 306 = ai (ca 0) 20 (g 3) := by rw [ef_9, va_up_ne _ _ (by decide), va_up_ne _ _ (by decide), va_up_ne _ _ (by decide), va_up_ne _ _ (by decide), va_up_ne _ _ (by decide), va_up_ne _ _ (by decide)]; exact c_306
            have c_307 : f_9 307 = ai (ca 1) 720 (g 4) := by rw [ef_9, va_up_ne _ _ (by decide), va_up_ne _ _ (by decide), va_up_ne _ _ (by decide), va_up_ne _ _ (by decide), va_up_ne _ _ (by decide), va_up_ne _ _ (by decide)]; exact c_307
            have c_324 : f_9 324 = ai (ca 0) 8 shR := by rw [ef_9, va_up_ne _ _ (by decide), va_up_ne _ _ (by decide), va_up_ne _ _ (by decide), va_up_ne _ _ (by decide), va_up_ne _ _ (by decide), va_up_ne _ _ (by decide)]; exact c_324
            have c_325 : f_9 325 = ai (ca 0) 64 shK := by rw [ef_9, va_up_ne _ _ (by decide), va_up_ne _ _ (by decide), va_up_ne _ _ (by decide), va_up_ne _ _ (by decide), va_up_ne _ _ (by decide), va_up_ne _ _ (by decide)]; exact c_325
            refine x_Vi (q := 302) (As := [.int (nI i)]) (rest := []) ⟨hx, hb, hml, hown, hts⟩ (k_X6_has l D ca N ad B tR tK f_9 dd 0 (n 0) (n 1) (n 2) (g 13 0) (n 3) (n 4) (n 5) (zN g q) (g 3) (g 4) b1_11 m1_15 w1_12 h1_14 v1_13 i c_302 c_306 c_307 c_319 c_320 c_321 c_322 c_323 c_324 c_325  (by omega) (hsz q (by omega)).1 (by omega)) (cwV 1 hts gX6_mend_X6_has rfl rfl rfl (by decide +kernel) ⟨Nat.le_of_ble_eq_true rfl, Nat.le_of_ble_eq_true rfl⟩) hK hE hB hw (by omega) c_302 rfl rfl rfl rfl hl.1 (Nat.le_of_ble_eq_true rfl) ⟨Nat.zero_le _, Nat.zero_le _⟩ dX6_mend_61 (fun r_18 f_17 H locs hp hw => ?_)
            obtain ⟨b1_19, w1_20, v1_21, h1_22, m1_23, hq_24, er, eu⟩ := hp
            rw [← er]
            have ef_17 : f_17 = va_up (va_up (va_up (va_up (va_up f_9 319 (ai (ca 1) 320 b1_19)) 321 (ai (ca 0) 64 w1_20)) 323 (ai (ca 0) 8 v1_21)) 322 (ai (ca 0) 8 h1_22)) 320 (ai (ca 1) 36 m1_23) := eu
            have c_319 : f_17 319 = ai (ca 1) 320 b1_19 := by rw [ef_17, va_up_ne _ _ (by decide), va_up_ne _ _ (by decide), va_up_ne _ _ (by decide), va_up_ne _ _ (by decide), va_up_self]
            have c_321 : f_17 321 = ai (ca 0) 64 w1_20 := by rw [ef_17, va_up_ne _ _ (by decide), va_up_ne _ _ (by decide), va_up_ne _ _ (by decide), va_up_self]
            have c_323 : f_17 323 = ai (ca 0) 8 v1_21 := by rw [ef_17, va_up_ne _ _ (by decide), va_up_ne _ _ (by decide), va_up_self]
            have c_322 : f_17 322 = ai (ca 0) 8 h1_22 := by rw [ef_17, va_up_ne _ _ (by decide), va_up_self]
            have c_320 : f_17 320 = ai (ca 1) 36 m1_23 := by rw [ef_17, va_up_self]
            have hM : hasM (g 4) i (sha (zN g q) (fun i7 => b1_11 i7 &&& nI 255)) (crM b1_11 (zN g q) ^^^ (-1)) (g 3 i) = mFit g q i (zN g q) := by unfold mFit; rw [sha_ext (g := fun i7 => b1_11 i7 &&& nI 255) (g' := fun x => g 1 (200 * q + x) &&& nI 255) hq_16, crM_ext (b := b1_11) (b' := fun x => g 1 (200 * q + x)) (zN g q) hq_16]
            refine lv_if_ne (tgt := 70) hx hb dX6_mend_64 (by decide) (fun hc_64 => ?_) (fun hc_64 => ?_)
            · have hqb : b = q := (Nat.lt_or_ge q b).elim (fun z9 => absurd ⟨(show mFit g q q (zN g q) from bI_nz hc_56), (hM ▸ bI_nz hc_64)⟩ (hno q z9)) (fun z9 => by omega)
              subst hqb
              have hzb := (hsz b (by omega)).2
              have hzc := (hsz b (by omega)).1
              refine lv_aload_n hx hb dX6_mend_70 rfl (lv_at hl 0 rfl) ?_
              have c_302 : f_17 302 = .inr (7, mO ad 0 (n 0) (n 1) (n 2) (g 13 0) (n 3) (n 4) (n 5) (zN g b)) := by rw [ef_17, va_up_ne _ _ (by decide), va_up_ne _ _ (by decide), va_up_ne _ _ (by decide), va_up_ne _ _ (by decide), va_up_ne _ _ (by decide)]; exact c_302
              refine x_get (ci := 7) (C := RX6) (T := TX6) (n := 32) (ref := RX6) hx hb hts hin_7 hown hK hw 302 (by omega) c_302 rfl 6 (by decide) hf_16 (fun _ h => h) rfl dX6_mend_71 ?_
              refine lv_iload_n hx hb dX6_mend_74 rfl (lv_at hl 1 rfl) ?_
              refine lv_aload_n hx hb dX6_mend_75 rfl (lv_at hl 0 rfl) ?_
              refine x_get (ci := 7) (C := RX6) (T := TX6) (n := 32) (ref := RX6) hx hb hts hin_7 hown hK hw 302 (by omega) c_302 rfl 6 (by decide) hf_16 (fun _ h => h) rfl dX6_mend_76 ?_
              refine lv_iload_n hx hb dX6_mend_79 rfl (lv_at hl 3 rfl) ?_
              have c_305 : f_17 305 = ai (ca 0) 20 (g 2) := by rw [ef_17, va_up_ne _ _ (by decide), va_up_ne _ _ (by decide), va_up_ne _ _ (by decide), va_up_ne _ _ (by decide), va_up_ne _ _ (by decide), ef_9, va_up_ne _ _ (by decide), va_up_ne _ _ (by decide), va_up_ne _ _ (by decide), va_up_ne _ _ (by decide), va_up_ne _ _ (by decide), va_up_ne _ _ (by decide)]; exact c_305
              refine x_iald (j := b) hx hb hK hw 305 0 (by omega) c_305 rfl rfl (by omega) (by decide) dX6_mend_80 ?_
              rw [hzb]
              refine x_iast (j := i) hx hb hK dd hw 305 0 (by omega) c_305 rfl rfl (by omega) (by decide) dX6_mend_81 (fun H locs hw => ?_)
              obtain ⟨f_25, ef_25⟩ : ∃ z, z = va_up f_17 305 (ai (ca 0) 20 (upd (g 2) i (nI (zN g b)))) := ⟨_, rfl⟩
              have hw : xw D vwCl N ad B s.heap f_25 H locs := by rw [ef_25]; exact hw
              have c_305 : f_25 305 = ai (ca 0) 20 (upd (g 2) i (nI (zN g b))) := va_up_of ef_25
              refine lv_iconst (v := nI 0) hx hb dX6_mend_82 (by decide) ?_
              refine lv_istore (lv' := [(4, .int (nI 0)), (0, .ref (ad 302)), (1, .int (nI i)), (2, .int (nI j)), (3, .int (nI b))]) hx hb dX6_mend_83 hl (by decide) rfl (fun ls hl => ?_)
              have hw : xw D vwCl N ad B s.heap (va_up (va_up (va_up (va_up (va_up (va_up (va_up (va_up f 302 (.inr (7, mO ad 0 (n 0) (n 1) (n 2) (g 13 0) (n 3) (n 4) (n 5) (zN g b)))) 319 (ai (ca 1) 320 b1_19)) 321 (ai (ca 0) 64 w1_20)) 323 (ai (ca 0) 8 v1_21)) 322 (ai (ca 0) 8 h1_22)) 320 (ai (ca 1) 36 m1_23)) 305 (ai (ca 0) 20 (upd (g 2) i (nI (zN g b))))) 304 (ai (ca 1) 4000 (cpF (g 1) (fun x => g 1 (200 * b + x)) (200 * i) 0))) H locs := by
                have ez : f_25 = va_up (va_up (va_up (va_up (va_up (va_up (va_up (va_up f 302 (.inr (7, mO ad 0 (n 0) (n 1) (n 2) (g 13 0) (n 3) (n 4) (n 5) (zN g b)))) 319 (ai (ca 1) 320 b1_19)) 321 (ai (ca 0) 64 w1_20)) 323 (ai (ca 0) 8 v1_21)) 322 (ai (ca 0) 8 h1_22)) 320 (ai (ca 1) 36 m1_23)) 305 (ai (ca 0) 20 (upd (g 2) i (nI (zN g b))))) 304 (ai (ca 1) 4000 (cpF (g 1) (fun x => g 1 (200 * b + x)) (200 * i) 0)) := by rw [cpF_0]; simp only [ef_25, ef_17, ef_9, ef_8, up_c6, up_c5]; exact (up_noop (by simp only [va_up]; exact b_304)).symm
                rw [← ez]; exact hw
              exact P_85 ((zN g b + 1)) (zN g b) b1_19 w1_20 v1_21 h1_22 m1_23 0 _ _ _ (by omega) (by omega) hzc hw (lv_sub hl [1, 2, 3, 4, 0] rfl)
            · have hqb : q ≠ b := fun z9 => bI_z hc_64 (by rw [hM, z9]; exact hyes.2)
              refine lv_goto (tgt := 147) hx hb dX6_mend_67 (by decide) ?_
              refine lv_iinc (v := nI (q + 1)) (lv' := [(3, .int (nI (q + 1))), (0, .ref (ad 302)), (1, .int (nI i)), (2, .int (nI j))]) hx hb dX6_mend_147 hl (k := 3) rfl (by rw [show Int32.ofInt 1 = nI 1 from rfl]; exact nI_add _ _) (by decide) rfl (fun ls hl => ?_)
              refine lv_goto (tgt := 38) hx hb dX6_mend_150 (by decide) ?_
              have hw : xw D vwCl N ad B s.heap (va_up (va_up (va_up (va_up (va_up (va_up f 302 (.inr (7, mO ad 0 (n 0) (n 1) (n 2) (g 13 0) (n 3) (n 4) (n 5) (zN g q)))) 319 (ai (ca 1) 320 b1_19)) 321 (ai (ca 0) 64 w1_20)) 323 (ai (ca 0) 8 v1_21)) 322 (ai (ca 0) 8 h1_22)) 320 (ai (ca 1) 36 m1_23)) H locs := by
                have ez : f_17 = va_up (va_up (va_up (va_up (va_up (va_up f 302 (.inr (7, mO ad 0 (n 0) (n 1) (n 2) (g 13 0) (n 3) (n 4) (n 5) (zN g q)))) 319 (ai (ca 1) 320 b1_19)) 321 (ai (ca 0) 64 w1_20)) 323 (ai (ca 0) 8 v1_21)) 322 (ai (ca 0) 8 h1_22)) 320 (ai (ca 1) 36 m1_23) := by first | (simp only [ef_17, ef_9, ef_8]; done) | (simp only [ef_17, ef_9, ef_8, up_c6]; done) | (simp only [ef_17, ef_9, ef_8, up_c6, up_c5]; done)
                rw [← ez]; exact hw
              exact ih_38 (zN g q) b1_19 w1_20 v1_21 h1_22 m1_23 (q + 1) _ _ _ (by omega) (by omega) (by first | assumption | exact (hsz q (by omega)).1) hw (lv_sub hl [1, 2, 3, 0] rfl)
  refine lv_aload_n hx hb dX6_mend_0 rfl (lv_at hl 0 rfl) ?_
  refine lv_iconst (v := nI 0) hx hb dX6_mend_1 (by decide) ?_
  refine x_put (ci := 7) (C := RX6) (T := TX6) (n := 32) (ref := RX6) (fs' := mO ad 0 (n 0) (n 1) (n 2) (g 13 0) (n 3) (n 4) (n 5) zn) hx hb hts hin_7 tyX6 tyX6_ok nmX6 hown hK dd hw 302 (by omega) c_302 rfl 0 (by decide) hf_160 (fun _ h => h) rfl rfl rfl (Nat.le_of_ble_eq_true rfl) rfl dX6_mend_2 (fun H locs hw => ?_)
  obtain ⟨f_26, ef_26⟩ : ∃ z, z = va_up f 302 (.inr (7, mO ad 0 (n 0) (n 1) (n 2) (g 13 0) (n 3) (n 4) (n 5) zn)) := ⟨_, rfl⟩
  have hw : xw D vwCl N ad B s.heap f_26 H locs := by rw [ef_26]; exact hw
  have c_302 : f_26 302 = .inr (7, mO ad 0 (n 0) (n 1) (n 2) (g 13 0) (n 3) (n 4) (n 5) zn) := va_up_of ef_26
  refine lv_aload_n hx hb dX6_mend_5 rfl (lv_at hl 0 rfl) ?_
  refine lv_iload_n hx hb dX6_mend_6 rfl (lv_at hl 1 rfl) ?_
  have c_303 : f_26 303 = ai (ca 1) 200 (g 0) := by rw [ef_26, va_up_ne _ _ (by decide)]; exact c_303
  have c_304 : f_26 304 = ai (ca 1) 4000 (g 1) := by rw [ef_26, va_up_ne _ _ (by decide)]; exact c_304
  have c_305 : f_26 305 = ai (ca 0) 20 (g 2) := by rw [ef_26, va_up_ne _ _ (by decide)]; exact c_305
  have c_306 : f_26 306 = ai (ca 0) 20 (g 3) := by rw [ef_26, va_up_ne _ _ (by decide)]; exact c_306
  have c_307 : f_26 307 = ai (ca 1) 720 (g 4) := by rw [ef_26, va_up_ne _ _ (by decide)]; exact c_307
  have c_308 : f_26 308 = ai (ca 0) 20 (g 5) := by rw [ef_26, va_up_ne _ _ (by decide)]; exact c_308
  have c_309 : f_26 309 = ai (ca 0) 20 (g 6) := by rw [ef_26, va_up_ne _ _ (by decide)]; exact c_309
  have c_310 : f_26 310 = ai (ca 0) 20 (g 7) := by rw [ef_26, va_up_ne _ _ (by decide)]; exact c_310
  have c_311 : f_26 311 = ai (ca 0) 20 (g 8) := by rw [ef_26, va_up_ne _ _ (by decide)]; exact c_311
  have c_312 : f_26 312 = ai (ca 0) 20 (g 9) := by rw [ef_26, va_up_ne _ _ (by decide)]; exact c_312
  have c_313 : f_26 313 = ai (ca 2) 20 (g 10) := by rw [ef_26, va_up_ne _ _ (by decide)]; exact c_313
  have c_314 : f_26 314 = ai (ca 0) 200 (g 11) := by rw [ef_26, va_up_ne _ _ (by decide)]; exact c_314
  have c_315 : f_26 315 = ai (ca 0) 200 (g 12) := by rw [ef_26, va_up_ne _ _ (by decide)]; exact c_315
  have c_316 : f_26 316 = ai (ca 0) 200 (g 14) := by rw [ef_26, va_up_ne _ _ (by decide)]; exact c_316
  have c_317 : f_26 317 = ai (ca 1) 6400 (g 15) := by rw [ef_26, va_up_ne _ _ (by decide)]; exact c_317
  have c_318 : f_26 318 = ai (ca 1) 32 (g 16) := by rw [ef_26, va_up_ne _ _ (by decide)]; exact c_318
  have c_319 : f_26 319 = ai (ca 1) 320 (z 0) := by rw [ef_26, va_up_ne _ _ (by decide)]; exact c_319
  have c_320 : f_26 320 = ai (ca 1) 36 (z 1) := by rw [ef_26, va_up_ne _ _ (by decide)]; exact c_320
  have c_321 : f_26 321 = ai (ca 0) 64 (z 2) := by rw [ef_26, va_up_ne _ _ (by decide)]; exact c_321
  have c_322 : f_26 322 = ai (ca 0) 8 (z 3) := by rw [ef_26, va_up_ne _ _ (by decide)]; exact c_322
  have c_323 : f_26 323 = ai (ca 0) 8 (z 4) := by rw [ef_26, va_up_ne _ _ (by decide)]; exact c_323
  have c_324 : f_26 324 = ai (ca 0) 8 shR := by rw [ef_26, va_up_ne _ _ (by decide)]; exact c_324
  have c_325 : f_26 325 = ai (ca 0) 64 shK := by rw [ef_26, va_up_ne _ _ (by decide)]; exact c_325
  have qn_0 : (va_up n 7 0) 0 = n 0 := by rw [va_up_ne _ _ (by decide)]
  have qn_1 : (va_up n 7 0) 1 = n 1 := by rw [va_up_ne _ _ (by decide)]
  have qn_2 : (va_up n 7 0) 2 = n 2 := by rw [va_up_ne _ _ (by decide)]
  have qn_3 : (va_up n 7 0) 3 = n 3 := by rw [va_up_ne _ _ (by decide)]
  have qn_4 : (va_up n 7 0) 4 = n 4 := by rw [va_up_ne _ _ (by decide)]
  have qn_5 : (va_up n 7 0) 5 = n 5 := by rw [va_up_ne _ _ (by decide)]
  have qn_6 : (va_up n 7 0) 6 = n 6 := by rw [va_up_ne _ _ (by decide)]
  have qn_7 : (va_up n 7 0) 7 = 0 := by rw [va_up_self]
  have hRk : RepM ca ad (va_up n 7 0) g z zn tb f_26 := ⟨(by rw [qn_7, qn_0, qn_1, qn_2, qn_3, qn_4, qn_5]; exact c_302),
        c_303,
        c_304,
        c_305,
        c_306,
        c_307,
        c_308,
        c_309,
        c_310,
        c_311,
        c_312,
        c_313,
        c_314,
        c_315,
        c_316,
        c_317,
        c_318,
        c_319,
        c_320,
        c_321,
        c_322,
        c_323,
        c_324,
        c_325, hzn⟩
  have hfr : ∀ y, (y < 302 ∨ 326 ≤ y) → f_26 y = f y := (fun y hy => by rw [ef_26, va_up_ne _ _ (by omega)])
  refine x_Vi (q := 302) (As := [.int (nI i)]) (rest := []) ⟨hx, hb, hml, hown, hts⟩ (k_X6_isFile_yes l D ca N ad B tR tK f_26 dd hN (va_up n 7 0) g z zn tb hRk i (by omega) (by omega)) (cwV 1 hts gX6_mend_X6_isFile rfl rfl rfl (by decide +kernel) ⟨Nat.le_of_ble_eq_true rfl, Nat.le_of_ble_eq_true rfl⟩) hK hE hB hw (by omega) c_302 rfl rfl rfl rfl hl.1 (Nat.le_of_ble_eq_true rfl) ⟨Nat.zero_le _, Nat.zero_le _⟩ dX6_mend_7 (fun r_28 f_27 H locs hp hw => ?_)
  obtain ⟨er, hp⟩ := hp
  rw [← er]
  rw [← hp] at hw
  refine lv_if_ne (tgt := 15) hx hb dX6_mend_10 (by decide) (fun _ => ?_) (fun h => absurd h (by decide))
  refine lv_iload_n hx hb dX6_mend_15 rfl (lv_at hl 2 rfl) ?_
  refine x_Si (As := [.int (nI j)]) (rest := []) ⟨hx, hb, hml, hown, hts⟩ (k_X6_isDay_yes l D ca N ad B tR tK f_26 dd j   (by omega)) (va_cwS 1 hts gX6_mend_X6_isDay rfl rfl rfl (by decide +kernel) ⟨Nat.le_of_ble_eq_true rfl, Nat.le_of_ble_eq_true rfl⟩) hK hE hB hw rfl rfl hl.1 (Nat.le_of_ble_eq_true rfl) ⟨Nat.zero_le _, Nat.zero_le _⟩ dX6_mend_16 (fun r_30 f_29 H locs hp hw => ?_)
  obtain ⟨er, eu⟩ := hp
  rw [← er]
  rw [← eu] at hw
  refine lv_if_ne (tgt := 25) hx hb dX6_mend_19 (by decide) (fun _ => ?_) (fun h => absurd h (by decide))
  refine lv_aload_n hx hb dX6_mend_25 rfl (lv_at hl 0 rfl) ?_
  refine lv_iload_n hx hb dX6_mend_26 rfl (lv_at hl 1 rfl) ?_
  refine x_Vi (q := 302) (As := [.int (nI i)]) (rest := []) ⟨hx, hb, hml, hown, hts⟩ (k_X6_fits l D ca N ad B tR tK f_26 dd 0 (n 0) (n 1) (n 2) (g 13 0) (n 3) (n 4) (n 5) zn (g 3) (g 4) (z 0) (z 1) (z 2) (z 3) (z 4) (g 1) (g 2) i (zN g i) c_302 c_306 c_307 c_319 c_320 c_321 c_322 c_323 c_324 c_325 c_304 c_305  (by omega) (by omega) (hsz i (by omega)).2 (hsz i (by omega)).1) (cwV 1 hts gX6_mend_X6_fits rfl rfl rfl (by decide +kernel) ⟨Nat.le_of_ble_eq_true rfl, Nat.le_of_ble_eq_true rfl⟩) hK hE hB hw (by omega) c_302 rfl rfl rfl rfl hl.1 (Nat.le_of_ble_eq_true rfl) ⟨Nat.zero_le _, Nat.zero_le _⟩ dX6_mend_27 (fun r_32 f_31 H locs hp hw => ?_)
  obtain ⟨b1_33, w1_34, v1_35, h1_36, m1_37, hq_38, er, eu⟩ := hp
  rw [← er]
  have ef_31 : f_31 = va_up (va_up (va_up (va_up (va_up (va_up f_26 302 (.inr (7, mO ad 0 (n 0) (n 1) (n 2) (g 13 0) (n 3) (n 4) (n 5) (zN g i)))) 319 (ai (ca 1) 320 b1_33)) 321 (ai (ca 0) 64 w1_34)) 323 (ai (ca 0) 8 v1_35)) 322 (ai (ca 0) 8 h1_36)) 320 (ai (ca 1) 36 m1_37) := eu
  have c_302 : f_31 302 = .inr (7, mO ad 0 (n 0) (n 1) (n 2) (g 13 0) (n 3) (n 4) (n 5) (zN g i)) := by rw [ef_31, va_up_ne _ _ (by decide), va_up_ne _ _ (by decide), va_up_ne _ _ (by decide), va_up_ne _ _ (by decide), va_up_ne _ _ (by decide), va_up_self]
  have c_319 : f_31 319 = ai (ca 1) 320 b1_33 := by rw [ef_31, va_up_ne _ _ (by decide), va_up_ne _ _ (by decide), va_up_ne _ _ (by decide), va_up_ne _ _ (by decide), va_up_self]
  have c_321 : f_31 321 = ai (ca 0) 64 w1_34 := by rw [ef_31, va_up_ne _ _ (by decide), va_up_ne _ _ (by decide), va_up_ne _ _ (by decide), va_up_self]
  have c_323 : f_31 323 = ai (ca 0) 8 v1_35 := by rw [ef_31, va_up_ne _ _ (by decide), va_up_ne _ _ (by decide), va_up_self]
  have c_322 : f_31 322 = ai (ca 0) 8 h1_36 := by rw [ef_31, va_up_ne _ _ (by decide), va_up_self]
  have c_320 : f_31 320 = ai (ca 1) 36 m1_37 := by rw [ef_31, va_up_self]
  have hz27 := (hsz i (by omega)).1
  rw [bI_f (show ¬ hasM (g 4) i (sha (zN g i) (fun x => g 1 (200 * i + x) &&& nI 255)) (crM (fun x => g 1 (200 * i + x)) (zN g i) ^^^ (-1)) (g 3 i) from hf)]
  refine lv_if_eq (tgt := 36) hx hb dX6_mend_30 (by decide) (fun _ => ?_) (fun h => False.elim (h (by decide)))
  refine lv_iconst (v := nI 0) hx hb dX6_mend_36 (by decide) ?_
  refine lv_istore_n (lv' := [(3, .int (nI 0)), (0, .ref (ad 302)), (1, .int (nI i)), (2, .int (nI j))]) hx hb dX6_mend_37 rfl hl (by decide) rfl (fun ls hl => ?_)
  have hw : xw D vwCl N ad B s.heap (va_up (va_up (va_up (va_up (va_up (va_up f 302 (.inr (7, mO ad 0 (n 0) (n 1) (n 2) (g 13 0) (n 3) (n 4) (n 5) (zN g i)))) 319 (ai (ca 1) 320 b1_33)) 321 (ai (ca 0) 64 w1_34)) 323 (ai (ca 0) 8 v1_35)) 322 (ai (ca 0) 8 h1_36)) 320 (ai (ca 1) 36 m1_37)) H locs := by
    have ez : f_31 = va_up (va_up (va_up (va_up (va_up (va_up f 302 (.inr (7, mO ad 0 (n 0) (n 1) (n 2) (g 13 0) (n 3) (n 4) (n 5) (zN g i)))) 319 (ai (ca 1) 320 b1_33)) 321 (ai (ca 0) 64 w1_34)) 323 (ai (ca 0) 8 v1_35)) 322 (ai (ca 0) 8 h1_36)) 320 (ai (ca 1) 36 m1_37) := by simp only [ef_31, ef_26, up_aa]
    rw [← ez]; exact hw
  exact P_38 ((n 2 + 1)) (zN g i) b1_33 w1_34 v1_35 h1_36 m1_37 0 _ _ _ (by omega) (by omega) (hsz i (by omega)).1 hw (lv_sub hl [1, 2, 3, 0] rfl)
