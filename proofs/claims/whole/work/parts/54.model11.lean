theorem up_fl (f : Nat → va_E) (o o1 b b' x y z m m' : va_E) : va_up (va_up (va_up (va_up (va_up (va_up (va_up (va_up (va_up f 302 o) 302 o1) 319 b) 319 b') 321 x) 323 y) 322 z) 320 m) 320 m' = va_up (va_up (va_up (va_up (va_up (va_up f 302 o1) 319 b') 321 x) 323 y) 322 z) 320 m' := by
  rw [up_aa, up_aa, up_aa]

abbrev rmX6_file : Room := { frames := 6, cells := 0, slots := 0, locals := 138 }

set_option maxHeartbeats 4000000 in
set_option maxRecDepth 100000 in
theorem k_X6_file_bits (l : Launch) (D : va_G) (ca : Nat → ClassId) (N : Nat) (ad : Nat → Nat) (B tR tK : Nat) (f : Nat → va_E) (dd : xD N ad B) (hN : 326 ≤ N) (n : Nat → Nat) (g : Nat → Nat → Int32) (z : Nat → Nat → Int32) (zn : Nat) (tb : Nat → Int32) (hR : RepM ca ad n g z zn tb f) (x : Int32) (y : Int32) (ho : x < nI 1 ∨ nI 3 < x) : xMi l yX6_file wsX6_file rmX6_file [.ref (ad 302), .int x, .int y] D ca N ad B tR tK f (fun r u => (-2) = r ∧ ∃ (z1 : Nat → Nat → Int32) (zn1 : Nat), RepM ca ad (va_up n 7 0) g z1 zn1 tb u ∧ ∀ y, (y < 302 ∨ 326 ≤ y) → u y = f y) := by
  refine x_open (cc := cX6_file) (maxL := 5) (ret := (some .int)) (by decide) rfl (Nat.le_of_ble_eq_true rfl) ?_
  intro p e s m below meth c ls hx hb hml hown hts hr hlocks hnm hB hK hE hw hl
  have hown : s.vm.findClass RX6 = some m.cls := hown
  have hl : lv_has ls 5 [(0, .ref (ad 302)), (1, .int x), (2, .int y)] := hl
  obtain ⟨c_302, c_303, c_304, c_305, c_306, c_307, c_308, c_309, c_310, c_311, c_312, c_313, c_314, c_315, c_316, c_317, c_318, c_319, c_320, c_321, c_322, c_323, c_324, c_325, hzn⟩ := hR
  have hin_7 : ∀ w ∈ u_ws RX6 TX6 32, w ∈ wsX6_file := by decide +kernel
  have hf_160 := hts (.fieldLink RX6 160 "FixityRowsModel" "thrown" "I") (by decide +kernel)
  have b_302 := c_302
  have b_303 := c_303
  have b_304 := c_304
  have b_305 := c_305
  have b_306 := c_306
  have b_307 := c_307
  have b_308 := c_308
  have b_309 := c_309
  have b_310 := c_310
  have b_311 := c_311
  have b_312 := c_312
  have b_313 := c_313
  have b_314 := c_314
  have b_315 := c_315
  have b_316 := c_316
  have b_317 := c_317
  have b_318 := c_318
  have b_319 := c_319
  have b_320 := c_320
  have b_321 := c_321
  have b_322 := c_322
  have b_323 := c_323
  have b_324 := c_324
  have b_325 := c_325
  refine lv_aload_n hx hb dX6_file_0 rfl (lv_at hl 0 rfl) ?_
  refine lv_iconst (v := nI 0) hx hb dX6_file_1 (by decide) ?_
  refine x_put (ci := 7) (C := RX6) (T := TX6) (n := 32) (ref := RX6) (fs' := mO ad 0 (n 0) (n 1) (n 2) (g 13 0) (n 3) (n 4) (n 5) zn) hx hb hts hin_7 tyX6 tyX6_ok nmX6 hown hK dd hw 302 (by omega) c_302 rfl 0 (by decide) hf_160 (fun _ h => h) rfl rfl rfl (Nat.le_of_ble_eq_true rfl) rfl dX6_file_2 (fun H locs hw => ?_)
  obtain ⟨f_1, ef_1⟩ : ∃ z, z = va_up f 302 (.inr (7, mO ad 0 (n 0) (n 1) (n 2) (g 13 0) (n 3) (n 4) (n 5) zn)) := ⟨_, rfl⟩
  have hw : xw D vwCl N ad B s.heap f_1 H locs := by rw [ef_1]; exact hw
  have c_302 : f_1 302 = .inr (7, mO ad 0 (n 0) (n 1) (n 2) (g 13 0) (n 3) (n 4) (n 5) zn) := va_up_of ef_1
  refine lv_iload_n hx hb dX6_file_5 rfl (lv_at hl 1 rfl) ?_
  refine lv_iconst (v := nI 1) hx hb dX6_file_6 (by decide) ?_
  refine lv_iconst (v := nI 3) hx hb dX6_file_7 (by decide) ?_
  refine x_Si (As := [.int x, .int (nI 1), .int (nI 3)]) (rest := []) ⟨hx, hb, hml, hown, hts⟩ (k_X6_in_no l D ca N ad B tR tK f_1 dd x (nI 1) (nI 3)   ho) (va_cwS 3 hts gX6_file_X6_in rfl rfl rfl (by decide +kernel) ⟨Nat.le_of_ble_eq_true rfl, Nat.le_of_ble_eq_true rfl⟩) hK hE hB hw rfl rfl hl.1 (Nat.le_of_ble_eq_true rfl) ⟨Nat.zero_le _, Nat.zero_le _⟩ dX6_file_8 (fun r_3 f_2 H locs hp hw => ?_)
  obtain ⟨er, eu⟩ := hp
  rw [← er]
  rw [← eu] at hw
  refine lv_if_eq (tgt := 21) hx hb dX6_file_11 (by decide) (fun _ => ?_) (fun h => False.elim (h (by decide)))
  refine lv_bipush (v := (-2)) hx hb dX6_file_21 (by decide) ?_
  have c_303 : f_1 303 = ai (ca 1) 200 (g 0) := by rw [ef_1, va_up_ne _ _ (by decide)]; exact c_303
  have c_304 : f_1 304 = ai (ca 1) 4000 (g 1) := by rw [ef_1, va_up_ne _ _ (by decide)]; exact c_304
  have c_305 : f_1 305 = ai (ca 0) 20 (g 2) := by rw [ef_1, va_up_ne _ _ (by decide)]; exact c_305
  have c_306 : f_1 306 = ai (ca 0) 20 (g 3) := by rw [ef_1, va_up_ne _ _ (by decide)]; exact c_306
  have c_307 : f_1 307 = ai (ca 1) 720 (g 4) := by rw [ef_1, va_up_ne _ _ (by decide)]; exact c_307
  have c_308 : f_1 308 = ai (ca 0) 20 (g 5) := by rw [ef_1, va_up_ne _ _ (by decide)]; exact c_308
  have c_309 : f_1 309 = ai (ca 0) 20 (g 6) := by rw [ef_1, va_up_ne _ _ (by decide)]; exact c_309
  have c_310 : f_1 310 = ai (ca 0) 20 (g 7) := by rw [ef_1, va_up_ne _ _ (by decide)]; exact c_310
  have c_311 : f_1 311 = ai (ca 0) 20 (g 8) := by rw [ef_1, va_up_ne _ _ (by decide)]; exact c_311
  have c_312 : f_1 312 = ai (ca 0) 20 (g 9) := by rw [ef_1, va_up_ne _ _ (by decide)]; exact c_312
  have c_313 : f_1 313 = ai (ca 2) 20 (g 10) := by rw [ef_1, va_up_ne _ _ (by decide)]; exact c_313
  have c_314 : f_1 314 = ai (ca 0) 200 (g 11) := by rw [ef_1, va_up_ne _ _ (by decide)]; exact c_314
  have c_315 : f_1 315 = ai (ca 0) 200 (g 12) := by rw [ef_1, va_up_ne _ _ (by decide)]; exact c_315
  have c_316 : f_1 316 = ai (ca 0) 200 (g 14) := by rw [ef_1, va_up_ne _ _ (by decide)]; exact c_316
  have c_317 : f_1 317 = ai (ca 1) 6400 (g 15) := by rw [ef_1, va_up_ne _ _ (by decide)]; exact c_317
  have c_318 : f_1 318 = ai (ca 1) 32 (g 16) := by rw [ef_1, va_up_ne _ _ (by decide)]; exact c_318
  have c_319 : f_1 319 = ai (ca 1) 320 (z 0) := by rw [ef_1, va_up_ne _ _ (by decide)]; exact c_319
  have c_320 : f_1 320 = ai (ca 1) 36 (z 1) := by rw [ef_1, va_up_ne _ _ (by decide)]; exact c_320
  have c_321 : f_1 321 = ai (ca 0) 64 (z 2) := by rw [ef_1, va_up_ne _ _ (by decide)]; exact c_321
  have c_322 : f_1 322 = ai (ca 0) 8 (z 3) := by rw [ef_1, va_up_ne _ _ (by decide)]; exact c_322
  have c_323 : f_1 323 = ai (ca 0) 8 (z 4) := by rw [ef_1, va_up_ne _ _ (by decide)]; exact c_323
  have c_324 : f_1 324 = ai (ca 0) 8 shR := by rw [ef_1, va_up_ne _ _ (by decide)]; exact c_324
  have c_325 : f_1 325 = ai (ca 0) 64 shK := by rw [ef_1, va_up_ne _ _ (by decide)]; exact c_325
  have qn_0 : (va_up n 7 0) 0 = n 0 := by rw [va_up_ne _ _ (by decide)]
  have qn_1 : (va_up n 7 0) 1 = n 1 := by rw [va_up_ne _ _ (by decide)]
  have qn_2 : (va_up n 7 0) 2 = n 2 := by rw [va_up_ne _ _ (by decide)]
  have qn_3 : (va_up n 7 0) 3 = n 3 := by rw [va_up_ne _ _ (by decide)]
  have qn_4 : (va_up n 7 0) 4 = n 4 := by rw [va_up_ne _ _ (by decide)]
  have qn_5 : (va_up n 7 0) 5 = n 5 := by rw [va_up_ne _ _ (by decide)]
  have qn_6 : (va_up n 7 0) 6 = n 6 := by rw [va_up_ne _ _ (by decide)]
  have qn_7 : (va_up n 7 0) 7 = 0 := by rw [va_up_self]
  have hRz : RepM ca ad (va_up n 7 0) g z zn tb f_1 := ⟨(by rw [qn_7, qn_0, qn_1, qn_2, qn_3, qn_4, qn_5]; exact c_302),
        c_303,
        c_304,
        c_305,
        c_306,
        c_307,
        c_308,
        c_309,
        c_310,
        c_311,
        c_312,
        c_313,
        c_314,
        c_315,
        c_316,
        c_317,
        c_318,
        c_319,
        c_320,
        c_321,
        c_322,
        c_323,
        c_324,
        c_325, hzn⟩
  exact x_iret hx hb hr hlocks hw ⟨rfl, z, zn, hRz, (fun y hy => by rw [ef_1, va_up_ne _ _ (by omega)])⟩ dX6_file_23

set_option maxHeartbeats 4000000 in
set_option maxRecDepth 100000 in
theorem k_X6_file_day (l : Launch) (D : va_G) (ca : Nat → ClassId) (N : Nat) (ad : Nat → Nat) (B tR tK : Nat) (f : Nat → va_E) (dd : xD N ad B) (hN : 326 ≤ N) (n : Nat → Nat) (g : Nat → Nat → Int32) (z : Nat → Nat → Int32) (zn : Nat) (tb : Nat → Int32) (hR : RepM ca ad n g z zn tb f) (a : Nat) (y : Int32) (ha1 : 1 ≤ a) (ha2 : a ≤ 3) (ho : y < 0 ∨ nI 1000000 < y) : xMi l yX6_file wsX6_file rmX6_file [.ref (ad 302), .int (nI a), .int y] D ca N ad B tR tK f (fun r u => (-2) = r ∧ ∃ (z1 : Nat → Nat → Int32) (zn1 : Nat), RepM ca ad (va_up n 7 0) g z1 zn1 tb u ∧ ∀ y, (y < 302 ∨ 326 ≤ y) → u y = f y) := by
  refine x_open (cc := cX6_file) (maxL := 5) (ret := (some .int)) (by decide) rfl (Nat.le_of_ble_eq_true rfl) ?_
  intro p e s m below meth c ls hx hb hml hown hts hr hlocks hnm hB hK hE hw hl
  have hown : s.vm.findClass RX6 = some m.cls := hown
  have hl : lv_has ls 5 [(0, .ref (ad 302)), (1, .int (nI a)), (2, .int y)] := hl
  obtain ⟨c_302, c_303, c_304, c_305, c_306, c_307, c_308, c_309, c_310, c_311, c_312, c_313, c_314, c_315, c_316, c_317, c_318, c_319, c_320, c_321, c_322, c_323, c_324, c_325, hzn⟩ := hR
  have hin_7 : ∀ w ∈ u_ws RX6 TX6 32, w ∈ wsX6_file := by decide +kernel
  have hf_160 := hts (.fieldLink RX6 160 "FixityRowsModel" "thrown" "I") (by decide +kernel)
  have b_302 := c_302
  have b_303 := c_303
  have b_304 := c_304
  have b_305 := c_305
  have b_306 := c_306
  have b_307 := c_307
  have b_308 := c_308
  have b_309 := c_309
  have b_310 := c_310
  have b_311 := c_311
  have b_312 := c_312
  have b_313 := c_313
  have b_314 := c_314
  have b_315 := c_315
  have b_316 := c_316
  have b_317 := c_317
  have b_318 := c_318
  have b_319 := c_319
  have b_320 := c_320
  have b_321 := c_321
  have b_322 := c_322
  have b_323 := c_323
  have b_324 := c_324
  have b_325 := c_325
  refine lv_aload_n hx hb dX6_file_0 rfl (lv_at hl 0 rfl) ?_
  refine lv_iconst (v := nI 0) hx hb dX6_file_1 (by decide) ?_
  refine x_put (ci := 7) (C := RX6) (T := TX6) (n := 32) (ref := RX6) (fs' := mO ad 0 (n 0) (n 1) (n 2) (g 13 0) (n 3) (n 4) (n 5) zn) hx hb hts hin_7 tyX6 tyX6_ok nmX6 hown hK dd hw 302 (by omega) c_302 rfl 0 (by decide) hf_160 (fun _ h => h) rfl rfl rfl (Nat.le_of_ble_eq_true rfl) rfl dX6_file_2 (fun H locs hw => ?_)
  obtain ⟨f_1, ef_1⟩ : ∃ z, z = va_up f 302 (.inr (7, mO ad 0 (n 0) (n 1) (n 2) (g 13 0) (n 3) (n 4) (n 5) zn)) := ⟨_, rfl⟩
  have hw : xw D vwCl N ad B s.heap f_1 H locs := by rw [ef_1]; exact hw
  have c_302 : f_1 302 = .inr (7, mO ad 0 (n 0) (n 1) (n 2) (g 13 0) (n 3) (n 4) (n 5) zn) := va_up_of ef_1
  refine lv_iload_n hx hb dX6_file_5 rfl (lv_at hl 1 rfl) ?_
  refine lv_iconst (v := nI 1) hx hb dX6_file_6 (by decide) ?_
  refine lv_iconst (v := nI 3) hx hb dX6_file_7 (by decide) ?_
  refine x_Si (As := [.int (nI a), .int (nI 1), .int (nI 3)]) (rest := []) ⟨hx, hb, hml, hown, hts⟩ (k_X6_in_yes l D ca N ad B tR tK f_1 dd a 1 3   (by omega) (by omega) (by omega)) (va_cwS 3 hts gX6_file_X6_in rfl rfl rfl (by decide +kernel) ⟨Nat.le_of_ble_eq_true rfl, Nat.le_of_ble_eq_true rfl⟩) hK hE hB hw rfl rfl hl.1 (Nat.le_of_ble_eq_true rfl) ⟨Nat.zero_le _, Nat.zero_le _⟩ dX6_file_8 (fun r_3 f_2 H locs hp hw => ?_)
  obtain ⟨er, eu⟩ := hp
  rw [← er]
  rw [← eu] at hw
  refine lv_if_eq (tgt := 21) hx hb dX6_file_11 (by decide) (fun h => absurd h (by decide)) (fun _ => ?_)
  refine lv_iload_n hx hb dX6_file_14 rfl (lv_at hl 2 rfl) ?_
  refine x_Si (As := [.int y]) (rest := []) ⟨hx, hb, hml, hown, hts⟩ (k_X6_isDay_no l D ca N ad B tR tK f_1 dd y   ho) (va_cwS 1 hts gX6_file_X6_isDay rfl rfl rfl (by decide +kernel) ⟨Nat.le_of_ble_eq_true rfl, Nat.le_of_ble_eq_true rfl⟩) hK hE hB hw rfl rfl hl.1 (Nat.le_of_ble_eq_true rfl) ⟨Nat.zero_le _, Nat.zero_le _⟩ dX6_file_15 (fun r_5 f_4 H locs hp hw => ?_)
  obtain ⟨er, eu⟩ := hp
  rw [← er]
  rw [← eu] at hw
  refine lv_if_ne (tgt := 24) hx hb dX6_file_18 (by decide) (fun h => False.elim (h (by decide))) (fun _ => ?_)
  refine lv_bipush (v := (-2)) hx hb dX6_file_21 (by decide) ?_
  have c_303 : f_1 303 = ai (ca 1) 200 (g 0) := by rw [ef_1, va_up_ne _ _ (by decide)]; exact c_303
  have c_304 : f_1 304 = ai (ca 1) 4000 (g 1) := by rw [ef_1, va_up_ne _ _ (by decide)]; exact c_304
  have c_305 : f_1 305 = ai (ca 0) 20 (g 2) := by rw [ef_1, va_up_ne _ _ (by decide)]; exact c_305
  have c_306 : f_1 306 = ai (ca 0) 20 (g 3) := by rw [ef_1, va_up_ne _ _ (by decide)]; exact c_306
  have c_307 : f_1 307 = ai (ca 1) 720 (g 4) := by rw [ef_1, va_up_ne _ _ (by decide)]; exact c_307
  have c_308 : f_1 308 = ai (ca 0) 20 (g 5) := by rw [ef_1, va_up_ne _ _ (by decide)]; exact c_308
  have c_309 : f_1 309 = ai (ca 0) 20 (g 6) := by rw [ef_1, va_up_ne _ _ (by decide)]; exact c_309
  have c_310 : f_1 310 = ai (ca 0) 20 (g 7) := by rw [ef_1, va_up_ne _ _ (by decide)]; exact c_310
  have c_311 : f_1 311 = ai (ca 0) 20 (g 8) := by rw [ef_1, va_up_ne _ _ (by decide)]; exact c_311
  have c_312 : f_1 312 = ai (ca 0) 20 (g 9) := by rw [ef_1, va_up_ne _ _ (by decide)]; exact c_312
  have c_313 : f_1 313 = ai (ca 2) 20 (g 10) := by rw [ef_1, va_up_ne _ _ (by decide)]; exact c_313
  have c_314 : f_1 314 = ai (ca 0) 200 (g 11) := by rw [ef_1, va_up_ne _ _ (by decide)]; exact c_314
  have c_315 : f_1 315 = ai (ca 0) 200 (g 12) := by rw [ef_1, va_up_ne _ _ (by decide)]; exact c_315
  have c_316 : f_1 316 = ai (ca 0) 200 (g 14) := by rw [ef_1, va_up_ne _ _ (by decide)]; exact c_316
  have c_317 : f_1 317 = ai (ca 1) 6400 (g 15) := by rw [ef_1, va_up_ne _ _ (by decide)]; exact c_317
  have c_318 : f_1 318 = ai (ca 1) 32 (g 16) := by rw [ef_1, va_up_ne _ _ (by decide)]; exact c_318
  have c_319 : f_1 319 = ai (ca 1) 320 (z 0) := by rw [ef_1, va_up_ne _ _ (by decide)]; exact c_319
  have c_320 : f_1 320 = ai (ca 1) 36 (z 1) := by rw [ef_1, va_up_ne _ _ (by decide)]; exact c_320
  have c_321 : f_1 321 = ai (ca 0) 64 (z 2) := by rw [ef_1, va_up_ne _ _ (by decide)]; exact c_321
  have c_322 : f_1 322 = ai (ca 0) 8 (z 3) := by rw [ef_1, va_up_ne _ _ (by decide)]; exact c_322
  have c_323 : f_1 323 = ai (ca 0) 8 (z 4) := by rw [ef_1, va_up_ne _ _ (by decide)]; exact c_323
  have c_324 : f_1 324 = ai (ca 0) 8 shR := by rw [ef_1, va_up_ne _ _ (by decide)]; exact c_324
  have c_325 : f_1 325 = ai (ca 0) 64 shK := by rw [ef_1, va_up_ne _ _ (by decide)]; exact c_325
  have qn_0 : (va_up n 7 0) 0 = n 0 := by rw [va_up_ne _ _ (by decide)]
  have qn_1 : (va_up n 7 0) 1 = n 1 := by rw [va_up_ne _ _ (by decide)]
  have qn_2 : (va_up n 7 0) 2 = n 2 := by rw [va_up_ne _ _ (by decide)]
  have qn_3 : (va_up n 7 0) 3 = n 3 := by rw [va_up_ne _ _ (by decide)]
  have qn_4 : (va_up n 7 0) 4 = n 4 := by rw [va_up_ne _ _ (by decide)]
  have qn_5 : (va_up n 7 0) 5 = n 5 := by rw [va_up_ne _ _ (by decide)]
  have qn_6 : (va_up n 7 0) 6 = n 6 := by rw [va_up_ne _ _ (by decide)]
  have qn_7 : (va_up n 7 0) 7 = 0 := by rw [va_up_self]
  have hRz : RepM ca ad (va_up n 7 0) g z zn tb f_1 := ⟨(by rw [qn_7, qn_0, qn_1, qn_2, qn_3, qn_4, qn_5]; exact c_302),
        c_303,
        c_304,
        c_305,
        c_306,
        c_307,
        c_308,
        c_309,
        c_310,
        c_311,
        c_312,
        c_313,
        c_314,
        c_315,
        c_316,
        c_317,
        c_318,
        c_319,
        c_320,
        c_321,
        c_322,
        c_323,
        c_324,
        c_325, hzn⟩
  exact x_iret hx hb hr hlocks hw ⟨rfl, z, zn, hRz, (fun y hy => by rw [ef_1, va_up_ne _ _ (by omega)])⟩ dX6_file_23

set_option maxHeartbeats 4000000 in
set_option maxRecDepth 100000 in
theorem k_X6_file_full (l : Launch) (D : va_G) (ca : Nat → ClassId) (N : Nat) (ad : Nat → Nat) (B tR tK : Nat) (f : Nat → va_E) (dd : xD N ad B) (hN : 326 ≤ N) (n : Nat → Nat) (g : Nat → Nat → Int32) (z : Nat → Nat → Int32) (zn : Nat) (tb : Nat → Int32) (hR : RepM ca ad n g z zn tb f) (a : Nat) (j : Nat) (ha1 : 1 ≤ a) (ha2 : a ≤ 3) (hj : j ≤ 1000000) (h2 : n 2 = 20) : xMi l yX6_file wsX6_file rmX6_file [.ref (ad 302), .int (nI a), .int (nI j)] D ca N ad B tR tK f (fun r u => (-4) = r ∧ ∃ (z1 : Nat → Nat → Int32) (zn1 : Nat), RepM ca ad (va_up n 7 0) g z1 zn1 tb u ∧ ∀ y, (y < 302 ∨ 326 ≤ y) → u y = f y) := by
  refine x_open (cc := cX6_file) (maxL := 5) (ret := (some .int)) (by decide) rfl (Nat.le_of_ble_eq_true rfl) ?_
  intro p e s m below meth c ls hx hb hml hown hts hr hlocks hnm hB hK hE hw hl
  have hown : s.vm.findClass RX6 = some m.cls := hown
  have hl : lv_has ls 5 [(0, .ref (ad 302)), (1, .int (nI a)), (2, .int (nI j))] := hl
  obtain ⟨c_302, c_303, c_304, c_305, c_306, c_307, c_308, c_309, c_310, c_311, c_312, c_313, c_314, c_315, c_316, c_317, c_318, c_319, c_320, c_321, c_322, c_323, c_324, c_325, hzn⟩ := hR
  have hin_7 : ∀ w ∈ u_ws RX6 TX6 32, w ∈ wsX6_file := by decide +kernel
  have hf_160 := hts (.fieldLink RX6 160 "FixityRowsModel" "thrown" "I") (by decide +kernel)
  have hf_163 := hts (.fieldLink RX6 163 "FixityRowsModel" "files" "I") (by decide +kernel)
  have b_302 := c_302
  have b_303 := c_303
  have b_304 := c_304
  have b_305 := c_305
  have b_306 := c_306
  have b_307 := c_307
  have b_308 := c_308
  have b_309 := c_309
  have b_310 := c_310
  have b_311 := c_311
  have b_312 := c_312
  have b_313 := c_313
  have b_314 := c_314
  have b_315 := c_315
  have b_316 := c_316
  have b_317 := c_317
  have b_318 := c_318
  have b_319 := c_319
  have b_320 := c_320
  have b_321 := c_321
  have b_322 := c_322
  have b_323 := c_323
  have b_324 := c_324
  have b_325 := c_325
  refine lv_aload_n hx hb dX6_file_0 rfl (lv_at hl 0 rfl) ?_
  refine lv_iconst (v := nI 0) hx hb dX6_file_1 (by decide) ?_
  refine x_put (ci := 7) (C := RX6) (T := TX6) (n := 32) (ref := RX6) (fs' := mO ad 0 (n 0) (n 1) (n 2) (g 13 0) (n 3) (n 4) (n 5) zn) hx hb hts hin_7 tyX6 tyX6_ok nmX6 hown hK dd hw 302 (by omega) c_302 rfl 0 (by decide) hf_160 (fun _ h => h) rfl rfl rfl (Nat.le_of_ble_eq_true rfl) rfl dX6_file_2 (fun H locs hw => ?_)
  obtain ⟨f_1, ef_1⟩ : ∃ z, z = va_up f 302 (.inr (7, mO ad 0 (n 0) (n 1) (n 2) (g 13 0) (n 3) (n 4) (n 5) zn)) := ⟨_, rfl⟩
  have hw : xw D vwCl N ad B s.heap f_1 H locs := by rw [ef_1]; exact hw
  have c_302 : f_1 302 = .inr (7, mO ad 0 (n 0) (n 1) (n 2) (g 13 0) (n 3) (n 4) (n 5) zn) := va_up_of ef_1
  refine lv_iload_n hx hb dX6_file_5 rfl (lv_at hl 1 rfl) ?_
  refine lv_iconst (v := nI 1) hx hb dX6_file_6 (by decide) ?_
  refine lv_iconst (v := nI 3) hx hb dX6_file_7 (by decide) ?_
  refine x_Si (As := [.int (nI a), .int (nI 1), .int (nI 3)]) (rest := []) ⟨hx, hb, hml, hown, hts⟩ (k_X6_in_yes l D ca N ad B tR tK f_1 dd a 1 3   (by omega) (by omega) (by omega)) (va_cwS 3 hts gX6_file_X6_in rfl rfl rfl (by decide +kernel) ⟨Nat.le_of_ble_eq_true rfl, Nat.le_of_ble_eq_true rfl⟩) hK hE hB hw rfl rfl hl.1 (Nat.le_of_ble_eq_true rfl) ⟨Nat.zero_le _, Nat.zero_le _⟩ dX6_file_8 (fun r_3 f_2 H locs hp hw => ?_)
  obtain ⟨er, eu⟩ := hp
  rw [← er]
  rw [← eu] at hw
  refine lv_if_eq (tgt := 21) hx hb dX6_file_11 (by decide) (fun h => absurd h (by decide)) (fun _ => ?_)
  refine lv_iload_n hx hb dX6_file_14 rfl (lv_at hl 2 rfl) ?_
  refine x_Si (As := [.int (nI j)]) (rest := []) ⟨hx, hb, hml, hown, hts⟩ (k_X6_isDay_yes l D ca N ad B tR tK f_1 dd j   (by omega)) (va_cwS 1 hts gX6_file_X6_isDay rfl rfl rfl (by decide +kernel) ⟨Nat.le_of_ble_eq_true rfl, Nat.le_of_ble_eq_true rfl⟩) hK hE hB hw rfl rfl hl.1 (Nat.le_of_ble_eq_true rfl) ⟨Nat.zero_le _, Nat.zero_le _⟩ dX6_file_15 (fun r_5 f_4 H locs hp hw => ?_)
  obtain ⟨er, eu⟩ := hp
  rw [← er]
  rw [← eu] at hw
  refine lv_if_ne (tgt := 24) hx hb dX6_file_18 (by decide) (fun _ => ?_) (fun h => absurd h (by decide))
  refine lv_aload_n hx hb dX6_file_24 rfl (lv_at hl 0 rfl) ?_
  refine x_get (ci := 7) (C := RX6) (T := TX6) (n := 32) (ref := RX6) hx hb hts hin_7 hown hK hw 302 (by omega) c_302 rfl 4 (by decide) hf_163 (fun _ h => h) rfl dX6_file_25 ?_
  refine lv_bipush (v := nI 20) hx hb dX6_file_28 (by decide) ?_
  refine n_icne (tgt := 36) hx hb dX6_file_30 (by decide) (by omega) (by omega) (fun hc_30 => ?_) (fun hc_30 => ?_)
  · omega
  · refine lv_bipush (v := (-4)) hx hb dX6_file_33 (by decide) ?_
    have c_303 : f_1 303 = ai (ca 1) 200 (g 0) := by rw [ef_1, va_up_ne _ _ (by decide)]; exact c_303
    have c_304 : f_1 304 = ai (ca 1) 4000 (g 1) := by rw [ef_1, va_up_ne _ _ (by decide)]; exact c_304
    have c_305 : f_1 305 = ai (ca 0) 20 (g 2) := by rw [ef_1, va_up_ne _ _ (by decide)]; exact c_305
    have c_306 : f_1 306 = ai (ca 0) 20 (g 3) := by rw [ef_1, va_up_ne _ _ (by decide)]; exact c_306
    have c_307 : f_1 307 = ai (ca 1) 720 (g 4) := by rw [ef_1, va_up_ne _ _ (by decide)]; exact c_307
    have c_308 : f_1 308 = ai (ca 0) 20 (g 5) := by rw [ef_1, va_up_ne _ _ (by decide)]; exact c_308
    have c_309 : f_1 309 = ai (ca 0) 20 (g 6) := by rw [ef_1, va_up_ne _ _ (by decide)]; exact c_309
    have c_310 : f_1 310 = ai (ca 0) 20 (g 7) := by rw [ef_1, va_up_ne _ _ (by decide)]; exact c_310
    have c_311 : f_1 311 = ai (ca 0) 20 (g 8) := by rw [ef_1, va_up_ne _ _ (by decide)]; exact c_311
    have c_312 : f_1 312 = ai (ca 0) 20 (g 9) := by rw [ef_1, va_up_ne _ _ (by decide)]; exact c_312
    have c_313 : f_1 313 = ai (ca 2) 20 (g 10) := by rw [ef_1, va_up_ne _ _ (by decide)]; exact c_313
    have c_314 : f_1 314 = ai (ca 0) 200 (g 11) := by rw [ef_1, va_up_ne _ _ (by decide)]; exact c_314
    have c_315 : f_1 315 = ai (ca 0) 200 (g 12) := by rw [ef_1, va_up_ne _ _ (by decide)]; exact c_315
    have c_316 : f_1 316 = ai (ca 0) 200 (g 14) := by rw [ef_1, va_up_ne _ _ (by decide)]; exact c_316
    have c_317 : f_1 317 = ai (ca 1) 6400 (g 15) := by rw [ef_1, va_up_ne _ _ (by decide)]; exact c_317
    have c_318 : f_1 318 = ai (ca 1) 32 (g 16) := by rw [ef_1, va_up_ne _ _ (by decide)]; exact c_318
    have c_319 : f_1 319 = ai (ca 1) 320 (z 0) := by rw [ef_1, va_up_ne _ _ (by decide)]; exact c_319
    have c_320 : f_1 320 = ai (ca 1) 36 (z 1) := by rw [ef_1, va_up_ne _ _ (by decide)]; exact c_320
    have c_321 : f_1 321 = ai (ca 0) 64 (z 2) := by rw [ef_1, va_up_ne _ _ (by decide)]; exact c_321
    have c_322 : f_1 322 = ai (ca 0) 8 (z 3) := by rw [ef_1, va_up_ne _ _ (by decide)]; exact c_322
    have c_323 : f_1 323 = ai (ca 0) 8 (z 4) := by rw [ef_1, va_up_ne _ _ (by decide)]; exact c_323
    have c_324 : f_1 324 = ai (ca 0) 8 shR := by rw [ef_1, va_up_ne _ _ (by decide)]; exact c_324
    have c_325 : f_1 325 = ai (ca 0) 64 shK := by rw [ef_1, va_up_ne _ _ (by decide)]; exact c_325
    have qn_0 : (va_up n 7 0) 0 = n 0 := by rw [va_up_ne _ _ (by decide)]
    have qn_1 : (va_up n 7 0) 1 = n 1 := by rw [va_up_ne _ _ (by decide)]
    have qn_2 : (va_up n 7 0) 2 = n 2 := by rw [va_up_ne _ _ (by decide)]
    have qn_3 : (va_up n 7 0) 3 = n 3 := by rw [va_up_ne _ _ (by decide)]
    have qn_4 : (va_up n 7 0) 4 = n 4 := by rw [va_up_ne _ _ (by decide)]
    have qn_5 : (va_up n 7 0) 5 = n 5 := by rw [va_up_ne _ _ (by decide)]
    have qn_6 : (va_up n 7 0) 6 = n 6 := by rw [va_up_ne _ _ (by decide)]
    have qn_7 : (va_up n 7 0) 7 = 0 := by rw [va_up_self]
    have hRz : RepM ca ad (va_up n 7 0) g z zn tb f_1 := ⟨(by rw [qn_7, qn_0, qn_1, qn_2, qn_3, qn_4, qn_5]; exact c_302),
          c_303,
          c_304,
          c_305,
          c_306,
          c_307,
          c_308,
          c_309,
          c_310,
          c_311,
          c_312,
          c_313,
          c_314,
          c_315,
          c_316,
          c_317,
          c_318,
          c_319,
          c_320,
          c_321,
          c_322,
          c_323,
          c_324,
          c_325, hzn⟩
    exact x_iret hx hb hr hlocks hw ⟨rfl, z, zn, hRz, (fun y hy => by rw [ef_1, va_up_ne _ _ (by omega)])⟩ dX6_file_35

set_option maxHeartbeats 4000000 in
set_option maxRecDepth 100000 in
theorem k_X6_file_in (l : Launch) (D : va_G) (ca : Nat → ClassId) (N : Nat) (ad : Nat → Nat) (B tR tK : Nat) (f : Nat → va_E) (dd : xD N ad B) (hN : 326 ≤ N) (n : Nat → Nat) (g : Nat → Nat → Int32) (z : Nat → Nat → Int32) (zn : Nat) (tb : Nat → Int32) (hR : RepM ca ad n g z zn tb f) (a : Nat) (j : Nat) (ha1 : 1 ≤ a) (ha2 : a ≤ 3) (hj : j ≤ 1000000) (h2 : n 2 < 20) (h4 : n 1 ≤ 200) (hr9 : n 4 < 200) : xMi l yX6_file wsX6_file rmX6_file [.ref (ad 302), .int (nI a), .int (nI j)] D ca N ad B tR tK f (fun r u => nI (n 2) = r ∧ ∃ (z1 : Nat → Nat → Int32) (zn1 : Nat), RepM ca ad (va_up (va_up (va_up (va_up n 7 0) 1 0) 2 ((n 2) + 1)) 4 ((n 4) + 1)) (va_up (va_up (va_up (va_up (va_up (va_up (va_up (va_up g 1 (cpF (g 1) (g 0) (200 * n 2) (n 1))) 2 (upd (g 2) (n 2) (nI (n 1)))) 3 (upd (g 3) (n 2) (nI a))) 4 (wnt (g 4) (sha (n 1) (fun x => g 0 x &&& nI 255)) (crM (g 0) (n 1) ^^^ (-1)) (36 * n 2))) 11 (upd (g 11) (n 4) (nI 0))) 12 (upd (g 12) (n 4) (nI (n 2)))) 14 (upd (g 14) (n 4) (nI j))) 15 (rowB (g 15) (rowS (g 15) (n 4) (nI 0) (nI (n 2)) (nI j)) (n 4))) z1 zn1 tb u ∧ ∀ y, (y < 302 ∨ 326 ≤ y) → u y = f y) := by
  refine x_open (cc := cX6_file) (maxL := 5) (ret := (some .int)) (by decide) rfl (Nat.le_of_ble_eq_true rfl) ?_
  intro p e s m below meth c ls hx hb hml hown hts hr hlocks hnm hB hK hE hw hl
  have hown : s.vm.findClass RX6 = some m.cls := hown
  have hl : lv_has ls 5 [(0, .ref (ad 302)), (1, .int (nI a)), (2, .int (nI j))] := hl
  obtain ⟨c_302, c_303, c_304, c_305, c_306, c_307, c_308, c_309, c_310, c_311, c_312, c_313, c_314, c_315, c_316, c_317, c_318, c_319, c_320, c_321, c_322, c_323, c_324, c_325, hzn⟩ := hR
  have hin_7 : ∀ w ∈ u_ws RX6 TX6 32, w ∈ wsX6_file := by decide +kernel
  have hf_209 := hts (.fieldLink RX6 209 "FixityRowsModel" "collected" "I") (by decide +kernel)
  have hf_163 := hts (.fieldLink RX6 163 "FixityRowsModel" "files" "I") (by decide +kernel)
  have hf_13 := hts (.fieldLink RX6 13 "FixityRowsModel" "bytes" "[B") (by decide +kernel)
  have hf_7 := hts (.fieldLink RX6 7 "FixityRowsModel" "said" "[B") (by decide +kernel)
  have hf_20 := hts (.fieldLink RX6 20 "FixityRowsModel" "algorithms" "[I") (by decide +kernel)
  have hf_16 := hts (.fieldLink RX6 16 "FixityRowsModel" "size" "[I") (by decide +kernel)
  have hf_23 := hts (.fieldLink RX6 23 "FixityRowsModel" "wanted" "[B") (by decide +kernel)
  have hf_67 := hts (.fieldLink RX6 67 "FixityRowsModel" "made" "[B") (by decide +kernel)
  have hf_160 := hts (.fieldLink RX6 160 "FixityRowsModel" "thrown" "I") (by decide +kernel)
  have b_302 := c_302
  have b_303 := c_303
  have b_304 := c_304
  have b_305 := c_305
  have b_306 := c_306
  have b_307 := c_307
  have b_308 := c_308
  have b_309 := c_309
  have b_310 := c_310
  have b_311 := c_311
  have b_312 := c_312
  have b_313 := c_313
  have b_314 := c_314
  have b_315 := c_315
  have b_316 := c_316
  have b_317 := c_317
  have b_318 := c_318
  have b_319 := c_319
  have b_320 := c_320
  have b_321 := c_321
  have b_322 := c_322
  have b_323 := c_323
  have b_324 := c_324
  have b_325 := c_325
  have P_143 : ∀ (b1 : Nat → Int32) (w1 : Nat → Int32) (v1 : Nat → Int32) (h1 : Nat → Int32) (H : Heap) (locs : List Loc) (ls : Array Slot), xw D vwCl N ad B s.heap (va_up (va_up (va_up (va_up (va_up (va_up (va_up (va_up (va_up (va_up f 302 (.inr (7, mO ad 0 (n 0) (n 1) (n 2) (g 13 0) (n 3) (n 4) (n 5) (n 1)))) 319 (ai (ca 1) 320 b1)) 321 (ai (ca 0) 64 w1)) 323 (ai (ca 0) 8 v1)) 322 (ai (ca 0) 8 h1)) 320 (ai (ca 1) 36 (mkS (mkf (z 1) (sha (n 1) (fun x => g 0 x &&& nI 255)) 32) (crM (g 0) (n 1) ^^^ (-1)) 4))) 307 (ai (ca 1) 720 (wnt (g 4) (sha (n 1) (fun x => g 0 x &&& nI 255)) (crM (g 0) (n 1) ^^^ (-1)) (36 * n 2)))) 306 (ai (ca 0) 20 (upd (g 3) (n 2) (nI a)))) 305 (ai (ca 0) 20 (upd (g 2) (n 2) (nI (n 1))))) 304 (ai (ca 1) 4000 (cpF (g 1) (g 0) (200 * n 2) (n 1)))) H locs → lv_has ls 5 [(0, .ref (ad 302)), (1, .int (nI a)), (2, .int (nI j)), (3, .int (nI (n 2)))] → W p l e rmX6_file s m ([.ref (ad 302), .int (nI a), .int (nI j)] : List Value).toArray below meth c H locs 0 0 (MQ below (xQi (fun r u => nI (n 2) = r ∧ ∃ (z1 : Nat → Nat → Int32) (zn1 : Nat), RepM ca ad (va_up (va_up (va_up (va_up n 7 0) 1 0) 2 ((n 2) + 1)) 4 ((n 4) + 1)) (va_up (va_up (va_up (va_up (va_up (va_up (va_up (va_up g 1 (cpF (g 1) (g 0) (200 * n 2) (n 1))) 2 (upd (g 2) (n 2) (nI (n 1)))) 3 (upd (g 3) (n 2) (nI a))) 4 (wnt (g 4) (sha (n 1) (fun x => g 0 x &&& nI 255)) (crM (g 0) (n 1) ^^^ (-1)) (36 * n 2))) 11 (upd (g 11) (n 4) (nI 0))) 12 (upd (g 12) (n 4) (nI (n 2)))) 14 (upd (g 14) (n 4) (nI j))) 15 (rowB (g 15) (rowS (g 15) (n 4) (nI 0) (nI (n 2)) (nI j)) (n 4))) z1 zn1 tb u ∧ ∀ y, (y < 302 ∨ 326 ≤ y) → u y = f y) D N ad B) ([.ref (ad 302), .int (nI a), .int (nI j)] : List Value).toArray s 0 0 (xA B)) (F0 m 143 ls []) := by
    intro b1 w1 v1 h1 H locs ls hw hl
    have c_302 := b_302
    have c_303 := b_303
    have c_304 := b_304
    have c_305 := b_305
    have c_306 := b_306
    have c_307 := b_307
    have c_308 := b_308
    have c_309 := b_309
    have c_310 := b_310
    have c_311 := b_311
    have c_312 := b_312
    have c_313 := b_313
    have c_314 := b_314
    have c_315 := b_315
    have c_316 := b_316
    have c_317 := b_317
    have c_318 := b_318
    have c_319 := b_319
    have c_320 := b_320
    have c_321 := b_321
    have c_322 := b_322
    have c_323 := b_323
    have c_324 := b_324
    have c_325 := b_325
    obtain ⟨f_1, ef_1⟩ : ∃ zq9, zq9 = va_up (va_up (va_up (va_up (va_up (va_up (va_up (va_up (va_up (va_up f 302 (.inr (7, mO ad 0 (n 0) (n 1) (n 2) (g 13 0) (n 3) (n 4) (n 5) (n 1)))) 319 (ai (ca 1) 320 b1)) 321 (ai (ca 0) 64 w1)) 323 (ai (ca 0) 8 v1)) 322 (ai (ca 0) 8 h1)) 320 (ai (ca 1) 36 (mkS (mkf (z 1) (sha (n 1) (fun x => g 0 x &&& nI 255)) 32) (crM (g 0) (n 1) ^^^ (-1)) 4))) 307 (ai (ca 1) 720 (wnt (g 4) (sha (n 1) (fun x => g 0 x &&& nI 255)) (crM (g 0) (n 1) ^^^ (-1)) (36 * n 2)))) 306 (ai (ca 0) 20 (upd (g 3) (n 2) (nI a)))) 305 (ai (ca 0) 20 (upd (g 2) (n 2) (nI (n 1))))) 304 (ai (ca 1) 4000 (cpF (g 1) (g 0) (200 * n 2) (n 1))) := ⟨_, rfl⟩
    have hw : xw D vwCl N ad B s.heap f_1 H locs := by rw [ef_1]; exact hw
    have c_302 : f_1 302 = .inr (7, mO ad 0 (n 0) (n 1) (n 2) (g 13 0) (n 3) (n 4) (n 5) (n 1)) := by rw [ef_1, va_up_ne _ _ (by decide), va_up_ne _ _ (by decide), va_up_ne _ _ (by decide), va_up_ne _ _ (by decide), va_up_ne _ _ (by decide), va_up_ne _ _ (by decide), va_up_ne _ _ (by decide), va_up_ne _ _ (by decide), va_up_ne _ _ (by decide), va_up_self]
    have c_319 : f_1 319 = ai (ca 1) 320 b1 := by rw [ef_1, va_up_ne _ _ (by decide), va_up_ne _ _ (by decide), va_up_ne _ _ (by decide), va_up_ne _ _ (by decide), va_up_ne _ _ (by decide), va_up_ne _ _ (by decide), va_up_ne _ _ (by decide), va_up_ne _ _ (by decide), va_up_self]
    have c_321 : f_1 321 = ai (ca 0) 64 w1 := by rw [ef_1, va_up_ne _ _ (by decide), va_up_ne _ _ (by decide), va_up_ne _ _ (by decide), va_up_ne _ _ (by decide), va_up_ne _ _ (by decide), va_up_ne _ _ (by decide), va_up_ne _ _ (by decide), va_up_self]
    have c_323 : f_1 323 = ai (ca 0) 8 v1 := by rw [ef_1, va_up_ne _ _ (by decide), va_up_ne _ _ (by decide), va_up_ne _ _ (by decide), va_up_ne _ _ (by decide), va_up_ne _ _ (by decide), va_up_ne _ _ (by decide), va_up_self]
    have c_322 : f_1 322 = ai (ca 0) 8 h1 := by rw [ef_1, va_up_ne _ _ (by decide), va_up_ne _ _ (by decide), va_up_ne _ _ (by decide), va_up_ne _ _ (by decide), va_up_ne _ _ (by decide), va_up_self]
    have c_320 : f_1 320 = ai (ca 1) 36 (mkS (mkf (z 1) (sha (n 1) (fun x => g 0 x &&& nI 255)) 32) (crM (g 0) (n 1) ^^^ (-1)) 4) := by rw [ef_1, va_up_ne _ _ (by decide), va_up_ne _ _ (by decide), va_up_ne _ _ (by decide), va_up_ne _ _ (by decide), va_up_self]
    have c_307 : f_1 307 = ai (ca 1) 720 (wnt (g 4) (sha (n 1) (fun x => g 0 x &&& nI 255)) (crM (g 0) (n 1) ^^^ (-1)) (36 * n 2)) := by rw [ef_1, va_up_ne _ _ (by decide), va_up_ne _ _ (by decide), va_up_ne _ _ (by decide), va_up_self]
    have c_306 : f_1 306 = ai (ca 0) 20 (upd (g 3) (n 2) (nI a)) := by rw [ef_1, va_up_ne _ _ (by decide), va_up_ne _ _ (by decide), va_up_self]
    have c_305 : f_1 305 = ai (ca 0) 20 (upd (g 2) (n 2) (nI (n 1))) := by rw [ef_1, va_up_ne _ _ (by decide), va_up_self]
    have c_304 : f_1 304 = ai (ca 1) 4000 (cpF (g 1) (g 0) (200 * n 2) (n 1)) := by rw [ef_1, va_up_self]
    refine lv_aload_n hx hb dX6_file_143 rfl (lv_at hl 0 rfl) ?_
    refine lv_iconst (v := nI 0) hx hb dX6_file_144 (by decide) ?_
    refine x_put (ci := 7) (C := RX6) (T := TX6) (n := 32) (ref := RX6) (fs' := mO ad 0 (n 0) 0 (n 2) (g 13 0) (n 3) (n 4) (n 5) (n 1)) hx hb hts hin_7 tyX6 tyX6_ok nmX6 hown hK dd hw 302 (by omega) c_302 rfl 2 (by decide) hf_209 (fun _ h => h) rfl rfl rfl (Nat.le_of_ble_eq_true rfl) rfl dX6_file_145 (fun H locs hw => ?_)
    obtain ⟨f_2, ef_2⟩ : ∃ z, z = va_up f_1 302 (.inr (7, mO ad 0 (n 0) 0 (n 2) (g 13 0) (n 3) (n 4) (n 5) (n 1))) := ⟨_, rfl⟩
    have hw : xw D vwCl N ad B s.heap f_2 H locs := by rw [ef_2]; exact hw
    have c_302 : f_2 302 = .inr (7, mO ad 0 (n 0) 0 (n 2) (g 13 0) (n 3) (n 4) (n 5) (n 1)) := va_up_of ef_2
    refine lv_aload_n hx hb dX6_file_148 rfl (lv_at hl 0 rfl) ?_
    refine lv_dup hx hb dX6_file_149 rfl ?_
    refine x_get (ci := 7) (C := RX6) (T := TX6) (n := 32) (ref := RX6) hx hb hts hin_7 hown hK hw 302 (by omega) c_302 rfl 4 (by decide) hf_163 (fun _ h => h) rfl dX6_file_150 ?_
    refine lv_iconst (v := nI 1) hx hb dX6_file_153 (by decide) ?_
    refine n_iadd hx hb dX6_file_154 ?_
    refine x_put (ci := 7) (C := RX6) (T := TX6) (n := 32) (ref := RX6) (fs' := mO ad 0 (n 0) 0 ((n 2) + 1) (g 13 0) (n 3) (n 4) (n 5) (n 1)) hx hb hts hin_7 tyX6 tyX6_ok nmX6 hown hK dd hw 302 (by omega) c_302 rfl 4 (by decide) hf_163 (fun _ h => h) rfl rfl rfl (Nat.le_of_ble_eq_true rfl) rfl dX6_file_155 (fun H locs hw => ?_)
    obtain ⟨f_3, ef_3⟩ : ∃ z, z = va_up f_2 302 (.inr (7, mO ad 0 (n 0) 0 ((n 2) + 1) (g 13 0) (n 3) (n 4) (n 5) (n 1))) := ⟨_, rfl⟩
    have hw : xw D vwCl N ad B s.heap f_3 H locs := by rw [ef_3]; exact hw
    have c_302 : f_3 302 = .inr (7, mO ad 0 (n 0) 0 ((n 2) + 1) (g 13 0) (n 3) (n 4) (n 5) (n 1)) := va_up_of ef_3
    refine lv_aload_n hx hb dX6_file_158 rfl (lv_at hl 0 rfl) ?_
    refine lv_iconst (v := nI 0) hx hb dX6_file_159 (by decide) ?_
    refine lv_iload_n hx hb dX6_file_160 rfl (lv_at hl 3 rfl) ?_
    refine lv_iload_n hx hb dX6_file_161 rfl (lv_at hl 2 rfl) ?_
    have c_314 : f_3 314 = ai (ca 0) 200 (g 11) := by rw [ef_3, va_up_ne _ _ (by decide), ef_2, va_up_ne _ _ (by decide), ef_1, va_up_ne _ _ (by decide), va_up_ne _ _ (by decide), va_up_ne _ _ (by decide), va_up_ne _ _ (by decide), va_up_ne _ _ (by decide), va_up_ne _ _ (by decide), va_up_ne _ _ (by decide), va_up_ne _ _ (by decide), va_up_ne _ _ (by decide), va_up_ne _ _ (by decide)]; exact c_314
    have c_315 : f_3 315 = ai (ca 0) 200 (g 12) := by rw [ef_3, va_up_ne _ _ (by decide), ef_2, va_up_ne _ _ (by decide), ef_1, va_up_ne _ _ (by decide), va_up_ne _ _ (by decide), va_up_ne _ _ (by decide), va_up_ne _ _ (by decide), va_up_ne _ _ (by decide), va_up_ne _ _ (by decide), va_up_ne _ _ (by decide), va_up_ne _ _ (by decide), va_up_ne _ _ (by decide), va_up_ne _ _ (by decide)]; exact c_315
    have c_316 : f_3 316 = ai (ca 0) 200 (g 14) := by rw [ef_3, va_up_ne _ _ (by decide), ef_2, va_up_ne _ _ (by decide), ef_1, va_up_ne _ _ (by decide), va_up_ne _ _ (by decide), va_up_ne _ _ (by decide), va_up_ne _ _ (by decide), va_up_ne _ _ (by decide), va_up_ne _ _ (by decide), va_up_ne _ _ (by decide), va_up_ne _ _ (by decide), va_up_ne _ _ (by decide), va_up_ne _ _ (by decide)]; exact c_316
    have c_317 : f_3 317 = ai (ca 1) 6400 (g 15) := by rw [ef_3, va_up_ne _ _ (by decide), ef_2, va_up_ne _ _ (by decide), ef_1, va_up_ne _ _ (by decide), va_up_ne _ _ (by decide), va_up_ne _ _ (by decide), va_up_ne _ _ (by decide), va_up_ne _ _ (by decide), va_up_ne _ _ (by decide), va_up_ne _ _ (by decide), va_up_ne _ _ (by decide), va_up_ne _ _ (by decide), va_up_ne _ _ (by decide)]; exact c_317
    have c_319 : f_3 319 = ai (ca 1) 320 b1 := by rw [ef_3, va_up_ne _ _ (by decide), ef_2, va_up_ne _ _ (by decide)]; exact c_319
    have c_320 : f_3 320 = ai (ca 1) 36 (mkS (mkf (z 1) (sha (n 1) (fun x => g 0 x &&& nI 255)) 32) (crM (g 0) (n 1) ^^^ (-1)) 4) := by rw [ef_3, va_up_ne _ _ (by decide), ef_2, va_up_ne _ _ (by decide)]; exact c_320
    have c_321 : f_3 321 = ai (ca 0) 64 w1 := by rw [ef_3, va_up_ne _ _ (by decide), ef_2, va_up_ne _ _ (by decide)]; exact c_321
    have c_322 : f_3 322 = ai (ca 0) 8 h1 := by rw [ef_3, va_up_ne _ _ (by decide), ef_2, va_up_ne _ _ (by decide)]; exact c_322
    have c_323 : f_3 323 = ai (ca 0) 8 v1 := by rw [ef_3, va_up_ne _ _ (by decide), ef_2, va_up_ne _ _ (by decide)]; exact c_323
    have c_324 : f_3 324 = ai (ca 0) 8 shR := by rw [ef_3, va_up_ne _ _ (by decide), ef_2, va_up_ne _ _ (by decide), ef_1, va_up_ne _ _ (by decide), va_up_ne _ _ (by decide), va_up_ne _ _ (by decide), va_up_ne _ _ (by decide), va_up_ne _ _ (by decide), va_up_ne _ _ (by decide), va_up_ne _ _ (by decide), va_up_ne _ _ (by decide), va_up_ne _ _ (by decide), va_up_ne _ _ (by decide)]; exact c_324
    have c_325 : f_3 325 = ai (ca 0) 64 shK := by rw [ef_3, va_up_ne _ _ (by decide), ef_2, va_up_ne _ _ (by decide), ef_1, va_up_ne _ _ (by decide), va_up_ne _ _ (by decide), va_up_ne _ _ (by decide), va_up_ne _ _ (by decide), va_up_ne _ _ (by decide), va_up_ne _ _ (by decide), va_up_ne _ _ (by decide), va_up_ne _ _ (by decide), va_up_ne _ _ (by decide), va_up_ne _ _ (by decide)]; exact c_325
    refine x_Vv (q := 302) (As := [.int (nI 0), .int (nI (n 2)), .int (nI j)]) (rest := []) ⟨hx, hb, hml, hown, hts⟩ (k_X6_enter_in l D ca N ad B tR tK f_3 dd 0 (n 0) 0 ((n 2) + 1) (g 13 0) (n 3) (n 4) (n 5) (n 1) (g 11) (g 12) (g 14) (g 15) b1 (mkS (mkf (z 1) (sha (n 1) (fun x => g 0 x &&& nI 255)) 32) (crM (g 0) (n 1) ^^^ (-1)) 4) w1 h1 v1 (nI 0) (nI (n 2)) (nI j) c_302 c_314 c_315 c_316 c_317 c_319 c_320 c_321 c_322 c_323 c_324 c_325  (by omega) (by omega)) (cwV 3 hts gX6_file_X6_enter rfl rfl rfl (by decide +kernel) ⟨Nat.le_of_ble_eq_true rfl, Nat.le_of_ble_eq_true rfl⟩) hK hE hB hw (by omega) c_302 rfl rfl rfl rfl hl.1 (Nat.le_of_ble_eq_true rfl) ⟨Nat.zero_le _, Nat.zero_le _⟩ dX6_file_162 (fun f_4 H locs hp hw => ?_)
    obtain ⟨b1_6, w1_7, v1_8, h1_9, eu⟩ := hp
    have ef_4 : f_4 = va_up (va_up (va_up (va_up (va_up (va_up (va_up (va_up (va_up (va_up f_3 314 (ai (ca 0) 200 (upd (g 11) (n 4) (nI 0)))) 315 (ai (ca 0) 200 (upd (g 12) (n 4) (nI (n 2))))) 316 (ai (ca 0) 200 (upd (g 14) (n 4) (nI j)))) 302 (.inr (7, mO ad 0 (n 0) 0 ((n 2) + 1) (g 13 0) (n 3) ((n 4) + 1) (n 5) 44))) 319 (ai (ca 1) 320 b1_6)) 321 (ai (ca 0) 64 w1_7)) 323 (ai (ca 0) 8 v1_8)) 322 (ai (ca 0) 8 h1_9)) 320 (ai (ca 1) 36 (mkf (mkS (mkf (z 1) (sha (n 1) (fun x => g 0 x &&& nI 255)) 32) (crM (g 0) (n 1) ^^^ (-1)) 4) (rowS (g 15) (n 4) (nI 0) (nI (n 2)) (nI j)) 32))) 317 (ai (ca 1) 6400 (rowB (g 15) (rowS (g 15) (n 4) (nI 0) (nI (n 2)) (nI j)) (n 4))) := eu
    have c_314 : f_4 314 = ai (ca 0) 200 (upd (g 11) (n 4) (nI 0)) := by rw [ef_4, va_up_ne _ _ (by decide), va_up_ne _ _ (by decide), va_up_ne _ _ (by decide), va_up_ne _ _ (by decide), va_up_ne _ _ (by decide), va_up_ne _ _ (by decide), va_up_ne _ _ (by decide), va_up_ne _ _ (by decide), va_up_ne _ _ (by decide), va_up_self]
    have c_315 : f_4 315 = ai (ca 0) 200 (upd (g 12) (n 4) (nI (n 2))) := by rw [ef_4, va_up_ne _ _ (by decide), va_up_ne _ _ (by decide), va_up_ne _ _ (by decide), va_up_ne _ _ (by decide), va_up_ne _ _ (by decide), va_up_ne _ _ (by decide), va_up_ne _ _ (by decide), va_up_ne _ _ (by decide), va_up_self]
    have c_316 : f_4 316 = ai (ca 0) 200 (upd (g 14) (n 4) (nI j)) := by rw [ef_4, va_up_ne _ _ (by decide), va_up_ne _ _ (by decide), va_up_ne _ _ (by decide), va_up_ne _ _ (by decide), va_up_ne _ _ (by decide), va_up_ne _ _ (by decide), va_up_ne _ _ (by decide), va_up_self]
    have c_302 : f_4 302 = .inr (7, mO ad 0 (n 0) 0 ((n 2) + 1) (g 13 0) (n 3) ((n 4) + 1) (n 5) 44) := by rw [ef_4, va_up_ne _ _ (by decide), va_up_ne _ _ (by decide), va_up_ne _ _ (by decide), va_up_ne _ _ (by decide), va_up_ne _ _ (by decide), va_up_ne _ _ (by decide), va_up_self]
    have c_319 : f_4 319 = ai (ca 1) 320 b1_6 := by rw [ef_4, va_up_ne _ _ (by decide), va_up_ne _ _ (by decide), va_up_ne _ _ (by decide), va_up_ne _ _ (by decide), va_up_ne _ _ (by decide), va_up_self]
    have c_321 : f_4 321 = ai (ca 0) 64 w1_7 := by rw [ef_4, va_up_ne _ _ (by decide), va_up_ne _ _ (by decide), va_up_ne _ _ (by decide), va_up_ne _ _ (by decide), va_up_self]
    have c_323 : f_4 323 = ai (ca 0) 8 v1_8 := by rw [ef_4, va_up_ne _ _ (by decide), va_up_ne _ _ (by decide), va_up_ne _ _ (by decide), va_up_self]
    have c_322 : f_4 322 = ai (ca 0) 8 h1_9 := by rw [ef_4, va_up_ne _ _ (by decide), va_up_ne _ _ (by decide), va_up_self]
    have c_320 : f_4 320 = ai (ca 1) 36 (mkf (mkS (mkf (z 1) (sha (n 1) (fun x => g 0 x &&& nI 255)) 32) (crM (g 0) (n 1) ^^^ (-1)) 4) (rowS (g 15) (n 4) (nI 0) (nI (n 2)) (nI j)) 32) := by rw [ef_4, va_up_ne _ _ (by decide), va_up_self]
    have c_317 : f_4 317 = ai (ca 1) 6400 (rowB (g 15) (rowS (g 15) (n 4) (nI 0) (nI (n 2)) (nI j)) (n 4)) := by rw [ef_4, va_up_self]
    refine lv_iload_n hx hb dX6_file_165 rfl (lv_at hl 3 rfl) ?_
    have c_303 : f_4 303 = ai (ca 1) 200 (g 0) := by rw [ef_4, va_up_ne _ _ (by decide), va_up_ne _ _ (by decide), va_up_ne _ _ (by decide), va_up_ne _ _ (by decide), va_up_ne _ _ (by decide), va_up_ne _ _ (by decide), va_up_ne _ _ (by decide), va_up_ne _ _ (by decide), va_up_ne _ _ (by decide), va_up_ne _ _ (by decide), ef_3, va_up_ne _ _ (by decide), ef_2, va_up_ne _ _ (by decide), ef_1, va_up_ne _ _ (by decide), va_up_ne _ _ (by decide), va_up_ne _ _ (by decide), va_up_ne _ _ (by decide), va_up_ne _ _ (by decide), va_up_ne _ _ (by decide), va_up_ne _ _ (by decide), va_up_ne _ _ (by decide), va_up_ne _ _ (by decide), va_up_ne _ _ (by decide)]; exact c_303
    have c_304 : f_4 304 = ai (ca 1) 4000 (cpF (g 1) (g 0) (200 * n 2) (n 1)) := by rw [ef_4, va_up_ne _ _ (by decide), va_up_ne _ _ (by decide), va_up_ne _ _ (by decide), va_up_ne _ _ (by decide), va_up_ne _ _ (by decide), va_up_ne _ _ (by decide), va_up_ne _ _ (by decide), va_up_ne _ _ (by decide), va_up_ne _ _ (by decide), va_up_ne _ _ (by decide), ef_3, va_up_ne _ _ (by decide), ef_2, va_up_ne _ _ (by decide)]; exact c_304
    have c_305 : f_4 305 = ai (ca 0) 20 (upd (g 2) (n 2) (nI (n 1))) := by rw [ef_4, va_up_ne _ _ (by decide), va_up_ne _ _ (by decide), va_up_ne _ _ (by decide), va_up_ne _ _ (by decide), va_up_ne _ _ (by decide), va_up_ne _ _ (by decide), va_up_ne _ _ (by decide), va_up_ne _ _ (by decide), va_up_ne _ _ (by decide), va_up_ne _ _ (by decide), ef_3, va_up_ne _ _ (by decide), ef_2, va_up_ne _ _ (by decide)]; exact c_305
    have c_306 : f_4 306 = ai (ca 0) 20 (upd (g 3) (n 2) (nI a)) := by rw [ef_4, va_up_ne _ _ (by decide), va_up_ne _ _ (by decide), va_up_ne _ _ (by decide), va_up_ne _ _ (by decide), va_up_ne _ _ (by decide), va_up_ne _ _ (by decide), va_up_ne _ _ (by decide), va_up_ne _ _ (by decide), va_up_ne _ _ (by decide), va_up_ne _ _ (by decide), ef_3, va_up_ne _ _ (by decide), ef_2, va_up_ne _ _ (by decide)]; exact c_306
    have c_307 : f_4 307 = ai (ca 1) 720 (wnt (g 4) (sha (n 1) (fun x => g 0 x &&& nI 255)) (crM (g 0) (n 1) ^^^ (-1)) (36 * n 2)) := by rw [ef_4, va_up_ne _ _ (by decide), va_up_ne _ _ (by decide), va_up_ne _ _ (by decide), va_up_ne _ _ (by decide), va_up_ne _ _ (by decide), va_up_ne _ _ (by decide), va_up_ne _ _ (by decide), va_up_ne _ _ (by decide), va_up_ne _ _ (by decide), va_up_ne _ _ (by decide), ef_3, va_up_ne _ _ (by decide), ef_2, va_up_ne _ _ (by decide)]; exact c_307
    have c_308 : f_4 308 = ai (ca 0) 20 (g 5) := by rw [ef_4, va_up_ne _ _ (by decide), va_up_ne _ _ (by decide), va_up_ne _ _ (by decide), va_up_ne _ _ (by decide), va_up_ne _ _ (by decide), va_up_ne _ _ (by decide), va_up_ne _ _ (by decide), va_up_ne _ _ (by decide), va_up_ne _ _ (by decide), va_up_ne _ _ (by decide), ef_3, va_up_ne _ _ (by decide), ef_2, va_up_ne _ _ (by decide), ef_1, va_up_ne _ _ (by decide), va_up_ne _ _ (by decide), va_up_ne _ _ (by decide), va_up_ne _ _ (by decide), va_up_ne _ _ (by decide), va_up_ne _ _ (by decide), va_up_ne _ _ (by decide), va_up_ne _ _ (by decide), va_up_ne _ _ (by decide), va_up_ne _ _ (by decide)]; exact c_308
    have c_309 : f_4 309 = ai (ca 0) 20 (g 6) := by rw [ef_4, va_up_ne _ _ (by decide), va_up_ne _ _ (by decide), va_up_ne _ _ (by decide), va_up_ne _ _ (by decide), va_up_ne _ _ (by decide), va_up_ne _ _ (by decide), va_up_ne _ _ (by decide), va_up_ne _ _ (by decide), va_up_ne _ _ (by decide), va_up_ne _ _ (by decide), ef_3, va_up_ne _ _ (by decide), ef_2, va_up_ne _ _ (by decide), ef_1, va_up_ne _ _ (by decide), va_up_ne _ _ (by decide), va_up_ne _ _ (by decide), va_up_ne _ _ (by decide), va_up_ne _ _ (by decide), va_up_ne _ _ (by decide), va_up_ne _ _ (by decide), va_up_ne _ _ (by decide), va_up_ne _ _ (by decide), va_up_ne _ _ (by decide)]; exact c_309
    have c_310 : f_4 310 = ai (ca 0) 20 (g 7) := by rw [ef_4, va_up_ne _ _ (by decide), va_up_ne _ _ (by decide), va_up_ne _ _ (by decide), va_up_ne _ _ (by decide), va_up_ne _ _ (by decide), va_up_ne _ _ (by decide), va_up_ne _ _ (by decide), va_up_ne _ _ (by decide), va_up_ne _ _ (by decide), va_up_ne _ _ (by decide), ef_3, va_up_ne _ _ (by decide), ef_2, va_up_ne _ _ (by decide), ef_1, va_up_ne _ _ (by decide), va_up_ne _ _ (by decide), va_up_ne _ _ (by decide), va_up_ne _ _ (by decide), va_up_ne _ _ (by decide), va_up_ne _ _ (by decide), va_up_ne _ _ (by decide), va_up_ne _ _ (by decide), va_up_ne _ _ (by decide), va_up_ne _ _ (by decide)]; exact c_310
    have c_311 : f_4 311 = ai (ca 0) 20 (g 8) := by rw [ef_4, va_up_ne _ _ (by decide), va_up_ne _ _ (by decide), va_up_ne _ _ (by decide), va_up_ne _ _ (by decide), va_up_ne _ _ (by decide), va_up_ne _ _ (by decide), va_up_ne _ _ (by decide), va_up_ne _ _ (by decide), va_up_ne _ _ (by decide), va_up_ne _ _ (by decide), ef_3, va_up_ne _ _ (by decide), ef_2, va_up_ne _ _ (by decide), ef_1, va_up_ne _ _ (by decide), va_up_ne _ _ (by decide), va_up_ne _ _ (by decide), va_up_ne _ _ (by decide), va_up_ne _ _ (by decide), va_up_ne _ _ (by decide), va_up_ne _ _ (by decide), va_up_ne _ _ (by decide), va_up_ne _ _ (by decide), va_up_ne _ _ (by decide)]; exact c_311
    have c_312 : f_4 312 = ai (ca 0) 20 (g 9) := by rw [ef_4, va_up_ne _ _ (by decide), va_up_ne _ _ (by decide), va_up_ne _ _ (by decide), va_up_ne _ _ (by decide), va_up_ne _ _ (by decide), va_up_ne _ _ (by decide), va_up_ne _ _ (by decide), va_up_ne _ _ (by decide), va_up_ne _ _ (by decide), va_up_ne _ _ (by decide), ef_3, va_up_ne _ _ (by decide), ef_2, va_up_ne _ _ (by decide), ef_1, va_up_ne _ _ (by decide), va_up_ne _ _ (by decide), va_up_ne _ _ (by decide), va_up_ne _ _ (by decide), va_up_ne _ _ (by decide), va_up_ne _ _ (by decide), va_up_ne _ _ (by decide), va_up_ne _ _ (by decide), va_up_ne _ _ (by decide), va_up_ne _ _ (by decide)]; exact c_312
    have c_313 : f_4 313 = ai (ca 2) 20 (g 10) := by rw [ef_4, va_up_ne _ _ (by decide), va_up_ne _ _ (by decide), va_up_ne _ _ (by decide), va_up_ne _ _ (by decide), va_up_ne _ _ (by decide), va_up_ne _ _ (by decide), va_up_ne _ _ (by decide), va_up_ne _ _ (by decide), va_up_ne _ _ (by decide), va_up_ne _ _ (by decide), ef_3, va_up_ne _ _ (by decide), ef_2, va_up_ne _ _ (by decide), ef_1, va_up_ne _ _ (by decide), va_up_ne _ _ (by decide), va_up_ne _ _ (by decide), va_up_ne _ _ (by decide), va_up_ne _ _ (by decide), va_up_ne _ _ (by decide), va_up_ne _ _ (by decide), va_up_ne _ _ (by decide), va_up_ne _ _ (by decide), va_up_ne _ _ (by decide)]; exact c_313
    have c_318 : f_4 318 = ai (ca 1) 32 (g 16) := by rw [ef_4, va_up_ne _ _ (by decide), va_up_ne _ _ (by decide), va_up_ne _ _ (by decide), va_up_ne _ _ (by decide), va_up_ne _ _ (by decide), va_up_ne _ _ (by decide), va_up_ne _ _ (by decide), va_up_ne _ _ (by decide), va_up_ne _ _ (by decide), va_up_ne _ _ (by decide), ef_3, va_up_ne _ _ (by decide), ef_2, va_up_ne _ _ (by decide), ef_1, va_up_ne _ _ (by decide), va_up_ne _ _ (by decide), va_up_ne _ _ (by decide), va_up_ne _ _ (by decide), va_up_ne _ _ (by decide), va_up_ne _ _ (by decide), va_up_ne _ _ (by decide), va_up_ne _ _ (by decide), va_up_ne _ _ (by decide), va_up_ne _ _ (by decide)]; exact c_318
    have c_324 : f_4 324 = ai (ca 0) 8 shR := by rw [ef_4, va_up_ne _ _ (by decide), va_up_ne _ _ (by decide), va_up_ne _ _ (by decide), va_up_ne _ _ (by decide), va_up_ne _ _ (by decide), va_up_ne _ _ (by decide), va_up_ne _ _ (by decide), va_up_ne _ _ (by decide), va_up_ne _ _ (by decide), va_up_ne _ _ (by decide)]; exact c_324
    have c_325 : f_4 325 = ai (ca 0) 64 shK := by rw [ef_4, va_up_ne _ _ (by decide), va_up_ne _ _ (by decide), va_up_ne _ _ (by decide), va_up_ne _ _ (by decide), va_up_ne _ _ (by decide), va_up_ne _ _ (by decide), va_up_ne _ _ (by decide), va_up_ne _ _ (by decide), va_up_ne _ _ (by decide), va_up_ne _ _ (by decide)]; exact c_325
    have qn_0 : (va_up (va_up (va_up (va_up n 7 0) 1 0) 2 ((n 2) + 1)) 4 ((n 4) + 1)) 0 = n 0 := by rw [va_up_ne _ _ (by decide), va_up_ne _ _ (by decide), va_up_ne _ _ (by decide), va_up_ne _ _ (by decide)]
    have qn_1 : (va_up (va_up (va_up (va_up n 7 0) 1 0) 2 ((n 2) + 1)) 4 ((n 4) + 1)) 1 = 0 := by rw [va_up_ne _ _ (by decide), va_up_ne _ _ (by decide), va_up_self]
    have qn_2 : (va_up (va_up (va_up (va_up n 7 0) 1 0) 2 ((n 2) + 1)) 4 ((n 4) + 1)) 2 = (n 2) + 1 := by rw [va_up_ne _ _ (by decide), va_up_self]
    have qn_3 : (va_up (va_up (va_up (va_up n 7 0) 1 0) 2 ((n 2) + 1)) 4 ((n 4) + 1)) 3 = n 3 := by rw [va_up_ne _ _ (by decide), va_up_ne _ _ (by decide), va_up_ne _ _ (by decide), va_up_ne _ _ (by decide)]
    have qn_4 : (va_up (va_up (va_up (va_up n 7 0) 1 0) 2 ((n 2) + 1)) 4 ((n 4) + 1)) 4 = (n 4) + 1 := by rw [va_up_self]
    have qn_5 : (va_up (va_up (va_up (va_up n 7 0) 1 0) 2 ((n 2) + 1)) 4 ((n 4) + 1)) 5 = n 5 := by rw [va_up_ne _ _ (by decide), va_up_ne _ _ (by decide), va_up_ne _ _ (by decide), va_up_ne _ _ (by decide)]
    have qn_6 : (va_up (va_up (va_up (va_up n 7 0) 1 0) 2 ((n 2) + 1)) 4 ((n 4) + 1)) 6 = n 6 := by rw [va_up_ne _ _ (by decide), va_up_ne _ _ (by decide), va_up_ne _ _ (by decide), va_up_ne _ _ (by decide)]
    have qn_7 : (va_up (va_up (va_up (va_up n 7 0) 1 0) 2 ((n 2) + 1)) 4 ((n 4) + 1)) 7 = 0 := by rw [va_up_ne _ _ (by decide), va_up_ne _ _ (by decide), va_up_ne _ _ (by decide), va_up_self]
    have qg_0 : (va_up (va_up (va_up (va_up (va_up (va_up (va_up (va_up g 1 (cpF (g 1) (g 0) (200 * n 2) (n 1))) 2 (upd (g 2) (n 2) (nI (n 1)))) 3 (upd (g 3) (n 2) (nI a))) 4 (wnt (g 4) (sha (n 1) (fun x => g 0 x &&& nI 255)) (crM (g 0) (n 1) ^^^ (-1)) (36 * n 2))) 11 (upd (g 11) (n 4) (nI 0))) 12 (upd (g 12) (n 4) (nI (n 2)))) 14 (upd (g 14) (n 4) (nI j))) 15 (rowB (g 15) (rowS (g 15) (n 4) (nI 0) (nI (n 2)) (nI j)) (n 4))) 0 = g 0 := by rw [va_up_ne _ _ (by decide), va_up_ne _ _ (by decide), va_up_ne _ _ (by decide), va_up_ne _ _ (by decide), va_up_ne _ _ (by decide), va_up_ne _ _ (by decide), va_up_ne _ _ (by decide), va_up_ne _ _ (by decide)]
    have qg_1 : (va_up (va_up (va_up (va_up (va_up (va_up (va_up (va_up g 1 (cpF (g 1) (g 0) (200 * n 2) (n 1))) 2 (upd (g 2) (n 2) (nI (n 1)))) 3 (upd (g 3) (n 2) (nI a))) 4 (wnt (g 4) (sha (n 1) (fun x => g 0 x &&& nI 255)) (crM (g 0) (n 1) ^^^ (-1)) (36 * n 2))) 11 (upd (g 11) (n 4) (nI 0))) 12 (upd (g 12) (n 4) (nI (n 2)))) 14 (upd (g 14) (n 4) (nI j))) 15 (rowB (g 15) (rowS (g 15) (n 4) (nI 0) (nI (n 2)) (nI j)) (n 4))) 1 = cpF (g 1) (g 0) (200 * n 2) (n 1) := by rw [va_up_ne _ _ (by decide), va_up_ne _ _ (by decide), va_up_ne _ _ (by decide), va_up_ne _ _ (by decide), va_up_ne _ _ (by decide), va_up_ne _ _ (by decide), va_up_ne _ _ (by decide), va_up_self]
    have qg_2 : (va_up (va_up (va_up (va_up (va_up (va_up (va_up (va_up g 1 (cpF (g 1) (g 0) (200 * n 2) (n 1))) 2 (upd (g 2) (n 2) (nI (n 1)))) 3 (upd (g 3) (n 2) (nI a))) 4 (wnt (g 4) (sha (n 1) (fun x => g 0 x &&& nI 255)) (crM (g 0) (n 1) ^^^ (-1)) (36 * n 2))) 11 (upd (g 11) (n 4) (nI 0))) 12 (upd (g 12) (n 4) (nI (n 2)))) 14 (upd (g 14) (n 4) (nI j))) 15 (rowB (g 15) (rowS (g 15) (n 4) (nI 0) (nI (n 2)) (nI j)) (n 4))) 2 = upd (g 2) (n 2) (nI (n 1)) := by rw [va_up_ne _ _ (by decide), va_up_ne _ _ (by decide), va_up_ne _ _ (by decide), va_up_ne _ _ (by decide), va_up_ne _ _ (by decide), va_up_ne _ _ (by decide), va_up_self]
    have qg_3 : (va_up (va_up (va_up (va_up (va_up (va_up (va_up (va_up g 1 (cpF (g 1) (g 0) (200 * n 2) (n 1))) 2 (upd (g 2) (n 2) (nI (n 1)))) 3 (upd (g 3) (n 2) (nI a))) 4 (wnt (g 4) (sha (n 1) (fun x => g 0 x &&& nI 255)) (crM (g 0) (n 1) ^^^ (-1)) (36 * n 2))) 11 (upd (g 11) (n 4) (nI 0))) 12 (upd (g 12) (n 4) (nI (n 2)))) 14 (upd (g 14) (n 4) (nI j))) 15 (rowB (g 15) (rowS (g 15) (n 4) (nI 0) (nI (n 2)) (nI j)) (n 4))) 3 = upd (g 3) (n 2) (nI a) := by rw [va_up_ne _ _ (by decide), va_up_ne _ _ (by decide), va_up_ne _ _ (by decide), va_up_ne _ _ (by decide), va_up_ne _ _ (by decide), va_up_self]
    have qg_4 : (va_up (va_up (va_up (va_up (va_up (va_up (va_up (va_up g 1 (cpF (g 1) (g 0) (200 * n 2) (n 1))) 2 (upd (g 2) (n 2) (nI (n 1)))) 3 (upd (g 3) (n 2) (nI a))) 4 (wnt (g 4) (sha (n 1) (fun x => g 0 x &&& nI 255)) (crM (g 0) (n 1) ^^^ (-1)) (36 * n 2))) 11 (upd (g 11) (n 4) (nI 0))) 12 (upd (g 12) (n 4) (nI (n 2)))) 14 (upd (g 14) (n 4) (nI j))) 15 (rowB (g 15) (rowS (g 15) (n 4) (nI 0) (nI (n 2)) (nI j)) (n 4))) 4 = wnt (g 4) (sha (n 1) (fun x => g 0 x &&& nI 255)) (crM (g 0) (n 1) ^^^ (-1)) (36 * n 2) := by rw [va_up_ne _ _ (by decide), va_up_ne _ _ (by decide), va_up_ne _ _ (by decide), va_up_ne _ _ (by decide), va_up_self]
    have qg_5 : (va_up (va_up (va_up (va_up (va_up (va_up (va_up (va_up g 1 (cpF (g 1) (g 0) (200 * n 2) (n 1))) 2 (upd (g 2) (n 2) (nI (n 1)))) 3 (upd (g 3) (n 2) (nI a))) 4 (wnt (g 4) (sha (n 1) (fun x => g 0 x &&& nI 255)) (crM (g 0) (n 1) ^^^ (-1)) (36 * n 2))) 11 (upd (g 11) (n 4) (nI 0))) 12 (upd (g 12) (n 4) (nI (n 2)))) 14 (upd (g 14) (n 4) (nI j))) 15 (rowB (g 15) (rowS (g 15) (n 4) (nI 0) (nI (n 2)) (nI j)) (n 4))) 5 = g 5 := by rw [va_up_ne _ _ (by decide), va_up_ne _ _ (by decide), va_up_ne _ _ (by decide), va_up_ne _ _ (by decide), va_up_ne _ _ (by decide), va_up_ne _ _ (by decide), va_up_ne _ _ (by decide), va_up_ne _ _ (by decide)]
    have qg_6 : (va_up (va_up (va_up (va_up (va_up (va_up (va_up (va_up g 1 (cpF (g 1) (g 0) (200 * n 2) (n 1))) 2 (upd (g 2) (n 2) (nI (n 1)))) 3 (upd (g 3) (n 2) (nI a))) 4 (wnt (g 4) (sha (n 1) (fun x => g 0 x &&& nI 255)) (crM (g 0) (n 1) ^^^ (-1)) (36 * n 2))) 11 (upd (g 11) (n 4) (nI 0))) 12 (upd (g 12) (n 4) (nI (n 2)))) 14 (upd (g 14) (n 4) (nI j))) 15 (rowB (g 15) (rowS (g 15) (n 4) (nI 0) (nI (n 2)) (nI j)) (n 4))) 6 = g 6 := by rw [va_up_ne _ _ (by decide), va_up_ne _ _ (by decide), va_up_ne _ _ (by decide), va_up_ne _ _ (by decide), va_up_ne _ _ (by decide), va_up_ne _ _ (by decide), va_up_ne _ _ (by decide), va_up_ne _ _ (by decide)]
    have qg_7 : (va_up (va_up (va_up (va_up (va_up (va_up (va_up (va_up g 1 (cpF (g 1) (g 0) (200 * n 2) (n 1))) 2 (upd (g 2) (n 2) (nI (n 1)))) 3 (upd (g 3) (n 2) (nI a))) 4 (wnt (g 4) (sha (n 1) (fun x => g 0 x &&& nI 255)) (crM (g 0) (n 1) ^^^ (-1)) (36 * n 2))) 11 (upd (g 11) (n 4) (nI 0))) 12 (upd (g 12) (n 4) (nI (n 2)))) 14 (upd (g 14) (n 4) (nI j))) 15 (rowB (g 15) (rowS (g 15) (n 4) (nI 0) (nI (n 2)) (nI j)) (n 4))) 7 = g 7 := by rw [va_up_ne _ _ (by decide), va_up_ne _ _ (by decide), va_up_ne _ _ (by decide), va_up_ne _ _ (by decide), va_up_ne _ _ (by decide), va_up_ne _ _ (by decide), va_up_ne _ _ (by decide), va_up_ne _ _ (by decide)]
    have qg_8 : (va_up (va_up (va_up (va_up (va_up (va_up (va_up (va_up g 1 (cpF (g 1) (g 0) (200 * n 2) (n 1))) 2 (upd (g 2) (n 2) (nI (n 1)))) 3 (upd (g 3) (n 2) (nI a))) 4 (wnt (g 4) (sha (n 1) (fun x => g 0 x &&& nI 255)) (crM (g 0) (n 1) ^^^ (-1)) (36 * n 2))) 11 (upd (g 11) (n 4) (nI 0))) 12 (upd (g 12) (n 4) (nI (n 2)))) 14 (upd (g 14) (n 4) (nI j))) 15 (rowB (g 15) (rowS (g 15) (n 4) (nI 0) (nI (n 2)) (nI j)) (n 4))) 8 = g 8 := by rw [va_up_ne _ _ (by decide), va_up_ne _ _ (by decide), va_up_ne _ _ (by decide), va_up_ne _ _ (by decide), va_up_ne _ _ (by decide), va_up_ne _ _ (by decide), va_up_ne _ _ (by decide), va_up_ne _ _ (by decide)]
    have qg_9 : (va_up (va_up (va_up (va_up (va_up (va_up (va_up (va_up g 1 (cpF (g 1) (g 0) (200 * n 2) (n 1))) 2 (upd (g 2) (n 2) (nI (n 1)))) 3 (upd (g 3) (n 2) (nI a))) 4 (wnt (g 4) (sha (n 1) (fun x => g 0 x &&& nI 255)) (crM (g 0) (n 1) ^^^ (-1)) (36 * n 2))) 11 (upd (g 11) (n 4) (nI 0))) 12 (upd (g 12) (n 4) (nI (n 2)))) 14 (upd (g 14) (n 4) (nI j))) 15 (rowB (g 15) (rowS (g 15) (n 4) (nI 0) (nI (n 2)) (nI j)) (n 4))) 9 = g 9 := by rw [va_up_ne _ _ (by decide), va_up_ne _ _ (by decide), va_up_ne _ _ (by decide), va_up_ne _ _ (by decide), va_up_ne _ _ (by decide), va_up_ne _ _ (by decide), va_up_ne _ _ (by decide), va_up_ne _ _ (by decide)]
    have qg_10 : (va_up (va_up (va_up (va_up (va_up (va_up (va_up (va_up g 1 (cpF (g 1) (g 0) (200 * n 2) (n 1))) 2 (upd (g 2) (n 2) (nI (n 1)))) 3 (upd (g 3) (n 2) (nI a))) 4 (wnt (g 4) (sha (n 1) (fun x => g 0 x &&& nI 255)) (crM (g 0) (n 1) ^^^ (-1)) (36 * n 2))) 11 (upd (g 11) (n 4) (nI 0))) 12 (upd (g 12) (n 4) (nI (n 2)))) 14 (upd (g 14) (n 4) (nI j))) 15 (rowB (g 15) (rowS (g 15) (n 4) (nI 0) (nI (n 2)) (nI j)) (n 4))) 10 = g 10 := by rw [va_up_ne _ _ (by decide), va_up_ne _ _ (by decide), va_up_ne _ _ (by decide), va_up_ne _ _ (by decide), va_up_ne _ _ (by decide), va_up_ne _ _ (by decide), va_up_ne _ _ (by decide), va_up_ne _ _ (by decide)]
    have qg_11 : (va_up (va_up (va_up (va_up (va_up (va_up (va_up (va_up g 1 (cpF (g 1) (g 0) (200 * n 2) (n 1))) 2 (upd (g 2) (n 2) (nI (n 1)))) 3 (upd (g 3) (n 2) (nI a))) 4 (wnt (g 4) (sha (n 1) (fun x => g 0 x &&& nI 255)) (crM (g 0) (n 1) ^^^ (-1)) (36 * n 2))) 11 (upd (g 11) (n 4) (nI 0))) 12 (upd (g 12) (n 4) (nI (n 2)))) 14 (upd (g 14) (n 4) (nI j))) 15 (rowB (g 15) (rowS (g 15) (n 4) (nI 0) (nI (n 2)) (nI j)) (n 4))) 11 = upd (g 11) (n 4) (nI 0) := by rw [va_up_ne _ _ (by decide), va_up_ne _ _ (by decide), va_up_ne _ _ (by decide), va_up_self]
    have qg_12 : (va_up (va_up (va_up (va_up (va_up (va_up (va_up (va_up g 1 (cpF (g 1) (g 0) (200 * n 2) (n 1))) 2 (upd (g 2) (n 2) (nI (n 1)))) 3 (upd (g 3) (n 2) (nI a))) 4 (wnt (g 4) (sha (n 1) (fun x => g 0 x &&& nI 255)) (crM (g 0) (n 1) ^^^ (-1)) (36 * n 2))) 11 (upd (g 11) (n 4) (nI 0))) 12 (upd (g 12) (n 4) (nI (n 2)))) 14 (upd (g 14) (n 4) (nI j))) 15 (rowB (g 15) (rowS (g 15) (n 4) (nI 0) (nI (n 2)) (nI j)) (n 4))) 12 = upd (g 12) (n 4) (nI (n 2)) := by rw [va_up_ne _ _ (by decide), va_up_ne _ _ (by decide), va_up_self]
    have qg_13 : (va_up (va_up (va_up (va_up (va_up (va_up (va_up (va_up g 1 (cpF (g 1) (g 0) (200 * n 2) (n 1))) 2 (upd (g 2) (n 2) (nI (n 1)))) 3 (upd (g 3) (n 2) (nI a))) 4 (wnt (g 4) (sha (n 1) (fun x => g 0 x &&& nI 255)) (crM (g 0) (n 1) ^^^ (-1)) (36 * n 2))) 11 (upd (g 11) (n 4) (nI 0))) 12 (upd (g 12) (n 4) (nI (n 2)))) 14 (upd (g 14) (n 4) (nI j))) 15 (rowB (g 15) (rowS (g 15) (n 4) (nI 0) (nI (n 2)) (nI j)) (n 4))) 13 = g 13 := by rw [va_up_ne _ _ (by decide), va_up_ne _ _ (by decide), va_up_ne _ _ (by decide), va_up_ne _ _ (by decide), va_up_ne _ _ (by decide), va_up_ne _ _ (by decide), va_up_ne _ _ (by decide), va_up_ne _ _ (by decide)]
    have qg_14 : (va_up (va_up (va_up (va_up (va_up (va_up (va_up (va_up g 1 (cpF (g 1) (g 0) (200 * n 2) (n 1))) 2 (upd (g 2) (n 2) (nI (n 1)))) 3 (upd (g 3) (n 2) (nI a))) 4 (wnt (g 4) (sha (n 1) (fun x => g 0 x &&& nI 255)) (crM (g 0) (n 1) ^^^ (-1)) (36 * n 2))) 11 (upd (g 11) (n 4) (nI 0))) 12 (upd (g 12) (n 4) (nI (n 2)))) 14 (upd (g 14) (n 4) (nI j))) 15 (rowB (g 15) (rowS (g 15) (n 4) (nI 0) (nI (n 2)) (nI j)) (n 4))) 14 = upd (g 14) (n 4) (nI j) := by rw [va_up_ne _ _ (by decide), va_up_self]
    have qg_15 : (va_up (va_up (va_up (va_up (va_up (va_up (va_up (va_up g 1 (cpF (g 1) (g 0) (200 * n 2) (n 1))) 2 (upd (g 2) (n 2) (nI (n 1)))) 3 (upd (g 3) (n 2) (nI a))) 4 (wnt (g 4) (sha (n 1) (fun x => g 0 x &&& nI 255)) (crM (g 0) (n 1) ^^^ (-1)) (36 * n 2))) 11 (upd (g 11) (n 4) (nI 0))) 12 (upd (g 12) (n 4) (nI (n 2)))) 14 (upd (g 14) (n 4) (nI j))) 15 (rowB (g 15) (rowS (g 15) (n 4) (nI 0) (nI (n 2)) (nI j)) (n 4))) 15 = rowB (g 15) (rowS (g 15) (n 4) (nI 0) (nI (n 2)) (nI j)) (n 4) := by rw [va_up_self]
    have qg_16 : (va_up (va_up (va_up (va_up (va_up (va_up (va_up (va_up g 1 (cpF (g 1) (g 0) (200 * n 2) (n 1))) 2 (upd (g 2) (n 2) (nI (n 1)))) 3 (upd (g 3) (n 2) (nI a))) 4 (wnt (g 4) (sha (n 1) (fun x => g 0 x &&& nI 255)) (crM (g 0) (n 1) ^^^ (-1)) (36 * n 2))) 11 (upd (g 11) (n 4) (nI 0))) 12 (upd (g 12) (n 4) (nI (n 2)))) 14 (upd (g 14) (n 4) (nI j))) 15 (rowB (g 15) (rowS (g 15) (n 4) (nI 0) (nI (n 2)) (nI j)) (n 4))) 16 = g 16 := by rw [va_up_ne _ _ (by decide), va_up_ne _ _ (by decide), va_up_ne _ _ (by decide), va_up_ne _ _ (by decide), va_up_ne _ _ (by decide), va_up_ne _ _ (by decide), va_up_ne _ _ (by decide), va_up_ne _ _ (by decide)]
    have qz_0 : (va_up (va_up (va_up (va_up (va_up z 0 b1_6) 1 (mkf (mkS (mkf (z 1) (sha (n 1) (fun x => g 0 x &&& nI 255)) 32) (crM (g 0) (n 1) ^^^ (-1)) 4) (rowS (g 15) (n 4) (nI 0) (nI (n 2)) (nI j)) 32)) 2 w1_7) 3 h1_9) 4 v1_8) 0 = b1_6 := by rw [va_up_ne _ _ (by decide), va_up_ne _ _ (by decide), va_up_ne _ _ (by decide), va_up_ne _ _ (by decide), va_up_self]
    have qz_1 : (va_up (va_up (va_up (va_up (va_up z 0 b1_6) 1 (mkf (mkS (mkf (z 1) (sha (n 1) (fun x => g 0 x &&& nI 255)) 32) (crM (g 0) (n 1) ^^^ (-1)) 4) (rowS (g 15) (n 4) (nI 0) (nI (n 2)) (nI j)) 32)) 2 w1_7) 3 h1_9) 4 v1_8) 1 = mkf (mkS (mkf (z 1) (sha (n 1) (fun x => g 0 x &&& nI 255)) 32) (crM (g 0) (n 1) ^^^ (-1)) 4) (rowS (g 15) (n 4) (nI 0) (nI (n 2)) (nI j)) 32 := by rw [va_up_ne _ _ (by decide), va_up_ne _ _ (by decide), va_up_ne _ _ (by decide), va_up_self]
    have qz_2 : (va_up (va_up (va_up (va_up (va_up z 0 b1_6) 1 (mkf (mkS (mkf (z 1) (sha (n 1) (fun x => g 0 x &&& nI 255)) 32) (crM (g 0) (n 1) ^^^ (-1)) 4) (rowS (g 15) (n 4) (nI 0) (nI (n 2)) (nI j)) 32)) 2 w1_7) 3 h1_9) 4 v1_8) 2 = w1_7 := by rw [va_up_ne _ _ (by decide), va_up_ne _ _ (by decide), va_up_self]
    have qz_3 : (va_up (va_up (va_up (va_up (va_up z 0 b1_6) 1 (mkf (mkS (mkf (z 1) (sha (n 1) (fun x => g 0 x &&& nI 255)) 32) (crM (g 0) (n 1) ^^^ (-1)) 4) (rowS (g 15) (n 4) (nI 0) (nI (n 2)) (nI j)) 32)) 2 w1_7) 3 h1_9) 4 v1_8) 3 = h1_9 := by rw [va_up_ne _ _ (by decide), va_up_self]
    have qz_4 : (va_up (va_up (va_up (va_up (va_up z 0 b1_6) 1 (mkf (mkS (mkf (z 1) (sha (n 1) (fun x => g 0 x &&& nI 255)) 32) (crM (g 0) (n 1) ^^^ (-1)) 4) (rowS (g 15) (n 4) (nI 0) (nI (n 2)) (nI j)) 32)) 2 w1_7) 3 h1_9) 4 v1_8) 4 = v1_8 := by rw [va_up_self]
    have hRz : RepM ca ad (va_up (va_up (va_up (va_up n 7 0) 1 0) 2 ((n 2) + 1)) 4 ((n 4) + 1)) (va_up (va_up (va_up (va_up (va_up (va_up (va_up (va_up g 1 (cpF (g 1) (g 0) (200 * n 2) (n 1))) 2 (upd (g 2) (n 2) (nI (n 1)))) 3 (upd (g 3) (n 2) (nI a))) 4 (wnt (g 4) (sha (n 1) (fun x => g 0 x &&& nI 255)) (crM (g 0) (n 1) ^^^ (-1)) (36 * n 2))) 11 (upd (g 11) (n 4) (nI 0))) 12 (upd (g 12) (n 4) (nI (n 2)))) 14 (upd (g 14) (n 4) (nI j))) 15 (rowB (g 15) (rowS (g 15) (n 4) (nI 0) (nI (n 2)) (nI j)) (n 4))) (va_up (va_up (va_up (va_up (va_up z 0 b1_6) 1 (mkf (mkS (mkf (z 1) (sha (n 1) (fun x => g 0 x &&& nI 255)) 32) (crM (g 0) (n 1) ^^^ (-1)) 4) (rowS (g 15) (n 4) (nI 0) (nI (n 2)) (nI j)) 32)) 2 w1_7) 3 h1_9) 4 v1_8) 44 tb f_4 := ⟨(by rw [qn_7, qn_0, qn_1, qn_2, qn_3, qn_4, qn_5, qg_13]; exact c_302),
          (by rw [qg_0]; exact c_303),
          (by rw [qg_1]; exact c_304),
          (by rw [qg_2]; exact c_305),
          (by rw [qg_3]; exact c_306),
          (by rw [qg_4]; exact c_307),
          (by rw [qg_5]; exact c_308),
          (by rw [qg_6]; exact c_309),
          (by rw [qg_7]; exact c_310),
          (by rw [qg_8]; exact c_311),
          (by rw [qg_9]; exact c_312),
          (by rw [qg_10]; exact c_313),
          (by rw [qg_11]; exact c_314),
          (by rw [qg_12]; exact c_315),
          (by rw [qg_14]; exact c_316),
          (by rw [qg_15]; exact c_317),
          (by rw [qg_16]; exact c_318),
          (by rw [qz_0]; exact c_319),
          (by rw [qz_1]; exact c_320),
          (by rw [qz_2]; exact c_321),
          (by rw [qz_3]; exact c_322),
          (by rw [qz_4]; exact c_323),
          c_324,
          c_325, (by first | omega | assumption)⟩
    exact x_iret hx hb hr hlocks hw ⟨rfl, va_up (va_up (va_up (va_up (va_up z 0 b1_6) 1 (mkf (mkS (mkf (z 1) (sha (n 1) (fun x => g 0 x &&& nI 255)) 32) (crM (g 0) (n 1) ^^^ (-1)) 4) (rowS (g 15) (n 4) (nI 0) (nI (n 2)) (nI j)) 32)) 2 w1_7) 3 h1_9) 4 v1_8, 44, hRz, (fun y hy => by rw [ef_4, va_up_ne _ _ (by omega), va_up_ne _ _ (by omega), va_up_ne _ _ (by omega), va_up_ne _ _ (by omega), va_up_ne _ _ (by omega), va_up_ne _ _ (by omega), va_up_ne _ _ (by omega), va_up_ne _ _ (by omega), va_up_ne _ _ (by omega), va_up_ne _ _ (by omega), ef_3, va_up_ne _ _ (by omega), ef_2, va_up_ne _ _ (by omega), ef_1, va_up_ne _ _ (by omega), va_up_ne _ _ (by omega), va_up_ne _ _ (by omega), va_up_ne _ _ (by omega), va_up_ne _ _ (by omega), va_up_ne _ _ (by omega), va_up_ne _ _ (by omega), va_up_ne _ _ (by omega), va_up_ne _ _ (by omega), va_up_ne _ _ (by omega)])⟩ dX6_file_166
  have P_108 : ∀ (n_108 : Nat) (b1 : Nat → Int32) (w1 : Nat → Int32) (v1 : Nat → Int32) (h1 : Nat → Int32) (k : Nat) (H : Heap) (locs : List Loc) (ls : Array Slot), n 1 + 1 ≤ k + n_108 → (k ≤ n 1) → xw D vwCl N ad B s.heap (va_up (va_up (va_up (va_up (va_up (va_up (va_up (va_up (va_up (va_up f 302 (.inr (7, mO ad 0 (n 0) (n 1) (n 2) (g 13 0) (n 3) (n 4) (n 5) (n 1)))) 319 (ai (ca 1) 320 b1)) 321 (ai (ca 0) 64 w1)) 323 (ai (ca 0) 8 v1)) 322 (ai (ca 0) 8 h1)) 320 (ai (ca 1) 36 (mkS (mkf (z 1) (sha (n 1) (fun x => g 0 x &&& nI 255)) 32) (crM (g 0) (n 1) ^^^ (-1)) 4))) 307 (ai (ca 1) 720 (wnt (g 4) (sha (n 1) (fun x => g 0 x &&& nI 255)) (crM (g 0) (n 1) ^^^ (-1)) (36 * n 2)))) 306 (ai (ca 0) 20 (upd (g 3) (n 2) (nI a)))) 305 (ai (ca 0) 20 (upd (g 2) (n 2) (nI (n 1))))) 304 (ai (ca 1) 4000 (cpF (g 1) (g 0) (200 * n 2) k))) H locs → lv_has ls 5 [(0, .ref (ad 302)), (1, .int (nI a)), (2, .int (nI j)), (3, .int (nI (n 2))), (4, .int (nI k))] → W p l e rmX6_file s m ([.ref (ad 302), .int (nI a), .int (nI j)] : List Value).toArray below meth c H locs 0 0 (MQ below (xQi (fun r u => nI (n 2) = r ∧ ∃ (z1 : Nat → Nat → Int32) (zn1 : Nat), RepM ca ad (va_up (va_up (va_up (va_up n 7 0) 1 0) 2 ((n 2) + 1)) 4 ((n 4) + 1)) (va_up (va_up (va_up (va_up (va_up (va_up (va_up (va_up g 1 (cpF (g 1) (g 0) (200 * n 2) (n 1))) 2 (upd (g 2) (n 2) (nI (n 1)))) 3 (upd (g 3) (n 2) (nI a))) 4 (wnt (g 4) (sha (n 1) (fun x => g 0 x &&& nI 255)) (crM (g 0) (n 1) ^^^ (-1)) (36 * n 2))) 11 (upd (g 11) (n 4) (nI 0))) 12 (upd (g 12) (n 4) (nI (n 2)))) 14 (upd (g 14) (n 4) (nI j))) 15 (rowB (g 15) (rowS (g 15) (n 4) (nI 0) (nI (n 2)) (nI j)) (n 4))) z1 zn1 tb u ∧ ∀ y, (y < 302 ∨ 326 ≤ y) → u y = f y) D N ad B) ([.ref (ad 302), .int (nI a), .int (nI j)] : List Value).toArray s 0 0 (xA B)) (F0 m 108 ls []) := by
    intro n_108
    induction n_108 with
    | zero =>
      intro b1 w1 v1 h1 k H locs ls hm_108 hk hw hl
      exact absurd hm_108 (by omega)
    | succ n_108 ih_108 =>
      intro b1 w1 v1 h1 k H locs ls hm_108 hk hw hl
      have c_302 := b_302
      have c_303 := b_303
      have c_304 := b_304
      have c_305 := b_305
      have c_306 := b_306
      have c_307 := b_307
      have c_308 := b_308
      have c_309 := b_309
      have c_310 := b_310
      have c_311 := b_311
      have c_312 := b_312
      have c_313 := b_313
      have c_314 := b_314
      have c_315 := b_315
      have c_316 := b_316
      have c_317 := b_317
      have c_318 := b_318
      have c_319 := b_319
      have c_320 := b_320
      have c_321 := b_321
      have c_322 := b_322
      have c_323 := b_323
      have c_324 := b_324
      have c_325 := b_325
      obtain ⟨f_10, ef_10⟩ : ∃ zq9, zq9 = va_up (va_up (va_up (va_up (va_up (va_up (va_up (va_up (va_up (va_up f 302 (.inr (7, mO ad 0 (n 0) (n 1) (n 2) (g 13 0) (n 3) (n 4) (n 5) (n 1)))) 319 (ai (ca 1) 320 b1)) 321 (ai (ca 0) 64 w1)) 323 (ai (ca 0) 8 v1)) 322 (ai (ca 0) 8 h1)) 320 (ai (ca 1) 36 (mkS (mkf (z 1) (sha (n 1) (fun x => g 0 x &&& nI 255)) 32) (crM (g 0) (n 1) ^^^ (-1)) 4))) 307 (ai (ca 1) 720 (wnt (g 4) (sha (n 1) (fun x => g 0 x &&& nI 255)) (crM (g 0) (n 1) ^^^ (-1)) (36 * n 2)))) 306 (ai (ca 0) 20 (upd (g 3) (n 2) (nI a)))) 305 (ai (ca 0) 20 (upd (g 2) (n 2) (nI (n 1))))) 304 (ai (ca 1) 4000 (cpF (g 1) (g 0) (200 * n 2) k)) := ⟨_, rfl⟩
      have hw : xw D vwCl N ad B s.heap f_10 H locs := by rw [ef_10]; exact hw
      have c_302 : f_10 302 = .inr (7, mO ad 0 (n 0) (n 1) (n 2) (g 13 0) (n 3) (n 4) (n 5) (n 1)) := by rw [ef_10, va_up_ne _ _ (by decide), va_up_ne _ _ (by decide), va_up_ne _ _ (by decide), va_up_ne _ _ (by decide), va_up_ne _ _ (by decide), va_up_ne _ _ (by decide), va_up_ne _ _ (by decide), va_up_ne _ _ (by decide), va_up_ne _ _ (by decide), va_up_self]
      have c_319 : f_10 319 = ai (ca 1) 320 b1 := by rw [ef_10, va_up_ne _ _ (by decide), va_up_ne _ _ (by decide), va_up_ne _ _ (by decide), va_up_ne _ _ (by decide), va_up_ne _ _ (by decide), va_up_ne _ _ (by decide), va_up_ne _ _ (by decide), va_up_ne _ _ (by decide), va_up_self]
      have c_321 : f_10 321 = ai (ca 0) 64 w1 := by rw [ef_10, va_up_ne _ _ (by decide), va_up_ne _ _ (by decide), va_up_ne _ _ (by decide), va_up_ne _ _ (by decide), va_up_ne _ _ (by decide), va_up_ne _ _ (by decide), va_up_ne _ _ (by decide), va_up_self]
      have c_323 : f_10 323 = ai (ca 0) 8 v1 := by rw [ef_10, va_up_ne _ _ (by decide), va_up_ne _ _ (by decide), va_up_ne _ _ (by decide), va_up_ne _ _ (by decide), va_up_ne _ _ (by decide), va_up_ne _ _ (by decide), va_up_self]
      have c_322 : f_10 322 = ai (ca 0) 8 h1 := by rw [ef_10, va_up_ne _ _ (by decide), va_up_ne _ _ (by decide), va_up_ne _ _ (by decide), va_up_ne _ _ (by decide), va_up_ne _ _ (by decide), va_up_self]
      have c_320 : f_10 320 = ai (ca 1) 36 (mkS (mkf (z 1) (sha (n 1) (fun x => g 0 x &&& nI 255)) 32) (crM (g 0) (n 1) ^^^ (-1)) 4) := by rw [ef_10, va_up_ne _ _ (by decide), va_up_ne _ _ (by decide), va_up_ne _ _ (by decide), va_up_ne _ _ (by decide), va_up_self]
      have c_307 : f_10 307 = ai (ca 1) 720 (wnt (g 4) (sha (n 1) (fun x => g 0 x &&& nI 255)) (crM (g 0) (n 1) ^^^ (-1)) (36 * n 2)) := by rw [ef_10, va_up_ne _ _ (by decide), va_up_ne _ _ (by decide), va_up_ne _ _ (by decide), va_up_self]
      have c_306 : f_10 306 = ai (ca 0) 20 (upd (g 3) (n 2) (nI a)) := by rw [ef_10, va_up_ne _ _ (by decide), va_up_ne _ _ (by decide), va_up_self]
      have c_305 : f_10 305 = ai (ca 0) 20 (upd (g 2) (n 2) (nI (n 1))) := by rw [ef_10, va_up_ne _ _ (by decide), va_up_self]
      have c_304 : f_10 304 = ai (ca 1) 4000 (cpF (g 1) (g 0) (200 * n 2) k) := by rw [ef_10, va_up_self]
      refine lv_iload hx hb dX6_file_108 (lv_at hl 4 rfl) ?_
      refine lv_aload_n hx hb dX6_file_110 rfl (lv_at hl 0 rfl) ?_
      refine x_get (ci := 7) (C := RX6) (T := TX6) (n := 32) (ref := RX6) hx hb hts hin_7 hown hK hw 302 (by omega) c_302 rfl 2 (by decide) hf_209 (fun _ h => h) rfl dX6_file_111 ?_
      refine n_icge (tgt := 143) hx hb dX6_file_114 (by decide) (by omega) (by omega) (fun hc_114 => ?_) (fun hc_114 => ?_)
      · have hw : xw D vwCl N ad B s.heap (va_up (va_up (va_up (va_up (va_up (va_up (va_up (va_up (va_up (va_up f 302 (.inr (7, mO ad 0 (n 0) (n 1) (n 2) (g 13 0) (n 3) (n 4) (n 5) (n 1)))) 319 (ai (ca 1) 320 b1)) 321 (ai (ca 0) 64 w1)) 323 (ai (ca 0) 8 v1)) 322 (ai (ca 0) 8 h1)) 320 (ai (ca 1) 36 (mkS (mkf (z 1) (sha (n 1) (fun x => g 0 x &&& nI 255)) 32) (crM (g 0) (n 1) ^^^ (-1)) 4))) 307 (ai (ca 1) 720 (wnt (g 4) (sha (n 1) (fun x => g 0 x &&& nI 255)) (crM (g 0) (n 1) ^^^ (-1)) (36 * n 2)))) 306 (ai (ca 0) 20 (upd (g 3) (n 2) (nI a)))) 305 (ai (ca 0) 20 (upd (g 2) (n 2) (nI (n 1))))) 304 (ai (ca 1) 4000 (cpF (g 1) (g 0) (200 * n 2) (n 1)))) H locs := by
          have ez : f_10 = va_up (va_up (va_up (va_up (va_up (va_up (va_up (va_up (va_up (va_up f 302 (.inr (7, mO ad 0 (n 0) (n 1) (n 2) (g 13 0) (n 3) (n 4) (n 5) (n 1)))) 319 (ai (ca 1) 320 b1)) 321 (ai (ca 0) 64 w1)) 323 (ai (ca 0) 8 v1)) 322 (ai (ca 0) 8 h1)) 320 (ai (ca 1) 36 (mkS (mkf (z 1) (sha (n 1) (fun x => g 0 x &&& nI 255)) 32) (crM (g 0) (n 1) ^^^ (-1)) 4))) 307 (ai (ca 1) 720 (wnt (g 4) (sha (n 1) (fun x => g 0 x &&& nI 255)) (crM (g 0) (n 1) ^^^ (-1)) (36 * n 2)))) 306 (ai (ca 0) 20 (upd (g 3) (n 2) (nI a)))) 305 (ai (ca 0) 20 (upd (g 2) (n 2) (nI (n 1))))) 304 (ai (ca 1) 4000 (cpF (g 1) (g 0) (200 * n 2) (n 1))) := by have ek : k = n 1 := (by omega); subst ek; simp only [ef_10]
          rw [← ez]; exact hw
        exact P_143 b1 w1 v1 h1 _ _ _  hw (lv_sub hl [0, 1, 2, 3] rfl)
      · refine lv_aload_n hx hb dX6_file_117 rfl (lv_at hl 0 rfl) ?_
        refine x_get (ci := 7) (C := RX6) (T := TX6) (n := 32) (ref := RX6) hx hb hts hin_7 hown hK hw 302 (by omega) c_302 rfl 5 (by decide) hf_13 (fun _ h => h) rfl dX6_file_118 ?_
        refine lv_sipush (v := nI 200) hx hb dX6_file_121 (by decide) ?_
        refine lv_iload_n hx hb dX6_file_124 rfl (lv_at hl 3 rfl) ?_
        refine n_imul hx hb dX6_file_125 ?_
        refine lv_iload hx hb dX6_file_126 (lv_at hl 4 rfl) ?_
        refine n_iadd hx hb dX6_file_128 ?_
        refine lv_aload_n hx hb dX6_file_129 rfl (lv_at hl 0 rfl) ?_
        refine x_get (ci := 7) (C := RX6) (T := TX6) (n := 32) (ref := RX6) hx hb hts hin_7 hown hK hw 302 (by omega) c_302 rfl 3 (by decide) hf_7 (fun _ h => h) rfl dX6_file_130 ?_
        refine lv_iload hx hb dX6_file_133 (lv_at hl 4 rfl) ?_
        have c_303 : f_10 303 = ai (ca 1) 200 (g 0) := by rw [ef_10, va_up_ne _ _ (by decide), va_up_ne _ _ (by decide), va_up_ne _ _ (by decide), va_up_ne _ _ (by decide), va_up_ne _ _ (by decide), va_up_ne _ _ (by decide), va_up_ne _ _ (by decide), va_up_ne _ _ (by decide), va_up_ne _ _ (by decide), va_up_ne _ _ (by decide)]; exact c_303
        refine x_bald (j := k) hx hb hK hw 303 1 (by omega) c_303 rfl rfl (by omega) (by decide) dX6_file_135 ?_
        refine x_bast (j := (200 * (n 2)) + k) (y := ((g 0) k).toInt8.toInt32) hx hb hK dd hw 304 1 (by omega) c_304 rfl rfl (by omega) (by decide) rfl dX6_file_136 (fun H locs hw => ?_)
        obtain ⟨f_11, ef_11⟩ : ∃ z, z = va_up f_10 304 (ai (ca 1) 4000 (upd (cpF (g 1) (g 0) (200 * n 2) k) ((200 * (n 2)) + k) (((g 0) k).toInt8.toInt32))) := ⟨_, rfl⟩
        have hw : xw D vwCl N ad B s.heap f_11 H locs := by rw [ef_11]; exact hw
        have c_304 : f_11 304 = ai (ca 1) 4000 (upd (cpF (g 1) (g 0) (200 * n 2) k) ((200 * (n 2)) + k) (((g 0) k).toInt8.toInt32)) := va_up_of ef_11
        refine lv_iinc (v := nI (k + 1)) (lv' := [(4, .int (nI (k + 1))), (0, .ref (ad 302)), (1, .int (nI a)), (2, .int (nI j)), (3, .int (nI (n 2)))]) hx hb dX6_file_137 hl (k := 4) rfl (by rw [show Int32.ofInt 1 = nI 1 from rfl]; exact nI_add _ _) (by decide) rfl (fun ls hl => ?_)
        refine lv_goto (tgt := 108) hx hb dX6_file_140 (by decide) ?_
        have hw : xw D vwCl N ad B s.heap (va_up (va_up (va_up (va_up (va_up (va_up (va_up (va_up (va_up (va_up f 302 (.inr (7, mO ad 0 (n 0) (n 1) (n 2) (g 13 0) (n 3) (n 4) (n 5) (n 1)))) 319 (ai (ca 1) 320 b1)) 321 (ai (ca 0) 64 w1)) 323 (ai (ca 0) 8 v1)) 322 (ai (ca 0) 8 h1)) 320 (ai (ca 1) 36 (mkS (mkf (z 1) (sha (n 1) (fun x => g 0 x &&& nI 255)) 32) (crM (g 0) (n 1) ^^^ (-1)) 4))) 307 (ai (ca 1) 720 (wnt (g 4) (sha (n 1) (fun x => g 0 x &&& nI 255)) (crM (g 0) (n 1) ^^^ (-1)) (36 * n 2)))) 306 (ai (ca 0) 20 (upd (g 3) (n 2) (nI a)))) 305 (ai (ca 0) 20 (upd (g 2) (n 2) (nI (n 1))))) 304 (ai (ca 1) 4000 (cpF (g 1) (g 0) (200 * n 2) (k + 1)))) H locs := by
          have ez : f_11 = va_up (va_up (va_up (va_up (va_up (va_up (va_up (va_up (va_up (va_up f 302 (.inr (7, mO ad 0 (n 0) (n 1) (n 2) (g 13 0) (n 3) (n 4) (n 5) (n 1)))) 319 (ai (ca 1) 320 b1)) 321 (ai (ca 0) 64 w1)) 323 (ai (ca 0) 8 v1)) 322 (ai (ca 0) 8 h1)) 320 (ai (ca 1) 36 (mkS (mkf (z 1) (sha (n 1) (fun x => g 0 x &&& nI 255)) 32) (crM (g 0) (n 1) ^^^ (-1)) 4))) 307 (ai (ca 1) 720 (wnt (g 4) (sha (n 1) (fun x => g 0 x &&& nI 255)) (crM (g 0) (n 1) ^^^ (-1)) (36 * n 2)))) 306 (ai (ca 0) 20 (upd (g 3) (n 2) (nI a)))) 305 (ai (ca 0) 20 (upd (g 2) (n 2) (nI (n 1))))) 304 (ai (ca 1) 4000 (cpF (g 1) (g 0) (200 * n 2) (k + 1))) := by simp only [ef_11, ef_10, up_aa, cpF_s]
          rw [← ez]; exact hw
        exact ih_108 b1 w1 v1 h1 (k + 1) _ _ _ (by omega) (by omega) hw (lv_sub hl [1, 2, 3, 4, 0] rfl)
  have P_88 : ∀ (b1 : Nat → Int32) (w1 : Nat → Int32) (v1 : Nat → Int32) (h1 : Nat → Int32) (H : Heap) (locs : List Loc) (ls : Array Slot), xw D vwCl N ad B s.heap (va_up (va_up (va_up (va_up (va_up (va_up (va_up f 302 (.inr (7, mO ad 0 (n 0) (n 1) (n 2) (g 13 0) (n 3) (n 4) (n 5) (n 1)))) 319 (ai (ca 1) 320 b1)) 321 (ai (ca 0) 64 w1)) 323 (ai (ca 0) 8 v1)) 322 (ai (ca 0) 8 h1)) 320 (ai (ca 1) 36 (mkS (mkf (z 1) (sha (n 1) (fun x => g 0 x &&& nI 255)) 32) (crM (g 0) (n 1) ^^^ (-1)) 4))) 307 (ai (ca 1) 720 (wnt (g 4) (sha (n 1) (fun x => g 0 x &&& nI 255)) (crM (g 0) (n 1) ^^^ (-1)) (36 * n 2)))) H locs → lv_has ls 5 [(0, .ref (ad 302)), (1, .int (nI a)), (2, .int (nI j)), (3, .int (nI (n 2)))] → W p l e rmX6_file s m ([.ref (ad 302), .int (nI a), .int (nI j)] : List Value).toArray below meth c H locs 0 0 (MQ below (xQi (fun r u => nI (n 2) = r ∧ ∃ (z1 : Nat → Nat → Int32) (zn1 : Nat), RepM ca ad (va_up (va_up (va_up (va_up n 7 0) 1 0) 2 ((n 2) + 1)) 4 ((n 4) + 1)) (va_up (va_up (va_up (va_up (va_up (va_up (va_up (va_up g 1 (cpF (g 1) (g 0) (200 * n 2) (n 1))) 2 (upd (g 2) (n 2) (nI (n 1)))) 3 (upd (g 3) (n 2) (nI a))) 4 (wnt (g 4) (sha (n 1) (fun x => g 0 x &&& nI 255)) (crM (g 0) (n 1) ^^^ (-1)) (36 * n 2))) 11 (upd (g 11) (n 4) (nI 0))) 12 (upd (g 12) (n 4) (nI (n 2)))) 14 (upd (g 14) (n 4) (nI j))) 15 (rowB (g 15) (rowS (g 15) (n 4) (nI 0) (nI (n 2)) (nI j)) (n 4))) z1 zn1 tb u ∧ ∀ y, (y < 302 ∨ 326 ≤ y) → u y = f y) D N ad B) ([.ref (ad 302), .int (nI a), .int (nI j)] : List Value).toArray s 0 0 (xA B)) (F0 m 88 ls []) := by
    intro b1 w1 v1 h1 H locs ls hw hl
    have c_302 := b_302
    have c_303 := b_303
    have c_304 := b_304
    have c_305 := b_305
    have c_306 := b_306
    have c_307 := b_307
    have c_308 := b_308
    have c_309 := b_309
    have c_310 := b_310
    have c_311 := b_311
    have c_312 := b_312
    have c_313 := b_313
    have c_314 := b_314
    have c_315 := b_315
    have c_316 := b_316
    have c_317 := b_317
    have c_318 := b_318
    have c_319 := b_319
    have c_320 := b_320
    have c_321 := b_321
    have c_322 := b_322
    have c_323 := b_323
    have c_324 := b_324
    have c_325 := b_325
    obtain ⟨f_12, ef_12⟩ : ∃ zq9, zq9 = va_up (va_up (va_up (va_up (va_up (va_up (va_up f 302 (.inr (7, mO ad 0 (n 0) (n 1) (n 2) (g 13 0) (n 3) (n 4) (n 5) (n 1)))) 319 (ai (ca 1) 320 b1)) 321 (ai (ca 0) 64 w1)) 323 (ai (ca 0) 8 v1)) 322 (ai (ca 0) 8 h1)) 320 (ai (ca 1) 36 (mkS (mkf (z 1) (sha (n 1) (fun x => g 0 x &&& nI 255)) 32) (crM (g 0) (n 1) ^^^ (-1)) 4))) 307 (ai (ca 1) 720 (wnt (g 4) (sha (n 1) (fun x => g 0 x &&& nI 255)) (crM (g 0) (n 1) ^^^ (-1)) (36 * n 2))) := ⟨_, rfl⟩
    have hw : xw D vwCl N ad B s.heap f_12 H locs := by rw [ef_12]; exact hw
    have c_302 : f_12 302 = .inr (7, mO ad 0 (n 0) (n 1) (n 2) (g 13 0) (n 3) (n 4) (n 5) (n 1)) := by rw [ef_12, va_up_ne _ _ (by decide), va_up_ne _ _ (by decide), va_up_ne _ _ (by decide), va_up_ne _ _ (by decide), va_up_ne _ _ (by decide), va_up_ne _ _ (by decide), va_up_self]
    have c_319 : f_12 319 = ai (ca 1) 320 b1 := by rw [ef_12, va_up_ne _ _ (by decide), va_up_ne _ _ (by decide), va_up_ne _ _ (by decide), va_up_ne _ _ (by decide), va_up_ne _ _ (by decide), va_up_self]
    have c_321 : f_12 321 = ai (ca 0) 64 w1 := by rw [ef_12, va_up_ne _ _ (by decide), va_up_ne _ _ (by decide), va_up_ne _ _ (by decide), va_up_ne _ _ (by decide), va_up_self]
    have c_323 : f_12 323 = ai (ca 0) 8 v1 := by rw [ef_12, va_up_ne _ _ (by decide), va_up_ne _ _ (by decide), va_up_ne _ _ (by decide), va_up_self]
    have c_322 : f_12 322 = ai (ca 0) 8 h1 := by rw [ef_12, va_up_ne _ _ (by decide), va_up_ne _ _ (by decide), va_up_self]
    have c_320 : f_12 320 = ai (ca 1) 36 (mkS (mkf (z 1) (sha (n 1) (fun x => g 0 x &&& nI 255)) 32) (crM (g 0) (n 1) ^^^ (-1)) 4) := by rw [ef_12, va_up_ne _ _ (by decide), va_up_self]
    have c_307 : f_12 307 = ai (ca 1) 720 (wnt (g 4) (sha (n 1) (fun x => g 0 x &&& nI 255)) (crM (g 0) (n 1) ^^^ (-1)) (36 * n 2)) := by rw [ef_12, va_up_self]
    refine lv_aload_n hx hb dX6_file_88 rfl (lv_at hl 0 rfl) ?_
    refine x_get (ci := 7) (C := RX6) (T := TX6) (n := 32) (ref := RX6) hx hb hts hin_7 hown hK hw 302 (by omega) c_302 rfl 7 (by decide) hf_20 (fun _ h => h) rfl dX6_file_89 ?_
    refine lv_iload_n hx hb dX6_file_92 rfl (lv_at hl 3 rfl) ?_
    refine lv_iload_n hx hb dX6_file_93 rfl (lv_at hl 1 rfl) ?_
    have c_306 : f_12 306 = ai (ca 0) 20 (g 3) := by rw [ef_12, va_up_ne _ _ (by decide), va_up_ne _ _ (by decide), va_up_ne _ _ (by decide), va_up_ne _ _ (by decide), va_up_ne _ _ (by decide), va_up_ne _ _ (by decide), va_up_ne _ _ (by decide)]; exact c_306
    refine x_iast (j := n 2) hx hb hK dd hw 306 0 (by omega) c_306 rfl rfl (by omega) (by decide) dX6_file_94 (fun H locs hw => ?_)
    obtain ⟨f_13, ef_13⟩ : ∃ z, z = va_up f_12 306 (ai (ca 0) 20 (upd (g 3) (n 2) (nI a))) := ⟨_, rfl⟩
    have hw : xw D vwCl N ad B s.heap f_13 H locs := by rw [ef_13]; exact hw
    have c_306 : f_13 306 = ai (ca 0) 20 (upd (g 3) (n 2) (nI a)) := va_up_of ef_13
    refine lv_aload_n hx hb dX6_file_95 rfl (lv_at hl 0 rfl) ?_
    have c_302 : f_13 302 = .inr (7, mO ad 0 (n 0) (n 1) (n 2) (g 13 0) (n 3) (n 4) (n 5) (n 1)) := by rw [ef_13, va_up_ne _ _ (by decide)]; exact c_302
    refine x_get (ci := 7) (C := RX6) (T := TX6) (n := 32) (ref := RX6) hx hb hts hin_7 hown hK hw 302 (by omega) c_302 rfl 6 (by decide) hf_16 (fun _ h => h) rfl dX6_file_96 ?_
    refine lv_iload_n hx hb dX6_file_99 rfl (lv_at hl 3 rfl) ?_
    refine lv_aload_n hx hb dX6_file_100 rfl (lv_at hl 0 rfl) ?_
    refine x_get (ci := 7) (C := RX6) (T := TX6) (n := 32) (ref := RX6) hx hb hts hin_7 hown hK hw 302 (by omega) c_302 rfl 2 (by decide) hf_209 (fun _ h => h) rfl dX6_file_101 ?_
    have c_305 : f_13 305 = ai (ca 0) 20 (g 2) := by rw [ef_13, va_up_ne _ _ (by decide), ef_12, va_up_ne _ _ (by decide), va_up_ne _ _ (by decide), va_up_ne _ _ (by decide), va_up_ne _ _ (by decide), va_up_ne _ _ (by decide), va_up_ne _ _ (by decide), va_up_ne _ _ (by decide)]; exact c_305
    refine x_iast (j := n 2) hx hb hK dd hw 305 0 (by omega) c_305 rfl rfl (by omega) (by decide) dX6_file_104 (fun H locs hw => ?_)
    obtain ⟨f_14, ef_14⟩ : ∃ z, z = va_up f_13 305 (ai (ca 0) 20 (upd (g 2) (n 2) (nI (n 1)))) := ⟨_, rfl⟩
    have hw : xw D vwCl N ad B s.heap f_14 H locs := by rw [ef_14]; exact hw
    have c_305 : f_14 305 = ai (ca 0) 20 (upd (g 2) (n 2) (nI (n 1))) := va_up_of ef_14
    refine lv_iconst (v := nI 0) hx hb dX6_file_105 (by decide) ?_
    refine lv_istore (lv' := [(4, .int (nI 0)), (0, .ref (ad 302)), (1, .int (nI a)), (2, .int (nI j)), (3, .int (nI (n 2)))]) hx hb dX6_file_106 hl (by decide) rfl (fun ls hl => ?_)
    have hw : xw D vwCl N ad B s.heap (va_up (va_up (va_up (va_up (va_up (va_up (va_up (va_up (va_up (va_up f 302 (.inr (7, mO ad 0 (n 0) (n 1) (n 2) (g 13 0) (n 3) (n 4) (n 5) (n 1)))) 319 (ai (ca 1) 320 b1)) 321 (ai (ca 0) 64 w1)) 323 (ai (ca 0) 8 v1)) 322 (ai (ca 0) 8 h1)) 320 (ai (ca 1) 36 (mkS (mkf (z 1) (sha (n 1) (fun x => g 0 x &&& nI 255)) 32) (crM (g 0) (n 1) ^^^ (-1)) 4))) 307 (ai (ca 1) 720 (wnt (g 4) (sha (n 1) (fun x => g 0 x &&& nI 255)) (crM (g 0) (n 1) ^^^ (-1)) (36 * n 2)))) 306 (ai (ca 0) 20 (upd (g 3) (n 2) (nI a)))) 305 (ai (ca 0) 20 (upd (g 2) (n 2) (nI (n 1))))) 304 (ai (ca 1) 4000 (cpF (g 1) (g 0) (200 * n 2) 0))) H locs := by
      have ez : f_14 = va_up (va_up (va_up (va_up (va_up (va_up (va_up (va_up (va_up (va_up f 302 (.inr (7, mO ad 0 (n 0) (n 1) (n 2) (g 13 0) (n 3) (n 4) (n 5) (n 1)))) 319 (ai (ca 1) 320 b1)) 321 (ai (ca 0) 64 w1)) 323 (ai (ca 0) 8 v1)) 322 (ai (ca 0) 8 h1)) 320 (ai (ca 1) 36 (mkS (mkf (z 1) (sha (n 1) (fun x => g 0 x &&& nI 255)) 32) (crM (g 0) (n 1) ^^^ (-1)) 4))) 307 (ai (ca 1) 720 (wnt (g 4) (sha (n 1) (fun x => g 0 x &&& nI 255)) (crM (g 0) (n 1) ^^^ (-1)) (36 * n 2)))) 306 (ai (ca 0) 20 (upd (g 3) (n 2) (nI a)))) 305 (ai (ca 0) 20 (upd (g 2) (n 2) (nI (n 1))))) 304 (ai (ca 1) 4000 (cpF (g 1) (g 0) (200 * n 2) 0)) := by rw [cpF_0]; simp only [ef_14, ef_13, ef_12]; exact (up_noop (by simp only [va_up]; exact b_304)).symm
      rw [← ez]; exact hw
    exact P_108 ((n 1 + 1)) b1 w1 v1 h1 0 _ _ _ (by omega) (by omega) hw (lv_sub hl [1, 2, 3, 4, 0] rfl)
  have P_56 : ∀ (n_56 : Nat) (b1 : Nat → Int32) (w1 : Nat → Int32) (v1 : Nat → Int32) (h1 : Nat → Int32) (k : Nat) (H : Heap) (locs : List Loc) (ls : Array Slot), 36 + 1 ≤ k + n_56 → (k ≤ 36) → xw D vwCl N ad B s.heap (va_up (va_up (va_up (va_up (va_up (va_up (va_up f 302 (.inr (7, mO ad 0 (n 0) (n 1) (n 2) (g 13 0) (n 3) (n 4) (n 5) (n 1)))) 319 (ai (ca 1) 320 b1)) 321 (ai (ca 0) 64 w1)) 323 (ai (ca 0) 8 v1)) 322 (ai (ca 0) 8 h1)) 320 (ai (ca 1) 36 (mkS (mkf (z 1) (sha (n 1) (fun x => g 0 x &&& nI 255)) 32) (crM (g 0) (n 1) ^^^ (-1)) 4))) 307 (ai (ca 1) 720 (cpF (g 4) (mkS (mkf (z 1) (sha (n 1) (fun x => g 0 x &&& nI 255)) 32) (crM (g 0) (n 1) ^^^ (-1)) 4) (36 * n 2) k))) H locs → lv_has ls 5 [(0, .ref (ad 302)), (1, .int (nI a)), (2, .int (nI j)), (3, .int (nI (n 2))), (4, .int (nI k))] → W p l e rmX6_file s m ([.ref (ad 302), .int (nI a), .int (nI j)] : List Value).toArray below meth c H locs 0 0 (MQ below (xQi (fun r u => nI (n 2) = r ∧ ∃ (z1 : Nat → Nat → Int32) (zn1 : Nat), RepM ca ad (va_up (va_up (va_up (va_up n 7 0) 1 0) 2 ((n 2) + 1)) 4 ((n 4) + 1)) (va_up (va_up (va_up (va_up (va_up (va_up (va_up (va_up g 1 (cpF (g 1) (g 0) (200 * n 2) (n 1))) 2 (upd (g 2) (n 2) (nI (n 1)))) 3 (upd (g 3) (n 2) (nI a))) 4 (wnt (g 4) (sha (n 1) (fun x => g 0 x &&& nI 255)) (crM (g 0) (n 1) ^^^ (-1)) (36 * n 2))) 11 (upd (g 11) (n 4) (nI 0))) 12 (upd (g 12) (n 4) (nI (n 2)))) 14 (upd (g 14) (n 4) (nI j))) 15 (rowB (g 15) (rowS (g 15) (n 4) (nI 0) (nI (n 2)) (nI j)) (n 4))) z1 zn1 tb u ∧ ∀ y, (y < 302 ∨ 326 ≤ y) → u y = f y) D N ad B) ([.ref (ad 302), .int (nI a), .int (nI j)] : List Value).toArray s 0 0 (xA B)) (F0 m 56 ls []) := by
    intro n_56
    induction n_56 with
    | zero =>
      intro b1 w1 v1 h1 k H locs ls hm_56 hk hw hl
      exact absurd hm_56 (by omega)
    | succ n_56 ih_56 =>
      intro b1 w1 v1 h1 k H locs ls hm_56 hk hw hl
      have c_302 := b_302
      have c_303 := b_303
      have c_304 := b_304
      have c_305 := b_305
      have c_306 := b_306
      have c_307 := b_307
      have c_308 := b_308
      have c_309 := b_309
      have c_310 := b_310
      have c_311 := b_311
      have c_312 := b_312
      have c_313 := b_313
      have c_314 := b_314
      have c_315 := b_315
      have c_316 := b_316
      have c_317 := b_317
      have c_318 := b_318
      have c_319 := b_319
      have c_320 := b_320
      have c_321 := b_321
      have c_322 := b_322
      have c_323 := b_323
      have c_324 := b_324
      have c_325 := b_325
      obtain ⟨f_15, ef_15⟩ : ∃ zq9, zq9 = va_up (va_up (va_up (va_up (va_up (va_up (va_up f 302 (.inr (7, mO ad 0 (n 0) (n 1) (n 2) (g 13 0) (n 3) (n 4) (n 5) (n 1)))) 319 (ai (ca 1) 320 b1)) 321 (ai (ca 0) 64 w1)) 323 (ai (ca 0) 8 v1)) 322 (ai (ca 0) 8 h1)) 320 (ai (ca 1) 36 (mkS (mkf (z 1) (sha (n 1) (fun x => g 0 x &&& nI 255)) 32) (crM (g 0) (n 1) ^^^ (-1)) 4))) 307 (ai (ca 1) 720 (cpF (g 4) (mkS (mkf (z 1) (sha (n 1) (fun x => g 0 x &&& nI 255)) 32) (crM (g 0) (n 1) ^^^ (-1)) 4) (36 * n 2) k)) := ⟨_, rfl⟩
      have hw : xw D vwCl N ad B s.heap f_15 H locs := by rw [ef_15]; exact hw
      have c_302 : f_15 302 = .inr (7, mO ad 0 (n 0) (n 1) (n 2) (g 13 0) (n 3) (n 4) (n 5) (n 1)) := by rw [ef_15, va_up_ne _ _ (by decide), va_up_ne _ _ (by decide), va_up_ne _ _ (by decide), va_up_ne _ _ (by decide), va_up_ne _ _ (by decide), va_up_ne _ _ (by decide), va_up_self]
      have c_319 : f_15 319 = ai (ca 1) 320 b1 := by rw [ef_15, va_up_ne _ _ (by decide), va_up_ne _ _ (by decide), va_up_ne _ _ (by decide), va_up_ne _ _ (by decide), va_up_ne _ _ (by decide), va_up_self]
      have c_321 : f_15 321 = ai (ca 0) 64 w1 := by rw [ef_15, va_up_ne _ _ (by decide), va_up_ne _ _ (by decide), va_up_ne _ _ (by decide), va_up_ne _ _ (by decide), va_up_self]
      have c_323 : f_15 323 = ai (ca 0) 8 v1 := by rw [ef_15, va_up_ne _ _ (by decide), va_up_ne _ _ (by decide), va_up_ne _ _ (by decide), va_up_self]
      have c_322 : f_15 322 = ai (ca 0) 8 h1 := by rw [ef_15, va_up_ne _ _ (by decide), va_up_ne _ _ (by decide), va_up_self]
      have c_320 : f_15 320 = ai (ca 1) 36 (mkS (mkf (z 1) (sha (n 1) (fun x => g 0 x &&& nI 255)) 32) (crM (g 0) (n 1) ^^^ (-1)) 4) := by rw [ef_15, va_up_ne _ _ (by decide), va_up_self]
      have c_307 : f_15 307 = ai (ca 1) 720 (cpF (g 4) (mkS (mkf (z 1) (sha (n 1) (fun x => g 0 x &&& nI 255)) 32) (crM (g 0) (n 1) ^^^ (-1)) 4) (36 * n 2) k) := by rw [ef_15, va_up_self]
      refine lv_iload hx hb dX6_file_56 (lv_at hl 4 rfl) ?_
      refine lv_bipush (v := nI 36) hx hb dX6_file_58 (by decide) ?_
      refine n_icge (tgt := 88) hx hb dX6_file_60 (by decide) (by omega) (by omega) (fun hc_60 => ?_) (fun hc_60 => ?_)
      · have hw : xw D vwCl N ad B s.heap (va_up (va_up (va_up (va_up (va_up (va_up (va_up f 302 (.inr (7, mO ad 0 (n 0) (n 1) (n 2) (g 13 0) (n 3) (n 4) (n 5) (n 1)))) 319 (ai (ca 1) 320 b1)) 321 (ai (ca 0) 64 w1)) 323 (ai (ca 0) 8 v1)) 322 (ai (ca 0) 8 h1)) 320 (ai (ca 1) 36 (mkS (mkf (z 1) (sha (n 1) (fun x => g 0 x &&& nI 255)) 32) (crM (g 0) (n 1) ^^^ (-1)) 4))) 307 (ai (ca 1) 720 (wnt (g 4) (sha (n 1) (fun x => g 0 x &&& nI 255)) (crM (g 0) (n 1) ^^^ (-1)) (36 * n 2)))) H locs := by
          have ez : f_15 = va_up (va_up (va_up (va_up (va_up (va_up (va_up f 302 (.inr (7, mO ad 0 (n 0) (n 1) (n 2) (g 13 0) (n 3) (n 4) (n 5) (n 1)))) 319 (ai (ca 1) 320 b1)) 321 (ai (ca 0) 64 w1)) 323 (ai (ca 0) 8 v1)) 322 (ai (ca 0) 8 h1)) 320 (ai (ca 1) 36 (mkS (mkf (z 1) (sha (n 1) (fun x => g 0 x &&& nI 255)) 32) (crM (g 0) (n 1) ^^^ (-1)) 4))) 307 (ai (ca 1) 720 (wnt (g 4) (sha (n 1) (fun x => g 0 x &&& nI 255)) (crM (g 0) (n 1) ^^^ (-1)) (36 * n 2))) := by have ek : k = 36 := (by omega); subst ek; rw [← cpF_wnt (g 4) (z 1)]; simp only [ef_15]
          rw [← ez]; exact hw
        exact P_88 b1 w1 v1 h1 _ _ _  hw (lv_sub hl [0, 1, 2, 3] rfl)
      · refine lv_aload_n hx hb dX6_file_63 rfl (lv_at hl 0 rfl) ?_
        refine x_get (ci := 7) (C := RX6) (T := TX6) (n := 32) (ref := RX6) hx hb hts hin_7 hown hK hw 302 (by omega) c_302 rfl 8 (by decide) hf_23 (fun _ h => h) rfl dX6_file_64 ?_
        refine lv_bipush (v := nI 36) hx hb dX6_file_67 (by decide) ?_
        refine lv_iload_n hx hb dX6_file_69 rfl (lv_at hl 3 rfl) ?_
        refine n_imul hx hb dX6_file_70 ?_
        refine lv_iload hx hb dX6_file_71 (lv_at hl 4 rfl) ?_
        refine n_iadd hx hb dX6_file_73 ?_
        refine lv_aload_n hx hb dX6_file_74 rfl (lv_at hl 0 rfl) ?_
        refine x_get (ci := 7) (C := RX6) (T := TX6) (n := 32) (ref := RX6) hx hb hts hin_7 hown hK hw 302 (by omega) c_302 rfl 26 (by decide) hf_67 (fun _ h => h) rfl dX6_file_75 ?_
        refine lv_iload hx hb dX6_file_78 (lv_at hl 4 rfl) ?_
        refine x_bald (j := k) hx hb hK hw 320 1 (by omega) c_320 rfl rfl (by omega) (by decide) dX6_file_80 ?_
        refine x_bast (j := (36 * (n 2)) + k) (y := ((mkS (mkf (z 1) (sha (n 1) (fun x => g 0 x &&& nI 255)) 32) (crM (g 0) (n 1) ^^^ (-1)) 4) k).toInt8.toInt32) hx hb hK dd hw 307 1 (by omega) c_307 rfl rfl (by omega) (by decide) rfl dX6_file_81 (fun H locs hw => ?_)
        obtain ⟨f_16, ef_16⟩ : ∃ zq9, zq9 = va_up f_15 307 (ai (ca 1) 720 (upd (cpF (g 4) (mkS (mkf (z 1) (sha (n 1) (fun x => g 0 x &&& nI 255)) 32) (crM (g 0) (n 1) ^^^ (-1)) 4) (36 * n 2) k) ((36 * (n 2)) + k) (((mkS (mkf (z 1) (sha (n 1) (fun x => g 0 x &&& nI 255)) 32) (crM (g 0) (n 1) ^^^ (-1)) 4) k).toInt8.toInt32))) := ⟨_, rfl⟩
        have hw : xw D vwCl N ad B s.heap f_16 H locs := by rw [ef_16]; exact hw
        have c_307 : f_16 307 = ai (ca 1) 720 (upd (cpF (g 4) (mkS (mkf (z 1) (sha (n 1) (fun x => g 0 x &&& nI 255)) 32) (crM (g 0) (n 1) ^^^ (-1)) 4) (36 * n 2) k) ((36 * (n 2)) + k) (((mkS (mkf (z 1) (sha (n 1) (fun x => g 0 x &&& nI 255)) 32) (crM (g 0) (n 1) ^^^ (-1)) 4) k).toInt8.toInt32)) := va_up_of ef_16
        refine lv_iinc (v := nI (k + 1)) (lv' := [(4, .int (nI (k + 1))), (0, .ref (ad 302)), (1, .int (nI a)), (2, .int (nI j)), (3, .int (nI (n 2)))]) hx hb dX6_file_82 hl (k := 4) rfl (by rw [show Int32.ofInt 1 = nI 1 from rfl]; exact nI_add _ _) (by decide) rfl (fun ls hl => ?_)
        refine lv_goto (tgt := 56) hx hb dX6_file_85 (by decide) ?_
        have hw : xw D vwCl N ad B s.heap (va_up (va_up (va_up (va_up (va_up (va_up (va_up f 302 (.inr (7, mO ad 0 (n 0) (n 1) (n 2) (g 13 0) (n 3) (n 4) (n 5) (n 1)))) 319 (ai (ca 1) 320 b1)) 321 (ai (ca 0) 64 w1)) 323 (ai (ca 0) 8 v1)) 322 (ai (ca 0) 8 h1)) 320 (ai (ca 1) 36 (mkS (mkf (z 1) (sha (n 1) (fun x => g 0 x &&& nI 255)) 32) (crM (g 0) (n 1) ^^^ (-1)) 4))) 307 (ai (ca 1) 720 (cpF (g 4) (mkS (mkf (z 1) (sha (n 1) (fun x => g 0 x &&& nI 255)) 32) (crM (g 0) (n 1) ^^^ (-1)) 4) (36 * n 2) (k + 1)))) H locs := by
          have ez : f_16 = va_up (va_up (va_up (va_up (va_up (va_up (va_up f 302 (.inr (7, mO ad 0 (n 0) (n 1) (n 2) (g 13 0) (n 3) (n 4) (n 5) (n 1)))) 319 (ai (ca 1) 320 b1)) 321 (ai (ca 0) 64 w1)) 323 (ai (ca 0) 8 v1)) 322 (ai (ca 0) 8 h1)) 320 (ai (ca 1) 36 (mkS (mkf (z 1) (sha (n 1) (fun x => g 0 x &&& nI 255)) 32) (crM (g 0) (n 1) ^^^ (-1)) 4))) 307 (ai (ca 1) 720 (cpF (g 4) (mkS (mkf (z 1) (sha (n 1) (fun x => g 0 x &&& nI 255)) 32) (crM (g 0) (n 1) ^^^ (-1)) 4) (36 * n 2) (k + 1))) := by simp only [ef_16, ef_15, up_aa, cpF_s]
          rw [← ez]; exact hw
        exact ih_56 b1 w1 v1 h1 (k + 1) _ _ _ (by omega) (by omega) hw (lv_sub hl [1, 2, 3, 4, 0] rfl)
  refine lv_aload_n hx hb dX6_file_0 rfl (lv_at hl 0 rfl) ?_
  refine lv_iconst (v := nI 0) hx hb dX6_file_1 (by decide) ?_
  refine x_put (ci := 7) (C := RX6) (T := TX6) (n := 32) (ref := RX6) (fs' := mO ad 0 (n 0) (n 1) (n 2) (g 13 0) (n 3) (n 4) (n 5) zn) hx hb hts hin_7 tyX6 tyX6_ok nmX6 hown hK dd hw 302 (by omega) c_302 rfl 0 (by decide) hf_160 (fun _ h => h) rfl rfl rfl (Nat.le_of_ble_eq_true rfl) rfl dX6_file_2 (fun H locs hw => ?_)
  obtain ⟨f_17, ef_17⟩ : ∃ z, z = va_up f 302 (.inr (7, mO ad 0 (n 0) (n 1) (n 2) (g 13 0) (n 3) (n 4) (n 5) zn)) := ⟨_, rfl⟩
  have hw : xw D vwCl N ad B s.heap f_17 H locs := by rw [ef_17]; exact hw
  have c_302 : f_17 302 = .inr (7, mO ad 0 (n 0) (n 1) (n 2) (g 13 0) (n 3) (n 4) (n 5) zn) := va_up_of ef_17
  refine lv_iload_n hx hb dX6_file_5 rfl (lv_at hl 1 rfl) ?_
  refine lv_iconst (v := nI 1) hx hb dX6_file_6 (by decide) ?_
  refine lv_iconst (v := nI 3) hx hb dX6_file_7 (by decide) ?_
  refine x_Si (As := [.int (nI a), .int (nI 1), .int (nI 3)]) (rest := []) ⟨hx, hb, hml, hown, hts⟩ (k_X6_in_yes l D ca N ad B tR tK f_17 dd a 1 3   (by omega) (by omega) (by omega)) (va_cwS 3 hts gX6_file_X6_in rfl rfl rfl (by decide +kernel) ⟨Nat.le_of_ble_eq_true rfl, Nat.le_of_ble_eq_true rfl⟩) hK hE hB hw rfl rfl hl.1 (Nat.le_of_ble_eq_true rfl) ⟨Nat.zero_le _, Nat.zero_le _⟩ dX6_file_8 (fun r_19 f_18 H locs hp hw => ?_)
  obtain ⟨er, eu⟩ := hp
  rw [← er]
  rw [← eu] at hw
  refine lv_if_eq (tgt := 21) hx hb dX6_file_11 (by decide) (fun h => absurd h (by decide)) (fun _ => ?_)
  refine lv_iload_n hx hb dX6_file_14 rfl (lv_at hl 2 rfl) ?_
  refine x_Si (As := [.int (nI j)]) (rest := []) ⟨hx, hb, hml, hown, hts⟩ (k_X6_isDay_yes l D ca N ad B tR tK f_17 dd j   (by omega)) (va_cwS 1 hts gX6_file_X6_isDay rfl rfl rfl (by decide +kernel) ⟨Nat.le_of_ble_eq_true rfl, Nat.le_of_ble_eq_true rfl⟩) hK hE hB hw rfl rfl hl.1 (Nat.le_of_ble_eq_true rfl) ⟨Nat.zero_le _, Nat.zero_le _⟩ dX6_file_15 (fun r_21 f_20 H locs hp hw => ?_)
  obtain ⟨er, eu⟩ := hp
  rw [← er]
  rw [← eu] at hw
  refine lv_if_ne (tgt := 24) hx hb dX6_file_18 (by decide) (fun _ => ?_) (fun h => absurd h (by decide))
  refine lv_aload_n hx hb dX6_file_24 rfl (lv_at hl 0 rfl) ?_
  refine x_get (ci := 7) (C := RX6) (T := TX6) (n := 32) (ref := RX6) hx hb hts hin_7 hown hK hw 302 (by omega) c_302 rfl 4 (by decide) hf_163 (fun _ h => h) rfl dX6_file_25 ?_
  refine lv_bipush (v := nI 20) hx hb dX6_file_28 (by decide) ?_
  refine n_icne (tgt := 36) hx hb dX6_file_30 (by decide) (by omega) (by omega) (fun hc_30 => ?_) (fun hc_30 => ?_)
  · refine lv_aload_n hx hb dX6_file_36 rfl (lv_at hl 0 rfl) ?_
    refine x_get (ci := 7) (C := RX6) (T := TX6) (n := 32) (ref := RX6) hx hb hts hin_7 hown hK hw 302 (by omega) c_302 rfl 4 (by decide) hf_163 (fun _ h => h) rfl dX6_file_37 ?_
    refine lv_istore_n (lv' := [(3, .int (nI (n 2))), (0, .ref (ad 302)), (1, .int (nI a)), (2, .int (nI j))]) hx hb dX6_file_40 rfl hl (by decide) rfl (fun ls hl => ?_)
    refine lv_aload_n hx hb dX6_file_41 rfl (lv_at hl 1 rfl) ?_
    have c_303 : f_17 303 = ai (ca 1) 200 (g 0) := by rw [ef_17, va_up_ne _ _ (by decide)]; exact c_303
    have c_319 : f_17 319 = ai (ca 1) 320 (z 0) := by rw [ef_17, va_up_ne _ _ (by decide)]; exact c_319
    refine x_Vv (q := 302) (As := []) (rest := []) ⟨hx, hb, hml, hown, hts⟩ (k_X6_gather l D ca N ad B tR tK f_17 dd 0 (n 0) (n 1) (n 2) (g 13 0) (n 3) (n 4) (n 5) zn (z 0) (g 0) c_302 c_303 c_319  (by omega) (by omega)) (cwV 0 hts gX6_file_X6_gather rfl rfl rfl (by decide +kernel) ⟨Nat.le_of_ble_eq_true rfl, Nat.le_of_ble_eq_true rfl⟩) hK hE hB hw (by omega) c_302 rfl rfl rfl rfl hl.1 (Nat.le_of_ble_eq_true rfl) ⟨Nat.zero_le _, Nat.zero_le _⟩ dX6_file_42 (fun f_22 H locs hp hw => ?_)
    have eu := hp
    have ef_22 : f_22 = va_up (va_up f_17 302 (.inr (7, mO ad 0 (n 0) (n 1) (n 2) (g 13 0) (n 3) (n 4) (n 5) (n 1)))) 319 (ai (ca 1) 320 (cpB (z 0) (g 0) (n 1))) := eu
    have c_302 : f_22 302 = .inr (7, mO ad 0 (n 0) (n 1) (n 2) (g 13 0) (n 3) (n 4) (n 5) (n 1)) := by rw [ef_22, va_up_ne _ _ (by decide), va_up_self]
    have c_319 : f_22 319 = ai (ca 1) 320 (cpB (z 0) (g 0) (n 1)) := by rw [ef_22, va_up_self]
    refine lv_aload_n hx hb dX6_file_45 rfl (lv_at hl 1 rfl) ?_
    have c_320 : f_22 320 = ai (ca 1) 36 (z 1) := by rw [ef_22, va_up_ne _ _ (by decide), va_up_ne _ _ (by decide), ef_17, va_up_ne _ _ (by decide)]; exact c_320
    have c_321 : f_22 321 = ai (ca 0) 64 (z 2) := by rw [ef_22, va_up_ne _ _ (by decide), va_up_ne _ _ (by decide), ef_17, va_up_ne _ _ (by decide)]; exact c_321
    have c_322 : f_22 322 = ai (ca 0) 8 (z 3) := by rw [ef_22, va_up_ne _ _ (by decide), va_up_ne _ _ (by decide), ef_17, va_up_ne _ _ (by decide)]; exact c_322
    have c_323 : f_22 323 = ai (ca 0) 8 (z 4) := by rw [ef_22, va_up_ne _ _ (by decide), va_up_ne _ _ (by decide), ef_17, va_up_ne _ _ (by decide)]; exact c_323
    have c_324 : f_22 324 = ai (ca 0) 8 shR := by rw [ef_22, va_up_ne _ _ (by decide), va_up_ne _ _ (by decide), ef_17, va_up_ne _ _ (by decide)]; exact c_324
    have c_325 : f_22 325 = ai (ca 0) 64 shK := by rw [ef_22, va_up_ne _ _ (by decide), va_up_ne _ _ (by decide), ef_17, va_up_ne _ _ (by decide)]; exact c_325
    refine x_Vv (q := 302) (As := []) (rest := []) ⟨hx, hb, hml, hown, hts⟩ (k_X6_long1 l D ca N ad B tR tK f_22 dd 0 (n 0) (n 1) (n 2) (g 13 0) (n 3) (n 4) (n 5) (n 1) (cpB (z 0) (g 0) (n 1)) (z 1) (z 2) (z 3) (z 4) c_302 c_319 c_320 c_321 c_322 c_323 c_324 c_325  (by omega) (by omega)) (cwV 0 hts gX6_file_X6_long1 rfl rfl rfl (by decide +kernel) ⟨Nat.le_of_ble_eq_true rfl, Nat.le_of_ble_eq_true rfl⟩) hK hE hB hw (by omega) c_302 rfl rfl rfl rfl hl.1 (Nat.le_of_ble_eq_true rfl) ⟨Nat.zero_le _, Nat.zero_le _⟩ dX6_file_46 (fun f_24 H locs hp hw => ?_)
    obtain ⟨b1_26, w1_27, v1_28, h1_29, hq_30, eu⟩ := hp
    have ef_24 : f_24 = va_up (va_up (va_up (va_up (va_up f_22 319 (ai (ca 1) 320 b1_26)) 321 (ai (ca 0) 64 w1_27)) 323 (ai (ca 0) 8 v1_28)) 322 (ai (ca 0) 8 h1_29)) 320 (ai (ca 1) 36 (mkf (z 1) (sha (n 1) (fun i7 => (cpB (z 0) (g 0) (n 1)) i7 &&& nI 255)) 32)) := eu
    have c_319 : f_24 319 = ai (ca 1) 320 b1_26 := by rw [ef_24, va_up_ne _ _ (by decide), va_up_ne _ _ (by decide), va_up_ne _ _ (by decide), va_up_ne _ _ (by decide), va_up_self]
    have c_321 : f_24 321 = ai (ca 0) 64 w1_27 := by rw [ef_24, va_up_ne _ _ (by decide), va_up_ne _ _ (by decide), va_up_ne _ _ (by decide), va_up_self]
    have c_323 : f_24 323 = ai (ca 0) 8 v1_28 := by rw [ef_24, va_up_ne _ _ (by decide), va_up_ne _ _ (by decide), va_up_self]
    have c_322 : f_24 322 = ai (ca 0) 8 h1_29 := by rw [ef_24, va_up_ne _ _ (by decide), va_up_self]
    have c_320 : f_24 320 = ai (ca 1) 36 (mkf (z 1) (sha (n 1) (fun i7 => (cpB (z 0) (g 0) (n 1)) i7 &&& nI 255)) 32) := by rw [ef_24, va_up_self]
    have c_320 : f_24 320 = ai (ca 1) 36 (mkf (z 1) (sha (n 1) (fun x => g 0 x &&& nI 255)) 32) := by rw [c_320]; rw [sha_ext (g := fun i7 => cpB (z 0) (g 0) (n 1) i7 &&& nI 255) (g' := fun x => g 0 x &&& nI 255) (fun q hq => cpB_at hq)]
    refine lv_aload_n hx hb dX6_file_49 rfl (lv_at hl 1 rfl) ?_
    have c_302 : f_24 302 = .inr (7, mO ad 0 (n 0) (n 1) (n 2) (g 13 0) (n 3) (n 4) (n 5) (n 1)) := by rw [ef_24, va_up_ne _ _ (by decide), va_up_ne _ _ (by decide), va_up_ne _ _ (by decide), va_up_ne _ _ (by decide), va_up_ne _ _ (by decide)]; exact c_302
    refine x_Vv (q := 302) (As := []) (rest := []) ⟨hx, hb, hml, hown, hts⟩ (k_X6_short1 l D ca N ad B tR tK f_24 dd 0 (n 0) (n 1) (n 2) (g 13 0) (n 3) (n 4) (n 5) (n 1) b1_26 (mkf (z 1) (sha (n 1) (fun x => g 0 x &&& nI 255)) 32) c_302 c_319 c_320  (by omega) (by omega)) (cwV 0 hts gX6_file_X6_short1 rfl rfl rfl (by decide +kernel) ⟨Nat.le_of_ble_eq_true rfl, Nat.le_of_ble_eq_true rfl⟩) hK hE hB hw (by omega) c_302 rfl rfl rfl rfl hl.1 (Nat.le_of_ble_eq_true rfl) ⟨Nat.zero_le _, Nat.zero_le _⟩ dX6_file_50 (fun f_31 H locs hp hw => ?_)
    have eu := hp
    have ef_31 : f_31 = va_up f_24 320 (ai (ca 1) 36 (mkS (mkf (z 1) (sha (n 1) (fun x => g 0 x &&& nI 255)) 32) (crM b1_26 (n 1) ^^^ (-1)) 4)) := eu
    have c_320 : f_31 320 = ai (ca 1) 36 (mkS (mkf (z 1) (sha (n 1) (fun x => g 0 x &&& nI 255)) 32) (crM b1_26 (n 1) ^^^ (-1)) 4) := by rw [ef_31, va_up_self]
    have c_320 : f_31 320 = ai (ca 1) 36 (mkS (mkf (z 1) (sha (n 1) (fun x => g 0 x &&& nI 255)) 32) (crM (g 0) (n 1) ^^^ (-1)) 4) := by rw [c_320]; rw [crM_ext (b := b1_26) (b' := g 0) (n 1) (fun q hq => by rw [hq_30 q hq, cpB_at hq])]
    refine lv_iconst (v := nI 0) hx hb dX6_file_53 (by decide) ?_
    refine lv_istore (lv' := [(4, .int (nI 0)), (3, .int (nI (n 2))), (0, .ref (ad 302)), (1, .int (nI a)), (2, .int (nI j))]) hx hb dX6_file_54 hl (by decide) rfl (fun ls hl => ?_)
    have hw : xw D vwCl N ad B s.heap (va_up (va_up (va_up (va_up (va_up (va_up (va_up f 302 (.inr (7, mO ad 0 (n 0) (n 1) (n 2) (g 13 0) (n 3) (n 4) (n 5) (n 1)))) 319 (ai (ca 1) 320 b1_26)) 321 (ai (ca 0) 64 w1_27)) 323 (ai (ca 0) 8 v1_28)) 322 (ai (ca 0) 8 h1_29)) 320 (ai (ca 1) 36 (mkS (mkf (z 1) (sha (n 1) (fun x => g 0 x &&& nI 255)) 32) (crM (g 0) (n 1) ^^^ (-1)) 4))) 307 (ai (ca 1) 720 (cpF (g 4) (mkS (mkf (z 1) (sha (n 1) (fun x => g 0 x &&& nI 255)) 32) (crM (g 0) (n 1) ^^^ (-1)) 4) (36 * n 2) 0))) H locs := by
      have ez : f_31 = va_up (va_up (va_up (va_up (va_up (va_up (va_up f 302 (.inr (7, mO ad 0 (n 0) (n 1) (n 2) (g 13 0) (n 3) (n 4) (n 5) (n 1)))) 319 (ai (ca 1) 320 b1_26)) 321 (ai (ca 0) 64 w1_27)) 323 (ai (ca 0) 8 v1_28)) 322 (ai (ca 0) 8 h1_29)) 320 (ai (ca 1) 36 (mkS (mkf (z 1) (sha (n 1) (fun x => g 0 x &&& nI 255)) 32) (crM (g 0) (n 1) ^^^ (-1)) 4))) 307 (ai (ca 1) 720 (cpF (g 4) (mkS (mkf (z 1) (sha (n 1) (fun x => g 0 x &&& nI 255)) 32) (crM (g 0) (n 1) ^^^ (-1)) 4) (36 * n 2) 0)) := by rw [cpF_0, ← crM_ext (b := b1_26) (b' := g 0) (n 1) (fun q hq => by rw [hq_30 q hq, cpB_at hq])]; simp only [ef_31, ef_24, ef_22, ef_17, up_fl]; exact (up_noop (by simp only [va_up]; exact b_307)).symm
      rw [← ez]; exact hw
    exact P_56 37 b1_26 w1_27 v1_28 h1_29 0 _ _ _ (by omega) (by omega) hw (lv_sub hl [2, 3, 4, 1, 0] rfl)
  · omega

set_option maxHeartbeats 4000000 in
set_option maxRecDepth 100000 in
theorem k_X6_file_inF (l : Launch) (D : va_G) (ca : Nat → ClassId) (N : Nat) (ad : Nat → Nat) (B tR tK : Nat) (f : Nat → va_E) (dd : xD N ad B) (hN : 326 ≤ N) (n : Nat → Nat) (g : Nat → Nat → Int32) (z : Nat → Nat → Int32) (zn : Nat) (tb : Nat → Int32) (hR : RepM ca ad n g z zn tb f) (a : Nat) (j : Nat) (ha1 : 1 ≤ a) (ha2 : a ≤ 3) (hj : j ≤ 1000000) (h2 : n 2 < 20) (h4 : n 1 ≤ 200) (hr9 : n 4 = 200) : xMi l yX6_file wsX6_file rmX6_file [.ref (ad 302), .int (nI a), .int (nI j)] D ca N ad B tR tK f (fun r u => nI (n 2) = r ∧ ∃ (z1 : Nat → Nat → Int32) (zn1 : Nat), RepM ca ad (va_up (va_up (va_up n 7 0) 1 0) 2 ((n 2) + 1)) (va_up (va_up (va_up (va_up g 1 (cpF (g 1) (g 0) (200 * n 2) (n 1))) 2 (upd (g 2) (n 2) (nI (n 1)))) 3 (upd (g 3) (n 2) (nI a))) 4 (wnt (g 4) (sha (n 1) (fun x => g 0 x &&& nI 255)) (crM (g 0) (n 1) ^^^ (-1)) (36 * n 2))) z1 zn1 tb u ∧ ∀ y, (y < 302 ∨ 326 ≤ y) → u y = f y) := by
  refine x_open (cc := cX6_file) (maxL := 5) (ret := (some .int)) (by decide) rfl (Nat.le_of_ble_eq_true rfl) ?_
  intro p e s m below meth c ls hx hb hml hown hts hr hlocks hnm hB hK hE hw hl
  have hown : s.vm.findClass RX6 = some m.cls := hown
  have hl : lv_has ls 5 [(0, .ref (ad 302)), (1, .int (nI a)), (2, .int (nI j))] := hl
  obtain ⟨c_302, c_303, c_304, c_305, c_306, c_307, c_308, c_309, c_310, c_311, c_312, c_313, c_314, c_315, c_316, c_317, c_318, c_319, c_320, c_321, c_322, c_323, c_324, c_325, hzn⟩ := hR
  have hin_7 : ∀ w ∈ u_ws RX6 TX6 32, w ∈ wsX6_file := by decide +kernel
  have hf_209 := hts (.fieldLink RX6 209 "FixityRowsModel" "collected" "I") (by decide +kernel)
  have hf_163 := hts (.fieldLink RX6 163 "FixityRowsModel" "files" "I") (by decide +kernel)
  have hf_13 := hts (.fieldLink RX6 13 "FixityRowsModel" "bytes" "[B") (by decide +kernel)
  have hf_7 := hts (.fieldLink RX6 7 "FixityRowsModel" "said" "[B") (by decide +kernel)
  have hf_20 := hts (.fieldLink RX6 20 "FixityRowsModel" "algorithms" "[I") (by decide +kernel)
  have hf_16 := hts (.fieldLink RX6 16 "FixityRowsModel" "size" "[I") (by decide +kernel)
  have hf_23 := hts (.fieldLink RX6 23 "FixityRowsModel" "wanted" "[B") (by decide +kernel)
  have hf_67 := hts (.fieldLink RX6 67 "FixityRowsModel" "made" "[B") (by decide +kernel)
  have hf_160 := hts (.fieldLink RX6 160 "FixityRowsModel" "thrown" "I") (by decide +kernel)
  have b_302 := c_302
  have b_303 := c_303
  have b_304 := c_304
  have b_305 := c_305
  have b_306 := c_306
  have b_307 := c_307
  have b_308 := c_308
  have b_309 := c_309
  have b_310 := c_310
  have b_311 := c_311
  have b_312 := c_312
  have b_313 := c_313
  have b_314 := c_314
  have b_315 := c_315
  have b_316 := c_316
  have b_317 := c_317
  have b_318 := c_318
  have b_319 := c_319
  have b_320 := c_320
  have b_321 := c_321
  have b_322 := c_322
  have b_323 := c_323
  have b_324 := c_324
  have b_325 := c_325
  have P_143 : ∀ (b1 : Nat → Int32) (w1 : Nat → Int32) (v1 : Nat → Int32) (h1 : Nat → Int32) (H : Heap) (locs : List Loc) (ls : Array Slot), xw D vwCl N ad B s.heap (va_up (va_up (va_up (va_up (va_up (va_up (va_up (va_up (va_up (va_up f 302 (.inr (7, mO ad 0 (n 0) (n 1) (n 2) (g 13 0) (n 3) (n 4) (n 5) (n 1)))) 319 (ai (ca 1) 320 b1)) 321 (ai (ca 0) 64 w1)) 323 (ai (ca 0) 8 v1)) 322 (ai (ca 0) 8 h1)) 320 (ai (ca 1) 36 (mkS (mkf (z 1) (sha (n 1) (fun x => g 0 x &&& nI 255)) 32) (crM (g 0) (n 1) ^^^ (-1)) 4))) 307 (ai (ca 1) 720 (wnt (g 4) (sha (n 1) (fun x => g 0 x &&& nI 255)) (crM (g 0) (n 1) ^^^ (-1)) (36 * n 2)))) 306 (ai (ca 0) 20 (upd (g 3) (n 2) (nI a)))) 305 (ai (ca 0) 20 (upd (g 2) (n 2) (nI (n 1))))) 304 (ai (ca 1) 4000 (cpF (g 1) (g 0) (200 * n 2) (n 1)))) H locs → lv_has ls 5 [(0, .ref (ad 302)), (1, .int (nI a)), (2, .int (nI j)), (3, .int (nI (n 2)))] → W p l e rmX6_file s m ([.ref (ad 302), .int (nI a), .int (nI j)] : List Value).toArray below meth c H locs 0 0 (MQ below (xQi (fun r u => nI (n 2) = r ∧ ∃ (z1 : Nat → Nat → Int32) (zn1 : Nat), RepM ca ad (va_up (va_up (va_up n 7 0) 1 0) 2 ((n 2) + 1)) (va_up (va_up (va_up (va_up g 1 (cpF (g 1) (g 0) (200 * n 2) (n 1))) 2 (upd (g 2) (n 2) (nI (n 1)))) 3 (upd (g 3) (n 2) (nI a))) 4 (wnt (g 4) (sha (n 1) (fun x => g 0 x &&& nI 255)) (crM (g 0) (n 1) ^^^ (-1)) (36 * n 2))) z1 zn1 tb u ∧ ∀ y, (y < 302 ∨ 326 ≤ y) → u y = f y) D N ad B) ([.ref (ad 302), .int (nI a), .int (nI j)] : List Value).toArray s 0 0 (xA B)) (F0 m 143 ls []) := by
    intro b1 w1 v1 h1 H locs ls hw hl
    have c_302 := b_302
    have c_303 := b_303
    have c_304 := b_304
    have c_305 := b_305
    have c_306 := b_306
    have c_307 := b_307
    have c_308 := b_308
    have c_309 := b_309
    have c_310 := b_310
    have c_311 := b_311
    have c_312 := b_312
    have c_313 := b_313
    have c_314 := b_314
    have c_315 := b_315
    have c_316 := b_316
    have c_317 := b_317
    have c_318 := b_318
    have c_319 := b_319
    have c_320 := b_320
    have c_321 := b_321
    have c_322 := b_322
    have c_323 := b_323
    have c_324 := b_324
    have c_325 := b_325
    obtain ⟨f_1, ef_1⟩ : ∃ zq9, zq9 = va_up (va_up (va_up (va_up (va_up (va_up (va_up (va_up (va_up (va_up f 302 (.inr (7, mO ad 0 (n 0) (n 1) (n 2) (g 13 0) (n 3) (n 4) (n 5) (n 1)))) 319 (ai (ca 1) 320 b1)) 321 (ai (ca 0) 64 w1)) 323 (ai (ca 0) 8 v1)) 322 (ai (ca 0) 8 h1)) 320 (ai (ca 1) 36 (mkS (mkf (z 1) (sha (n 1) (fun x => g 0 x &&& nI 255)) 32) (crM (g 0) (n 1) ^^^ (-1)) 4))) 307 (ai (ca 1) 720 (wnt (g 4) (sha (n 1) (fun x => g 0 x &&& nI 255)) (crM (g 0) (n 1) ^^^ (-1)) (36 * n 2)))) 306 (ai (ca 0) 20 (upd (g 3) (n 2) (nI a)))) 305 (ai (ca 0) 20 (upd (g 2) (n 2) (nI (n 1))))) 304 (ai (ca 1) 4000 (cpF (g 1) (g 0) (200 * n 2) (n 1))) := ⟨_, rfl⟩
    have hw : xw D vwCl N ad B s.heap f_1 H locs := by rw [ef_1]; exact hw
    have c_302 : f_1 302 = .inr (7, mO ad 0 (n 0) (n 1) (n 2) (g 13 0) (n 3) (n 4) (n 5) (n 1)) := by rw [ef_1, va_up_ne _ _ (by decide), va_up_ne _ _ (by decide), va_up_ne _ _ (by decide), va_up_ne _ _ (by decide), va_up_ne _ _ (by decide), va_up_ne _ _ (by decide), va_up_ne _ _ (by decide), va_up_ne _ _ (by decide), va_up_ne _ _ (by decide), va_up_self]
    have c_319 : f_1 319 = ai (ca 1) 320 b1 := by rw [ef_1, va_up_ne _ _ (by decide), va_up_ne _ _ (by decide), va_up_ne _ _ (by decide), va_up_ne _ _ (by decide), va_up_ne _ _ (by decide), va_up_ne _ _ (by decide), va_up_ne _ _ (by decide), va_up_ne _ _ (by decide), va_up_self]
    have c_321 : f_1 321 = ai (ca 0) 64 w1 := by rw [ef_1, va_up_ne _ _ (by decide), va_up_ne _ _ (by decide), va_up_ne _ _ (by decide), va_up_ne _ _ (by decide), va_up_ne _ _ (by decide), va_up_ne _ _ (by decide), va_up_ne _ _ (by decide), va_up_self]
    have c_323 : f_1 323 = ai (ca 0) 8 v1 := by rw [ef_1, va_up_ne _ _ (by decide), va_up_ne _ _ (by decide), va_up_ne _ _ (by decide), va_up_ne _ _ (by decide), va_up_ne _ _ (by decide), va_up_ne _ _ (by decide), va_up_self]
    have c_322 : f_1 322 = ai (ca 0) 8 h1 := by rw [ef_1, va_up_ne _ _ (by decide), va_up_ne _ _ (by decide), va_up_ne _ _ (by decide), va_up_ne _ _ (by decide), va_up_ne _ _ (by decide), va_up_self]
    have c_320 : f_1 320 = ai (ca 1) 36 (mkS (mkf (z 1) (sha (n 1) (fun x => g 0 x &&& nI 255)) 32) (crM (g 0) (n 1) ^^^ (-1)) 4) := by rw [ef_1, va_up_ne _ _ (by decide), va_up_ne _ _ (by decide), va_up_ne _ _ (by decide), va_up_ne _ _ (by decide), va_up_self]
    have c_307 : f_1 307 = ai (ca 1) 720 (wnt (g 4) (sha (n 1) (fun x => g 0 x &&& nI 255)) (crM (g 0) (n 1) ^^^ (-1)) (36 * n 2)) := by rw [ef_1, va_up_ne _ _ (by decide), va_up_ne _ _ (by decide), va_up_ne _ _ (by decide), va_up_self]
    have c_306 : f_1 306 = ai (ca 0) 20 (upd (g 3) (n 2) (nI a)) := by rw [ef_1, va_up_ne _ _ (by decide), va_up_ne _ _ (by decide), va_up_self]
    have c_305 : f_1 305 = ai (ca 0) 20 (upd (g 2) (n 2) (nI (n 1))) := by rw [ef_1, va_up_ne _ _ (by decide), va_up_self]
    have c_304 : f_1 304 = ai (ca 1) 4000 (cpF (g 1) (g 0) (200 * n 2) (n 1)) := by rw [ef_1, va_up_self]
    refine lv_aload_n hx hb dX6_file_143 rfl (lv_at hl 0 rfl) ?_
    refine lv_iconst (v := nI 0) hx hb dX6_file_144 (by decide) ?_
    refine x_put (ci := 7) (C := RX6) (T := TX6) (n := 32) (ref := RX6) (fs' := mO ad 0 (n 0) 0 (n 2) (g 13 0) (n 3) (n 4) (n 5) (n 1)) hx hb hts hin_7 tyX6 tyX6_ok nmX6 hown hK dd hw 302 (by omega) c_302 rfl 2 (by decide) hf_209 (fun _ h => h) rfl rfl rfl (Nat.le_of_ble_eq_true rfl) rfl dX6_file_145 (fun H locs hw => ?_)
    obtain ⟨f_2, ef_2⟩ : ∃ z, z = va_up f_1 302 (.inr (7, mO ad 0 (n 0) 0 (n 2) (g 13 0) (n 3) (n 4) (n 5) (n 1))) := ⟨_, rfl⟩
    have hw : xw D vwCl N ad B s.heap f_2 H locs := by rw [ef_2]; exact hw
    have c_302 : f_2 302 = .inr (7, mO ad 0 (n 0) 0 (n 2) (g 13 0) (n 3) (n 4) (n 5) (n 1)) := va_up_of ef_2
    refine lv_aload_n hx hb dX6_file_148 rfl (lv_at hl 0 rfl) ?_
    refine lv_dup hx hb dX6_file_149 rfl ?_
    refine x_get (ci := 7) (C := RX6) (T := TX6) (n := 32) (ref := RX6) hx hb hts hin_7 hown hK hw 302 (by omega) c_302 rfl 4 (by decide) hf_163 (fun _ h => h) rfl dX6_file_150 ?_
    refine lv_iconst (v := nI 1) hx hb dX6_file_153 (by decide) ?_
    refine n_iadd hx hb dX6_file_154 ?_
    refine x_put (ci := 7) (C := RX6) (T := TX6) (n := 32) (ref := RX6) (fs' := mO ad 0 (n 0) 0 ((n 2) + 1) (g 13 0) (n 3) (n 4) (n 5) (n 1)) hx hb hts hin_7 tyX6 tyX6_ok nmX6 hown hK dd hw 302 (by omega) c_302 rfl 4 (by decide) hf_163 (fun _ h => h) rfl rfl rfl (Nat.le_of_ble_eq_true rfl) rfl dX6_file_155 (fun H locs hw => ?_)
    obtain ⟨f_3, ef_3⟩ : ∃ z, z = va_up f_2 302 (.inr (7, mO ad 0 (n 0) 0 ((n 2) + 1) (g 13 0) (n 3) (n 4) (n 5) (n 1))) := ⟨_, rfl⟩
    have hw : xw D vwCl N ad B s.heap f_3 H locs := by rw [ef_3]; exact hw
    have c_302 : f_3 302 = .inr (7, mO ad 0 (n 0) 0 ((n 2) + 1) (g 13 0) (n 3) (n 4) (n 5) (n 1)) := va_up_of ef_3
    refine lv_aload_n hx hb dX6_file_158 rfl (lv_at hl 0 rfl) ?_
    refine lv_iconst (v := nI 0) hx hb dX6_file_159 (by decide) ?_
    refine lv_iload_n hx hb dX6_file_160 rfl (lv_at hl 3 rfl) ?_
    refine lv_iload_n hx hb dX6_file_161 rfl (lv_at hl 2 rfl) ?_
    refine x_Vv (q := 302) (As := [.int (nI 0), .int (nI (n 2)), .int (nI j)]) (rest := []) ⟨hx, hb, hml, hown, hts⟩ (k_X6_enter_full l D ca N ad B tR tK f_3 dd 0 (n 0) 0 ((n 2) + 1) (g 13 0) (n 3) (n 4) (n 5) (n 1) (nI 0) (nI (n 2)) (nI j) c_302  (by omega) (by omega)) (cwV 3 hts gX6_file_X6_enter rfl rfl rfl (by decide +kernel) ⟨Nat.le_of_ble_eq_true rfl, Nat.le_of_ble_eq_true rfl⟩) hK hE hB hw (by omega) c_302 rfl rfl rfl rfl hl.1 (Nat.le_of_ble_eq_true rfl) ⟨Nat.zero_le _, Nat.zero_le _⟩ dX6_file_162 (fun f_4 H locs hp hw => ?_)
    have eu := hp
    rw [← eu] at hw
    refine lv_iload_n hx hb dX6_file_165 rfl (lv_at hl 3 rfl) ?_
    have c_303 : f_3 303 = ai (ca 1) 200 (g 0) := by rw [ef_3, va_up_ne _ _ (by decide), ef_2, va_up_ne _ _ (by decide), ef_1, va_up_ne _ _ (by decide), va_up_ne _ _ (by decide), va_up_ne _ _ (by decide), va_up_ne _ _ (by decide), va_up_ne _ _ (by decide), va_up_ne _ _ (by decide), va_up_ne _ _ (by decide), va_up_ne _ _ (by decide), va_up_ne _ _ (by decide), va_up_ne _ _ (by decide)]; exact c_303
    have c_304 : f_3 304 = ai (ca 1) 4000 (cpF (g 1) (g 0) (200 * n 2) (n 1)) := by rw [ef_3, va_up_ne _ _ (by decide), ef_2, va_up_ne _ _ (by decide)]; exact c_304
    have c_305 : f_3 305 = ai (ca 0) 20 (upd (g 2) (n 2) (nI (n 1))) := by rw [ef_3, va_up_ne _ _ (by decide), ef_2, va_up_ne _ _ (by decide)]; exact c_305
    have c_306 : f_3 306 = ai (ca 0) 20 (upd (g 3) (n 2) (nI a)) := by rw [ef_3, va_up_ne _ _ (by decide), ef_2, va_up_ne _ _ (by decide)]; exact c_306
    have c_307 : f_3 307 = ai (ca 1) 720 (wnt (g 4) (sha (n 1) (fun x => g 0 x &&& nI 255)) (crM (g 0) (n 1) ^^^ (-1)) (36 * n 2)) := by rw [ef_3, va_up_ne _ _ (by decide), ef_2, va_up_ne _ _ (by decide)]; exact c_307
    have c_308 : f_3 308 = ai (ca 0) 20 (g 5) := by rw [ef_3, va_up_ne _ _ (by decide), ef_2, va_up_ne _ _ (by decide), ef_1, va_up_ne _ _ (by decide), va_up_ne _ _ (by decide), va_up_ne _ _ (by decide), va_up_ne _ _ (by decide), va_up_ne _ _ (by decide), va_up_ne _ _ (by decide), va_up_ne _ _ (by decide), va_up_ne _ _ (by decide), va_up_ne _ _ (by decide), va_up_ne _ _ (by decide)]; exact c_308
    have c_309 : f_3 309 = ai (ca 0) 20 (g 6) := by rw [ef_3, va_up_ne _ _ (by decide), ef_2, va_up_ne _ _ (by decide), ef_1, va_up_ne _ _ (by decide), va_up_ne _ _ (by decide), va_up_ne _ _ (by decide), va_up_ne _ _ (by decide), va_up_ne _ _ (by decide), va_up_ne _ _ (by decide), va_up_ne _ _ (by decide), va_up_ne _ _ (by decide), va_up_ne _ _ (by decide), va_up_ne _ _ (by decide)]; exact c_309
    have c_310 : f_3 310 = ai (ca 0) 20 (g 7) := by rw [ef_3, va_up_ne _ _ (by decide), ef_2, va_up_ne _ _ (by decide), ef_1, va_up_ne _ _ (by decide), va_up_ne _ _ (by decide), va_up_ne _ _ (by decide), va_up_ne _ _ (by decide), va_up_ne _ _ (by decide), va_up_ne _ _ (by decide), va_up_ne _ _ (by decide), va_up_ne _ _ (by decide), va_up_ne _ _ (by decide), va_up_ne _ _ (by decide)]; exact c_310
    have c_311 : f_3 311 = ai (ca 0) 20 (g 8) := by rw [ef_3, va_up_ne _ _ (by decide), ef_2, va_up_ne _ _ (by decide), ef_1, va_up_ne _ _ (by decide), va_up_ne _ _ (by decide), va_up_ne _ _ (by decide), va_up_ne _ _ (by decide), va_up_ne _ _ (by decide), va_up_ne _ _ (by decide), va_up_ne _ _ (by decide), va_up_ne _ _ (by decide), va_up_ne _ _ (by decide), va_up_ne _ _ (by decide)]; exact c_311
    have c_312 : f_3 312 = ai (ca 0) 20 (g 9) := by rw [ef_3, va_up_ne _ _ (by decide), ef_2, va_up_ne _ _ (by decide), ef_1, va_up_ne _ _ (by decide), va_up_ne _ _ (by decide), va_up_ne _ _ (by decide), va_up_ne _ _ (by decide), va_up_ne _ _ (by decide), va_up_ne _ _ (by decide), va_up_ne _ _ (by decide), va_up_ne _ _ (by decide), va_up_ne _ _ (by decide), va_up_ne _ _ (by decide)]; exact c_312
    have c_313 : f_3 313 = ai (ca 2) 20 (g 10) := by rw [ef_3, va_up_ne _ _ (by decide), ef_2, va_up_ne _ _ (by decide), ef_1, va_up_ne _ _ (by decide), va_up_ne _ _ (by decide), va_up_ne _ _ (by decide), va_up_ne _ _ (by decide), va_up_ne _ _ (by decide), va_up_ne _ _ (by decide), va_up_ne _ _ (by decide), va_up_ne _ _ (by decide), va_up_ne _ _ (by decide), va_up_ne _ _ (by decide)]; exact c_313
    have c_314 : f_3 314 = ai (ca 0) 200 (g 11) := by rw [ef_3, va_up_ne _ _ (by decide), ef_2, va_up_ne _ _ (by decide), ef_1, va_up_ne _ _ (by decide), va_up_ne _ _ (by decide), va_up_ne _ _ (by decide), va_up_ne _ _ (by decide), va_up_ne _ _ (by decide), va_up_ne _ _ (by decide), va_up_ne _ _ (by decide), va_up_ne _ _ (by decide), va_up_ne _ _ (by decide), va_up_ne _ _ (by decide)]; exact c_314
    have c_315 : f_3 315 = ai (ca 0) 200 (g 12) := by rw [ef_3, va_up_ne _ _ (by decide), ef_2, va_up_ne _ _ (by decide), ef_1, va_up_ne _ _ (by decide), va_up_ne _ _ (by decide), va_up_ne _ _ (by decide), va_up_ne _ _ (by decide), va_up_ne _ _ (by decide), va_up_ne _ _ (by decide), va_up_ne _ _ (by decide), va_up_ne _ _ (by decide), va_up_ne _ _ (by decide), va_up_ne _ _ (by decide)]; exact c_315
    have c_316 : f_3 316 = ai (ca 0) 200 (g 14) := by rw [ef_3, va_up_ne _ _ (by decide), ef_2, va_up_ne _ _ (by decide), ef_1, va_up_ne _ _ (by decide), va_up_ne _ _ (by decide), va_up_ne _ _ (by decide), va_up_ne _ _ (by decide), va_up_ne _ _ (by decide), va_up_ne _ _ (by decide), va_up_ne _ _ (by decide), va_up_ne _ _ (by decide), va_up_ne _ _ (by decide), va_up_ne _ _ (by decide)]; exact c_316
    have c_317 : f_3 317 = ai (ca 1) 6400 (g 15) := by rw [ef_3, va_up_ne _ _ (by decide), ef_2, va_up_ne _ _ (by decide), ef_1, va_up_ne _ _ (by decide), va_up_ne _ _ (by decide), va_up_ne _ _ (by decide), va_up_ne _ _ (by decide), va_up_ne _ _ (by decide), va_up_ne _ _ (by decide), va_up_ne _ _ (by decide), va_up_ne _ _ (by decide), va_up_ne _ _ (by decide), va_up_ne _ _ (by decide)]; exact c_317
    have c_318 : f_3 318 = ai (ca 1) 32 (g 16) := by rw [ef_3, va_up_ne _ _ (by decide), ef_2, va_up_ne _ _ (by decide), ef_1, va_up_ne _ _ (by decide), va_up_ne _ _ (by decide), va_up_ne _ _ (by decide), va_up_ne _ _ (by decide), va_up_ne _ _ (by decide), va_up_ne _ _ (by decide), va_up_ne _ _ (by decide), va_up_ne _ _ (by decide), va_up_ne _ _ (by decide), va_up_ne _ _ (by decide)]; exact c_318
    have c_319 : f_3 319 = ai (ca 1) 320 b1 := by rw [ef_3, va_up_ne _ _ (by decide), ef_2, va_up_ne _ _ (by decide)]; exact c_319
    have c_320 : f_3 320 = ai (ca 1) 36 (mkS (mkf (z 1) (sha (n 1) (fun x => g 0 x &&& nI 255)) 32) (crM (g 0) (n 1) ^^^ (-1)) 4) := by rw [ef_3, va_up_ne _ _ (by decide), ef_2, va_up_ne _ _ (by decide)]; exact c_320
    have c_321 : f_3 321 = ai (ca 0) 64 w1 := by rw [ef_3, va_up_ne _ _ (by decide), ef_2, va_up_ne _ _ (by decide)]; exact c_321
    have c_322 : f_3 322 = ai (ca 0) 8 h1 := by rw [ef_3, va_up_ne _ _ (by decide), ef_2, va_up_ne _ _ (by decide)]; exact c_322
    have c_323 : f_3 323 = ai (ca 0) 8 v1 := by rw [ef_3, va_up_ne _ _ (by decide), ef_2, va_up_ne _ _ (by decide)]; exact c_323
    have c_324 : f_3 324 = ai (ca 0) 8 shR := by rw [ef_3, va_up_ne _ _ (by decide), ef_2, va_up_ne _ _ (by decide), ef_1, va_up_ne _ _ (by decide), va_up_ne _ _ (by decide), va_up_ne _ _ (by decide), va_up_ne _ _ (by decide), va_up_ne _ _ (by decide), va_up_ne _ _ (by decide), va_up_ne _ _ (by decide), va_up_ne _ _ (by decide), va_up_ne _ _ (by decide), va_up_ne _ _ (by decide)]; exact c_324
    have c_325 : f_3 325 = ai (ca 0) 64 shK := by rw [ef_3, va_up_ne _ _ (by decide), ef_2, va_up_ne _ _ (by decide), ef_1, va_up_ne _ _ (by decide), va_up_ne _ _ (by decide), va_up_ne _ _ (by decide), va_up_ne _ _ (by decide), va_up_ne _ _ (by decide), va_up_ne _ _ (by decide), va_up_ne _ _ (by decide), va_up_ne _ _ (by decide), va_up_ne _ _ (by decide), va_up_ne _ _ (by decide)]; exact c_325
    have qn_0 : (va_up (va_up (va_up n 7 0) 1 0) 2 ((n 2) + 1)) 0 = n 0 := by rw [va_up_ne _ _ (by decide), va_up_ne _ _ (by decide), va_up_ne _ _ (by decide)]
    have qn_1 : (va_up (va_up (va_up n 7 0) 1 0) 2 ((n 2) + 1)) 1 = 0 := by rw [va_up_ne _ _ (by decide), va_up_self]
    have qn_2 : (va_up (va_up (va_up n 7 0) 1 0) 2 ((n 2) + 1)) 2 = (n 2) + 1 := by rw [va_up_self]
    have qn_3 : (va_up (va_up (va_up n 7 0) 1 0) 2 ((n 2) + 1)) 3 = n 3 := by rw [va_up_ne _ _ (by decide), va_up_ne _ _ (by decide), va_up_ne _ _ (by decide)]
    have qn_4 : (va_up (va_up (va_up n 7 0) 1 0) 2 ((n 2) + 1)) 4 = n 4 := by rw [va_up_ne _ _ (by decide), va_up_ne _ _ (by decide), va_up_ne _ _ (by decide)]
    have qn_5 : (va_up (va_up (va_up n 7 0) 1 0) 2 ((n 2) + 1)) 5 = n 5 := by rw [va_up_ne _ _ (by decide), va_up_ne _ _ (by decide), va_up_ne _ _ (by decide)]
    have qn_6 : (va_up (va_up (va_up n 7 0) 1 0) 2 ((n 2) + 1)) 6 = n 6 := by rw [va_up_ne _ _ (by decide), va_up_ne _ _ (by decide), va_up_ne _ _ (by decide)]
    have qn_7 : (va_up (va_up (va_up n 7 0) 1 0) 2 ((n 2) + 1)) 7 = 0 := by rw [va_up_ne _ _ (by decide), va_up_ne _ _ (by decide), va_up_self]
    have qg_0 : (va_up (va_up (va_up (va_up g 1 (cpF (g 1) (g 0) (200 * n 2) (n 1))) 2 (upd (g 2) (n 2) (nI (n 1)))) 3 (upd (g 3) (n 2) (nI a))) 4 (wnt (g 4) (sha (n 1) (fun x => g 0 x &&& nI 255)) (crM (g 0) (n 1) ^^^ (-1)) (36 * n 2))) 0 = g 0 := by rw [va_up_ne _ _ (by decide), va_up_ne _ _ (by decide), va_up_ne _ _ (by decide), va_up_ne _ _ (by decide)]
    have qg_1 : (va_up (va_up (va_up (va_up g 1 (cpF (g 1) (g 0) (200 * n 2) (n 1))) 2 (upd (g 2) (n 2) (nI (n 1)))) 3 (upd (g 3) (n 2) (nI a))) 4 (wnt (g 4) (sha (n 1) (fun x => g 0 x &&& nI 255)) (crM (g 0) (n 1) ^^^ (-1)) (36 * n 2))) 1 = cpF (g 1) (g 0) (200 * n 2) (n 1) := by rw [va_up_ne _ _ (by decide), va_up_ne _ _ (by decide), va_up_ne _ _ (by decide), va_up_self]
    have qg_2 : (va_up (va_up (va_up (va_up g 1 (cpF (g 1) (g 0) (200 * n 2) (n 1))) 2 (upd (g 2) (n 2) (nI (n 1)))) 3 (upd (g 3) (n 2) (nI a))) 4 (wnt (g 4) (sha (n 1) (fun x => g 0 x &&& nI 255)) (crM (g 0) (n 1) ^^^ (-1)) (36 * n 2))) 2 = upd (g 2) (n 2) (nI (n 1)) := by rw [va_up_ne _ _ (by decide), va_up_ne _ _ (by decide), va_up_self]
    have qg_3 : (va_up (va_up (va_up (va_up g 1 (cpF (g 1) (g 0) (200 * n 2) (n 1))) 2 (upd (g 2) (n 2) (nI (n 1)))) 3 (upd (g 3) (n 2) (nI a))) 4 (wnt (g 4) (sha (n 1) (fun x => g 0 x &&& nI 255)) (crM (g 0) (n 1) ^^^ (-1)) (36 * n 2))) 3 = upd (g 3) (n 2) (nI a) := by rw [va_up_ne _ _ (by decide), va_up_self]
    have qg_4 : (va_up (va_up (va_up (va_up g 1 (cpF (g 1) (g 0) (200 * n 2) (n 1))) 2 (upd (g 2) (n 2) (nI (n 1)))) 3 (upd (g 3) (n 2) (nI a))) 4 (wnt (g 4) (sha (n 1) (fun x => g 0 x &&& nI 255)) (crM (g 0) (n 1) ^^^ (-1)) (36 * n 2))) 4 = wnt (g 4) (sha (n 1) (fun x => g 0 x &&& nI 255)) (crM (g 0) (n 1) ^^^ (-1)) (36 * n 2) := by rw [va_up_self]
    have qg_5 : (va_up (va_up (va_up (va_up g 1 (cpF (g 1) (g 0) (200 * n 2) (n 1))) 2 (upd (g 2) (n 2) (nI (n 1)))) 3 (upd (g 3) (n 2) (nI a))) 4 (wnt (g 4) (sha (n 1) (fun x => g 0 x &&& nI 255)) (crM (g 0) (n 1) ^^^ (-1)) (36 * n 2))) 5 = g 5 := by rw [va_up_ne _ _ (by decide), va_up_ne _ _ (by decide), va_up_ne _ _ (by decide), va_up_ne _ _ (by decide)]
    have qg_6 : (va_up (va_up (va_up (va_up g 1 (cpF (g 1) (g 0) (200 * n 2) (n 1))) 2 (upd (g 2) (n 2) (nI (n 1)))) 3 (upd (g 3) (n 2) (nI a))) 4 (wnt (g 4) (sha (n 1) (fun x => g 0 x &&& nI 255)) (crM (g 0) (n 1) ^^^ (-1)) (36 * n 2))) 6 = g 6 := by rw [va_up_ne _ _ (by decide), va_up_ne _ _ (by decide), va_up_ne _ _ (by decide), va_up_ne _ _ (by decide)]
    have qg_7 : (va_up (va_up (va_up (va_up g 1 (cpF (g 1) (g 0) (200 * n 2) (n 1))) 2 (upd (g 2) (n 2) (nI (n 1)))) 3 (upd (g 3) (n 2) (nI a))) 4 (wnt (g 4) (sha (n 1) (fun x => g 0 x &&& nI 255)) (crM (g 0) (n 1) ^^^ (-1)) (36 * n 2))) 7 = g 7 := by rw [va_up_ne _ _ (by decide), va_up_ne _ _ (by decide), va_up_ne _ _ (by decide), va_up_ne _ _ (by decide)]
    have qg_8 : (va_up (va_up (va_up (va_up g 1 (cpF (g 1) (g 0) (200 * n 2) (n 1))) 2 (upd (g 2) (n 2) (nI (n 1)))) 3 (upd (g 3) (n 2) (nI a))) 4 (wnt (g 4) (sha (n 1) (fun x => g 0 x &&& nI 255)) (crM (g 0) (n 1) ^^^ (-1)) (36 * n 2))) 8 = g 8 := by rw [va_up_ne _ _ (by decide), va_up_ne _ _ (by decide), va_up_ne _ _ (by decide), va_up_ne _ _ (by decide)]
    have qg_9 : (va_up (va_up (va_up (va_up g 1 (cpF (g 1) (g 0) (200 * n 2) (n 1))) 2 (upd (g 2) (n 2) (nI (n 1)))) 3 (upd (g 3) (n 2) (nI a))) 4 (wnt (g 4) (sha (n 1) (fun x => g 0 x &&& nI 255)) (crM (g 0) (n 1) ^^^ (-1)) (36 * n 2))) 9 = g 9 := by rw [va_up_ne _ _ (by decide), va_up_ne _ _ (by decide), va_up_ne _ _ (by decide), va_up_ne _ _ (by decide)]
    have qg_10 : (va_up (va_up (va_up (va_up g 1 (cpF (g 1) (g 0) (200 * n 2) (n 1))) 2 (upd (g 2) (n 2) (nI (n 1)))) 3 (upd (g 3) (n 2) (nI a))) 4 (wnt (g 4) (sha (n 1) (fun x => g 0 x &&& nI 255)) (crM (g 0) (n 1) ^^^ (-1)) (36 * n 2))) 10 = g 10 := by rw [va_up_ne _ _ (by decide), va_up_ne _ _ (by decide), va_up_ne _ _ (by decide), va_up_ne _ _ (by decide)]
    have qg_11 : (va_up (va_up (va_up (va_up g 1 (cpF (g 1) (g 0) (200 * n 2) (n 1))) 2 (upd (g 2) (n 2) (nI (n 1)))) 3 (upd (g 3) (n 2) (nI a))) 4 (wnt (g 4) (sha (n 1) (fun x => g 0 x &&& nI 255)) (crM (g 0) (n 1) ^^^ (-1)) (36 * n 2))) 11 = g 11 := by rw [va_up_ne _ _ (by decide), va_up_ne _ _ (by decide), va_up_ne _ _ (by decide), va_up_ne _ _ (by decide)]
    have qg_12 : (va_up (va_up (va_up (va_up g 1 (cpF (g 1) (g 0) (200 * n 2) (n 1))) 2 (upd (g 2) (n 2) (nI (n 1)))) 3 (upd (g 3) (n 2) (nI a))) 4 (wnt (g 4) (sha (n 1) (fun x => g 0 x &&& nI 255)) (crM (g 0) (n 1) ^^^ (-1)) (36 * n 2))) 12 = g 12 := by rw [va_up_ne _ _ (by decide), va_up_ne _ _ (by decide), va_up_ne _ _ (by decide), va_up_ne _ _ (by decide)]
    have qg_13 : (va_up (va_up (va_up (va_up g 1 (cpF (g 1) (g 0) (200 * n 2) (n 1))) 2 (upd (g 2) (n 2) (nI (n 1)))) 3 (upd (g 3) (n 2) (nI a))) 4 (wnt (g 4) (sha (n 1) (fun x => g 0 x &&& nI 255)) (crM (g 0) (n 1) ^^^ (-1)) (36 * n 2))) 13 = g 13 := by rw [va_up_ne _ _ (by decide), va_up_ne _ _ (by decide), va_up_ne _ _ (by decide), va_up_ne _ _ (by decide)]
    have qg_14 : (va_up (va_up (va_up (va_up g 1 (cpF (g 1) (g 0) (200 * n 2) (n 1))) 2 (upd (g 2) (n 2) (nI (n 1)))) 3 (upd (g 3) (n 2) (nI a))) 4 (wnt (g 4) (sha (n 1) (fun x => g 0 x &&& nI 255)) (crM (g 0) (n 1) ^^^ (-1)) (36 * n 2))) 14 = g 14 := by rw [va_up_ne _ _ (by decide), va_up_ne _ _ (by decide), va_up_ne _ _ (by decide), va_up_ne _ _ (by decide)]
    have qg_15 : (va_up (va_up (va_up (va_up g 1 (cpF (g 1) (g 0) (200 * n 2) (n 1))) 2 (upd (g 2) (n 2) (nI (n 1)))) 3 (upd (g 3) (n 2) (nI a))) 4 (wnt (g 4) (sha (n 1) (fun x => g 0 x &&& nI 255)) (crM (g 0) (n 1) ^^^ (-1)) (36 * n 2))) 15 = g 15 := by rw [va_up_ne _ _ (by decide), va_up_ne _ _ (by decide), va_up_ne _ _ (by decide), va_up_ne _ _ (by decide)]
    have qg_16 : (va_up (va_up (va_up (va_up g 1 (cpF (g 1) (g 0) (200 * n 2) (n 1))) 2 (upd (g 2) (n 2) (nI (n 1)))) 3 (upd (g 3) (n 2) (nI a))) 4 (wnt (g 4) (sha (n 1) (fun x => g 0 x &&& nI 255)) (crM (g 0) (n 1) ^^^ (-1)) (36 * n 2))) 16 = g 16 := by rw [va_up_ne _ _ (by decide), va_up_ne _ _ (by decide), va_up_ne _ _ (by decide), va_up_ne _ _ (by decide)]
    have qz_0 : (va_up (va_up (va_up (va_up (va_up z 0 b1) 1 (mkS (mkf (z 1) (sha (n 1) (fun x => g 0 x &&& nI 255)) 32) (crM (g 0) (n 1) ^^^ (-1)) 4)) 2 w1) 3 h1) 4 v1) 0 = b1 := by rw [va_up_ne _ _ (by decide), va_up_ne _ _ (by decide), va_up_ne _ _ (by decide), va_up_ne _ _ (by decide), va_up_self]
    have qz_1 : (va_up (va_up (va_up (va_up (va_up z 0 b1) 1 (mkS (mkf (z 1) (sha (n 1) (fun x => g 0 x &&& nI 255)) 32) (crM (g 0) (n 1) ^^^ (-1)) 4)) 2 w1) 3 h1) 4 v1) 1 = mkS (mkf (z 1) (sha (n 1) (fun x => g 0 x &&& nI 255)) 32) (crM (g 0) (n 1) ^^^ (-1)) 4 := by rw [va_up_ne _ _ (by decide), va_up_ne _ _ (by decide), va_up_ne _ _ (by decide), va_up_self]
    have qz_2 : (va_up (va_up (va_up (va_up (va_up z 0 b1) 1 (mkS (mkf (z 1) (sha (n 1) (fun x => g 0 x &&& nI 255)) 32) (crM (g 0) (n 1) ^^^ (-1)) 4)) 2 w1) 3 h1) 4 v1) 2 = w1 := by rw [va_up_ne _ _ (by decide), va_up_ne _ _ (by decide), va_up_self]
    have qz_3 : (va_up (va_up (va_up (va_up (va_up z 0 b1) 1 (mkS (mkf (z 1) (sha (n 1) (fun x => g 0 x &&& nI 255)) 32) (crM (g 0) (n 1) ^^^ (-1)) 4)) 2 w1) 3 h1) 4 v1) 3 = h1 := by rw [va_up_ne _ _ (by decide), va_up_self]
    have qz_4 : (va_up (va_up (va_up (va_up (va_up z 0 b1) 1 (mkS (mkf (z 1) (sha (n 1) (fun x => g 0 x &&& nI 255)) 32) (crM (g 0) (n 1) ^^^ (-1)) 4)) 2 w1) 3 h1) 4 v1) 4 = v1 := by rw [va_up_self]
    have hRz : RepM ca ad (va_up (va_up (va_up n 7 0) 1 0) 2 ((n 2) + 1)) (va_up (va_up (va_up (va_up g 1 (cpF (g 1) (g 0) (200 * n 2) (n 1))) 2 (upd (g 2) (n 2) (nI (n 1)))) 3 (upd (g 3) (n 2) (nI a))) 4 (wnt (g 4) (sha (n 1) (fun x => g 0 x &&& nI 255)) (crM (g 0) (n 1) ^^^ (-1)) (36 * n 2))) (va_up (va_up (va_up (va_up (va_up z 0 b1) 1 (mkS (mkf (z 1) (sha (n 1) (fun x => g 0 x &&& nI 255)) 32) (crM (g 0) (n 1) ^^^ (-1)) 4)) 2 w1) 3 h1) 4 v1) (n 1) tb f_3 := ⟨(by rw [qn_7, qn_0, qn_1, qn_2, qn_3, qn_4, qn_5, qg_13]; exact c_302),
          (by rw [qg_0]; exact c_303),
          (by rw [qg_1]; exact c_304),
          (by rw [qg_2]; exact c_305),
          (by rw [qg_3]; exact c_306),
          (by rw [qg_4]; exact c_307),
          (by rw [qg_5]; exact c_308),
          (by rw [qg_6]; exact c_309),
          (by rw [qg_7]; exact c_310),
          (by rw [qg_8]; exact c_311),
          (by rw [qg_9]; exact c_312),
          (by rw [qg_10]; exact c_313),
          (by rw [qg_11]; exact c_314),
          (by rw [qg_12]; exact c_315),
          (by rw [qg_14]; exact c_316),
          (by rw [qg_15]; exact c_317),
          (by rw [qg_16]; exact c_318),
          (by rw [qz_0]; exact c_319),
          (by rw [qz_1]; exact c_320),
          (by rw [qz_2]; exact c_321),
          (by rw [qz_3]; exact c_322),
          (by rw [qz_4]; exact c_323),
          c_324,
          c_325, (by first | omega | assumption)⟩
    exact x_iret hx hb hr hlocks hw ⟨rfl, va_up (va_up (va_up (va_up (va_up z 0 b1) 1 (mkS (mkf (z 1) (sha (n 1) (fun x => g 0 x &&& nI 255)) 32) (crM (g 0) (n 1) ^^^ (-1)) 4)) 2 w1) 3 h1) 4 v1, n 1, hRz, (fun y hy => by rw [ef_3, va_up_ne _ _ (by omega), ef_2, va_up_ne _ _ (by omega), ef_1, va_up_ne _ _ (by omega), va_up_ne _ _ (by omega), va_up_ne _ _ (by omega), va_up_ne _ _ (by omega), va_up_ne _ _ (by omega), va_up_ne _ _ (by omega), va_up_ne _ _ (by omega), va_up_ne _ _ (by omega), va_up_ne _ _ (by omega), va_up_ne _ _ (by omega)])⟩ dX6_file_166
  have P_108 : ∀ (n_108 : Nat) (b1 : Nat → Int32) (w1 : Nat → Int32) (v1 : Nat → Int32) (h1 : Nat → Int32) (k : Nat) (H : Heap) (locs : List Loc) (ls : Array Slot), n 1 + 1 ≤ k + n_108 → (k ≤ n 1) → xw D vwCl N ad B s.heap (va_up (va_up (va_up (va_up (va_up (va_up (va_up (va_up (va_up (va_up f 302 (.inr (7, mO ad 0 (n 0) (n 1) (n 2) (g 13 0) (n 3) (n 4) (n 5) (n 1)))) 319 (ai (ca 1) 320 b1)) 321 (ai (ca 0) 64 w1)) 323 (ai (ca 0) 8 v1)) 322 (ai (ca 0) 8 h1)) 320 (ai (ca 1) 36 (mkS (mkf (z 1) (sha (n 1) (fun x => g 0 x &&& nI 255)) 32) (crM (g 0) (n 1) ^^^ (-1)) 4))) 307 (ai (ca 1) 720 (wnt (g 4) (sha (n 1) (fun x => g 0 x &&& nI 255)) (crM (g 0) (n 1) ^^^ (-1)) (36 * n 2)))) 306 (ai (ca 0) 20 (upd (g 3) (n 2) (nI a)))) 305 (ai (ca 0) 20 (upd (g 2) (n 2) (nI (n 1))))) 304 (ai (ca 1) 4000 (cpF (g 1) (g 0) (200 * n 2) k))) H locs → lv_has ls 5 [(0, .ref (ad 302)), (1, .int (nI a)), (2, .int (nI j)), (3, .int (nI (n 2))), (4, .int (nI k))] → W p l e rmX6_file s m ([.ref (ad 302), .int (nI a), .int (nI j)] : List Value).toArray below meth c H locs 0 0 (MQ below (xQi (fun r u => nI (n 2) = r ∧ ∃ (z1 : Nat → Nat → Int32) (zn1 : Nat), RepM ca ad (va_up (va_up (va_up n 7 0) 1 0) 2 ((n 2) + 1)) (va_up (va_up (va_up (va_up g 1 (cpF (g 1) (g 0) (200 * n 2) (n 1))) 2 (upd (g 2) (n 2) (nI (n 1)))) 3 (upd (g 3) (n 2) (nI a))) 4 (wnt (g 4) (sha (n 1) (fun x => g 0 x &&& nI 255)) (crM (g 0) (n 1) ^^^ (-1)) (36 * n 2))) z1 zn1 tb u ∧ ∀ y, (y < 302 ∨ 326 ≤ y) → u y = f y) D N ad B) ([.ref (ad 302), .int (nI a), .int (nI j)] : List Value).toArray s 0 0 (xA B)) (F0 m 108 ls []) := by
    intro n_108
    induction n_108 with
    | zero =>
      intro b1 w1 v1 h1 k H locs ls hm_108 hk hw hl
      exact absurd hm_108 (by omega)
    | succ n_108 ih_108 =>
      intro b1 w1 v1 h1 k H locs ls hm_108 hk hw hl
      have c_302 := b_302
      have c_303 := b_303
      have c_304 := b_304
      have c_305 := b_305
      have c_306 := b_306
      have c_307 := b_307
      have c_308 := b_308
      have c_309 := b_309
      have c_310 := b_310
      have c_311 := b_311
      have c_312 := b_312
      have c_313 := b_313
      have c_314 := b_314
      have c_315 := b_315
      have c_316 := b_316
      have c_317 := b_317
      have c_318 := b_318
      have c_319 := b_319
      have c_320 := b_320
      have c_321 := b_321
      have c_322 := b_322
      have c_323 := b_323
      have c_324 := b_324
      have c_325 := b_325
      obtain ⟨f_6, ef_6⟩ : ∃ zq9, zq9 = va_up (va_up (va_up (va_up (va_up (va_up (va_up (va_up (va_up (va_up f 302 (.inr (7, mO ad 0 (n 0) (n 1) (n 2) (g 13 0) (n 3) (n 4) (n 5) (n 1)))) 319 (ai (ca 1) 320 b1)) 321 (ai (ca 0) 64 w1)) 323 (ai (ca 0) 8 v1)) 322 (ai (ca 0) 8 h1)) 320 (ai (ca 1) 36 (mkS (mkf (z 1) (sha (n 1) (fun x => g 0 x &&& nI 255)) 32) (crM (g 0) (n 1) ^^^ (-1)) 4))) 307 (ai (ca 1) 720 (wnt (g 4) (sha (n 1) (fun x => g 0 x &&& nI 255)) (crM (g 0) (n 1) ^^^ (-1)) (36 * n 2)))) 306 (ai (ca 0) 20 (upd (g 3) (n 2) (nI a)))) 305 (ai (ca 0) 20 (upd (g 2) (n 2) (nI (n 1))))) 304 (ai (ca 1) 4000 (cpF (g 1) (g 0) (200 * n 2) k)) := ⟨_, rfl⟩
      have hw : xw D vwCl N ad B s.heap f_6 H locs := by rw [ef_6]; exact hw
      have c_302 : f_6 302 = .inr (7, mO ad 0 (n 0) (n 1) (n 2) (g 13 0) (n 3) (n 4) (n 5) (n 1)) := by rw [ef_6, va_up_ne _ _ (by decide), va_up_ne _ _ (by decide), va_up_ne _ _ (by decide), va_up_ne _ _ (by decide), va_up_ne _ _ (by decide), va_up_ne _ _ (by decide), va_up_ne _ _ (by decide), va_up_ne _ _ (by decide), va_up_ne _ _ (by decide), va_up_self]
      have c_319 : f_6 319 = ai (ca 1) 320 b1 := by rw [ef_6, va_up_ne _ _ (by decide), va_up_ne _ _ (by decide), va_up_ne _ _ (by decide), va_up_ne _ _ (by decide), va_up_ne _ _ (by decide), va_up_ne _ _ (by decide), va_up_ne _ _ (by decide), va_up_ne _ _ (by decide), va_up_self]
      have c_321 : f_6 321 = ai (ca 0) 64 w1 := by rw [ef_6, va_up_ne _ _ (by decide), va_up_ne _ _ (by decide), va_up_ne _ _ (by decide), va_up_ne _ _ (by decide), va_up_ne _ _ (by decide), va_up_ne _ _ (by decide), va_up_ne _ _ (by decide), va_up_self]
      have c_323 : f_6 323 = ai (ca 0) 8 v1 := by rw [ef_6, va_up_ne _ _ (by decide), va_up_ne _ _ (by decide), va_up_ne _ _ (by decide), va_up_ne _ _ (by decide), va_up_ne _ _ (by decide), va_up_ne _ _ (by decide), va_up_self]
      have c_322 : f_6 322 = ai (ca 0) 8 h1 := by rw [ef_6, va_up_ne _ _ (by decide), va_up_ne _ _ (by decide), va_up_ne _ _ (by decide), va_up_ne _ _ (by decide), va_up_ne _ _ (by decide), va_up_self]
      have c_320 : f_6 320 = ai (ca 1) 36 (mkS (mkf (z 1) (sha (n 1) (fun x => g 0 x &&& nI 255)) 32) (crM (g 0) (n 1) ^^^ (-1)) 4) := by rw [ef_6, va_up_ne _ _ (by decide), va_up_ne _ _ (by decide), va_up_ne _ _ (by decide), va_up_ne _ _ (by decide), va_up_self]
      have c_307 : f_6 307 = ai (ca 1) 720 (wnt (g 4) (sha (n 1) (fun x => g 0 x &&& nI 255)) (crM (g 0) (n 1) ^^^ (-1)) (36 * n 2)) := by rw [ef_6, va_up_ne _ _ (by decide), va_up_ne _ _ (by decide), va_up_ne _ _ (by decide), va_up_self]
      have c_306 : f_6 306 = ai (ca 0) 20 (upd (g 3) (n 2) (nI a)) := by rw [ef_6, va_up_ne _ _ (by decide), va_up_ne _ _ (by decide), va_up_self]
      have c_305 : f_6 305 = ai (ca 0) 20 (upd (g 2) (n 2) (nI (n 1))) := by rw [ef_6, va_up_ne _ _ (by decide), va_up_self]
      have c_304 : f_6 304 = ai (ca 1) 4000 (cpF (g 1) (g 0) (200 * n 2) k) := by rw [ef_6, va_up_self]
      refine lv_iload hx hb dX6_file_108 (lv_at hl 4 rfl) ?_
      refine lv_aload_n hx hb dX6_file_110 rfl (lv_at hl 0 rfl) ?_
      refine x_get (ci := 7) (C := RX6) (T := TX6) (n := 32) (ref := RX6) hx hb hts hin_7 hown hK hw 302 (by omega) c_302 rfl 2 (by decide) hf_209 (fun _ h => h) rfl dX6_file_111 ?_
      refine n_icge (tgt := 143) hx hb dX6_file_114 (by decide) (by omega) (by omega) (fun hc_114 => ?_) (fun hc_114 => ?_)
      · have hw : xw D vwCl N ad B s.heap (va_up (va_up (va_up (va_up (va_up (va_up (va_up (va_up (va_up (va_up f 302 (.inr (7, mO ad 0 (n 0) (n 1) (n 2) (g 13 0) (n 3) (n 4) (n 5) (n 1)))) 319 (ai (ca 1) 320 b1)) 321 (ai (ca 0) 64 w1)) 323 (ai (ca 0) 8 v1)) 322 (ai (ca 0) 8 h1)) 320 (ai (ca 1) 36 (mkS (mkf (z 1) (sha (n 1) (fun x => g 0 x &&& nI 255)) 32) (crM (g 0) (n 1) ^^^ (-1)) 4))) 307 (ai (ca 1) 720 (wnt (g 4) (sha (n 1) (fun x => g 0 x &&& nI 255)) (crM (g 0) (n 1) ^^^ (-1)) (36 * n 2)))) 306 (ai (ca 0) 20 (upd (g 3) (n 2) (nI a)))) 305 (ai (ca 0) 20 (upd (g 2) (n 2) (nI (n 1))))) 304 (ai (ca 1) 4000 (cpF (g 1) (g 0) (200 * n 2) (n 1)))) H locs := by
          have ez : f_6 = va_up (va_up (va_up (va_up (va_up (va_up (va_up (va_up (va_up (va_up f 302 (.inr (7, mO ad 0 (n 0) (n 1) (n 2) (g 13 0) (n 3) (n 4) (n 5) (n 1)))) 319 (ai (ca 1) 320 b1)) 321 (ai (ca 0) 64 w1)) 323 (ai (ca 0) 8 v1)) 322 (ai (ca 0) 8 h1)) 320 (ai (ca 1) 36 (mkS (mkf (z 1) (sha (n 1) (fun x => g 0 x &&& nI 255)) 32) (crM (g 0) (n 1) ^^^ (-1)) 4))) 307 (ai (ca 1) 720 (wnt (g 4) (sha (n 1) (fun x => g 0 x &&& nI 255)) (crM (g 0) (n 1) ^^^ (-1)) (36 * n 2)))) 306 (ai (ca 0) 20 (upd (g 3) (n 2) (nI a)))) 305 (ai (ca 0) 20 (upd (g 2) (n 2) (nI (n 1))))) 304 (ai (ca 1) 4000 (cpF (g 1) (g 0) (200 * n 2) (n 1))) := by have ek : k = n 1 := (by omega); subst ek; simp only [ef_6]
          rw [← ez]; exact hw
        exact P_143 b1 w1 v1 h1 _ _ _  hw (lv_sub hl [0, 1, 2, 3] rfl)
      · refine lv_aload_n hx hb dX6_file_117 rfl (lv_at hl 0 rfl) ?_
        refine x_get (ci := 7) (C := RX6) (T := TX6) (n := 32) (ref := RX6) hx hb hts hin_7 hown hK hw 302 (by omega) c_302 rfl 5 (by decide) hf_13 (fun _ h => h) rfl dX6_file_118 ?_
        refine lv_sipush (v := nI 200) hx hb dX6_file_121 (by decide) ?_
        refine lv_iload_n hx hb dX6_file_124 rfl (lv_at hl 3 rfl) ?_
        refine n_imul hx hb dX6_file_125 ?_
        refine lv_iload hx hb dX6_file_126 (lv_at hl 4 rfl) ?_
        refine n_iadd hx hb dX6_file_128 ?_
        refine lv_aload_n hx hb dX6_file_129 rfl (lv_at hl 0 rfl) ?_
        refine x_get (ci := 7) (C := RX6) (T := TX6) (n := 32) (ref := RX6) hx hb hts hin_7 hown hK hw 302 (by omega) c_302 rfl 3 (by decide) hf_7 (fun _ h => h) rfl dX6_file_130 ?_
        refine lv_iload hx hb dX6_file_133 (lv_at hl 4 rfl) ?_
        have c_303 : f_6 303 = ai (ca 1) 200 (g 0) := by rw [ef_6, va_up_ne _ _ (by decide), va_up_ne _ _ (by decide), va_up_ne _ _ (by decide), va_up_ne _ _ (by decide), va_up_ne _ _ (by decide), va_up_ne _ _ (by decide), va_up_ne _ _ (by decide), va_up_ne _ _ (by decide), va_up_ne _ _ (by decide), va_up_ne _ _ (by decide)]; exact c_303
        refine x_bald (j := k) hx hb hK hw 303 1 (by omega) c_303 rfl rfl (by omega) (by decide) dX6_file_135 ?_
        refine x_bast (j := (200 * (n 2)) + k) (y := ((g 0) k).toInt8.toInt32) hx hb hK dd hw 304 1 (by omega) c_304 rfl rfl (by omega) (by decide) rfl dX6_file_136 (fun H locs hw => ?_)
        obtain ⟨f_7, ef_7⟩ : ∃ z, z = va_up f_6 304 (ai (ca 1) 4000 (upd (cpF (g 1) (g 0) (200 * n 2) k) ((200 * (n 2)) + k) (((g 0) k).toInt8.toInt32))) := ⟨_, rfl⟩
        have hw : xw D vwCl N ad B s.heap f_7 H locs := by rw [ef_7]; exact hw
        have c_304 : f_7 304 = ai (ca 1) 4000 (upd (cpF (g 1) (g 0) (200 * n 2) k) ((200 * (n 2)) + k) (((g 0) k).toInt8.toInt32)) := va_up_of ef_7
        refine lv_iinc (v := nI (k + 1)) (lv' := [(4, .int (nI (k + 1))), (0, .ref (ad 302)), (1, .int (nI a)), (2, .int (nI j)), (3, .int (nI (n 2)))]) hx hb dX6_file_137 hl (k := 4) rfl (by rw [show Int32.ofInt 1 = nI 1 from rfl]; exact nI_add _ _) (by decide) rfl (fun ls hl => ?_)
        refine lv_goto (tgt := 108) hx hb dX6_file_140 (by decide) ?_
        have hw : xw D vwCl N ad B s.heap (va_up (va_up (va_up (va_up (va_up (va_up (va_up (va_up (va_up (va_up f 302 (.inr (7, mO ad 0 (n 0) (n 1) (n 2) (g 13 0) (n 3) (n 4) (n 5) (n 1)))) 319 (ai (ca 1) 320 b1)) 321 (ai (ca 0) 64 w1)) 323 (ai (ca 0) 8 v1)) 322 (ai (ca 0) 8 h1)) 320 (ai (ca 1) 36 (mkS (mkf (z 1) (sha (n 1) (fun x => g 0 x &&& nI 255)) 32) (crM (g 0) (n 1) ^^^ (-1)) 4))) 307 (ai (ca 1) 720 (wnt (g 4) (sha (n 1) (fun x => g 0 x &&& nI 255)) (crM (g 0) (n 1) ^^^ (-1)) (36 * n 2)))) 306 (ai (ca 0) 20 (upd (g 3) (n 2) (nI a)))) 305 (ai (ca 0) 20 (upd (g 2) (n 2) (nI (n 1))))) 304 (ai (ca 1) 4000 (cpF (g 1) (g 0) (200 * n 2) (k + 1)))) H locs := by
          have ez : f_7 = va_up (va_up (va_up (va_up (va_up (va_up (va_up (va_up (va_up (va_up f 302 (.inr (7, mO ad 0 (n 0) (n 1) (n 2) (g 13 0) (n 3) (n 4) (n 5) (n 1)))) 319 (ai (ca 1) 320 b1)) 321 (ai (ca 0) 64 w1)) 323 (ai (ca 0) 8 v1)) 322 (ai (ca 0) 8 h1)) 320 (ai (ca 1) 36 (mkS (mkf (z 1) (sha (n 1) (fun x => g 0 x &&& nI 255)) 32) (crM (g 0) (n 1) ^^^ (-1)) 4))) 307 (ai (ca 1) 720 (wnt (g 4) (sha (n 1) (fun x => g 0 x &&& nI 255)) (crM (g 0) (n 1) ^^^ (-1)) (36 * n 2)))) 306 (ai (ca 0) 20 (upd (g 3) (n 2) (nI a)))) 305 (ai (ca 0) 20 (upd (g 2) (n 2) (nI (n 1))))) 304 (ai (ca 1) 4000 (cpF (g 1) (g 0) (200 * n 2) (k + 1))) := by simp only [ef_7, ef_6, up_aa, cpF_s]
          rw [← ez]; exact hw
        exact ih_108 b1 w1 v1 h1 (k + 1) _ _ _ (by omega) (by omega) hw (lv_sub hl [1, 2, 3, 4, 0] rfl)
  have P_88 : ∀ (b1 : Nat → Int32) (w1 : Nat → Int32) (v1 : Nat → Int32) (h1 : Nat → Int32) (H : Heap) (locs : List Loc) (ls : Array Slot), xw D vwCl N ad B s.heap (va_up (va_up (va_up (va_up (va_up (va_up (va_up f 302 (.inr (7, mO ad 0 (n 0) (n 1) (n 2) (g 13 0) (n 3) (n 4) (n 5) (n 1)))) 319 (ai (ca 1) 320 b1)) 321 (ai (ca 0) 64 w1)) 323 (ai (ca 0) 8 v1)) 322 (ai (ca 0) 8 h1)) 320 (ai (ca 1) 36 (mkS (mkf (z 1) (sha (n 1) (fun x => g 0 x &&& nI 255)) 32) (crM (g 0) (n 1) ^^^ (-1)) 4))) 307 (ai (ca 1) 720 (wnt (g 4) (sha (n 1) (fun x => g 0 x &&& nI 255)) (crM (g 0) (n 1) ^^^ (-1)) (36 * n 2)))) H locs → lv_has ls 5 [(0, .ref (ad 302)), (1, .int (nI a)), (2, .int (nI j)), (3, .int (nI (n 2)))] → W p l e rmX6_file s m ([.ref (ad 302), .int (nI a), .int (nI j)] : List Value).toArray below meth c H locs 0 0 (MQ below (xQi (fun r u => nI (n 2) = r ∧ ∃ (z1 : Nat → Nat → Int32) (zn1 : Nat), RepM ca ad (va_up (va_up (va_up n 7 0) 1 0) 2 ((n 2) + 1)) (va_up (va_up (va_up (va_up g 1 (cpF (g 1) (g 0) (200 * n 2) (n 1))) 2 (upd (g 2) (n 2) (nI (n 1)))) 3 (upd (g 3) (n 2) (nI a))) 4 (wnt (g 4) (sha (n 1) (fun x => g 0 x &&& nI 255)) (crM (g 0) (n 1) ^^^ (-1)) (36 * n 2))) z1 zn1 tb u ∧ ∀ y, (y < 302 ∨ 326 ≤ y) → u y = f y) D N ad B) ([.ref (ad 302), .int (nI a), .int (nI j)] : List Value).toArray s 0 0 (xA B)) (F0 m 88 ls []) := by
    intro b1 w1 v1 h1 H locs ls hw hl
    have c_302 := b_302
    have c_303 := b_303
    have c_304 := b_304
    have c_305 := b_305
    have c_306 := b_306
    have c_307 := b_307
    have c_308 := b_308
    have c_309 := b_309
    have c_310 := b_310
    have c_311 := b_311
    have c_312 := b_312
    have c_313 := b_313
    have c_314 := b_314
    have c_315 := b_315
    have c_316 := b_316
    have c_317 := b_317
    have c_318 := b_318
    have c_319 := b_319
    have c_320 := b_320
    have c_321 := b_321
    have c_322 := b_322
    have c_323 := b_323
    have c_324 := b_324
    have c_325 := b_325
    obtain ⟨f_8, ef_8⟩ : ∃ zq9, zq9 = va_up (va_up (va_up (va_up (va_up (va_up (va_up f 302 (.inr (7, mO ad 0 (n 0) (n 1) (n 2) (g 13 0) (n 3) (n 4) (n 5) (n 1)))) 319 (ai (ca 1) 320 b1)) 321 (ai (ca 0) 64 w1)) 323 (ai (ca 0) 8 v1)) 322 (ai (ca 0) 8 h1)) 320 (ai (ca 1) 36 (mkS (mkf (z 1) (sha (n 1) (fun x => g 0 x &&& nI 255)) 32) (crM (g 0) (n 1) ^^^ (-1)) 4))) 307 (ai (ca 1) 720 (wnt (g 4) (sha (n 1) (fun x => g 0 x &&& nI 255)) (crM (g 0) (n 1) ^^^ (-1)) (36 * n 2))) := ⟨_, rfl⟩
    have hw : xw D vwCl N ad B s.heap f_8 H locs := by rw [ef_8]; exact hw
    have c_302 : f_8 302 = .inr (7, mO ad 0 (n 0) (n 1) (n 2) (g 13 0) (n 3) (n 4) (n 5) (n 1)) := by rw [ef_8, va_up_ne _ _ (by decide), va_up_ne _ _ (by decide), va_up_ne _ _ (by decide), va_up_ne _ _ (by decide), va_up_ne _ _ (by decide), va_up_ne _ _ (by decide), va_up_self]
    have c_319 : f_8 319 = ai (ca 1) 320 b1 := by rw [ef_8, va_up_ne _ _ (by decide), va_up_ne _ _ (by decide), va_up_ne _ _ (by decide), va_up_ne _ _ (by decide), va_up_ne _ _ (by decide), va_up_self]
    have c_321 : f_8 321 = ai (ca 0) 64 w1 := by rw [ef_8, va_up_ne _ _ (by decide), va_up_ne _ _ (by decide), va_up_ne _ _ (by decide), va_up_ne _ _ (by decide), va_up_self]
    have c_323 : f_8 323 = ai (ca 0) 8 v1 := by rw [ef_8, va_up_ne _ _ (by decide), va_up_ne _ _ (by decide), va_up_ne _ _ (by decide), va_up_self]
    have c_322 : f_8 322 = ai (ca 0) 8 h1 := by rw [ef_8, va_up_ne _ _ (by decide), va_up_ne _ _ (by decide), va_up_self]
    have c_320 : f_8 320 = ai (ca 1) 36 (mkS (mkf (z 1) (sha (n 1) (fun x => g 0 x &&& nI 255)) 32) (crM (g 0) (n 1) ^^^ (-1)) 4) := by rw [ef_8, va_up_ne _ _ (by decide), va_up_self]
    have c_307 : f_8 307 = ai (ca 1) 720 (wnt (g 4) (sha (n 1) (fun x => g 0 x &&& nI 255)) (crM (g 0) (n 1) ^^^ (-1)) (36 * n 2)) := by rw [ef_8, va_up_self]
    refine lv_aload_n hx hb dX6_file_88 rfl (lv_at hl 0 rfl) ?_
    refine x_get (ci := 7) (C := RX6) (T := TX6) (n := 32) (ref := RX6) hx hb hts hin_7 hown hK hw 302 (by omega) c_302 rfl 7 (by decide) hf_20 (fun _ h => h) rfl dX6_file_89 ?_
    refine lv_iload_n hx hb dX6_file_92 rfl (lv_at hl 3 rfl) ?_
    refine lv_iload_n hx hb dX6_file_93 rfl (lv_at hl 1 rfl) ?_
    have c_306 : f_8 306 = ai (ca 0) 20 (g 3) := by rw [ef_8, va_up_ne _ _ (by decide), va_up_ne _ _ (by decide), va_up_ne _ _ (by decide), va_up_ne _ _ (by decide), va_up_ne _ _ (by decide), va_up_ne _ _ (by decide), va_up_ne _ _ (by decide)]; exact c_306
    refine x_iast (j := n 2) hx hb hK dd hw 306 0 (by omega) c_306 rfl rfl (by omega) (by decide) dX6_file_94 (fun H locs hw => ?_)
    obtain ⟨f_9, ef_9⟩ : ∃ z, z = va_up f_8 306 (ai (ca 0) 20 (upd (g 3) (n 2) (nI a))) := ⟨_, rfl⟩
    have hw : xw D vwCl N ad B s.heap f_9 H locs := by rw [ef_9]; exact hw
    have c_306 : f_9 306 = ai (ca 0) 20 (upd (g 3) (n 2) (nI a)) := va_up_of ef_9
    refine lv_aload_n hx hb dX6_file_95 rfl (lv_at hl 0 rfl) ?_
    have c_302 : f_9 302 = .inr (7, mO ad 0 (n 0) (n 1) (n 2) (g 13 0) (n 3) (n 4) (n 5) (n 1)) := by rw [ef_9, va_up_ne _ _ (by decide)]; exact c_302
    refine x_get (ci := 7) (C := RX6) (T := TX6) (n := 32) (ref := RX6) hx hb hts hin_7 hown hK hw 302 (by omega) c_302 rfl 6 (by decide) hf_16 (fun _ h => h) rfl dX6_file_96 ?_
    refine lv_iload_n hx hb dX6_file_99 rfl (lv_at hl 3 rfl) ?_
    refine lv_aload_n hx hb dX6_file_100 rfl (lv_at hl 0 rfl) ?_
    refine x_get (ci := 7) (C := RX6) (T := TX6) (n := 32) (ref := RX6) hx hb hts hin_7 hown hK hw 302 (by omega) c_302 rfl 2 (by decide) hf_209 (fun _ h => h) rfl dX6_file_101 ?_
    have c_305 : f_9 305 = ai (ca 0) 20 (g 2) := by rw [ef_9, va_up_ne _ _ (by decide), ef_8, va_up_ne _ _ (by decide), va_up_ne _ _ (by decide), va_up_ne _ _ (by decide), va_up_ne _ _ (by decide), va_up_ne _ _ (by decide), va_up_ne _ _ (by decide), va_up_ne _ _ (by decide)]; exact c_305
    refine x_iast (j := n 2) hx hb hK dd hw 305 0 (by omega) c_305 rfl rfl (by omega) (by decide) dX6_file_104 (fun H locs hw => ?_)
    obtain ⟨f_10, ef_10⟩ : ∃ z, z = va_up f_9 305 (ai (ca 0) 20 (upd (g 2) (n 2) (nI (n 1)))) := ⟨_, rfl⟩
    have hw : xw D vwCl N ad B s.heap f_10 H locs := by rw [ef_10]; exact hw
    have c_305 : f_10 305 = ai (ca 0) 20 (upd (g 2) (n 2) (nI (n 1))) := va_up_of ef_10
    refine lv_iconst (v := nI 0) hx hb dX6_file_105 (by decide) ?_
    refine lv_istore (lv' := [(4, .int (nI 0)), (0, .ref (ad 302)), (1, .int (nI a)), (2, .int (nI j)), (3, .int (nI (n 2)))]) hx hb dX6_file_106 hl (by decide) rfl (fun ls hl => ?_)
    have hw : xw D vwCl N ad B s.heap (va_up (va_up (va_up (va_up (va_up (va_up (va_up (va_up (va_up (va_up f 302 (.inr (7, mO ad 0 (n 0) (n 1) (n 2) (g 13 0) (n 3) (n 4) (n 5) (n 1)))) 319 (ai (ca 1) 320 b1)) 321 (ai (ca 0) 64 w1)) 323 (ai (ca 0) 8 v1)) 322 (ai (ca 0) 8 h1)) 320 (ai (ca 1) 36 (mkS (mkf (z 1) (sha (n 1) (fun x => g 0 x &&& nI 255)) 32) (crM (g 0) (n 1) ^^^ (-1)) 4))) 307 (ai (ca 1) 720 (wnt (g 4) (sha (n 1) (fun x => g 0 x &&& nI 255)) (crM (g 0) (n 1) ^^^ (-1)) (36 * n 2)))) 306 (ai (ca 0) 20 (upd (g 3) (n 2) (nI a)))) 305 (ai (ca 0) 20 (upd (g 2) (n 2) (nI (n 1))))) 304 (ai (ca 1) 4000 (cpF (g 1) (g 0) (200 * n 2) 0))) H locs := by
      have ez : f_10 = va_up (va_up (va_up (va_up (va_up (va_up (va_up (va_up (va_up (va_up f 302 (.inr (7, mO ad 0 (n 0) (n 1) (n 2) (g 13 0) (n 3) (n 4) (n 5) (n 1)))) 319 (ai (ca 1) 320 b1)) 321 (ai (ca 0) 64 w1)) 323 (ai (ca 0) 8 v1)) 322 (ai (ca 0) 8 h1)) 320 (ai (ca 1) 36 (mkS (mkf (z 1) (sha (n 1) (fun x => g 0 x &&& nI 255)) 32) (crM (g 0) (n 1) ^^^ (-1)) 4))) 307 (ai (ca 1) 720 (wnt (g 4) (sha (n 1) (fun x => g 0 x &&& nI 255)) (crM (g 0) (n 1) ^^^ (-1)) (36 * n 2)))) 306 (ai (ca 0) 20 (upd (g 3) (n 2) (nI a)))) 305 (ai (ca 0) 20 (upd (g 2) (n 2) (nI (n 1))))) 304 (ai (ca 1) 4000 (cpF (g 1) (g 0) (200 * n 2) 0)) := by rw [cpF_0]; simp only [ef_10, ef_9, ef_8]; exact (up_noop (by simp only [va_up]; exact b_304)).symm
      rw [← ez]; exact hw
    exact P_108 ((n 1 + 1)) b1 w1 v1 h1 0 _ _ _ (by omega) (by omega) hw (lv_sub hl [1, 2, 3, 4, 0] rfl)
  have P_56 : ∀ (n_56 : Nat) (b1 : Nat → Int32) (w1 : Nat → Int32) (v1 : Nat → Int32) (h1 : Nat → Int32) (k : Nat) (H : Heap) (locs : List Loc) (ls : Array Slot), 36 + 1 ≤ k + n_56 → (k ≤ 36) → xw D vwCl N ad B s.heap (va_up (va_up (va_up (va_up (va_up (va_up (va_up f 302 (.inr (7, mO ad 0 (n 0) (n 1) (n 2) (g 13 0) (n 3) (n 4) (n 5) (n 1)))) 319 (ai (ca 1) 320 b1)) 321 (ai (ca 0) 64 w1)) 323 (ai (ca 0) 8 v1)) 322 (ai (ca 0) 8 h1)) 320 (ai (ca 1) 36 (mkS (mkf (z 1) (sha (n 1) (fun x => g 0 x &&& nI 255)) 32) (crM (g 0) (n 1) ^^^ (-1)) 4))) 307 (ai (ca 1) 720 (cpF (g 4) (mkS (mkf (z 1) (sha (n 1) (fun x => g 0 x &&& nI 255)) 32) (crM (g 0) (n 1) ^^^ (-1)) 4) (36 * n 2) k))) H locs → lv_has ls 5 [(0, .ref (ad 302)), (1, .int (nI a)), (2, .int (nI j)), (3, .int (nI (n 2))), (4, .int (nI k))] → W p l e rmX6_file s m ([.ref (ad 302), .int (nI a), .int (nI j)] : List Value).toArray below meth c H locs 0 0 (MQ below (xQi (fun r u => nI (n 2) = r ∧ ∃ (z1 : Nat → Nat → Int32) (zn1 : Nat), RepM ca ad (va_up (va_up (va_up n 7 0) 1 0) 2 ((n 2) + 1)) (va_up (va_up (va_up (va_up g 1 (cpF (g 1) (g 0) (200 * n 2) (n 1))) 2 (upd (g 2) (n 2) (nI (n 1)))) 3 (upd (g 3) (n 2) (nI a))) 4 (wnt (g 4) (sha (n 1) (fun x => g 0 x &&& nI 255)) (crM (g 0) (n 1) ^^^ (-1)) (36 * n 2))) z1 zn1 tb u ∧ ∀ y, (y < 302 ∨ 326 ≤ y) → u y = f y) D N ad B) ([.ref (ad 302), .int (nI a), .int (nI j)] : List Value).toArray s 0 0 (xA B)) (F0 m 56 ls []) := by
    intro n_56
    induction n_56 with
    | zero =>
      intro b1 w1 v1 h1 k H locs ls hm_56 hk hw hl
      exact absurd hm_56 (by omega)
    | succ n_56 ih_56 =>
      intro b1 w1 v1 h1 k H locs ls hm_56 hk hw hl
      have c_302 := b_302
      have c_303 := b_303
      have c_304 := b_304
      have c_305 := b_305
      have c_306 := b_306
      have c_307 := b_307
      have c_308 := b_308
      have c_309 := b_309
      have c_310 := b_310
      have c_311 := b_311
      have c_312 := b_312
      have c_313 := b_313
      have c_314 := b_314
      have c_315 := b_315
      have c_316 := b_316
      have c_317 := b_317
      have c_318 := b_318
      have c_319 := b_319
      have c_320 := b_320
      have c_321 := b_321
      have c_322 := b_322
      have c_323 := b_323
      have c_324 := b_324
      have c_325 := b_325
      obtain ⟨f_11, ef_11⟩ : ∃ zq9, zq9 = va_up (va_up (va_up (va_up (va_up (va_up (va_up f 302 (.inr (7, mO ad 0 (n 0) (n 1) (n 2) (g 13 0) (n 3) (n 4) (n 5) (n 1)))) 319 (ai (ca 1) 320 b1)) 321 (ai (ca 0) 64 w1)) 323 (ai (ca 0) 8 v1)) 322 (ai (ca 0) 8 h1)) 320 (ai (ca 1) 36 (mkS (mkf (z 1) (sha (n 1) (fun x => g 0 x &&& nI 255)) 32) (crM (g 0) (n 1) ^^^ (-1)) 4))) 307 (ai (ca 1) 720 (cpF (g 4) (mkS (mkf (z 1) (sha (n 1) (fun x => g 0 x &&& nI 255)) 32) (crM (g 0) (n 1) ^^^ (-1)) 4) (36 * n 2) k)) := ⟨_, rfl⟩
      have hw : xw D vwCl N ad B s.heap f_11 H locs := by rw [ef_11]; exact hw
      have c_302 : f_11 302 = .inr (7, mO ad 0 (n 0) (n 1) (n 2) (g 13 0) (n 3) (n 4) (n 5) (n 1)) := by rw [ef_11, va_up_ne _ _ (by decide), va_up_ne _ _ (by decide), va_up_ne _ _ (by decide), va_up_ne _ _ (by decide), va_up_ne _ _ (by decide), va_up_ne _ _ (by decide), va_up_self]
      have c_319 : f_11 319 = ai (ca 1) 320 b1 := by rw [ef_11, va_up_ne _ _ (by decide), va_up_ne _ _ (by decide), va_up_ne _ _ (by decide), va_up_ne _ _ (by decide), va_up_ne _ _ (by decide), va_up_self]
      have c_321 : f_11 321 = ai (ca 0) 64 w1 := by rw [ef_11, va_up_ne _ _ (by decide), va_up_ne _ _ (by decide), va_up_ne _ _ (by decide), va_up_ne _ _ (by decide), va_up_self]
      have c_323 : f_11 323 = ai (ca 0) 8 v1 := by rw [ef_11, va_up_ne _ _ (by decide), va_up_ne _ _ (by decide), va_up_ne _ _ (by decide), va_up_self]
      have c_322 : f_11 322 = ai (ca 0) 8 h1 := by rw [ef_11, va_up_ne _ _ (by decide), va_up_ne _ _ (by decide), va_up_self]
      have c_320 : f_11 320 = ai (ca 1) 36 (mkS (mkf (z 1) (sha (n 1) (fun x => g 0 x &&& nI 255)) 32) (crM (g 0) (n 1) ^^^ (-1)) 4) := by rw [ef_11, va_up_ne _ _ (by decide), va_up_self]
      have c_307 : f_11 307 = ai (ca 1) 720 (cpF (g 4) (mkS (mkf (z 1) (sha (n 1) (fun x => g 0 x &&& nI 255)) 32) (crM (g 0) (n 1) ^^^ (-1)) 4) (36 * n 2) k) := by rw [ef_11, va_up_self]
      refine lv_iload hx hb dX6_file_56 (lv_at hl 4 rfl) ?_
      refine lv_bipush (v := nI 36) hx hb dX6_file_58 (by decide) ?_
      refine n_icge (tgt := 88) hx hb dX6_file_60 (by decide) (by omega) (by omega) (fun hc_60 => ?_) (fun hc_60 => ?_)
      · have hw : xw D vwCl N ad B s.heap (va_up (va_up (va_up (va_up (va_up (va_up (va_up f 302 (.inr (7, mO ad 0 (n 0) (n 1) (n 2) (g 13 0) (n 3) (n 4) (n 5) (n 1)))) 319 (ai (ca 1) 320 b1)) 321 (ai (ca 0) 64 w1)) 323 (ai (ca 0) 8 v1)) 322 (ai (ca 0) 8 h1)) 320 (ai (ca 1) 36 (mkS (mkf (z 1) (sha (n 1) (fun x => g 0 x &&& nI 255)) 32) (crM (g 0) (n 1) ^^^ (-1)) 4))) 307 (ai (ca 1) 720 (wnt (g 4) (sha (n 1) (fun x => g 0 x &&& nI 255)) (crM (g 0) (n 1) ^^^ (-1)) (36 * n 2)))) H locs := by
          have ez : f_11 = va_up (va_up (va_up (va_up (va_up (va_up (va_up f 302 (.inr (7, mO ad 0 (n 0) (n 1) (n 2) (g 13 0) (n 3) (n 4) (n 5) (n 1)))) 319 (ai (ca 1) 320 b1)) 321 (ai (ca 0) 64 w1)) 323 (ai (ca 0) 8 v1)) 322 (ai (ca 0) 8 h1)) 320 (ai (ca 1) 36 (mkS (mkf (z 1) (sha (n 1) (fun x => g 0 x &&& nI 255)) 32) (crM (g 0) (n 1) ^^^ (-1)) 4))) 307 (ai (ca 1) 720 (wnt (g 4) (sha (n 1) (fun x => g 0 x &&& nI 255)) (crM (g 0) (n 1) ^^^ (-1)) (36 * n 2))) := by have ek : k = 36 := (by omega); subst ek; rw [← cpF_wnt (g 4) (z 1)]; simp only [ef_11]
          rw [← ez]; exact hw
        exact P_88 b1 w1 v1 h1 _ _ _  hw (lv_sub hl [0, 1, 2, 3] rfl)
      · refine lv_aload_n hx hb dX6_file_63 rfl (lv_at hl 0 rfl) ?_
        refine x_get (ci := 7) (C := RX6) (T := TX6) (n := 32) (ref := RX6) hx hb hts hin_7 hown hK hw 302 (by omega) c_302 rfl 8 (by decide) hf_23 (fun _ h => h) rfl dX6_file_64 ?_
        refine lv_bipush (v := nI 36) hx hb dX6_file_67 (by decide) ?_
        refine lv_iload_n hx hb dX6_file_69 rfl (lv_at hl 3 rfl) ?_
        refine n_imul hx hb dX6_file_70 ?_
        refine lv_iload hx hb dX6_file_71 (lv_at hl 4 rfl) ?_
        refine n_iadd hx hb dX6_file_73 ?_
        refine lv_aload_n hx hb dX6_file_74 rfl (lv_at hl 0 rfl) ?_
        refine x_get (ci := 7) (C := RX6) (T := TX6) (n := 32) (ref := RX6) hx hb hts hin_7 hown hK hw 302 (by omega) c_302 rfl 26 (by decide) hf_67 (fun _ h => h) rfl dX6_file_75 ?_
        refine lv_iload hx hb dX6_file_78 (lv_at hl 4 rfl) ?_
        refine x_bald (j := k) hx hb hK hw 320 1 (by omega) c_320 rfl rfl (by omega) (by decide) dX6_file_80 ?_
        refine x_bast (j := (36 * (n 2)) + k) (y := ((mkS (mkf (z 1) (sha (n 1) (fun x => g 0 x &&& nI 255)) 32) (crM (g 0) (n 1) ^^^ (-1)) 4) k).toInt8.toInt32) hx hb hK dd hw 307 1 (by omega) c_307 rfl rfl (by omega) (by decide) rfl dX6_file_81 (fun H locs hw => ?_)
        obtain ⟨f_12, ef_12⟩ : ∃ zq9, zq9 = va_up f_11 307 (ai (ca 1) 720 (upd (cpF (g 4) (mkS (mkf (z 1) (sha (n 1) (fun x => g 0 x &&& nI 255)) 32) (crM (g 0) (n 1) ^^^ (-1)) 4) (36 * n 2) k) ((36 * (n 2)) + k) (((mkS (mkf (z 1) (sha (n 1) (fun x => g 0 x &&& nI 255)) 32) (crM (g 0) (n 1) ^^^ (-1)) 4) k).toInt8.toInt32))) := ⟨_, rfl⟩
        have hw : xw D vwCl N ad B s.heap f_12 H locs := by rw [ef_12]; exact hw
        have c_307 : f_12 307 = ai (ca 1) 720 (upd (cpF (g 4) (mkS (mkf (z 1) (sha (n 1) (fun x => g 0 x &&& nI 255)) 32) (crM (g 0) (n 1) ^^^ (-1)) 4) (36 * n 2) k) ((36 * (n 2)) + k) (((mkS (mkf (z 1) (sha (n 1) (fun x => g 0 x &&& nI 255)) 32) (crM (g 0) (n 1) ^^^ (-1)) 4) k).toInt8.toInt32)) := va_up_of ef_12
        refine lv_iinc (v := nI (k + 1)) (lv' := [(4, .int (nI (k + 1))), (0, .ref (ad 302)), (1, .int (nI a)), (2, .int (nI j)), (3, .int (nI (n 2)))]) hx hb dX6_file_82 hl (k := 4) rfl (by rw [show Int32.ofInt 1 = nI 1 from rfl]; exact nI_add _ _) (by decide) rfl (fun ls hl => ?_)
        refine lv_goto (tgt := 56) hx hb dX6_file_85 (by decide) ?_
        have hw : xw D vwCl N ad B s.heap (va_up (va_up (va_up (va_up (va_up (va_up (va_up f 302 (.inr (7, mO ad 0 (n 0) (n 1) (n 2) (g 13 0) (n 3) (n 4) (n 5) (n 1)))) 319 (ai (ca 1) 320 b1)) 321 (ai (ca 0) 64 w1)) 323 (ai (ca 0) 8 v1)) 322 (ai (ca 0) 8 h1)) 320 (ai (ca 1) 36 (mkS (mkf (z 1) (sha (n 1) (fun x => g 0 x &&& nI 255)) 32) (crM (g 0) (n 1) ^^^ (-1)) 4))) 307 (ai (ca 1) 720 (cpF (g 4) (mkS (mkf (z 1) (sha (n 1) (fun x => g 0 x &&& nI 255)) 32) (crM (g 0) (n 1) ^^^ (-1)) 4) (36 * n 2) (k + 1)))) H locs := by
          have ez : f_12 = va_up (va_up (va_up (va_up (va_up (va_up (va_up f 302 (.inr (7, mO ad 0 (n 0) (n 1) (n 2) (g 13 0) (n 3) (n 4) (n 5) (n 1)))) 319 (ai (ca 1) 320 b1)) 321 (ai (ca 0) 64 w1)) 323 (ai (ca 0) 8 v1)) 322 (ai (ca 0) 8 h1)) 320 (ai (ca 1) 36 (mkS (mkf (z 1) (sha (n 1) (fun x => g 0 x &&& nI 255)) 32) (crM (g 0) (n 1) ^^^ (-1)) 4))) 307 (ai (ca 1) 720 (cpF (g 4) (mkS (mkf (z 1) (sha (n 1) (fun x => g 0 x &&& nI 255)) 32) (crM (g 0) (n 1) ^^^ (-1)) 4) (36 * n 2) (k + 1))) := by simp only [ef_12, ef_11, up_aa, cpF_s]
          rw [← ez]; exact hw
        exact ih_56 b1 w1 v1 h1 (k + 1) _ _ _ (by omega) (by omega) hw (lv_sub hl [1, 2, 3, 4, 0] rfl)
  refine lv_aload_n hx hb dX6_file_0 rfl (lv_at hl 0 rfl) ?_
  refine lv_iconst (v := nI 0) hx hb dX6_file_1 (by decide) ?_
  refine x_put (ci := 7) (C := RX6) (T := TX6) (n := 32) (ref := RX6) (fs' := mO ad 0 (n 0) (n 1) (n 2) (g 13 0) (n 3) (n 4) (n 5) zn) hx hb hts hin_7 tyX6 tyX6_ok nmX6 hown hK dd hw 302 (by omega) c_302 rfl 0 (by decide) hf_160 (fun _ h => h) rfl rfl rfl (Nat.le_of_ble_eq_true rfl) rfl dX6_file_2 (fun H locs hw => ?_)
  obtain ⟨f_13, ef_13⟩ : ∃ z, z = va_up f 302 (.inr (7, mO ad 0 (n 0) (n 1) (n 2) (g 13 0) (n 3) (n 4) (n 5) zn)) := ⟨_, rfl⟩
  have hw : xw D vwCl N ad B s.heap f_13 H locs := by rw [ef_13]; exact hw
  have c_302 : f_13 302 = .inr (7, mO ad 0 (n 0) (n 1) (n 2) (g 13 0) (n 3) (n 4) (n 5) zn) := va_up_of ef_13
  refine lv_iload_n hx hb dX6_file_5 rfl (lv_at hl 1 rfl) ?_
  refine lv_iconst (v := nI 1) hx hb dX6_file_6 (by decide) ?_
  refine lv_iconst (v := nI 3) hx hb dX6_file_7 (by decide) ?_
  refine x_Si (As := [.int (nI a), .int (nI 1), .int (nI 3)]) (rest := []) ⟨hx, hb, hml, hown, hts⟩ (k_X6_in_yes l D ca N ad B tR tK f_13 dd a 1 3   (by omega) (by omega) (by omega)) (va_cwS 3 hts gX6_file_X6_in rfl rfl rfl (by decide +kernel) ⟨Nat.le_of_ble_eq_true rfl, Nat.le_of_ble_eq_true rfl⟩) hK hE hB hw rfl rfl hl.1 (Nat.le_of_ble_eq_true rfl) ⟨Nat.zero_le _, Nat.zero_le _⟩ dX6_file_8 (fun r_15 f_14 H locs hp hw => ?_)
  obtain ⟨er, eu⟩ := hp
  rw [← er]
  rw [← eu] at hw
  refine lv_if_eq (tgt := 21) hx hb dX6_file_11 (by decide) (fun h => absurd h (by decide)) (fun _ => ?_)
  refine lv_iload_n hx hb dX6_file_14 rfl (lv_at hl 2 rfl) ?_
  refine x_Si (As := [.int (nI j)]) (rest := []) ⟨hx, hb, hml, hown, hts⟩ (k_X6_isDay_yes l D ca N ad B tR tK f_13 dd j   (by omega)) (va_cwS 1 hts gX6_file_X6_isDay rfl rfl rfl (by decide +kernel) ⟨Nat.le_of_ble_eq_true rfl, Nat.le_of_ble_eq_true rfl⟩) hK hE hB hw rfl rfl hl.1 (Nat.le_of_ble_eq_true rfl) ⟨Nat.zero_le _, Nat.zero_le _⟩ dX6_file_15 (fun r_17 f_16 H locs hp hw => ?_)
  obtain ⟨er, eu⟩ := hp
  rw [← er]
  rw [← eu] at hw
  refine lv_if_ne (tgt := 24) hx hb dX6_file_18 (by decide) (fun _ => ?_) (fun h => absurd h (by decide))
  refine lv_aload_n hx hb dX6_file_24 rfl (lv_at hl 0 rfl) ?_
  refine x_get (ci := 7) (C := RX6) (T := TX6) (n := 32) (ref := RX6) hx hb hts hin_7 hown hK hw 302 (by omega) c_302 rfl 4 (by decide) hf_163 (fun _ h => h) rfl dX6_file_25 ?_
  refine lv_bipush (v := nI 20) hx hb dX6_file_28 (by decide) ?_
  refine n_icne (tgt := 36) hx hb dX6_file_30 (by decide) (by omega) (by omega) (fun hc_30 => ?_) (fun hc_30 => ?_)
  · refine lv_aload_n hx hb dX6_file_36 rfl (lv_at hl 0 rfl) ?_
    refine x_get (ci := 7) (C := RX6) (T := TX6) (n := 32) (ref := RX6) hx hb hts hin_7 hown hK hw 302 (by omega) c_302 rfl 4 (by decide) hf_163 (fun _ h => h) rfl dX6_file_37 ?_
    refine lv_istore_n (lv' := [(3, .int (nI (n 2))), (0, .ref (ad 302)), (1, .int (nI a)), (2, .int (nI j))]) hx hb dX6_file_40 rfl hl (by decide) rfl (fun ls hl => ?_)
    refine lv_aload_n hx hb dX6_file_41 rfl (lv_at hl 1 rfl) ?_
    have c_303 : f_13 303 = ai (ca 1) 200 (g 0) := by rw [ef_13, va_up_ne _ _ (by decide)]; exact c_303
    have c_319 : f_13 319 = ai (ca 1) 320 (z 0) := by rw [ef_13, va_up_ne _ _ (by decide)]; exact c_319
    refine x_Vv (q := 302) (As := []) (rest := []) ⟨hx, hb, hml, hown, hts⟩ (k_X6_gather l D ca N ad B tR tK f_13 dd 0 (n 0) (n 1) (n 2) (g 13 0) (n 3) (n 4) (n 5) zn (z 0) (g 0) c_302 c_303 c_319  (by omega) (by omega)) (cwV 0 hts gX6_file_X6_gather rfl rfl rfl (by decide +kernel) ⟨Nat.le_of_ble_eq_true rfl, Nat.le_of_ble_eq_true rfl⟩) hK hE hB hw (by omega) c_302 rfl rfl rfl rfl hl.1 (Nat.le_of_ble_eq_true rfl) ⟨Nat.zero_le _, Nat.zero_le _⟩ dX6_file_42 (fun f_18 H locs hp hw => ?_)
    have eu := hp
    have ef_18 : f_18 = va_up (va_up f_13 302 (.inr (7, mO ad 0 (n 0) (n 1) (n 2) (g 13 0) (n 3) (n 4) (n 5) (n 1)))) 319 (ai (ca 1) 320 (cpB (z 0) (g 0) (n 1))) := eu
    have c_302 : f_18 302 = .inr (7, mO ad 0 (n 0) (n 1) (n 2) (g 13 0) (n 3) (n 4) (n 5) (n 1)) := by rw [ef_18, va_up_ne _ _ (by decide), va_up_self]
    have c_319 : f_18 319 = ai (ca 1) 320 (cpB (z 0) (g 0) (n 1)) := by rw [ef_18, va_up_self]
    refine lv_aload_n hx hb dX6_file_45 rfl (lv_at hl 1 rfl) ?_
    have c_320 : f_18 320 = ai (ca 1) 36 (z 1) := by rw [ef_18, va_up_ne _ _ (by decide), va_up_ne _ _ (by decide), ef_13, va_up_ne _ _ (by decide)]; exact c_320
    have c_321 : f_18 321 = ai (ca 0) 64 (z 2) := by rw [ef_18, va_up_ne _ _ (by decide), va_up_ne _ _ (by decide), ef_13, va_up_ne _ _ (by decide)]; exact c_321
    have c_322 : f_18 322 = ai (ca 0) 8 (z 3) := by rw [ef_18, va_up_ne _ _ (by decide), va_up_ne _ _ (by decide), ef_13, va_up_ne _ _ (by decide)]; exact c_322
    have c_323 : f_18 323 = ai (ca 0) 8 (z 4) := by rw [ef_18, va_up_ne _ _ (by decide), va_up_ne _ _ (by decide), ef_13, va_up_ne _ _ (by decide)]; exact c_323
    have c_324 : f_18 324 = ai (ca 0) 8 shR := by rw [ef_18, va_up_ne _ _ (by decide), va_up_ne _ _ (by decide), ef_13, va_up_ne _ _ (by decide)]; exact c_324
    have c_325 : f_18 325 = ai (ca 0) 64 shK := by rw [ef_18, va_up_ne _ _ (by decide), va_up_ne _ _ (by decide), ef_13, va_up_ne _ _ (by decide)]; exact c_325
    refine x_Vv (q := 302) (As := []) (rest := []) ⟨hx, hb, hml, hown, hts⟩ (k_X6_long1 l D ca N ad B tR tK f_18 dd 0 (n 0) (n 1) (n 2) (g 13 0) (n 3) (n 4) (n 5) (n 1) (cpB (z 0) (g 0) (n 1)) (z 1) (z 2) (z 3) (z 4) c_302 c_319 c_320 c_321 c_322 c_323 c_324 c_325  (by omega) (by omega)) (cwV 0 hts gX6_file_X6_long1 rfl rfl rfl (by decide +kernel) ⟨Nat.le_of_ble_eq_true rfl, Nat.le_of_ble_eq_true rfl⟩) hK hE hB hw (by omega) c_302 rfl rfl rfl rfl hl.1 (Nat.le_of_ble_eq_true rfl) ⟨Nat.zero_le _, Nat.zero_le _⟩ dX6_file_46 (fun f_20 H locs hp hw => ?_)
    obtain ⟨b1_22, w1_23, v1_24, h1_25, hq_26, eu⟩ := hp
    have ef_20 : f_20 = va_up (va_up (va_up (va_up (va_up f_18 319 (ai (ca 1) 320 b1_22)) 321 (ai (ca 0) 64 w1_23)) 323 (ai (ca 0) 8 v1_24)) 322 (ai (ca 0) 8 h1_25)) 320 (ai (ca 1) 36 (mkf (z 1) (sha (n 1) (fun i7 => (cpB (z 0) (g 0) (n 1)) i7 &&& nI 255)) 32)) := eu
    have c_319 : f_20 319 = ai (ca 1) 320 b1_22 := by rw [ef_20, va_up_ne _ _ (by decide), va_up_ne _ _ (by decide), va_up_ne _ _ (by decide), va_up_ne _ _ (by decide), va_up_self]
    have c_321 : f_20 321 = ai (ca 0) 64 w1_23 := by rw [ef_20, va_up_ne _ _ (by decide), va_up_ne _ _ (by decide), va_up_ne _ _ (by decide), va_up_self]
    have c_323 : f_20 323 = ai (ca 0) 8 v1_24 := by rw [ef_20, va_up_ne _ _ (by decide), va_up_ne _ _ (by decide), va_up_self]
    have c_322 : f_20 322 = ai (ca 0) 8 h1_25 := by rw [ef_20, va_up_ne _ _ (by decide), va_up_self]
    have c_320 : f_20 320 = ai (ca 1) 36 (mkf (z 1) (sha (n 1) (fun i7 => (cpB (z 0) (g 0) (n 1)) i7 &&& nI 255)) 32) := by rw [ef_20, va_up_self]
    have c_320 : f_20 320 = ai (ca 1) 36 (mkf (z 1) (sha (n 1) (fun x => g 0 x &&& nI 255)) 32) := by rw [c_320]; rw [sha_ext (g := fun i7 => cpB (z 0) (g 0) (n 1) i7 &&& nI 255) (g' := fun x => g 0 x &&& nI 255) (fun q hq => cpB_at hq)]
    refine lv_aload_n hx hb dX6_file_49 rfl (lv_at hl 1 rfl) ?_
    have c_302 : f_20 302 = .inr (7, mO ad 0 (n 0) (n 1) (n 2) (g 13 0) (n 3) (n 4) (n 5) (n 1)) := by rw [ef_20, va_up_ne _ _ (by decide), va_up_ne _ _ (by decide), va_up_ne _ _ (by decide), va_up_ne _ _ (by decide), va_up_ne _ _ (by decide)]; exact c_302
    refine x_Vv (q := 302) (As := []) (rest := []) ⟨hx, hb, hml, hown, hts⟩ (k_X6_short1 l D ca N ad B tR tK f_20 dd 0 (n 0) (n 1) (n 2) (g 13 0) (n 3) (n 4) (n 5) (n 1) b1_22 (mkf (z 1) (sha (n 1) (fun x => g 0 x &&& nI 255)) 32) c_302 c_319 c_320  (by omega) (by omega)) (cwV 0 hts gX6_file_X6_short1 rfl rfl rfl (by decide +kernel) ⟨Nat.le_of_ble_eq_true rfl, Nat.le_of_ble_eq_true rfl⟩) hK hE hB hw (by omega) c_302 rfl rfl rfl rfl hl.1 (Nat.le_of_ble_eq_true rfl) ⟨Nat.zero_le _, Nat.zero_le _⟩ dX6_file_50 (fun f_27 H locs hp hw => ?_)
    have eu := hp
    have ef_27 : f_27 = va_up f_20 320 (ai (ca 1) 36 (mkS (mkf (z 1) (sha (n 1) (fun x => g 0 x &&& nI 255)) 32) (crM b1_22 (n 1) ^^^ (-1)) 4)) := eu
    have c_320 : f_27 320 = ai (ca 1) 36 (mkS (mkf (z 1) (sha (n 1) (fun x => g 0 x &&& nI 255)) 32) (crM b1_22 (n 1) ^^^ (-1)) 4) := by rw [ef_27, va_up_self]
    have c_320 : f_27 320 = ai (ca 1) 36 (mkS (mkf (z 1) (sha (n 1) (fun x => g 0 x &&& nI 255)) 32) (crM (g 0) (n 1) ^^^ (-1)) 4) := by rw [c_320]; rw [crM_ext (b := b1_22) (b' := g 0) (n 1) (fun q hq => by rw [hq_26 q hq, cpB_at hq])]
    refine lv_iconst (v := nI 0) hx hb dX6_file_53 (by decide) ?_
    refine lv_istore (lv' := [(4, .int (nI 0)), (3, .int (nI (n 2))), (0, .ref (ad 302)), (1, .int (nI a)), (2, .int (nI j))]) hx hb dX6_file_54 hl (by decide) rfl (fun ls hl => ?_)
    have hw : xw D vwCl N ad B s.heap (va_up (va_up (va_up (va_up (va_up (va_up (va_up f 302 (.inr (7, mO ad 0 (n 0) (n 1) (n 2) (g 13 0) (n 3) (n 4) (n 5) (n 1)))) 319 (ai (ca 1) 320 b1_22)) 321 (ai (ca 0) 64 w1_23)) 323 (ai (ca 0) 8 v1_24)) 322 (ai (ca 0) 8 h1_25)) 320 (ai (ca 1) 36 (mkS (mkf (z 1) (sha (n 1) (fun x => g 0 x &&& nI 255)) 32) (crM (g 0) (n 1) ^^^ (-1)) 4))) 307 (ai (ca 1) 720 (cpF (g 4) (mkS (mkf (z 1) (sha (n 1) (fun x => g 0 x &&& nI 255)) 32) (crM (g 0) (n 1) ^^^ (-1)) 4) (36 * n 2) 0))) H locs := by
      have ez : f_27 = va_up (va_up (va_up (va_up (va_up (va_up (va_up f 302 (.inr (7, mO ad 0 (n 0) (n 1) (n 2) (g 13 0) (n 3) (n 4) (n 5) (n 1)))) 319 (ai (ca 1) 320 b1_22)) 321 (ai (ca 0) 64 w1_23)) 323 (ai (ca 0) 8 v1_24)) 322 (ai (ca 0) 8 h1_25)) 320 (ai (ca 1) 36 (mkS (mkf (z 1) (sha (n 1) (fun x => g 0 x &&& nI 255)) 32) (crM (g 0) (n 1) ^^^ (-1)) 4))) 307 (ai (ca 1) 720 (cpF (g 4) (mkS (mkf (z 1) (sha (n 1) (fun x => g 0 x &&& nI 255)) 32) (crM (g 0) (n 1) ^^^ (-1)) 4) (36 * n 2) 0)) := by rw [cpF_0, ← crM_ext (b := b1_22) (b' := g 0) (n 1) (fun q hq => by rw [hq_26 q hq, cpB_at hq])]; simp only [ef_27, ef_20, ef_18, ef_13, up_fl]; exact (up_noop (by simp only [va_up]; exact b_307)).symm
      rw [← ez]; exact hw
    exact P_56 37 b1_22 w1_23 v1_24 h1_25 0 _ _ _ (by omega) (by omega) hw (lv_sub hl [2, 3, 4, 1, 0] rfl)
  · omega
