theorem sub1_lt {k : Nat} {x : Int32} (hk : k < 2 ^ 30) (h : nI k ≤ x) : nI k - nI 1 < x := by
  rw [Int32.lt_iff_toInt_lt, pk_sub_toInt hk (by decide)]
  rw [Int32.le_iff_toInt_le, nI_toInt (by omega)] at h
  omega
theorem out_of {k : Nat} {x : Int32} (hk : k < 2 ^ 30) (h : x < 0 ∨ nI k ≤ x) : x < nI 0 ∨ nI k - nI 1 < x := h.elim Or.inl (fun q => Or.inr (sub1_lt hk q))

abbrev rmX6_thrown : Room := { frames := 0, cells := 0, slots := 0, locals := 0 }

set_option maxHeartbeats 4000000 in
set_option maxRecDepth 100000 in
theorem k_X6_thrown (l : Launch) (D : va_G) (ca : Nat → ClassId) (N : Nat) (ad : Nat → Nat) (B tR tK : Nat) (f : Nat → va_E) (dd : xD N ad B) (hN : 326 ≤ N) (n : Nat → Nat) (g : Nat → Nat → Int32) (z : Nat → Nat → Int32) (zn : Nat) (tb : Nat → Int32) (hR : RepM ca ad n g z zn tb f)   : xMi l yX6_thrown wsX6_thrown rmX6_thrown [.ref (ad 302)] D ca N ad B tR tK f (fun r u => nI (n 7) = r ∧ f = u) := by
  refine x_open (cc := cX6_thrown) (maxL := 1) (ret := (some .int)) (by decide) rfl (Nat.le_of_ble_eq_true rfl) ?_
  intro p e s m below meth c ls hx hb hml hown hts hr hlocks hnm hB hK hE hw hl
  have hown : s.vm.findClass RX6 = some m.cls := hown
  have hl : lv_has ls 1 [(0, .ref (ad 302))] := hl
  obtain ⟨c_302, c_303, c_304, c_305, c_306, c_307, c_308, c_309, c_310, c_311, c_312, c_313, c_314, c_315, c_316, c_317, c_318, c_319, c_320, c_321, c_322, c_323, c_324, c_325, hzn⟩ := hR
  have hin_7 : ∀ w ∈ u_ws RX6 TX6 32, w ∈ wsX6_thrown := by decide +kernel
  have hf_160 := hts (.fieldLink RX6 160 "FixityRowsModel" "thrown" "I") (by decide +kernel)
  have b_302 := c_302
  have b_303 := c_303
  have b_304 := c_304
  have b_305 := c_305
  have b_306 := c_306
  have b_307 := c_307
  have b_308 := c_308
  have b_309 := c_309
  have b_310 := c_310
  have b_311 := c_311
  have b_312 := c_312
  have b_313 := c_313
  have b_314 := c_314
  have b_315 := c_315
  have b_316 := c_316
  have b_317 := c_317
  have b_318 := c_318
  have b_319 := c_319
  have b_320 := c_320
  have b_321 := c_321
  have b_322 := c_322
  have b_323 := c_323
  have b_324 := c_324
  have b_325 := c_325
  refine lv_aload_n hx hb dX6_thrown_0 rfl (lv_at hl 0 rfl) ?_
  refine x_get (ci := 7) (C := RX6) (T := TX6) (n := 32) (ref := RX6) hx hb hts hin_7 hown hK hw 302 (by omega) c_302 rfl 0 (by decide) hf_160 (fun _ h => h) rfl dX6_thrown_1 ?_
  exact x_iret hx hb hr hlocks hw ⟨rfl, rfl⟩ dX6_thrown_4

abbrev rmX6_isDay : Room := { frames := 1, cells := 0, slots := 0, locals := 22 }

set_option maxHeartbeats 4000000 in
set_option maxRecDepth 100000 in
theorem k_X6_isDay_yes (l : Launch) (D : va_G) (ca : Nat → ClassId) (N : Nat) (ad : Nat → Nat) (B tR tK : Nat) (f : Nat → va_E) (dd : xD N ad B) (j : Nat)   (hj : j ≤ 1000000) : xMi l yX6_isDay wsX6_isDay rmX6_isDay [.int (nI j)] D ca N ad B tR tK f (fun r u => nI 1 = r ∧ f = u) := by
  refine x_open (cc := cX6_isDay) (maxL := 1) (ret := (some .boolean)) (by decide) rfl (Nat.le_of_ble_eq_true rfl) ?_
  intro p e s m below meth c ls hx hb hml hown hts hr hlocks hnm hB hK hE hw hl
  have hown : s.vm.findClass RX6 = some m.cls := hown
  have hl : lv_has ls 1 [(0, .int (nI j))] := hl
  refine lv_iload_n hx hb dX6_isDay_0 rfl (lv_at hl 0 rfl) ?_
  refine lv_iconst (v := nI 0) hx hb dX6_isDay_1 (by decide) ?_
  refine lv_ldc (v := nI 1000000) hx hb hown (hts (.constant RX6 170 (1000000)) (by decide +kernel)) dX6_isDay_2 ?_
  refine x_Si (As := [.int (nI j), .int (nI 0), .int (nI 1000000)]) (rest := []) ⟨hx, hb, hml, hown, hts⟩ (k_X6_in_yes l D ca N ad B tR tK f dd j 0 1000000   (by omega) (by omega) (by omega)) (va_cwS 3 hts gX6_isDay_X6_in rfl rfl rfl (by decide +kernel) ⟨Nat.le_of_ble_eq_true rfl, Nat.le_of_ble_eq_true rfl⟩) hK hE hB hw rfl rfl hl.1 (Nat.le_of_ble_eq_true rfl) ⟨Nat.zero_le _, Nat.zero_le _⟩ dX6_isDay_4 (fun r_2 f_1 H locs hp hw => ?_)
  obtain ⟨er, eu⟩ := hp
  rw [← er]
  rw [← eu] at hw
  exact x_zret hx hb hr hlocks hw (by first | exact Or.inl rfl | exact Or.inr rfl) ⟨rfl, rfl⟩ dX6_isDay_7

set_option maxHeartbeats 4000000 in
set_option maxRecDepth 100000 in
theorem k_X6_isDay_no (l : Launch) (D : va_G) (ca : Nat → ClassId) (N : Nat) (ad : Nat → Nat) (B tR tK : Nat) (f : Nat → va_E) (dd : xD N ad B) (x : Int32)   (ho : x < 0 ∨ nI 1000000 < x) : xMi l yX6_isDay wsX6_isDay rmX6_isDay [.int x] D ca N ad B tR tK f (fun r u => nI 0 = r ∧ f = u) := by
  refine x_open (cc := cX6_isDay) (maxL := 1) (ret := (some .boolean)) (by decide) rfl (Nat.le_of_ble_eq_true rfl) ?_
  intro p e s m below meth c ls hx hb hml hown hts hr hlocks hnm hB hK hE hw hl
  have hown : s.vm.findClass RX6 = some m.cls := hown
  have hl : lv_has ls 1 [(0, .int x)] := hl
  refine lv_iload_n hx hb dX6_isDay_0 rfl (lv_at hl 0 rfl) ?_
  refine lv_iconst (v := nI 0) hx hb dX6_isDay_1 (by decide) ?_
  refine lv_ldc (v := nI 1000000) hx hb hown (hts (.constant RX6 170 (1000000)) (by decide +kernel)) dX6_isDay_2 ?_
  refine x_Si (As := [.int x, .int (nI 0), .int (nI 1000000)]) (rest := []) ⟨hx, hb, hml, hown, hts⟩ (k_X6_in_no l D ca N ad B tR tK f dd x (nI 0) (nI 1000000)   ho) (va_cwS 3 hts gX6_isDay_X6_in rfl rfl rfl (by decide +kernel) ⟨Nat.le_of_ble_eq_true rfl, Nat.le_of_ble_eq_true rfl⟩) hK hE hB hw rfl rfl hl.1 (Nat.le_of_ble_eq_true rfl) ⟨Nat.zero_le _, Nat.zero_le _⟩ dX6_isDay_4 (fun r_2 f_1 H locs hp hw => ?_)
  obtain ⟨er, eu⟩ := hp
  rw [← er]
  rw [← eu] at hw
  exact x_zret hx hb hr hlocks hw (by first | exact Or.inl rfl | exact Or.inr rfl) ⟨rfl, rfl⟩ dX6_isDay_7

abbrev rmX6_isFile : Room := { frames := 1, cells := 0, slots := 0, locals := 22 }

set_option maxHeartbeats 4000000 in
set_option maxRecDepth 100000 in
theorem k_X6_isFile_yes (l : Launch) (D : va_G) (ca : Nat → ClassId) (N : Nat) (ad : Nat → Nat) (B tR tK : Nat) (f : Nat → va_E) (dd : xD N ad B) (hN : 326 ≤ N) (n : Nat → Nat) (g : Nat → Nat → Int32) (z : Nat → Nat → Int32) (zn : Nat) (tb : Nat → Int32) (hR : RepM ca ad n g z zn tb f) (i : Nat) (hi : i < n 2) (h2 : n 2 ≤ 20) : xMi l yX6_isFile wsX6_isFile rmX6_isFile [.ref (ad 302), .int (nI i)] D ca N ad B tR tK f (fun r u => nI 1 = r ∧ f = u) := by
  refine x_open (cc := cX6_isFile) (maxL := 2) (ret := (some .boolean)) (by decide) rfl (Nat.le_of_ble_eq_true rfl) ?_
  intro p e s m below meth c ls hx hb hml hown hts hr hlocks hnm hB hK hE hw hl
  have hown : s.vm.findClass RX6 = some m.cls := hown
  have hl : lv_has ls 2 [(0, .ref (ad 302)), (1, .int (nI i))] := hl
  obtain ⟨c_302, c_303, c_304, c_305, c_306, c_307, c_308, c_309, c_310, c_311, c_312, c_313, c_314, c_315, c_316, c_317, c_318, c_319, c_320, c_321, c_322, c_323, c_324, c_325, hzn⟩ := hR
  have hin_7 : ∀ w ∈ u_ws RX6 TX6 32, w ∈ wsX6_isFile := by decide +kernel
  have hf_163 := hts (.fieldLink RX6 163 "FixityRowsModel" "files" "I") (by decide +kernel)
  have b_302 := c_302
  have b_303 := c_303
  have b_304 := c_304
  have b_305 := c_305
  have b_306 := c_306
  have b_307 := c_307
  have b_308 := c_308
  have b_309 := c_309
  have b_310 := c_310
  have b_311 := c_311
  have b_312 := c_312
  have b_313 := c_313
  have b_314 := c_314
  have b_315 := c_315
  have b_316 := c_316
  have b_317 := c_317
  have b_318 := c_318
  have b_319 := c_319
  have b_320 := c_320
  have b_321 := c_321
  have b_322 := c_322
  have b_323 := c_323
  have b_324 := c_324
  have b_325 := c_325
  refine lv_iload_n hx hb dX6_isFile_0 rfl (lv_at hl 1 rfl) ?_
  refine lv_iconst (v := nI 0) hx hb dX6_isFile_1 (by decide) ?_
  refine lv_aload_n hx hb dX6_isFile_2 rfl (lv_at hl 0 rfl) ?_
  refine x_get (ci := 7) (C := RX6) (T := TX6) (n := 32) (ref := RX6) hx hb hts hin_7 hown hK hw 302 (by omega) c_302 rfl 4 (by decide) hf_163 (fun _ h => h) rfl dX6_isFile_3 ?_
  refine lv_iconst (v := nI 1) hx hb dX6_isFile_6 (by decide) ?_
  refine n_isub hx hb dX6_isFile_7 (by omega) ?_
  refine x_Si (As := [.int (nI i), .int (nI 0), .int (nI ((n 2) - 1))]) (rest := []) ⟨hx, hb, hml, hown, hts⟩ (k_X6_in_yes l D ca N ad B tR tK f dd i 0 ((n 2) - 1)   (by omega) (by omega) (by omega)) (va_cwS 3 hts gX6_isFile_X6_in rfl rfl rfl (by decide +kernel) ⟨Nat.le_of_ble_eq_true rfl, Nat.le_of_ble_eq_true rfl⟩) hK hE hB hw rfl rfl hl.1 (Nat.le_of_ble_eq_true rfl) ⟨Nat.zero_le _, Nat.zero_le _⟩ dX6_isFile_8 (fun r_2 f_1 H locs hp hw => ?_)
  obtain ⟨er, eu⟩ := hp
  rw [← er]
  rw [← eu] at hw
  exact x_zret hx hb hr hlocks hw (by first | exact Or.inl rfl | exact Or.inr rfl) ⟨rfl, rfl⟩ dX6_isFile_11

set_option maxHeartbeats 4000000 in
set_option maxRecDepth 100000 in
theorem k_X6_isFile_no (l : Launch) (D : va_G) (ca : Nat → ClassId) (N : Nat) (ad : Nat → Nat) (B tR tK : Nat) (f : Nat → va_E) (dd : xD N ad B) (hN : 326 ≤ N) (n : Nat → Nat) (g : Nat → Nat → Int32) (z : Nat → Nat → Int32) (zn : Nat) (tb : Nat → Int32) (hR : RepM ca ad n g z zn tb f) (x : Int32) (h2 : n 2 ≤ 20) (ho : x < 0 ∨ nI (n 2) ≤ x) : xMi l yX6_isFile wsX6_isFile rmX6_isFile [.ref (ad 302), .int x] D ca N ad B tR tK f (fun r u => nI 0 = r ∧ f = u) := by
  refine x_open (cc := cX6_isFile) (maxL := 2) (ret := (some .boolean)) (by decide) rfl (Nat.le_of_ble_eq_true rfl) ?_
  intro p e s m below meth c ls hx hb hml hown hts hr hlocks hnm hB hK hE hw hl
  have hown : s.vm.findClass RX6 = some m.cls := hown
  have hl : lv_has ls 2 [(0, .ref (ad 302)), (1, .int x)] := hl
  obtain ⟨c_302, c_303, c_304, c_305, c_306, c_307, c_308, c_309, c_310, c_311, c_312, c_313, c_314, c_315, c_316, c_317, c_318, c_319, c_320, c_321, c_322, c_323, c_324, c_325, hzn⟩ := hR
  have hin_7 : ∀ w ∈ u_ws RX6 TX6 32, w ∈ wsX6_isFile := by decide +kernel
  have hf_163 := hts (.fieldLink RX6 163 "FixityRowsModel" "files" "I") (by decide +kernel)
  have b_302 := c_302
  have b_303 := c_303
  have b_304 := c_304
  have b_305 := c_305
  have b_306 := c_306
  have b_307 := c_307
  have b_308 := c_308
  have b_309 := c_309
  have b_310 := c_310
  have b_311 := c_311
  have b_312 := c_312
  have b_313 := c_313
  have b_314 := c_314
  have b_315 := c_315
  have b_316 := c_316
  have b_317 := c_317
  have b_318 := c_318
  have b_319 := c_319
  have b_320 := c_320
  have b_321 := c_321
  have b_322 := c_322
  have b_323 := c_323
  have b_324 := c_324
  have b_325 := c_325
  refine lv_iload_n hx hb dX6_isFile_0 rfl (lv_at hl 1 rfl) ?_
  refine lv_iconst (v := nI 0) hx hb dX6_isFile_1 (by decide) ?_
  refine lv_aload_n hx hb dX6_isFile_2 rfl (lv_at hl 0 rfl) ?_
  refine x_get (ci := 7) (C := RX6) (T := TX6) (n := 32) (ref := RX6) hx hb hts hin_7 hown hK hw 302 (by omega) c_302 rfl 4 (by decide) hf_163 (fun _ h => h) rfl dX6_isFile_3 ?_
  refine lv_iconst (v := nI 1) hx hb dX6_isFile_6 (by decide) ?_
  refine lv_isub hx hb dX6_isFile_7 ?_
  refine lv_topi (fun x_1 ex_1 => ?_)
  refine x_Si (As := [.int x, .int (nI 0), .int x_1]) (rest := []) ⟨hx, hb, hml, hown, hts⟩ (k_X6_in_no l D ca N ad B tR tK f dd x (nI 0) x_1   (by rw [ex_1]; exact out_of (by omega) ho)) (va_cwS 3 hts gX6_isFile_X6_in rfl rfl rfl (by decide +kernel) ⟨Nat.le_of_ble_eq_true rfl, Nat.le_of_ble_eq_true rfl⟩) hK hE hB hw rfl rfl hl.1 (Nat.le_of_ble_eq_true rfl) ⟨Nat.zero_le _, Nat.zero_le _⟩ dX6_isFile_8 (fun r_3 f_2 H locs hp hw => ?_)
  obtain ⟨er, eu⟩ := hp
  rw [← er]
  rw [← eu] at hw
  exact x_zret hx hb hr hlocks hw (by first | exact Or.inl rfl | exact Or.inr rfl) ⟨rfl, rfl⟩ dX6_isFile_11

abbrev rmX6_octet : Room := { frames := 0, cells := 0, slots := 0, locals := 0 }

set_option maxHeartbeats 4000000 in
set_option maxRecDepth 100000 in
theorem k_X6_octet_in (l : Launch) (D : va_G) (ca : Nat → ClassId) (N : Nat) (ad : Nat → Nat) (B tR tK : Nat) (f : Nat → va_E) (dd : xD N ad B) (hN : 326 ≤ N) (n : Nat → Nat) (g : Nat → Nat → Int32) (z : Nat → Nat → Int32) (zn : Nat) (tb : Nat → Int32) (hR : RepM ca ad n g z zn tb f) (x : Int32) (h4 : n 1 < 200) : xMv l yX6_octet wsX6_octet rmX6_octet [.ref (ad 302), .int x] D ca N ad B tR tK f (fun u => ∃ (z1 : Nat → Nat → Int32) (zn1 : Nat), RepM ca ad (va_up (va_up n 7 0) 1 ((n 1) + 1)) (va_up g 0 (upd (g 0) (n 1) x.toInt8.toInt32)) z1 zn1 tb u ∧ ∀ y, (y < 302 ∨ 326 ≤ y) → u y = f y) := by
  refine x_open (cc := cX6_octet) (maxL := 2) (ret := none) (by decide) rfl (Nat.le_of_ble_eq_true rfl) ?_
  intro p e s m below meth c ls hx hb hml hown hts hr hlocks hnm hB hK hE hw hl
  have hown : s.vm.findClass RX6 = some m.cls := hown
  have hl : lv_has ls 2 [(0, .ref (ad 302)), (1, .int x)] := hl
  obtain ⟨c_302, c_303, c_304, c_305, c_306, c_307, c_308, c_309, c_310, c_311, c_312, c_313, c_314, c_315, c_316, c_317, c_318, c_319, c_320, c_321, c_322, c_323, c_324, c_325, hzn⟩ := hR
  have hin_7 : ∀ w ∈ u_ws RX6 TX6 32, w ∈ wsX6_octet := by decide +kernel
  have hf_160 := hts (.fieldLink RX6 160 "FixityRowsModel" "thrown" "I") (by decide +kernel)
  have hf_209 := hts (.fieldLink RX6 209 "FixityRowsModel" "collected" "I") (by decide +kernel)
  have hf_7 := hts (.fieldLink RX6 7 "FixityRowsModel" "said" "[B") (by decide +kernel)
  have b_302 := c_302
  have b_303 := c_303
  have b_304 := c_304
  have b_305 := c_305
  have b_306 := c_306
  have b_307 := c_307
  have b_308 := c_308
  have b_309 := c_309
  have b_310 := c_310
  have b_311 := c_311
  have b_312 := c_312
  have b_313 := c_313
  have b_314 := c_314
  have b_315 := c_315
  have b_316 := c_316
  have b_317 := c_317
  have b_318 := c_318
  have b_319 := c_319
  have b_320 := c_320
  have b_321 := c_321
  have b_322 := c_322
  have b_323 := c_323
  have b_324 := c_324
  have b_325 := c_325
  refine lv_aload_n hx hb dX6_octet_0 rfl (lv_at hl 0 rfl) ?_
  refine lv_iconst (v := nI 0) hx hb dX6_octet_1 (by decide) ?_
  refine x_put (ci := 7) (C := RX6) (T := TX6) (n := 32) (ref := RX6) (fs' := mO ad 0 (n 0) (n 1) (n 2) (g 13 0) (n 3) (n 4) (n 5) zn) hx hb hts hin_7 tyX6 tyX6_ok nmX6 hown hK dd hw 302 (by omega) c_302 rfl 0 (by decide) hf_160 (fun _ h => h) rfl rfl rfl (Nat.le_of_ble_eq_true rfl) rfl dX6_octet_2 (fun H locs hw => ?_)
  obtain ⟨f_1, ef_1⟩ : ∃ z, z = va_up f 302 (.inr (7, mO ad 0 (n 0) (n 1) (n 2) (g 13 0) (n 3) (n 4) (n 5) zn)) := ⟨_, rfl⟩
  have hw : xw D vwCl N ad B s.heap f_1 H locs := by rw [ef_1]; exact hw
  have c_302 : f_1 302 = .inr (7, mO ad 0 (n 0) (n 1) (n 2) (g 13 0) (n 3) (n 4) (n 5) zn) := va_up_of ef_1
  refine lv_aload_n hx hb dX6_octet_5 rfl (lv_at hl 0 rfl) ?_
  refine x_get (ci := 7) (C := RX6) (T := TX6) (n := 32) (ref := RX6) hx hb hts hin_7 hown hK hw 302 (by omega) c_302 rfl 2 (by decide) hf_209 (fun _ h => h) rfl dX6_octet_6 ?_
  refine lv_sipush (v := nI 200) hx hb dX6_octet_9 (by decide) ?_
  refine n_icne (tgt := 16) hx hb dX6_octet_12 (by decide) (by omega) (by omega) (fun hc_12 => ?_) (fun hc_12 => ?_)
  · refine lv_aload_n hx hb dX6_octet_16 rfl (lv_at hl 0 rfl) ?_
    refine x_get (ci := 7) (C := RX6) (T := TX6) (n := 32) (ref := RX6) hx hb hts hin_7 hown hK hw 302 (by omega) c_302 rfl 3 (by decide) hf_7 (fun _ h => h) rfl dX6_octet_17 ?_
    refine lv_aload_n hx hb dX6_octet_20 rfl (lv_at hl 0 rfl) ?_
    refine x_get (ci := 7) (C := RX6) (T := TX6) (n := 32) (ref := RX6) hx hb hts hin_7 hown hK hw 302 (by omega) c_302 rfl 2 (by decide) hf_209 (fun _ h => h) rfl dX6_octet_21 ?_
    refine lv_iload_n hx hb dX6_octet_24 rfl (lv_at hl 1 rfl) ?_
    refine lv_i2b (v := x.toInt8.toInt32) hx hb dX6_octet_25 rfl ?_
    have c_303 : f_1 303 = ai (ca 1) 200 (g 0) := by rw [ef_1, va_up_ne _ _ (by decide)]; exact c_303
    refine x_bast (j := n 1) (y := x.toInt8.toInt32) hx hb hK dd hw 303 1 (by omega) c_303 rfl rfl (by omega) (by decide) (i8_i8 _) dX6_octet_26 (fun H locs hw => ?_)
    obtain ⟨f_2, ef_2⟩ : ∃ z, z = va_up f_1 303 (ai (ca 1) 200 (upd (g 0) (n 1) x.toInt8.toInt32)) := ⟨_, rfl⟩
    have hw : xw D vwCl N ad B s.heap f_2 H locs := by rw [ef_2]; exact hw
    have c_303 : f_2 303 = ai (ca 1) 200 (upd (g 0) (n 1) x.toInt8.toInt32) := va_up_of ef_2
    refine lv_aload_n hx hb dX6_octet_27 rfl (lv_at hl 0 rfl) ?_
    refine lv_dup hx hb dX6_octet_28 rfl ?_
    have c_302 : f_2 302 = .inr (7, mO ad 0 (n 0) (n 1) (n 2) (g 13 0) (n 3) (n 4) (n 5) zn) := by rw [ef_2, va_up_ne _ _ (by decide)]; exact c_302
    refine x_get (ci := 7) (C := RX6) (T := TX6) (n := 32) (ref := RX6) hx hb hts hin_7 hown hK hw 302 (by omega) c_302 rfl 2 (by decide) hf_209 (fun _ h => h) rfl dX6_octet_29 ?_
    refine lv_iconst (v := nI 1) hx hb dX6_octet_32 (by decide) ?_
    refine n_iadd hx hb dX6_octet_33 ?_
    refine x_put (ci := 7) (C := RX6) (T := TX6) (n := 32) (ref := RX6) (fs' := mO ad 0 (n 0) ((n 1) + 1) (n 2) (g 13 0) (n 3) (n 4) (n 5) zn) hx hb hts hin_7 tyX6 tyX6_ok nmX6 hown hK dd hw 302 (by omega) c_302 rfl 2 (by decide) hf_209 (fun _ h => h) rfl rfl rfl (Nat.le_of_ble_eq_true rfl) rfl dX6_octet_34 (fun H locs hw => ?_)
    obtain ⟨f_3, ef_3⟩ : ∃ z, z = va_up f_2 302 (.inr (7, mO ad 0 (n 0) ((n 1) + 1) (n 2) (g 13 0) (n 3) (n 4) (n 5) zn)) := ⟨_, rfl⟩
    have hw : xw D vwCl N ad B s.heap f_3 H locs := by rw [ef_3]; exact hw
    have c_302 : f_3 302 = .inr (7, mO ad 0 (n 0) ((n 1) + 1) (n 2) (g 13 0) (n 3) (n 4) (n 5) zn) := va_up_of ef_3
    have c_303 : f_3 303 = ai (ca 1) 200 (upd (g 0) (n 1) x.toInt8.toInt32) := by rw [ef_3, va_up_ne _ _ (by decide)]; exact c_303
    have c_304 : f_3 304 = ai (ca 1) 4000 (g 1) := by rw [ef_3, va_up_ne _ _ (by decide), ef_2, va_up_ne _ _ (by decide), ef_1, va_up_ne _ _ (by decide)]; exact c_304
    have c_305 : f_3 305 = ai (ca 0) 20 (g 2) := by rw [ef_3, va_up_ne _ _ (by decide), ef_2, va_up_ne _ _ (by decide), ef_1, va_up_ne _ _ (by decide)]; exact c_305
    have c_306 : f_3 306 = ai (ca 0) 20 (g 3) := by rw [ef_3, va_up_ne _ _ (by decide), ef_2, va_up_ne _ _ (by decide), ef_1, va_up_ne _ _ (by decide)]; exact c_306
    have c_307 : f_3 307 = ai (ca 1) 720 (g 4) := by rw [ef_3, va_up_ne _ _ (by decide), ef_2, va_up_ne _ _ (by decide), ef_1, va_up_ne _ _ (by decide)]; exact c_307
    have c_308 : f_3 308 = ai (ca 0) 20 (g 5) := by rw [ef_3, va_up_ne _ _ (by decide), ef_2, va_up_ne _ _ (by decide), ef_1, va_up_ne _ _ (by decide)]; exact c_308
    have c_309 : f_3 309 = ai (ca 0) 20 (g 6) := by rw [ef_3, va_up_ne _ _ (by decide), ef_2, va_up_ne _ _ (by decide), ef_1, va_up_ne _ _ (by decide)]; exact c_309
    have c_310 : f_3 310 = ai (ca 0) 20 (g 7) := by rw [ef_3, va_up_ne _ _ (by decide), ef_2, va_up_ne _ _ (by decide), ef_1, va_up_ne _ _ (by decide)]; exact c_310
    have c_311 : f_3 311 = ai (ca 0) 20 (g 8) := by rw [ef_3, va_up_ne _ _ (by decide), ef_2, va_up_ne _ _ (by decide), ef_1, va_up_ne _ _ (by decide)]; exact c_311
    have c_312 : f_3 312 = ai (ca 0) 20 (g 9) := by rw [ef_3, va_up_ne _ _ (by decide), ef_2, va_up_ne _ _ (by decide), ef_1, va_up_ne _ _ (by decide)]; exact c_312
    have c_313 : f_3 313 = ai (ca 2) 20 (g 10) := by rw [ef_3, va_up_ne _ _ (by decide), ef_2, va_up_ne _ _ (by decide), ef_1, va_up_ne _ _ (by decide)]; exact c_313
    have c_314 : f_3 314 = ai (ca 0) 200 (g 11) := by rw [ef_3, va_up_ne _ _ (by decide), ef_2, va_up_ne _ _ (by decide), ef_1, va_up_ne _ _ (by decide)]; exact c_314
    have c_315 : f_3 315 = ai (ca 0) 200 (g 12) := by rw [ef_3, va_up_ne _ _ (by decide), ef_2, va_up_ne _ _ (by decide), ef_1, va_up_ne _ _ (by decide)]; exact c_315
    have c_316 : f_3 316 = ai (ca 0) 200 (g 14) := by rw [ef_3, va_up_ne _ _ (by decide), ef_2, va_up_ne _ _ (by decide), ef_1, va_up_ne _ _ (by decide)]; exact c_316
    have c_317 : f_3 317 = ai (ca 1) 6400 (g 15) := by rw [ef_3, va_up_ne _ _ (by decide), ef_2, va_up_ne _ _ (by decide), ef_1, va_up_ne _ _ (by decide)]; exact c_317
    have c_318 : f_3 318 = ai (ca 1) 32 (g 16) := by rw [ef_3, va_up_ne _ _ (by decide), ef_2, va_up_ne _ _ (by decide), ef_1, va_up_ne _ _ (by decide)]; exact c_318
    have c_319 : f_3 319 = ai (ca 1) 320 (z 0) := by rw [ef_3, va_up_ne _ _ (by decide), ef_2, va_up_ne _ _ (by decide), ef_1, va_up_ne _ _ (by decide)]; exact c_319
    have c_320 : f_3 320 = ai (ca 1) 36 (z 1) := by rw [ef_3, va_up_ne _ _ (by decide), ef_2, va_up_ne _ _ (by decide), ef_1, va_up_ne _ _ (by decide)]; exact c_320
    have c_321 : f_3 321 = ai (ca 0) 64 (z 2) := by rw [ef_3, va_up_ne _ _ (by decide), ef_2, va_up_ne _ _ (by decide), ef_1, va_up_ne _ _ (by decide)]; exact c_321
    have c_322 : f_3 322 = ai (ca 0) 8 (z 3) := by rw [ef_3, va_up_ne _ _ (by decide), ef_2, va_up_ne _ _ (by decide), ef_1, va_up_ne _ _ (by decide)]; exact c_322
    have c_323 : f_3 323 = ai (ca 0) 8 (z 4) := by rw [ef_3, va_up_ne _ _ (by decide), ef_2, va_up_ne _ _ (by decide), ef_1, va_up_ne _ _ (by decide)]; exact c_323
    have c_324 : f_3 324 = ai (ca 0) 8 shR := by rw [ef_3, va_up_ne _ _ (by decide), ef_2, va_up_ne _ _ (by decide), ef_1, va_up_ne _ _ (by decide)]; exact c_324
    have c_325 : f_3 325 = ai (ca 0) 64 shK := by rw [ef_3, va_up_ne _ _ (by decide), ef_2, va_up_ne _ _ (by decide), ef_1, va_up_ne _ _ (by decide)]; exact c_325
    have qn_0 : (va_up (va_up n 7 0) 1 ((n 1) + 1)) 0 = n 0 := by rw [va_up_ne _ _ (by decide), va_up_ne _ _ (by decide)]
    have qn_1 : (va_up (va_up n 7 0) 1 ((n 1) + 1)) 1 = (n 1) + 1 := by rw [va_up_self]
    have qn_2 : (va_up (va_up n 7 0) 1 ((n 1) + 1)) 2 = n 2 := by rw [va_up_ne _ _ (by decide), va_up_ne _ _ (by decide)]
    have qn_3 : (va_up (va_up n 7 0) 1 ((n 1) + 1)) 3 = n 3 := by rw [va_up_ne _ _ (by decide), va_up_ne _ _ (by decide)]
    have qn_4 : (va_up (va_up n 7 0) 1 ((n 1) + 1)) 4 = n 4 := by rw [va_up_ne _ _ (by decide), va_up_ne _ _ (by decide)]
    have qn_5 : (va_up (va_up n 7 0) 1 ((n 1) + 1)) 5 = n 5 := by rw [va_up_ne _ _ (by decide), va_up_ne _ _ (by decide)]
    have qn_6 : (va_up (va_up n 7 0) 1 ((n 1) + 1)) 6 = n 6 := by rw [va_up_ne _ _ (by decide), va_up_ne _ _ (by decide)]
    have qn_7 : (va_up (va_up n 7 0) 1 ((n 1) + 1)) 7 = 0 := by rw [va_up_ne _ _ (by decide), va_up_self]
    have qg_0 : (va_up g 0 (upd (g 0) (n 1) x.toInt8.toInt32)) 0 = upd (g 0) (n 1) x.toInt8.toInt32 := by rw [va_up_self]
    have qg_1 : (va_up g 0 (upd (g 0) (n 1) x.toInt8.toInt32)) 1 = g 1 := by rw [va_up_ne _ _ (by decide)]
    have qg_2 : (va_up g 0 (upd (g 0) (n 1) x.toInt8.toInt32)) 2 = g 2 := by rw [va_up_ne _ _ (by decide)]
    have qg_3 : (va_up g 0 (upd (g 0) (n 1) x.toInt8.toInt32)) 3 = g 3 := by rw [va_up_ne _ _ (by decide)]
    have qg_4 : (va_up g 0 (upd (g 0) (n 1) x.toInt8.toInt32)) 4 = g 4 := by rw [va_up_ne _ _ (by decide)]
    have qg_5 : (va_up g 0 (upd (g 0) (n 1) x.toInt8.toInt32)) 5 = g 5 := by rw [va_up_ne _ _ (by decide)]
    have qg_6 : (va_up g 0 (upd (g 0) (n 1) x.toInt8.toInt32)) 6 = g 6 := by rw [va_up_ne _ _ (by decide)]
    have qg_7 : (va_up g 0 (upd (g 0) (n 1) x.toInt8.toInt32)) 7 = g 7 := by rw [va_up_ne _ _ (by decide)]
    have qg_8 : (va_up g 0 (upd (g 0) (n 1) x.toInt8.toInt32)) 8 = g 8 := by rw [va_up_ne _ _ (by decide)]
    have qg_9 : (va_up g 0 (upd (g 0) (n 1) x.toInt8.toInt32)) 9 = g 9 := by rw [va_up_ne _ _ (by decide)]
    have qg_10 : (va_up g 0 (upd (g 0) (n 1) x.toInt8.toInt32)) 10 = g 10 := by rw [va_up_ne _ _ (by decide)]
    have qg_11 : (va_up g 0 (upd (g 0) (n 1) x.toInt8.toInt32)) 11 = g 11 := by rw [va_up_ne _ _ (by decide)]
    have qg_12 : (va_up g 0 (upd (g 0) (n 1) x.toInt8.toInt32)) 12 = g 12 := by rw [va_up_ne _ _ (by decide)]
    have qg_13 : (va_up g 0 (upd (g 0) (n 1) x.toInt8.toInt32)) 13 = g 13 := by rw [va_up_ne _ _ (by decide)]
    have qg_14 : (va_up g 0 (upd (g 0) (n 1) x.toInt8.toInt32)) 14 = g 14 := by rw [va_up_ne _ _ (by decide)]
    have qg_15 : (va_up g 0 (upd (g 0) (n 1) x.toInt8.toInt32)) 15 = g 15 := by rw [va_up_ne _ _ (by decide)]
    have qg_16 : (va_up g 0 (upd (g 0) (n 1) x.toInt8.toInt32)) 16 = g 16 := by rw [va_up_ne _ _ (by decide)]
    have hRz : RepM ca ad (va_up (va_up n 7 0) 1 ((n 1) + 1)) (va_up g 0 (upd (g 0) (n 1) x.toInt8.toInt32)) z zn tb f_3 := ⟨(by rw [qn_7, qn_0, qn_1, qn_2, qn_3, qn_4, qn_5, qg_13]; exact c_302),
          (by rw [qg_0]; exact c_303),
          (by rw [qg_1]; exact c_304),
          (by rw [qg_2]; exact c_305),
          (by rw [qg_3]; exact c_306),
          (by rw [qg_4]; exact c_307),
          (by rw [qg_5]; exact c_308),
          (by rw [qg_6]; exact c_309),
          (by rw [qg_7]; exact c_310),
          (by rw [qg_8]; exact c_311),
          (by rw [qg_9]; exact c_312),
          (by rw [qg_10]; exact c_313),
          (by rw [qg_11]; exact c_314),
          (by rw [qg_12]; exact c_315),
          (by rw [qg_14]; exact c_316),
          (by rw [qg_15]; exact c_317),
          (by rw [qg_16]; exact c_318),
          c_319,
          c_320,
          c_321,
          c_322,
          c_323,
          c_324,
          c_325, hzn⟩
    exact x_vret hx hb hr hlocks hw ⟨z, zn, hRz, (fun y hy => by rw [ef_3, va_up_ne _ _ (by omega), ef_2, va_up_ne _ _ (by omega), ef_1, va_up_ne _ _ (by omega)])⟩ dX6_octet_37
  · omega

set_option maxHeartbeats 4000000 in
set_option maxRecDepth 100000 in
theorem k_X6_octet_full (l : Launch) (D : va_G) (ca : Nat → ClassId) (N : Nat) (ad : Nat → Nat) (B tR tK : Nat) (f : Nat → va_E) (dd : xD N ad B) (hN : 326 ≤ N) (n : Nat → Nat) (g : Nat → Nat → Int32) (z : Nat → Nat → Int32) (zn : Nat) (tb : Nat → Int32) (hR : RepM ca ad n g z zn tb f) (x : Int32) (h4 : n 1 = 200) : xMv l yX6_octet wsX6_octet rmX6_octet [.ref (ad 302), .int x] D ca N ad B tR tK f (fun u => ∃ (z1 : Nat → Nat → Int32) (zn1 : Nat), RepM ca ad (va_up n 7 0) g z1 zn1 tb u ∧ ∀ y, (y < 302 ∨ 326 ≤ y) → u y = f y) := by
  refine x_open (cc := cX6_octet) (maxL := 2) (ret := none) (by decide) rfl (Nat.le_of_ble_eq_true rfl) ?_
  intro p e s m below meth c ls hx hb hml hown hts hr hlocks hnm hB hK hE hw hl
  have hown : s.vm.findClass RX6 = some m.cls := hown
  have hl : lv_has ls 2 [(0, .ref (ad 302)), (1, .int x)] := hl
  obtain ⟨c_302, c_303, c_304, c_305, c_306, c_307, c_308, c_309, c_310, c_311, c_312, c_313, c_314, c_315, c_316, c_317, c_318, c_319, c_320, c_321, c_322, c_323, c_324, c_325, hzn⟩ := hR
  have hin_7 : ∀ w ∈ u_ws RX6 TX6 32, w ∈ wsX6_octet := by decide +kernel
  have hf_160 := hts (.fieldLink RX6 160 "FixityRowsModel" "thrown" "I") (by decide +kernel)
  have hf_209 := hts (.fieldLink RX6 209 "FixityRowsModel" "collected" "I") (by decide +kernel)
  have b_302 := c_302
  have b_303 := c_303
  have b_304 := c_304
  have b_305 := c_305
  have b_306 := c_306
  have b_307 := c_307
  have b_308 := c_308
  have b_309 := c_309
  have b_310 := c_310
  have b_311 := c_311
  have b_312 := c_312
  have b_313 := c_313
  have b_314 := c_314
  have b_315 := c_315
  have b_316 := c_316
  have b_317 := c_317
  have b_318 := c_318
  have b_319 := c_319
  have b_320 := c_320
  have b_321 := c_321
  have b_322 := c_322
  have b_323 := c_323
  have b_324 := c_324
  have b_325 := c_325
  refine lv_aload_n hx hb dX6_octet_0 rfl (lv_at hl 0 rfl) ?_
  refine lv_iconst (v := nI 0) hx hb dX6_octet_1 (by decide) ?_
  refine x_put (ci := 7) (C := RX6) (T := TX6) (n := 32) (ref := RX6) (fs' := mO ad 0 (n 0) (n 1) (n 2) (g 13 0) (n 3) (n 4) (n 5) zn) hx hb hts hin_7 tyX6 tyX6_ok nmX6 hown hK dd hw 302 (by omega) c_302 rfl 0 (by decide) hf_160 (fun _ h => h) rfl rfl rfl (Nat.le_of_ble_eq_true rfl) rfl dX6_octet_2 (fun H locs hw => ?_)
  obtain ⟨f_1, ef_1⟩ : ∃ z, z = va_up f 302 (.inr (7, mO ad 0 (n 0) (n 1) (n 2) (g 13 0) (n 3) (n 4) (n 5) zn)) := ⟨_, rfl⟩
  have hw : xw D vwCl N ad B s.heap f_1 H locs := by rw [ef_1]; exact hw
  have c_302 : f_1 302 = .inr (7, mO ad 0 (n 0) (n 1) (n 2) (g 13 0) (n 3) (n 4) (n 5) zn) := va_up_of ef_1
  refine lv_aload_n hx hb dX6_octet_5 rfl (lv_at hl 0 rfl) ?_
  refine x_get (ci := 7) (C := RX6) (T := TX6) (n := 32) (ref := RX6) hx hb hts hin_7 hown hK hw 302 (by omega) c_302 rfl 2 (by decide) hf_209 (fun _ h => h) rfl dX6_octet_6 ?_
  refine lv_sipush (v := nI 200) hx hb dX6_octet_9 (by decide) ?_
  refine n_icne (tgt := 16) hx hb dX6_octet_12 (by decide) (by omega) (by omega) (fun hc_12 => ?_) (fun hc_12 => ?_)
  · omega
  · have c_303 : f_1 303 = ai (ca 1) 200 (g 0) := by rw [ef_1, va_up_ne _ _ (by decide)]; exact c_303
    have c_304 : f_1 304 = ai (ca 1) 4000 (g 1) := by rw [ef_1, va_up_ne _ _ (by decide)]; exact c_304
    have c_305 : f_1 305 = ai (ca 0) 20 (g 2) := by rw [ef_1, va_up_ne _ _ (by decide)]; exact c_305
    have c_306 : f_1 306 = ai (ca 0) 20 (g 3) := by rw [ef_1, va_up_ne _ _ (by decide)]; exact c_306
    have c_307 : f_1 307 = ai (ca 1) 720 (g 4) := by rw [ef_1, va_up_ne _ _ (by decide)]; exact c_307
    have c_308 : f_1 308 = ai (ca 0) 20 (g 5) := by rw [ef_1, va_up_ne _ _ (by decide)]; exact c_308
    have c_309 : f_1 309 = ai (ca 0) 20 (g 6) := by rw [ef_1, va_up_ne _ _ (by decide)]; exact c_309
    have c_310 : f_1 310 = ai (ca 0) 20 (g 7) := by rw [ef_1, va_up_ne _ _ (by decide)]; exact c_310
    have c_311 : f_1 311 = ai (ca 0) 20 (g 8) := by rw [ef_1, va_up_ne _ _ (by decide)]; exact c_311
    have c_312 : f_1 312 = ai (ca 0) 20 (g 9) := by rw [ef_1, va_up_ne _ _ (by decide)]; exact c_312
    have c_313 : f_1 313 = ai (ca 2) 20 (g 10) := by rw [ef_1, va_up_ne _ _ (by decide)]; exact c_313
    have c_314 : f_1 314 = ai (ca 0) 200 (g 11) := by rw [ef_1, va_up_ne _ _ (by decide)]; exact c_314
    have c_315 : f_1 315 = ai (ca 0) 200 (g 12) := by rw [ef_1, va_up_ne _ _ (by decide)]; exact c_315
    have c_316 : f_1 316 = ai (ca 0) 200 (g 14) := by rw [ef_1, va_up_ne _ _ (by decide)]; exact c_316
    have c_317 : f_1 317 = ai (ca 1) 6400 (g 15) := by rw [ef_1, va_up_ne _ _ (by decide)]; exact c_317
    have c_318 : f_1 318 = ai (ca 1) 32 (g 16) := by rw [ef_1, va_up_ne _ _ (by decide)]; exact c_318
    have c_319 : f_1 319 = ai (ca 1) 320 (z 0) := by rw [ef_1, va_up_ne _ _ (by decide)]; exact c_319
    have c_320 : f_1 320 = ai (ca 1) 36 (z 1) := by rw [ef_1, va_up_ne _ _ (by decide)]; exact c_320
    have c_321 : f_1 321 = ai (ca 0) 64 (z 2) := by rw [ef_1, va_up_ne _ _ (by decide)]; exact c_321
    have c_322 : f_1 322 = ai (ca 0) 8 (z 3) := by rw [ef_1, va_up_ne _ _ (by decide)]; exact c_322
    have c_323 : f_1 323 = ai (ca 0) 8 (z 4) := by rw [ef_1, va_up_ne _ _ (by decide)]; exact c_323
    have c_324 : f_1 324 = ai (ca 0) 8 shR := by rw [ef_1, va_up_ne _ _ (by decide)]; exact c_324
    have c_325 : f_1 325 = ai (ca 0) 64 shK := by rw [ef_1, va_up_ne _ _ (by decide)]; exact c_325
    have qn_0 : (va_up n 7 0) 0 = n 0 := by rw [va_up_ne _ _ (by decide)]
    have qn_1 : (va_up n 7 0) 1 = n 1 := by rw [va_up_ne _ _ (by decide)]
    have qn_2 : (va_up n 7 0) 2 = n 2 := by rw [va_up_ne _ _ (by decide)]
    have qn_3 : (va_up n 7 0) 3 = n 3 := by rw [va_up_ne _ _ (by decide)]
    have qn_4 : (va_up n 7 0) 4 = n 4 := by rw [va_up_ne _ _ (by decide)]
    have qn_5 : (va_up n 7 0) 5 = n 5 := by rw [va_up_ne _ _ (by decide)]
    have qn_6 : (va_up n 7 0) 6 = n 6 := by rw [va_up_ne _ _ (by decide)]
    have qn_7 : (va_up n 7 0) 7 = 0 := by rw [va_up_self]
    have hRz : RepM ca ad (va_up n 7 0) g z zn tb f_1 := ⟨(by rw [qn_7, qn_0, qn_1, qn_2, qn_3, qn_4, qn_5]; exact c_302),
          c_303,
          c_304,
          c_305,
          c_306,
          c_307,
          c_308,
          c_309,
          c_310,
          c_311,
          c_312,
          c_313,
          c_314,
          c_315,
          c_316,
          c_317,
          c_318,
          c_319,
          c_320,
          c_321,
          c_322,
          c_323,
          c_324,
          c_325, hzn⟩
    exact x_vret hx hb hr hlocks hw ⟨z, zn, hRz, (fun y hy => by rw [ef_1, va_up_ne _ _ (by omega)])⟩ dX6_octet_15

abbrev rmX6_alter : Room := { frames := 2, cells := 0, slots := 0, locals := 43 }

set_option maxHeartbeats 4000000 in
set_option maxRecDepth 100000 in
theorem k_X6_alter_nofile (l : Launch) (D : va_G) (ca : Nat → ClassId) (N : Nat) (ad : Nat → Nat) (B tR tK : Nat) (f : Nat → va_E) (dd : xD N ad B) (hN : 326 ≤ N) (n : Nat → Nat) (g : Nat → Nat → Int32) (z : Nat → Nat → Int32) (zn : Nat) (tb : Nat → Int32) (hR : RepM ca ad n g z zn tb f) (x : Int32) (y : Int32) (w : Int32) (h2 : n 2 ≤ 20) (ho : x < 0 ∨ nI (n 2) ≤ x) : xMi l yX6_alter wsX6_alter rmX6_alter [.ref (ad 302), .int x, .int y, .int w] D ca N ad B tR tK f (fun r u => (-1) = r ∧ ∃ (z1 : Nat → Nat → Int32) (zn1 : Nat), RepM ca ad (va_up n 7 0) g z1 zn1 tb u ∧ ∀ y, (y < 302 ∨ 326 ≤ y) → u y = f y) := by
  refine x_open (cc := cX6_alter) (maxL := 5) (ret := (some .int)) (by decide) rfl (Nat.le_of_ble_eq_true rfl) ?_
  intro p e s m below meth c ls hx hb hml hown hts hr hlocks hnm hB hK hE hw hl
  have hown : s.vm.findClass RX6 = some m.cls := hown
  have hl : lv_has ls 5 [(0, .ref (ad 302)), (1, .int x), (2, .int y), (3, .int w)] := hl
  obtain ⟨c_302, c_303, c_304, c_305, c_306, c_307, c_308, c_309, c_310, c_311, c_312, c_313, c_314, c_315, c_316, c_317, c_318, c_319, c_320, c_321, c_322, c_323, c_324, c_325, hzn⟩ := hR
  have hin_7 : ∀ w ∈ u_ws RX6 TX6 32, w ∈ wsX6_alter := by decide +kernel
  have hf_160 := hts (.fieldLink RX6 160 "FixityRowsModel" "thrown" "I") (by decide +kernel)
  have b_302 := c_302
  have b_303 := c_303
  have b_304 := c_304
  have b_305 := c_305
  have b_306 := c_306
  have b_307 := c_307
  have b_308 := c_308
  have b_309 := c_309
  have b_310 := c_310
  have b_311 := c_311
  have b_312 := c_312
  have b_313 := c_313
  have b_314 := c_314
  have b_315 := c_315
  have b_316 := c_316
  have b_317 := c_317
  have b_318 := c_318
  have b_319 := c_319
  have b_320 := c_320
  have b_321 := c_321
  have b_322 := c_322
  have b_323 := c_323
  have b_324 := c_324
  have b_325 := c_325
  refine lv_aload_n hx hb dX6_alter_0 rfl (lv_at hl 0 rfl) ?_
  refine lv_iconst (v := nI 0) hx hb dX6_alter_1 (by decide) ?_
  refine x_put (ci := 7) (C := RX6) (T := TX6) (n := 32) (ref := RX6) (fs' := mO ad 0 (n 0) (n 1) (n 2) (g 13 0) (n 3) (n 4) (n 5) zn) hx hb hts hin_7 tyX6 tyX6_ok nmX6 hown hK dd hw 302 (by omega) c_302 rfl 0 (by decide) hf_160 (fun _ h => h) rfl rfl rfl (Nat.le_of_ble_eq_true rfl) rfl dX6_alter_2 (fun H locs hw => ?_)
  obtain ⟨f_1, ef_1⟩ : ∃ z, z = va_up f 302 (.inr (7, mO ad 0 (n 0) (n 1) (n 2) (g 13 0) (n 3) (n 4) (n 5) zn)) := ⟨_, rfl⟩
  have hw : xw D vwCl N ad B s.heap f_1 H locs := by rw [ef_1]; exact hw
  have c_302 : f_1 302 = .inr (7, mO ad 0 (n 0) (n 1) (n 2) (g 13 0) (n 3) (n 4) (n 5) zn) := va_up_of ef_1
  refine lv_aload_n hx hb dX6_alter_5 rfl (lv_at hl 0 rfl) ?_
  refine lv_iload_n hx hb dX6_alter_6 rfl (lv_at hl 1 rfl) ?_
  have c_303 : f_1 303 = ai (ca 1) 200 (g 0) := by rw [ef_1, va_up_ne _ _ (by decide)]; exact c_303
  have c_304 : f_1 304 = ai (ca 1) 4000 (g 1) := by rw [ef_1, va_up_ne _ _ (by decide)]; exact c_304
  have c_305 : f_1 305 = ai (ca 0) 20 (g 2) := by rw [ef_1, va_up_ne _ _ (by decide)]; exact c_305
  have c_306 : f_1 306 = ai (ca 0) 20 (g 3) := by rw [ef_1, va_up_ne _ _ (by decide)]; exact c_306
  have c_307 : f_1 307 = ai (ca 1) 720 (g 4) := by rw [ef_1, va_up_ne _ _ (by decide)]; exact c_307
  have c_308 : f_1 308 = ai (ca 0) 20 (g 5) := by rw [ef_1, va_up_ne _ _ (by decide)]; exact c_308
  have c_309 : f_1 309 = ai (ca 0) 20 (g 6) := by rw [ef_1, va_up_ne _ _ (by decide)]; exact c_309
  have c_310 : f_1 310 = ai (ca 0) 20 (g 7) := by rw [ef_1, va_up_ne _ _ (by decide)]; exact c_310
  have c_311 : f_1 311 = ai (ca 0) 20 (g 8) := by rw [ef_1, va_up_ne _ _ (by decide)]; exact c_311
  have c_312 : f_1 312 = ai (ca 0) 20 (g 9) := by rw [ef_1, va_up_ne _ _ (by decide)]; exact c_312
  have c_313 : f_1 313 = ai (ca 2) 20 (g 10) := by rw [ef_1, va_up_ne _ _ (by decide)]; exact c_313
  have c_314 : f_1 314 = ai (ca 0) 200 (g 11) := by rw [ef_1, va_up_ne _ _ (by decide)]; exact c_314
  have c_315 : f_1 315 = ai (ca 0) 200 (g 12) := by rw [ef_1, va_up_ne _ _ (by decide)]; exact c_315
  have c_316 : f_1 316 = ai (ca 0) 200 (g 14) := by rw [ef_1, va_up_ne _ _ (by decide)]; exact c_316
  have c_317 : f_1 317 = ai (ca 1) 6400 (g 15) := by rw [ef_1, va_up_ne _ _ (by decide)]; exact c_317
  have c_318 : f_1 318 = ai (ca 1) 32 (g 16) := by rw [ef_1, va_up_ne _ _ (by decide)]; exact c_318
  have c_319 : f_1 319 = ai (ca 1) 320 (z 0) := by rw [ef_1, va_up_ne _ _ (by decide)]; exact c_319
  have c_320 : f_1 320 = ai (ca 1) 36 (z 1) := by rw [ef_1, va_up_ne _ _ (by decide)]; exact c_320
  have c_321 : f_1 321 = ai (ca 0) 64 (z 2) := by rw [ef_1, va_up_ne _ _ (by decide)]; exact c_321
  have c_322 : f_1 322 = ai (ca 0) 8 (z 3) := by rw [ef_1, va_up_ne _ _ (by decide)]; exact c_322
  have c_323 : f_1 323 = ai (ca 0) 8 (z 4) := by rw [ef_1, va_up_ne _ _ (by decide)]; exact c_323
  have c_324 : f_1 324 = ai (ca 0) 8 shR := by rw [ef_1, va_up_ne _ _ (by decide)]; exact c_324
  have c_325 : f_1 325 = ai (ca 0) 64 shK := by rw [ef_1, va_up_ne _ _ (by decide)]; exact c_325
  have qn_0 : (va_up n 7 0) 0 = n 0 := by rw [va_up_ne _ _ (by decide)]
  have qn_1 : (va_up n 7 0) 1 = n 1 := by rw [va_up_ne _ _ (by decide)]
  have qn_2 : (va_up n 7 0) 2 = n 2 := by rw [va_up_ne _ _ (by decide)]
  have qn_3 : (va_up n 7 0) 3 = n 3 := by rw [va_up_ne _ _ (by decide)]
  have qn_4 : (va_up n 7 0) 4 = n 4 := by rw [va_up_ne _ _ (by decide)]
  have qn_5 : (va_up n 7 0) 5 = n 5 := by rw [va_up_ne _ _ (by decide)]
  have qn_6 : (va_up n 7 0) 6 = n 6 := by rw [va_up_ne _ _ (by decide)]
  have qn_7 : (va_up n 7 0) 7 = 0 := by rw [va_up_self]
  have hRk : RepM ca ad (va_up n 7 0) g z zn tb f_1 := ⟨(by rw [qn_7, qn_0, qn_1, qn_2, qn_3, qn_4, qn_5]; exact c_302),
        c_303,
        c_304,
        c_305,
        c_306,
        c_307,
        c_308,
        c_309,
        c_310,
        c_311,
        c_312,
        c_313,
        c_314,
        c_315,
        c_316,
        c_317,
        c_318,
        c_319,
        c_320,
        c_321,
        c_322,
        c_323,
        c_324,
        c_325, hzn⟩
  have hfr : ∀ y, (y < 302 ∨ 326 ≤ y) → f_1 y = f y := (fun y hy => by rw [ef_1, va_up_ne _ _ (by omega)])
  refine x_Vi (q := 302) (As := [.int x]) (rest := []) ⟨hx, hb, hml, hown, hts⟩ (k_X6_isFile_no l D ca N ad B tR tK f_1 dd hN (va_up n 7 0) g z zn tb hRk x (by omega) ho) (cwV 1 hts gX6_alter_X6_isFile rfl rfl rfl (by decide +kernel) ⟨Nat.le_of_ble_eq_true rfl, Nat.le_of_ble_eq_true rfl⟩) hK hE hB hw (by omega) c_302 rfl rfl rfl rfl hl.1 (Nat.le_of_ble_eq_true rfl) ⟨Nat.zero_le _, Nat.zero_le _⟩ dX6_alter_7 (fun r_3 f_2 H locs hp hw => ?_)
  obtain ⟨er, hp⟩ := hp
  rw [← er]
  rw [← hp] at hw
  refine lv_if_eq (tgt := 29) hx hb dX6_alter_10 (by decide) (fun _ => ?_) (fun h => False.elim (h (by decide)))
  refine lv_iconst (v := (-1)) hx hb dX6_alter_29 (by decide) ?_
  have qn_0 : (va_up n 7 0) 0 = n 0 := by rw [va_up_ne _ _ (by decide)]
  have qn_1 : (va_up n 7 0) 1 = n 1 := by rw [va_up_ne _ _ (by decide)]
  have qn_2 : (va_up n 7 0) 2 = n 2 := by rw [va_up_ne _ _ (by decide)]
  have qn_3 : (va_up n 7 0) 3 = n 3 := by rw [va_up_ne _ _ (by decide)]
  have qn_4 : (va_up n 7 0) 4 = n 4 := by rw [va_up_ne _ _ (by decide)]
  have qn_5 : (va_up n 7 0) 5 = n 5 := by rw [va_up_ne _ _ (by decide)]
  have qn_6 : (va_up n 7 0) 6 = n 6 := by rw [va_up_ne _ _ (by decide)]
  have qn_7 : (va_up n 7 0) 7 = 0 := by rw [va_up_self]
  have hRz : RepM ca ad (va_up n 7 0) g z zn tb f_1 := ⟨(by rw [qn_7, qn_0, qn_1, qn_2, qn_3, qn_4, qn_5]; exact c_302),
        c_303,
        c_304,
        c_305,
        c_306,
        c_307,
        c_308,
        c_309,
        c_310,
        c_311,
        c_312,
        c_313,
        c_314,
        c_315,
        c_316,
        c_317,
        c_318,
        c_319,
        c_320,
        c_321,
        c_322,
        c_323,
        c_324,
        c_325, hzn⟩
  exact x_iret hx hb hr hlocks hw ⟨rfl, z, zn, hRz, (fun y hy => by rw [ef_1, va_up_ne _ _ (by omega)])⟩ dX6_alter_30

set_option maxHeartbeats 4000000 in
set_option maxRecDepth 100000 in
theorem k_X6_alter_nobyte (l : Launch) (D : va_G) (ca : Nat → ClassId) (N : Nat) (ad : Nat → Nat) (B tR tK : Nat) (f : Nat → va_E) (dd : xD N ad B) (hN : 326 ≤ N) (n : Nat → Nat) (g : Nat → Nat → Int32) (z : Nat → Nat → Int32) (zn : Nat) (tb : Nat → Int32) (hR : RepM ca ad n g z zn tb f) (i : Nat) (y : Int32) (w : Int32) (zz : Nat) (h2 : n 2 ≤ 20) (hi : i < n 2) (hz : g 2 i = nI zz) (hz2 : zz ≤ 200) (ho : y < 0 ∨ nI zz ≤ y) : xMi l yX6_alter wsX6_alter rmX6_alter [.ref (ad 302), .int (nI i), .int y, .int w] D ca N ad B tR tK f (fun r u => (-1) = r ∧ ∃ (z1 : Nat → Nat → Int32) (zn1 : Nat), RepM ca ad (va_up n 7 0) g z1 zn1 tb u ∧ ∀ y, (y < 302 ∨ 326 ≤ y) → u y = f y) := by
  refine x_open (cc := cX6_alter) (maxL := 5) (ret := (some .int)) (by decide) rfl (Nat.le_of_ble_eq_true rfl) ?_
  intro p e s m below meth c ls hx hb hml hown hts hr hlocks hnm hB hK hE hw hl
  have hown : s.vm.findClass RX6 = some m.cls := hown
  have hl : lv_has ls 5 [(0, .ref (ad 302)), (1, .int (nI i)), (2, .int y), (3, .int w)] := hl
  obtain ⟨c_302, c_303, c_304, c_305, c_306, c_307, c_308, c_309, c_310, c_311, c_312, c_313, c_314, c_315, c_316, c_317, c_318, c_319, c_320, c_321, c_322, c_323, c_324, c_325, hzn⟩ := hR
  have hin_7 : ∀ w ∈ u_ws RX6 TX6 32, w ∈ wsX6_alter := by decide +kernel
  have hf_160 := hts (.fieldLink RX6 160 "FixityRowsModel" "thrown" "I") (by decide +kernel)
  have hf_16 := hts (.fieldLink RX6 16 "FixityRowsModel" "size" "[I") (by decide +kernel)
  have b_302 := c_302
  have b_303 := c_303
  have b_304 := c_304
  have b_305 := c_305
  have b_306 := c_306
  have b_307 := c_307
  have b_308 := c_308
  have b_309 := c_309
  have b_310 := c_310
  have b_311 := c_311
  have b_312 := c_312
  have b_313 := c_313
  have b_314 := c_314
  have b_315 := c_315
  have b_316 := c_316
  have b_317 := c_317
  have b_318 := c_318
  have b_319 := c_319
  have b_320 := c_320
  have b_321 := c_321
  have b_322 := c_322
  have b_323 := c_323
  have b_324 := c_324
  have b_325 := c_325
  refine lv_aload_n hx hb dX6_alter_0 rfl (lv_at hl 0 rfl) ?_
  refine lv_iconst (v := nI 0) hx hb dX6_alter_1 (by decide) ?_
  refine x_put (ci := 7) (C := RX6) (T := TX6) (n := 32) (ref := RX6) (fs' := mO ad 0 (n 0) (n 1) (n 2) (g 13 0) (n 3) (n 4) (n 5) zn) hx hb hts hin_7 tyX6 tyX6_ok nmX6 hown hK dd hw 302 (by omega) c_302 rfl 0 (by decide) hf_160 (fun _ h => h) rfl rfl rfl (Nat.le_of_ble_eq_true rfl) rfl dX6_alter_2 (fun H locs hw => ?_)
  obtain ⟨f_1, ef_1⟩ : ∃ z, z = va_up f 302 (.inr (7, mO ad 0 (n 0) (n 1) (n 2) (g 13 0) (n 3) (n 4) (n 5) zn)) := ⟨_, rfl⟩
  have hw : xw D vwCl N ad B s.heap f_1 H locs := by rw [ef_1]; exact hw
  have c_302 : f_1 302 = .inr (7, mO ad 0 (n 0) (n 1) (n 2) (g 13 0) (n 3) (n 4) (n 5) zn) := va_up_of ef_1
  refine lv_aload_n hx hb dX6_alter_5 rfl (lv_at hl 0 rfl) ?_
  refine lv_iload_n hx hb dX6_alter_6 rfl (lv_at hl 1 rfl) ?_
  have c_303 : f_1 303 = ai (ca 1) 200 (g 0) := by rw [ef_1, va_up_ne _ _ (by decide)]; exact c_303
  have c_304 : f_1 304 = ai (ca 1) 4000 (g 1) := by rw [ef_1, va_up_ne _ _ (by decide)]; exact c_304
  have c_305 : f_1 305 = ai (ca 0) 20 (g 2) := by rw [ef_1, va_up_ne _ _ (by decide)]; exact c_305
  have c_306 : f_1 306 = ai (ca 0) 20 (g 3) := by rw [ef_1, va_up_ne _ _ (by decide)]; exact c_306
  have c_307 : f_1 307 = ai (ca 1) 720 (g 4) := by rw [ef_1, va_up_ne _ _ (by decide)]; exact c_307
  have c_308 : f_1 308 = ai (ca 0) 20 (g 5) := by rw [ef_1, va_up_ne _ _ (by decide)]; exact c_308
  have c_309 : f_1 309 = ai (ca 0) 20 (g 6) := by rw [ef_1, va_up_ne _ _ (by decide)]; exact c_309
  have c_310 : f_1 310 = ai (ca 0) 20 (g 7) := by rw [ef_1, va_up_ne _ _ (by decide)]; exact c_310
  have c_311 : f_1 311 = ai (ca 0) 20 (g 8) := by rw [ef_1, va_up_ne _ _ (by decide)]; exact c_311
  have c_312 : f_1 312 = ai (ca 0) 20 (g 9) := by rw [ef_1, va_up_ne _ _ (by decide)]; exact c_312
  have c_313 : f_1 313 = ai (ca 2) 20 (g 10) := by rw [ef_1, va_up_ne _ _ (by decide)]; exact c_313
  have c_314 : f_1 314 = ai (ca 0) 200 (g 11) := by rw [ef_1, va_up_ne _ _ (by decide)]; exact c_314
  have c_315 : f_1 315 = ai (ca 0) 200 (g 12) := by rw [ef_1, va_up_ne _ _ (by decide)]; exact c_315
  have c_316 : f_1 316 = ai (ca 0) 200 (g 14) := by rw [ef_1, va_up_ne _ _ (by decide)]; exact c_316
  have c_317 : f_1 317 = ai (ca 1) 6400 (g 15) := by rw [ef_1, va_up_ne _ _ (by decide)]; exact c_317
  have c_318 : f_1 318 = ai (ca 1) 32 (g 16) := by rw [ef_1, va_up_ne _ _ (by decide)]; exact c_318
  have c_319 : f_1 319 = ai (ca 1) 320 (z 0) := by rw [ef_1, va_up_ne _ _ (by decide)]; exact c_319
  have c_320 : f_1 320 = ai (ca 1) 36 (z 1) := by rw [ef_1, va_up_ne _ _ (by decide)]; exact c_320
  have c_321 : f_1 321 = ai (ca 0) 64 (z 2) := by rw [ef_1, va_up_ne _ _ (by decide)]; exact c_321
  have c_322 : f_1 322 = ai (ca 0) 8 (z 3) := by rw [ef_1, va_up_ne _ _ (by decide)]; exact c_322
  have c_323 : f_1 323 = ai (ca 0) 8 (z 4) := by rw [ef_1, va_up_ne _ _ (by decide)]; exact c_323
  have c_324 : f_1 324 = ai (ca 0) 8 shR := by rw [ef_1, va_up_ne _ _ (by decide)]; exact c_324
  have c_325 : f_1 325 = ai (ca 0) 64 shK := by rw [ef_1, va_up_ne _ _ (by decide)]; exact c_325
  have qn_0 : (va_up n 7 0) 0 = n 0 := by rw [va_up_ne _ _ (by decide)]
  have qn_1 : (va_up n 7 0) 1 = n 1 := by rw [va_up_ne _ _ (by decide)]
  have qn_2 : (va_up n 7 0) 2 = n 2 := by rw [va_up_ne _ _ (by decide)]
  have qn_3 : (va_up n 7 0) 3 = n 3 := by rw [va_up_ne _ _ (by decide)]
  have qn_4 : (va_up n 7 0) 4 = n 4 := by rw [va_up_ne _ _ (by decide)]
  have qn_5 : (va_up n 7 0) 5 = n 5 := by rw [va_up_ne _ _ (by decide)]
  have qn_6 : (va_up n 7 0) 6 = n 6 := by rw [va_up_ne _ _ (by decide)]
  have qn_7 : (va_up n 7 0) 7 = 0 := by rw [va_up_self]
  have hRk : RepM ca ad (va_up n 7 0) g z zn tb f_1 := ⟨(by rw [qn_7, qn_0, qn_1, qn_2, qn_3, qn_4, qn_5]; exact c_302),
        c_303,
        c_304,
        c_305,
        c_306,
        c_307,
        c_308,
        c_309,
        c_310,
        c_311,
        c_312,
        c_313,
        c_314,
        c_315,
        c_316,
        c_317,
        c_318,
        c_319,
        c_320,
        c_321,
        c_322,
        c_323,
        c_324,
        c_325, hzn⟩
  have hfr : ∀ y, (y < 302 ∨ 326 ≤ y) → f_1 y = f y := (fun y hy => by rw [ef_1, va_up_ne _ _ (by omega)])
  refine x_Vi (q := 302) (As := [.int (nI i)]) (rest := []) ⟨hx, hb, hml, hown, hts⟩ (k_X6_isFile_yes l D ca N ad B tR tK f_1 dd hN (va_up n 7 0) g z zn tb hRk i (by omega) (by omega)) (cwV 1 hts gX6_alter_X6_isFile rfl rfl rfl (by decide +kernel) ⟨Nat.le_of_ble_eq_true rfl, Nat.le_of_ble_eq_true rfl⟩) hK hE hB hw (by omega) c_302 rfl rfl rfl rfl hl.1 (Nat.le_of_ble_eq_true rfl) ⟨Nat.zero_le _, Nat.zero_le _⟩ dX6_alter_7 (fun r_3 f_2 H locs hp hw => ?_)
  obtain ⟨er, hp⟩ := hp
  rw [← er]
  rw [← hp] at hw
  refine lv_if_eq (tgt := 29) hx hb dX6_alter_10 (by decide) (fun h => absurd h (by decide)) (fun _ => ?_)
  refine lv_iload_n hx hb dX6_alter_13 rfl (lv_at hl 2 rfl) ?_
  refine lv_iconst (v := nI 0) hx hb dX6_alter_14 (by decide) ?_
  refine lv_aload_n hx hb dX6_alter_15 rfl (lv_at hl 0 rfl) ?_
  refine x_get (ci := 7) (C := RX6) (T := TX6) (n := 32) (ref := RX6) hx hb hts hin_7 hown hK hw 302 (by omega) c_302 rfl 6 (by decide) hf_16 (fun _ h => h) rfl dX6_alter_16 ?_
  refine lv_iload_n hx hb dX6_alter_19 rfl (lv_at hl 1 rfl) ?_
  refine x_iald (j := i) hx hb hK hw 305 0 (by omega) c_305 rfl rfl (by omega) (by decide) dX6_alter_20 ?_
  rw [hz]
  refine lv_iconst (v := nI 1) hx hb dX6_alter_21 (by decide) ?_
  refine lv_isub hx hb dX6_alter_22 ?_
  refine lv_topi (fun x_4 ex_4 => ?_)
  refine x_Si (As := [.int y, .int (nI 0), .int x_4]) (rest := []) ⟨hx, hb, hml, hown, hts⟩ (k_X6_in_no l D ca N ad B tR tK f_1 dd y (nI 0) x_4   (by rw [ex_4]; exact out_of (by omega) ho)) (va_cwS 3 hts gX6_alter_X6_in rfl rfl rfl (by decide +kernel) ⟨Nat.le_of_ble_eq_true rfl, Nat.le_of_ble_eq_true rfl⟩) hK hE hB hw rfl rfl hl.1 (Nat.le_of_ble_eq_true rfl) ⟨Nat.zero_le _, Nat.zero_le _⟩ dX6_alter_23 (fun r_6 f_5 H locs hp hw => ?_)
  obtain ⟨er, eu⟩ := hp
  rw [← er]
  rw [← eu] at hw
  refine lv_if_ne (tgt := 31) hx hb dX6_alter_26 (by decide) (fun h => False.elim (h (by decide))) (fun _ => ?_)
  refine lv_iconst (v := (-1)) hx hb dX6_alter_29 (by decide) ?_
  have qn_0 : (va_up n 7 0) 0 = n 0 := by rw [va_up_ne _ _ (by decide)]
  have qn_1 : (va_up n 7 0) 1 = n 1 := by rw [va_up_ne _ _ (by decide)]
  have qn_2 : (va_up n 7 0) 2 = n 2 := by rw [va_up_ne _ _ (by decide)]
  have qn_3 : (va_up n 7 0) 3 = n 3 := by rw [va_up_ne _ _ (by decide)]
  have qn_4 : (va_up n 7 0) 4 = n 4 := by rw [va_up_ne _ _ (by decide)]
  have qn_5 : (va_up n 7 0) 5 = n 5 := by rw [va_up_ne _ _ (by decide)]
  have qn_6 : (va_up n 7 0) 6 = n 6 := by rw [va_up_ne _ _ (by decide)]
  have qn_7 : (va_up n 7 0) 7 = 0 := by rw [va_up_self]
  have hRz : RepM ca ad (va_up n 7 0) g z zn tb f_1 := ⟨(by rw [qn_7, qn_0, qn_1, qn_2, qn_3, qn_4, qn_5]; exact c_302),
        c_303,
        c_304,
        c_305,
        c_306,
        c_307,
        c_308,
        c_309,
        c_310,
        c_311,
        c_312,
        c_313,
        c_314,
        c_315,
        c_316,
        c_317,
        c_318,
        c_319,
        c_320,
        c_321,
        c_322,
        c_323,
        c_324,
        c_325, hzn⟩
  exact x_iret hx hb hr hlocks hw ⟨rfl, z, zn, hRz, (fun y hy => by rw [ef_1, va_up_ne _ _ (by omega)])⟩ dX6_alter_30

set_option maxHeartbeats 4000000 in
set_option maxRecDepth 100000 in
theorem k_X6_alter_in (l : Launch) (D : va_G) (ca : Nat → ClassId) (N : Nat) (ad : Nat → Nat) (B tR tK : Nat) (f : Nat → va_E) (dd : xD N ad B) (hN : 326 ≤ N) (n : Nat → Nat) (g : Nat → Nat → Int32) (z : Nat → Nat → Int32) (zn : Nat) (tb : Nat → Int32) (hR : RepM ca ad n g z zn tb f) (i : Nat) (j : Nat) (w : Int32) (zz : Nat) (h2 : n 2 ≤ 20) (hi : i < n 2) (hz : g 2 i = nI zz) (hz2 : zz ≤ 200) (hj : j < zz) : xMi l yX6_alter wsX6_alter rmX6_alter [.ref (ad 302), .int (nI i), .int (nI j), .int w] D ca N ad B tR tK f (fun r u => g 1 (200 * i + j) &&& nI 255 = r ∧ ∃ (z1 : Nat → Nat → Int32) (zn1 : Nat), RepM ca ad (va_up n 7 0) (va_up g 1 (upd (g 1) ((200 * i) + j) w.toInt8.toInt32)) z1 zn1 tb u ∧ ∀ y, (y < 302 ∨ 326 ≤ y) → u y = f y) := by
  refine x_open (cc := cX6_alter) (maxL := 5) (ret := (some .int)) (by decide) rfl (Nat.le_of_ble_eq_true rfl) ?_
  intro p e s m below meth c ls hx hb hml hown hts hr hlocks hnm hB hK hE hw hl
  have hown : s.vm.findClass RX6 = some m.cls := hown
  have hl : lv_has ls 5 [(0, .ref (ad 302)), (1, .int (nI i)), (2, .int (nI j)), (3, .int w)] := hl
  obtain ⟨c_302, c_303, c_304, c_305, c_306, c_307, c_308, c_309, c_310, c_311, c_312, c_313, c_314, c_315, c_316, c_317, c_318, c_319, c_320, c_321, c_322, c_323, c_324, c_325, hzn⟩ := hR
  have hin_7 : ∀ w ∈ u_ws RX6 TX6 32, w ∈ wsX6_alter := by decide +kernel
  have hf_160 := hts (.fieldLink RX6 160 "FixityRowsModel" "thrown" "I") (by decide +kernel)
  have hf_16 := hts (.fieldLink RX6 16 "FixityRowsModel" "size" "[I") (by decide +kernel)
  have hf_13 := hts (.fieldLink RX6 13 "FixityRowsModel" "bytes" "[B") (by decide +kernel)
  have b_302 := c_302
  have b_303 := c_303
  have b_304 := c_304
  have b_305 := c_305
  have b_306 := c_306
  have b_307 := c_307
  have b_308 := c_308
  have b_309 := c_309
  have b_310 := c_310
  have b_311 := c_311
  have b_312 := c_312
  have b_313 := c_313
  have b_314 := c_314
  have b_315 := c_315
  have b_316 := c_316
  have b_317 := c_317
  have b_318 := c_318
  have b_319 := c_319
  have b_320 := c_320
  have b_321 := c_321
  have b_322 := c_322
  have b_323 := c_323
  have b_324 := c_324
  have b_325 := c_325
  refine lv_aload_n hx hb dX6_alter_0 rfl (lv_at hl 0 rfl) ?_
  refine lv_iconst (v := nI 0) hx hb dX6_alter_1 (by decide) ?_
  refine x_put (ci := 7) (C := RX6) (T := TX6) (n := 32) (ref := RX6) (fs' := mO ad 0 (n 0) (n 1) (n 2) (g 13 0) (n 3) (n 4) (n 5) zn) hx hb hts hin_7 tyX6 tyX6_ok nmX6 hown hK dd hw 302 (by omega) c_302 rfl 0 (by decide) hf_160 (fun _ h => h) rfl rfl rfl (Nat.le_of_ble_eq_true rfl) rfl dX6_alter_2 (fun H locs hw => ?_)
  obtain ⟨f_1, ef_1⟩ : ∃ z, z = va_up f 302 (.inr (7, mO ad 0 (n 0) (n 1) (n 2) (g 13 0) (n 3) (n 4) (n 5) zn)) := ⟨_, rfl⟩
  have hw : xw D vwCl N ad B s.heap f_1 H locs := by rw [ef_1]; exact hw
  have c_302 : f_1 302 = .inr (7, mO ad 0 (n 0) (n 1) (n 2) (g 13 0) (n 3) (n 4) (n 5) zn) := va_up_of ef_1
  refine lv_aload_n hx hb dX6_alter_5 rfl (lv_at hl 0 rfl) ?_
  refine lv_iload_n hx hb dX6_alter_6 rfl (lv_at hl 1 rfl) ?_
  have c_303 : f_1 303 = ai (ca 1) 200 (g 0) := by rw [ef_1, va_up_ne _ _ (by decide)]; exact c_303
  have c_304 : f_1 304 = ai (ca 1) 4000 (g 1) := by rw [ef_1, va_up_ne _ _ (by decide)]; exact c_304
  have c_305 : f_1 305 = ai (ca 0) 20 (g 2) := by rw [ef_1, va_up_ne _ _ (by decide)]; exact c_305
  have c_306 : f_1 306 = ai (ca 0) 20 (g 3) := by rw [ef_1, va_up_ne _ _ (by decide)]; exact c_306
  have c_307 : f_1 307 = ai (ca 1) 720 (g 4) := by rw [ef_1, va_up_ne _ _ (by decide)]; exact c_307
  have c_308 : f_1 308 = ai (ca 0) 20 (g 5) := by rw [ef_1, va_up_ne _ _ (by decide)]; exact c_308
  have c_309 : f_1 309 = ai (ca 0) 20 (g 6) := by rw [ef_1, va_up_ne _ _ (by decide)]; exact c_309
  have c_310 : f_1 310 = ai (ca 0) 20 (g 7) := by rw [ef_1, va_up_ne _ _ (by decide)]; exact c_310
  have c_311 : f_1 311 = ai (ca 0) 20 (g 8) := by rw [ef_1, va_up_ne _ _ (by decide)]; exact c_311
  have c_312 : f_1 312 = ai (ca 0) 20 (g 9) := by rw [ef_1, va_up_ne _ _ (by decide)]; exact c_312
  have c_313 : f_1 313 = ai (ca 2) 20 (g 10) := by rw [ef_1, va_up_ne _ _ (by decide)]; exact c_313
  have c_314 : f_1 314 = ai (ca 0) 200 (g 11) := by rw [ef_1, va_up_ne _ _ (by decide)]; exact c_314
  have c_315 : f_1 315 = ai (ca 0) 200 (g 12) := by rw [ef_1, va_up_ne _ _ (by decide)]; exact c_315
  have c_316 : f_1 316 = ai (ca 0) 200 (g 14) := by rw [ef_1, va_up_ne _ _ (by decide)]; exact c_316
  have c_317 : f_1 317 = ai (ca 1) 6400 (g 15) := by rw [ef_1, va_up_ne _ _ (by decide)]; exact c_317
  have c_318 : f_1 318 = ai (ca 1) 32 (g 16) := by rw [ef_1, va_up_ne _ _ (by decide)]; exact c_318
  have c_319 : f_1 319 = ai (ca 1) 320 (z 0) := by rw [ef_1, va_up_ne _ _ (by decide)]; exact c_319
  have c_320 : f_1 320 = ai (ca 1) 36 (z 1) := by rw [ef_1, va_up_ne _ _ (by decide)]; exact c_320
  have c_321 : f_1 321 = ai (ca 0) 64 (z 2) := by rw [ef_1, va_up_ne _ _ (by decide)]; exact c_321
  have c_322 : f_1 322 = ai (ca 0) 8 (z 3) := by rw [ef_1, va_up_ne _ _ (by decide)]; exact c_322
  have c_323 : f_1 323 = ai (ca 0) 8 (z 4) := by rw [ef_1, va_up_ne _ _ (by decide)]; exact c_323
  have c_324 : f_1 324 = ai (ca 0) 8 shR := by rw [ef_1, va_up_ne _ _ (by decide)]; exact c_324
  have c_325 : f_1 325 = ai (ca 0) 64 shK := by rw [ef_1, va_up_ne _ _ (by decide)]; exact c_325
  have qn_0 : (va_up n 7 0) 0 = n 0 := by rw [va_up_ne _ _ (by decide)]
  have qn_1 : (va_up n 7 0) 1 = n 1 := by rw [va_up_ne _ _ (by decide)]
  have qn_2 : (va_up n 7 0) 2 = n 2 := by rw [va_up_ne _ _ (by decide)]
  have qn_3 : (va_up n 7 0) 3 = n 3 := by rw [va_up_ne _ _ (by decide)]
  have qn_4 : (va_up n 7 0) 4 = n 4 := by rw [va_up_ne _ _ (by decide)]
  have qn_5 : (va_up n 7 0) 5 = n 5 := by rw [va_up_ne _ _ (by decide)]
  have qn_6 : (va_up n 7 0) 6 = n 6 := by rw [va_up_ne _ _ (by decide)]
  have qn_7 : (va_up n 7 0) 7 = 0 := by rw [va_up_self]
  have hRk : RepM ca ad (va_up n 7 0) g z zn tb f_1 := ⟨(by rw [qn_7, qn_0, qn_1, qn_2, qn_3, qn_4, qn_5]; exact c_302),
        c_303,
        c_304,
        c_305,
        c_306,
        c_307,
        c_308,
        c_309,
        c_310,
        c_311,
        c_312,
        c_313,
        c_314,
        c_315,
        c_316,
        c_317,
        c_318,
        c_319,
        c_320,
        c_321,
        c_322,
        c_323,
        c_324,
        c_325, hzn⟩
  have hfr : ∀ y, (y < 302 ∨ 326 ≤ y) → f_1 y = f y := (fun y hy => by rw [ef_1, va_up_ne _ _ (by omega)])
  refine x_Vi (q := 302) (As := [.int (nI i)]) (rest := []) ⟨hx, hb, hml, hown, hts⟩ (k_X6_isFile_yes l D ca N ad B tR tK f_1 dd hN (va_up n 7 0) g z zn tb hRk i (by omega) (by omega)) (cwV 1 hts gX6_alter_X6_isFile rfl rfl rfl (by decide +kernel) ⟨Nat.le_of_ble_eq_true rfl, Nat.le_of_ble_eq_true rfl⟩) hK hE hB hw (by omega) c_302 rfl rfl rfl rfl hl.1 (Nat.le_of_ble_eq_true rfl) ⟨Nat.zero_le _, Nat.zero_le _⟩ dX6_alter_7 (fun r_3 f_2 H locs hp hw => ?_)
  obtain ⟨er, hp⟩ := hp
  rw [← er]
  rw [← hp] at hw
  refine lv_if_eq (tgt := 29) hx hb dX6_alter_10 (by decide) (fun h => absurd h (by decide)) (fun _ => ?_)
  refine lv_iload_n hx hb dX6_alter_13 rfl (lv_at hl 2 rfl) ?_
  refine lv_iconst (v := nI 0) hx hb dX6_alter_14 (by decide) ?_
  refine lv_aload_n hx hb dX6_alter_15 rfl (lv_at hl 0 rfl) ?_
  refine x_get (ci := 7) (C := RX6) (T := TX6) (n := 32) (ref := RX6) hx hb hts hin_7 hown hK hw 302 (by omega) c_302 rfl 6 (by decide) hf_16 (fun _ h => h) rfl dX6_alter_16 ?_
  refine lv_iload_n hx hb dX6_alter_19 rfl (lv_at hl 1 rfl) ?_
  refine x_iald (j := i) hx hb hK hw 305 0 (by omega) c_305 rfl rfl (by omega) (by decide) dX6_alter_20 ?_
  rw [hz]
  refine lv_iconst (v := nI 1) hx hb dX6_alter_21 (by decide) ?_
  refine n_isub hx hb dX6_alter_22 (by omega) ?_
  refine x_Si (As := [.int (nI j), .int (nI 0), .int (nI (zz - 1))]) (rest := []) ⟨hx, hb, hml, hown, hts⟩ (k_X6_in_yes l D ca N ad B tR tK f_1 dd j 0 (zz - 1)   (by omega) (by omega) (by omega)) (va_cwS 3 hts gX6_alter_X6_in rfl rfl rfl (by decide +kernel) ⟨Nat.le_of_ble_eq_true rfl, Nat.le_of_ble_eq_true rfl⟩) hK hE hB hw rfl rfl hl.1 (Nat.le_of_ble_eq_true rfl) ⟨Nat.zero_le _, Nat.zero_le _⟩ dX6_alter_23 (fun r_5 f_4 H locs hp hw => ?_)
  obtain ⟨er, eu⟩ := hp
  rw [← er]
  rw [← eu] at hw
  refine lv_if_ne (tgt := 31) hx hb dX6_alter_26 (by decide) (fun _ => ?_) (fun h => absurd h (by decide))
  refine lv_aload_n hx hb dX6_alter_31 rfl (lv_at hl 0 rfl) ?_
  refine x_get (ci := 7) (C := RX6) (T := TX6) (n := 32) (ref := RX6) hx hb hts hin_7 hown hK hw 302 (by omega) c_302 rfl 5 (by decide) hf_13 (fun _ h => h) rfl dX6_alter_32 ?_
  refine lv_sipush (v := nI 200) hx hb dX6_alter_35 (by decide) ?_
  refine lv_iload_n hx hb dX6_alter_38 rfl (lv_at hl 1 rfl) ?_
  refine n_imul hx hb dX6_alter_39 ?_
  refine lv_iload_n hx hb dX6_alter_40 rfl (lv_at hl 2 rfl) ?_
  refine n_iadd hx hb dX6_alter_41 ?_
  refine x_bald (j := (200 * i) + j) hx hb hK hw 304 1 (by omega) c_304 rfl rfl (by omega) (by decide) dX6_alter_42 ?_
  refine lv_sipush (v := nI 255) hx hb dX6_alter_43 (by decide) ?_
  refine lv_iand hx hb dX6_alter_46 ?_
  refine lv_topi (fun x_6 ex_6 => ?_)
  refine lv_istore (lv' := [(4, .int x_6), (0, .ref (ad 302)), (1, .int (nI i)), (2, .int (nI j)), (3, .int w)]) hx hb dX6_alter_47 hl (by decide) rfl (fun ls hl => ?_)
  refine lv_aload_n hx hb dX6_alter_49 rfl (lv_at hl 1 rfl) ?_
  refine x_get (ci := 7) (C := RX6) (T := TX6) (n := 32) (ref := RX6) hx hb hts hin_7 hown hK hw 302 (by omega) c_302 rfl 5 (by decide) hf_13 (fun _ h => h) rfl dX6_alter_50 ?_
  refine lv_sipush (v := nI 200) hx hb dX6_alter_53 (by decide) ?_
  refine lv_iload_n hx hb dX6_alter_56 rfl (lv_at hl 2 rfl) ?_
  refine n_imul hx hb dX6_alter_57 ?_
  refine lv_iload_n hx hb dX6_alter_58 rfl (lv_at hl 3 rfl) ?_
  refine n_iadd hx hb dX6_alter_59 ?_
  refine lv_iload_n hx hb dX6_alter_60 rfl (lv_at hl 4 rfl) ?_
  refine lv_i2b (v := w.toInt8.toInt32) hx hb dX6_alter_61 rfl ?_
  refine x_bast (j := (200 * i) + j) (y := w.toInt8.toInt32) hx hb hK dd hw 304 1 (by omega) c_304 rfl rfl (by omega) (by decide) (i8_i8 _) dX6_alter_62 (fun H locs hw => ?_)
  obtain ⟨f_7, ef_7⟩ : ∃ z, z = va_up f_1 304 (ai (ca 1) 4000 (upd (g 1) ((200 * i) + j) w.toInt8.toInt32)) := ⟨_, rfl⟩
  have hw : xw D vwCl N ad B s.heap f_7 H locs := by rw [ef_7]; exact hw
  have c_304 : f_7 304 = ai (ca 1) 4000 (upd (g 1) ((200 * i) + j) w.toInt8.toInt32) := va_up_of ef_7
  refine lv_iload hx hb dX6_alter_63 (lv_at hl 0 rfl) ?_
  have c_302 : f_7 302 = .inr (7, mO ad 0 (n 0) (n 1) (n 2) (g 13 0) (n 3) (n 4) (n 5) zn) := by rw [ef_7, va_up_ne _ _ (by decide)]; exact c_302
  have c_303 : f_7 303 = ai (ca 1) 200 (g 0) := by rw [ef_7, va_up_ne _ _ (by decide)]; exact c_303
  have c_305 : f_7 305 = ai (ca 0) 20 (g 2) := by rw [ef_7, va_up_ne _ _ (by decide)]; exact c_305
  have c_306 : f_7 306 = ai (ca 0) 20 (g 3) := by rw [ef_7, va_up_ne _ _ (by decide)]; exact c_306
  have c_307 : f_7 307 = ai (ca 1) 720 (g 4) := by rw [ef_7, va_up_ne _ _ (by decide)]; exact c_307
  have c_308 : f_7 308 = ai (ca 0) 20 (g 5) := by rw [ef_7, va_up_ne _ _ (by decide)]; exact c_308
  have c_309 : f_7 309 = ai (ca 0) 20 (g 6) := by rw [ef_7, va_up_ne _ _ (by decide)]; exact c_309
  have c_310 : f_7 310 = ai (ca 0) 20 (g 7) := by rw [ef_7, va_up_ne _ _ (by decide)]; exact c_310
  have c_311 : f_7 311 = ai (ca 0) 20 (g 8) := by rw [ef_7, va_up_ne _ _ (by decide)]; exact c_311
  have c_312 : f_7 312 = ai (ca 0) 20 (g 9) := by rw [ef_7, va_up_ne _ _ (by decide)]; exact c_312
  have c_313 : f_7 313 = ai (ca 2) 20 (g 10) := by rw [ef_7, va_up_ne _ _ (by decide)]; exact c_313
  have c_314 : f_7 314 = ai (ca 0) 200 (g 11) := by rw [ef_7, va_up_ne _ _ (by decide)]; exact c_314
  have c_315 : f_7 315 = ai (ca 0) 200 (g 12) := by rw [ef_7, va_up_ne _ _ (by decide)]; exact c_315
  have c_316 : f_7 316 = ai (ca 0) 200 (g 14) := by rw [ef_7, va_up_ne _ _ (by decide)]; exact c_316
  have c_317 : f_7 317 = ai (ca 1) 6400 (g 15) := by rw [ef_7, va_up_ne _ _ (by decide)]; exact c_317
  have c_318 : f_7 318 = ai (ca 1) 32 (g 16) := by rw [ef_7, va_up_ne _ _ (by decide)]; exact c_318
  have c_319 : f_7 319 = ai (ca 1) 320 (z 0) := by rw [ef_7, va_up_ne _ _ (by decide)]; exact c_319
  have c_320 : f_7 320 = ai (ca 1) 36 (z 1) := by rw [ef_7, va_up_ne _ _ (by decide)]; exact c_320
  have c_321 : f_7 321 = ai (ca 0) 64 (z 2) := by rw [ef_7, va_up_ne _ _ (by decide)]; exact c_321
  have c_322 : f_7 322 = ai (ca 0) 8 (z 3) := by rw [ef_7, va_up_ne _ _ (by decide)]; exact c_322
  have c_323 : f_7 323 = ai (ca 0) 8 (z 4) := by rw [ef_7, va_up_ne _ _ (by decide)]; exact c_323
  have c_324 : f_7 324 = ai (ca 0) 8 shR := by rw [ef_7, va_up_ne _ _ (by decide)]; exact c_324
  have c_325 : f_7 325 = ai (ca 0) 64 shK := by rw [ef_7, va_up_ne _ _ (by decide)]; exact c_325
  have qn_0 : (va_up n 7 0) 0 = n 0 := by rw [va_up_ne _ _ (by decide)]
  have qn_1 : (va_up n 7 0) 1 = n 1 := by rw [va_up_ne _ _ (by decide)]
  have qn_2 : (va_up n 7 0) 2 = n 2 := by rw [va_up_ne _ _ (by decide)]
  have qn_3 : (va_up n 7 0) 3 = n 3 := by rw [va_up_ne _ _ (by decide)]
  have qn_4 : (va_up n 7 0) 4 = n 4 := by rw [va_up_ne _ _ (by decide)]
  have qn_5 : (va_up n 7 0) 5 = n 5 := by rw [va_up_ne _ _ (by decide)]
  have qn_6 : (va_up n 7 0) 6 = n 6 := by rw [va_up_ne _ _ (by decide)]
  have qn_7 : (va_up n 7 0) 7 = 0 := by rw [va_up_self]
  have qg_0 : (va_up g 1 (upd (g 1) ((200 * i) + j) w.toInt8.toInt32)) 0 = g 0 := by rw [va_up_ne _ _ (by decide)]
  have qg_1 : (va_up g 1 (upd (g 1) ((200 * i) + j) w.toInt8.toInt32)) 1 = upd (g 1) ((200 * i) + j) w.toInt8.toInt32 := by rw [va_up_self]
  have qg_2 : (va_up g 1 (upd (g 1) ((200 * i) + j) w.toInt8.toInt32)) 2 = g 2 := by rw [va_up_ne _ _ (by decide)]
  have qg_3 : (va_up g 1 (upd (g 1) ((200 * i) + j) w.toInt8.toInt32)) 3 = g 3 := by rw [va_up_ne _ _ (by decide)]
  have qg_4 : (va_up g 1 (upd (g 1) ((200 * i) + j) w.toInt8.toInt32)) 4 = g 4 := by rw [va_up_ne _ _ (by decide)]
  have qg_5 : (va_up g 1 (upd (g 1) ((200 * i) + j) w.toInt8.toInt32)) 5 = g 5 := by rw [va_up_ne _ _ (by decide)]
  have qg_6 : (va_up g 1 (upd (g 1) ((200 * i) + j) w.toInt8.toInt32)) 6 = g 6 := by rw [va_up_ne _ _ (by decide)]
  have qg_7 : (va_up g 1 (upd (g 1) ((200 * i) + j) w.toInt8.toInt32)) 7 = g 7 := by rw [va_up_ne _ _ (by decide)]
  have qg_8 : (va_up g 1 (upd (g 1) ((200 * i) + j) w.toInt8.toInt32)) 8 = g 8 := by rw [va_up_ne _ _ (by decide)]
  have qg_9 : (va_up g 1 (upd (g 1) ((200 * i) + j) w.toInt8.toInt32)) 9 = g 9 := by rw [va_up_ne _ _ (by decide)]
  have qg_10 : (va_up g 1 (upd (g 1) ((200 * i) + j) w.toInt8.toInt32)) 10 = g 10 := by rw [va_up_ne _ _ (by decide)]
  have qg_11 : (va_up g 1 (upd (g 1) ((200 * i) + j) w.toInt8.toInt32)) 11 = g 11 := by rw [va_up_ne _ _ (by decide)]
  have qg_12 : (va_up g 1 (upd (g 1) ((200 * i) + j) w.toInt8.toInt32)) 12 = g 12 := by rw [va_up_ne _ _ (by decide)]
  have qg_13 : (va_up g 1 (upd (g 1) ((200 * i) + j) w.toInt8.toInt32)) 13 = g 13 := by rw [va_up_ne _ _ (by decide)]
  have qg_14 : (va_up g 1 (upd (g 1) ((200 * i) + j) w.toInt8.toInt32)) 14 = g 14 := by rw [va_up_ne _ _ (by decide)]
  have qg_15 : (va_up g 1 (upd (g 1) ((200 * i) + j) w.toInt8.toInt32)) 15 = g 15 := by rw [va_up_ne _ _ (by decide)]
  have qg_16 : (va_up g 1 (upd (g 1) ((200 * i) + j) w.toInt8.toInt32)) 16 = g 16 := by rw [va_up_ne _ _ (by decide)]
  have hRz : RepM ca ad (va_up n 7 0) (va_up g 1 (upd (g 1) ((200 * i) + j) w.toInt8.toInt32)) z zn tb f_7 := ⟨(by rw [qn_7, qn_0, qn_1, qn_2, qn_3, qn_4, qn_5, qg_13]; exact c_302),
        (by rw [qg_0]; exact c_303),
        (by rw [qg_1]; exact c_304),
        (by rw [qg_2]; exact c_305),
        (by rw [qg_3]; exact c_306),
        (by rw [qg_4]; exact c_307),
        (by rw [qg_5]; exact c_308),
        (by rw [qg_6]; exact c_309),
        (by rw [qg_7]; exact c_310),
        (by rw [qg_8]; exact c_311),
        (by rw [qg_9]; exact c_312),
        (by rw [qg_10]; exact c_313),
        (by rw [qg_11]; exact c_314),
        (by rw [qg_12]; exact c_315),
        (by rw [qg_14]; exact c_316),
        (by rw [qg_15]; exact c_317),
        (by rw [qg_16]; exact c_318),
        c_319,
        c_320,
        c_321,
        c_322,
        c_323,
        c_324,
        c_325, hzn⟩
  exact x_iret hx hb hr hlocks hw ⟨(by first | rfl | simp only [*]), z, zn, hRz, (fun y hy => by rw [ef_7, va_up_ne _ _ (by omega), ef_1, va_up_ne _ _ (by omega)])⟩ dX6_alter_65

abbrev rmX6_cut : Room := { frames := 2, cells := 0, slots := 0, locals := 43 }

set_option maxHeartbeats 4000000 in
set_option maxRecDepth 100000 in
theorem k_X6_cut_nofile (l : Launch) (D : va_G) (ca : Nat → ClassId) (N : Nat) (ad : Nat → Nat) (B tR tK : Nat) (f : Nat → va_E) (dd : xD N ad B) (hN : 326 ≤ N) (n : Nat → Nat) (g : Nat → Nat → Int32) (z : Nat → Nat → Int32) (zn : Nat) (tb : Nat → Int32) (hR : RepM ca ad n g z zn tb f) (x : Int32) (y : Int32) (h2 : n 2 ≤ 20) (ho : x < 0 ∨ nI (n 2) ≤ x) : xMi l yX6_cut wsX6_cut rmX6_cut [.ref (ad 302), .int x, .int y] D ca N ad B tR tK f (fun r u => (-1) = r ∧ ∃ (z1 : Nat → Nat → Int32) (zn1 : Nat), RepM ca ad (va_up n 7 0) g z1 zn1 tb u ∧ ∀ y, (y < 302 ∨ 326 ≤ y) → u y = f y) := by
  refine x_open (cc := cX6_cut) (maxL := 4) (ret := (some .int)) (by decide) rfl (Nat.le_of_ble_eq_true rfl) ?_
  intro p e s m below meth c ls hx hb hml hown hts hr hlocks hnm hB hK hE hw hl
  have hown : s.vm.findClass RX6 = some m.cls := hown
  have hl : lv_has ls 4 [(0, .ref (ad 302)), (1, .int x), (2, .int y)] := hl
  obtain ⟨c_302, c_303, c_304, c_305, c_306, c_307, c_308, c_309, c_310, c_311, c_312, c_313, c_314, c_315, c_316, c_317, c_318, c_319, c_320, c_321, c_322, c_323, c_324, c_325, hzn⟩ := hR
  have hin_7 : ∀ w ∈ u_ws RX6 TX6 32, w ∈ wsX6_cut := by decide +kernel
  have hf_160 := hts (.fieldLink RX6 160 "FixityRowsModel" "thrown" "I") (by decide +kernel)
  have b_302 := c_302
  have b_303 := c_303
  have b_304 := c_304
  have b_305 := c_305
  have b_306 := c_306
  have b_307 := c_307
  have b_308 := c_308
  have b_309 := c_309
  have b_310 := c_310
  have b_311 := c_311
  have b_312 := c_312
  have b_313 := c_313
  have b_314 := c_314
  have b_315 := c_315
  have b_316 := c_316
  have b_317 := c_317
  have b_318 := c_318
  have b_319 := c_319
  have b_320 := c_320
  have b_321 := c_321
  have b_322 := c_322
  have b_323 := c_323
  have b_324 := c_324
  have b_325 := c_325
  refine lv_aload_n hx hb dX6_cut_0 rfl (lv_at hl 0 rfl) ?_
  refine lv_iconst (v := nI 0) hx hb dX6_cut_1 (by decide) ?_
  refine x_put (ci := 7) (C := RX6) (T := TX6) (n := 32) (ref := RX6) (fs' := mO ad 0 (n 0) (n 1) (n 2) (g 13 0) (n 3) (n 4) (n 5) zn) hx hb hts hin_7 tyX6 tyX6_ok nmX6 hown hK dd hw 302 (by omega) c_302 rfl 0 (by decide) hf_160 (fun _ h => h) rfl rfl rfl (Nat.le_of_ble_eq_true rfl) rfl dX6_cut_2 (fun H locs hw => ?_)
  obtain ⟨f_1, ef_1⟩ : ∃ z, z = va_up f 302 (.inr (7, mO ad 0 (n 0) (n 1) (n 2) (g 13 0) (n 3) (n 4) (n 5) zn)) := ⟨_, rfl⟩
  have hw : xw D vwCl N ad B s.heap f_1 H locs := by rw [ef_1]; exact hw
  have c_302 : f_1 302 = .inr (7, mO ad 0 (n 0) (n 1) (n 2) (g 13 0) (n 3) (n 4) (n 5) zn) := va_up_of ef_1
  refine lv_aload_n hx hb dX6_cut_5 rfl (lv_at hl 0 rfl) ?_
  refine lv_iload_n hx hb dX6_cut_6 rfl (lv_at hl 1 rfl) ?_
  have c_303 : f_1 303 = ai (ca 1) 200 (g 0) := by rw [ef_1, va_up_ne _ _ (by decide)]; exact c_303
  have c_304 : f_1 304 = ai (ca 1) 4000 (g 1) := by rw [ef_1, va_up_ne _ _ (by decide)]; exact c_304
  have c_305 : f_1 305 = ai (ca 0) 20 (g 2) := by rw [ef_1, va_up_ne _ _ (by decide)]; exact c_305
  have c_306 : f_1 306 = ai (ca 0) 20 (g 3) := by rw [ef_1, va_up_ne _ _ (by decide)]; exact c_306
  have c_307 : f_1 307 = ai (ca 1) 720 (g 4) := by rw [ef_1, va_up_ne _ _ (by decide)]; exact c_307
  have c_308 : f_1 308 = ai (ca 0) 20 (g 5) := by rw [ef_1, va_up_ne _ _ (by decide)]; exact c_308
  have c_309 : f_1 309 = ai (ca 0) 20 (g 6) := by rw [ef_1, va_up_ne _ _ (by decide)]; exact c_309
  have c_310 : f_1 310 = ai (ca 0) 20 (g 7) := by rw [ef_1, va_up_ne _ _ (by decide)]; exact c_310
  have c_311 : f_1 311 = ai (ca 0) 20 (g 8) := by rw [ef_1, va_up_ne _ _ (by decide)]; exact c_311
  have c_312 : f_1 312 = ai (ca 0) 20 (g 9) := by rw [ef_1, va_up_ne _ _ (by decide)]; exact c_312
  have c_313 : f_1 313 = ai (ca 2) 20 (g 10) := by rw [ef_1, va_up_ne _ _ (by decide)]; exact c_313
  have c_314 : f_1 314 = ai (ca 0) 200 (g 11) := by rw [ef_1, va_up_ne _ _ (by decide)]; exact c_314
  have c_315 : f_1 315 = ai (ca 0) 200 (g 12) := by rw [ef_1, va_up_ne _ _ (by decide)]; exact c_315
  have c_316 : f_1 316 = ai (ca 0) 200 (g 14) := by rw [ef_1, va_up_ne _ _ (by decide)]; exact c_316
  have c_317 : f_1 317 = ai (ca 1) 6400 (g 15) := by rw [ef_1, va_up_ne _ _ (by decide)]; exact c_317
  have c_318 : f_1 318 = ai (ca 1) 32 (g 16) := by rw [ef_1, va_up_ne _ _ (by decide)]; exact c_318
  have c_319 : f_1 319 = ai (ca 1) 320 (z 0) := by rw [ef_1, va_up_ne _ _ (by decide)]; exact c_319
  have c_320 : f_1 320 = ai (ca 1) 36 (z 1) := by rw [ef_1, va_up_ne _ _ (by decide)]; exact c_320
  have c_321 : f_1 321 = ai (ca 0) 64 (z 2) := by rw [ef_1, va_up_ne _ _ (by decide)]; exact c_321
  have c_322 : f_1 322 = ai (ca 0) 8 (z 3) := by rw [ef_1, va_up_ne _ _ (by decide)]; exact c_322
  have c_323 : f_1 323 = ai (ca 0) 8 (z 4) := by rw [ef_1, va_up_ne _ _ (by decide)]; exact c_323
  have c_324 : f_1 324 = ai (ca 0) 8 shR := by rw [ef_1, va_up_ne _ _ (by decide)]; exact c_324
  have c_325 : f_1 325 = ai (ca 0) 64 shK := by rw [ef_1, va_up_ne _ _ (by decide)]; exact c_325
  have qn_0 : (va_up n 7 0) 0 = n 0 := by rw [va_up_ne _ _ (by decide)]
  have qn_1 : (va_up n 7 0) 1 = n 1 := by rw [va_up_ne _ _ (by decide)]
  have qn_2 : (va_up n 7 0) 2 = n 2 := by rw [va_up_ne _ _ (by decide)]
  have qn_3 : (va_up n 7 0) 3 = n 3 := by rw [va_up_ne _ _ (by decide)]
  have qn_4 : (va_up n 7 0) 4 = n 4 := by rw [va_up_ne _ _ (by decide)]
  have qn_5 : (va_up n 7 0) 5 = n 5 := by rw [va_up_ne _ _ (by decide)]
  have qn_6 : (va_up n 7 0) 6 = n 6 := by rw [va_up_ne _ _ (by decide)]
  have qn_7 : (va_up n 7 0) 7 = 0 := by rw [va_up_self]
  have hRk : RepM ca ad (va_up n 7 0) g z zn tb f_1 := ⟨(by rw [qn_7, qn_0, qn_1, qn_2, qn_3, qn_4, qn_5]; exact c_302),
        c_303,
        c_304,
        c_305,
        c_306,
        c_307,
        c_308,
        c_309,
        c_310,
        c_311,
        c_312,
        c_313,
        c_314,
        c_315,
        c_316,
        c_317,
        c_318,
        c_319,
        c_320,
        c_321,
        c_322,
        c_323,
        c_324,
        c_325, hzn⟩
  have hfr : ∀ y, (y < 302 ∨ 326 ≤ y) → f_1 y = f y := (fun y hy => by rw [ef_1, va_up_ne _ _ (by omega)])
  refine x_Vi (q := 302) (As := [.int x]) (rest := []) ⟨hx, hb, hml, hown, hts⟩ (k_X6_isFile_no l D ca N ad B tR tK f_1 dd hN (va_up n 7 0) g z zn tb hRk x (by omega) ho) (cwV 1 hts gX6_cut_X6_isFile rfl rfl rfl (by decide +kernel) ⟨Nat.le_of_ble_eq_true rfl, Nat.le_of_ble_eq_true rfl⟩) hK hE hB hw (by omega) c_302 rfl rfl rfl rfl hl.1 (Nat.le_of_ble_eq_true rfl) ⟨Nat.zero_le _, Nat.zero_le _⟩ dX6_cut_7 (fun r_3 f_2 H locs hp hw => ?_)
  obtain ⟨er, hp⟩ := hp
  rw [← er]
  rw [← hp] at hw
  refine lv_if_ne (tgt := 15) hx hb dX6_cut_10 (by decide) (fun h => False.elim (h (by decide))) (fun _ => ?_)
  refine lv_iconst (v := (-1)) hx hb dX6_cut_13 (by decide) ?_
  have qn_0 : (va_up n 7 0) 0 = n 0 := by rw [va_up_ne _ _ (by decide)]
  have qn_1 : (va_up n 7 0) 1 = n 1 := by rw [va_up_ne _ _ (by decide)]
  have qn_2 : (va_up n 7 0) 2 = n 2 := by rw [va_up_ne _ _ (by decide)]
  have qn_3 : (va_up n 7 0) 3 = n 3 := by rw [va_up_ne _ _ (by decide)]
  have qn_4 : (va_up n 7 0) 4 = n 4 := by rw [va_up_ne _ _ (by decide)]
  have qn_5 : (va_up n 7 0) 5 = n 5 := by rw [va_up_ne _ _ (by decide)]
  have qn_6 : (va_up n 7 0) 6 = n 6 := by rw [va_up_ne _ _ (by decide)]
  have qn_7 : (va_up n 7 0) 7 = 0 := by rw [va_up_self]
  have hRz : RepM ca ad (va_up n 7 0) g z zn tb f_1 := ⟨(by rw [qn_7, qn_0, qn_1, qn_2, qn_3, qn_4, qn_5]; exact c_302),
        c_303,
        c_304,
        c_305,
        c_306,
        c_307,
        c_308,
        c_309,
        c_310,
        c_311,
        c_312,
        c_313,
        c_314,
        c_315,
        c_316,
        c_317,
        c_318,
        c_319,
        c_320,
        c_321,
        c_322,
        c_323,
        c_324,
        c_325, hzn⟩
  exact x_iret hx hb hr hlocks hw ⟨rfl, z, zn, hRz, (fun y hy => by rw [ef_1, va_up_ne _ _ (by omega)])⟩ dX6_cut_14

set_option maxHeartbeats 4000000 in
set_option maxRecDepth 100000 in
theorem k_X6_cut_range (l : Launch) (D : va_G) (ca : Nat → ClassId) (N : Nat) (ad : Nat → Nat) (B tR tK : Nat) (f : Nat → va_E) (dd : xD N ad B) (hN : 326 ≤ N) (n : Nat → Nat) (g : Nat → Nat → Int32) (z : Nat → Nat → Int32) (zn : Nat) (tb : Nat → Int32) (hR : RepM ca ad n g z zn tb f) (i : Nat) (y : Int32) (zz : Nat) (h2 : n 2 ≤ 20) (hi : i < n 2) (hz : g 2 i = nI zz) (hz2 : zz ≤ 200) (ho : y < 0 ∨ nI zz < y) : xMi l yX6_cut wsX6_cut rmX6_cut [.ref (ad 302), .int (nI i), .int y] D ca N ad B tR tK f (fun r u => (-2) = r ∧ ∃ (z1 : Nat → Nat → Int32) (zn1 : Nat), RepM ca ad (va_up n 7 0) g z1 zn1 tb u ∧ ∀ y, (y < 302 ∨ 326 ≤ y) → u y = f y) := by
  refine x_open (cc := cX6_cut) (maxL := 4) (ret := (some .int)) (by decide) rfl (Nat.le_of_ble_eq_true rfl) ?_
  intro p e s m below meth c ls hx hb hml hown hts hr hlocks hnm hB hK hE hw hl
  have hown : s.vm.findClass RX6 = some m.cls := hown
  have hl : lv_has ls 4 [(0, .ref (ad 302)), (1, .int (nI i)), (2, .int y)] := hl
  obtain ⟨c_302, c_303, c_304, c_305, c_306, c_307, c_308, c_309, c_310, c_311, c_312, c_313, c_314, c_315, c_316, c_317, c_318, c_319, c_320, c_321, c_322, c_323, c_324, c_325, hzn⟩ := hR
  have hin_7 : ∀ w ∈ u_ws RX6 TX6 32, w ∈ wsX6_cut := by decide +kernel
  have hf_160 := hts (.fieldLink RX6 160 "FixityRowsModel" "thrown" "I") (by decide +kernel)
  have hf_16 := hts (.fieldLink RX6 16 "FixityRowsModel" "size" "[I") (by decide +kernel)
  have b_302 := c_302
  have b_303 := c_303
  have b_304 := c_304
  have b_305 := c_305
  have b_306 := c_306
  have b_307 := c_307
  have b_308 := c_308
  have b_309 := c_309
  have b_310 := c_310
  have b_311 := c_311
  have b_312 := c_312
  have b_313 := c_313
  have b_314 := c_314
  have b_315 := c_315
  have b_316 := c_316
  have b_317 := c_317
  have b_318 := c_318
  have b_319 := c_319
  have b_320 := c_320
  have b_321 := c_321
  have b_322 := c_322
  have b_323 := c_323
  have b_324 := c_324
  have b_325 := c_325
  refine lv_aload_n hx hb dX6_cut_0 rfl (lv_at hl 0 rfl) ?_
  refine lv_iconst (v := nI 0) hx hb dX6_cut_1 (by decide) ?_
  refine x_put (ci := 7) (C := RX6) (T := TX6) (n := 32) (ref := RX6) (fs' := mO ad 0 (n 0) (n 1) (n 2) (g 13 0) (n 3) (n 4) (n 5) zn) hx hb hts hin_7 tyX6 tyX6_ok nmX6 hown hK dd hw 302 (by omega) c_302 rfl 0 (by decide) hf_160 (fun _ h => h) rfl rfl rfl (Nat.le_of_ble_eq_true rfl) rfl dX6_cut_2 (fun H locs hw => ?_)
  obtain ⟨f_1, ef_1⟩ : ∃ z, z = va_up f 302 (.inr (7, mO ad 0 (n 0) (n 1) (n 2) (g 13 0) (n 3) (n 4) (n 5) zn)) := ⟨_, rfl⟩
  have hw : xw D vwCl N ad B s.heap f_1 H locs := by rw [ef_1]; exact hw
  have c_302 : f_1 302 = .inr (7, mO ad 0 (n 0) (n 1) (n 2) (g 13 0) (n 3) (n 4) (n 5) zn) := va_up_of ef_1
  refine lv_aload_n hx hb dX6_cut_5 rfl (lv_at hl 0 rfl) ?_
  refine lv_iload_n hx hb dX6_cut_6 rfl (lv_at hl 1 rfl) ?_
  have c_303 : f_1 303 = ai (ca 1) 200 (g 0) := by rw [ef_1, va_up_ne _ _ (by decide)]; exact c_303
  have c_304 : f_1 304 = ai (ca 1) 4000 (g 1) := by rw [ef_1, va_up_ne _ _ (by decide)]; exact c_304
  have c_305 : f_1 305 = ai (ca 0) 20 (g 2) := by rw [ef_1, va_up_ne _ _ (by decide)]; exact c_305
  have c_306 : f_1 306 = ai (ca 0) 20 (g 3) := by rw [ef_1, va_up_ne _ _ (by decide)]; exact c_306
  have c_307 : f_1 307 = ai (ca 1) 720 (g 4) := by rw [ef_1, va_up_ne _ _ (by decide)]; exact c_307
  have c_308 : f_1 308 = ai (ca 0) 20 (g 5) := by rw [ef_1, va_up_ne _ _ (by decide)]; exact c_308
  have c_309 : f_1 309 = ai (ca 0) 20 (g 6) := by rw [ef_1, va_up_ne _ _ (by decide)]; exact c_309
  have c_310 : f_1 310 = ai (ca 0) 20 (g 7) := by rw [ef_1, va_up_ne _ _ (by decide)]; exact c_310
  have c_311 : f_1 311 = ai (ca 0) 20 (g 8) := by rw [ef_1, va_up_ne _ _ (by decide)]; exact c_311
  have c_312 : f_1 312 = ai (ca 0) 20 (g 9) := by rw [ef_1, va_up_ne _ _ (by decide)]; exact c_312
  have c_313 : f_1 313 = ai (ca 2) 20 (g 10) := by rw [ef_1, va_up_ne _ _ (by decide)]; exact c_313
  have c_314 : f_1 314 = ai (ca 0) 200 (g 11) := by rw [ef_1, va_up_ne _ _ (by decide)]; exact c_314
  have c_315 : f_1 315 = ai (ca 0) 200 (g 12) := by rw [ef_1, va_up_ne _ _ (by decide)]; exact c_315
  have c_316 : f_1 316 = ai (ca 0) 200 (g 14) := by rw [ef_1, va_up_ne _ _ (by decide)]; exact c_316
  have c_317 : f_1 317 = ai (ca 1) 6400 (g 15) := by rw [ef_1, va_up_ne _ _ (by decide)]; exact c_317
  have c_318 : f_1 318 = ai (ca 1) 32 (g 16) := by rw [ef_1, va_up_ne _ _ (by decide)]; exact c_318
  have c_319 : f_1 319 = ai (ca 1) 320 (z 0) := by rw [ef_1, va_up_ne _ _ (by decide)]; exact c_319
  have c_320 : f_1 320 = ai (ca 1) 36 (z 1) := by rw [ef_1, va_up_ne _ _ (by decide)]; exact c_320
  have c_321 : f_1 321 = ai (ca 0) 64 (z 2) := by rw [ef_1, va_up_ne _ _ (by decide)]; exact c_321
  have c_322 : f_1 322 = ai (ca 0) 8 (z 3) := by rw [ef_1, va_up_ne _ _ (by decide)]; exact c_322
  have c_323 : f_1 323 = ai (ca 0) 8 (z 4) := by rw [ef_1, va_up_ne _ _ (by decide)]; exact c_323
  have c_324 : f_1 324 = ai (ca 0) 8 shR := by rw [ef_1, va_up_ne _ _ (by decide)]; exact c_324
  have c_325 : f_1 325 = ai (ca 0) 64 shK := by rw [ef_1, va_up_ne _ _ (by decide)]; exact c_325
  have qn_0 : (va_up n 7 0) 0 = n 0 := by rw [va_up_ne _ _ (by decide)]
  have qn_1 : (va_up n 7 0) 1 = n 1 := by rw [va_up_ne _ _ (by decide)]
  have qn_2 : (va_up n 7 0) 2 = n 2 := by rw [va_up_ne _ _ (by decide)]
  have qn_3 : (va_up n 7 0) 3 = n 3 := by rw [va_up_ne _ _ (by decide)]
  have qn_4 : (va_up n 7 0) 4 = n 4 := by rw [va_up_ne _ _ (by decide)]
  have qn_5 : (va_up n 7 0) 5 = n 5 := by rw [va_up_ne _ _ (by decide)]
  have qn_6 : (va_up n 7 0) 6 = n 6 := by rw [va_up_ne _ _ (by decide)]
  have qn_7 : (va_up n 7 0) 7 = 0 := by rw [va_up_self]
  have hRk : RepM ca ad (va_up n 7 0) g z zn tb f_1 := ⟨(by rw [qn_7, qn_0, qn_1, qn_2, qn_3, qn_4, qn_5]; exact c_302),
        c_303,
        c_304,
        c_305,
        c_306,
        c_307,
        c_308,
        c_309,
        c_310,
        c_311,
        c_312,
        c_313,
        c_314,
        c_315,
        c_316,
        c_317,
        c_318,
        c_319,
        c_320,
        c_321,
        c_322,
        c_323,
        c_324,
        c_325, hzn⟩
  have hfr : ∀ y, (y < 302 ∨ 326 ≤ y) → f_1 y = f y := (fun y hy => by rw [ef_1, va_up_ne _ _ (by omega)])
  refine x_Vi (q := 302) (As := [.int (nI i)]) (rest := []) ⟨hx, hb, hml, hown, hts⟩ (k_X6_isFile_yes l D ca N ad B tR tK f_1 dd hN (va_up n 7 0) g z zn tb hRk i (by omega) (by omega)) (cwV 1 hts gX6_cut_X6_isFile rfl rfl rfl (by decide +kernel) ⟨Nat.le_of_ble_eq_true rfl, Nat.le_of_ble_eq_true rfl⟩) hK hE hB hw (by omega) c_302 rfl rfl rfl rfl hl.1 (Nat.le_of_ble_eq_true rfl) ⟨Nat.zero_le _, Nat.zero_le _⟩ dX6_cut_7 (fun r_3 f_2 H locs hp hw => ?_)
  obtain ⟨er, hp⟩ := hp
  rw [← er]
  rw [← hp] at hw
  refine lv_if_ne (tgt := 15) hx hb dX6_cut_10 (by decide) (fun _ => ?_) (fun h => absurd h (by decide))
  refine lv_iload_n hx hb dX6_cut_15 rfl (lv_at hl 2 rfl) ?_
  refine lv_iconst (v := nI 0) hx hb dX6_cut_16 (by decide) ?_
  refine lv_aload_n hx hb dX6_cut_17 rfl (lv_at hl 0 rfl) ?_
  refine x_get (ci := 7) (C := RX6) (T := TX6) (n := 32) (ref := RX6) hx hb hts hin_7 hown hK hw 302 (by omega) c_302 rfl 6 (by decide) hf_16 (fun _ h => h) rfl dX6_cut_18 ?_
  refine lv_iload_n hx hb dX6_cut_21 rfl (lv_at hl 1 rfl) ?_
  refine x_iald (j := i) hx hb hK hw 305 0 (by omega) c_305 rfl rfl (by omega) (by decide) dX6_cut_22 ?_
  rw [hz]
  refine x_Si (As := [.int y, .int (nI 0), .int (nI zz)]) (rest := []) ⟨hx, hb, hml, hown, hts⟩ (k_X6_in_no l D ca N ad B tR tK f_1 dd y (nI 0) (nI zz)   ho) (va_cwS 3 hts gX6_cut_X6_in rfl rfl rfl (by decide +kernel) ⟨Nat.le_of_ble_eq_true rfl, Nat.le_of_ble_eq_true rfl⟩) hK hE hB hw rfl rfl hl.1 (Nat.le_of_ble_eq_true rfl) ⟨Nat.zero_le _, Nat.zero_le _⟩ dX6_cut_23 (fun r_5 f_4 H locs hp hw => ?_)
  obtain ⟨er, eu⟩ := hp
  rw [← er]
  rw [← eu] at hw
  refine lv_if_ne (tgt := 32) hx hb dX6_cut_26 (by decide) (fun h => False.elim (h (by decide))) (fun _ => ?_)
  refine lv_bipush (v := (-2)) hx hb dX6_cut_29 (by decide) ?_
  have qn_0 : (va_up n 7 0) 0 = n 0 := by rw [va_up_ne _ _ (by decide)]
  have qn_1 : (va_up n 7 0) 1 = n 1 := by rw [va_up_ne _ _ (by decide)]
  have qn_2 : (va_up n 7 0) 2 = n 2 := by rw [va_up_ne _ _ (by decide)]
  have qn_3 : (va_up n 7 0) 3 = n 3 := by rw [va_up_ne _ _ (by decide)]
  have qn_4 : (va_up n 7 0) 4 = n 4 := by rw [va_up_ne _ _ (by decide)]
  have qn_5 : (va_up n 7 0) 5 = n 5 := by rw [va_up_ne _ _ (by decide)]
  have qn_6 : (va_up n 7 0) 6 = n 6 := by rw [va_up_ne _ _ (by decide)]
  have qn_7 : (va_up n 7 0) 7 = 0 := by rw [va_up_self]
  have hRz : RepM ca ad (va_up n 7 0) g z zn tb f_1 := ⟨(by rw [qn_7, qn_0, qn_1, qn_2, qn_3, qn_4, qn_5]; exact c_302),
        c_303,
        c_304,
        c_305,
        c_306,
        c_307,
        c_308,
        c_309,
        c_310,
        c_311,
        c_312,
        c_313,
        c_314,
        c_315,
        c_316,
        c_317,
        c_318,
        c_319,
        c_320,
        c_321,
        c_322,
        c_323,
        c_324,
        c_325, hzn⟩
  exact x_iret hx hb hr hlocks hw ⟨rfl, z, zn, hRz, (fun y hy => by rw [ef_1, va_up_ne _ _ (by omega)])⟩ dX6_cut_31

set_option maxHeartbeats 4000000 in
set_option maxRecDepth 100000 in
theorem k_X6_cut_in (l : Launch) (D : va_G) (ca : Nat → ClassId) (N : Nat) (ad : Nat → Nat) (B tR tK : Nat) (f : Nat → va_E) (dd : xD N ad B) (hN : 326 ≤ N) (n : Nat → Nat) (g : Nat → Nat → Int32) (z : Nat → Nat → Int32) (zn : Nat) (tb : Nat → Int32) (hR : RepM ca ad n g z zn tb f) (i : Nat) (j : Nat) (zz : Nat) (h2 : n 2 ≤ 20) (hi : i < n 2) (hz : g 2 i = nI zz) (hz2 : zz ≤ 200) (hj : j ≤ zz) : xMi l yX6_cut wsX6_cut rmX6_cut [.ref (ad 302), .int (nI i), .int (nI j)] D ca N ad B tR tK f (fun r u => nI (zz - j) = r ∧ ∃ (z1 : Nat → Nat → Int32) (zn1 : Nat), RepM ca ad (va_up n 7 0) (va_up g 2 (upd (g 2) i (nI j))) z1 zn1 tb u ∧ ∀ y, (y < 302 ∨ 326 ≤ y) → u y = f y) := by
  refine x_open (cc := cX6_cut) (maxL := 4) (ret := (some .int)) (by decide) rfl (Nat.le_of_ble_eq_true rfl) ?_
  intro p e s m below meth c ls hx hb hml hown hts hr hlocks hnm hB hK hE hw hl
  have hown : s.vm.findClass RX6 = some m.cls := hown
  have hl : lv_has ls 4 [(0, .ref (ad 302)), (1, .int (nI i)), (2, .int (nI j))] := hl
  obtain ⟨c_302, c_303, c_304, c_305, c_306, c_307, c_308, c_309, c_310, c_311, c_312, c_313, c_314, c_315, c_316, c_317, c_318, c_319, c_320, c_321, c_322, c_323, c_324, c_325, hzn⟩ := hR
  have hin_7 : ∀ w ∈ u_ws RX6 TX6 32, w ∈ wsX6_cut := by decide +kernel
  have hf_160 := hts (.fieldLink RX6 160 "FixityRowsModel" "thrown" "I") (by decide +kernel)
  have hf_16 := hts (.fieldLink RX6 16 "FixityRowsModel" "size" "[I") (by decide +kernel)
  have b_302 := c_302
  have b_303 := c_303
  have b_304 := c_304
  have b_305 := c_305
  have b_306 := c_306
  have b_307 := c_307
  have b_308 := c_308
  have b_309 := c_309
  have b_310 := c_310
  have b_311 := c_311
  have b_312 := c_312
  have b_313 := c_313
  have b_314 := c_314
  have b_315 := c_315
  have b_316 := c_316
  have b_317 := c_317
  have b_318 := c_318
  have b_319 := c_319
  have b_320 := c_320
  have b_321 := c_321
  have b_322 := c_322
  have b_323 := c_323
  have b_324 := c_324
  have b_325 := c_325
  refine lv_aload_n hx hb dX6_cut_0 rfl (lv_at hl 0 rfl) ?_
  refine lv_iconst (v := nI 0) hx hb dX6_cut_1 (by decide) ?_
  refine x_put (ci := 7) (C := RX6) (T := TX6) (n := 32) (ref := RX6) (fs' := mO ad 0 (n 0) (n 1) (n 2) (g 13 0) (n 3) (n 4) (n 5) zn) hx hb hts hin_7 tyX6 tyX6_ok nmX6 hown hK dd hw 302 (by omega) c_302 rfl 0 (by decide) hf_160 (fun _ h => h) rfl rfl rfl (Nat.le_of_ble_eq_true rfl) rfl dX6_cut_2 (fun H locs hw => ?_)
  obtain ⟨f_1, ef_1⟩ : ∃ z, z = va_up f 302 (.inr (7, mO ad 0 (n 0) (n 1) (n 2) (g 13 0) (n 3) (n 4) (n 5) zn)) := ⟨_, rfl⟩
  have hw : xw D vwCl N ad B s.heap f_1 H locs := by rw [ef_1]; exact hw
  have c_302 : f_1 302 = .inr (7, mO ad 0 (n 0) (n 1) (n 2) (g 13 0) (n 3) (n 4) (n 5) zn) := va_up_of ef_1
  refine lv_aload_n hx hb dX6_cut_5 rfl (lv_at hl 0 rfl) ?_
  refine lv_iload_n hx hb dX6_cut_6 rfl (lv_at hl 1 rfl) ?_
  have c_303 : f_1 303 = ai (ca 1) 200 (g 0) := by rw [ef_1, va_up_ne _ _ (by decide)]; exact c_303
  have c_304 : f_1 304 = ai (ca 1) 4000 (g 1) := by rw [ef_1, va_up_ne _ _ (by decide)]; exact c_304
  have c_305 : f_1 305 = ai (ca 0) 20 (g 2) := by rw [ef_1, va_up_ne _ _ (by decide)]; exact c_305
  have c_306 : f_1 306 = ai (ca 0) 20 (g 3) := by rw [ef_1, va_up_ne _ _ (by decide)]; exact c_306
  have c_307 : f_1 307 = ai (ca 1) 720 (g 4) := by rw [ef_1, va_up_ne _ _ (by decide)]; exact c_307
  have c_308 : f_1 308 = ai (ca 0) 20 (g 5) := by rw [ef_1, va_up_ne _ _ (by decide)]; exact c_308
  have c_309 : f_1 309 = ai (ca 0) 20 (g 6) := by rw [ef_1, va_up_ne _ _ (by decide)]; exact c_309
  have c_310 : f_1 310 = ai (ca 0) 20 (g 7) := by rw [ef_1, va_up_ne _ _ (by decide)]; exact c_310
  have c_311 : f_1 311 = ai (ca 0) 20 (g 8) := by rw [ef_1, va_up_ne _ _ (by decide)]; exact c_311
  have c_312 : f_1 312 = ai (ca 0) 20 (g 9) := by rw [ef_1, va_up_ne _ _ (by decide)]; exact c_312
  have c_313 : f_1 313 = ai (ca 2) 20 (g 10) := by rw [ef_1, va_up_ne _ _ (by decide)]; exact c_313
  have c_314 : f_1 314 = ai (ca 0) 200 (g 11) := by rw [ef_1, va_up_ne _ _ (by decide)]; exact c_314
  have c_315 : f_1 315 = ai (ca 0) 200 (g 12) := by rw [ef_1, va_up_ne _ _ (by decide)]; exact c_315
  have c_316 : f_1 316 = ai (ca 0) 200 (g 14) := by rw [ef_1, va_up_ne _ _ (by decide)]; exact c_316
  have c_317 : f_1 317 = ai (ca 1) 6400 (g 15) := by rw [ef_1, va_up_ne _ _ (by decide)]; exact c_317
  have c_318 : f_1 318 = ai (ca 1) 32 (g 16) := by rw [ef_1, va_up_ne _ _ (by decide)]; exact c_318
  have c_319 : f_1 319 = ai (ca 1) 320 (z 0) := by rw [ef_1, va_up_ne _ _ (by decide)]; exact c_319
  have c_320 : f_1 320 = ai (ca 1) 36 (z 1) := by rw [ef_1, va_up_ne _ _ (by decide)]; exact c_320
  have c_321 : f_1 321 = ai (ca 0) 64 (z 2) := by rw [ef_1, va_up_ne _ _ (by decide)]; exact c_321
  have c_322 : f_1 322 = ai (ca 0) 8 (z 3) := by rw [ef_1, va_up_ne _ _ (by decide)]; exact c_322
  have c_323 : f_1 323 = ai (ca 0) 8 (z 4) := by rw [ef_1, va_up_ne _ _ (by decide)]; exact c_323
  have c_324 : f_1 324 = ai (ca 0) 8 shR := by rw [ef_1, va_up_ne _ _ (by decide)]; exact c_324
  have c_325 : f_1 325 = ai (ca 0) 64 shK := by rw [ef_1, va_up_ne _ _ (by decide)]; exact c_325
  have qn_0 : (va_up n 7 0) 0 = n 0 := by rw [va_up_ne _ _ (by decide)]
  have qn_1 : (va_up n 7 0) 1 = n 1 := by rw [va_up_ne _ _ (by decide)]
  have qn_2 : (va_up n 7 0) 2 = n 2 := by rw [va_up_ne _ _ (by decide)]
  have qn_3 : (va_up n 7 0) 3 = n 3 := by rw [va_up_ne _ _ (by decide)]
  have qn_4 : (va_up n 7 0) 4 = n 4 := by rw [va_up_ne _ _ (by decide)]
  have qn_5 : (va_up n 7 0) 5 = n 5 := by rw [va_up_ne _ _ (by decide)]
  have qn_6 : (va_up n 7 0) 6 = n 6 := by rw [va_up_ne _ _ (by decide)]
  have qn_7 : (va_up n 7 0) 7 = 0 := by rw [va_up_self]
  have hRk : RepM ca ad (va_up n 7 0) g z zn tb f_1 := ⟨(by rw [qn_7, qn_0, qn_1, qn_2, qn_3, qn_4, qn_5]; exact c_302),
        c_303,
        c_304,
        c_305,
        c_306,
        c_307,
        c_308,
        c_309,
        c_310,
        c_311,
        c_312,
        c_313,
        c_314,
        c_315,
        c_316,
        c_317,
        c_318,
        c_319,
        c_320,
        c_321,
        c_322,
        c_323,
        c_324,
        c_325, hzn⟩
  have hfr : ∀ y, (y < 302 ∨ 326 ≤ y) → f_1 y = f y := (fun y hy => by rw [ef_1, va_up_ne _ _ (by omega)])
  refine x_Vi (q := 302) (As := [.int (nI i)]) (rest := []) ⟨hx, hb, hml, hown, hts⟩ (k_X6_isFile_yes l D ca N ad B tR tK f_1 dd hN (va_up n 7 0) g z zn tb hRk i (by omega) (by omega)) (cwV 1 hts gX6_cut_X6_isFile rfl rfl rfl (by decide +kernel) ⟨Nat.le_of_ble_eq_true rfl, Nat.le_of_ble_eq_true rfl⟩) hK hE hB hw (by omega) c_302 rfl rfl rfl rfl hl.1 (Nat.le_of_ble_eq_true rfl) ⟨Nat.zero_le _, Nat.zero_le _⟩ dX6_cut_7 (fun r_3 f_2 H locs hp hw => ?_)
  obtain ⟨er, hp⟩ := hp
  rw [← er]
  rw [← hp] at hw
  refine lv_if_ne (tgt := 15) hx hb dX6_cut_10 (by decide) (fun _ => ?_) (fun h => absurd h (by decide))
  refine lv_iload_n hx hb dX6_cut_15 rfl (lv_at hl 2 rfl) ?_
  refine lv_iconst (v := nI 0) hx hb dX6_cut_16 (by decide) ?_
  refine lv_aload_n hx hb dX6_cut_17 rfl (lv_at hl 0 rfl) ?_
  refine x_get (ci := 7) (C := RX6) (T := TX6) (n := 32) (ref := RX6) hx hb hts hin_7 hown hK hw 302 (by omega) c_302 rfl 6 (by decide) hf_16 (fun _ h => h) rfl dX6_cut_18 ?_
  refine lv_iload_n hx hb dX6_cut_21 rfl (lv_at hl 1 rfl) ?_
  refine x_iald (j := i) hx hb hK hw 305 0 (by omega) c_305 rfl rfl (by omega) (by decide) dX6_cut_22 ?_
  rw [hz]
  refine x_Si (As := [.int (nI j), .int (nI 0), .int (nI zz)]) (rest := []) ⟨hx, hb, hml, hown, hts⟩ (k_X6_in_yes l D ca N ad B tR tK f_1 dd j 0 zz   (by omega) (by omega) (by omega)) (va_cwS 3 hts gX6_cut_X6_in rfl rfl rfl (by decide +kernel) ⟨Nat.le_of_ble_eq_true rfl, Nat.le_of_ble_eq_true rfl⟩) hK hE hB hw rfl rfl hl.1 (Nat.le_of_ble_eq_true rfl) ⟨Nat.zero_le _, Nat.zero_le _⟩ dX6_cut_23 (fun r_5 f_4 H locs hp hw => ?_)
  obtain ⟨er, eu⟩ := hp
  rw [← er]
  rw [← eu] at hw
  refine lv_if_ne (tgt := 32) hx hb dX6_cut_26 (by decide) (fun _ => ?_) (fun h => absurd h (by decide))
  refine lv_aload_n hx hb dX6_cut_32 rfl (lv_at hl 0 rfl) ?_
  refine x_get (ci := 7) (C := RX6) (T := TX6) (n := 32) (ref := RX6) hx hb hts hin_7 hown hK hw 302 (by omega) c_302 rfl 6 (by decide) hf_16 (fun _ h => h) rfl dX6_cut_33 ?_
  refine lv_iload_n hx hb dX6_cut_36 rfl (lv_at hl 1 rfl) ?_
  refine x_iald (j := i) hx hb hK hw 305 0 (by omega) c_305 rfl rfl (by omega) (by decide) dX6_cut_37 ?_
  rw [hz]
  refine lv_iload_n hx hb dX6_cut_38 rfl (lv_at hl 2 rfl) ?_
  refine n_isub hx hb dX6_cut_39 (by omega) ?_
  refine lv_istore_n (lv' := [(3, .int (nI (zz - j))), (0, .ref (ad 302)), (1, .int (nI i)), (2, .int (nI j))]) hx hb dX6_cut_40 rfl hl (by decide) rfl (fun ls hl => ?_)
  refine lv_aload_n hx hb dX6_cut_41 rfl (lv_at hl 1 rfl) ?_
  refine x_get (ci := 7) (C := RX6) (T := TX6) (n := 32) (ref := RX6) hx hb hts hin_7 hown hK hw 302 (by omega) c_302 rfl 6 (by decide) hf_16 (fun _ h => h) rfl dX6_cut_42 ?_
  refine lv_iload_n hx hb dX6_cut_45 rfl (lv_at hl 2 rfl) ?_
  refine lv_iload_n hx hb dX6_cut_46 rfl (lv_at hl 3 rfl) ?_
  refine x_iast (j := i) hx hb hK dd hw 305 0 (by omega) c_305 rfl rfl (by omega) (by decide) dX6_cut_47 (fun H locs hw => ?_)
  obtain ⟨f_6, ef_6⟩ : ∃ z, z = va_up f_1 305 (ai (ca 0) 20 (upd (g 2) i (nI j))) := ⟨_, rfl⟩
  have hw : xw D vwCl N ad B s.heap f_6 H locs := by rw [ef_6]; exact hw
  have c_305 : f_6 305 = ai (ca 0) 20 (upd (g 2) i (nI j)) := va_up_of ef_6
  refine lv_iload_n hx hb dX6_cut_48 rfl (lv_at hl 0 rfl) ?_
  have c_302 : f_6 302 = .inr (7, mO ad 0 (n 0) (n 1) (n 2) (g 13 0) (n 3) (n 4) (n 5) zn) := by rw [ef_6, va_up_ne _ _ (by decide)]; exact c_302
  have c_303 : f_6 303 = ai (ca 1) 200 (g 0) := by rw [ef_6, va_up_ne _ _ (by decide)]; exact c_303
  have c_304 : f_6 304 = ai (ca 1) 4000 (g 1) := by rw [ef_6, va_up_ne _ _ (by decide)]; exact c_304
  have c_306 : f_6 306 = ai (ca 0) 20 (g 3) := by rw [ef_6, va_up_ne _ _ (by decide)]; exact c_306
  have c_307 : f_6 307 = ai (ca 1) 720 (g 4) := by rw [ef_6, va_up_ne _ _ (by decide)]; exact c_307
  have c_308 : f_6 308 = ai (ca 0) 20 (g 5) := by rw [ef_6, va_up_ne _ _ (by decide)]; exact c_308
  have c_309 : f_6 309 = ai (ca 0) 20 (g 6) := by rw [ef_6, va_up_ne _ _ (by decide)]; exact c_309
  have c_310 : f_6 310 = ai (ca 0) 20 (g 7) := by rw [ef_6, va_up_ne _ _ (by decide)]; exact c_310
  have c_311 : f_6 311 = ai (ca 0) 20 (g 8) := by rw [ef_6, va_up_ne _ _ (by decide)]; exact c_311
  have c_312 : f_6 312 = ai (ca 0) 20 (g 9) := by rw [ef_6, va_up_ne _ _ (by decide)]; exact c_312
  have c_313 : f_6 313 = ai (ca 2) 20 (g 10) := by rw [ef_6, va_up_ne _ _ (by decide)]; exact c_313
  have c_314 : f_6 314 = ai (ca 0) 200 (g 11) := by rw [ef_6, va_up_ne _ _ (by decide)]; exact c_314
  have c_315 : f_6 315 = ai (ca 0) 200 (g 12) := by rw [ef_6, va_up_ne _ _ (by decide)]; exact c_315
  have c_316 : f_6 316 = ai (ca 0) 200 (g 14) := by rw [ef_6, va_up_ne _ _ (by decide)]; exact c_316
  have c_317 : f_6 317 = ai (ca 1) 6400 (g 15) := by rw [ef_6, va_up_ne _ _ (by decide)]; exact c_317
  have c_318 : f_6 318 = ai (ca 1) 32 (g 16) := by rw [ef_6, va_up_ne _ _ (by decide)]; exact c_318
  have c_319 : f_6 319 = ai (ca 1) 320 (z 0) := by rw [ef_6, va_up_ne _ _ (by decide)]; exact c_319
  have c_320 : f_6 320 = ai (ca 1) 36 (z 1) := by rw [ef_6, va_up_ne _ _ (by decide)]; exact c_320
  have c_321 : f_6 321 = ai (ca 0) 64 (z 2) := by rw [ef_6, va_up_ne _ _ (by decide)]; exact c_321
  have c_322 : f_6 322 = ai (ca 0) 8 (z 3) := by rw [ef_6, va_up_ne _ _ (by decide)]; exact c_322
  have c_323 : f_6 323 = ai (ca 0) 8 (z 4) := by rw [ef_6, va_up_ne _ _ (by decide)]; exact c_323
  have c_324 : f_6 324 = ai (ca 0) 8 shR := by rw [ef_6, va_up_ne _ _ (by decide)]; exact c_324
  have c_325 : f_6 325 = ai (ca 0) 64 shK := by rw [ef_6, va_up_ne _ _ (by decide)]; exact c_325
  have qn_0 : (va_up n 7 0) 0 = n 0 := by rw [va_up_ne _ _ (by decide)]
  have qn_1 : (va_up n 7 0) 1 = n 1 := by rw [va_up_ne _ _ (by decide)]
  have qn_2 : (va_up n 7 0) 2 = n 2 := by rw [va_up_ne _ _ (by decide)]
  have qn_3 : (va_up n 7 0) 3 = n 3 := by rw [va_up_ne _ _ (by decide)]
  have qn_4 : (va_up n 7 0) 4 = n 4 := by rw [va_up_ne _ _ (by decide)]
  have qn_5 : (va_up n 7 0) 5 = n 5 := by rw [va_up_ne _ _ (by decide)]
  have qn_6 : (va_up n 7 0) 6 = n 6 := by rw [va_up_ne _ _ (by decide)]
  have qn_7 : (va_up n 7 0) 7 = 0 := by rw [va_up_self]
  have qg_0 : (va_up g 2 (upd (g 2) i (nI j))) 0 = g 0 := by rw [va_up_ne _ _ (by decide)]
  have qg_1 : (va_up g 2 (upd (g 2) i (nI j))) 1 = g 1 := by rw [va_up_ne _ _ (by decide)]
  have qg_2 : (va_up g 2 (upd (g 2) i (nI j))) 2 = upd (g 2) i (nI j) := by rw [va_up_self]
  have qg_3 : (va_up g 2 (upd (g 2) i (nI j))) 3 = g 3 := by rw [va_up_ne _ _ (by decide)]
  have qg_4 : (va_up g 2 (upd (g 2) i (nI j))) 4 = g 4 := by rw [va_up_ne _ _ (by decide)]
  have qg_5 : (va_up g 2 (upd (g 2) i (nI j))) 5 = g 5 := by rw [va_up_ne _ _ (by decide)]
  have qg_6 : (va_up g 2 (upd (g 2) i (nI j))) 6 = g 6 := by rw [va_up_ne _ _ (by decide)]
  have qg_7 : (va_up g 2 (upd (g 2) i (nI j))) 7 = g 7 := by rw [va_up_ne _ _ (by decide)]
  have qg_8 : (va_up g 2 (upd (g 2) i (nI j))) 8 = g 8 := by rw [va_up_ne _ _ (by decide)]
  have qg_9 : (va_up g 2 (upd (g 2) i (nI j))) 9 = g 9 := by rw [va_up_ne _ _ (by decide)]
  have qg_10 : (va_up g 2 (upd (g 2) i (nI j))) 10 = g 10 := by rw [va_up_ne _ _ (by decide)]
  have qg_11 : (va_up g 2 (upd (g 2) i (nI j))) 11 = g 11 := by rw [va_up_ne _ _ (by decide)]
  have qg_12 : (va_up g 2 (upd (g 2) i (nI j))) 12 = g 12 := by rw [va_up_ne _ _ (by decide)]
  have qg_13 : (va_up g 2 (upd (g 2) i (nI j))) 13 = g 13 := by rw [va_up_ne _ _ (by decide)]
  have qg_14 : (va_up g 2 (upd (g 2) i (nI j))) 14 = g 14 := by rw [va_up_ne _ _ (by decide)]
  have qg_15 : (va_up g 2 (upd (g 2) i (nI j))) 15 = g 15 := by rw [va_up_ne _ _ (by decide)]
  have qg_16 : (va_up g 2 (upd (g 2) i (nI j))) 16 = g 16 := by rw [va_up_ne _ _ (by decide)]
  have hRz : RepM ca ad (va_up n 7 0) (va_up g 2 (upd (g 2) i (nI j))) z zn tb f_6 := ⟨(by rw [qn_7, qn_0, qn_1, qn_2, qn_3, qn_4, qn_5, qg_13]; exact c_302),
        (by rw [qg_0]; exact c_303),
        (by rw [qg_1]; exact c_304),
        (by rw [qg_2]; exact c_305),
        (by rw [qg_3]; exact c_306),
        (by rw [qg_4]; exact c_307),
        (by rw [qg_5]; exact c_308),
        (by rw [qg_6]; exact c_309),
        (by rw [qg_7]; exact c_310),
        (by rw [qg_8]; exact c_311),
        (by rw [qg_9]; exact c_312),
        (by rw [qg_10]; exact c_313),
        (by rw [qg_11]; exact c_314),
        (by rw [qg_12]; exact c_315),
        (by rw [qg_14]; exact c_316),
        (by rw [qg_15]; exact c_317),
        (by rw [qg_16]; exact c_318),
        c_319,
        c_320,
        c_321,
        c_322,
        c_323,
        c_324,
        c_325, hzn⟩
  exact x_iret hx hb hr hlocks hw ⟨rfl, z, zn, hRz, (fun y hy => by rw [ef_6, va_up_ne _ _ (by omega), ef_1, va_up_ne _ _ (by omega)])⟩ dX6_cut_49

abbrev rmX6_schedule : Room := { frames := 2, cells := 0, slots := 0, locals := 43 }

set_option maxHeartbeats 4000000 in
set_option maxRecDepth 100000 in
theorem k_X6_schedule_nofile (l : Launch) (D : va_G) (ca : Nat → ClassId) (N : Nat) (ad : Nat → Nat) (B tR tK : Nat) (f : Nat → va_E) (dd : xD N ad B) (hN : 326 ≤ N) (n : Nat → Nat) (g : Nat → Nat → Int32) (z : Nat → Nat → Int32) (zn : Nat) (tb : Nat → Int32) (hR : RepM ca ad n g z zn tb f) (x : Int32) (y : Int32) (w : Int32) (h2 : n 2 ≤ 20) (ho : x < 0 ∨ nI (n 2) ≤ x) : xMi l yX6_schedule wsX6_schedule rmX6_schedule [.ref (ad 302), .int x, .int y, .int w] D ca N ad B tR tK f (fun r u => (-1) = r ∧ ∃ (z1 : Nat → Nat → Int32) (zn1 : Nat), RepM ca ad (va_up n 7 0) g z1 zn1 tb u ∧ ∀ y, (y < 302 ∨ 326 ≤ y) → u y = f y) := by
  refine x_open (cc := cX6_schedule) (maxL := 4) (ret := (some .int)) (by decide) rfl (Nat.le_of_ble_eq_true rfl) ?_
  intro p e s m below meth c ls hx hb hml hown hts hr hlocks hnm hB hK hE hw hl
  have hown : s.vm.findClass RX6 = some m.cls := hown
  have hl : lv_has ls 4 [(0, .ref (ad 302)), (1, .int x), (2, .int y), (3, .int w)] := hl
  obtain ⟨c_302, c_303, c_304, c_305, c_306, c_307, c_308, c_309, c_310, c_311, c_312, c_313, c_314, c_315, c_316, c_317, c_318, c_319, c_320, c_321, c_322, c_323, c_324, c_325, hzn⟩ := hR
  have hin_7 : ∀ w ∈ u_ws RX6 TX6 32, w ∈ wsX6_schedule := by decide +kernel
  have hf_160 := hts (.fieldLink RX6 160 "FixityRowsModel" "thrown" "I") (by decide +kernel)
  have b_302 := c_302
  have b_303 := c_303
  have b_304 := c_304
  have b_305 := c_305
  have b_306 := c_306
  have b_307 := c_307
  have b_308 := c_308
  have b_309 := c_309
  have b_310 := c_310
  have b_311 := c_311
  have b_312 := c_312
  have b_313 := c_313
  have b_314 := c_314
  have b_315 := c_315
  have b_316 := c_316
  have b_317 := c_317
  have b_318 := c_318
  have b_319 := c_319
  have b_320 := c_320
  have b_321 := c_321
  have b_322 := c_322
  have b_323 := c_323
  have b_324 := c_324
  have b_325 := c_325
  refine lv_aload_n hx hb dX6_schedule_0 rfl (lv_at hl 0 rfl) ?_
  refine lv_iconst (v := nI 0) hx hb dX6_schedule_1 (by decide) ?_
  refine x_put (ci := 7) (C := RX6) (T := TX6) (n := 32) (ref := RX6) (fs' := mO ad 0 (n 0) (n 1) (n 2) (g 13 0) (n 3) (n 4) (n 5) zn) hx hb hts hin_7 tyX6 tyX6_ok nmX6 hown hK dd hw 302 (by omega) c_302 rfl 0 (by decide) hf_160 (fun _ h => h) rfl rfl rfl (Nat.le_of_ble_eq_true rfl) rfl dX6_schedule_2 (fun H locs hw => ?_)
  obtain ⟨f_1, ef_1⟩ : ∃ z, z = va_up f 302 (.inr (7, mO ad 0 (n 0) (n 1) (n 2) (g 13 0) (n 3) (n 4) (n 5) zn)) := ⟨_, rfl⟩
  have hw : xw D vwCl N ad B s.heap f_1 H locs := by rw [ef_1]; exact hw
  have c_302 : f_1 302 = .inr (7, mO ad 0 (n 0) (n 1) (n 2) (g 13 0) (n 3) (n 4) (n 5) zn) := va_up_of ef_1
  refine lv_aload_n hx hb dX6_schedule_5 rfl (lv_at hl 0 rfl) ?_
  refine lv_iload_n hx hb dX6_schedule_6 rfl (lv_at hl 1 rfl) ?_
  have c_303 : f_1 303 = ai (ca 1) 200 (g 0) := by rw [ef_1, va_up_ne _ _ (by decide)]; exact c_303
  have c_304 : f_1 304 = ai (ca 1) 4000 (g 1) := by rw [ef_1, va_up_ne _ _ (by decide)]; exact c_304
  have c_305 : f_1 305 = ai (ca 0) 20 (g 2) := by rw [ef_1, va_up_ne _ _ (by decide)]; exact c_305
  have c_306 : f_1 306 = ai (ca 0) 20 (g 3) := by rw [ef_1, va_up_ne _ _ (by decide)]; exact c_306
  have c_307 : f_1 307 = ai (ca 1) 720 (g 4) := by rw [ef_1, va_up_ne _ _ (by decide)]; exact c_307
  have c_308 : f_1 308 = ai (ca 0) 20 (g 5) := by rw [ef_1, va_up_ne _ _ (by decide)]; exact c_308
  have c_309 : f_1 309 = ai (ca 0) 20 (g 6) := by rw [ef_1, va_up_ne _ _ (by decide)]; exact c_309
  have c_310 : f_1 310 = ai (ca 0) 20 (g 7) := by rw [ef_1, va_up_ne _ _ (by decide)]; exact c_310
  have c_311 : f_1 311 = ai (ca 0) 20 (g 8) := by rw [ef_1, va_up_ne _ _ (by decide)]; exact c_311
  have c_312 : f_1 312 = ai (ca 0) 20 (g 9) := by rw [ef_1, va_up_ne _ _ (by decide)]; exact c_312
  have c_313 : f_1 313 = ai (ca 2) 20 (g 10) := by rw [ef_1, va_up_ne _ _ (by decide)]; exact c_313
  have c_314 : f_1 314 = ai (ca 0) 200 (g 11) := by rw [ef_1, va_up_ne _ _ (by decide)]; exact c_314
  have c_315 : f_1 315 = ai (ca 0) 200 (g 12) := by rw [ef_1, va_up_ne _ _ (by decide)]; exact c_315
  have c_316 : f_1 316 = ai (ca 0) 200 (g 14) := by rw [ef_1, va_up_ne _ _ (by decide)]; exact c_316
  have c_317 : f_1 317 = ai (ca 1) 6400 (g 15) := by rw [ef_1, va_up_ne _ _ (by decide)]; exact c_317
  have c_318 : f_1 318 = ai (ca 1) 32 (g 16) := by rw [ef_1, va_up_ne _ _ (by decide)]; exact c_318
  have c_319 : f_1 319 = ai (ca 1) 320 (z 0) := by rw [ef_1, va_up_ne _ _ (by decide)]; exact c_319
  have c_320 : f_1 320 = ai (ca 1) 36 (z 1) := by rw [ef_1, va_up_ne _ _ (by decide)]; exact c_320
  have c_321 : f_1 321 = ai (ca 0) 64 (z 2) := by rw [ef_1, va_up_ne _ _ (by decide)]; exact c_321
  have c_322 : f_1 322 = ai (ca 0) 8 (z 3) := by rw [ef_1, va_up_ne _ _ (by decide)]; exact c_322
  have c_323 : f_1 323 = ai (ca 0) 8 (z 4) := by rw [ef_1, va_up_ne _ _ (by decide)]; exact c_323
  have c_324 : f_1 324 = ai (ca 0) 8 shR := by rw [ef_1, va_up_ne _ _ (by decide)]; exact c_324
  have c_325 : f_1 325 = ai (ca 0) 64 shK := by rw [ef_1, va_up_ne _ _ (by decide)]; exact c_325
  have qn_0 : (va_up n 7 0) 0 = n 0 := by rw [va_up_ne _ _ (by decide)]
  have qn_1 : (va_up n 7 0) 1 = n 1 := by rw [va_up_ne _ _ (by decide)]
  have qn_2 : (va_up n 7 0) 2 = n 2 := by rw [va_up_ne _ _ (by decide)]
  have qn_3 : (va_up n 7 0) 3 = n 3 := by rw [va_up_ne _ _ (by decide)]
  have qn_4 : (va_up n 7 0) 4 = n 4 := by rw [va_up_ne _ _ (by decide)]
  have qn_5 : (va_up n 7 0) 5 = n 5 := by rw [va_up_ne _ _ (by decide)]
  have qn_6 : (va_up n 7 0) 6 = n 6 := by rw [va_up_ne _ _ (by decide)]
  have qn_7 : (va_up n 7 0) 7 = 0 := by rw [va_up_self]
  have hRk : RepM ca ad (va_up n 7 0) g z zn tb f_1 := ⟨(by rw [qn_7, qn_0, qn_1, qn_2, qn_3, qn_4, qn_5]; exact c_302),
        c_303,
        c_304,
        c_305,
        c_306,
        c_307,
        c_308,
        c_309,
        c_310,
        c_311,
        c_312,
        c_313,
        c_314,
        c_315,
        c_316,
        c_317,
        c_318,
        c_319,
        c_320,
        c_321,
        c_322,
        c_323,
        c_324,
        c_325, hzn⟩
  have hfr : ∀ y, (y < 302 ∨ 326 ≤ y) → f_1 y = f y := (fun y hy => by rw [ef_1, va_up_ne _ _ (by omega)])
  refine x_Vi (q := 302) (As := [.int x]) (rest := []) ⟨hx, hb, hml, hown, hts⟩ (k_X6_isFile_no l D ca N ad B tR tK f_1 dd hN (va_up n 7 0) g z zn tb hRk x (by omega) ho) (cwV 1 hts gX6_schedule_X6_isFile rfl rfl rfl (by decide +kernel) ⟨Nat.le_of_ble_eq_true rfl, Nat.le_of_ble_eq_true rfl⟩) hK hE hB hw (by omega) c_302 rfl rfl rfl rfl hl.1 (Nat.le_of_ble_eq_true rfl) ⟨Nat.zero_le _, Nat.zero_le _⟩ dX6_schedule_7 (fun r_3 f_2 H locs hp hw => ?_)
  obtain ⟨er, hp⟩ := hp
  rw [← er]
  rw [← hp] at hw
  refine lv_if_ne (tgt := 15) hx hb dX6_schedule_10 (by decide) (fun h => False.elim (h (by decide))) (fun _ => ?_)
  refine lv_iconst (v := (-1)) hx hb dX6_schedule_13 (by decide) ?_
  have qn_0 : (va_up n 7 0) 0 = n 0 := by rw [va_up_ne _ _ (by decide)]
  have qn_1 : (va_up n 7 0) 1 = n 1 := by rw [va_up_ne _ _ (by decide)]
  have qn_2 : (va_up n 7 0) 2 = n 2 := by rw [va_up_ne _ _ (by decide)]
  have qn_3 : (va_up n 7 0) 3 = n 3 := by rw [va_up_ne _ _ (by decide)]
  have qn_4 : (va_up n 7 0) 4 = n 4 := by rw [va_up_ne _ _ (by decide)]
  have qn_5 : (va_up n 7 0) 5 = n 5 := by rw [va_up_ne _ _ (by decide)]
  have qn_6 : (va_up n 7 0) 6 = n 6 := by rw [va_up_ne _ _ (by decide)]
  have qn_7 : (va_up n 7 0) 7 = 0 := by rw [va_up_self]
  have hRz : RepM ca ad (va_up n 7 0) g z zn tb f_1 := ⟨(by rw [qn_7, qn_0, qn_1, qn_2, qn_3, qn_4, qn_5]; exact c_302),
        c_303,
        c_304,
        c_305,
        c_306,
        c_307,
        c_308,
        c_309,
        c_310,
        c_311,
        c_312,
        c_313,
        c_314,
        c_315,
        c_316,
        c_317,
        c_318,
        c_319,
        c_320,
        c_321,
        c_322,
        c_323,
        c_324,
        c_325, hzn⟩
  exact x_iret hx hb hr hlocks hw ⟨rfl, z, zn, hRz, (fun y hy => by rw [ef_1, va_up_ne _ _ (by omega)])⟩ dX6_schedule_14

set_option maxHeartbeats 4000000 in
set_option maxRecDepth 100000 in
theorem k_X6_schedule_day (l : Launch) (D : va_G) (ca : Nat → ClassId) (N : Nat) (ad : Nat → Nat) (B tR tK : Nat) (f : Nat → va_E) (dd : xD N ad B) (hN : 326 ≤ N) (n : Nat → Nat) (g : Nat → Nat → Int32) (z : Nat → Nat → Int32) (zn : Nat) (tb : Nat → Int32) (hR : RepM ca ad n g z zn tb f) (i : Nat) (y : Int32) (w : Int32) (h2 : n 2 ≤ 20) (hi : i < n 2) (ho : y < 0 ∨ nI 1000000 < y) : xMi l yX6_schedule wsX6_schedule rmX6_schedule [.ref (ad 302), .int (nI i), .int y, .int w] D ca N ad B tR tK f (fun r u => (-2) = r ∧ ∃ (z1 : Nat → Nat → Int32) (zn1 : Nat), RepM ca ad (va_up n 7 0) g z1 zn1 tb u ∧ ∀ y, (y < 302 ∨ 326 ≤ y) → u y = f y) := by
  refine x_open (cc := cX6_schedule) (maxL := 4) (ret := (some .int)) (by decide) rfl (Nat.le_of_ble_eq_true rfl) ?_
  intro p e s m below meth c ls hx hb hml hown hts hr hlocks hnm hB hK hE hw hl
  have hown : s.vm.findClass RX6 = some m.cls := hown
  have hl : lv_has ls 4 [(0, .ref (ad 302)), (1, .int (nI i)), (2, .int y), (3, .int w)] := hl
  obtain ⟨c_302, c_303, c_304, c_305, c_306, c_307, c_308, c_309, c_310, c_311, c_312, c_313, c_314, c_315, c_316, c_317, c_318, c_319, c_320, c_321, c_322, c_323, c_324, c_325, hzn⟩ := hR
  have hin_7 : ∀ w ∈ u_ws RX6 TX6 32, w ∈ wsX6_schedule := by decide +kernel
  have hf_160 := hts (.fieldLink RX6 160 "FixityRowsModel" "thrown" "I") (by decide +kernel)
  have b_302 := c_302
  have b_303 := c_303
  have b_304 := c_304
  have b_305 := c_305
  have b_306 := c_306
  have b_307 := c_307
  have b_308 := c_308
  have b_309 := c_309
  have b_310 := c_310
  have b_311 := c_311
  have b_312 := c_312
  have b_313 := c_313
  have b_314 := c_314
  have b_315 := c_315
  have b_316 := c_316
  have b_317 := c_317
  have b_318 := c_318
  have b_319 := c_319
  have b_320 := c_320
  have b_321 := c_321
  have b_322 := c_322
  have b_323 := c_323
  have b_324 := c_324
  have b_325 := c_325
  refine lv_aload_n hx hb dX6_schedule_0 rfl (lv_at hl 0 rfl) ?_
  refine lv_iconst (v := nI 0) hx hb dX6_schedule_1 (by decide) ?_
  refine x_put (ci := 7) (C := RX6) (T := TX6) (n := 32) (ref := RX6) (fs' := mO ad 0 (n 0) (n 1) (n 2) (g 13 0) (n 3) (n 4) (n 5) zn) hx hb hts hin_7 tyX6 tyX6_ok nmX6 hown hK dd hw 302 (by omega) c_302 rfl 0 (by decide) hf_160 (fun _ h => h) rfl rfl rfl (Nat.le_of_ble_eq_true rfl) rfl dX6_schedule_2 (fun H locs hw => ?_)
  obtain ⟨f_1, ef_1⟩ : ∃ z, z = va_up f 302 (.inr (7, mO ad 0 (n 0) (n 1) (n 2) (g 13 0) (n 3) (n 4) (n 5) zn)) := ⟨_, rfl⟩
  have hw : xw D vwCl N ad B s.heap f_1 H locs := by rw [ef_1]; exact hw
  have c_302 : f_1 302 = .inr (7, mO ad 0 (n 0) (n 1) (n 2) (g 13 0) (n 3) (n 4) (n 5) zn) := va_up_of ef_1
  refine lv_aload_n hx hb dX6_schedule_5 rfl (lv_at hl 0 rfl) ?_
  refine lv_iload_n hx hb dX6_schedule_6 rfl (lv_at hl 1 rfl) ?_
  have c_303 : f_1 303 = ai (ca 1) 200 (g 0) := by rw [ef_1, va_up_ne _ _ (by decide)]; exact c_303
  have c_304 : f_1 304 = ai (ca 1) 4000 (g 1) := by rw [ef_1, va_up_ne _ _ (by decide)]; exact c_304
  have c_305 : f_1 305 = ai (ca 0) 20 (g 2) := by rw [ef_1, va_up_ne _ _ (by decide)]; exact c_305
  have c_306 : f_1 306 = ai (ca 0) 20 (g 3) := by rw [ef_1, va_up_ne _ _ (by decide)]; exact c_306
  have c_307 : f_1 307 = ai (ca 1) 720 (g 4) := by rw [ef_1, va_up_ne _ _ (by decide)]; exact c_307
  have c_308 : f_1 308 = ai (ca 0) 20 (g 5) := by rw [ef_1, va_up_ne _ _ (by decide)]; exact c_308
  have c_309 : f_1 309 = ai (ca 0) 20 (g 6) := by rw [ef_1, va_up_ne _ _ (by decide)]; exact c_309
  have c_310 : f_1 310 = ai (ca 0) 20 (g 7) := by rw [ef_1, va_up_ne _ _ (by decide)]; exact c_310
  have c_311 : f_1 311 = ai (ca 0) 20 (g 8) := by rw [ef_1, va_up_ne _ _ (by decide)]; exact c_311
  have c_312 : f_1 312 = ai (ca 0) 20 (g 9) := by rw [ef_1, va_up_ne _ _ (by decide)]; exact c_312
  have c_313 : f_1 313 = ai (ca 2) 20 (g 10) := by rw [ef_1, va_up_ne _ _ (by decide)]; exact c_313
  have c_314 : f_1 314 = ai (ca 0) 200 (g 11) := by rw [ef_1, va_up_ne _ _ (by decide)]; exact c_314
  have c_315 : f_1 315 = ai (ca 0) 200 (g 12) := by rw [ef_1, va_up_ne _ _ (by decide)]; exact c_315
  have c_316 : f_1 316 = ai (ca 0) 200 (g 14) := by rw [ef_1, va_up_ne _ _ (by decide)]; exact c_316
  have c_317 : f_1 317 = ai (ca 1) 6400 (g 15) := by rw [ef_1, va_up_ne _ _ (by decide)]; exact c_317
  have c_318 : f_1 318 = ai (ca 1) 32 (g 16) := by rw [ef_1, va_up_ne _ _ (by decide)]; exact c_318
  have c_319 : f_1 319 = ai (ca 1) 320 (z 0) := by rw [ef_1, va_up_ne _ _ (by decide)]; exact c_319
  have c_320 : f_1 320 = ai (ca 1) 36 (z 1) := by rw [ef_1, va_up_ne _ _ (by decide)]; exact c_320
  have c_321 : f_1 321 = ai (ca 0) 64 (z 2) := by rw [ef_1, va_up_ne _ _ (by decide)]; exact c_321
  have c_322 : f_1 322 = ai (ca 0) 8 (z 3) := by rw [ef_1, va_up_ne _ _ (by decide)]; exact c_322
  have c_323 : f_1 323 = ai (ca 0) 8 (z 4) := by rw [ef_1, va_up_ne _ _ (by decide)]; exact c_323
  have c_324 : f_1 324 = ai (ca 0) 8 shR := by rw [ef_1, va_up_ne _ _ (by decide)]; exact c_324
  have c_325 : f_1 325 = ai (ca 0) 64 shK := by rw [ef_1, va_up_ne _ _ (by decide)]; exact c_325
  have qn_0 : (va_up n 7 0) 0 = n 0 := by rw [va_up_ne _ _ (by decide)]
  have qn_1 : (va_up n 7 0) 1 = n 1 := by rw [va_up_ne _ _ (by decide)]
  have qn_2 : (va_up n 7 0) 2 = n 2 := by rw [va_up_ne _ _ (by decide)]
  have qn_3 : (va_up n 7 0) 3 = n 3 := by rw [va_up_ne _ _ (by decide)]
  have qn_4 : (va_up n 7 0) 4 = n 4 := by rw [va_up_ne _ _ (by decide)]
  have qn_5 : (va_up n 7 0) 5 = n 5 := by rw [va_up_ne _ _ (by decide)]
  have qn_6 : (va_up n 7 0) 6 = n 6 := by rw [va_up_ne _ _ (by decide)]
  have qn_7 : (va_up n 7 0) 7 = 0 := by rw [va_up_self]
  have hRk : RepM ca ad (va_up n 7 0) g z zn tb f_1 := ⟨(by rw [qn_7, qn_0, qn_1, qn_2, qn_3, qn_4, qn_5]; exact c_302),
        c_303,
        c_304,
        c_305,
        c_306,
        c_307,
        c_308,
        c_309,
        c_310,
        c_311,
        c_312,
        c_313,
        c_314,
        c_315,
        c_316,
        c_317,
        c_318,
        c_319,
        c_320,
        c_321,
        c_322,
        c_323,
        c_324,
        c_325, hzn⟩
  have hfr : ∀ y, (y < 302 ∨ 326 ≤ y) → f_1 y = f y := (fun y hy => by rw [ef_1, va_up_ne _ _ (by omega)])
  refine x_Vi (q := 302) (As := [.int (nI i)]) (rest := []) ⟨hx, hb, hml, hown, hts⟩ (k_X6_isFile_yes l D ca N ad B tR tK f_1 dd hN (va_up n 7 0) g z zn tb hRk i (by omega) (by omega)) (cwV 1 hts gX6_schedule_X6_isFile rfl rfl rfl (by decide +kernel) ⟨Nat.le_of_ble_eq_true rfl, Nat.le_of_ble_eq_true rfl⟩) hK hE hB hw (by omega) c_302 rfl rfl rfl rfl hl.1 (Nat.le_of_ble_eq_true rfl) ⟨Nat.zero_le _, Nat.zero_le _⟩ dX6_schedule_7 (fun r_3 f_2 H locs hp hw => ?_)
  obtain ⟨er, hp⟩ := hp
  rw [← er]
  rw [← hp] at hw
  refine lv_if_ne (tgt := 15) hx hb dX6_schedule_10 (by decide) (fun _ => ?_) (fun h => absurd h (by decide))
  refine lv_iload_n hx hb dX6_schedule_15 rfl (lv_at hl 2 rfl) ?_
  refine x_Si (As := [.int y]) (rest := []) ⟨hx, hb, hml, hown, hts⟩ (k_X6_isDay_no l D ca N ad B tR tK f_1 dd y   ho) (va_cwS 1 hts gX6_schedule_X6_isDay rfl rfl rfl (by decide +kernel) ⟨Nat.le_of_ble_eq_true rfl, Nat.le_of_ble_eq_true rfl⟩) hK hE hB hw rfl rfl hl.1 (Nat.le_of_ble_eq_true rfl) ⟨Nat.zero_le _, Nat.zero_le _⟩ dX6_schedule_16 (fun r_5 f_4 H locs hp hw => ?_)
  obtain ⟨er, eu⟩ := hp
  rw [← er]
  rw [← eu] at hw
  refine lv_if_eq (tgt := 33) hx hb dX6_schedule_19 (by decide) (fun _ => ?_) (fun h => False.elim (h (by decide)))
  refine lv_bipush (v := (-2)) hx hb dX6_schedule_33 (by decide) ?_
  have qn_0 : (va_up n 7 0) 0 = n 0 := by rw [va_up_ne _ _ (by decide)]
  have qn_1 : (va_up n 7 0) 1 = n 1 := by rw [va_up_ne _ _ (by decide)]
  have qn_2 : (va_up n 7 0) 2 = n 2 := by rw [va_up_ne _ _ (by decide)]
  have qn_3 : (va_up n 7 0) 3 = n 3 := by rw [va_up_ne _ _ (by decide)]
  have qn_4 : (va_up n 7 0) 4 = n 4 := by rw [va_up_ne _ _ (by decide)]
  have qn_5 : (va_up n 7 0) 5 = n 5 := by rw [va_up_ne _ _ (by decide)]
  have qn_6 : (va_up n 7 0) 6 = n 6 := by rw [va_up_ne _ _ (by decide)]
  have qn_7 : (va_up n 7 0) 7 = 0 := by rw [va_up_self]
  have hRz : RepM ca ad (va_up n 7 0) g z zn tb f_1 := ⟨(by rw [qn_7, qn_0, qn_1, qn_2, qn_3, qn_4, qn_5]; exact c_302),
        c_303,
        c_304,
        c_305,
        c_306,
        c_307,
        c_308,
        c_309,
        c_310,
        c_311,
        c_312,
        c_313,
        c_314,
        c_315,
        c_316,
        c_317,
        c_318,
        c_319,
        c_320,
        c_321,
        c_322,
        c_323,
        c_324,
        c_325, hzn⟩
  exact x_iret hx hb hr hlocks hw ⟨rfl, z, zn, hRz, (fun y hy => by rw [ef_1, va_up_ne _ _ (by omega)])⟩ dX6_schedule_35

set_option maxHeartbeats 4000000 in
set_option maxRecDepth 100000 in
theorem k_X6_schedule_span (l : Launch) (D : va_G) (ca : Nat → ClassId) (N : Nat) (ad : Nat → Nat) (B tR tK : Nat) (f : Nat → va_E) (dd : xD N ad B) (hN : 326 ≤ N) (n : Nat → Nat) (g : Nat → Nat → Int32) (z : Nat → Nat → Int32) (zn : Nat) (tb : Nat → Int32) (hR : RepM ca ad n g z zn tb f) (i : Nat) (j : Nat) (w : Int32) (h2 : n 2 ≤ 20) (hi : i < n 2) (hj : j ≤ 1000000) (ho : w < nI 1 ∨ nI 1000 < w) : xMi l yX6_schedule wsX6_schedule rmX6_schedule [.ref (ad 302), .int (nI i), .int (nI j), .int w] D ca N ad B tR tK f (fun r u => (-2) = r ∧ ∃ (z1 : Nat → Nat → Int32) (zn1 : Nat), RepM ca ad (va_up n 7 0) g z1 zn1 tb u ∧ ∀ y, (y < 302 ∨ 326 ≤ y) → u y = f y) := by
  refine x_open (cc := cX6_schedule) (maxL := 4) (ret := (some .int)) (by decide) rfl (Nat.le_of_ble_eq_true rfl) ?_
  intro p e s m below meth c ls hx hb hml hown hts hr hlocks hnm hB hK hE hw hl
  have hown : s.vm.findClass RX6 = some m.cls := hown
  have hl : lv_has ls 4 [(0, .ref (ad 302)), (1, .int (nI i)), (2, .int (nI j)), (3, .int w)] := hl
  obtain ⟨c_302, c_303, c_304, c_305, c_306, c_307, c_308, c_309, c_310, c_311, c_312, c_313, c_314, c_315, c_316, c_317, c_318, c_319, c_320, c_321, c_322, c_323, c_324, c_325, hzn⟩ := hR
  have hin_7 : ∀ w ∈ u_ws RX6 TX6 32, w ∈ wsX6_schedule := by decide +kernel
  have hf_160 := hts (.fieldLink RX6 160 "FixityRowsModel" "thrown" "I") (by decide +kernel)
  have b_302 := c_302
  have b_303 := c_303
  have b_304 := c_304
  have b_305 := c_305
  have b_306 := c_306
  have b_307 := c_307
  have b_308 := c_308
  have b_309 := c_309
  have b_310 := c_310
  have b_311 := c_311
  have b_312 := c_312
  have b_313 := c_313
  have b_314 := c_314
  have b_315 := c_315
  have b_316 := c_316
  have b_317 := c_317
  have b_318 := c_318
  have b_319 := c_319
  have b_320 := c_320
  have b_321 := c_321
  have b_322 := c_322
  have b_323 := c_323
  have b_324 := c_324
  have b_325 := c_325
  refine lv_aload_n hx hb dX6_schedule_0 rfl (lv_at hl 0 rfl) ?_
  refine lv_iconst (v := nI 0) hx hb dX6_schedule_1 (by decide) ?_
  refine x_put (ci := 7) (C := RX6) (T := TX6) (n := 32) (ref := RX6) (fs' := mO ad 0 (n 0) (n 1) (n 2) (g 13 0) (n 3) (n 4) (n 5) zn) hx hb hts hin_7 tyX6 tyX6_ok nmX6 hown hK dd hw 302 (by omega) c_302 rfl 0 (by decide) hf_160 (fun _ h => h) rfl rfl rfl (Nat.le_of_ble_eq_true rfl) rfl dX6_schedule_2 (fun H locs hw => ?_)
  obtain ⟨f_1, ef_1⟩ : ∃ z, z = va_up f 302 (.inr (7, mO ad 0 (n 0) (n 1) (n 2) (g 13 0) (n 3) (n 4) (n 5) zn)) := ⟨_, rfl⟩
  have hw : xw D vwCl N ad B s.heap f_1 H locs := by rw [ef_1]; exact hw
  have c_302 : f_1 302 = .inr (7, mO ad 0 (n 0) (n 1) (n 2) (g 13 0) (n 3) (n 4) (n 5) zn) := va_up_of ef_1
  refine lv_aload_n hx hb dX6_schedule_5 rfl (lv_at hl 0 rfl) ?_
  refine lv_iload_n hx hb dX6_schedule_6 rfl (lv_at hl 1 rfl) ?_
  have c_303 : f_1 303 = ai (ca 1) 200 (g 0) := by rw [ef_1, va_up_ne _ _ (by decide)]; exact c_303
  have c_304 : f_1 304 = ai (ca 1) 4000 (g 1) := by rw [ef_1, va_up_ne _ _ (by decide)]; exact c_304
  have c_305 : f_1 305 = ai (ca 0) 20 (g 2) := by rw [ef_1, va_up_ne _ _ (by decide)]; exact c_305
  have c_306 : f_1 306 = ai (ca 0) 20 (g 3) := by rw [ef_1, va_up_ne _ _ (by decide)]; exact c_306
  have c_307 : f_1 307 = ai (ca 1) 720 (g 4) := by rw [ef_1, va_up_ne _ _ (by decide)]; exact c_307
  have c_308 : f_1 308 = ai (ca 0) 20 (g 5) := by rw [ef_1, va_up_ne _ _ (by decide)]; exact c_308
  have c_309 : f_1 309 = ai (ca 0) 20 (g 6) := by rw [ef_1, va_up_ne _ _ (by decide)]; exact c_309
  have c_310 : f_1 310 = ai (ca 0) 20 (g 7) := by rw [ef_1, va_up_ne _ _ (by decide)]; exact c_310
  have c_311 : f_1 311 = ai (ca 0) 20 (g 8) := by rw [ef_1, va_up_ne _ _ (by decide)]; exact c_311
  have c_312 : f_1 312 = ai (ca 0) 20 (g 9) := by rw [ef_1, va_up_ne _ _ (by decide)]; exact c_312
  have c_313 : f_1 313 = ai (ca 2) 20 (g 10) := by rw [ef_1, va_up_ne _ _ (by decide)]; exact c_313
  have c_314 : f_1 314 = ai (ca 0) 200 (g 11) := by rw [ef_1, va_up_ne _ _ (by decide)]; exact c_314
  have c_315 : f_1 315 = ai (ca 0) 200 (g 12) := by rw [ef_1, va_up_ne _ _ (by decide)]; exact c_315
  have c_316 : f_1 316 = ai (ca 0) 200 (g 14) := by rw [ef_1, va_up_ne _ _ (by decide)]; exact c_316
  have c_317 : f_1 317 = ai (ca 1) 6400 (g 15) := by rw [ef_1, va_up_ne _ _ (by decide)]; exact c_317
  have c_318 : f_1 318 = ai (ca 1) 32 (g 16) := by rw [ef_1, va_up_ne _ _ (by decide)]; exact c_318
  have c_319 : f_1 319 = ai (ca 1) 320 (z 0) := by rw [ef_1, va_up_ne _ _ (by decide)]; exact c_319
  have c_320 : f_1 320 = ai (ca 1) 36 (z 1) := by rw [ef_1, va_up_ne _ _ (by decide)]; exact c_320
  have c_321 : f_1 321 = ai (ca 0) 64 (z 2) := by rw [ef_1, va_up_ne _ _ (by decide)]; exact c_321
  have c_322 : f_1 322 = ai (ca 0) 8 (z 3) := by rw [ef_1, va_up_ne _ _ (by decide)]; exact c_322
  have c_323 : f_1 323 = ai (ca 0) 8 (z 4) := by rw [ef_1, va_up_ne _ _ (by decide)]; exact c_323
  have c_324 : f_1 324 = ai (ca 0) 8 shR := by rw [ef_1, va_up_ne _ _ (by decide)]; exact c_324
  have c_325 : f_1 325 = ai (ca 0) 64 shK := by rw [ef_1, va_up_ne _ _ (by decide)]; exact c_325
  have qn_0 : (va_up n 7 0) 0 = n 0 := by rw [va_up_ne _ _ (by decide)]
  have qn_1 : (va_up n 7 0) 1 = n 1 := by rw [va_up_ne _ _ (by decide)]
  have qn_2 : (va_up n 7 0) 2 = n 2 := by rw [va_up_ne _ _ (by decide)]
  have qn_3 : (va_up n 7 0) 3 = n 3 := by rw [va_up_ne _ _ (by decide)]
  have qn_4 : (va_up n 7 0) 4 = n 4 := by rw [va_up_ne _ _ (by decide)]
  have qn_5 : (va_up n 7 0) 5 = n 5 := by rw [va_up_ne _ _ (by decide)]
  have qn_6 : (va_up n 7 0) 6 = n 6 := by rw [va_up_ne _ _ (by decide)]
  have qn_7 : (va_up n 7 0) 7 = 0 := by rw [va_up_self]
  have hRk : RepM ca ad (va_up n 7 0) g z zn tb f_1 := ⟨(by rw [qn_7, qn_0, qn_1, qn_2, qn_3, qn_4, qn_5]; exact c_302),
        c_303,
        c_304,
        c_305,
        c_306,
        c_307,
        c_308,
        c_309,
        c_310,
        c_311,
        c_312,
        c_313,
        c_314,
        c_315,
        c_316,
        c_317,
        c_318,
        c_319,
        c_320,
        c_321,
        c_322,
        c_323,
        c_324,
        c_325, hzn⟩
  have hfr : ∀ y, (y < 302 ∨ 326 ≤ y) → f_1 y = f y := (fun y hy => by rw [ef_1, va_up_ne _ _ (by omega)])
  refine x_Vi (q := 302) (As := [.int (nI i)]) (rest := []) ⟨hx, hb, hml, hown, hts⟩ (k_X6_isFile_yes l D ca N ad B tR tK f_1 dd hN (va_up n 7 0) g z zn tb hRk i (by omega) (by omega)) (cwV 1 hts gX6_schedule_X6_isFile rfl rfl rfl (by decide +kernel) ⟨Nat.le_of_ble_eq_true rfl, Nat.le_of_ble_eq_true rfl⟩) hK hE hB hw (by omega) c_302 rfl rfl rfl rfl hl.1 (Nat.le_of_ble_eq_true rfl) ⟨Nat.zero_le _, Nat.zero_le _⟩ dX6_schedule_7 (fun r_3 f_2 H locs hp hw => ?_)
  obtain ⟨er, hp⟩ := hp
  rw [← er]
  rw [← hp] at hw
  refine lv_if_ne (tgt := 15) hx hb dX6_schedule_10 (by decide) (fun _ => ?_) (fun h => absurd h (by decide))
  refine lv_iload_n hx hb dX6_schedule_15 rfl (lv_at hl 2 rfl) ?_
  refine x_Si (As := [.int (nI j)]) (rest := []) ⟨hx, hb, hml, hown, hts⟩ (k_X6_isDay_yes l D ca N ad B tR tK f_1 dd j   (by omega)) (va_cwS 1 hts gX6_schedule_X6_isDay rfl rfl rfl (by decide +kernel) ⟨Nat.le_of_ble_eq_true rfl, Nat.le_of_ble_eq_true rfl⟩) hK hE hB hw rfl rfl hl.1 (Nat.le_of_ble_eq_true rfl) ⟨Nat.zero_le _, Nat.zero_le _⟩ dX6_schedule_16 (fun r_5 f_4 H locs hp hw => ?_)
  obtain ⟨er, eu⟩ := hp
  rw [← er]
  rw [← eu] at hw
  refine lv_if_eq (tgt := 33) hx hb dX6_schedule_19 (by decide) (fun h => absurd h (by decide)) (fun _ => ?_)
  refine lv_iload_n hx hb dX6_schedule_22 rfl (lv_at hl 3 rfl) ?_
  refine lv_iconst (v := nI 1) hx hb dX6_schedule_23 (by decide) ?_
  refine lv_sipush (v := nI 1000) hx hb dX6_schedule_24 (by decide) ?_
  refine x_Si (As := [.int w, .int (nI 1), .int (nI 1000)]) (rest := []) ⟨hx, hb, hml, hown, hts⟩ (k_X6_in_no l D ca N ad B tR tK f_1 dd w (nI 1) (nI 1000)   ho) (va_cwS 3 hts gX6_schedule_X6_in rfl rfl rfl (by decide +kernel) ⟨Nat.le_of_ble_eq_true rfl, Nat.le_of_ble_eq_true rfl⟩) hK hE hB hw rfl rfl hl.1 (Nat.le_of_ble_eq_true rfl) ⟨Nat.zero_le _, Nat.zero_le _⟩ dX6_schedule_27 (fun r_7 f_6 H locs hp hw => ?_)
  obtain ⟨er, eu⟩ := hp
  rw [← er]
  rw [← eu] at hw
  refine lv_if_ne (tgt := 36) hx hb dX6_schedule_30 (by decide) (fun h => False.elim (h (by decide))) (fun _ => ?_)
  refine lv_bipush (v := (-2)) hx hb dX6_schedule_33 (by decide) ?_
  have qn_0 : (va_up n 7 0) 0 = n 0 := by rw [va_up_ne _ _ (by decide)]
  have qn_1 : (va_up n 7 0) 1 = n 1 := by rw [va_up_ne _ _ (by decide)]
  have qn_2 : (va_up n 7 0) 2 = n 2 := by rw [va_up_ne _ _ (by decide)]
  have qn_3 : (va_up n 7 0) 3 = n 3 := by rw [va_up_ne _ _ (by decide)]
  have qn_4 : (va_up n 7 0) 4 = n 4 := by rw [va_up_ne _ _ (by decide)]
  have qn_5 : (va_up n 7 0) 5 = n 5 := by rw [va_up_ne _ _ (by decide)]
  have qn_6 : (va_up n 7 0) 6 = n 6 := by rw [va_up_ne _ _ (by decide)]
  have qn_7 : (va_up n 7 0) 7 = 0 := by rw [va_up_self]
  have hRz : RepM ca ad (va_up n 7 0) g z zn tb f_1 := ⟨(by rw [qn_7, qn_0, qn_1, qn_2, qn_3, qn_4, qn_5]; exact c_302),
        c_303,
        c_304,
        c_305,
        c_306,
        c_307,
        c_308,
        c_309,
        c_310,
        c_311,
        c_312,
        c_313,
        c_314,
        c_315,
        c_316,
        c_317,
        c_318,
        c_319,
        c_320,
        c_321,
        c_322,
        c_323,
        c_324,
        c_325, hzn⟩
  exact x_iret hx hb hr hlocks hw ⟨rfl, z, zn, hRz, (fun y hy => by rw [ef_1, va_up_ne _ _ (by omega)])⟩ dX6_schedule_35

set_option maxHeartbeats 4000000 in
set_option maxRecDepth 100000 in
theorem k_X6_schedule_in (l : Launch) (D : va_G) (ca : Nat → ClassId) (N : Nat) (ad : Nat → Nat) (B tR tK : Nat) (f : Nat → va_E) (dd : xD N ad B) (hN : 326 ≤ N) (n : Nat → Nat) (g : Nat → Nat → Int32) (z : Nat → Nat → Int32) (zn : Nat) (tb : Nat → Int32) (hR : RepM ca ad n g z zn tb f) (i : Nat) (j : Nat) (k : Nat) (h2 : n 2 ≤ 20) (hi : i < n 2) (hj : j ≤ 1000000) (hk1 : 1 ≤ k) (hk2 : k ≤ 1000) : xMi l yX6_schedule wsX6_schedule rmX6_schedule [.ref (ad 302), .int (nI i), .int (nI j), .int (nI k)] D ca N ad B tR tK f (fun r u => nI 1 = r ∧ ∃ (z1 : Nat → Nat → Int32) (zn1 : Nat), RepM ca ad (va_up n 7 0) (va_up (va_up g 7 (upd (g 7) i (nI j))) 8 (upd (g 8) i (nI k))) z1 zn1 tb u ∧ ∀ y, (y < 302 ∨ 326 ≤ y) → u y = f y) := by
  refine x_open (cc := cX6_schedule) (maxL := 4) (ret := (some .int)) (by decide) rfl (Nat.le_of_ble_eq_true rfl) ?_
  intro p e s m below meth c ls hx hb hml hown hts hr hlocks hnm hB hK hE hw hl
  have hown : s.vm.findClass RX6 = some m.cls := hown
  have hl : lv_has ls 4 [(0, .ref (ad 302)), (1, .int (nI i)), (2, .int (nI j)), (3, .int (nI k))] := hl
  obtain ⟨c_302, c_303, c_304, c_305, c_306, c_307, c_308, c_309, c_310, c_311, c_312, c_313, c_314, c_315, c_316, c_317, c_318, c_319, c_320, c_321, c_322, c_323, c_324, c_325, hzn⟩ := hR
  have hin_7 : ∀ w ∈ u_ws RX6 TX6 32, w ∈ wsX6_schedule := by decide +kernel
  have hf_160 := hts (.fieldLink RX6 160 "FixityRowsModel" "thrown" "I") (by decide +kernel)
  have hf_32 := hts (.fieldLink RX6 32 "FixityRowsModel" "due" "[I") (by decide +kernel)
  have hf_35 := hts (.fieldLink RX6 35 "FixityRowsModel" "span" "[I") (by decide +kernel)
  have b_302 := c_302
  have b_303 := c_303
  have b_304 := c_304
  have b_305 := c_305
  have b_306 := c_306
  have b_307 := c_307
  have b_308 := c_308
  have b_309 := c_309
  have b_310 := c_310
  have b_311 := c_311
  have b_312 := c_312
  have b_313 := c_313
  have b_314 := c_314
  have b_315 := c_315
  have b_316 := c_316
  have b_317 := c_317
  have b_318 := c_318
  have b_319 := c_319
  have b_320 := c_320
  have b_321 := c_321
  have b_322 := c_322
  have b_323 := c_323
  have b_324 := c_324
  have b_325 := c_325
  refine lv_aload_n hx hb dX6_schedule_0 rfl (lv_at hl 0 rfl) ?_
  refine lv_iconst (v := nI 0) hx hb dX6_schedule_1 (by decide) ?_
  refine x_put (ci := 7) (C := RX6) (T := TX6) (n := 32) (ref := RX6) (fs' := mO ad 0 (n 0) (n 1) (n 2) (g 13 0) (n 3) (n 4) (n 5) zn) hx hb hts hin_7 tyX6 tyX6_ok nmX6 hown hK dd hw 302 (by omega) c_302 rfl 0 (by decide) hf_160 (fun _ h => h) rfl rfl rfl (Nat.le_of_ble_eq_true rfl) rfl dX6_schedule_2 (fun H locs hw => ?_)
  obtain ⟨f_1, ef_1⟩ : ∃ z, z = va_up f 302 (.inr (7, mO ad 0 (n 0) (n 1) (n 2) (g 13 0) (n 3) (n 4) (n 5) zn)) := ⟨_, rfl⟩
  have hw : xw D vwCl N ad B s.heap f_1 H locs := by rw [ef_1]; exact hw
  have c_302 : f_1 302 = .inr (7, mO ad 0 (n 0) (n 1) (n 2) (g 13 0) (n 3) (n 4) (n 5) zn) := va_up_of ef_1
  refine lv_aload_n hx hb dX6_schedule_5 rfl (lv_at hl 0 rfl) ?_
  refine lv_iload_n hx hb dX6_schedule_6 rfl (lv_at hl 1 rfl) ?_
  have c_303 : f_1 303 = ai (ca 1) 200 (g 0) := by rw [ef_1, va_up_ne _ _ (by decide)]; exact c_303
  have c_304 : f_1 304 = ai (ca 1) 4000 (g 1) := by rw [ef_1, va_up_ne _ _ (by decide)]; exact c_304
  have c_305 : f_1 305 = ai (ca 0) 20 (g 2) := by rw [ef_1, va_up_ne _ _ (by decide)]; exact c_305
  have c_306 : f_1 306 = ai (ca 0) 20 (g 3) := by rw [ef_1, va_up_ne _ _ (by decide)]; exact c_306
  have c_307 : f_1 307 = ai (ca 1) 720 (g 4) := by rw [ef_1, va_up_ne _ _ (by decide)]; exact c_307
  have c_308 : f_1 308 = ai (ca 0) 20 (g 5) := by rw [ef_1, va_up_ne _ _ (by decide)]; exact c_308
  have c_309 : f_1 309 = ai (ca 0) 20 (g 6) := by rw [ef_1, va_up_ne _ _ (by decide)]; exact c_309
  have c_310 : f_1 310 = ai (ca 0) 20 (g 7) := by rw [ef_1, va_up_ne _ _ (by decide)]; exact c_310
  have c_311 : f_1 311 = ai (ca 0) 20 (g 8) := by rw [ef_1, va_up_ne _ _ (by decide)]; exact c_311
  have c_312 : f_1 312 = ai (ca 0) 20 (g 9) := by rw [ef_1, va_up_ne _ _ (by decide)]; exact c_312
  have c_313 : f_1 313 = ai (ca 2) 20 (g 10) := by rw [ef_1, va_up_ne _ _ (by decide)]; exact c_313
  have c_314 : f_1 314 = ai (ca 0) 200 (g 11) := by rw [ef_1, va_up_ne _ _ (by decide)]; exact c_314
  have c_315 : f_1 315 = ai (ca 0) 200 (g 12) := by rw [ef_1, va_up_ne _ _ (by decide)]; exact c_315
  have c_316 : f_1 316 = ai (ca 0) 200 (g 14) := by rw [ef_1, va_up_ne _ _ (by decide)]; exact c_316
  have c_317 : f_1 317 = ai (ca 1) 6400 (g 15) := by rw [ef_1, va_up_ne _ _ (by decide)]; exact c_317
  have c_318 : f_1 318 = ai (ca 1) 32 (g 16) := by rw [ef_1, va_up_ne _ _ (by decide)]; exact c_318
  have c_319 : f_1 319 = ai (ca 1) 320 (z 0) := by rw [ef_1, va_up_ne _ _ (by decide)]; exact c_319
  have c_320 : f_1 320 = ai (ca 1) 36 (z 1) := by rw [ef_1, va_up_ne _ _ (by decide)]; exact c_320
  have c_321 : f_1 321 = ai (ca 0) 64 (z 2) := by rw [ef_1, va_up_ne _ _ (by decide)]; exact c_321
  have c_322 : f_1 322 = ai (ca 0) 8 (z 3) := by rw [ef_1, va_up_ne _ _ (by decide)]; exact c_322
  have c_323 : f_1 323 = ai (ca 0) 8 (z 4) := by rw [ef_1, va_up_ne _ _ (by decide)]; exact c_323
  have c_324 : f_1 324 = ai (ca 0) 8 shR := by rw [ef_1, va_up_ne _ _ (by decide)]; exact c_324
  have c_325 : f_1 325 = ai (ca 0) 64 shK := by rw [ef_1, va_up_ne _ _ (by decide)]; exact c_325
  have qn_0 : (va_up n 7 0) 0 = n 0 := by rw [va_up_ne _ _ (by decide)]
  have qn_1 : (va_up n 7 0) 1 = n 1 := by rw [va_up_ne _ _ (by decide)]
  have qn_2 : (va_up n 7 0) 2 = n 2 := by rw [va_up_ne _ _ (by decide)]
  have qn_3 : (va_up n 7 0) 3 = n 3 := by rw [va_up_ne _ _ (by decide)]
  have qn_4 : (va_up n 7 0) 4 = n 4 := by rw [va_up_ne _ _ (by decide)]
  have qn_5 : (va_up n 7 0) 5 = n 5 := by rw [va_up_ne _ _ (by decide)]
  have qn_6 : (va_up n 7 0) 6 = n 6 := by rw [va_up_ne _ _ (by decide)]
  have qn_7 : (va_up n 7 0) 7 = 0 := by rw [va_up_self]
  have hRk : RepM ca ad (va_up n 7 0) g z zn tb f_1 := ⟨(by rw [qn_7, qn_0, qn_1, qn_2, qn_3, qn_4, qn_5]; exact c_302),
        c_303,
        c_304,
        c_305,
        c_306,
        c_307,
        c_308,
        c_309,
        c_310,
        c_311,
        c_312,
        c_313,
        c_314,
        c_315,
        c_316,
        c_317,
        c_318,
        c_319,
        c_320,
        c_321,
        c_322,
        c_323,
        c_324,
        c_325, hzn⟩
  have hfr : ∀ y, (y < 302 ∨ 326 ≤ y) → f_1 y = f y := (fun y hy => by rw [ef_1, va_up_ne _ _ (by omega)])
  refine x_Vi (q := 302) (As := [.int (nI i)]) (rest := []) ⟨hx, hb, hml, hown, hts⟩ (k_X6_isFile_yes l D ca N ad B tR tK f_1 dd hN (va_up n 7 0) g z zn tb hRk i (by omega) (by omega)) (cwV 1 hts gX6_schedule_X6_isFile rfl rfl rfl (by decide +kernel) ⟨Nat.le_of_ble_eq_true rfl, Nat.le_of_ble_eq_true rfl⟩) hK hE hB hw (by omega) c_302 rfl rfl rfl rfl hl.1 (Nat.le_of_ble_eq_true rfl) ⟨Nat.zero_le _, Nat.zero_le _⟩ dX6_schedule_7 (fun r_3 f_2 H locs hp hw => ?_)
  obtain ⟨er, hp⟩ := hp
  rw [← er]
  rw [← hp] at hw
  refine lv_if_ne (tgt := 15) hx hb dX6_schedule_10 (by decide) (fun _ => ?_) (fun h => absurd h (by decide))
  refine lv_iload_n hx hb dX6_schedule_15 rfl (lv_at hl 2 rfl) ?_
  refine x_Si (As := [.int (nI j)]) (rest := []) ⟨hx, hb, hml, hown, hts⟩ (k_X6_isDay_yes l D ca N ad B tR tK f_1 dd j   (by omega)) (va_cwS 1 hts gX6_schedule_X6_isDay rfl rfl rfl (by decide +kernel) ⟨Nat.le_of_ble_eq_true rfl, Nat.le_of_ble_eq_true rfl⟩) hK hE hB hw rfl rfl hl.1 (Nat.le_of_ble_eq_true rfl) ⟨Nat.zero_le _, Nat.zero_le _⟩ dX6_schedule_16 (fun r_5 f_4 H locs hp hw => ?_)
  obtain ⟨er, eu⟩ := hp
  rw [← er]
  rw [← eu] at hw
  refine lv_if_eq (tgt := 33) hx hb dX6_schedule_19 (by decide) (fun h => absurd h (by decide)) (fun _ => ?_)
  refine lv_iload_n hx hb dX6_schedule_22 rfl (lv_at hl 3 rfl) ?_
  refine lv_iconst (v := nI 1) hx hb dX6_schedule_23 (by decide) ?_
  refine lv_sipush (v := nI 1000) hx hb dX6_schedule_24 (by decide) ?_
  refine x_Si (As := [.int (nI k), .int (nI 1), .int (nI 1000)]) (rest := []) ⟨hx, hb, hml, hown, hts⟩ (k_X6_in_yes l D ca N ad B tR tK f_1 dd k 1 1000   (by omega) (by omega) (by omega)) (va_cwS 3 hts gX6_schedule_X6_in rfl rfl rfl (by decide +kernel) ⟨Nat.le_of_ble_eq_true rfl, Nat.le_of_ble_eq_true rfl⟩) hK hE hB hw rfl rfl hl.1 (Nat.le_of_ble_eq_true rfl) ⟨Nat.zero_le _, Nat.zero_le _⟩ dX6_schedule_27 (fun r_7 f_6 H locs hp hw => ?_)
  obtain ⟨er, eu⟩ := hp
  rw [← er]
  rw [← eu] at hw
  refine lv_if_ne (tgt := 36) hx hb dX6_schedule_30 (by decide) (fun _ => ?_) (fun h => absurd h (by decide))
  refine lv_aload_n hx hb dX6_schedule_36 rfl (lv_at hl 0 rfl) ?_
  refine x_get (ci := 7) (C := RX6) (T := TX6) (n := 32) (ref := RX6) hx hb hts hin_7 hown hK hw 302 (by omega) c_302 rfl 11 (by decide) hf_32 (fun _ h => h) rfl dX6_schedule_37 ?_
  refine lv_iload_n hx hb dX6_schedule_40 rfl (lv_at hl 1 rfl) ?_
  refine lv_iload_n hx hb dX6_schedule_41 rfl (lv_at hl 2 rfl) ?_
  refine x_iast (j := i) hx hb hK dd hw 310 0 (by omega) c_310 rfl rfl (by omega) (by decide) dX6_schedule_42 (fun H locs hw => ?_)
  obtain ⟨f_8, ef_8⟩ : ∃ z, z = va_up f_1 310 (ai (ca 0) 20 (upd (g 7) i (nI j))) := ⟨_, rfl⟩
  have hw : xw D vwCl N ad B s.heap f_8 H locs := by rw [ef_8]; exact hw
  have c_310 : f_8 310 = ai (ca 0) 20 (upd (g 7) i (nI j)) := va_up_of ef_8
  refine lv_aload_n hx hb dX6_schedule_43 rfl (lv_at hl 0 rfl) ?_
  have c_302 : f_8 302 = .inr (7, mO ad 0 (n 0) (n 1) (n 2) (g 13 0) (n 3) (n 4) (n 5) zn) := by rw [ef_8, va_up_ne _ _ (by decide)]; exact c_302
  refine x_get (ci := 7) (C := RX6) (T := TX6) (n := 32) (ref := RX6) hx hb hts hin_7 hown hK hw 302 (by omega) c_302 rfl 12 (by decide) hf_35 (fun _ h => h) rfl dX6_schedule_44 ?_
  refine lv_iload_n hx hb dX6_schedule_47 rfl (lv_at hl 1 rfl) ?_
  refine lv_iload_n hx hb dX6_schedule_48 rfl (lv_at hl 3 rfl) ?_
  have c_311 : f_8 311 = ai (ca 0) 20 (g 8) := by rw [ef_8, va_up_ne _ _ (by decide)]; exact c_311
  refine x_iast (j := i) hx hb hK dd hw 311 0 (by omega) c_311 rfl rfl (by omega) (by decide) dX6_schedule_49 (fun H locs hw => ?_)
  obtain ⟨f_9, ef_9⟩ : ∃ z, z = va_up f_8 311 (ai (ca 0) 20 (upd (g 8) i (nI k))) := ⟨_, rfl⟩
  have hw : xw D vwCl N ad B s.heap f_9 H locs := by rw [ef_9]; exact hw
  have c_311 : f_9 311 = ai (ca 0) 20 (upd (g 8) i (nI k)) := va_up_of ef_9
  refine lv_iconst (v := nI 1) hx hb dX6_schedule_50 (by decide) ?_
  have c_302 : f_9 302 = .inr (7, mO ad 0 (n 0) (n 1) (n 2) (g 13 0) (n 3) (n 4) (n 5) zn) := by rw [ef_9, va_up_ne _ _ (by decide)]; exact c_302
  have c_303 : f_9 303 = ai (ca 1) 200 (g 0) := by rw [ef_9, va_up_ne _ _ (by decide), ef_8, va_up_ne _ _ (by decide)]; exact c_303
  have c_304 : f_9 304 = ai (ca 1) 4000 (g 1) := by rw [ef_9, va_up_ne _ _ (by decide), ef_8, va_up_ne _ _ (by decide)]; exact c_304
  have c_305 : f_9 305 = ai (ca 0) 20 (g 2) := by rw [ef_9, va_up_ne _ _ (by decide), ef_8, va_up_ne _ _ (by decide)]; exact c_305
  have c_306 : f_9 306 = ai (ca 0) 20 (g 3) := by rw [ef_9, va_up_ne _ _ (by decide), ef_8, va_up_ne _ _ (by decide)]; exact c_306
  have c_307 : f_9 307 = ai (ca 1) 720 (g 4) := by rw [ef_9, va_up_ne _ _ (by decide), ef_8, va_up_ne _ _ (by decide)]; exact c_307
  have c_308 : f_9 308 = ai (ca 0) 20 (g 5) := by rw [ef_9, va_up_ne _ _ (by decide), ef_8, va_up_ne _ _ (by decide)]; exact c_308
  have c_309 : f_9 309 = ai (ca 0) 20 (g 6) := by rw [ef_9, va_up_ne _ _ (by decide), ef_8, va_up_ne _ _ (by decide)]; exact c_309
  have c_310 : f_9 310 = ai (ca 0) 20 (upd (g 7) i (nI j)) := by rw [ef_9, va_up_ne _ _ (by decide)]; exact c_310
  have c_312 : f_9 312 = ai (ca 0) 20 (g 9) := by rw [ef_9, va_up_ne _ _ (by decide), ef_8, va_up_ne _ _ (by decide)]; exact c_312
  have c_313 : f_9 313 = ai (ca 2) 20 (g 10) := by rw [ef_9, va_up_ne _ _ (by decide), ef_8, va_up_ne _ _ (by decide)]; exact c_313
  have c_314 : f_9 314 = ai (ca 0) 200 (g 11) := by rw [ef_9, va_up_ne _ _ (by decide), ef_8, va_up_ne _ _ (by decide)]; exact c_314
  have c_315 : f_9 315 = ai (ca 0) 200 (g 12) := by rw [ef_9, va_up_ne _ _ (by decide), ef_8, va_up_ne _ _ (by decide)]; exact c_315
  have c_316 : f_9 316 = ai (ca 0) 200 (g 14) := by rw [ef_9, va_up_ne _ _ (by decide), ef_8, va_up_ne _ _ (by decide)]; exact c_316
  have c_317 : f_9 317 = ai (ca 1) 6400 (g 15) := by rw [ef_9, va_up_ne _ _ (by decide), ef_8, va_up_ne _ _ (by decide)]; exact c_317
  have c_318 : f_9 318 = ai (ca 1) 32 (g 16) := by rw [ef_9, va_up_ne _ _ (by decide), ef_8, va_up_ne _ _ (by decide)]; exact c_318
  have c_319 : f_9 319 = ai (ca 1) 320 (z 0) := by rw [ef_9, va_up_ne _ _ (by decide), ef_8, va_up_ne _ _ (by decide)]; exact c_319
  have c_320 : f_9 320 = ai (ca 1) 36 (z 1) := by rw [ef_9, va_up_ne _ _ (by decide), ef_8, va_up_ne _ _ (by decide)]; exact c_320
  have c_321 : f_9 321 = ai (ca 0) 64 (z 2) := by rw [ef_9, va_up_ne _ _ (by decide), ef_8, va_up_ne _ _ (by decide)]; exact c_321
  have c_322 : f_9 322 = ai (ca 0) 8 (z 3) := by rw [ef_9, va_up_ne _ _ (by decide), ef_8, va_up_ne _ _ (by decide)]; exact c_322
  have c_323 : f_9 323 = ai (ca 0) 8 (z 4) := by rw [ef_9, va_up_ne _ _ (by decide), ef_8, va_up_ne _ _ (by decide)]; exact c_323
  have c_324 : f_9 324 = ai (ca 0) 8 shR := by rw [ef_9, va_up_ne _ _ (by decide), ef_8, va_up_ne _ _ (by decide)]; exact c_324
  have c_325 : f_9 325 = ai (ca 0) 64 shK := by rw [ef_9, va_up_ne _ _ (by decide), ef_8, va_up_ne _ _ (by decide)]; exact c_325
  have qn_0 : (va_up n 7 0) 0 = n 0 := by rw [va_up_ne _ _ (by decide)]
  have qn_1 : (va_up n 7 0) 1 = n 1 := by rw [va_up_ne _ _ (by decide)]
  have qn_2 : (va_up n 7 0) 2 = n 2 := by rw [va_up_ne _ _ (by decide)]
  have qn_3 : (va_up n 7 0) 3 = n 3 := by rw [va_up_ne _ _ (by decide)]
  have qn_4 : (va_up n 7 0) 4 = n 4 := by rw [va_up_ne _ _ (by decide)]
  have qn_5 : (va_up n 7 0) 5 = n 5 := by rw [va_up_ne _ _ (by decide)]
  have qn_6 : (va_up n 7 0) 6 = n 6 := by rw [va_up_ne _ _ (by decide)]
  have qn_7 : (va_up n 7 0) 7 = 0 := by rw [va_up_self]
  have qg_0 : (va_up (va_up g 7 (upd (g 7) i (nI j))) 8 (upd (g 8) i (nI k))) 0 = g 0 := by rw [va_up_ne _ _ (by decide), va_up_ne _ _ (by decide)]
  have qg_1 : (va_up (va_up g 7 (upd (g 7) i (nI j))) 8 (upd (g 8) i (nI k))) 1 = g 1 := by rw [va_up_ne _ _ (by decide), va_up_ne _ _ (by decide)]
  have qg_2 : (va_up (va_up g 7 (upd (g 7) i (nI j))) 8 (upd (g 8) i (nI k))) 2 = g 2 := by rw [va_up_ne _ _ (by decide), va_up_ne _ _ (by decide)]
  have qg_3 : (va_up (va_up g 7 (upd (g 7) i (nI j))) 8 (upd (g 8) i (nI k))) 3 = g 3 := by rw [va_up_ne _ _ (by decide), va_up_ne _ _ (by decide)]
  have qg_4 : (va_up (va_up g 7 (upd (g 7) i (nI j))) 8 (upd (g 8) i (nI k))) 4 = g 4 := by rw [va_up_ne _ _ (by decide), va_up_ne _ _ (by decide)]
  have qg_5 : (va_up (va_up g 7 (upd (g 7) i (nI j))) 8 (upd (g 8) i (nI k))) 5 = g 5 := by rw [va_up_ne _ _ (by decide), va_up_ne _ _ (by decide)]
  have qg_6 : (va_up (va_up g 7 (upd (g 7) i (nI j))) 8 (upd (g 8) i (nI k))) 6 = g 6 := by rw [va_up_ne _ _ (by decide), va_up_ne _ _ (by decide)]
  have qg_7 : (va_up (va_up g 7 (upd (g 7) i (nI j))) 8 (upd (g 8) i (nI k))) 7 = upd (g 7) i (nI j) := by rw [va_up_ne _ _ (by decide), va_up_self]
  have qg_8 : (va_up (va_up g 7 (upd (g 7) i (nI j))) 8 (upd (g 8) i (nI k))) 8 = upd (g 8) i (nI k) := by rw [va_up_self]
  have qg_9 : (va_up (va_up g 7 (upd (g 7) i (nI j))) 8 (upd (g 8) i (nI k))) 9 = g 9 := by rw [va_up_ne _ _ (by decide), va_up_ne _ _ (by decide)]
  have qg_10 : (va_up (va_up g 7 (upd (g 7) i (nI j))) 8 (upd (g 8) i (nI k))) 10 = g 10 := by rw [va_up_ne _ _ (by decide), va_up_ne _ _ (by decide)]
  have qg_11 : (va_up (va_up g 7 (upd (g 7) i (nI j))) 8 (upd (g 8) i (nI k))) 11 = g 11 := by rw [va_up_ne _ _ (by decide), va_up_ne _ _ (by decide)]
  have qg_12 : (va_up (va_up g 7 (upd (g 7) i (nI j))) 8 (upd (g 8) i (nI k))) 12 = g 12 := by rw [va_up_ne _ _ (by decide), va_up_ne _ _ (by decide)]
  have qg_13 : (va_up (va_up g 7 (upd (g 7) i (nI j))) 8 (upd (g 8) i (nI k))) 13 = g 13 := by rw [va_up_ne _ _ (by decide), va_up_ne _ _ (by decide)]
  have qg_14 : (va_up (va_up g 7 (upd (g 7) i (nI j))) 8 (upd (g 8) i (nI k))) 14 = g 14 := by rw [va_up_ne _ _ (by decide), va_up_ne _ _ (by decide)]
  have qg_15 : (va_up (va_up g 7 (upd (g 7) i (nI j))) 8 (upd (g 8) i (nI k))) 15 = g 15 := by rw [va_up_ne _ _ (by decide), va_up_ne _ _ (by decide)]
  have qg_16 : (va_up (va_up g 7 (upd (g 7) i (nI j))) 8 (upd (g 8) i (nI k))) 16 = g 16 := by rw [va_up_ne _ _ (by decide), va_up_ne _ _ (by decide)]
  have hRz : RepM ca ad (va_up n 7 0) (va_up (va_up g 7 (upd (g 7) i (nI j))) 8 (upd (g 8) i (nI k))) z zn tb f_9 := ⟨(by rw [qn_7, qn_0, qn_1, qn_2, qn_3, qn_4, qn_5, qg_13]; exact c_302),
        (by rw [qg_0]; exact c_303),
        (by rw [qg_1]; exact c_304),
        (by rw [qg_2]; exact c_305),
        (by rw [qg_3]; exact c_306),
        (by rw [qg_4]; exact c_307),
        (by rw [qg_5]; exact c_308),
        (by rw [qg_6]; exact c_309),
        (by rw [qg_7]; exact c_310),
        (by rw [qg_8]; exact c_311),
        (by rw [qg_9]; exact c_312),
        (by rw [qg_10]; exact c_313),
        (by rw [qg_11]; exact c_314),
        (by rw [qg_12]; exact c_315),
        (by rw [qg_14]; exact c_316),
        (by rw [qg_15]; exact c_317),
        (by rw [qg_16]; exact c_318),
        c_319,
        c_320,
        c_321,
        c_322,
        c_323,
        c_324,
        c_325, hzn⟩
  exact x_iret hx hb hr hlocks hw ⟨rfl, z, zn, hRz, (fun y hy => by rw [ef_9, va_up_ne _ _ (by omega), ef_8, va_up_ne _ _ (by omega), ef_1, va_up_ne _ _ (by omega)])⟩ dX6_schedule_51

abbrev rmX6_told : Room := { frames := 1, cells := 0, slots := 0, locals := 22 }

set_option maxHeartbeats 4000000 in
set_option maxRecDepth 100000 in
theorem k_X6_told_none (l : Launch) (D : va_G) (ca : Nat → ClassId) (N : Nat) (ad : Nat → Nat) (B tR tK : Nat) (f : Nat → va_E) (dd : xD N ad B) (hN : 326 ≤ N) (n : Nat → Nat) (g : Nat → Nat → Int32) (z : Nat → Nat → Int32) (zn : Nat) (tb : Nat → Int32) (hR : RepM ca ad n g z zn tb f) (x : Int32) (y : Int32) (h3 : n 3 ≤ 20) (ho : x < 0 ∨ nI (n 3) ≤ x) : xMi l yX6_told wsX6_told rmX6_told [.ref (ad 302), .int x, .int y] D ca N ad B tR tK f (fun r u => (-1) = r ∧ ∃ (z1 : Nat → Nat → Int32) (zn1 : Nat), RepM ca ad (va_up n 7 0) g z1 zn1 tb u ∧ ∀ y, (y < 302 ∨ 326 ≤ y) → u y = f y) := by
  refine x_open (cc := cX6_told) (maxL := 3) (ret := (some .int)) (by decide) rfl (Nat.le_of_ble_eq_true rfl) ?_
  intro p e s m below meth c ls hx hb hml hown hts hr hlocks hnm hB hK hE hw hl
  have hown : s.vm.findClass RX6 = some m.cls := hown
  have hl : lv_has ls 3 [(0, .ref (ad 302)), (1, .int x), (2, .int y)] := hl
  obtain ⟨c_302, c_303, c_304, c_305, c_306, c_307, c_308, c_309, c_310, c_311, c_312, c_313, c_314, c_315, c_316, c_317, c_318, c_319, c_320, c_321, c_322, c_323, c_324, c_325, hzn⟩ := hR
  have hin_7 : ∀ w ∈ u_ws RX6 TX6 32, w ∈ wsX6_told := by decide +kernel
  have hf_160 := hts (.fieldLink RX6 160 "FixityRowsModel" "thrown" "I") (by decide +kernel)
  have hf_238 := hts (.fieldLink RX6 238 "FixityRowsModel" "told" "I") (by decide +kernel)
  have b_302 := c_302
  have b_303 := c_303
  have b_304 := c_304
  have b_305 := c_305
  have b_306 := c_306
  have b_307 := c_307
  have b_308 := c_308
  have b_309 := c_309
  have b_310 := c_310
  have b_311 := c_311
  have b_312 := c_312
  have b_313 := c_313
  have b_314 := c_314
  have b_315 := c_315
  have b_316 := c_316
  have b_317 := c_317
  have b_318 := c_318
  have b_319 := c_319
  have b_320 := c_320
  have b_321 := c_321
  have b_322 := c_322
  have b_323 := c_323
  have b_324 := c_324
  have b_325 := c_325
  refine lv_aload_n hx hb dX6_told_0 rfl (lv_at hl 0 rfl) ?_
  refine lv_iconst (v := nI 0) hx hb dX6_told_1 (by decide) ?_
  refine x_put (ci := 7) (C := RX6) (T := TX6) (n := 32) (ref := RX6) (fs' := mO ad 0 (n 0) (n 1) (n 2) (g 13 0) (n 3) (n 4) (n 5) zn) hx hb hts hin_7 tyX6 tyX6_ok nmX6 hown hK dd hw 302 (by omega) c_302 rfl 0 (by decide) hf_160 (fun _ h => h) rfl rfl rfl (Nat.le_of_ble_eq_true rfl) rfl dX6_told_2 (fun H locs hw => ?_)
  obtain ⟨f_1, ef_1⟩ : ∃ z, z = va_up f 302 (.inr (7, mO ad 0 (n 0) (n 1) (n 2) (g 13 0) (n 3) (n 4) (n 5) zn)) := ⟨_, rfl⟩
  have hw : xw D vwCl N ad B s.heap f_1 H locs := by rw [ef_1]; exact hw
  have c_302 : f_1 302 = .inr (7, mO ad 0 (n 0) (n 1) (n 2) (g 13 0) (n 3) (n 4) (n 5) zn) := va_up_of ef_1
  refine lv_iload_n hx hb dX6_told_5 rfl (lv_at hl 1 rfl) ?_
  refine lv_iconst (v := nI 0) hx hb dX6_told_6 (by decide) ?_
  refine lv_aload_n hx hb dX6_told_7 rfl (lv_at hl 0 rfl) ?_
  refine x_get (ci := 7) (C := RX6) (T := TX6) (n := 32) (ref := RX6) hx hb hts hin_7 hown hK hw 302 (by omega) c_302 rfl 14 (by decide) hf_238 (fun _ h => h) rfl dX6_told_8 ?_
  refine lv_iconst (v := nI 1) hx hb dX6_told_11 (by decide) ?_
  refine lv_isub hx hb dX6_told_12 ?_
  refine lv_topi (fun x_2 ex_2 => ?_)
  refine x_Si (As := [.int x, .int (nI 0), .int x_2]) (rest := []) ⟨hx, hb, hml, hown, hts⟩ (k_X6_in_no l D ca N ad B tR tK f_1 dd x (nI 0) x_2   (by rw [ex_2]; exact out_of (by omega) ho)) (va_cwS 3 hts gX6_told_X6_in rfl rfl rfl (by decide +kernel) ⟨Nat.le_of_ble_eq_true rfl, Nat.le_of_ble_eq_true rfl⟩) hK hE hB hw rfl rfl hl.1 (Nat.le_of_ble_eq_true rfl) ⟨Nat.zero_le _, Nat.zero_le _⟩ dX6_told_13 (fun r_4 f_3 H locs hp hw => ?_)
  obtain ⟨er, eu⟩ := hp
  rw [← er]
  rw [← eu] at hw
  refine lv_if_eq (tgt := 28) hx hb dX6_told_16 (by decide) (fun _ => ?_) (fun h => False.elim (h (by decide)))
  refine lv_iconst (v := (-1)) hx hb dX6_told_28 (by decide) ?_
  refine lv_goto (tgt := 59) hx hb dX6_told_29 (by decide) ?_
  have c_303 : f_1 303 = ai (ca 1) 200 (g 0) := by rw [ef_1, va_up_ne _ _ (by decide)]; exact c_303
  have c_304 : f_1 304 = ai (ca 1) 4000 (g 1) := by rw [ef_1, va_up_ne _ _ (by decide)]; exact c_304
  have c_305 : f_1 305 = ai (ca 0) 20 (g 2) := by rw [ef_1, va_up_ne _ _ (by decide)]; exact c_305
  have c_306 : f_1 306 = ai (ca 0) 20 (g 3) := by rw [ef_1, va_up_ne _ _ (by decide)]; exact c_306
  have c_307 : f_1 307 = ai (ca 1) 720 (g 4) := by rw [ef_1, va_up_ne _ _ (by decide)]; exact c_307
  have c_308 : f_1 308 = ai (ca 0) 20 (g 5) := by rw [ef_1, va_up_ne _ _ (by decide)]; exact c_308
  have c_309 : f_1 309 = ai (ca 0) 20 (g 6) := by rw [ef_1, va_up_ne _ _ (by decide)]; exact c_309
  have c_310 : f_1 310 = ai (ca 0) 20 (g 7) := by rw [ef_1, va_up_ne _ _ (by decide)]; exact c_310
  have c_311 : f_1 311 = ai (ca 0) 20 (g 8) := by rw [ef_1, va_up_ne _ _ (by decide)]; exact c_311
  have c_312 : f_1 312 = ai (ca 0) 20 (g 9) := by rw [ef_1, va_up_ne _ _ (by decide)]; exact c_312
  have c_313 : f_1 313 = ai (ca 2) 20 (g 10) := by rw [ef_1, va_up_ne _ _ (by decide)]; exact c_313
  have c_314 : f_1 314 = ai (ca 0) 200 (g 11) := by rw [ef_1, va_up_ne _ _ (by decide)]; exact c_314
  have c_315 : f_1 315 = ai (ca 0) 200 (g 12) := by rw [ef_1, va_up_ne _ _ (by decide)]; exact c_315
  have c_316 : f_1 316 = ai (ca 0) 200 (g 14) := by rw [ef_1, va_up_ne _ _ (by decide)]; exact c_316
  have c_317 : f_1 317 = ai (ca 1) 6400 (g 15) := by rw [ef_1, va_up_ne _ _ (by decide)]; exact c_317
  have c_318 : f_1 318 = ai (ca 1) 32 (g 16) := by rw [ef_1, va_up_ne _ _ (by decide)]; exact c_318
  have c_319 : f_1 319 = ai (ca 1) 320 (z 0) := by rw [ef_1, va_up_ne _ _ (by decide)]; exact c_319
  have c_320 : f_1 320 = ai (ca 1) 36 (z 1) := by rw [ef_1, va_up_ne _ _ (by decide)]; exact c_320
  have c_321 : f_1 321 = ai (ca 0) 64 (z 2) := by rw [ef_1, va_up_ne _ _ (by decide)]; exact c_321
  have c_322 : f_1 322 = ai (ca 0) 8 (z 3) := by rw [ef_1, va_up_ne _ _ (by decide)]; exact c_322
  have c_323 : f_1 323 = ai (ca 0) 8 (z 4) := by rw [ef_1, va_up_ne _ _ (by decide)]; exact c_323
  have c_324 : f_1 324 = ai (ca 0) 8 shR := by rw [ef_1, va_up_ne _ _ (by decide)]; exact c_324
  have c_325 : f_1 325 = ai (ca 0) 64 shK := by rw [ef_1, va_up_ne _ _ (by decide)]; exact c_325
  have qn_0 : (va_up n 7 0) 0 = n 0 := by rw [va_up_ne _ _ (by decide)]
  have qn_1 : (va_up n 7 0) 1 = n 1 := by rw [va_up_ne _ _ (by decide)]
  have qn_2 : (va_up n 7 0) 2 = n 2 := by rw [va_up_ne _ _ (by decide)]
  have qn_3 : (va_up n 7 0) 3 = n 3 := by rw [va_up_ne _ _ (by decide)]
  have qn_4 : (va_up n 7 0) 4 = n 4 := by rw [va_up_ne _ _ (by decide)]
  have qn_5 : (va_up n 7 0) 5 = n 5 := by rw [va_up_ne _ _ (by decide)]
  have qn_6 : (va_up n 7 0) 6 = n 6 := by rw [va_up_ne _ _ (by decide)]
  have qn_7 : (va_up n 7 0) 7 = 0 := by rw [va_up_self]
  have hRz : RepM ca ad (va_up n 7 0) g z zn tb f_1 := ⟨(by rw [qn_7, qn_0, qn_1, qn_2, qn_3, qn_4, qn_5]; exact c_302),
        c_303,
        c_304,
        c_305,
        c_306,
        c_307,
        c_308,
        c_309,
        c_310,
        c_311,
        c_312,
        c_313,
        c_314,
        c_315,
        c_316,
        c_317,
        c_318,
        c_319,
        c_320,
        c_321,
        c_322,
        c_323,
        c_324,
        c_325, hzn⟩
  exact x_iret hx hb hr hlocks hw ⟨rfl, z, zn, hRz, (fun y hy => by rw [ef_1, va_up_ne _ _ (by omega)])⟩ dX6_told_59

set_option maxHeartbeats 4000000 in
set_option maxRecDepth 100000 in
theorem k_X6_told_w0 (l : Launch) (D : va_G) (ca : Nat → ClassId) (N : Nat) (ad : Nat → Nat) (B tR tK : Nat) (f : Nat → va_E) (dd : xD N ad B) (hN : 326 ≤ N) (n : Nat → Nat) (g : Nat → Nat → Int32) (z : Nat → Nat → Int32) (zn : Nat) (tb : Nat → Int32) (hR : RepM ca ad n g z zn tb f) (i : Nat) (h3 : n 3 ≤ 20) (hi : i < n 3) : xMi l yX6_told wsX6_told rmX6_told [.ref (ad 302), .int (nI i), .int (nI 0)] D ca N ad B tR tK f (fun r u => g 9 i = r ∧ ∃ (z1 : Nat → Nat → Int32) (zn1 : Nat), RepM ca ad (va_up n 7 0) g z1 zn1 tb u ∧ ∀ y, (y < 302 ∨ 326 ≤ y) → u y = f y) := by
  refine x_open (cc := cX6_told) (maxL := 3) (ret := (some .int)) (by decide) rfl (Nat.le_of_ble_eq_true rfl) ?_
  intro p e s m below meth c ls hx hb hml hown hts hr hlocks hnm hB hK hE hw hl
  have hown : s.vm.findClass RX6 = some m.cls := hown
  have hl : lv_has ls 3 [(0, .ref (ad 302)), (1, .int (nI i)), (2, .int (nI 0))] := hl
  obtain ⟨c_302, c_303, c_304, c_305, c_306, c_307, c_308, c_309, c_310, c_311, c_312, c_313, c_314, c_315, c_316, c_317, c_318, c_319, c_320, c_321, c_322, c_323, c_324, c_325, hzn⟩ := hR
  have hin_7 : ∀ w ∈ u_ws RX6 TX6 32, w ∈ wsX6_told := by decide +kernel
  have hf_160 := hts (.fieldLink RX6 160 "FixityRowsModel" "thrown" "I") (by decide +kernel)
  have hf_238 := hts (.fieldLink RX6 238 "FixityRowsModel" "told" "I") (by decide +kernel)
  have hf_42 := hts (.fieldLink RX6 42 "FixityRowsModel" "toldFile" "[I") (by decide +kernel)
  have b_302 := c_302
  have b_303 := c_303
  have b_304 := c_304
  have b_305 := c_305
  have b_306 := c_306
  have b_307 := c_307
  have b_308 := c_308
  have b_309 := c_309
  have b_310 := c_310
  have b_311 := c_311
  have b_312 := c_312
  have b_313 := c_313
  have b_314 := c_314
  have b_315 := c_315
  have b_316 := c_316
  have b_317 := c_317
  have b_318 := c_318
  have b_319 := c_319
  have b_320 := c_320
  have b_321 := c_321
  have b_322 := c_322
  have b_323 := c_323
  have b_324 := c_324
  have b_325 := c_325
  refine lv_aload_n hx hb dX6_told_0 rfl (lv_at hl 0 rfl) ?_
  refine lv_iconst (v := nI 0) hx hb dX6_told_1 (by decide) ?_
  refine x_put (ci := 7) (C := RX6) (T := TX6) (n := 32) (ref := RX6) (fs' := mO ad 0 (n 0) (n 1) (n 2) (g 13 0) (n 3) (n 4) (n 5) zn) hx hb hts hin_7 tyX6 tyX6_ok nmX6 hown hK dd hw 302 (by omega) c_302 rfl 0 (by decide) hf_160 (fun _ h => h) rfl rfl rfl (Nat.le_of_ble_eq_true rfl) rfl dX6_told_2 (fun H locs hw => ?_)
  obtain ⟨f_1, ef_1⟩ : ∃ z, z = va_up f 302 (.inr (7, mO ad 0 (n 0) (n 1) (n 2) (g 13 0) (n 3) (n 4) (n 5) zn)) := ⟨_, rfl⟩
  have hw : xw D vwCl N ad B s.heap f_1 H locs := by rw [ef_1]; exact hw
  have c_302 : f_1 302 = .inr (7, mO ad 0 (n 0) (n 1) (n 2) (g 13 0) (n 3) (n 4) (n 5) zn) := va_up_of ef_1
  refine lv_iload_n hx hb dX6_told_5 rfl (lv_at hl 1 rfl) ?_
  refine lv_iconst (v := nI 0) hx hb dX6_told_6 (by decide) ?_
  refine lv_aload_n hx hb dX6_told_7 rfl (lv_at hl 0 rfl) ?_
  refine x_get (ci := 7) (C := RX6) (T := TX6) (n := 32) (ref := RX6) hx hb hts hin_7 hown hK hw 302 (by omega) c_302 rfl 14 (by decide) hf_238 (fun _ h => h) rfl dX6_told_8 ?_
  refine lv_iconst (v := nI 1) hx hb dX6_told_11 (by decide) ?_
  refine n_isub hx hb dX6_told_12 (by omega) ?_
  refine x_Si (As := [.int (nI i), .int (nI 0), .int (nI ((n 3) - 1))]) (rest := []) ⟨hx, hb, hml, hown, hts⟩ (k_X6_in_yes l D ca N ad B tR tK f_1 dd i 0 ((n 3) - 1)   (by omega) (by omega) (by omega)) (va_cwS 3 hts gX6_told_X6_in rfl rfl rfl (by decide +kernel) ⟨Nat.le_of_ble_eq_true rfl, Nat.le_of_ble_eq_true rfl⟩) hK hE hB hw rfl rfl hl.1 (Nat.le_of_ble_eq_true rfl) ⟨Nat.zero_le _, Nat.zero_le _⟩ dX6_told_13 (fun r_3 f_2 H locs hp hw => ?_)
  obtain ⟨er, eu⟩ := hp
  rw [← er]
  rw [← eu] at hw
  refine lv_if_eq (tgt := 28) hx hb dX6_told_16 (by decide) (fun h => absurd h (by decide)) (fun _ => ?_)
  refine lv_iload_n hx hb dX6_told_19 rfl (lv_at hl 2 rfl) ?_
  refine lv_iconst (v := nI 0) hx hb dX6_told_20 (by decide) ?_
  refine lv_iconst (v := nI 1) hx hb dX6_told_21 (by decide) ?_
  refine x_Si (As := [.int (nI 0), .int (nI 0), .int (nI 1)]) (rest := []) ⟨hx, hb, hml, hown, hts⟩ (k_X6_in_yes l D ca N ad B tR tK f_1 dd 0 0 1   (by omega) (by omega) (by omega)) (va_cwS 3 hts gX6_told_X6_in rfl rfl rfl (by decide +kernel) ⟨Nat.le_of_ble_eq_true rfl, Nat.le_of_ble_eq_true rfl⟩) hK hE hB hw rfl rfl hl.1 (Nat.le_of_ble_eq_true rfl) ⟨Nat.zero_le _, Nat.zero_le _⟩ dX6_told_22 (fun r_5 f_4 H locs hp hw => ?_)
  obtain ⟨er, eu⟩ := hp
  rw [← er]
  rw [← eu] at hw
  refine lv_if_ne (tgt := 32) hx hb dX6_told_25 (by decide) (fun _ => ?_) (fun h => absurd h (by decide))
  refine lv_iload_n hx hb dX6_told_32 rfl (lv_at hl 2 rfl) ?_
  refine lv_if_ne (tgt := 45) hx hb dX6_told_33 (by decide) (fun h => False.elim (h (by decide))) (fun _ => ?_)
  refine lv_aload_n hx hb dX6_told_36 rfl (lv_at hl 0 rfl) ?_
  refine x_get (ci := 7) (C := RX6) (T := TX6) (n := 32) (ref := RX6) hx hb hts hin_7 hown hK hw 302 (by omega) c_302 rfl 15 (by decide) hf_42 (fun _ h => h) rfl dX6_told_37 ?_
  refine lv_iload_n hx hb dX6_told_40 rfl (lv_at hl 1 rfl) ?_
  have c_312 : f_1 312 = ai (ca 0) 20 (g 9) := by rw [ef_1, va_up_ne _ _ (by decide)]; exact c_312
  refine x_iald (j := i) hx hb hK hw 312 0 (by omega) c_312 rfl rfl (by omega) (by decide) dX6_told_41 ?_
  refine lv_goto (tgt := 59) hx hb dX6_told_42 (by decide) ?_
  have c_303 : f_1 303 = ai (ca 1) 200 (g 0) := by rw [ef_1, va_up_ne _ _ (by decide)]; exact c_303
  have c_304 : f_1 304 = ai (ca 1) 4000 (g 1) := by rw [ef_1, va_up_ne _ _ (by decide)]; exact c_304
  have c_305 : f_1 305 = ai (ca 0) 20 (g 2) := by rw [ef_1, va_up_ne _ _ (by decide)]; exact c_305
  have c_306 : f_1 306 = ai (ca 0) 20 (g 3) := by rw [ef_1, va_up_ne _ _ (by decide)]; exact c_306
  have c_307 : f_1 307 = ai (ca 1) 720 (g 4) := by rw [ef_1, va_up_ne _ _ (by decide)]; exact c_307
  have c_308 : f_1 308 = ai (ca 0) 20 (g 5) := by rw [ef_1, va_up_ne _ _ (by decide)]; exact c_308
  have c_309 : f_1 309 = ai (ca 0) 20 (g 6) := by rw [ef_1, va_up_ne _ _ (by decide)]; exact c_309
  have c_310 : f_1 310 = ai (ca 0) 20 (g 7) := by rw [ef_1, va_up_ne _ _ (by decide)]; exact c_310
  have c_311 : f_1 311 = ai (ca 0) 20 (g 8) := by rw [ef_1, va_up_ne _ _ (by decide)]; exact c_311
  have c_313 : f_1 313 = ai (ca 2) 20 (g 10) := by rw [ef_1, va_up_ne _ _ (by decide)]; exact c_313
  have c_314 : f_1 314 = ai (ca 0) 200 (g 11) := by rw [ef_1, va_up_ne _ _ (by decide)]; exact c_314
  have c_315 : f_1 315 = ai (ca 0) 200 (g 12) := by rw [ef_1, va_up_ne _ _ (by decide)]; exact c_315
  have c_316 : f_1 316 = ai (ca 0) 200 (g 14) := by rw [ef_1, va_up_ne _ _ (by decide)]; exact c_316
  have c_317 : f_1 317 = ai (ca 1) 6400 (g 15) := by rw [ef_1, va_up_ne _ _ (by decide)]; exact c_317
  have c_318 : f_1 318 = ai (ca 1) 32 (g 16) := by rw [ef_1, va_up_ne _ _ (by decide)]; exact c_318
  have c_319 : f_1 319 = ai (ca 1) 320 (z 0) := by rw [ef_1, va_up_ne _ _ (by decide)]; exact c_319
  have c_320 : f_1 320 = ai (ca 1) 36 (z 1) := by rw [ef_1, va_up_ne _ _ (by decide)]; exact c_320
  have c_321 : f_1 321 = ai (ca 0) 64 (z 2) := by rw [ef_1, va_up_ne _ _ (by decide)]; exact c_321
  have c_322 : f_1 322 = ai (ca 0) 8 (z 3) := by rw [ef_1, va_up_ne _ _ (by decide)]; exact c_322
  have c_323 : f_1 323 = ai (ca 0) 8 (z 4) := by rw [ef_1, va_up_ne _ _ (by decide)]; exact c_323
  have c_324 : f_1 324 = ai (ca 0) 8 shR := by rw [ef_1, va_up_ne _ _ (by decide)]; exact c_324
  have c_325 : f_1 325 = ai (ca 0) 64 shK := by rw [ef_1, va_up_ne _ _ (by decide)]; exact c_325
  have qn_0 : (va_up n 7 0) 0 = n 0 := by rw [va_up_ne _ _ (by decide)]
  have qn_1 : (va_up n 7 0) 1 = n 1 := by rw [va_up_ne _ _ (by decide)]
  have qn_2 : (va_up n 7 0) 2 = n 2 := by rw [va_up_ne _ _ (by decide)]
  have qn_3 : (va_up n 7 0) 3 = n 3 := by rw [va_up_ne _ _ (by decide)]
  have qn_4 : (va_up n 7 0) 4 = n 4 := by rw [va_up_ne _ _ (by decide)]
  have qn_5 : (va_up n 7 0) 5 = n 5 := by rw [va_up_ne _ _ (by decide)]
  have qn_6 : (va_up n 7 0) 6 = n 6 := by rw [va_up_ne _ _ (by decide)]
  have qn_7 : (va_up n 7 0) 7 = 0 := by rw [va_up_self]
  have hRz : RepM ca ad (va_up n 7 0) g z zn tb f_1 := ⟨(by rw [qn_7, qn_0, qn_1, qn_2, qn_3, qn_4, qn_5]; exact c_302),
        c_303,
        c_304,
        c_305,
        c_306,
        c_307,
        c_308,
        c_309,
        c_310,
        c_311,
        c_312,
        c_313,
        c_314,
        c_315,
        c_316,
        c_317,
        c_318,
        c_319,
        c_320,
        c_321,
        c_322,
        c_323,
        c_324,
        c_325, hzn⟩
  exact x_iret hx hb hr hlocks hw ⟨rfl, z, zn, hRz, (fun y hy => by rw [ef_1, va_up_ne _ _ (by omega)])⟩ dX6_told_59

set_option maxHeartbeats 4000000 in
set_option maxRecDepth 100000 in
theorem k_X6_told_w1 (l : Launch) (D : va_G) (ca : Nat → ClassId) (N : Nat) (ad : Nat → Nat) (B tR tK : Nat) (f : Nat → va_E) (dd : xD N ad B) (hN : 326 ≤ N) (n : Nat → Nat) (g : Nat → Nat → Int32) (z : Nat → Nat → Int32) (zn : Nat) (tb : Nat → Int32) (hR : RepM ca ad n g z zn tb f) (i : Nat) (h3 : n 3 ≤ 20) (hi : i < n 3) (hz9 : g 10 i = 0 ∨ g 10 i = 1) : xMi l yX6_told wsX6_told rmX6_told [.ref (ad 302), .int (nI i), .int (nI 1)] D ca N ad B tR tK f (fun r u => g 10 i = r ∧ ∃ (z1 : Nat → Nat → Int32) (zn1 : Nat), RepM ca ad (va_up n 7 0) g z1 zn1 tb u ∧ ∀ y, (y < 302 ∨ 326 ≤ y) → u y = f y) := by
  refine x_open (cc := cX6_told) (maxL := 3) (ret := (some .int)) (by decide) rfl (Nat.le_of_ble_eq_true rfl) ?_
  intro p e s m below meth c ls hx hb hml hown hts hr hlocks hnm hB hK hE hw hl
  have hown : s.vm.findClass RX6 = some m.cls := hown
  have hl : lv_has ls 3 [(0, .ref (ad 302)), (1, .int (nI i)), (2, .int (nI 1))] := hl
  obtain ⟨c_302, c_303, c_304, c_305, c_306, c_307, c_308, c_309, c_310, c_311, c_312, c_313, c_314, c_315, c_316, c_317, c_318, c_319, c_320, c_321, c_322, c_323, c_324, c_325, hzn⟩ := hR
  have hin_7 : ∀ w ∈ u_ws RX6 TX6 32, w ∈ wsX6_told := by decide +kernel
  have hf_160 := hts (.fieldLink RX6 160 "FixityRowsModel" "thrown" "I") (by decide +kernel)
  have hf_238 := hts (.fieldLink RX6 238 "FixityRowsModel" "told" "I") (by decide +kernel)
  have hf_45 := hts (.fieldLink RX6 45 "FixityRowsModel" "toldFits" "[Z") (by decide +kernel)
  have b_302 := c_302
  have b_303 := c_303
  have b_304 := c_304
  have b_305 := c_305
  have b_306 := c_306
  have b_307 := c_307
  have b_308 := c_308
  have b_309 := c_309
  have b_310 := c_310
  have b_311 := c_311
  have b_312 := c_312
  have b_313 := c_313
  have b_314 := c_314
  have b_315 := c_315
  have b_316 := c_316
  have b_317 := c_317
  have b_318 := c_318
  have b_319 := c_319
  have b_320 := c_320
  have b_321 := c_321
  have b_322 := c_322
  have b_323 := c_323
  have b_324 := c_324
  have b_325 := c_325
  refine lv_aload_n hx hb dX6_told_0 rfl (lv_at hl 0 rfl) ?_
  refine lv_iconst (v := nI 0) hx hb dX6_told_1 (by decide) ?_
  refine x_put (ci := 7) (C := RX6) (T := TX6) (n := 32) (ref := RX6) (fs' := mO ad 0 (n 0) (n 1) (n 2) (g 13 0) (n 3) (n 4) (n 5) zn) hx hb hts hin_7 tyX6 tyX6_ok nmX6 hown hK dd hw 302 (by omega) c_302 rfl 0 (by decide) hf_160 (fun _ h => h) rfl rfl rfl (Nat.le_of_ble_eq_true rfl) rfl dX6_told_2 (fun H locs hw => ?_)
  obtain ⟨f_1, ef_1⟩ : ∃ z, z = va_up f 302 (.inr (7, mO ad 0 (n 0) (n 1) (n 2) (g 13 0) (n 3) (n 4) (n 5) zn)) := ⟨_, rfl⟩
  have hw : xw D vwCl N ad B s.heap f_1 H locs := by rw [ef_1]; exact hw
  have c_302 : f_1 302 = .inr (7, mO ad 0 (n 0) (n 1) (n 2) (g 13 0) (n 3) (n 4) (n 5) zn) := va_up_of ef_1
  refine lv_iload_n hx hb dX6_told_5 rfl (lv_at hl 1 rfl) ?_
  refine lv_iconst (v := nI 0) hx hb dX6_told_6 (by decide) ?_
  refine lv_aload_n hx hb dX6_told_7 rfl (lv_at hl 0 rfl) ?_
  refine x_get (ci := 7) (C := RX6) (T := TX6) (n := 32) (ref := RX6) hx hb hts hin_7 hown hK hw 302 (by omega) c_302 rfl 14 (by decide) hf_238 (fun _ h => h) rfl dX6_told_8 ?_
  refine lv_iconst (v := nI 1) hx hb dX6_told_11 (by decide) ?_
  refine n_isub hx hb dX6_told_12 (by omega) ?_
  refine x_Si (As := [.int (nI i), .int (nI 0), .int (nI ((n 3) - 1))]) (rest := []) ⟨hx, hb, hml, hown, hts⟩ (k_X6_in_yes l D ca N ad B tR tK f_1 dd i 0 ((n 3) - 1)   (by omega) (by omega) (by omega)) (va_cwS 3 hts gX6_told_X6_in rfl rfl rfl (by decide +kernel) ⟨Nat.le_of_ble_eq_true rfl, Nat.le_of_ble_eq_true rfl⟩) hK hE hB hw rfl rfl hl.1 (Nat.le_of_ble_eq_true rfl) ⟨Nat.zero_le _, Nat.zero_le _⟩ dX6_told_13 (fun r_3 f_2 H locs hp hw => ?_)
  obtain ⟨er, eu⟩ := hp
  rw [← er]
  rw [← eu] at hw
  refine lv_if_eq (tgt := 28) hx hb dX6_told_16 (by decide) (fun h => absurd h (by decide)) (fun _ => ?_)
  refine lv_iload_n hx hb dX6_told_19 rfl (lv_at hl 2 rfl) ?_
  refine lv_iconst (v := nI 0) hx hb dX6_told_20 (by decide) ?_
  refine lv_iconst (v := nI 1) hx hb dX6_told_21 (by decide) ?_
  refine x_Si (As := [.int (nI 1), .int (nI 0), .int (nI 1)]) (rest := []) ⟨hx, hb, hml, hown, hts⟩ (k_X6_in_yes l D ca N ad B tR tK f_1 dd 1 0 1   (by omega) (by omega) (by omega)) (va_cwS 3 hts gX6_told_X6_in rfl rfl rfl (by decide +kernel) ⟨Nat.le_of_ble_eq_true rfl, Nat.le_of_ble_eq_true rfl⟩) hK hE hB hw rfl rfl hl.1 (Nat.le_of_ble_eq_true rfl) ⟨Nat.zero_le _, Nat.zero_le _⟩ dX6_told_22 (fun r_5 f_4 H locs hp hw => ?_)
  obtain ⟨er, eu⟩ := hp
  rw [← er]
  rw [← eu] at hw
  refine lv_if_ne (tgt := 32) hx hb dX6_told_25 (by decide) (fun _ => ?_) (fun h => absurd h (by decide))
  refine lv_iload_n hx hb dX6_told_32 rfl (lv_at hl 2 rfl) ?_
  refine lv_if_ne (tgt := 45) hx hb dX6_told_33 (by decide) (fun _ => ?_) (fun h => absurd h (by decide))
  refine lv_aload_n hx hb dX6_told_45 rfl (lv_at hl 0 rfl) ?_
  refine x_get (ci := 7) (C := RX6) (T := TX6) (n := 32) (ref := RX6) hx hb hts hin_7 hown hK hw 302 (by omega) c_302 rfl 16 (by decide) hf_45 (fun _ h => h) rfl dX6_told_46 ?_
  refine lv_iload_n hx hb dX6_told_49 rfl (lv_at hl 1 rfl) ?_
  have c_313 : f_1 313 = ai (ca 2) 20 (g 10) := by rw [ef_1, va_up_ne _ _ (by decide)]; exact c_313
  refine x_zald (j := i) hx hb hK hw 313 2 (by omega) c_313 rfl rfl (by omega) (by decide) dX6_told_50 ?_
  refine lv_if_eq (tgt := 58) hx hb dX6_told_51 (by decide) (fun hc_51 => ?_) (fun hc_51 => ?_)
  · refine lv_iconst (v := nI 0) hx hb dX6_told_58 (by decide) ?_
    have c_303 : f_1 303 = ai (ca 1) 200 (g 0) := by rw [ef_1, va_up_ne _ _ (by decide)]; exact c_303
    have c_304 : f_1 304 = ai (ca 1) 4000 (g 1) := by rw [ef_1, va_up_ne _ _ (by decide)]; exact c_304
    have c_305 : f_1 305 = ai (ca 0) 20 (g 2) := by rw [ef_1, va_up_ne _ _ (by decide)]; exact c_305
    have c_306 : f_1 306 = ai (ca 0) 20 (g 3) := by rw [ef_1, va_up_ne _ _ (by decide)]; exact c_306
    have c_307 : f_1 307 = ai (ca 1) 720 (g 4) := by rw [ef_1, va_up_ne _ _ (by decide)]; exact c_307
    have c_308 : f_1 308 = ai (ca 0) 20 (g 5) := by rw [ef_1, va_up_ne _ _ (by decide)]; exact c_308
    have c_309 : f_1 309 = ai (ca 0) 20 (g 6) := by rw [ef_1, va_up_ne _ _ (by decide)]; exact c_309
    have c_310 : f_1 310 = ai (ca 0) 20 (g 7) := by rw [ef_1, va_up_ne _ _ (by decide)]; exact c_310
    have c_311 : f_1 311 = ai (ca 0) 20 (g 8) := by rw [ef_1, va_up_ne _ _ (by decide)]; exact c_311
    have c_312 : f_1 312 = ai (ca 0) 20 (g 9) := by rw [ef_1, va_up_ne _ _ (by decide)]; exact c_312
    have c_314 : f_1 314 = ai (ca 0) 200 (g 11) := by rw [ef_1, va_up_ne _ _ (by decide)]; exact c_314
    have c_315 : f_1 315 = ai (ca 0) 200 (g 12) := by rw [ef_1, va_up_ne _ _ (by decide)]; exact c_315
    have c_316 : f_1 316 = ai (ca 0) 200 (g 14) := by rw [ef_1, va_up_ne _ _ (by decide)]; exact c_316
    have c_317 : f_1 317 = ai (ca 1) 6400 (g 15) := by rw [ef_1, va_up_ne _ _ (by decide)]; exact c_317
    have c_318 : f_1 318 = ai (ca 1) 32 (g 16) := by rw [ef_1, va_up_ne _ _ (by decide)]; exact c_318
    have c_319 : f_1 319 = ai (ca 1) 320 (z 0) := by rw [ef_1, va_up_ne _ _ (by decide)]; exact c_319
    have c_320 : f_1 320 = ai (ca 1) 36 (z 1) := by rw [ef_1, va_up_ne _ _ (by decide)]; exact c_320
    have c_321 : f_1 321 = ai (ca 0) 64 (z 2) := by rw [ef_1, va_up_ne _ _ (by decide)]; exact c_321
    have c_322 : f_1 322 = ai (ca 0) 8 (z 3) := by rw [ef_1, va_up_ne _ _ (by decide)]; exact c_322
    have c_323 : f_1 323 = ai (ca 0) 8 (z 4) := by rw [ef_1, va_up_ne _ _ (by decide)]; exact c_323
    have c_324 : f_1 324 = ai (ca 0) 8 shR := by rw [ef_1, va_up_ne _ _ (by decide)]; exact c_324
    have c_325 : f_1 325 = ai (ca 0) 64 shK := by rw [ef_1, va_up_ne _ _ (by decide)]; exact c_325
    have qn_0 : (va_up n 7 0) 0 = n 0 := by rw [va_up_ne _ _ (by decide)]
    have qn_1 : (va_up n 7 0) 1 = n 1 := by rw [va_up_ne _ _ (by decide)]
    have qn_2 : (va_up n 7 0) 2 = n 2 := by rw [va_up_ne _ _ (by decide)]
    have qn_3 : (va_up n 7 0) 3 = n 3 := by rw [va_up_ne _ _ (by decide)]
    have qn_4 : (va_up n 7 0) 4 = n 4 := by rw [va_up_ne _ _ (by decide)]
    have qn_5 : (va_up n 7 0) 5 = n 5 := by rw [va_up_ne _ _ (by decide)]
    have qn_6 : (va_up n 7 0) 6 = n 6 := by rw [va_up_ne _ _ (by decide)]
    have qn_7 : (va_up n 7 0) 7 = 0 := by rw [va_up_self]
    have hRz : RepM ca ad (va_up n 7 0) g z zn tb f_1 := ⟨(by rw [qn_7, qn_0, qn_1, qn_2, qn_3, qn_4, qn_5]; exact c_302),
          c_303,
          c_304,
          c_305,
          c_306,
          c_307,
          c_308,
          c_309,
          c_310,
          c_311,
          c_312,
          c_313,
          c_314,
          c_315,
          c_316,
          c_317,
          c_318,
          c_319,
          c_320,
          c_321,
          c_322,
          c_323,
          c_324,
          c_325, hzn⟩
    exact x_iret hx hb hr hlocks hw ⟨hc_51, z, zn, hRz, (fun y hy => by rw [ef_1, va_up_ne _ _ (by omega)])⟩ dX6_told_59
  · refine lv_iconst (v := nI 1) hx hb dX6_told_54 (by decide) ?_
    refine lv_goto (tgt := 59) hx hb dX6_told_55 (by decide) ?_
    have c_303 : f_1 303 = ai (ca 1) 200 (g 0) := by rw [ef_1, va_up_ne _ _ (by decide)]; exact c_303
    have c_304 : f_1 304 = ai (ca 1) 4000 (g 1) := by rw [ef_1, va_up_ne _ _ (by decide)]; exact c_304
    have c_305 : f_1 305 = ai (ca 0) 20 (g 2) := by rw [ef_1, va_up_ne _ _ (by decide)]; exact c_305
    have c_306 : f_1 306 = ai (ca 0) 20 (g 3) := by rw [ef_1, va_up_ne _ _ (by decide)]; exact c_306
    have c_307 : f_1 307 = ai (ca 1) 720 (g 4) := by rw [ef_1, va_up_ne _ _ (by decide)]; exact c_307
    have c_308 : f_1 308 = ai (ca 0) 20 (g 5) := by rw [ef_1, va_up_ne _ _ (by decide)]; exact c_308
    have c_309 : f_1 309 = ai (ca 0) 20 (g 6) := by rw [ef_1, va_up_ne _ _ (by decide)]; exact c_309
    have c_310 : f_1 310 = ai (ca 0) 20 (g 7) := by rw [ef_1, va_up_ne _ _ (by decide)]; exact c_310
    have c_311 : f_1 311 = ai (ca 0) 20 (g 8) := by rw [ef_1, va_up_ne _ _ (by decide)]; exact c_311
    have c_312 : f_1 312 = ai (ca 0) 20 (g 9) := by rw [ef_1, va_up_ne _ _ (by decide)]; exact c_312
    have c_314 : f_1 314 = ai (ca 0) 200 (g 11) := by rw [ef_1, va_up_ne _ _ (by decide)]; exact c_314
    have c_315 : f_1 315 = ai (ca 0) 200 (g 12) := by rw [ef_1, va_up_ne _ _ (by decide)]; exact c_315
    have c_316 : f_1 316 = ai (ca 0) 200 (g 14) := by rw [ef_1, va_up_ne _ _ (by decide)]; exact c_316
    have c_317 : f_1 317 = ai (ca 1) 6400 (g 15) := by rw [ef_1, va_up_ne _ _ (by decide)]; exact c_317
    have c_318 : f_1 318 = ai (ca 1) 32 (g 16) := by rw [ef_1, va_up_ne _ _ (by decide)]; exact c_318
    have c_319 : f_1 319 = ai (ca 1) 320 (z 0) := by rw [ef_1, va_up_ne _ _ (by decide)]; exact c_319
    have c_320 : f_1 320 = ai (ca 1) 36 (z 1) := by rw [ef_1, va_up_ne _ _ (by decide)]; exact c_320
    have c_321 : f_1 321 = ai (ca 0) 64 (z 2) := by rw [ef_1, va_up_ne _ _ (by decide)]; exact c_321
    have c_322 : f_1 322 = ai (ca 0) 8 (z 3) := by rw [ef_1, va_up_ne _ _ (by decide)]; exact c_322
    have c_323 : f_1 323 = ai (ca 0) 8 (z 4) := by rw [ef_1, va_up_ne _ _ (by decide)]; exact c_323
    have c_324 : f_1 324 = ai (ca 0) 8 shR := by rw [ef_1, va_up_ne _ _ (by decide)]; exact c_324
    have c_325 : f_1 325 = ai (ca 0) 64 shK := by rw [ef_1, va_up_ne _ _ (by decide)]; exact c_325
    have qn_0 : (va_up n 7 0) 0 = n 0 := by rw [va_up_ne _ _ (by decide)]
    have qn_1 : (va_up n 7 0) 1 = n 1 := by rw [va_up_ne _ _ (by decide)]
    have qn_2 : (va_up n 7 0) 2 = n 2 := by rw [va_up_ne _ _ (by decide)]
    have qn_3 : (va_up n 7 0) 3 = n 3 := by rw [va_up_ne _ _ (by decide)]
    have qn_4 : (va_up n 7 0) 4 = n 4 := by rw [va_up_ne _ _ (by decide)]
    have qn_5 : (va_up n 7 0) 5 = n 5 := by rw [va_up_ne _ _ (by decide)]
    have qn_6 : (va_up n 7 0) 6 = n 6 := by rw [va_up_ne _ _ (by decide)]
    have qn_7 : (va_up n 7 0) 7 = 0 := by rw [va_up_self]
    have hRz : RepM ca ad (va_up n 7 0) g z zn tb f_1 := ⟨(by rw [qn_7, qn_0, qn_1, qn_2, qn_3, qn_4, qn_5]; exact c_302),
          c_303,
          c_304,
          c_305,
          c_306,
          c_307,
          c_308,
          c_309,
          c_310,
          c_311,
          c_312,
          c_313,
          c_314,
          c_315,
          c_316,
          c_317,
          c_318,
          c_319,
          c_320,
          c_321,
          c_322,
          c_323,
          c_324,
          c_325, hzn⟩
    exact x_iret hx hb hr hlocks hw ⟨(hz9.resolve_left hc_51), z, zn, hRz, (fun y hy => by rw [ef_1, va_up_ne _ _ (by omega)])⟩ dX6_told_59

set_option maxHeartbeats 4000000 in
set_option maxRecDepth 100000 in
theorem k_X6_told_no (l : Launch) (D : va_G) (ca : Nat → ClassId) (N : Nat) (ad : Nat → Nat) (B tR tK : Nat) (f : Nat → va_E) (dd : xD N ad B) (hN : 326 ≤ N) (n : Nat → Nat) (g : Nat → Nat → Int32) (z : Nat → Nat → Int32) (zn : Nat) (tb : Nat → Int32) (hR : RepM ca ad n g z zn tb f) (i : Nat) (y : Int32) (h3 : n 3 ≤ 20) (hi : i < n 3) (ho : y < nI 0 ∨ nI 1 < y) : xMi l yX6_told wsX6_told rmX6_told [.ref (ad 302), .int (nI i), .int y] D ca N ad B tR tK f (fun r u => (-1) = r ∧ ∃ (z1 : Nat → Nat → Int32) (zn1 : Nat), RepM ca ad (va_up n 7 0) g z1 zn1 tb u ∧ ∀ y, (y < 302 ∨ 326 ≤ y) → u y = f y) := by
  refine x_open (cc := cX6_told) (maxL := 3) (ret := (some .int)) (by decide) rfl (Nat.le_of_ble_eq_true rfl) ?_
  intro p e s m below meth c ls hx hb hml hown hts hr hlocks hnm hB hK hE hw hl
  have hown : s.vm.findClass RX6 = some m.cls := hown
  have hl : lv_has ls 3 [(0, .ref (ad 302)), (1, .int (nI i)), (2, .int y)] := hl
  obtain ⟨c_302, c_303, c_304, c_305, c_306, c_307, c_308, c_309, c_310, c_311, c_312, c_313, c_314, c_315, c_316, c_317, c_318, c_319, c_320, c_321, c_322, c_323, c_324, c_325, hzn⟩ := hR
  have hin_7 : ∀ w ∈ u_ws RX6 TX6 32, w ∈ wsX6_told := by decide +kernel
  have hf_160 := hts (.fieldLink RX6 160 "FixityRowsModel" "thrown" "I") (by decide +kernel)
  have hf_238 := hts (.fieldLink RX6 238 "FixityRowsModel" "told" "I") (by decide +kernel)
  have b_302 := c_302
  have b_303 := c_303
  have b_304 := c_304
  have b_305 := c_305
  have b_306 := c_306
  have b_307 := c_307
  have b_308 := c_308
  have b_309 := c_309
  have b_310 := c_310
  have b_311 := c_311
  have b_312 := c_312
  have b_313 := c_313
  have b_314 := c_314
  have b_315 := c_315
  have b_316 := c_316
  have b_317 := c_317
  have b_318 := c_318
  have b_319 := c_319
  have b_320 := c_320
  have b_321 := c_321
  have b_322 := c_322
  have b_323 := c_323
  have b_324 := c_324
  have b_325 := c_325
  refine lv_aload_n hx hb dX6_told_0 rfl (lv_at hl 0 rfl) ?_
  refine lv_iconst (v := nI 0) hx hb dX6_told_1 (by decide) ?_
  refine x_put (ci := 7) (C := RX6) (T := TX6) (n := 32) (ref := RX6) (fs' := mO ad 0 (n 0) (n 1) (n 2) (g 13 0) (n 3) (n 4) (n 5) zn) hx hb hts hin_7 tyX6 tyX6_ok nmX6 hown hK dd hw 302 (by omega) c_302 rfl 0 (by decide) hf_160 (fun _ h => h) rfl rfl rfl (Nat.le_of_ble_eq_true rfl) rfl dX6_told_2 (fun H locs hw => ?_)
  obtain ⟨f_1, ef_1⟩ : ∃ z, z = va_up f 302 (.inr (7, mO ad 0 (n 0) (n 1) (n 2) (g 13 0) (n 3) (n 4) (n 5) zn)) := ⟨_, rfl⟩
  have hw : xw D vwCl N ad B s.heap f_1 H locs := by rw [ef_1]; exact hw
  have c_302 : f_1 302 = .inr (7, mO ad 0 (n 0) (n 1) (n 2) (g 13 0) (n 3) (n 4) (n 5) zn) := va_up_of ef_1
  refine lv_iload_n hx hb dX6_told_5 rfl (lv_at hl 1 rfl) ?_
  refine lv_iconst (v := nI 0) hx hb dX6_told_6 (by decide) ?_
  refine lv_aload_n hx hb dX6_told_7 rfl (lv_at hl 0 rfl) ?_
  refine x_get (ci := 7) (C := RX6) (T := TX6) (n := 32) (ref := RX6) hx hb hts hin_7 hown hK hw 302 (by omega) c_302 rfl 14 (by decide) hf_238 (fun _ h => h) rfl dX6_told_8 ?_
  refine lv_iconst (v := nI 1) hx hb dX6_told_11 (by decide) ?_
  refine n_isub hx hb dX6_told_12 (by omega) ?_
  refine x_Si (As := [.int (nI i), .int (nI 0), .int (nI ((n 3) - 1))]) (rest := []) ⟨hx, hb, hml, hown, hts⟩ (k_X6_in_yes l D ca N ad B tR tK f_1 dd i 0 ((n 3) - 1)   (by omega) (by omega) (by omega)) (va_cwS 3 hts gX6_told_X6_in rfl rfl rfl (by decide +kernel) ⟨Nat.le_of_ble_eq_true rfl, Nat.le_of_ble_eq_true rfl⟩) hK hE hB hw rfl rfl hl.1 (Nat.le_of_ble_eq_true rfl) ⟨Nat.zero_le _, Nat.zero_le _⟩ dX6_told_13 (fun r_3 f_2 H locs hp hw => ?_)
  obtain ⟨er, eu⟩ := hp
  rw [← er]
  rw [← eu] at hw
  refine lv_if_eq (tgt := 28) hx hb dX6_told_16 (by decide) (fun h => absurd h (by decide)) (fun _ => ?_)
  refine lv_iload_n hx hb dX6_told_19 rfl (lv_at hl 2 rfl) ?_
  refine lv_iconst (v := nI 0) hx hb dX6_told_20 (by decide) ?_
  refine lv_iconst (v := nI 1) hx hb dX6_told_21 (by decide) ?_
  refine x_Si (As := [.int y, .int (nI 0), .int (nI 1)]) (rest := []) ⟨hx, hb, hml, hown, hts⟩ (k_X6_in_no l D ca N ad B tR tK f_1 dd y (nI 0) (nI 1)   ho) (va_cwS 3 hts gX6_told_X6_in rfl rfl rfl (by decide +kernel) ⟨Nat.le_of_ble_eq_true rfl, Nat.le_of_ble_eq_true rfl⟩) hK hE hB hw rfl rfl hl.1 (Nat.le_of_ble_eq_true rfl) ⟨Nat.zero_le _, Nat.zero_le _⟩ dX6_told_22 (fun r_5 f_4 H locs hp hw => ?_)
  obtain ⟨er, eu⟩ := hp
  rw [← er]
  rw [← eu] at hw
  refine lv_if_ne (tgt := 32) hx hb dX6_told_25 (by decide) (fun h => False.elim (h (by decide))) (fun _ => ?_)
  refine lv_iconst (v := (-1)) hx hb dX6_told_28 (by decide) ?_
  refine lv_goto (tgt := 59) hx hb dX6_told_29 (by decide) ?_
  have c_303 : f_1 303 = ai (ca 1) 200 (g 0) := by rw [ef_1, va_up_ne _ _ (by decide)]; exact c_303
  have c_304 : f_1 304 = ai (ca 1) 4000 (g 1) := by rw [ef_1, va_up_ne _ _ (by decide)]; exact c_304
  have c_305 : f_1 305 = ai (ca 0) 20 (g 2) := by rw [ef_1, va_up_ne _ _ (by decide)]; exact c_305
  have c_306 : f_1 306 = ai (ca 0) 20 (g 3) := by rw [ef_1, va_up_ne _ _ (by decide)]; exact c_306
  have c_307 : f_1 307 = ai (ca 1) 720 (g 4) := by rw [ef_1, va_up_ne _ _ (by decide)]; exact c_307
  have c_308 : f_1 308 = ai (ca 0) 20 (g 5) := by rw [ef_1, va_up_ne _ _ (by decide)]; exact c_308
  have c_309 : f_1 309 = ai (ca 0) 20 (g 6) := by rw [ef_1, va_up_ne _ _ (by decide)]; exact c_309
  have c_310 : f_1 310 = ai (ca 0) 20 (g 7) := by rw [ef_1, va_up_ne _ _ (by decide)]; exact c_310
  have c_311 : f_1 311 = ai (ca 0) 20 (g 8) := by rw [ef_1, va_up_ne _ _ (by decide)]; exact c_311
  have c_312 : f_1 312 = ai (ca 0) 20 (g 9) := by rw [ef_1, va_up_ne _ _ (by decide)]; exact c_312
  have c_313 : f_1 313 = ai (ca 2) 20 (g 10) := by rw [ef_1, va_up_ne _ _ (by decide)]; exact c_313
  have c_314 : f_1 314 = ai (ca 0) 200 (g 11) := by rw [ef_1, va_up_ne _ _ (by decide)]; exact c_314
  have c_315 : f_1 315 = ai (ca 0) 200 (g 12) := by rw [ef_1, va_up_ne _ _ (by decide)]; exact c_315
  have c_316 : f_1 316 = ai (ca 0) 200 (g 14) := by rw [ef_1, va_up_ne _ _ (by decide)]; exact c_316
  have c_317 : f_1 317 = ai (ca 1) 6400 (g 15) := by rw [ef_1, va_up_ne _ _ (by decide)]; exact c_317
  have c_318 : f_1 318 = ai (ca 1) 32 (g 16) := by rw [ef_1, va_up_ne _ _ (by decide)]; exact c_318
  have c_319 : f_1 319 = ai (ca 1) 320 (z 0) := by rw [ef_1, va_up_ne _ _ (by decide)]; exact c_319
  have c_320 : f_1 320 = ai (ca 1) 36 (z 1) := by rw [ef_1, va_up_ne _ _ (by decide)]; exact c_320
  have c_321 : f_1 321 = ai (ca 0) 64 (z 2) := by rw [ef_1, va_up_ne _ _ (by decide)]; exact c_321
  have c_322 : f_1 322 = ai (ca 0) 8 (z 3) := by rw [ef_1, va_up_ne _ _ (by decide)]; exact c_322
  have c_323 : f_1 323 = ai (ca 0) 8 (z 4) := by rw [ef_1, va_up_ne _ _ (by decide)]; exact c_323
  have c_324 : f_1 324 = ai (ca 0) 8 shR := by rw [ef_1, va_up_ne _ _ (by decide)]; exact c_324
  have c_325 : f_1 325 = ai (ca 0) 64 shK := by rw [ef_1, va_up_ne _ _ (by decide)]; exact c_325
  have qn_0 : (va_up n 7 0) 0 = n 0 := by rw [va_up_ne _ _ (by decide)]
  have qn_1 : (va_up n 7 0) 1 = n 1 := by rw [va_up_ne _ _ (by decide)]
  have qn_2 : (va_up n 7 0) 2 = n 2 := by rw [va_up_ne _ _ (by decide)]
  have qn_3 : (va_up n 7 0) 3 = n 3 := by rw [va_up_ne _ _ (by decide)]
  have qn_4 : (va_up n 7 0) 4 = n 4 := by rw [va_up_ne _ _ (by decide)]
  have qn_5 : (va_up n 7 0) 5 = n 5 := by rw [va_up_ne _ _ (by decide)]
  have qn_6 : (va_up n 7 0) 6 = n 6 := by rw [va_up_ne _ _ (by decide)]
  have qn_7 : (va_up n 7 0) 7 = 0 := by rw [va_up_self]
  have hRz : RepM ca ad (va_up n 7 0) g z zn tb f_1 := ⟨(by rw [qn_7, qn_0, qn_1, qn_2, qn_3, qn_4, qn_5]; exact c_302),
        c_303,
        c_304,
        c_305,
        c_306,
        c_307,
        c_308,
        c_309,
        c_310,
        c_311,
        c_312,
        c_313,
        c_314,
        c_315,
        c_316,
        c_317,
        c_318,
        c_319,
        c_320,
        c_321,
        c_322,
        c_323,
        c_324,
        c_325, hzn⟩
  exact x_iret hx hb hr hlocks hw ⟨rfl, z, zn, hRz, (fun y hy => by rw [ef_1, va_up_ne _ _ (by omega)])⟩ dX6_told_59

abbrev rmX6_about : Room := { frames := 2, cells := 0, slots := 0, locals := 43 }

set_option maxHeartbeats 4000000 in
set_option maxRecDepth 100000 in
theorem k_X6_about_nofile (l : Launch) (D : va_G) (ca : Nat → ClassId) (N : Nat) (ad : Nat → Nat) (B tR tK : Nat) (f : Nat → va_E) (dd : xD N ad B) (hN : 326 ≤ N) (n : Nat → Nat) (g : Nat → Nat → Int32) (z : Nat → Nat → Int32) (zn : Nat) (tb : Nat → Int32) (hR : RepM ca ad n g z zn tb f) (x : Int32) (y : Int32) (h2 : n 2 ≤ 20) (ho : x < 0 ∨ nI (n 2) ≤ x) : xMi l yX6_about wsX6_about rmX6_about [.ref (ad 302), .int x, .int y] D ca N ad B tR tK f (fun r u => (-1) = r ∧ ∃ (z1 : Nat → Nat → Int32) (zn1 : Nat), RepM ca ad (va_up n 7 0) g z1 zn1 tb u ∧ ∀ y, (y < 302 ∨ 326 ≤ y) → u y = f y) := by
  refine x_open (cc := cX6_about) (maxL := 3) (ret := (some .int)) (by decide) rfl (Nat.le_of_ble_eq_true rfl) ?_
  intro p e s m below meth c ls hx hb hml hown hts hr hlocks hnm hB hK hE hw hl
  have hown : s.vm.findClass RX6 = some m.cls := hown
  have hl : lv_has ls 3 [(0, .ref (ad 302)), (1, .int x), (2, .int y)] := hl
  obtain ⟨c_302, c_303, c_304, c_305, c_306, c_307, c_308, c_309, c_310, c_311, c_312, c_313, c_314, c_315, c_316, c_317, c_318, c_319, c_320, c_321, c_322, c_323, c_324, c_325, hzn⟩ := hR
  have hin_7 : ∀ w ∈ u_ws RX6 TX6 32, w ∈ wsX6_about := by decide +kernel
  have hf_160 := hts (.fieldLink RX6 160 "FixityRowsModel" "thrown" "I") (by decide +kernel)
  have b_302 := c_302
  have b_303 := c_303
  have b_304 := c_304
  have b_305 := c_305
  have b_306 := c_306
  have b_307 := c_307
  have b_308 := c_308
  have b_309 := c_309
  have b_310 := c_310
  have b_311 := c_311
  have b_312 := c_312
  have b_313 := c_313
  have b_314 := c_314
  have b_315 := c_315
  have b_316 := c_316
  have b_317 := c_317
  have b_318 := c_318
  have b_319 := c_319
  have b_320 := c_320
  have b_321 := c_321
  have b_322 := c_322
  have b_323 := c_323
  have b_324 := c_324
  have b_325 := c_325
  refine lv_aload_n hx hb dX6_about_0 rfl (lv_at hl 0 rfl) ?_
  refine lv_iconst (v := nI 0) hx hb dX6_about_1 (by decide) ?_
  refine x_put (ci := 7) (C := RX6) (T := TX6) (n := 32) (ref := RX6) (fs' := mO ad 0 (n 0) (n 1) (n 2) (g 13 0) (n 3) (n 4) (n 5) zn) hx hb hts hin_7 tyX6 tyX6_ok nmX6 hown hK dd hw 302 (by omega) c_302 rfl 0 (by decide) hf_160 (fun _ h => h) rfl rfl rfl (Nat.le_of_ble_eq_true rfl) rfl dX6_about_2 (fun H locs hw => ?_)
  obtain ⟨f_1, ef_1⟩ : ∃ z, z = va_up f 302 (.inr (7, mO ad 0 (n 0) (n 1) (n 2) (g 13 0) (n 3) (n 4) (n 5) zn)) := ⟨_, rfl⟩
  have hw : xw D vwCl N ad B s.heap f_1 H locs := by rw [ef_1]; exact hw
  have c_302 : f_1 302 = .inr (7, mO ad 0 (n 0) (n 1) (n 2) (g 13 0) (n 3) (n 4) (n 5) zn) := va_up_of ef_1
  refine lv_aload_n hx hb dX6_about_5 rfl (lv_at hl 0 rfl) ?_
  refine lv_iload_n hx hb dX6_about_6 rfl (lv_at hl 1 rfl) ?_
  have c_303 : f_1 303 = ai (ca 1) 200 (g 0) := by rw [ef_1, va_up_ne _ _ (by decide)]; exact c_303
  have c_304 : f_1 304 = ai (ca 1) 4000 (g 1) := by rw [ef_1, va_up_ne _ _ (by decide)]; exact c_304
  have c_305 : f_1 305 = ai (ca 0) 20 (g 2) := by rw [ef_1, va_up_ne _ _ (by decide)]; exact c_305
  have c_306 : f_1 306 = ai (ca 0) 20 (g 3) := by rw [ef_1, va_up_ne _ _ (by decide)]; exact c_306
  have c_307 : f_1 307 = ai (ca 1) 720 (g 4) := by rw [ef_1, va_up_ne _ _ (by decide)]; exact c_307
  have c_308 : f_1 308 = ai (ca 0) 20 (g 5) := by rw [ef_1, va_up_ne _ _ (by decide)]; exact c_308
  have c_309 : f_1 309 = ai (ca 0) 20 (g 6) := by rw [ef_1, va_up_ne _ _ (by decide)]; exact c_309
  have c_310 : f_1 310 = ai (ca 0) 20 (g 7) := by rw [ef_1, va_up_ne _ _ (by decide)]; exact c_310
  have c_311 : f_1 311 = ai (ca 0) 20 (g 8) := by rw [ef_1, va_up_ne _ _ (by decide)]; exact c_311
  have c_312 : f_1 312 = ai (ca 0) 20 (g 9) := by rw [ef_1, va_up_ne _ _ (by decide)]; exact c_312
  have c_313 : f_1 313 = ai (ca 2) 20 (g 10) := by rw [ef_1, va_up_ne _ _ (by decide)]; exact c_313
  have c_314 : f_1 314 = ai (ca 0) 200 (g 11) := by rw [ef_1, va_up_ne _ _ (by decide)]; exact c_314
  have c_315 : f_1 315 = ai (ca 0) 200 (g 12) := by rw [ef_1, va_up_ne _ _ (by decide)]; exact c_315
  have c_316 : f_1 316 = ai (ca 0) 200 (g 14) := by rw [ef_1, va_up_ne _ _ (by decide)]; exact c_316
  have c_317 : f_1 317 = ai (ca 1) 6400 (g 15) := by rw [ef_1, va_up_ne _ _ (by decide)]; exact c_317
  have c_318 : f_1 318 = ai (ca 1) 32 (g 16) := by rw [ef_1, va_up_ne _ _ (by decide)]; exact c_318
  have c_319 : f_1 319 = ai (ca 1) 320 (z 0) := by rw [ef_1, va_up_ne _ _ (by decide)]; exact c_319
  have c_320 : f_1 320 = ai (ca 1) 36 (z 1) := by rw [ef_1, va_up_ne _ _ (by decide)]; exact c_320
  have c_321 : f_1 321 = ai (ca 0) 64 (z 2) := by rw [ef_1, va_up_ne _ _ (by decide)]; exact c_321
  have c_322 : f_1 322 = ai (ca 0) 8 (z 3) := by rw [ef_1, va_up_ne _ _ (by decide)]; exact c_322
  have c_323 : f_1 323 = ai (ca 0) 8 (z 4) := by rw [ef_1, va_up_ne _ _ (by decide)]; exact c_323
  have c_324 : f_1 324 = ai (ca 0) 8 shR := by rw [ef_1, va_up_ne _ _ (by decide)]; exact c_324
  have c_325 : f_1 325 = ai (ca 0) 64 shK := by rw [ef_1, va_up_ne _ _ (by decide)]; exact c_325
  have qn_0 : (va_up n 7 0) 0 = n 0 := by rw [va_up_ne _ _ (by decide)]
  have qn_1 : (va_up n 7 0) 1 = n 1 := by rw [va_up_ne _ _ (by decide)]
  have qn_2 : (va_up n 7 0) 2 = n 2 := by rw [va_up_ne _ _ (by decide)]
  have qn_3 : (va_up n 7 0) 3 = n 3 := by rw [va_up_ne _ _ (by decide)]
  have qn_4 : (va_up n 7 0) 4 = n 4 := by rw [va_up_ne _ _ (by decide)]
  have qn_5 : (va_up n 7 0) 5 = n 5 := by rw [va_up_ne _ _ (by decide)]
  have qn_6 : (va_up n 7 0) 6 = n 6 := by rw [va_up_ne _ _ (by decide)]
  have qn_7 : (va_up n 7 0) 7 = 0 := by rw [va_up_self]
  have hRk : RepM ca ad (va_up n 7 0) g z zn tb f_1 := ⟨(by rw [qn_7, qn_0, qn_1, qn_2, qn_3, qn_4, qn_5]; exact c_302),
        c_303,
        c_304,
        c_305,
        c_306,
        c_307,
        c_308,
        c_309,
        c_310,
        c_311,
        c_312,
        c_313,
        c_314,
        c_315,
        c_316,
        c_317,
        c_318,
        c_319,
        c_320,
        c_321,
        c_322,
        c_323,
        c_324,
        c_325, hzn⟩
  have hfr : ∀ y, (y < 302 ∨ 326 ≤ y) → f_1 y = f y := (fun y hy => by rw [ef_1, va_up_ne _ _ (by omega)])
  refine x_Vi (q := 302) (As := [.int x]) (rest := []) ⟨hx, hb, hml, hown, hts⟩ (k_X6_isFile_no l D ca N ad B tR tK f_1 dd hN (va_up n 7 0) g z zn tb hRk x (by omega) ho) (cwV 1 hts gX6_about_X6_isFile rfl rfl rfl (by decide +kernel) ⟨Nat.le_of_ble_eq_true rfl, Nat.le_of_ble_eq_true rfl⟩) hK hE hB hw (by omega) c_302 rfl rfl rfl rfl hl.1 (Nat.le_of_ble_eq_true rfl) ⟨Nat.zero_le _, Nat.zero_le _⟩ dX6_about_7 (fun r_3 f_2 H locs hp hw => ?_)
  obtain ⟨er, hp⟩ := hp
  rw [← er]
  rw [← hp] at hw
  refine lv_if_ne (tgt := 15) hx hb dX6_about_10 (by decide) (fun h => False.elim (h (by decide))) (fun _ => ?_)
  refine lv_iconst (v := (-1)) hx hb dX6_about_13 (by decide) ?_
  have qn_0 : (va_up n 7 0) 0 = n 0 := by rw [va_up_ne _ _ (by decide)]
  have qn_1 : (va_up n 7 0) 1 = n 1 := by rw [va_up_ne _ _ (by decide)]
  have qn_2 : (va_up n 7 0) 2 = n 2 := by rw [va_up_ne _ _ (by decide)]
  have qn_3 : (va_up n 7 0) 3 = n 3 := by rw [va_up_ne _ _ (by decide)]
  have qn_4 : (va_up n 7 0) 4 = n 4 := by rw [va_up_ne _ _ (by decide)]
  have qn_5 : (va_up n 7 0) 5 = n 5 := by rw [va_up_ne _ _ (by decide)]
  have qn_6 : (va_up n 7 0) 6 = n 6 := by rw [va_up_ne _ _ (by decide)]
  have qn_7 : (va_up n 7 0) 7 = 0 := by rw [va_up_self]
  have hRz : RepM ca ad (va_up n 7 0) g z zn tb f_1 := ⟨(by rw [qn_7, qn_0, qn_1, qn_2, qn_3, qn_4, qn_5]; exact c_302),
        c_303,
        c_304,
        c_305,
        c_306,
        c_307,
        c_308,
        c_309,
        c_310,
        c_311,
        c_312,
        c_313,
        c_314,
        c_315,
        c_316,
        c_317,
        c_318,
        c_319,
        c_320,
        c_321,
        c_322,
        c_323,
        c_324,
        c_325, hzn⟩
  exact x_iret hx hb hr hlocks hw ⟨rfl, z, zn, hRz, (fun y hy => by rw [ef_1, va_up_ne _ _ (by omega)])⟩ dX6_about_14

set_option maxHeartbeats 4000000 in
set_option maxRecDepth 100000 in
theorem k_X6_about_w0 (l : Launch) (D : va_G) (ca : Nat → ClassId) (N : Nat) (ad : Nat → Nat) (B tR tK : Nat) (f : Nat → va_E) (dd : xD N ad B) (hN : 326 ≤ N) (n : Nat → Nat) (g : Nat → Nat → Int32) (z : Nat → Nat → Int32) (zn : Nat) (tb : Nat → Int32) (hR : RepM ca ad n g z zn tb f) (i : Nat) (h2 : n 2 ≤ 20) (hi : i < n 2) : xMi l yX6_about wsX6_about rmX6_about [.ref (ad 302), .int (nI i), .int (nI 0)] D ca N ad B tR tK f (fun r u => g 2 i = r ∧ ∃ (z1 : Nat → Nat → Int32) (zn1 : Nat), RepM ca ad (va_up n 7 0) g z1 zn1 tb u ∧ ∀ y, (y < 302 ∨ 326 ≤ y) → u y = f y) := by
  refine x_open (cc := cX6_about) (maxL := 3) (ret := (some .int)) (by decide) rfl (Nat.le_of_ble_eq_true rfl) ?_
  intro p e s m below meth c ls hx hb hml hown hts hr hlocks hnm hB hK hE hw hl
  have hown : s.vm.findClass RX6 = some m.cls := hown
  have hl : lv_has ls 3 [(0, .ref (ad 302)), (1, .int (nI i)), (2, .int (nI 0))] := hl
  obtain ⟨c_302, c_303, c_304, c_305, c_306, c_307, c_308, c_309, c_310, c_311, c_312, c_313, c_314, c_315, c_316, c_317, c_318, c_319, c_320, c_321, c_322, c_323, c_324, c_325, hzn⟩ := hR
  have hin_7 : ∀ w ∈ u_ws RX6 TX6 32, w ∈ wsX6_about := by decide +kernel
  have hf_160 := hts (.fieldLink RX6 160 "FixityRowsModel" "thrown" "I") (by decide +kernel)
  have hf_16 := hts (.fieldLink RX6 16 "FixityRowsModel" "size" "[I") (by decide +kernel)
  have b_302 := c_302
  have b_303 := c_303
  have b_304 := c_304
  have b_305 := c_305
  have b_306 := c_306
  have b_307 := c_307
  have b_308 := c_308
  have b_309 := c_309
  have b_310 := c_310
  have b_311 := c_311
  have b_312 := c_312
  have b_313 := c_313
  have b_314 := c_314
  have b_315 := c_315
  have b_316 := c_316
  have b_317 := c_317
  have b_318 := c_318
  have b_319 := c_319
  have b_320 := c_320
  have b_321 := c_321
  have b_322 := c_322
  have b_323 := c_323
  have b_324 := c_324
  have b_325 := c_325
  refine lv_aload_n hx hb dX6_about_0 rfl (lv_at hl 0 rfl) ?_
  refine lv_iconst (v := nI 0) hx hb dX6_about_1 (by decide) ?_
  refine x_put (ci := 7) (C := RX6) (T := TX6) (n := 32) (ref := RX6) (fs' := mO ad 0 (n 0) (n 1) (n 2) (g 13 0) (n 3) (n 4) (n 5) zn) hx hb hts hin_7 tyX6 tyX6_ok nmX6 hown hK dd hw 302 (by omega) c_302 rfl 0 (by decide) hf_160 (fun _ h => h) rfl rfl rfl (Nat.le_of_ble_eq_true rfl) rfl dX6_about_2 (fun H locs hw => ?_)
  obtain ⟨f_1, ef_1⟩ : ∃ z, z = va_up f 302 (.inr (7, mO ad 0 (n 0) (n 1) (n 2) (g 13 0) (n 3) (n 4) (n 5) zn)) := ⟨_, rfl⟩
  have hw : xw D vwCl N ad B s.heap f_1 H locs := by rw [ef_1]; exact hw
  have c_302 : f_1 302 = .inr (7, mO ad 0 (n 0) (n 1) (n 2) (g 13 0) (n 3) (n 4) (n 5) zn) := va_up_of ef_1
  refine lv_aload_n hx hb dX6_about_5 rfl (lv_at hl 0 rfl) ?_
  refine lv_iload_n hx hb dX6_about_6 rfl (lv_at hl 1 rfl) ?_
  have c_303 : f_1 303 = ai (ca 1) 200 (g 0) := by rw [ef_1, va_up_ne _ _ (by decide)]; exact c_303
  have c_304 : f_1 304 = ai (ca 1) 4000 (g 1) := by rw [ef_1, va_up_ne _ _ (by decide)]; exact c_304
  have c_305 : f_1 305 = ai (ca 0) 20 (g 2) := by rw [ef_1, va_up_ne _ _ (by decide)]; exact c_305
  have c_306 : f_1 306 = ai (ca 0) 20 (g 3) := by rw [ef_1, va_up_ne _ _ (by decide)]; exact c_306
  have c_307 : f_1 307 = ai (ca 1) 720 (g 4) := by rw [ef_1, va_up_ne _ _ (by decide)]; exact c_307
  have c_308 : f_1 308 = ai (ca 0) 20 (g 5) := by rw [ef_1, va_up_ne _ _ (by decide)]; exact c_308
  have c_309 : f_1 309 = ai (ca 0) 20 (g 6) := by rw [ef_1, va_up_ne _ _ (by decide)]; exact c_309
  have c_310 : f_1 310 = ai (ca 0) 20 (g 7) := by rw [ef_1, va_up_ne _ _ (by decide)]; exact c_310
  have c_311 : f_1 311 = ai (ca 0) 20 (g 8) := by rw [ef_1, va_up_ne _ _ (by decide)]; exact c_311
  have c_312 : f_1 312 = ai (ca 0) 20 (g 9) := by rw [ef_1, va_up_ne _ _ (by decide)]; exact c_312
  have c_313 : f_1 313 = ai (ca 2) 20 (g 10) := by rw [ef_1, va_up_ne _ _ (by decide)]; exact c_313
  have c_314 : f_1 314 = ai (ca 0) 200 (g 11) := by rw [ef_1, va_up_ne _ _ (by decide)]; exact c_314
  have c_315 : f_1 315 = ai (ca 0) 200 (g 12) := by rw [ef_1, va_up_ne _ _ (by decide)]; exact c_315
  have c_316 : f_1 316 = ai (ca 0) 200 (g 14) := by rw [ef_1, va_up_ne _ _ (by decide)]; exact c_316
  have c_317 : f_1 317 = ai (ca 1) 6400 (g 15) := by rw [ef_1, va_up_ne _ _ (by decide)]; exact c_317
  have c_318 : f_1 318 = ai (ca 1) 32 (g 16) := by rw [ef_1, va_up_ne _ _ (by decide)]; exact c_318
  have c_319 : f_1 319 = ai (ca 1) 320 (z 0) := by rw [ef_1, va_up_ne _ _ (by decide)]; exact c_319
  have c_320 : f_1 320 = ai (ca 1) 36 (z 1) := by rw [ef_1, va_up_ne _ _ (by decide)]; exact c_320
  have c_321 : f_1 321 = ai (ca 0) 64 (z 2) := by rw [ef_1, va_up_ne _ _ (by decide)]; exact c_321
  have c_322 : f_1 322 = ai (ca 0) 8 (z 3) := by rw [ef_1, va_up_ne _ _ (by decide)]; exact c_322
  have c_323 : f_1 323 = ai (ca 0) 8 (z 4) := by rw [ef_1, va_up_ne _ _ (by decide)]; exact c_323
  have c_324 : f_1 324 = ai (ca 0) 8 shR := by rw [ef_1, va_up_ne _ _ (by decide)]; exact c_324
  have c_325 : f_1 325 = ai (ca 0) 64 shK := by rw [ef_1, va_up_ne _ _ (by decide)]; exact c_325
  have qn_0 : (va_up n 7 0) 0 = n 0 := by rw [va_up_ne _ _ (by decide)]
  have qn_1 : (va_up n 7 0) 1 = n 1 := by rw [va_up_ne _ _ (by decide)]
  have qn_2 : (va_up n 7 0) 2 = n 2 := by rw [va_up_ne _ _ (by decide)]
  have qn_3 : (va_up n 7 0) 3 = n 3 := by rw [va_up_ne _ _ (by decide)]
  have qn_4 : (va_up n 7 0) 4 = n 4 := by rw [va_up_ne _ _ (by decide)]
  have qn_5 : (va_up n 7 0) 5 = n 5 := by rw [va_up_ne _ _ (by decide)]
  have qn_6 : (va_up n 7 0) 6 = n 6 := by rw [va_up_ne _ _ (by decide)]
  have qn_7 : (va_up n 7 0) 7 = 0 := by rw [va_up_self]
  have hRk : RepM ca ad (va_up n 7 0) g z zn tb f_1 := ⟨(by rw [qn_7, qn_0, qn_1, qn_2, qn_3, qn_4, qn_5]; exact c_302),
        c_303,
        c_304,
        c_305,
        c_306,
        c_307,
        c_308,
        c_309,
        c_310,
        c_311,
        c_312,
        c_313,
        c_314,
        c_315,
        c_316,
        c_317,
        c_318,
        c_319,
        c_320,
        c_321,
        c_322,
        c_323,
        c_324,
        c_325, hzn⟩
  have hfr : ∀ y, (y < 302 ∨ 326 ≤ y) → f_1 y = f y := (fun y hy => by rw [ef_1, va_up_ne _ _ (by omega)])
  refine x_Vi (q := 302) (As := [.int (nI i)]) (rest := []) ⟨hx, hb, hml, hown, hts⟩ (k_X6_isFile_yes l D ca N ad B tR tK f_1 dd hN (va_up n 7 0) g z zn tb hRk i (by omega) (by omega)) (cwV 1 hts gX6_about_X6_isFile rfl rfl rfl (by decide +kernel) ⟨Nat.le_of_ble_eq_true rfl, Nat.le_of_ble_eq_true rfl⟩) hK hE hB hw (by omega) c_302 rfl rfl rfl rfl hl.1 (Nat.le_of_ble_eq_true rfl) ⟨Nat.zero_le _, Nat.zero_le _⟩ dX6_about_7 (fun r_3 f_2 H locs hp hw => ?_)
  obtain ⟨er, hp⟩ := hp
  rw [← er]
  rw [← hp] at hw
  refine lv_if_ne (tgt := 15) hx hb dX6_about_10 (by decide) (fun _ => ?_) (fun h => absurd h (by decide))
  refine lv_iload_n hx hb dX6_about_15 rfl (lv_at hl 2 rfl) ?_
  refine lv_tableIn (off := 32) (tgt := 48) hx hb dX6_about_16 (by decide) (by decide) (by decide) (by decide) ?_
  refine lv_aload_n hx hb dX6_about_48 rfl (lv_at hl 0 rfl) ?_
  refine x_get (ci := 7) (C := RX6) (T := TX6) (n := 32) (ref := RX6) hx hb hts hin_7 hown hK hw 302 (by omega) c_302 rfl 6 (by decide) hf_16 (fun _ h => h) rfl dX6_about_49 ?_
  refine lv_iload_n hx hb dX6_about_52 rfl (lv_at hl 1 rfl) ?_
  refine x_iald (j := i) hx hb hK hw 305 0 (by omega) c_305 rfl rfl (by omega) (by decide) dX6_about_53 ?_
  have qn_0 : (va_up n 7 0) 0 = n 0 := by rw [va_up_ne _ _ (by decide)]
  have qn_1 : (va_up n 7 0) 1 = n 1 := by rw [va_up_ne _ _ (by decide)]
  have qn_2 : (va_up n 7 0) 2 = n 2 := by rw [va_up_ne _ _ (by decide)]
  have qn_3 : (va_up n 7 0) 3 = n 3 := by rw [va_up_ne _ _ (by decide)]
  have qn_4 : (va_up n 7 0) 4 = n 4 := by rw [va_up_ne _ _ (by decide)]
  have qn_5 : (va_up n 7 0) 5 = n 5 := by rw [va_up_ne _ _ (by decide)]
  have qn_6 : (va_up n 7 0) 6 = n 6 := by rw [va_up_ne _ _ (by decide)]
  have qn_7 : (va_up n 7 0) 7 = 0 := by rw [va_up_self]
  have hRz : RepM ca ad (va_up n 7 0) g z zn tb f_1 := ⟨(by rw [qn_7, qn_0, qn_1, qn_2, qn_3, qn_4, qn_5]; exact c_302),
        c_303,
        c_304,
        c_305,
        c_306,
        c_307,
        c_308,
        c_309,
        c_310,
        c_311,
        c_312,
        c_313,
        c_314,
        c_315,
        c_316,
        c_317,
        c_318,
        c_319,
        c_320,
        c_321,
        c_322,
        c_323,
        c_324,
        c_325, hzn⟩
  exact x_iret hx hb hr hlocks hw ⟨rfl, z, zn, hRz, (fun y hy => by rw [ef_1, va_up_ne _ _ (by omega)])⟩ dX6_about_54

set_option maxHeartbeats 4000000 in
set_option maxRecDepth 100000 in
theorem k_X6_about_w1 (l : Launch) (D : va_G) (ca : Nat → ClassId) (N : Nat) (ad : Nat → Nat) (B tR tK : Nat) (f : Nat → va_E) (dd : xD N ad B) (hN : 326 ≤ N) (n : Nat → Nat) (g : Nat → Nat → Int32) (z : Nat → Nat → Int32) (zn : Nat) (tb : Nat → Int32) (hR : RepM ca ad n g z zn tb f) (i : Nat) (h2 : n 2 ≤ 20) (hi : i < n 2) : xMi l yX6_about wsX6_about rmX6_about [.ref (ad 302), .int (nI i), .int (nI 1)] D ca N ad B tR tK f (fun r u => g 5 i = r ∧ ∃ (z1 : Nat → Nat → Int32) (zn1 : Nat), RepM ca ad (va_up n 7 0) g z1 zn1 tb u ∧ ∀ y, (y < 302 ∨ 326 ≤ y) → u y = f y) := by
  refine x_open (cc := cX6_about) (maxL := 3) (ret := (some .int)) (by decide) rfl (Nat.le_of_ble_eq_true rfl) ?_
  intro p e s m below meth c ls hx hb hml hown hts hr hlocks hnm hB hK hE hw hl
  have hown : s.vm.findClass RX6 = some m.cls := hown
  have hl : lv_has ls 3 [(0, .ref (ad 302)), (1, .int (nI i)), (2, .int (nI 1))] := hl
  obtain ⟨c_302, c_303, c_304, c_305, c_306, c_307, c_308, c_309, c_310, c_311, c_312, c_313, c_314, c_315, c_316, c_317, c_318, c_319, c_320, c_321, c_322, c_323, c_324, c_325, hzn⟩ := hR
  have hin_7 : ∀ w ∈ u_ws RX6 TX6 32, w ∈ wsX6_about := by decide +kernel
  have hf_160 := hts (.fieldLink RX6 160 "FixityRowsModel" "thrown" "I") (by decide +kernel)
  have hf_26 := hts (.fieldLink RX6 26 "FixityRowsModel" "fitted" "[I") (by decide +kernel)
  have b_302 := c_302
  have b_303 := c_303
  have b_304 := c_304
  have b_305 := c_305
  have b_306 := c_306
  have b_307 := c_307
  have b_308 := c_308
  have b_309 := c_309
  have b_310 := c_310
  have b_311 := c_311
  have b_312 := c_312
  have b_313 := c_313
  have b_314 := c_314
  have b_315 := c_315
  have b_316 := c_316
  have b_317 := c_317
  have b_318 := c_318
  have b_319 := c_319
  have b_320 := c_320
  have b_321 := c_321
  have b_322 := c_322
  have b_323 := c_323
  have b_324 := c_324
  have b_325 := c_325
  refine lv_aload_n hx hb dX6_about_0 rfl (lv_at hl 0 rfl) ?_
  refine lv_iconst (v := nI 0) hx hb dX6_about_1 (by decide) ?_
  refine x_put (ci := 7) (C := RX6) (T := TX6) (n := 32) (ref := RX6) (fs' := mO ad 0 (n 0) (n 1) (n 2) (g 13 0) (n 3) (n 4) (n 5) zn) hx hb hts hin_7 tyX6 tyX6_ok nmX6 hown hK dd hw 302 (by omega) c_302 rfl 0 (by decide) hf_160 (fun _ h => h) rfl rfl rfl (Nat.le_of_ble_eq_true rfl) rfl dX6_about_2 (fun H locs hw => ?_)
  obtain ⟨f_1, ef_1⟩ : ∃ z, z = va_up f 302 (.inr (7, mO ad 0 (n 0) (n 1) (n 2) (g 13 0) (n 3) (n 4) (n 5) zn)) := ⟨_, rfl⟩
  have hw : xw D vwCl N ad B s.heap f_1 H locs := by rw [ef_1]; exact hw
  have c_302 : f_1 302 = .inr (7, mO ad 0 (n 0) (n 1) (n 2) (g 13 0) (n 3) (n 4) (n 5) zn) := va_up_of ef_1
  refine lv_aload_n hx hb dX6_about_5 rfl (lv_at hl 0 rfl) ?_
  refine lv_iload_n hx hb dX6_about_6 rfl (lv_at hl 1 rfl) ?_
  have c_303 : f_1 303 = ai (ca 1) 200 (g 0) := by rw [ef_1, va_up_ne _ _ (by decide)]; exact c_303
  have c_304 : f_1 304 = ai (ca 1) 4000 (g 1) := by rw [ef_1, va_up_ne _ _ (by decide)]; exact c_304
  have c_305 : f_1 305 = ai (ca 0) 20 (g 2) := by rw [ef_1, va_up_ne _ _ (by decide)]; exact c_305
  have c_306 : f_1 306 = ai (ca 0) 20 (g 3) := by rw [ef_1, va_up_ne _ _ (by decide)]; exact c_306
  have c_307 : f_1 307 = ai (ca 1) 720 (g 4) := by rw [ef_1, va_up_ne _ _ (by decide)]; exact c_307
  have c_308 : f_1 308 = ai (ca 0) 20 (g 5) := by rw [ef_1, va_up_ne _ _ (by decide)]; exact c_308
  have c_309 : f_1 309 = ai (ca 0) 20 (g 6) := by rw [ef_1, va_up_ne _ _ (by decide)]; exact c_309
  have c_310 : f_1 310 = ai (ca 0) 20 (g 7) := by rw [ef_1, va_up_ne _ _ (by decide)]; exact c_310
  have c_311 : f_1 311 = ai (ca 0) 20 (g 8) := by rw [ef_1, va_up_ne _ _ (by decide)]; exact c_311
  have c_312 : f_1 312 = ai (ca 0) 20 (g 9) := by rw [ef_1, va_up_ne _ _ (by decide)]; exact c_312
  have c_313 : f_1 313 = ai (ca 2) 20 (g 10) := by rw [ef_1, va_up_ne _ _ (by decide)]; exact c_313
  have c_314 : f_1 314 = ai (ca 0) 200 (g 11) := by rw [ef_1, va_up_ne _ _ (by decide)]; exact c_314
  have c_315 : f_1 315 = ai (ca 0) 200 (g 12) := by rw [ef_1, va_up_ne _ _ (by decide)]; exact c_315
  have c_316 : f_1 316 = ai (ca 0) 200 (g 14) := by rw [ef_1, va_up_ne _ _ (by decide)]; exact c_316
  have c_317 : f_1 317 = ai (ca 1) 6400 (g 15) := by rw [ef_1, va_up_ne _ _ (by decide)]; exact c_317
  have c_318 : f_1 318 = ai (ca 1) 32 (g 16) := by rw [ef_1, va_up_ne _ _ (by decide)]; exact c_318
  have c_319 : f_1 319 = ai (ca 1) 320 (z 0) := by rw [ef_1, va_up_ne _ _ (by decide)]; exact c_319
  have c_320 : f_1 320 = ai (ca 1) 36 (z 1) := by rw [ef_1, va_up_ne _ _ (by decide)]; exact c_320
  have c_321 : f_1 321 = ai (ca 0) 64 (z 2) := by rw [ef_1, va_up_ne _ _ (by decide)]; exact c_321
  have c_322 : f_1 322 = ai (ca 0) 8 (z 3) := by rw [ef_1, va_up_ne _ _ (by decide)]; exact c_322
  have c_323 : f_1 323 = ai (ca 0) 8 (z 4) := by rw [ef_1, va_up_ne _ _ (by decide)]; exact c_323
  have c_324 : f_1 324 = ai (ca 0) 8 shR := by rw [ef_1, va_up_ne _ _ (by decide)]; exact c_324
  have c_325 : f_1 325 = ai (ca 0) 64 shK := by rw [ef_1, va_up_ne _ _ (by decide)]; exact c_325
  have qn_0 : (va_up n 7 0) 0 = n 0 := by rw [va_up_ne _ _ (by decide)]
  have qn_1 : (va_up n 7 0) 1 = n 1 := by rw [va_up_ne _ _ (by decide)]
  have qn_2 : (va_up n 7 0) 2 = n 2 := by rw [va_up_ne _ _ (by decide)]
  have qn_3 : (va_up n 7 0) 3 = n 3 := by rw [va_up_ne _ _ (by decide)]
  have qn_4 : (va_up n 7 0) 4 = n 4 := by rw [va_up_ne _ _ (by decide)]
  have qn_5 : (va_up n 7 0) 5 = n 5 := by rw [va_up_ne _ _ (by decide)]
  have qn_6 : (va_up n 7 0) 6 = n 6 := by rw [va_up_ne _ _ (by decide)]
  have qn_7 : (va_up n 7 0) 7 = 0 := by rw [va_up_self]
  have hRk : RepM ca ad (va_up n 7 0) g z zn tb f_1 := ⟨(by rw [qn_7, qn_0, qn_1, qn_2, qn_3, qn_4, qn_5]; exact c_302),
        c_303,
        c_304,
        c_305,
        c_306,
        c_307,
        c_308,
        c_309,
        c_310,
        c_311,
        c_312,
        c_313,
        c_314,
        c_315,
        c_316,
        c_317,
        c_318,
        c_319,
        c_320,
        c_321,
        c_322,
        c_323,
        c_324,
        c_325, hzn⟩
  have hfr : ∀ y, (y < 302 ∨ 326 ≤ y) → f_1 y = f y := (fun y hy => by rw [ef_1, va_up_ne _ _ (by omega)])
  refine x_Vi (q := 302) (As := [.int (nI i)]) (rest := []) ⟨hx, hb, hml, hown, hts⟩ (k_X6_isFile_yes l D ca N ad B tR tK f_1 dd hN (va_up n 7 0) g z zn tb hRk i (by omega) (by omega)) (cwV 1 hts gX6_about_X6_isFile rfl rfl rfl (by decide +kernel) ⟨Nat.le_of_ble_eq_true rfl, Nat.le_of_ble_eq_true rfl⟩) hK hE hB hw (by omega) c_302 rfl rfl rfl rfl hl.1 (Nat.le_of_ble_eq_true rfl) ⟨Nat.zero_le _, Nat.zero_le _⟩ dX6_about_7 (fun r_3 f_2 H locs hp hw => ?_)
  obtain ⟨er, hp⟩ := hp
  rw [← er]
  rw [← hp] at hw
  refine lv_if_ne (tgt := 15) hx hb dX6_about_10 (by decide) (fun _ => ?_) (fun h => absurd h (by decide))
  refine lv_iload_n hx hb dX6_about_15 rfl (lv_at hl 2 rfl) ?_
  refine lv_tableIn (off := 39) (tgt := 55) hx hb dX6_about_16 (by decide) (by decide) (by decide) (by decide) ?_
  refine lv_aload_n hx hb dX6_about_55 rfl (lv_at hl 0 rfl) ?_
  refine x_get (ci := 7) (C := RX6) (T := TX6) (n := 32) (ref := RX6) hx hb hts hin_7 hown hK hw 302 (by omega) c_302 rfl 9 (by decide) hf_26 (fun _ h => h) rfl dX6_about_56 ?_
  refine lv_iload_n hx hb dX6_about_59 rfl (lv_at hl 1 rfl) ?_
  refine x_iald (j := i) hx hb hK hw 308 0 (by omega) c_308 rfl rfl (by omega) (by decide) dX6_about_60 ?_
  have qn_0 : (va_up n 7 0) 0 = n 0 := by rw [va_up_ne _ _ (by decide)]
  have qn_1 : (va_up n 7 0) 1 = n 1 := by rw [va_up_ne _ _ (by decide)]
  have qn_2 : (va_up n 7 0) 2 = n 2 := by rw [va_up_ne _ _ (by decide)]
  have qn_3 : (va_up n 7 0) 3 = n 3 := by rw [va_up_ne _ _ (by decide)]
  have qn_4 : (va_up n 7 0) 4 = n 4 := by rw [va_up_ne _ _ (by decide)]
  have qn_5 : (va_up n 7 0) 5 = n 5 := by rw [va_up_ne _ _ (by decide)]
  have qn_6 : (va_up n 7 0) 6 = n 6 := by rw [va_up_ne _ _ (by decide)]
  have qn_7 : (va_up n 7 0) 7 = 0 := by rw [va_up_self]
  have hRz : RepM ca ad (va_up n 7 0) g z zn tb f_1 := ⟨(by rw [qn_7, qn_0, qn_1, qn_2, qn_3, qn_4, qn_5]; exact c_302),
        c_303,
        c_304,
        c_305,
        c_306,
        c_307,
        c_308,
        c_309,
        c_310,
        c_311,
        c_312,
        c_313,
        c_314,
        c_315,
        c_316,
        c_317,
        c_318,
        c_319,
        c_320,
        c_321,
        c_322,
        c_323,
        c_324,
        c_325, hzn⟩
  exact x_iret hx hb hr hlocks hw ⟨rfl, z, zn, hRz, (fun y hy => by rw [ef_1, va_up_ne _ _ (by omega)])⟩ dX6_about_61

set_option maxHeartbeats 4000000 in
set_option maxRecDepth 100000 in
theorem k_X6_about_w2 (l : Launch) (D : va_G) (ca : Nat → ClassId) (N : Nat) (ad : Nat → Nat) (B tR tK : Nat) (f : Nat → va_E) (dd : xD N ad B) (hN : 326 ≤ N) (n : Nat → Nat) (g : Nat → Nat → Int32) (z : Nat → Nat → Int32) (zn : Nat) (tb : Nat → Int32) (hR : RepM ca ad n g z zn tb f) (i : Nat) (h2 : n 2 ≤ 20) (hi : i < n 2) : xMi l yX6_about wsX6_about rmX6_about [.ref (ad 302), .int (nI i), .int (nI 2)] D ca N ad B tR tK f (fun r u => g 7 i = r ∧ ∃ (z1 : Nat → Nat → Int32) (zn1 : Nat), RepM ca ad (va_up n 7 0) g z1 zn1 tb u ∧ ∀ y, (y < 302 ∨ 326 ≤ y) → u y = f y) := by
  refine x_open (cc := cX6_about) (maxL := 3) (ret := (some .int)) (by decide) rfl (Nat.le_of_ble_eq_true rfl) ?_
  intro p e s m below meth c ls hx hb hml hown hts hr hlocks hnm hB hK hE hw hl
  have hown : s.vm.findClass RX6 = some m.cls := hown
  have hl : lv_has ls 3 [(0, .ref (ad 302)), (1, .int (nI i)), (2, .int (nI 2))] := hl
  obtain ⟨c_302, c_303, c_304, c_305, c_306, c_307, c_308, c_309, c_310, c_311, c_312, c_313, c_314, c_315, c_316, c_317, c_318, c_319, c_320, c_321, c_322, c_323, c_324, c_325, hzn⟩ := hR
  have hin_7 : ∀ w ∈ u_ws RX6 TX6 32, w ∈ wsX6_about := by decide +kernel
  have hf_160 := hts (.fieldLink RX6 160 "FixityRowsModel" "thrown" "I") (by decide +kernel)
  have hf_32 := hts (.fieldLink RX6 32 "FixityRowsModel" "due" "[I") (by decide +kernel)
  have b_302 := c_302
  have b_303 := c_303
  have b_304 := c_304
  have b_305 := c_305
  have b_306 := c_306
  have b_307 := c_307
  have b_308 := c_308
  have b_309 := c_309
  have b_310 := c_310
  have b_311 := c_311
  have b_312 := c_312
  have b_313 := c_313
  have b_314 := c_314
  have b_315 := c_315
  have b_316 := c_316
  have b_317 := c_317
  have b_318 := c_318
  have b_319 := c_319
  have b_320 := c_320
  have b_321 := c_321
  have b_322 := c_322
  have b_323 := c_323
  have b_324 := c_324
  have b_325 := c_325
  refine lv_aload_n hx hb dX6_about_0 rfl (lv_at hl 0 rfl) ?_
  refine lv_iconst (v := nI 0) hx hb dX6_about_1 (by decide) ?_
  refine x_put (ci := 7) (C := RX6) (T := TX6) (n := 32) (ref := RX6) (fs' := mO ad 0 (n 0) (n 1) (n 2) (g 13 0) (n 3) (n 4) (n 5) zn) hx hb hts hin_7 tyX6 tyX6_ok nmX6 hown hK dd hw 302 (by omega) c_302 rfl 0 (by decide) hf_160 (fun _ h => h) rfl rfl rfl (Nat.le_of_ble_eq_true rfl) rfl dX6_about_2 (fun H locs hw => ?_)
  obtain ⟨f_1, ef_1⟩ : ∃ z, z = va_up f 302 (.inr (7, mO ad 0 (n 0) (n 1) (n 2) (g 13 0) (n 3) (n 4) (n 5) zn)) := ⟨_, rfl⟩
  have hw : xw D vwCl N ad B s.heap f_1 H locs := by rw [ef_1]; exact hw
  have c_302 : f_1 302 = .inr (7, mO ad 0 (n 0) (n 1) (n 2) (g 13 0) (n 3) (n 4) (n 5) zn) := va_up_of ef_1
  refine lv_aload_n hx hb dX6_about_5 rfl (lv_at hl 0 rfl) ?_
  refine lv_iload_n hx hb dX6_about_6 rfl (lv_at hl 1 rfl) ?_
  have c_303 : f_1 303 = ai (ca 1) 200 (g 0) := by rw [ef_1, va_up_ne _ _ (by decide)]; exact c_303
  have c_304 : f_1 304 = ai (ca 1) 4000 (g 1) := by rw [ef_1, va_up_ne _ _ (by decide)]; exact c_304
  have c_305 : f_1 305 = ai (ca 0) 20 (g 2) := by rw [ef_1, va_up_ne _ _ (by decide)]; exact c_305
  have c_306 : f_1 306 = ai (ca 0) 20 (g 3) := by rw [ef_1, va_up_ne _ _ (by decide)]; exact c_306
  have c_307 : f_1 307 = ai (ca 1) 720 (g 4) := by rw [ef_1, va_up_ne _ _ (by decide)]; exact c_307
  have c_308 : f_1 308 = ai (ca 0) 20 (g 5) := by rw [ef_1, va_up_ne _ _ (by decide)]; exact c_308
  have c_309 : f_1 309 = ai (ca 0) 20 (g 6) := by rw [ef_1, va_up_ne _ _ (by decide)]; exact c_309
  have c_310 : f_1 310 = ai (ca 0) 20 (g 7) := by rw [ef_1, va_up_ne _ _ (by decide)]; exact c_310
  have c_311 : f_1 311 = ai (ca 0) 20 (g 8) := by rw [ef_1, va_up_ne _ _ (by decide)]; exact c_311
  have c_312 : f_1 312 = ai (ca 0) 20 (g 9) := by rw [ef_1, va_up_ne _ _ (by decide)]; exact c_312
  have c_313 : f_1 313 = ai (ca 2) 20 (g 10) := by rw [ef_1, va_up_ne _ _ (by decide)]; exact c_313
  have c_314 : f_1 314 = ai (ca 0) 200 (g 11) := by rw [ef_1, va_up_ne _ _ (by decide)]; exact c_314
  have c_315 : f_1 315 = ai (ca 0) 200 (g 12) := by rw [ef_1, va_up_ne _ _ (by decide)]; exact c_315
  have c_316 : f_1 316 = ai (ca 0) 200 (g 14) := by rw [ef_1, va_up_ne _ _ (by decide)]; exact c_316
  have c_317 : f_1 317 = ai (ca 1) 6400 (g 15) := by rw [ef_1, va_up_ne _ _ (by decide)]; exact c_317
  have c_318 : f_1 318 = ai (ca 1) 32 (g 16) := by rw [ef_1, va_up_ne _ _ (by decide)]; exact c_318
  have c_319 : f_1 319 = ai (ca 1) 320 (z 0) := by rw [ef_1, va_up_ne _ _ (by decide)]; exact c_319
  have c_320 : f_1 320 = ai (ca 1) 36 (z 1) := by rw [ef_1, va_up_ne _ _ (by decide)]; exact c_320
  have c_321 : f_1 321 = ai (ca 0) 64 (z 2) := by rw [ef_1, va_up_ne _ _ (by decide)]; exact c_321
  have c_322 : f_1 322 = ai (ca 0) 8 (z 3) := by rw [ef_1, va_up_ne _ _ (by decide)]; exact c_322
  have c_323 : f_1 323 = ai (ca 0) 8 (z 4) := by rw [ef_1, va_up_ne _ _ (by decide)]; exact c_323
  have c_324 : f_1 324 = ai (ca 0) 8 shR := by rw [ef_1, va_up_ne _ _ (by decide)]; exact c_324
  have c_325 : f_1 325 = ai (ca 0) 64 shK := by rw [ef_1, va_up_ne _ _ (by decide)]; exact c_325
  have qn_0 : (va_up n 7 0) 0 = n 0 := by rw [va_up_ne _ _ (by decide)]
  have qn_1 : (va_up n 7 0) 1 = n 1 := by rw [va_up_ne _ _ (by decide)]
  have qn_2 : (va_up n 7 0) 2 = n 2 := by rw [va_up_ne _ _ (by decide)]
  have qn_3 : (va_up n 7 0) 3 = n 3 := by rw [va_up_ne _ _ (by decide)]
  have qn_4 : (va_up n 7 0) 4 = n 4 := by rw [va_up_ne _ _ (by decide)]
  have qn_5 : (va_up n 7 0) 5 = n 5 := by rw [va_up_ne _ _ (by decide)]
  have qn_6 : (va_up n 7 0) 6 = n 6 := by rw [va_up_ne _ _ (by decide)]
  have qn_7 : (va_up n 7 0) 7 = 0 := by rw [va_up_self]
  have hRk : RepM ca ad (va_up n 7 0) g z zn tb f_1 := ⟨(by rw [qn_7, qn_0, qn_1, qn_2, qn_3, qn_4, qn_5]; exact c_302),
        c_303,
        c_304,
        c_305,
        c_306,
        c_307,
        c_308,
        c_309,
        c_310,
        c_311,
        c_312,
        c_313,
        c_314,
        c_315,
        c_316,
        c_317,
        c_318,
        c_319,
        c_320,
        c_321,
        c_322,
        c_323,
        c_324,
        c_325, hzn⟩
  have hfr : ∀ y, (y < 302 ∨ 326 ≤ y) → f_1 y = f y := (fun y hy => by rw [ef_1, va_up_ne _ _ (by omega)])
  refine x_Vi (q := 302) (As := [.int (nI i)]) (rest := []) ⟨hx, hb, hml, hown, hts⟩ (k_X6_isFile_yes l D ca N ad B tR tK f_1 dd hN (va_up n 7 0) g z zn tb hRk i (by omega) (by omega)) (cwV 1 hts gX6_about_X6_isFile rfl rfl rfl (by decide +kernel) ⟨Nat.le_of_ble_eq_true rfl, Nat.le_of_ble_eq_true rfl⟩) hK hE hB hw (by omega) c_302 rfl rfl rfl rfl hl.1 (Nat.le_of_ble_eq_true rfl) ⟨Nat.zero_le _, Nat.zero_le _⟩ dX6_about_7 (fun r_3 f_2 H locs hp hw => ?_)
  obtain ⟨er, hp⟩ := hp
  rw [← er]
  rw [← hp] at hw
  refine lv_if_ne (tgt := 15) hx hb dX6_about_10 (by decide) (fun _ => ?_) (fun h => absurd h (by decide))
  refine lv_iload_n hx hb dX6_about_15 rfl (lv_at hl 2 rfl) ?_
  refine lv_tableIn (off := 46) (tgt := 62) hx hb dX6_about_16 (by decide) (by decide) (by decide) (by decide) ?_
  refine lv_aload_n hx hb dX6_about_62 rfl (lv_at hl 0 rfl) ?_
  refine x_get (ci := 7) (C := RX6) (T := TX6) (n := 32) (ref := RX6) hx hb hts hin_7 hown hK hw 302 (by omega) c_302 rfl 11 (by decide) hf_32 (fun _ h => h) rfl dX6_about_63 ?_
  refine lv_iload_n hx hb dX6_about_66 rfl (lv_at hl 1 rfl) ?_
  refine x_iald (j := i) hx hb hK hw 310 0 (by omega) c_310 rfl rfl (by omega) (by decide) dX6_about_67 ?_
  have qn_0 : (va_up n 7 0) 0 = n 0 := by rw [va_up_ne _ _ (by decide)]
  have qn_1 : (va_up n 7 0) 1 = n 1 := by rw [va_up_ne _ _ (by decide)]
  have qn_2 : (va_up n 7 0) 2 = n 2 := by rw [va_up_ne _ _ (by decide)]
  have qn_3 : (va_up n 7 0) 3 = n 3 := by rw [va_up_ne _ _ (by decide)]
  have qn_4 : (va_up n 7 0) 4 = n 4 := by rw [va_up_ne _ _ (by decide)]
  have qn_5 : (va_up n 7 0) 5 = n 5 := by rw [va_up_ne _ _ (by decide)]
  have qn_6 : (va_up n 7 0) 6 = n 6 := by rw [va_up_ne _ _ (by decide)]
  have qn_7 : (va_up n 7 0) 7 = 0 := by rw [va_up_self]
  have hRz : RepM ca ad (va_up n 7 0) g z zn tb f_1 := ⟨(by rw [qn_7, qn_0, qn_1, qn_2, qn_3, qn_4, qn_5]; exact c_302),
        c_303,
        c_304,
        c_305,
        c_306,
        c_307,
        c_308,
        c_309,
        c_310,
        c_311,
        c_312,
        c_313,
        c_314,
        c_315,
        c_316,
        c_317,
        c_318,
        c_319,
        c_320,
        c_321,
        c_322,
        c_323,
        c_324,
        c_325, hzn⟩
  exact x_iret hx hb hr hlocks hw ⟨rfl, z, zn, hRz, (fun y hy => by rw [ef_1, va_up_ne _ _ (by omega)])⟩ dX6_about_68

set_option maxHeartbeats 4000000 in
set_option maxRecDepth 100000 in
theorem k_X6_about_w3 (l : Launch) (D : va_G) (ca : Nat → ClassId) (N : Nat) (ad : Nat → Nat) (B tR tK : Nat) (f : Nat → va_E) (dd : xD N ad B) (hN : 326 ≤ N) (n : Nat → Nat) (g : Nat → Nat → Int32) (z : Nat → Nat → Int32) (zn : Nat) (tb : Nat → Int32) (hR : RepM ca ad n g z zn tb f) (i : Nat) (h2 : n 2 ≤ 20) (hi : i < n 2) : xMi l yX6_about wsX6_about rmX6_about [.ref (ad 302), .int (nI i), .int (nI 3)] D ca N ad B tR tK f (fun r u => g 6 i = r ∧ ∃ (z1 : Nat → Nat → Int32) (zn1 : Nat), RepM ca ad (va_up n 7 0) g z1 zn1 tb u ∧ ∀ y, (y < 302 ∨ 326 ≤ y) → u y = f y) := by
  refine x_open (cc := cX6_about) (maxL := 3) (ret := (some .int)) (by decide) rfl (Nat.le_of_ble_eq_true rfl) ?_
  intro p e s m below meth c ls hx hb hml hown hts hr hlocks hnm hB hK hE hw hl
  have hown : s.vm.findClass RX6 = some m.cls := hown
  have hl : lv_has ls 3 [(0, .ref (ad 302)), (1, .int (nI i)), (2, .int (nI 3))] := hl
  obtain ⟨c_302, c_303, c_304, c_305, c_306, c_307, c_308, c_309, c_310, c_311, c_312, c_313, c_314, c_315, c_316, c_317, c_318, c_319, c_320, c_321, c_322, c_323, c_324, c_325, hzn⟩ := hR
  have hin_7 : ∀ w ∈ u_ws RX6 TX6 32, w ∈ wsX6_about := by decide +kernel
  have hf_160 := hts (.fieldLink RX6 160 "FixityRowsModel" "thrown" "I") (by decide +kernel)
  have hf_29 := hts (.fieldLink RX6 29 "FixityRowsModel" "mended" "[I") (by decide +kernel)
  have b_302 := c_302
  have b_303 := c_303
  have b_304 := c_304
  have b_305 := c_305
  have b_306 := c_306
  have b_307 := c_307
  have b_308 := c_308
  have b_309 := c_309
  have b_310 := c_310
  have b_311 := c_311
  have b_312 := c_312
  have b_313 := c_313
  have b_314 := c_314
  have b_315 := c_315
  have b_316 := c_316
  have b_317 := c_317
  have b_318 := c_318
  have b_319 := c_319
  have b_320 := c_320
  have b_321 := c_321
  have b_322 := c_322
  have b_323 := c_323
  have b_324 := c_324
  have b_325 := c_325
  refine lv_aload_n hx hb dX6_about_0 rfl (lv_at hl 0 rfl) ?_
  refine lv_iconst (v := nI 0) hx hb dX6_about_1 (by decide) ?_
  refine x_put (ci := 7) (C := RX6) (T := TX6) (n := 32) (ref := RX6) (fs' := mO ad 0 (n 0) (n 1) (n 2) (g 13 0) (n 3) (n 4) (n 5) zn) hx hb hts hin_7 tyX6 tyX6_ok nmX6 hown hK dd hw 302 (by omega) c_302 rfl 0 (by decide) hf_160 (fun _ h => h) rfl rfl rfl (Nat.le_of_ble_eq_true rfl) rfl dX6_about_2 (fun H locs hw => ?_)
  obtain ⟨f_1, ef_1⟩ : ∃ z, z = va_up f 302 (.inr (7, mO ad 0 (n 0) (n 1) (n 2) (g 13 0) (n 3) (n 4) (n 5) zn)) := ⟨_, rfl⟩
  have hw : xw D vwCl N ad B s.heap f_1 H locs := by rw [ef_1]; exact hw
  have c_302 : f_1 302 = .inr (7, mO ad 0 (n 0) (n 1) (n 2) (g 13 0) (n 3) (n 4) (n 5) zn) := va_up_of ef_1
  refine lv_aload_n hx hb dX6_about_5 rfl (lv_at hl 0 rfl) ?_
  refine lv_iload_n hx hb dX6_about_6 rfl (lv_at hl 1 rfl) ?_
  have c_303 : f_1 303 = ai (ca 1) 200 (g 0) := by rw [ef_1, va_up_ne _ _ (by decide)]; exact c_303
  have c_304 : f_1 304 = ai (ca 1) 4000 (g 1) := by rw [ef_1, va_up_ne _ _ (by decide)]; exact c_304
  have c_305 : f_1 305 = ai (ca 0) 20 (g 2) := by rw [ef_1, va_up_ne _ _ (by decide)]; exact c_305
  have c_306 : f_1 306 = ai (ca 0) 20 (g 3) := by rw [ef_1, va_up_ne _ _ (by decide)]; exact c_306
  have c_307 : f_1 307 = ai (ca 1) 720 (g 4) := by rw [ef_1, va_up_ne _ _ (by decide)]; exact c_307
  have c_308 : f_1 308 = ai (ca 0) 20 (g 5) := by rw [ef_1, va_up_ne _ _ (by decide)]; exact c_308
  have c_309 : f_1 309 = ai (ca 0) 20 (g 6) := by rw [ef_1, va_up_ne _ _ (by decide)]; exact c_309
  have c_310 : f_1 310 = ai (ca 0) 20 (g 7) := by rw [ef_1, va_up_ne _ _ (by decide)]; exact c_310
  have c_311 : f_1 311 = ai (ca 0) 20 (g 8) := by rw [ef_1, va_up_ne _ _ (by decide)]; exact c_311
  have c_312 : f_1 312 = ai (ca 0) 20 (g 9) := by rw [ef_1, va_up_ne _ _ (by decide)]; exact c_312
  have c_313 : f_1 313 = ai (ca 2) 20 (g 10) := by rw [ef_1, va_up_ne _ _ (by decide)]; exact c_313
  have c_314 : f_1 314 = ai (ca 0) 200 (g 11) := by rw [ef_1, va_up_ne _ _ (by decide)]; exact c_314
  have c_315 : f_1 315 = ai (ca 0) 200 (g 12) := by rw [ef_1, va_up_ne _ _ (by decide)]; exact c_315
  have c_316 : f_1 316 = ai (ca 0) 200 (g 14) := by rw [ef_1, va_up_ne _ _ (by decide)]; exact c_316
  have c_317 : f_1 317 = ai (ca 1) 6400 (g 15) := by rw [ef_1, va_up_ne _ _ (by decide)]; exact c_317
  have c_318 : f_1 318 = ai (ca 1) 32 (g 16) := by rw [ef_1, va_up_ne _ _ (by decide)]; exact c_318
  have c_319 : f_1 319 = ai (ca 1) 320 (z 0) := by rw [ef_1, va_up_ne _ _ (by decide)]; exact c_319
  have c_320 : f_1 320 = ai (ca 1) 36 (z 1) := by rw [ef_1, va_up_ne _ _ (by decide)]; exact c_320
  have c_321 : f_1 321 = ai (ca 0) 64 (z 2) := by rw [ef_1, va_up_ne _ _ (by decide)]; exact c_321
  have c_322 : f_1 322 = ai (ca 0) 8 (z 3) := by rw [ef_1, va_up_ne _ _ (by decide)]; exact c_322
  have c_323 : f_1 323 = ai (ca 0) 8 (z 4) := by rw [ef_1, va_up_ne _ _ (by decide)]; exact c_323
  have c_324 : f_1 324 = ai (ca 0) 8 shR := by rw [ef_1, va_up_ne _ _ (by decide)]; exact c_324
  have c_325 : f_1 325 = ai (ca 0) 64 shK := by rw [ef_1, va_up_ne _ _ (by decide)]; exact c_325
  have qn_0 : (va_up n 7 0) 0 = n 0 := by rw [va_up_ne _ _ (by decide)]
  have qn_1 : (va_up n 7 0) 1 = n 1 := by rw [va_up_ne _ _ (by decide)]
  have qn_2 : (va_up n 7 0) 2 = n 2 := by rw [va_up_ne _ _ (by decide)]
  have qn_3 : (va_up n 7 0) 3 = n 3 := by rw [va_up_ne _ _ (by decide)]
  have qn_4 : (va_up n 7 0) 4 = n 4 := by rw [va_up_ne _ _ (by decide)]
  have qn_5 : (va_up n 7 0) 5 = n 5 := by rw [va_up_ne _ _ (by decide)]
  have qn_6 : (va_up n 7 0) 6 = n 6 := by rw [va_up_ne _ _ (by decide)]
  have qn_7 : (va_up n 7 0) 7 = 0 := by rw [va_up_self]
  have hRk : RepM ca ad (va_up n 7 0) g z zn tb f_1 := ⟨(by rw [qn_7, qn_0, qn_1, qn_2, qn_3, qn_4, qn_5]; exact c_302),
        c_303,
        c_304,
        c_305,
        c_306,
        c_307,
        c_308,
        c_309,
        c_310,
        c_311,
        c_312,
        c_313,
        c_314,
        c_315,
        c_316,
        c_317,
        c_318,
        c_319,
        c_320,
        c_321,
        c_322,
        c_323,
        c_324,
        c_325, hzn⟩
  have hfr : ∀ y, (y < 302 ∨ 326 ≤ y) → f_1 y = f y := (fun y hy => by rw [ef_1, va_up_ne _ _ (by omega)])
  refine x_Vi (q := 302) (As := [.int (nI i)]) (rest := []) ⟨hx, hb, hml, hown, hts⟩ (k_X6_isFile_yes l D ca N ad B tR tK f_1 dd hN (va_up n 7 0) g z zn tb hRk i (by omega) (by omega)) (cwV 1 hts gX6_about_X6_isFile rfl rfl rfl (by decide +kernel) ⟨Nat.le_of_ble_eq_true rfl, Nat.le_of_ble_eq_true rfl⟩) hK hE hB hw (by omega) c_302 rfl rfl rfl rfl hl.1 (Nat.le_of_ble_eq_true rfl) ⟨Nat.zero_le _, Nat.zero_le _⟩ dX6_about_7 (fun r_3 f_2 H locs hp hw => ?_)
  obtain ⟨er, hp⟩ := hp
  rw [← er]
  rw [← hp] at hw
  refine lv_if_ne (tgt := 15) hx hb dX6_about_10 (by decide) (fun _ => ?_) (fun h => absurd h (by decide))
  refine lv_iload_n hx hb dX6_about_15 rfl (lv_at hl 2 rfl) ?_
  refine lv_tableIn (off := 53) (tgt := 69) hx hb dX6_about_16 (by decide) (by decide) (by decide) (by decide) ?_
  refine lv_aload_n hx hb dX6_about_69 rfl (lv_at hl 0 rfl) ?_
  refine x_get (ci := 7) (C := RX6) (T := TX6) (n := 32) (ref := RX6) hx hb hts hin_7 hown hK hw 302 (by omega) c_302 rfl 10 (by decide) hf_29 (fun _ h => h) rfl dX6_about_70 ?_
  refine lv_iload_n hx hb dX6_about_73 rfl (lv_at hl 1 rfl) ?_
  refine x_iald (j := i) hx hb hK hw 309 0 (by omega) c_309 rfl rfl (by omega) (by decide) dX6_about_74 ?_
  have qn_0 : (va_up n 7 0) 0 = n 0 := by rw [va_up_ne _ _ (by decide)]
  have qn_1 : (va_up n 7 0) 1 = n 1 := by rw [va_up_ne _ _ (by decide)]
  have qn_2 : (va_up n 7 0) 2 = n 2 := by rw [va_up_ne _ _ (by decide)]
  have qn_3 : (va_up n 7 0) 3 = n 3 := by rw [va_up_ne _ _ (by decide)]
  have qn_4 : (va_up n 7 0) 4 = n 4 := by rw [va_up_ne _ _ (by decide)]
  have qn_5 : (va_up n 7 0) 5 = n 5 := by rw [va_up_ne _ _ (by decide)]
  have qn_6 : (va_up n 7 0) 6 = n 6 := by rw [va_up_ne _ _ (by decide)]
  have qn_7 : (va_up n 7 0) 7 = 0 := by rw [va_up_self]
  have hRz : RepM ca ad (va_up n 7 0) g z zn tb f_1 := ⟨(by rw [qn_7, qn_0, qn_1, qn_2, qn_3, qn_4, qn_5]; exact c_302),
        c_303,
        c_304,
        c_305,
        c_306,
        c_307,
        c_308,
        c_309,
        c_310,
        c_311,
        c_312,
        c_313,
        c_314,
        c_315,
        c_316,
        c_317,
        c_318,
        c_319,
        c_320,
        c_321,
        c_322,
        c_323,
        c_324,
        c_325, hzn⟩
  exact x_iret hx hb hr hlocks hw ⟨rfl, z, zn, hRz, (fun y hy => by rw [ef_1, va_up_ne _ _ (by omega)])⟩ dX6_about_75

set_option maxHeartbeats 4000000 in
set_option maxRecDepth 100000 in
theorem k_X6_about_no (l : Launch) (D : va_G) (ca : Nat → ClassId) (N : Nat) (ad : Nat → Nat) (B tR tK : Nat) (f : Nat → va_E) (dd : xD N ad B) (hN : 326 ≤ N) (n : Nat → Nat) (g : Nat → Nat → Int32) (z : Nat → Nat → Int32) (zn : Nat) (tb : Nat → Int32) (hR : RepM ca ad n g z zn tb f) (i : Nat) (y : Int32) (h2 : n 2 ≤ 20) (hi : i < n 2) (ho : y.toInt < 0 ∨ 3 < y.toInt) : xMi l yX6_about wsX6_about rmX6_about [.ref (ad 302), .int (nI i), .int y] D ca N ad B tR tK f (fun r u => (-1) = r ∧ ∃ (z1 : Nat → Nat → Int32) (zn1 : Nat), RepM ca ad (va_up n 7 0) g z1 zn1 tb u ∧ ∀ y, (y < 302 ∨ 326 ≤ y) → u y = f y) := by
  refine x_open (cc := cX6_about) (maxL := 3) (ret := (some .int)) (by decide) rfl (Nat.le_of_ble_eq_true rfl) ?_
  intro p e s m below meth c ls hx hb hml hown hts hr hlocks hnm hB hK hE hw hl
  have hown : s.vm.findClass RX6 = some m.cls := hown
  have hl : lv_has ls 3 [(0, .ref (ad 302)), (1, .int (nI i)), (2, .int y)] := hl
  obtain ⟨c_302, c_303, c_304, c_305, c_306, c_307, c_308, c_309, c_310, c_311, c_312, c_313, c_314, c_315, c_316, c_317, c_318, c_319, c_320, c_321, c_322, c_323, c_324, c_325, hzn⟩ := hR
  have hin_7 : ∀ w ∈ u_ws RX6 TX6 32, w ∈ wsX6_about := by decide +kernel
  have hf_160 := hts (.fieldLink RX6 160 "FixityRowsModel" "thrown" "I") (by decide +kernel)
  have b_302 := c_302
  have b_303 := c_303
  have b_304 := c_304
  have b_305 := c_305
  have b_306 := c_306
  have b_307 := c_307
  have b_308 := c_308
  have b_309 := c_309
  have b_310 := c_310
  have b_311 := c_311
  have b_312 := c_312
  have b_313 := c_313
  have b_314 := c_314
  have b_315 := c_315
  have b_316 := c_316
  have b_317 := c_317
  have b_318 := c_318
  have b_319 := c_319
  have b_320 := c_320
  have b_321 := c_321
  have b_322 := c_322
  have b_323 := c_323
  have b_324 := c_324
  have b_325 := c_325
  refine lv_aload_n hx hb dX6_about_0 rfl (lv_at hl 0 rfl) ?_
  refine lv_iconst (v := nI 0) hx hb dX6_about_1 (by decide) ?_
  refine x_put (ci := 7) (C := RX6) (T := TX6) (n := 32) (ref := RX6) (fs' := mO ad 0 (n 0) (n 1) (n 2) (g 13 0) (n 3) (n 4) (n 5) zn) hx hb hts hin_7 tyX6 tyX6_ok nmX6 hown hK dd hw 302 (by omega) c_302 rfl 0 (by decide) hf_160 (fun _ h => h) rfl rfl rfl (Nat.le_of_ble_eq_true rfl) rfl dX6_about_2 (fun H locs hw => ?_)
  obtain ⟨f_1, ef_1⟩ : ∃ z, z = va_up f 302 (.inr (7, mO ad 0 (n 0) (n 1) (n 2) (g 13 0) (n 3) (n 4) (n 5) zn)) := ⟨_, rfl⟩
  have hw : xw D vwCl N ad B s.heap f_1 H locs := by rw [ef_1]; exact hw
  have c_302 : f_1 302 = .inr (7, mO ad 0 (n 0) (n 1) (n 2) (g 13 0) (n 3) (n 4) (n 5) zn) := va_up_of ef_1
  refine lv_aload_n hx hb dX6_about_5 rfl (lv_at hl 0 rfl) ?_
  refine lv_iload_n hx hb dX6_about_6 rfl (lv_at hl 1 rfl) ?_
  have c_303 : f_1 303 = ai (ca 1) 200 (g 0) := by rw [ef_1, va_up_ne _ _ (by decide)]; exact c_303
  have c_304 : f_1 304 = ai (ca 1) 4000 (g 1) := by rw [ef_1, va_up_ne _ _ (by decide)]; exact c_304
  have c_305 : f_1 305 = ai (ca 0) 20 (g 2) := by rw [ef_1, va_up_ne _ _ (by decide)]; exact c_305
  have c_306 : f_1 306 = ai (ca 0) 20 (g 3) := by rw [ef_1, va_up_ne _ _ (by decide)]; exact c_306
  have c_307 : f_1 307 = ai (ca 1) 720 (g 4) := by rw [ef_1, va_up_ne _ _ (by decide)]; exact c_307
  have c_308 : f_1 308 = ai (ca 0) 20 (g 5) := by rw [ef_1, va_up_ne _ _ (by decide)]; exact c_308
  have c_309 : f_1 309 = ai (ca 0) 20 (g 6) := by rw [ef_1, va_up_ne _ _ (by decide)]; exact c_309
  have c_310 : f_1 310 = ai (ca 0) 20 (g 7) := by rw [ef_1, va_up_ne _ _ (by decide)]; exact c_310
  have c_311 : f_1 311 = ai (ca 0) 20 (g 8) := by rw [ef_1, va_up_ne _ _ (by decide)]; exact c_311
  have c_312 : f_1 312 = ai (ca 0) 20 (g 9) := by rw [ef_1, va_up_ne _ _ (by decide)]; exact c_312
  have c_313 : f_1 313 = ai (ca 2) 20 (g 10) := by rw [ef_1, va_up_ne _ _ (by decide)]; exact c_313
  have c_314 : f_1 314 = ai (ca 0) 200 (g 11) := by rw [ef_1, va_up_ne _ _ (by decide)]; exact c_314
  have c_315 : f_1 315 = ai (ca 0) 200 (g 12) := by rw [ef_1, va_up_ne _ _ (by decide)]; exact c_315
  have c_316 : f_1 316 = ai (ca 0) 200 (g 14) := by rw [ef_1, va_up_ne _ _ (by decide)]; exact c_316
  have c_317 : f_1 317 = ai (ca 1) 6400 (g 15) := by rw [ef_1, va_up_ne _ _ (by decide)]; exact c_317
  have c_318 : f_1 318 = ai (ca 1) 32 (g 16) := by rw [ef_1, va_up_ne _ _ (by decide)]; exact c_318
  have c_319 : f_1 319 = ai (ca 1) 320 (z 0) := by rw [ef_1, va_up_ne _ _ (by decide)]; exact c_319
  have c_320 : f_1 320 = ai (ca 1) 36 (z 1) := by rw [ef_1, va_up_ne _ _ (by decide)]; exact c_320
  have c_321 : f_1 321 = ai (ca 0) 64 (z 2) := by rw [ef_1, va_up_ne _ _ (by decide)]; exact c_321
  have c_322 : f_1 322 = ai (ca 0) 8 (z 3) := by rw [ef_1, va_up_ne _ _ (by decide)]; exact c_322
  have c_323 : f_1 323 = ai (ca 0) 8 (z 4) := by rw [ef_1, va_up_ne _ _ (by decide)]; exact c_323
  have c_324 : f_1 324 = ai (ca 0) 8 shR := by rw [ef_1, va_up_ne _ _ (by decide)]; exact c_324
  have c_325 : f_1 325 = ai (ca 0) 64 shK := by rw [ef_1, va_up_ne _ _ (by decide)]; exact c_325
  have qn_0 : (va_up n 7 0) 0 = n 0 := by rw [va_up_ne _ _ (by decide)]
  have qn_1 : (va_up n 7 0) 1 = n 1 := by rw [va_up_ne _ _ (by decide)]
  have qn_2 : (va_up n 7 0) 2 = n 2 := by rw [va_up_ne _ _ (by decide)]
  have qn_3 : (va_up n 7 0) 3 = n 3 := by rw [va_up_ne _ _ (by decide)]
  have qn_4 : (va_up n 7 0) 4 = n 4 := by rw [va_up_ne _ _ (by decide)]
  have qn_5 : (va_up n 7 0) 5 = n 5 := by rw [va_up_ne _ _ (by decide)]
  have qn_6 : (va_up n 7 0) 6 = n 6 := by rw [va_up_ne _ _ (by decide)]
  have qn_7 : (va_up n 7 0) 7 = 0 := by rw [va_up_self]
  have hRk : RepM ca ad (va_up n 7 0) g z zn tb f_1 := ⟨(by rw [qn_7, qn_0, qn_1, qn_2, qn_3, qn_4, qn_5]; exact c_302),
        c_303,
        c_304,
        c_305,
        c_306,
        c_307,
        c_308,
        c_309,
        c_310,
        c_311,
        c_312,
        c_313,
        c_314,
        c_315,
        c_316,
        c_317,
        c_318,
        c_319,
        c_320,
        c_321,
        c_322,
        c_323,
        c_324,
        c_325, hzn⟩
  have hfr : ∀ y, (y < 302 ∨ 326 ≤ y) → f_1 y = f y := (fun y hy => by rw [ef_1, va_up_ne _ _ (by omega)])
  refine x_Vi (q := 302) (As := [.int (nI i)]) (rest := []) ⟨hx, hb, hml, hown, hts⟩ (k_X6_isFile_yes l D ca N ad B tR tK f_1 dd hN (va_up n 7 0) g z zn tb hRk i (by omega) (by omega)) (cwV 1 hts gX6_about_X6_isFile rfl rfl rfl (by decide +kernel) ⟨Nat.le_of_ble_eq_true rfl, Nat.le_of_ble_eq_true rfl⟩) hK hE hB hw (by omega) c_302 rfl rfl rfl rfl hl.1 (Nat.le_of_ble_eq_true rfl) ⟨Nat.zero_le _, Nat.zero_le _⟩ dX6_about_7 (fun r_3 f_2 H locs hp hw => ?_)
  obtain ⟨er, hp⟩ := hp
  rw [← er]
  rw [← hp] at hw
  refine lv_if_ne (tgt := 15) hx hb dX6_about_10 (by decide) (fun _ => ?_) (fun h => absurd h (by decide))
  refine lv_iload_n hx hb dX6_about_15 rfl (lv_at hl 2 rfl) ?_
  refine lv_tableOut (tgt := 76) hx hb dX6_about_16 ho (by decide) ?_
  refine lv_iconst (v := (-1)) hx hb dX6_about_76 (by decide) ?_
  have qn_0 : (va_up n 7 0) 0 = n 0 := by rw [va_up_ne _ _ (by decide)]
  have qn_1 : (va_up n 7 0) 1 = n 1 := by rw [va_up_ne _ _ (by decide)]
  have qn_2 : (va_up n 7 0) 2 = n 2 := by rw [va_up_ne _ _ (by decide)]
  have qn_3 : (va_up n 7 0) 3 = n 3 := by rw [va_up_ne _ _ (by decide)]
  have qn_4 : (va_up n 7 0) 4 = n 4 := by rw [va_up_ne _ _ (by decide)]
  have qn_5 : (va_up n 7 0) 5 = n 5 := by rw [va_up_ne _ _ (by decide)]
  have qn_6 : (va_up n 7 0) 6 = n 6 := by rw [va_up_ne _ _ (by decide)]
  have qn_7 : (va_up n 7 0) 7 = 0 := by rw [va_up_self]
  have hRz : RepM ca ad (va_up n 7 0) g z zn tb f_1 := ⟨(by rw [qn_7, qn_0, qn_1, qn_2, qn_3, qn_4, qn_5]; exact c_302),
        c_303,
        c_304,
        c_305,
        c_306,
        c_307,
        c_308,
        c_309,
        c_310,
        c_311,
        c_312,
        c_313,
        c_314,
        c_315,
        c_316,
        c_317,
        c_318,
        c_319,
        c_320,
        c_321,
        c_322,
        c_323,
        c_324,
        c_325, hzn⟩
  exact x_iret hx hb hr hlocks hw ⟨rfl, z, zn, hRz, (fun y hy => by rw [ef_1, va_up_ne _ _ (by omega)])⟩ dX6_about_77

def rw3 (r : Nat → Int32) (i : Nat) : Int32 := (((nI 0 <<< (nI 8 &&& 31) ||| r (32 * i + 0) &&& nI 255) <<< (nI 8 &&& 31) ||| r (32 * i + 1) &&& nI 255) <<< (nI 8 &&& 31) ||| r (32 * i + 2) &&& nI 255) <<< (nI 8 &&& 31) ||| r (32 * i + 3) &&& nI 255

abbrev rmX6_row : Room := { frames := 1, cells := 0, slots := 0, locals := 22 }

set_option maxHeartbeats 4000000 in
set_option maxRecDepth 100000 in
theorem k_X6_row_none (l : Launch) (D : va_G) (ca : Nat → ClassId) (N : Nat) (ad : Nat → Nat) (B tR tK : Nat) (f : Nat → va_E) (dd : xD N ad B) (hN : 326 ≤ N) (n : Nat → Nat) (g : Nat → Nat → Int32) (z : Nat → Nat → Int32) (zn : Nat) (tb : Nat → Int32) (hR : RepM ca ad n g z zn tb f) (x : Int32) (y : Int32) (h5 : n 4 ≤ 200) (ho : x < 0 ∨ nI (n 4) ≤ x) : xMi l yX6_row wsX6_row rmX6_row [.ref (ad 302), .int x, .int y] D ca N ad B tR tK f (fun r u => (-1) = r ∧ ∃ (z1 : Nat → Nat → Int32) (zn1 : Nat), RepM ca ad (va_up n 7 0) g z1 zn1 tb u ∧ ∀ y, (y < 302 ∨ 326 ≤ y) → u y = f y) := by
  refine x_open (cc := cX6_row) (maxL := 5) (ret := (some .int)) (by decide) rfl (Nat.le_of_ble_eq_true rfl) ?_
  intro p e s m below meth c ls hx hb hml hown hts hr hlocks hnm hB hK hE hw hl
  have hown : s.vm.findClass RX6 = some m.cls := hown
  have hl : lv_has ls 5 [(0, .ref (ad 302)), (1, .int x), (2, .int y)] := hl
  obtain ⟨c_302, c_303, c_304, c_305, c_306, c_307, c_308, c_309, c_310, c_311, c_312, c_313, c_314, c_315, c_316, c_317, c_318, c_319, c_320, c_321, c_322, c_323, c_324, c_325, hzn⟩ := hR
  have hin_7 : ∀ w ∈ u_ws RX6 TX6 32, w ∈ wsX6_row := by decide +kernel
  have hf_160 := hts (.fieldLink RX6 160 "FixityRowsModel" "thrown" "I") (by decide +kernel)
  have hf_203 := hts (.fieldLink RX6 203 "FixityRowsModel" "rows" "I") (by decide +kernel)
  have b_302 := c_302
  have b_303 := c_303
  have b_304 := c_304
  have b_305 := c_305
  have b_306 := c_306
  have b_307 := c_307
  have b_308 := c_308
  have b_309 := c_309
  have b_310 := c_310
  have b_311 := c_311
  have b_312 := c_312
  have b_313 := c_313
  have b_314 := c_314
  have b_315 := c_315
  have b_316 := c_316
  have b_317 := c_317
  have b_318 := c_318
  have b_319 := c_319
  have b_320 := c_320
  have b_321 := c_321
  have b_322 := c_322
  have b_323 := c_323
  have b_324 := c_324
  have b_325 := c_325
  refine lv_aload_n hx hb dX6_row_0 rfl (lv_at hl 0 rfl) ?_
  refine lv_iconst (v := nI 0) hx hb dX6_row_1 (by decide) ?_
  refine x_put (ci := 7) (C := RX6) (T := TX6) (n := 32) (ref := RX6) (fs' := mO ad 0 (n 0) (n 1) (n 2) (g 13 0) (n 3) (n 4) (n 5) zn) hx hb hts hin_7 tyX6 tyX6_ok nmX6 hown hK dd hw 302 (by omega) c_302 rfl 0 (by decide) hf_160 (fun _ h => h) rfl rfl rfl (Nat.le_of_ble_eq_true rfl) rfl dX6_row_2 (fun H locs hw => ?_)
  obtain ⟨f_1, ef_1⟩ : ∃ z, z = va_up f 302 (.inr (7, mO ad 0 (n 0) (n 1) (n 2) (g 13 0) (n 3) (n 4) (n 5) zn)) := ⟨_, rfl⟩
  have hw : xw D vwCl N ad B s.heap f_1 H locs := by rw [ef_1]; exact hw
  have c_302 : f_1 302 = .inr (7, mO ad 0 (n 0) (n 1) (n 2) (g 13 0) (n 3) (n 4) (n 5) zn) := va_up_of ef_1
  refine lv_iload_n hx hb dX6_row_5 rfl (lv_at hl 1 rfl) ?_
  refine lv_iconst (v := nI 0) hx hb dX6_row_6 (by decide) ?_
  refine lv_aload_n hx hb dX6_row_7 rfl (lv_at hl 0 rfl) ?_
  refine x_get (ci := 7) (C := RX6) (T := TX6) (n := 32) (ref := RX6) hx hb hts hin_7 hown hK hw 302 (by omega) c_302 rfl 17 (by decide) hf_203 (fun _ h => h) rfl dX6_row_8 ?_
  refine lv_iconst (v := nI 1) hx hb dX6_row_11 (by decide) ?_
  refine lv_isub hx hb dX6_row_12 ?_
  refine lv_topi (fun x_2 ex_2 => ?_)
  refine x_Si (As := [.int x, .int (nI 0), .int x_2]) (rest := []) ⟨hx, hb, hml, hown, hts⟩ (k_X6_in_no l D ca N ad B tR tK f_1 dd x (nI 0) x_2   (by rw [ex_2]; exact out_of (by omega) ho)) (va_cwS 3 hts gX6_row_X6_in rfl rfl rfl (by decide +kernel) ⟨Nat.le_of_ble_eq_true rfl, Nat.le_of_ble_eq_true rfl⟩) hK hE hB hw rfl rfl hl.1 (Nat.le_of_ble_eq_true rfl) ⟨Nat.zero_le _, Nat.zero_le _⟩ dX6_row_13 (fun r_4 f_3 H locs hp hw => ?_)
  obtain ⟨er, eu⟩ := hp
  rw [← er]
  rw [← eu] at hw
  refine lv_if_ne (tgt := 21) hx hb dX6_row_16 (by decide) (fun h => False.elim (h (by decide))) (fun _ => ?_)
  refine lv_iconst (v := (-1)) hx hb dX6_row_19 (by decide) ?_
  have c_303 : f_1 303 = ai (ca 1) 200 (g 0) := by rw [ef_1, va_up_ne _ _ (by decide)]; exact c_303
  have c_304 : f_1 304 = ai (ca 1) 4000 (g 1) := by rw [ef_1, va_up_ne _ _ (by decide)]; exact c_304
  have c_305 : f_1 305 = ai (ca 0) 20 (g 2) := by rw [ef_1, va_up_ne _ _ (by decide)]; exact c_305
  have c_306 : f_1 306 = ai (ca 0) 20 (g 3) := by rw [ef_1, va_up_ne _ _ (by decide)]; exact c_306
  have c_307 : f_1 307 = ai (ca 1) 720 (g 4) := by rw [ef_1, va_up_ne _ _ (by decide)]; exact c_307
  have c_308 : f_1 308 = ai (ca 0) 20 (g 5) := by rw [ef_1, va_up_ne _ _ (by decide)]; exact c_308
  have c_309 : f_1 309 = ai (ca 0) 20 (g 6) := by rw [ef_1, va_up_ne _ _ (by decide)]; exact c_309
  have c_310 : f_1 310 = ai (ca 0) 20 (g 7) := by rw [ef_1, va_up_ne _ _ (by decide)]; exact c_310
  have c_311 : f_1 311 = ai (ca 0) 20 (g 8) := by rw [ef_1, va_up_ne _ _ (by decide)]; exact c_311
  have c_312 : f_1 312 = ai (ca 0) 20 (g 9) := by rw [ef_1, va_up_ne _ _ (by decide)]; exact c_312
  have c_313 : f_1 313 = ai (ca 2) 20 (g 10) := by rw [ef_1, va_up_ne _ _ (by decide)]; exact c_313
  have c_314 : f_1 314 = ai (ca 0) 200 (g 11) := by rw [ef_1, va_up_ne _ _ (by decide)]; exact c_314
  have c_315 : f_1 315 = ai (ca 0) 200 (g 12) := by rw [ef_1, va_up_ne _ _ (by decide)]; exact c_315
  have c_316 : f_1 316 = ai (ca 0) 200 (g 14) := by rw [ef_1, va_up_ne _ _ (by decide)]; exact c_316
  have c_317 : f_1 317 = ai (ca 1) 6400 (g 15) := by rw [ef_1, va_up_ne _ _ (by decide)]; exact c_317
  have c_318 : f_1 318 = ai (ca 1) 32 (g 16) := by rw [ef_1, va_up_ne _ _ (by decide)]; exact c_318
  have c_319 : f_1 319 = ai (ca 1) 320 (z 0) := by rw [ef_1, va_up_ne _ _ (by decide)]; exact c_319
  have c_320 : f_1 320 = ai (ca 1) 36 (z 1) := by rw [ef_1, va_up_ne _ _ (by decide)]; exact c_320
  have c_321 : f_1 321 = ai (ca 0) 64 (z 2) := by rw [ef_1, va_up_ne _ _ (by decide)]; exact c_321
  have c_322 : f_1 322 = ai (ca 0) 8 (z 3) := by rw [ef_1, va_up_ne _ _ (by decide)]; exact c_322
  have c_323 : f_1 323 = ai (ca 0) 8 (z 4) := by rw [ef_1, va_up_ne _ _ (by decide)]; exact c_323
  have c_324 : f_1 324 = ai (ca 0) 8 shR := by rw [ef_1, va_up_ne _ _ (by decide)]; exact c_324
  have c_325 : f_1 325 = ai (ca 0) 64 shK := by rw [ef_1, va_up_ne _ _ (by decide)]; exact c_325
  have qn_0 : (va_up n 7 0) 0 = n 0 := by rw [va_up_ne _ _ (by decide)]
  have qn_1 : (va_up n 7 0) 1 = n 1 := by rw [va_up_ne _ _ (by decide)]
  have qn_2 : (va_up n 7 0) 2 = n 2 := by rw [va_up_ne _ _ (by decide)]
  have qn_3 : (va_up n 7 0) 3 = n 3 := by rw [va_up_ne _ _ (by decide)]
  have qn_4 : (va_up n 7 0) 4 = n 4 := by rw [va_up_ne _ _ (by decide)]
  have qn_5 : (va_up n 7 0) 5 = n 5 := by rw [va_up_ne _ _ (by decide)]
  have qn_6 : (va_up n 7 0) 6 = n 6 := by rw [va_up_ne _ _ (by decide)]
  have qn_7 : (va_up n 7 0) 7 = 0 := by rw [va_up_self]
  have hRz : RepM ca ad (va_up n 7 0) g z zn tb f_1 := ⟨(by rw [qn_7, qn_0, qn_1, qn_2, qn_3, qn_4, qn_5]; exact c_302),
        c_303,
        c_304,
        c_305,
        c_306,
        c_307,
        c_308,
        c_309,
        c_310,
        c_311,
        c_312,
        c_313,
        c_314,
        c_315,
        c_316,
        c_317,
        c_318,
        c_319,
        c_320,
        c_321,
        c_322,
        c_323,
        c_324,
        c_325, hzn⟩
  exact x_iret hx hb hr hlocks hw ⟨rfl, z, zn, hRz, (fun y hy => by rw [ef_1, va_up_ne _ _ (by omega)])⟩ dX6_row_20

set_option maxHeartbeats 4000000 in
set_option maxRecDepth 100000 in
theorem k_X6_row_w0 (l : Launch) (D : va_G) (ca : Nat → ClassId) (N : Nat) (ad : Nat → Nat) (B tR tK : Nat) (f : Nat → va_E) (dd : xD N ad B) (hN : 326 ≤ N) (n : Nat → Nat) (g : Nat → Nat → Int32) (z : Nat → Nat → Int32) (zn : Nat) (tb : Nat → Int32) (hR : RepM ca ad n g z zn tb f) (i : Nat) (h5 : n 4 ≤ 200) (hi : i < n 4) : xMi l yX6_row wsX6_row rmX6_row [.ref (ad 302), .int (nI i), .int (nI 0)] D ca N ad B tR tK f (fun r u => g 11 i = r ∧ ∃ (z1 : Nat → Nat → Int32) (zn1 : Nat), RepM ca ad (va_up n 7 0) g z1 zn1 tb u ∧ ∀ y, (y < 302 ∨ 326 ≤ y) → u y = f y) := by
  refine x_open (cc := cX6_row) (maxL := 5) (ret := (some .int)) (by decide) rfl (Nat.le_of_ble_eq_true rfl) ?_
  intro p e s m below meth c ls hx hb hml hown hts hr hlocks hnm hB hK hE hw hl
  have hown : s.vm.findClass RX6 = some m.cls := hown
  have hl : lv_has ls 5 [(0, .ref (ad 302)), (1, .int (nI i)), (2, .int (nI 0))] := hl
  obtain ⟨c_302, c_303, c_304, c_305, c_306, c_307, c_308, c_309, c_310, c_311, c_312, c_313, c_314, c_315, c_316, c_317, c_318, c_319, c_320, c_321, c_322, c_323, c_324, c_325, hzn⟩ := hR
  have hin_7 : ∀ w ∈ u_ws RX6 TX6 32, w ∈ wsX6_row := by decide +kernel
  have hf_160 := hts (.fieldLink RX6 160 "FixityRowsModel" "thrown" "I") (by decide +kernel)
  have hf_203 := hts (.fieldLink RX6 203 "FixityRowsModel" "rows" "I") (by decide +kernel)
  have hf_49 := hts (.fieldLink RX6 49 "FixityRowsModel" "rowWhat" "[I") (by decide +kernel)
  have b_302 := c_302
  have b_303 := c_303
  have b_304 := c_304
  have b_305 := c_305
  have b_306 := c_306
  have b_307 := c_307
  have b_308 := c_308
  have b_309 := c_309
  have b_310 := c_310
  have b_311 := c_311
  have b_312 := c_312
  have b_313 := c_313
  have b_314 := c_314
  have b_315 := c_315
  have b_316 := c_316
  have b_317 := c_317
  have b_318 := c_318
  have b_319 := c_319
  have b_320 := c_320
  have b_321 := c_321
  have b_322 := c_322
  have b_323 := c_323
  have b_324 := c_324
  have b_325 := c_325
  refine lv_aload_n hx hb dX6_row_0 rfl (lv_at hl 0 rfl) ?_
  refine lv_iconst (v := nI 0) hx hb dX6_row_1 (by decide) ?_
  refine x_put (ci := 7) (C := RX6) (T := TX6) (n := 32) (ref := RX6) (fs' := mO ad 0 (n 0) (n 1) (n 2) (g 13 0) (n 3) (n 4) (n 5) zn) hx hb hts hin_7 tyX6 tyX6_ok nmX6 hown hK dd hw 302 (by omega) c_302 rfl 0 (by decide) hf_160 (fun _ h => h) rfl rfl rfl (Nat.le_of_ble_eq_true rfl) rfl dX6_row_2 (fun H locs hw => ?_)
  obtain ⟨f_1, ef_1⟩ : ∃ z, z = va_up f 302 (.inr (7, mO ad 0 (n 0) (n 1) (n 2) (g 13 0) (n 3) (n 4) (n 5) zn)) := ⟨_, rfl⟩
  have hw : xw D vwCl N ad B s.heap f_1 H locs := by rw [ef_1]; exact hw
  have c_302 : f_1 302 = .inr (7, mO ad 0 (n 0) (n 1) (n 2) (g 13 0) (n 3) (n 4) (n 5) zn) := va_up_of ef_1
  refine lv_iload_n hx hb dX6_row_5 rfl (lv_at hl 1 rfl) ?_
  refine lv_iconst (v := nI 0) hx hb dX6_row_6 (by decide) ?_
  refine lv_aload_n hx hb dX6_row_7 rfl (lv_at hl 0 rfl) ?_
  refine x_get (ci := 7) (C := RX6) (T := TX6) (n := 32) (ref := RX6) hx hb hts hin_7 hown hK hw 302 (by omega) c_302 rfl 17 (by decide) hf_203 (fun _ h => h) rfl dX6_row_8 ?_
  refine lv_iconst (v := nI 1) hx hb dX6_row_11 (by decide) ?_
  refine n_isub hx hb dX6_row_12 (by omega) ?_
  refine x_Si (As := [.int (nI i), .int (nI 0), .int (nI ((n 4) - 1))]) (rest := []) ⟨hx, hb, hml, hown, hts⟩ (k_X6_in_yes l D ca N ad B tR tK f_1 dd i 0 ((n 4) - 1)   (by omega) (by omega) (by omega)) (va_cwS 3 hts gX6_row_X6_in rfl rfl rfl (by decide +kernel) ⟨Nat.le_of_ble_eq_true rfl, Nat.le_of_ble_eq_true rfl⟩) hK hE hB hw rfl rfl hl.1 (Nat.le_of_ble_eq_true rfl) ⟨Nat.zero_le _, Nat.zero_le _⟩ dX6_row_13 (fun r_3 f_2 H locs hp hw => ?_)
  obtain ⟨er, eu⟩ := hp
  rw [← er]
  rw [← eu] at hw
  refine lv_if_ne (tgt := 21) hx hb dX6_row_16 (by decide) (fun _ => ?_) (fun h => absurd h (by decide))
  refine lv_iload_n hx hb dX6_row_21 rfl (lv_at hl 2 rfl) ?_
  refine lv_tableIn (off := 30) (tgt := 52) hx hb dX6_row_22 (by decide) (by decide) (by decide) (by decide) ?_
  refine lv_aload_n hx hb dX6_row_52 rfl (lv_at hl 0 rfl) ?_
  refine x_get (ci := 7) (C := RX6) (T := TX6) (n := 32) (ref := RX6) hx hb hts hin_7 hown hK hw 302 (by omega) c_302 rfl 18 (by decide) hf_49 (fun _ h => h) rfl dX6_row_53 ?_
  refine lv_iload_n hx hb dX6_row_56 rfl (lv_at hl 1 rfl) ?_
  have c_314 : f_1 314 = ai (ca 0) 200 (g 11) := by rw [ef_1, va_up_ne _ _ (by decide)]; exact c_314
  refine x_iald (j := i) hx hb hK hw 314 0 (by omega) c_314 rfl rfl (by omega) (by decide) dX6_row_57 ?_
  have c_303 : f_1 303 = ai (ca 1) 200 (g 0) := by rw [ef_1, va_up_ne _ _ (by decide)]; exact c_303
  have c_304 : f_1 304 = ai (ca 1) 4000 (g 1) := by rw [ef_1, va_up_ne _ _ (by decide)]; exact c_304
  have c_305 : f_1 305 = ai (ca 0) 20 (g 2) := by rw [ef_1, va_up_ne _ _ (by decide)]; exact c_305
  have c_306 : f_1 306 = ai (ca 0) 20 (g 3) := by rw [ef_1, va_up_ne _ _ (by decide)]; exact c_306
  have c_307 : f_1 307 = ai (ca 1) 720 (g 4) := by rw [ef_1, va_up_ne _ _ (by decide)]; exact c_307
  have c_308 : f_1 308 = ai (ca 0) 20 (g 5) := by rw [ef_1, va_up_ne _ _ (by decide)]; exact c_308
  have c_309 : f_1 309 = ai (ca 0) 20 (g 6) := by rw [ef_1, va_up_ne _ _ (by decide)]; exact c_309
  have c_310 : f_1 310 = ai (ca 0) 20 (g 7) := by rw [ef_1, va_up_ne _ _ (by decide)]; exact c_310
  have c_311 : f_1 311 = ai (ca 0) 20 (g 8) := by rw [ef_1, va_up_ne _ _ (by decide)]; exact c_311
  have c_312 : f_1 312 = ai (ca 0) 20 (g 9) := by rw [ef_1, va_up_ne _ _ (by decide)]; exact c_312
  have c_313 : f_1 313 = ai (ca 2) 20 (g 10) := by rw [ef_1, va_up_ne _ _ (by decide)]; exact c_313
  have c_315 : f_1 315 = ai (ca 0) 200 (g 12) := by rw [ef_1, va_up_ne _ _ (by decide)]; exact c_315
  have c_316 : f_1 316 = ai (ca 0) 200 (g 14) := by rw [ef_1, va_up_ne _ _ (by decide)]; exact c_316
  have c_317 : f_1 317 = ai (ca 1) 6400 (g 15) := by rw [ef_1, va_up_ne _ _ (by decide)]; exact c_317
  have c_318 : f_1 318 = ai (ca 1) 32 (g 16) := by rw [ef_1, va_up_ne _ _ (by decide)]; exact c_318
  have c_319 : f_1 319 = ai (ca 1) 320 (z 0) := by rw [ef_1, va_up_ne _ _ (by decide)]; exact c_319
  have c_320 : f_1 320 = ai (ca 1) 36 (z 1) := by rw [ef_1, va_up_ne _ _ (by decide)]; exact c_320
  have c_321 : f_1 321 = ai (ca 0) 64 (z 2) := by rw [ef_1, va_up_ne _ _ (by decide)]; exact c_321
  have c_322 : f_1 322 = ai (ca 0) 8 (z 3) := by rw [ef_1, va_up_ne _ _ (by decide)]; exact c_322
  have c_323 : f_1 323 = ai (ca 0) 8 (z 4) := by rw [ef_1, va_up_ne _ _ (by decide)]; exact c_323
  have c_324 : f_1 324 = ai (ca 0) 8 shR := by rw [ef_1, va_up_ne _ _ (by decide)]; exact c_324
  have c_325 : f_1 325 = ai (ca 0) 64 shK := by rw [ef_1, va_up_ne _ _ (by decide)]; exact c_325
  have qn_0 : (va_up n 7 0) 0 = n 0 := by rw [va_up_ne _ _ (by decide)]
  have qn_1 : (va_up n 7 0) 1 = n 1 := by rw [va_up_ne _ _ (by decide)]
  have qn_2 : (va_up n 7 0) 2 = n 2 := by rw [va_up_ne _ _ (by decide)]
  have qn_3 : (va_up n 7 0) 3 = n 3 := by rw [va_up_ne _ _ (by decide)]
  have qn_4 : (va_up n 7 0) 4 = n 4 := by rw [va_up_ne _ _ (by decide)]
  have qn_5 : (va_up n 7 0) 5 = n 5 := by rw [va_up_ne _ _ (by decide)]
  have qn_6 : (va_up n 7 0) 6 = n 6 := by rw [va_up_ne _ _ (by decide)]
  have qn_7 : (va_up n 7 0) 7 = 0 := by rw [va_up_self]
  have hRz : RepM ca ad (va_up n 7 0) g z zn tb f_1 := ⟨(by rw [qn_7, qn_0, qn_1, qn_2, qn_3, qn_4, qn_5]; exact c_302),
        c_303,
        c_304,
        c_305,
        c_306,
        c_307,
        c_308,
        c_309,
        c_310,
        c_311,
        c_312,
        c_313,
        c_314,
        c_315,
        c_316,
        c_317,
        c_318,
        c_319,
        c_320,
        c_321,
        c_322,
        c_323,
        c_324,
        c_325, hzn⟩
  exact x_iret hx hb hr hlocks hw ⟨rfl, z, zn, hRz, (fun y hy => by rw [ef_1, va_up_ne _ _ (by omega)])⟩ dX6_row_58

set_option maxHeartbeats 4000000 in
set_option maxRecDepth 100000 in
theorem k_X6_row_w1 (l : Launch) (D : va_G) (ca : Nat → ClassId) (N : Nat) (ad : Nat → Nat) (B tR tK : Nat) (f : Nat → va_E) (dd : xD N ad B) (hN : 326 ≤ N) (n : Nat → Nat) (g : Nat → Nat → Int32) (z : Nat → Nat → Int32) (zn : Nat) (tb : Nat → Int32) (hR : RepM ca ad n g z zn tb f) (i : Nat) (h5 : n 4 ≤ 200) (hi : i < n 4) : xMi l yX6_row wsX6_row rmX6_row [.ref (ad 302), .int (nI i), .int (nI 1)] D ca N ad B tR tK f (fun r u => g 12 i = r ∧ ∃ (z1 : Nat → Nat → Int32) (zn1 : Nat), RepM ca ad (va_up n 7 0) g z1 zn1 tb u ∧ ∀ y, (y < 302 ∨ 326 ≤ y) → u y = f y) := by
  refine x_open (cc := cX6_row) (maxL := 5) (ret := (some .int)) (by decide) rfl (Nat.le_of_ble_eq_true rfl) ?_
  intro p e s m below meth c ls hx hb hml hown hts hr hlocks hnm hB hK hE hw hl
  have hown : s.vm.findClass RX6 = some m.cls := hown
  have hl : lv_has ls 5 [(0, .ref (ad 302)), (1, .int (nI i)), (2, .int (nI 1))] := hl
  obtain ⟨c_302, c_303, c_304, c_305, c_306, c_307, c_308, c_309, c_310, c_311, c_312, c_313, c_314, c_315, c_316, c_317, c_318, c_319, c_320, c_321, c_322, c_323, c_324, c_325, hzn⟩ := hR
  have hin_7 : ∀ w ∈ u_ws RX6 TX6 32, w ∈ wsX6_row := by decide +kernel
  have hf_160 := hts (.fieldLink RX6 160 "FixityRowsModel" "thrown" "I") (by decide +kernel)
  have hf_203 := hts (.fieldLink RX6 203 "FixityRowsModel" "rows" "I") (by decide +kernel)
  have hf_52 := hts (.fieldLink RX6 52 "FixityRowsModel" "rowFile" "[I") (by decide +kernel)
  have b_302 := c_302
  have b_303 := c_303
  have b_304 := c_304
  have b_305 := c_305
  have b_306 := c_306
  have b_307 := c_307
  have b_308 := c_308
  have b_309 := c_309
  have b_310 := c_310
  have b_311 := c_311
  have b_312 := c_312
  have b_313 := c_313
  have b_314 := c_314
  have b_315 := c_315
  have b_316 := c_316
  have b_317 := c_317
  have b_318 := c_318
  have b_319 := c_319
  have b_320 := c_320
  have b_321 := c_321
  have b_322 := c_322
  have b_323 := c_323
  have b_324 := c_324
  have b_325 := c_325
  refine lv_aload_n hx hb dX6_row_0 rfl (lv_at hl 0 rfl) ?_
  refine lv_iconst (v := nI 0) hx hb dX6_row_1 (by decide) ?_
  refine x_put (ci := 7) (C := RX6) (T := TX6) (n := 32) (ref := RX6) (fs' := mO ad 0 (n 0) (n 1) (n 2) (g 13 0) (n 3) (n 4) (n 5) zn) hx hb hts hin_7 tyX6 tyX6_ok nmX6 hown hK dd hw 302 (by omega) c_302 rfl 0 (by decide) hf_160 (fun _ h => h) rfl rfl rfl (Nat.le_of_ble_eq_true rfl) rfl dX6_row_2 (fun H locs hw => ?_)
  obtain ⟨f_1, ef_1⟩ : ∃ z, z = va_up f 302 (.inr (7, mO ad 0 (n 0) (n 1) (n 2) (g 13 0) (n 3) (n 4) (n 5) zn)) := ⟨_, rfl⟩
  have hw : xw D vwCl N ad B s.heap f_1 H locs := by rw [ef_1]; exact hw
  have c_302 : f_1 302 = .inr (7, mO ad 0 (n 0) (n 1) (n 2) (g 13 0) (n 3) (n 4) (n 5) zn) := va_up_of ef_1
  refine lv_iload_n hx hb dX6_row_5 rfl (lv_at hl 1 rfl) ?_
  refine lv_iconst (v := nI 0) hx hb dX6_row_6 (by decide) ?_
  refine lv_aload_n hx hb dX6_row_7 rfl (lv_at hl 0 rfl) ?_
  refine x_get (ci := 7) (C := RX6) (T := TX6) (n := 32) (ref := RX6) hx hb hts hin_7 hown hK hw 302 (by omega) c_302 rfl 17 (by decide) hf_203 (fun _ h => h) rfl dX6_row_8 ?_
  refine lv_iconst (v := nI 1) hx hb dX6_row_11 (by decide) ?_
  refine n_isub hx hb dX6_row_12 (by omega) ?_
  refine x_Si (As := [.int (nI i), .int (nI 0), .int (nI ((n 4) - 1))]) (rest := []) ⟨hx, hb, hml, hown, hts⟩ (k_X6_in_yes l D ca N ad B tR tK f_1 dd i 0 ((n 4) - 1)   (by omega) (by omega) (by omega)) (va_cwS 3 hts gX6_row_X6_in rfl rfl rfl (by decide +kernel) ⟨Nat.le_of_ble_eq_true rfl, Nat.le_of_ble_eq_true rfl⟩) hK hE hB hw rfl rfl hl.1 (Nat.le_of_ble_eq_true rfl) ⟨Nat.zero_le _, Nat.zero_le _⟩ dX6_row_13 (fun r_3 f_2 H locs hp hw => ?_)
  obtain ⟨er, eu⟩ := hp
  rw [← er]
  rw [← eu] at hw
  refine lv_if_ne (tgt := 21) hx hb dX6_row_16 (by decide) (fun _ => ?_) (fun h => absurd h (by decide))
  refine lv_iload_n hx hb dX6_row_21 rfl (lv_at hl 2 rfl) ?_
  refine lv_tableIn (off := 37) (tgt := 59) hx hb dX6_row_22 (by decide) (by decide) (by decide) (by decide) ?_
  refine lv_aload_n hx hb dX6_row_59 rfl (lv_at hl 0 rfl) ?_
  refine x_get (ci := 7) (C := RX6) (T := TX6) (n := 32) (ref := RX6) hx hb hts hin_7 hown hK hw 302 (by omega) c_302 rfl 19 (by decide) hf_52 (fun _ h => h) rfl dX6_row_60 ?_
  refine lv_iload_n hx hb dX6_row_63 rfl (lv_at hl 1 rfl) ?_
  have c_315 : f_1 315 = ai (ca 0) 200 (g 12) := by rw [ef_1, va_up_ne _ _ (by decide)]; exact c_315
  refine x_iald (j := i) hx hb hK hw 315 0 (by omega) c_315 rfl rfl (by omega) (by decide) dX6_row_64 ?_
  have c_303 : f_1 303 = ai (ca 1) 200 (g 0) := by rw [ef_1, va_up_ne _ _ (by decide)]; exact c_303
  have c_304 : f_1 304 = ai (ca 1) 4000 (g 1) := by rw [ef_1, va_up_ne _ _ (by decide)]; exact c_304
  have c_305 : f_1 305 = ai (ca 0) 20 (g 2) := by rw [ef_1, va_up_ne _ _ (by decide)]; exact c_305
  have c_306 : f_1 306 = ai (ca 0) 20 (g 3) := by rw [ef_1, va_up_ne _ _ (by decide)]; exact c_306
  have c_307 : f_1 307 = ai (ca 1) 720 (g 4) := by rw [ef_1, va_up_ne _ _ (by decide)]; exact c_307
  have c_308 : f_1 308 = ai (ca 0) 20 (g 5) := by rw [ef_1, va_up_ne _ _ (by decide)]; exact c_308
  have c_309 : f_1 309 = ai (ca 0) 20 (g 6) := by rw [ef_1, va_up_ne _ _ (by decide)]; exact c_309
  have c_310 : f_1 310 = ai (ca 0) 20 (g 7) := by rw [ef_1, va_up_ne _ _ (by decide)]; exact c_310
  have c_311 : f_1 311 = ai (ca 0) 20 (g 8) := by rw [ef_1, va_up_ne _ _ (by decide)]; exact c_311
  have c_312 : f_1 312 = ai (ca 0) 20 (g 9) := by rw [ef_1, va_up_ne _ _ (by decide)]; exact c_312
  have c_313 : f_1 313 = ai (ca 2) 20 (g 10) := by rw [ef_1, va_up_ne _ _ (by decide)]; exact c_313
  have c_314 : f_1 314 = ai (ca 0) 200 (g 11) := by rw [ef_1, va_up_ne _ _ (by decide)]; exact c_314
  have c_316 : f_1 316 = ai (ca 0) 200 (g 14) := by rw [ef_1, va_up_ne _ _ (by decide)]; exact c_316
  have c_317 : f_1 317 = ai (ca 1) 6400 (g 15) := by rw [ef_1, va_up_ne _ _ (by decide)]; exact c_317
  have c_318 : f_1 318 = ai (ca 1) 32 (g 16) := by rw [ef_1, va_up_ne _ _ (by decide)]; exact c_318
  have c_319 : f_1 319 = ai (ca 1) 320 (z 0) := by rw [ef_1, va_up_ne _ _ (by decide)]; exact c_319
  have c_320 : f_1 320 = ai (ca 1) 36 (z 1) := by rw [ef_1, va_up_ne _ _ (by decide)]; exact c_320
  have c_321 : f_1 321 = ai (ca 0) 64 (z 2) := by rw [ef_1, va_up_ne _ _ (by decide)]; exact c_321
  have c_322 : f_1 322 = ai (ca 0) 8 (z 3) := by rw [ef_1, va_up_ne _ _ (by decide)]; exact c_322
  have c_323 : f_1 323 = ai (ca 0) 8 (z 4) := by rw [ef_1, va_up_ne _ _ (by decide)]; exact c_323
  have c_324 : f_1 324 = ai (ca 0) 8 shR := by rw [ef_1, va_up_ne _ _ (by decide)]; exact c_324
  have c_325 : f_1 325 = ai (ca 0) 64 shK := by rw [ef_1, va_up_ne _ _ (by decide)]; exact c_325
  have qn_0 : (va_up n 7 0) 0 = n 0 := by rw [va_up_ne _ _ (by decide)]
  have qn_1 : (va_up n 7 0) 1 = n 1 := by rw [va_up_ne _ _ (by decide)]
  have qn_2 : (va_up n 7 0) 2 = n 2 := by rw [va_up_ne _ _ (by decide)]
  have qn_3 : (va_up n 7 0) 3 = n 3 := by rw [va_up_ne _ _ (by decide)]
  have qn_4 : (va_up n 7 0) 4 = n 4 := by rw [va_up_ne _ _ (by decide)]
  have qn_5 : (va_up n 7 0) 5 = n 5 := by rw [va_up_ne _ _ (by decide)]
  have qn_6 : (va_up n 7 0) 6 = n 6 := by rw [va_up_ne _ _ (by decide)]
  have qn_7 : (va_up n 7 0) 7 = 0 := by rw [va_up_self]
  have hRz : RepM ca ad (va_up n 7 0) g z zn tb f_1 := ⟨(by rw [qn_7, qn_0, qn_1, qn_2, qn_3, qn_4, qn_5]; exact c_302),
        c_303,
        c_304,
        c_305,
        c_306,
        c_307,
        c_308,
        c_309,
        c_310,
        c_311,
        c_312,
        c_313,
        c_314,
        c_315,
        c_316,
        c_317,
        c_318,
        c_319,
        c_320,
        c_321,
        c_322,
        c_323,
        c_324,
        c_325, hzn⟩
  exact x_iret hx hb hr hlocks hw ⟨rfl, z, zn, hRz, (fun y hy => by rw [ef_1, va_up_ne _ _ (by omega)])⟩ dX6_row_65

set_option maxHeartbeats 4000000 in
set_option maxRecDepth 100000 in
theorem k_X6_row_w2 (l : Launch) (D : va_G) (ca : Nat → ClassId) (N : Nat) (ad : Nat → Nat) (B tR tK : Nat) (f : Nat → va_E) (dd : xD N ad B) (hN : 326 ≤ N) (n : Nat → Nat) (g : Nat → Nat → Int32) (z : Nat → Nat → Int32) (zn : Nat) (tb : Nat → Int32) (hR : RepM ca ad n g z zn tb f) (i : Nat) (h5 : n 4 ≤ 200) (hi : i < n 4) : xMi l yX6_row wsX6_row rmX6_row [.ref (ad 302), .int (nI i), .int (nI 2)] D ca N ad B tR tK f (fun r u => g 14 i = r ∧ ∃ (z1 : Nat → Nat → Int32) (zn1 : Nat), RepM ca ad (va_up n 7 0) g z1 zn1 tb u ∧ ∀ y, (y < 302 ∨ 326 ≤ y) → u y = f y) := by
  refine x_open (cc := cX6_row) (maxL := 5) (ret := (some .int)) (by decide) rfl (Nat.le_of_ble_eq_true rfl) ?_
  intro p e s m below meth c ls hx hb hml hown hts hr hlocks hnm hB hK hE hw hl
  have hown : s.vm.findClass RX6 = some m.cls := hown
  have hl : lv_has ls 5 [(0, .ref (ad 302)), (1, .int (nI i)), (2, .int (nI 2))] := hl
  obtain ⟨c_302, c_303, c_304, c_305, c_306, c_307, c_308, c_309, c_310, c_311, c_312, c_313, c_314, c_315, c_316, c_317, c_318, c_319, c_320, c_321, c_322, c_323, c_324, c_325, hzn⟩ := hR
  have hin_7 : ∀ w ∈ u_ws RX6 TX6 32, w ∈ wsX6_row := by decide +kernel
  have hf_160 := hts (.fieldLink RX6 160 "FixityRowsModel" "thrown" "I") (by decide +kernel)
  have hf_203 := hts (.fieldLink RX6 203 "FixityRowsModel" "rows" "I") (by decide +kernel)
  have hf_55 := hts (.fieldLink RX6 55 "FixityRowsModel" "rowDay" "[I") (by decide +kernel)
  have b_302 := c_302
  have b_303 := c_303
  have b_304 := c_304
  have b_305 := c_305
  have b_306 := c_306
  have b_307 := c_307
  have b_308 := c_308
  have b_309 := c_309
  have b_310 := c_310
  have b_311 := c_311
  have b_312 := c_312
  have b_313 := c_313
  have b_314 := c_314
  have b_315 := c_315
  have b_316 := c_316
  have b_317 := c_317
  have b_318 := c_318
  have b_319 := c_319
  have b_320 := c_320
  have b_321 := c_321
  have b_322 := c_322
  have b_323 := c_323
  have b_324 := c_324
  have b_325 := c_325
  refine lv_aload_n hx hb dX6_row_0 rfl (lv_at hl 0 rfl) ?_
  refine lv_iconst (v := nI 0) hx hb dX6_row_1 (by decide) ?_
  refine x_put (ci := 7) (C := RX6) (T := TX6) (n := 32) (ref := RX6) (fs' := mO ad 0 (n 0) (n 1) (n 2) (g 13 0) (n 3) (n 4) (n 5) zn) hx hb hts hin_7 tyX6 tyX6_ok nmX6 hown hK dd hw 302 (by omega) c_302 rfl 0 (by decide) hf_160 (fun _ h => h) rfl rfl rfl (Nat.le_of_ble_eq_true rfl) rfl dX6_row_2 (fun H locs hw => ?_)
  obtain ⟨f_1, ef_1⟩ : ∃ z, z = va_up f 302 (.inr (7, mO ad 0 (n 0) (n 1) (n 2) (g 13 0) (n 3) (n 4) (n 5) zn)) := ⟨_, rfl⟩
  have hw : xw D vwCl N ad B s.heap f_1 H locs := by rw [ef_1]; exact hw
  have c_302 : f_1 302 = .inr (7, mO ad 0 (n 0) (n 1) (n 2) (g 13 0) (n 3) (n 4) (n 5) zn) := va_up_of ef_1
  refine lv_iload_n hx hb dX6_row_5 rfl (lv_at hl 1 rfl) ?_
  refine lv_iconst (v := nI 0) hx hb dX6_row_6 (by decide) ?_
  refine lv_aload_n hx hb dX6_row_7 rfl (lv_at hl 0 rfl) ?_
  refine x_get (ci := 7) (C := RX6) (T := TX6) (n := 32) (ref := RX6) hx hb hts hin_7 hown hK hw 302 (by omega) c_302 rfl 17 (by decide) hf_203 (fun _ h => h) rfl dX6_row_8 ?_
  refine lv_iconst (v := nI 1) hx hb dX6_row_11 (by decide) ?_
  refine n_isub hx hb dX6_row_12 (by omega) ?_
  refine x_Si (As := [.int (nI i), .int (nI 0), .int (nI ((n 4) - 1))]) (rest := []) ⟨hx, hb, hml, hown, hts⟩ (k_X6_in_yes l D ca N ad B tR tK f_1 dd i 0 ((n 4) - 1)   (by omega) (by omega) (by omega)) (va_cwS 3 hts gX6_row_X6_in rfl rfl rfl (by decide +kernel) ⟨Nat.le_of_ble_eq_true rfl, Nat.le_of_ble_eq_true rfl⟩) hK hE hB hw rfl rfl hl.1 (Nat.le_of_ble_eq_true rfl) ⟨Nat.zero_le _, Nat.zero_le _⟩ dX6_row_13 (fun r_3 f_2 H locs hp hw => ?_)
  obtain ⟨er, eu⟩ := hp
  rw [← er]
  rw [← eu] at hw
  refine lv_if_ne (tgt := 21) hx hb dX6_row_16 (by decide) (fun _ => ?_) (fun h => absurd h (by decide))
  refine lv_iload_n hx hb dX6_row_21 rfl (lv_at hl 2 rfl) ?_
  refine lv_tableIn (off := 44) (tgt := 66) hx hb dX6_row_22 (by decide) (by decide) (by decide) (by decide) ?_
  refine lv_aload_n hx hb dX6_row_66 rfl (lv_at hl 0 rfl) ?_
  refine x_get (ci := 7) (C := RX6) (T := TX6) (n := 32) (ref := RX6) hx hb hts hin_7 hown hK hw 302 (by omega) c_302 rfl 20 (by decide) hf_55 (fun _ h => h) rfl dX6_row_67 ?_
  refine lv_iload_n hx hb dX6_row_70 rfl (lv_at hl 1 rfl) ?_
  have c_316 : f_1 316 = ai (ca 0) 200 (g 14) := by rw [ef_1, va_up_ne _ _ (by decide)]; exact c_316
  refine x_iald (j := i) hx hb hK hw 316 0 (by omega) c_316 rfl rfl (by omega) (by decide) dX6_row_71 ?_
  have c_303 : f_1 303 = ai (ca 1) 200 (g 0) := by rw [ef_1, va_up_ne _ _ (by decide)]; exact c_303
  have c_304 : f_1 304 = ai (ca 1) 4000 (g 1) := by rw [ef_1, va_up_ne _ _ (by decide)]; exact c_304
  have c_305 : f_1 305 = ai (ca 0) 20 (g 2) := by rw [ef_1, va_up_ne _ _ (by decide)]; exact c_305
  have c_306 : f_1 306 = ai (ca 0) 20 (g 3) := by rw [ef_1, va_up_ne _ _ (by decide)]; exact c_306
  have c_307 : f_1 307 = ai (ca 1) 720 (g 4) := by rw [ef_1, va_up_ne _ _ (by decide)]; exact c_307
  have c_308 : f_1 308 = ai (ca 0) 20 (g 5) := by rw [ef_1, va_up_ne _ _ (by decide)]; exact c_308
  have c_309 : f_1 309 = ai (ca 0) 20 (g 6) := by rw [ef_1, va_up_ne _ _ (by decide)]; exact c_309
  have c_310 : f_1 310 = ai (ca 0) 20 (g 7) := by rw [ef_1, va_up_ne _ _ (by decide)]; exact c_310
  have c_311 : f_1 311 = ai (ca 0) 20 (g 8) := by rw [ef_1, va_up_ne _ _ (by decide)]; exact c_311
  have c_312 : f_1 312 = ai (ca 0) 20 (g 9) := by rw [ef_1, va_up_ne _ _ (by decide)]; exact c_312
  have c_313 : f_1 313 = ai (ca 2) 20 (g 10) := by rw [ef_1, va_up_ne _ _ (by decide)]; exact c_313
  have c_314 : f_1 314 = ai (ca 0) 200 (g 11) := by rw [ef_1, va_up_ne _ _ (by decide)]; exact c_314
  have c_315 : f_1 315 = ai (ca 0) 200 (g 12) := by rw [ef_1, va_up_ne _ _ (by decide)]; exact c_315
  have c_317 : f_1 317 = ai (ca 1) 6400 (g 15) := by rw [ef_1, va_up_ne _ _ (by decide)]; exact c_317
  have c_318 : f_1 318 = ai (ca 1) 32 (g 16) := by rw [ef_1, va_up_ne _ _ (by decide)]; exact c_318
  have c_319 : f_1 319 = ai (ca 1) 320 (z 0) := by rw [ef_1, va_up_ne _ _ (by decide)]; exact c_319
  have c_320 : f_1 320 = ai (ca 1) 36 (z 1) := by rw [ef_1, va_up_ne _ _ (by decide)]; exact c_320
  have c_321 : f_1 321 = ai (ca 0) 64 (z 2) := by rw [ef_1, va_up_ne _ _ (by decide)]; exact c_321
  have c_322 : f_1 322 = ai (ca 0) 8 (z 3) := by rw [ef_1, va_up_ne _ _ (by decide)]; exact c_322
  have c_323 : f_1 323 = ai (ca 0) 8 (z 4) := by rw [ef_1, va_up_ne _ _ (by decide)]; exact c_323
  have c_324 : f_1 324 = ai (ca 0) 8 shR := by rw [ef_1, va_up_ne _ _ (by decide)]; exact c_324
  have c_325 : f_1 325 = ai (ca 0) 64 shK := by rw [ef_1, va_up_ne _ _ (by decide)]; exact c_325
  have qn_0 : (va_up n 7 0) 0 = n 0 := by rw [va_up_ne _ _ (by decide)]
  have qn_1 : (va_up n 7 0) 1 = n 1 := by rw [va_up_ne _ _ (by decide)]
  have qn_2 : (va_up n 7 0) 2 = n 2 := by rw [va_up_ne _ _ (by decide)]
  have qn_3 : (va_up n 7 0) 3 = n 3 := by rw [va_up_ne _ _ (by decide)]
  have qn_4 : (va_up n 7 0) 4 = n 4 := by rw [va_up_ne _ _ (by decide)]
  have qn_5 : (va_up n 7 0) 5 = n 5 := by rw [va_up_ne _ _ (by decide)]
  have qn_6 : (va_up n 7 0) 6 = n 6 := by rw [va_up_ne _ _ (by decide)]
  have qn_7 : (va_up n 7 0) 7 = 0 := by rw [va_up_self]
  have hRz : RepM ca ad (va_up n 7 0) g z zn tb f_1 := ⟨(by rw [qn_7, qn_0, qn_1, qn_2, qn_3, qn_4, qn_5]; exact c_302),
        c_303,
        c_304,
        c_305,
        c_306,
        c_307,
        c_308,
        c_309,
        c_310,
        c_311,
        c_312,
        c_313,
        c_314,
        c_315,
        c_316,
        c_317,
        c_318,
        c_319,
        c_320,
        c_321,
        c_322,
        c_323,
        c_324,
        c_325, hzn⟩
  exact x_iret hx hb hr hlocks hw ⟨rfl, z, zn, hRz, (fun y hy => by rw [ef_1, va_up_ne _ _ (by omega)])⟩ dX6_row_72

set_option maxHeartbeats 4000000 in
set_option maxRecDepth 100000 in
theorem k_X6_row_w3 (l : Launch) (D : va_G) (ca : Nat → ClassId) (N : Nat) (ad : Nat → Nat) (B tR tK : Nat) (f : Nat → va_E) (dd : xD N ad B) (hN : 326 ≤ N) (n : Nat → Nat) (g : Nat → Nat → Int32) (z : Nat → Nat → Int32) (zn : Nat) (tb : Nat → Int32) (hR : RepM ca ad n g z zn tb f) (i : Nat) (h5 : n 4 ≤ 200) (hi : i < n 4) : xMi l yX6_row wsX6_row rmX6_row [.ref (ad 302), .int (nI i), .int (nI 3)] D ca N ad B tR tK f (fun r u => rw3 (g 15) i = r ∧ ∃ (z1 : Nat → Nat → Int32) (zn1 : Nat), RepM ca ad (va_up n 7 0) g z1 zn1 tb u ∧ ∀ y, (y < 302 ∨ 326 ≤ y) → u y = f y) := by
  refine x_open (cc := cX6_row) (maxL := 5) (ret := (some .int)) (by decide) rfl (Nat.le_of_ble_eq_true rfl) ?_
  intro p e s m below meth c ls hx hb hml hown hts hr hlocks hnm hB hK hE hw hl
  have hown : s.vm.findClass RX6 = some m.cls := hown
  have hl : lv_has ls 5 [(0, .ref (ad 302)), (1, .int (nI i)), (2, .int (nI 3))] := hl
  obtain ⟨c_302, c_303, c_304, c_305, c_306, c_307, c_308, c_309, c_310, c_311, c_312, c_313, c_314, c_315, c_316, c_317, c_318, c_319, c_320, c_321, c_322, c_323, c_324, c_325, hzn⟩ := hR
  have hin_7 : ∀ w ∈ u_ws RX6 TX6 32, w ∈ wsX6_row := by decide +kernel
  have hf_160 := hts (.fieldLink RX6 160 "FixityRowsModel" "thrown" "I") (by decide +kernel)
  have hf_203 := hts (.fieldLink RX6 203 "FixityRowsModel" "rows" "I") (by decide +kernel)
  have hf_58 := hts (.fieldLink RX6 58 "FixityRowsModel" "rowDigest" "[B") (by decide +kernel)
  have b_302 := c_302
  have b_303 := c_303
  have b_304 := c_304
  have b_305 := c_305
  have b_306 := c_306
  have b_307 := c_307
  have b_308 := c_308
  have b_309 := c_309
  have b_310 := c_310
  have b_311 := c_311
  have b_312 := c_312
  have b_313 := c_313
  have b_314 := c_314
  have b_315 := c_315
  have b_316 := c_316
  have b_317 := c_317
  have b_318 := c_318
  have b_319 := c_319
  have b_320 := c_320
  have b_321 := c_321
  have b_322 := c_322
  have b_323 := c_323
  have b_324 := c_324
  have b_325 := c_325
  refine lv_aload_n hx hb dX6_row_0 rfl (lv_at hl 0 rfl) ?_
  refine lv_iconst (v := nI 0) hx hb dX6_row_1 (by decide) ?_
  refine x_put (ci := 7) (C := RX6) (T := TX6) (n := 32) (ref := RX6) (fs' := mO ad 0 (n 0) (n 1) (n 2) (g 13 0) (n 3) (n 4) (n 5) zn) hx hb hts hin_7 tyX6 tyX6_ok nmX6 hown hK dd hw 302 (by omega) c_302 rfl 0 (by decide) hf_160 (fun _ h => h) rfl rfl rfl (Nat.le_of_ble_eq_true rfl) rfl dX6_row_2 (fun H locs hw => ?_)
  obtain ⟨f_1, ef_1⟩ : ∃ z, z = va_up f 302 (.inr (7, mO ad 0 (n 0) (n 1) (n 2) (g 13 0) (n 3) (n 4) (n 5) zn)) := ⟨_, rfl⟩
  have hw : xw D vwCl N ad B s.heap f_1 H locs := by rw [ef_1]; exact hw
  have c_302 : f_1 302 = .inr (7, mO ad 0 (n 0) (n 1) (n 2) (g 13 0) (n 3) (n 4) (n 5) zn) := va_up_of ef_1
  refine lv_iload_n hx hb dX6_row_5 rfl (lv_at hl 1 rfl) ?_
  refine lv_iconst (v := nI 0) hx hb dX6_row_6 (by decide) ?_
  refine lv_aload_n hx hb dX6_row_7 rfl (lv_at hl 0 rfl) ?_
  refine x_get (ci := 7) (C := RX6) (T := TX6) (n := 32) (ref := RX6) hx hb hts hin_7 hown hK hw 302 (by omega) c_302 rfl 17 (by decide) hf_203 (fun _ h => h) rfl dX6_row_8 ?_
  refine lv_iconst (v := nI 1) hx hb dX6_row_11 (by decide) ?_
  refine n_isub hx hb dX6_row_12 (by omega) ?_
  refine x_Si (As := [.int (nI i), .int (nI 0), .int (nI ((n 4) - 1))]) (rest := []) ⟨hx, hb, hml, hown, hts⟩ (k_X6_in_yes l D ca N ad B tR tK f_1 dd i 0 ((n 4) - 1)   (by omega) (by omega) (by omega)) (va_cwS 3 hts gX6_row_X6_in rfl rfl rfl (by decide +kernel) ⟨Nat.le_of_ble_eq_true rfl, Nat.le_of_ble_eq_true rfl⟩) hK hE hB hw rfl rfl hl.1 (Nat.le_of_ble_eq_true rfl) ⟨Nat.zero_le _, Nat.zero_le _⟩ dX6_row_13 (fun r_3 f_2 H locs hp hw => ?_)
  obtain ⟨er, eu⟩ := hp
  rw [← er]
  rw [← eu] at hw
  refine lv_if_ne (tgt := 21) hx hb dX6_row_16 (by decide) (fun _ => ?_) (fun h => absurd h (by decide))
  refine lv_iload_n hx hb dX6_row_21 rfl (lv_at hl 2 rfl) ?_
  refine lv_tableIn (off := 51) (tgt := 73) hx hb dX6_row_22 (by decide) (by decide) (by decide) (by decide) ?_
  refine lv_iconst (v := nI 0) hx hb dX6_row_73 (by decide) ?_
  refine lv_istore_n (lv' := [(3, .int (nI 0)), (0, .ref (ad 302)), (1, .int (nI i)), (2, .int (nI 3))]) hx hb dX6_row_74 rfl hl (by decide) rfl (fun ls hl => ?_)
  refine lv_iconst (v := nI 0) hx hb dX6_row_75 (by decide) ?_
  refine lv_istore (lv' := [(4, .int (nI 0)), (3, .int (nI 0)), (0, .ref (ad 302)), (1, .int (nI i)), (2, .int (nI 3))]) hx hb dX6_row_76 hl (by decide) rfl (fun ls hl => ?_)
  refine lv_iload hx hb dX6_row_78 (lv_at hl 0 rfl) ?_
  refine lv_iconst (v := nI 4) hx hb dX6_row_80 (by decide) ?_
  refine n_icge (tgt := 112) hx hb dX6_row_81 (by decide) (by decide) (by decide) (fun h => absurd h (by decide)) (fun _ => ?_)
  refine lv_iload_n hx hb dX6_row_84 rfl (lv_at hl 1 rfl) ?_
  refine lv_bipush (v := nI 8) hx hb dX6_row_85 (by decide) ?_
  refine lv_ishl hx hb dX6_row_87 ?_
  refine lv_aload_n hx hb dX6_row_88 rfl (lv_at hl 2 rfl) ?_
  refine x_get (ci := 7) (C := RX6) (T := TX6) (n := 32) (ref := RX6) hx hb hts hin_7 hown hK hw 302 (by omega) c_302 rfl 21 (by decide) hf_58 (fun _ h => h) rfl dX6_row_89 ?_
  refine lv_bipush (v := nI 32) hx hb dX6_row_92 (by decide) ?_
  refine lv_iload_n hx hb dX6_row_94 rfl (lv_at hl 3 rfl) ?_
  refine n_imul hx hb dX6_row_95 ?_
  refine lv_iload hx hb dX6_row_96 (lv_at hl 0 rfl) ?_
  refine n_iadd hx hb dX6_row_98 ?_
  have c_317 : f_1 317 = ai (ca 1) 6400 (g 15) := by rw [ef_1, va_up_ne _ _ (by decide)]; exact c_317
  refine x_bald (j := (32 * i) + 0) hx hb hK hw 317 1 (by omega) c_317 rfl rfl (by omega) (by decide) dX6_row_99 ?_
  refine lv_sipush (v := nI 255) hx hb dX6_row_100 (by decide) ?_
  refine lv_iand hx hb dX6_row_103 ?_
  refine lv_ior hx hb dX6_row_104 ?_
  refine lv_topi (fun x_4 ex_4 => ?_)
  refine lv_istore_n (lv' := [(3, .int x_4), (4, .int (nI 0)), (0, .ref (ad 302)), (1, .int (nI i)), (2, .int (nI 3))]) hx hb dX6_row_105 rfl hl (by decide) rfl (fun ls hl => ?_)
  refine lv_iinc (v := nI 1) (lv' := [(4, .int (nI 1)), (3, .int x_4), (0, .ref (ad 302)), (1, .int (nI i)), (2, .int (nI 3))]) hx hb dX6_row_106 hl (k := 1) rfl (by decide) (by decide) rfl (fun ls hl => ?_)
  refine lv_goto (tgt := 78) hx hb dX6_row_109 (by decide) ?_
  refine lv_iload hx hb dX6_row_78 (lv_at hl 0 rfl) ?_
  refine lv_iconst (v := nI 4) hx hb dX6_row_80 (by decide) ?_
  refine n_icge (tgt := 112) hx hb dX6_row_81 (by decide) (by decide) (by decide) (fun h => absurd h (by decide)) (fun _ => ?_)
  refine lv_iload_n hx hb dX6_row_84 rfl (lv_at hl 1 rfl) ?_
  refine lv_bipush (v := nI 8) hx hb dX6_row_85 (by decide) ?_
  refine lv_ishl hx hb dX6_row_87 ?_
  refine lv_aload_n hx hb dX6_row_88 rfl (lv_at hl 2 rfl) ?_
  refine x_get (ci := 7) (C := RX6) (T := TX6) (n := 32) (ref := RX6) hx hb hts hin_7 hown hK hw 302 (by omega) c_302 rfl 21 (by decide) hf_58 (fun _ h => h) rfl dX6_row_89 ?_
  refine lv_bipush (v := nI 32) hx hb dX6_row_92 (by decide) ?_
  refine lv_iload_n hx hb dX6_row_94 rfl (lv_at hl 3 rfl) ?_
  refine n_imul hx hb dX6_row_95 ?_
  refine lv_iload hx hb dX6_row_96 (lv_at hl 0 rfl) ?_
  refine n_iadd hx hb dX6_row_98 ?_
  refine x_bald (j := (32 * i) + 1) hx hb hK hw 317 1 (by omega) c_317 rfl rfl (by omega) (by decide) dX6_row_99 ?_
  refine lv_sipush (v := nI 255) hx hb dX6_row_100 (by decide) ?_
  refine lv_iand hx hb dX6_row_103 ?_
  refine lv_ior hx hb dX6_row_104 ?_
  refine lv_topi (fun x_5 ex_5 => ?_)
  refine lv_istore_n (lv' := [(3, .int x_5), (4, .int (nI 1)), (0, .ref (ad 302)), (1, .int (nI i)), (2, .int (nI 3))]) hx hb dX6_row_105 rfl hl (by decide) rfl (fun ls hl => ?_)
  refine lv_iinc (v := nI 2) (lv' := [(4, .int (nI 2)), (3, .int x_5), (0, .ref (ad 302)), (1, .int (nI i)), (2, .int (nI 3))]) hx hb dX6_row_106 hl (k := 1) rfl (by decide) (by decide) rfl (fun ls hl => ?_)
  refine lv_goto (tgt := 78) hx hb dX6_row_109 (by decide) ?_
  refine lv_iload hx hb dX6_row_78 (lv_at hl 0 rfl) ?_
  refine lv_iconst (v := nI 4) hx hb dX6_row_80 (by decide) ?_
  refine n_icge (tgt := 112) hx hb dX6_row_81 (by decide) (by decide) (by decide) (fun h => absurd h (by decide)) (fun _ => ?_)
  refine lv_iload_n hx hb dX6_row_84 rfl (lv_at hl 1 rfl) ?_
  refine lv_bipush (v := nI 8) hx hb dX6_row_85 (by decide) ?_
  refine lv_ishl hx hb dX6_row_87 ?_
  refine lv_aload_n hx hb dX6_row_88 rfl (lv_at hl 2 rfl) ?_
  refine x_get (ci := 7) (C := RX6) (T := TX6) (n := 32) (ref := RX6) hx hb hts hin_7 hown hK hw 302 (by omega) c_302 rfl 21 (by decide) hf_58 (fun _ h => h) rfl dX6_row_89 ?_
  refine lv_bipush (v := nI 32) hx hb dX6_row_92 (by decide) ?_
  refine lv_iload_n hx hb dX6_row_94 rfl (lv_at hl 3 rfl) ?_
  refine n_imul hx hb dX6_row_95 ?_
  refine lv_iload hx hb dX6_row_96 (lv_at hl 0 rfl) ?_
  refine n_iadd hx hb dX6_row_98 ?_
  refine x_bald (j := (32 * i) + 2) hx hb hK hw 317 1 (by omega) c_317 rfl rfl (by omega) (by decide) dX6_row_99 ?_
  refine lv_sipush (v := nI 255) hx hb dX6_row_100 (by decide) ?_
  refine lv_iand hx hb dX6_row_103 ?_
  refine lv_ior hx hb dX6_row_104 ?_
  refine lv_topi (fun x_6 ex_6 => ?_)
  refine lv_istore_n (lv' := [(3, .int x_6), (4, .int (nI 2)), (0, .ref (ad 302)), (1, .int (nI i)), (2, .int (nI 3))]) hx hb dX6_row_105 rfl hl (by decide) rfl (fun ls hl => ?_)
  refine lv_iinc (v := nI 3) (lv' := [(4, .int (nI 3)), (3, .int x_6), (0, .ref (ad 302)), (1, .int (nI i)), (2, .int (nI 3))]) hx hb dX6_row_106 hl (k := 1) rfl (by decide) (by decide) rfl (fun ls hl => ?_)
  refine lv_goto (tgt := 78) hx hb dX6_row_109 (by decide) ?_
  refine lv_iload hx hb dX6_row_78 (lv_at hl 0 rfl) ?_
  refine lv_iconst (v := nI 4) hx hb dX6_row_80 (by decide) ?_
  refine n_icge (tgt := 112) hx hb dX6_row_81 (by decide) (by decide) (by decide) (fun h => absurd h (by decide)) (fun _ => ?_)
  refine lv_iload_n hx hb dX6_row_84 rfl (lv_at hl 1 rfl) ?_
  refine lv_bipush (v := nI 8) hx hb dX6_row_85 (by decide) ?_
  refine lv_ishl hx hb dX6_row_87 ?_
  refine lv_aload_n hx hb dX6_row_88 rfl (lv_at hl 2 rfl) ?_
  refine x_get (ci := 7) (C := RX6) (T := TX6) (n := 32) (ref := RX6) hx hb hts hin_7 hown hK hw 302 (by omega) c_302 rfl 21 (by decide) hf_58 (fun _ h => h) rfl dX6_row_89 ?_
  refine lv_bipush (v := nI 32) hx hb dX6_row_92 (by decide) ?_
  refine lv_iload_n hx hb dX6_row_94 rfl (lv_at hl 3 rfl) ?_
  refine n_imul hx hb dX6_row_95 ?_
  refine lv_iload hx hb dX6_row_96 (lv_at hl 0 rfl) ?_
  refine n_iadd hx hb dX6_row_98 ?_
  refine x_bald (j := (32 * i) + 3) hx hb hK hw 317 1 (by omega) c_317 rfl rfl (by omega) (by decide) dX6_row_99 ?_
  refine lv_sipush (v := nI 255) hx hb dX6_row_100 (by decide) ?_
  refine lv_iand hx hb dX6_row_103 ?_
  refine lv_ior hx hb dX6_row_104 ?_
  refine lv_topi (fun x_7 ex_7 => ?_)
  refine lv_istore_n (lv' := [(3, .int x_7), (4, .int (nI 3)), (0, .ref (ad 302)), (1, .int (nI i)), (2, .int (nI 3))]) hx hb dX6_row_105 rfl hl (by decide) rfl (fun ls hl => ?_)
  refine lv_iinc (v := nI 4) (lv' := [(4, .int (nI 4)), (3, .int x_7), (0, .ref (ad 302)), (1, .int (nI i)), (2, .int (nI 3))]) hx hb dX6_row_106 hl (k := 1) rfl (by decide) (by decide) rfl (fun ls hl => ?_)
  refine lv_goto (tgt := 78) hx hb dX6_row_109 (by decide) ?_
  refine lv_iload hx hb dX6_row_78 (lv_at hl 0 rfl) ?_
  refine lv_iconst (v := nI 4) hx hb dX6_row_80 (by decide) ?_
  refine n_icge (tgt := 112) hx hb dX6_row_81 (by decide) (by decide) (by decide) (fun _ => ?_) (fun h => absurd h (by decide))
  refine lv_iload_n hx hb dX6_row_112 rfl (lv_at hl 1 rfl) ?_
  have c_303 : f_1 303 = ai (ca 1) 200 (g 0) := by rw [ef_1, va_up_ne _ _ (by decide)]; exact c_303
  have c_304 : f_1 304 = ai (ca 1) 4000 (g 1) := by rw [ef_1, va_up_ne _ _ (by decide)]; exact c_304
  have c_305 : f_1 305 = ai (ca 0) 20 (g 2) := by rw [ef_1, va_up_ne _ _ (by decide)]; exact c_305
  have c_306 : f_1 306 = ai (ca 0) 20 (g 3) := by rw [ef_1, va_up_ne _ _ (by decide)]; exact c_306
  have c_307 : f_1 307 = ai (ca 1) 720 (g 4) := by rw [ef_1, va_up_ne _ _ (by decide)]; exact c_307
  have c_308 : f_1 308 = ai (ca 0) 20 (g 5) := by rw [ef_1, va_up_ne _ _ (by decide)]; exact c_308
  have c_309 : f_1 309 = ai (ca 0) 20 (g 6) := by rw [ef_1, va_up_ne _ _ (by decide)]; exact c_309
  have c_310 : f_1 310 = ai (ca 0) 20 (g 7) := by rw [ef_1, va_up_ne _ _ (by decide)]; exact c_310
  have c_311 : f_1 311 = ai (ca 0) 20 (g 8) := by rw [ef_1, va_up_ne _ _ (by decide)]; exact c_311
  have c_312 : f_1 312 = ai (ca 0) 20 (g 9) := by rw [ef_1, va_up_ne _ _ (by decide)]; exact c_312
  have c_313 : f_1 313 = ai (ca 2) 20 (g 10) := by rw [ef_1, va_up_ne _ _ (by decide)]; exact c_313
  have c_314 : f_1 314 = ai (ca 0) 200 (g 11) := by rw [ef_1, va_up_ne _ _ (by decide)]; exact c_314
  have c_315 : f_1 315 = ai (ca 0) 200 (g 12) := by rw [ef_1, va_up_ne _ _ (by decide)]; exact c_315
  have c_316 : f_1 316 = ai (ca 0) 200 (g 14) := by rw [ef_1, va_up_ne _ _ (by decide)]; exact c_316
  have c_318 : f_1 318 = ai (ca 1) 32 (g 16) := by rw [ef_1, va_up_ne _ _ (by decide)]; exact c_318
  have c_319 : f_1 319 = ai (ca 1) 320 (z 0) := by rw [ef_1, va_up_ne _ _ (by decide)]; exact c_319
  have c_320 : f_1 320 = ai (ca 1) 36 (z 1) := by rw [ef_1, va_up_ne _ _ (by decide)]; exact c_320
  have c_321 : f_1 321 = ai (ca 0) 64 (z 2) := by rw [ef_1, va_up_ne _ _ (by decide)]; exact c_321
  have c_322 : f_1 322 = ai (ca 0) 8 (z 3) := by rw [ef_1, va_up_ne _ _ (by decide)]; exact c_322
  have c_323 : f_1 323 = ai (ca 0) 8 (z 4) := by rw [ef_1, va_up_ne _ _ (by decide)]; exact c_323
  have c_324 : f_1 324 = ai (ca 0) 8 shR := by rw [ef_1, va_up_ne _ _ (by decide)]; exact c_324
  have c_325 : f_1 325 = ai (ca 0) 64 shK := by rw [ef_1, va_up_ne _ _ (by decide)]; exact c_325
  have qn_0 : (va_up n 7 0) 0 = n 0 := by rw [va_up_ne _ _ (by decide)]
  have qn_1 : (va_up n 7 0) 1 = n 1 := by rw [va_up_ne _ _ (by decide)]
  have qn_2 : (va_up n 7 0) 2 = n 2 := by rw [va_up_ne _ _ (by decide)]
  have qn_3 : (va_up n 7 0) 3 = n 3 := by rw [va_up_ne _ _ (by decide)]
  have qn_4 : (va_up n 7 0) 4 = n 4 := by rw [va_up_ne _ _ (by decide)]
  have qn_5 : (va_up n 7 0) 5 = n 5 := by rw [va_up_ne _ _ (by decide)]
  have qn_6 : (va_up n 7 0) 6 = n 6 := by rw [va_up_ne _ _ (by decide)]
  have qn_7 : (va_up n 7 0) 7 = 0 := by rw [va_up_self]
  have hRz : RepM ca ad (va_up n 7 0) g z zn tb f_1 := ⟨(by rw [qn_7, qn_0, qn_1, qn_2, qn_3, qn_4, qn_5]; exact c_302),
        c_303,
        c_304,
        c_305,
        c_306,
        c_307,
        c_308,
        c_309,
        c_310,
        c_311,
        c_312,
        c_313,
        c_314,
        c_315,
        c_316,
        c_317,
        c_318,
        c_319,
        c_320,
        c_321,
        c_322,
        c_323,
        c_324,
        c_325, hzn⟩
  exact x_iret hx hb hr hlocks hw ⟨(by simp only [ex_7, ex_6, ex_5, ex_4]; rfl), z, zn, hRz, (fun y hy => by rw [ef_1, va_up_ne _ _ (by omega)])⟩ dX6_row_113

set_option maxHeartbeats 4000000 in
set_option maxRecDepth 100000 in
theorem k_X6_row_no (l : Launch) (D : va_G) (ca : Nat → ClassId) (N : Nat) (ad : Nat → Nat) (B tR tK : Nat) (f : Nat → va_E) (dd : xD N ad B) (hN : 326 ≤ N) (n : Nat → Nat) (g : Nat → Nat → Int32) (z : Nat → Nat → Int32) (zn : Nat) (tb : Nat → Int32) (hR : RepM ca ad n g z zn tb f) (i : Nat) (y : Int32) (h5 : n 4 ≤ 200) (hi : i < n 4) (ho : y.toInt < 0 ∨ 3 < y.toInt) : xMi l yX6_row wsX6_row rmX6_row [.ref (ad 302), .int (nI i), .int y] D ca N ad B tR tK f (fun r u => (-1) = r ∧ ∃ (z1 : Nat → Nat → Int32) (zn1 : Nat), RepM ca ad (va_up n 7 0) g z1 zn1 tb u ∧ ∀ y, (y < 302 ∨ 326 ≤ y) → u y = f y) := by
  refine x_open (cc := cX6_row) (maxL := 5) (ret := (some .int)) (by decide) rfl (Nat.le_of_ble_eq_true rfl) ?_
  intro p e s m below meth c ls hx hb hml hown hts hr hlocks hnm hB hK hE hw hl
  have hown : s.vm.findClass RX6 = some m.cls := hown
  have hl : lv_has ls 5 [(0, .ref (ad 302)), (1, .int (nI i)), (2, .int y)] := hl
  obtain ⟨c_302, c_303, c_304, c_305, c_306, c_307, c_308, c_309, c_310, c_311, c_312, c_313, c_314, c_315, c_316, c_317, c_318, c_319, c_320, c_321, c_322, c_323, c_324, c_325, hzn⟩ := hR
  have hin_7 : ∀ w ∈ u_ws RX6 TX6 32, w ∈ wsX6_row := by decide +kernel
  have hf_160 := hts (.fieldLink RX6 160 "FixityRowsModel" "thrown" "I") (by decide +kernel)
  have hf_203 := hts (.fieldLink RX6 203 "FixityRowsModel" "rows" "I") (by decide +kernel)
  have b_302 := c_302
  have b_303 := c_303
  have b_304 := c_304
  have b_305 := c_305
  have b_306 := c_306
  have b_307 := c_307
  have b_308 := c_308
  have b_309 := c_309
  have b_310 := c_310
  have b_311 := c_311
  have b_312 := c_312
  have b_313 := c_313
  have b_314 := c_314
  have b_315 := c_315
  have b_316 := c_316
  have b_317 := c_317
  have b_318 := c_318
  have b_319 := c_319
  have b_320 := c_320
  have b_321 := c_321
  have b_322 := c_322
  have b_323 := c_323
  have b_324 := c_324
  have b_325 := c_325
  refine lv_aload_n hx hb dX6_row_0 rfl (lv_at hl 0 rfl) ?_
  refine lv_iconst (v := nI 0) hx hb dX6_row_1 (by decide) ?_
  refine x_put (ci := 7) (C := RX6) (T := TX6) (n := 32) (ref := RX6) (fs' := mO ad 0 (n 0) (n 1) (n 2) (g 13 0) (n 3) (n 4) (n 5) zn) hx hb hts hin_7 tyX6 tyX6_ok nmX6 hown hK dd hw 302 (by omega) c_302 rfl 0 (by decide) hf_160 (fun _ h => h) rfl rfl rfl (Nat.le_of_ble_eq_true rfl) rfl dX6_row_2 (fun H locs hw => ?_)
  obtain ⟨f_1, ef_1⟩ : ∃ z, z = va_up f 302 (.inr (7, mO ad 0 (n 0) (n 1) (n 2) (g 13 0) (n 3) (n 4) (n 5) zn)) := ⟨_, rfl⟩
  have hw : xw D vwCl N ad B s.heap f_1 H locs := by rw [ef_1]; exact hw
  have c_302 : f_1 302 = .inr (7, mO ad 0 (n 0) (n 1) (n 2) (g 13 0) (n 3) (n 4) (n 5) zn) := va_up_of ef_1
  refine lv_iload_n hx hb dX6_row_5 rfl (lv_at hl 1 rfl) ?_
  refine lv_iconst (v := nI 0) hx hb dX6_row_6 (by decide) ?_
  refine lv_aload_n hx hb dX6_row_7 rfl (lv_at hl 0 rfl) ?_
  refine x_get (ci := 7) (C := RX6) (T := TX6) (n := 32) (ref := RX6) hx hb hts hin_7 hown hK hw 302 (by omega) c_302 rfl 17 (by decide) hf_203 (fun _ h => h) rfl dX6_row_8 ?_
  refine lv_iconst (v := nI 1) hx hb dX6_row_11 (by decide) ?_
  refine n_isub hx hb dX6_row_12 (by omega) ?_
  refine x_Si (As := [.int (nI i), .int (nI 0), .int (nI ((n 4) - 1))]) (rest := []) ⟨hx, hb, hml, hown, hts⟩ (k_X6_in_yes l D ca N ad B tR tK f_1 dd i 0 ((n 4) - 1)   (by omega) (by omega) (by omega)) (va_cwS 3 hts gX6_row_X6_in rfl rfl rfl (by decide +kernel) ⟨Nat.le_of_ble_eq_true rfl, Nat.le_of_ble_eq_true rfl⟩) hK hE hB hw rfl rfl hl.1 (Nat.le_of_ble_eq_true rfl) ⟨Nat.zero_le _, Nat.zero_le _⟩ dX6_row_13 (fun r_3 f_2 H locs hp hw => ?_)
  obtain ⟨er, eu⟩ := hp
  rw [← er]
  rw [← eu] at hw
  refine lv_if_ne (tgt := 21) hx hb dX6_row_16 (by decide) (fun _ => ?_) (fun h => absurd h (by decide))
  refine lv_iload_n hx hb dX6_row_21 rfl (lv_at hl 2 rfl) ?_
  refine lv_tableOut (tgt := 114) hx hb dX6_row_22 ho (by decide) ?_
  refine lv_iconst (v := (-1)) hx hb dX6_row_114 (by decide) ?_
  have c_303 : f_1 303 = ai (ca 1) 200 (g 0) := by rw [ef_1, va_up_ne _ _ (by decide)]; exact c_303
  have c_304 : f_1 304 = ai (ca 1) 4000 (g 1) := by rw [ef_1, va_up_ne _ _ (by decide)]; exact c_304
  have c_305 : f_1 305 = ai (ca 0) 20 (g 2) := by rw [ef_1, va_up_ne _ _ (by decide)]; exact c_305
  have c_306 : f_1 306 = ai (ca 0) 20 (g 3) := by rw [ef_1, va_up_ne _ _ (by decide)]; exact c_306
  have c_307 : f_1 307 = ai (ca 1) 720 (g 4) := by rw [ef_1, va_up_ne _ _ (by decide)]; exact c_307
  have c_308 : f_1 308 = ai (ca 0) 20 (g 5) := by rw [ef_1, va_up_ne _ _ (by decide)]; exact c_308
  have c_309 : f_1 309 = ai (ca 0) 20 (g 6) := by rw [ef_1, va_up_ne _ _ (by decide)]; exact c_309
  have c_310 : f_1 310 = ai (ca 0) 20 (g 7) := by rw [ef_1, va_up_ne _ _ (by decide)]; exact c_310
  have c_311 : f_1 311 = ai (ca 0) 20 (g 8) := by rw [ef_1, va_up_ne _ _ (by decide)]; exact c_311
  have c_312 : f_1 312 = ai (ca 0) 20 (g 9) := by rw [ef_1, va_up_ne _ _ (by decide)]; exact c_312
  have c_313 : f_1 313 = ai (ca 2) 20 (g 10) := by rw [ef_1, va_up_ne _ _ (by decide)]; exact c_313
  have c_314 : f_1 314 = ai (ca 0) 200 (g 11) := by rw [ef_1, va_up_ne _ _ (by decide)]; exact c_314
  have c_315 : f_1 315 = ai (ca 0) 200 (g 12) := by rw [ef_1, va_up_ne _ _ (by decide)]; exact c_315
  have c_316 : f_1 316 = ai (ca 0) 200 (g 14) := by rw [ef_1, va_up_ne _ _ (by decide)]; exact c_316
  have c_317 : f_1 317 = ai (ca 1) 6400 (g 15) := by rw [ef_1, va_up_ne _ _ (by decide)]; exact c_317
  have c_318 : f_1 318 = ai (ca 1) 32 (g 16) := by rw [ef_1, va_up_ne _ _ (by decide)]; exact c_318
  have c_319 : f_1 319 = ai (ca 1) 320 (z 0) := by rw [ef_1, va_up_ne _ _ (by decide)]; exact c_319
  have c_320 : f_1 320 = ai (ca 1) 36 (z 1) := by rw [ef_1, va_up_ne _ _ (by decide)]; exact c_320
  have c_321 : f_1 321 = ai (ca 0) 64 (z 2) := by rw [ef_1, va_up_ne _ _ (by decide)]; exact c_321
  have c_322 : f_1 322 = ai (ca 0) 8 (z 3) := by rw [ef_1, va_up_ne _ _ (by decide)]; exact c_322
  have c_323 : f_1 323 = ai (ca 0) 8 (z 4) := by rw [ef_1, va_up_ne _ _ (by decide)]; exact c_323
  have c_324 : f_1 324 = ai (ca 0) 8 shR := by rw [ef_1, va_up_ne _ _ (by decide)]; exact c_324
  have c_325 : f_1 325 = ai (ca 0) 64 shK := by rw [ef_1, va_up_ne _ _ (by decide)]; exact c_325
  have qn_0 : (va_up n 7 0) 0 = n 0 := by rw [va_up_ne _ _ (by decide)]
  have qn_1 : (va_up n 7 0) 1 = n 1 := by rw [va_up_ne _ _ (by decide)]
  have qn_2 : (va_up n 7 0) 2 = n 2 := by rw [va_up_ne _ _ (by decide)]
  have qn_3 : (va_up n 7 0) 3 = n 3 := by rw [va_up_ne _ _ (by decide)]
  have qn_4 : (va_up n 7 0) 4 = n 4 := by rw [va_up_ne _ _ (by decide)]
  have qn_5 : (va_up n 7 0) 5 = n 5 := by rw [va_up_ne _ _ (by decide)]
  have qn_6 : (va_up n 7 0) 6 = n 6 := by rw [va_up_ne _ _ (by decide)]
  have qn_7 : (va_up n 7 0) 7 = 0 := by rw [va_up_self]
  have hRz : RepM ca ad (va_up n 7 0) g z zn tb f_1 := ⟨(by rw [qn_7, qn_0, qn_1, qn_2, qn_3, qn_4, qn_5]; exact c_302),
        c_303,
        c_304,
        c_305,
        c_306,
        c_307,
        c_308,
        c_309,
        c_310,
        c_311,
        c_312,
        c_313,
        c_314,
        c_315,
        c_316,
        c_317,
        c_318,
        c_319,
        c_320,
        c_321,
        c_322,
        c_323,
        c_324,
        c_325, hzn⟩
  exact x_iret hx hb hr hlocks hw ⟨rfl, z, zn, hRz, (fun y hy => by rw [ef_1, va_up_ne _ _ (by omega)])⟩ dX6_row_115

abbrev rmX6_at : Room := { frames := 1, cells := 0, slots := 0, locals := 22 }

set_option maxHeartbeats 4000000 in
set_option maxRecDepth 100000 in
theorem k_X6_at_in (l : Launch) (D : va_G) (ca : Nat → ClassId) (N : Nat) (ad : Nat → Nat) (B tR tK : Nat) (f : Nat → va_E) (dd : xD N ad B) (hN : 326 ≤ N) (n : Nat → Nat) (g : Nat → Nat → Int32) (z : Nat → Nat → Int32) (zn : Nat) (tb : Nat → Int32) (hR : RepM ca ad n g z zn tb f) (j : Nat) (h5 : n 5 ≤ 32) (hj : j < n 5) : xMi l yX6_at wsX6_at rmX6_at [.ref (ad 302), .int (nI j)] D ca N ad B tR tK f (fun r u => g 16 j &&& nI 255 = r ∧ ∃ (z1 : Nat → Nat → Int32) (zn1 : Nat), RepM ca ad (va_up n 7 0) g z1 zn1 tb u ∧ ∀ y, (y < 302 ∨ 326 ≤ y) → u y = f y) := by
  refine x_open (cc := cX6_at) (maxL := 2) (ret := (some .int)) (by decide) rfl (Nat.le_of_ble_eq_true rfl) ?_
  intro p e s m below meth c ls hx hb hml hown hts hr hlocks hnm hB hK hE hw hl
  have hown : s.vm.findClass RX6 = some m.cls := hown
  have hl : lv_has ls 2 [(0, .ref (ad 302)), (1, .int (nI j))] := hl
  obtain ⟨c_302, c_303, c_304, c_305, c_306, c_307, c_308, c_309, c_310, c_311, c_312, c_313, c_314, c_315, c_316, c_317, c_318, c_319, c_320, c_321, c_322, c_323, c_324, c_325, hzn⟩ := hR
  have hin_7 : ∀ w ∈ u_ws RX6 TX6 32, w ∈ wsX6_at := by decide +kernel
  have hf_215 := hts (.fieldLink RX6 215 "FixityRowsModel" "shown" "I") (by decide +kernel)
  have hf_160 := hts (.fieldLink RX6 160 "FixityRowsModel" "thrown" "I") (by decide +kernel)
  have hf_61 := hts (.fieldLink RX6 61 "FixityRowsModel" "show" "[B") (by decide +kernel)
  have b_302 := c_302
  have b_303 := c_303
  have b_304 := c_304
  have b_305 := c_305
  have b_306 := c_306
  have b_307 := c_307
  have b_308 := c_308
  have b_309 := c_309
  have b_310 := c_310
  have b_311 := c_311
  have b_312 := c_312
  have b_313 := c_313
  have b_314 := c_314
  have b_315 := c_315
  have b_316 := c_316
  have b_317 := c_317
  have b_318 := c_318
  have b_319 := c_319
  have b_320 := c_320
  have b_321 := c_321
  have b_322 := c_322
  have b_323 := c_323
  have b_324 := c_324
  have b_325 := c_325
  refine lv_aload_n hx hb dX6_at_0 rfl (lv_at hl 0 rfl) ?_
  refine lv_iload_n hx hb dX6_at_1 rfl (lv_at hl 1 rfl) ?_
  refine lv_iconst (v := nI 0) hx hb dX6_at_2 (by decide) ?_
  refine lv_aload_n hx hb dX6_at_3 rfl (lv_at hl 0 rfl) ?_
  refine x_get (ci := 7) (C := RX6) (T := TX6) (n := 32) (ref := RX6) hx hb hts hin_7 hown hK hw 302 (by omega) c_302 rfl 22 (by decide) hf_215 (fun _ h => h) rfl dX6_at_4 ?_
  refine lv_iconst (v := nI 1) hx hb dX6_at_7 (by decide) ?_
  refine n_isub hx hb dX6_at_8 (by omega) ?_
  refine x_Si (As := [.int (nI j), .int (nI 0), .int (nI ((n 5) - 1))]) (rest := [.ref (ad 302)]) ⟨hx, hb, hml, hown, hts⟩ (k_X6_in_yes l D ca N ad B tR tK f dd j 0 ((n 5) - 1)   (by omega) (by omega) (by omega)) (va_cwS 3 hts gX6_at_X6_in rfl rfl rfl (by decide +kernel) ⟨Nat.le_of_ble_eq_true rfl, Nat.le_of_ble_eq_true rfl⟩) hK hE hB hw rfl rfl hl.1 (Nat.le_of_ble_eq_true rfl) ⟨Nat.zero_le _, Nat.zero_le _⟩ dX6_at_9 (fun r_2 f_1 H locs hp hw => ?_)
  obtain ⟨er, eu⟩ := hp
  rw [← er]
  rw [← eu] at hw
  refine lv_if_eq (tgt := 19) hx hb dX6_at_12 (by decide) (fun h => absurd h (by decide)) (fun _ => ?_)
  refine lv_iconst (v := nI 0) hx hb dX6_at_15 (by decide) ?_
  refine lv_goto (tgt := 20) hx hb dX6_at_16 (by decide) ?_
  refine x_put (ci := 7) (C := RX6) (T := TX6) (n := 32) (ref := RX6) (fs' := mO ad 0 (n 0) (n 1) (n 2) (g 13 0) (n 3) (n 4) (n 5) zn) hx hb hts hin_7 tyX6 tyX6_ok nmX6 hown hK dd hw 302 (by omega) c_302 rfl 0 (by decide) hf_160 (fun _ h => h) rfl rfl rfl (Nat.le_of_ble_eq_true rfl) rfl dX6_at_20 (fun H locs hw => ?_)
  obtain ⟨f_3, ef_3⟩ : ∃ z, z = va_up f 302 (.inr (7, mO ad 0 (n 0) (n 1) (n 2) (g 13 0) (n 3) (n 4) (n 5) zn)) := ⟨_, rfl⟩
  have hw : xw D vwCl N ad B s.heap f_3 H locs := by rw [ef_3]; exact hw
  have c_302 : f_3 302 = .inr (7, mO ad 0 (n 0) (n 1) (n 2) (g 13 0) (n 3) (n 4) (n 5) zn) := va_up_of ef_3
  refine lv_aload_n hx hb dX6_at_23 rfl (lv_at hl 0 rfl) ?_
  refine x_get (ci := 7) (C := RX6) (T := TX6) (n := 32) (ref := RX6) hx hb hts hin_7 hown hK hw 302 (by omega) c_302 rfl 0 (by decide) hf_160 (fun _ h => h) rfl dX6_at_24 ?_
  refine lv_if_le (tgt := 34) hx hb dX6_at_27 (by decide) (fun _ => ?_) (fun h => False.elim (h (by decide)))
  refine lv_aload_n hx hb dX6_at_34 rfl (lv_at hl 0 rfl) ?_
  refine x_get (ci := 7) (C := RX6) (T := TX6) (n := 32) (ref := RX6) hx hb hts hin_7 hown hK hw 302 (by omega) c_302 rfl 23 (by decide) hf_61 (fun _ h => h) rfl dX6_at_35 ?_
  refine lv_iload_n hx hb dX6_at_38 rfl (lv_at hl 1 rfl) ?_
  have c_318 : f_3 318 = ai (ca 1) 32 (g 16) := by rw [ef_3, va_up_ne _ _ (by decide)]; exact c_318
  refine x_bald (j := j) hx hb hK hw 318 1 (by omega) c_318 rfl rfl (by omega) (by decide) dX6_at_39 ?_
  refine lv_sipush (v := nI 255) hx hb dX6_at_40 (by decide) ?_
  refine lv_iand hx hb dX6_at_43 ?_
  have c_303 : f_3 303 = ai (ca 1) 200 (g 0) := by rw [ef_3, va_up_ne _ _ (by decide)]; exact c_303
  have c_304 : f_3 304 = ai (ca 1) 4000 (g 1) := by rw [ef_3, va_up_ne _ _ (by decide)]; exact c_304
  have c_305 : f_3 305 = ai (ca 0) 20 (g 2) := by rw [ef_3, va_up_ne _ _ (by decide)]; exact c_305
  have c_306 : f_3 306 = ai (ca 0) 20 (g 3) := by rw [ef_3, va_up_ne _ _ (by decide)]; exact c_306
  have c_307 : f_3 307 = ai (ca 1) 720 (g 4) := by rw [ef_3, va_up_ne _ _ (by decide)]; exact c_307
  have c_308 : f_3 308 = ai (ca 0) 20 (g 5) := by rw [ef_3, va_up_ne _ _ (by decide)]; exact c_308
  have c_309 : f_3 309 = ai (ca 0) 20 (g 6) := by rw [ef_3, va_up_ne _ _ (by decide)]; exact c_309
  have c_310 : f_3 310 = ai (ca 0) 20 (g 7) := by rw [ef_3, va_up_ne _ _ (by decide)]; exact c_310
  have c_311 : f_3 311 = ai (ca 0) 20 (g 8) := by rw [ef_3, va_up_ne _ _ (by decide)]; exact c_311
  have c_312 : f_3 312 = ai (ca 0) 20 (g 9) := by rw [ef_3, va_up_ne _ _ (by decide)]; exact c_312
  have c_313 : f_3 313 = ai (ca 2) 20 (g 10) := by rw [ef_3, va_up_ne _ _ (by decide)]; exact c_313
  have c_314 : f_3 314 = ai (ca 0) 200 (g 11) := by rw [ef_3, va_up_ne _ _ (by decide)]; exact c_314
  have c_315 : f_3 315 = ai (ca 0) 200 (g 12) := by rw [ef_3, va_up_ne _ _ (by decide)]; exact c_315
  have c_316 : f_3 316 = ai (ca 0) 200 (g 14) := by rw [ef_3, va_up_ne _ _ (by decide)]; exact c_316
  have c_317 : f_3 317 = ai (ca 1) 6400 (g 15) := by rw [ef_3, va_up_ne _ _ (by decide)]; exact c_317
  have c_319 : f_3 319 = ai (ca 1) 320 (z 0) := by rw [ef_3, va_up_ne _ _ (by decide)]; exact c_319
  have c_320 : f_3 320 = ai (ca 1) 36 (z 1) := by rw [ef_3, va_up_ne _ _ (by decide)]; exact c_320
  have c_321 : f_3 321 = ai (ca 0) 64 (z 2) := by rw [ef_3, va_up_ne _ _ (by decide)]; exact c_321
  have c_322 : f_3 322 = ai (ca 0) 8 (z 3) := by rw [ef_3, va_up_ne _ _ (by decide)]; exact c_322
  have c_323 : f_3 323 = ai (ca 0) 8 (z 4) := by rw [ef_3, va_up_ne _ _ (by decide)]; exact c_323
  have c_324 : f_3 324 = ai (ca 0) 8 shR := by rw [ef_3, va_up_ne _ _ (by decide)]; exact c_324
  have c_325 : f_3 325 = ai (ca 0) 64 shK := by rw [ef_3, va_up_ne _ _ (by decide)]; exact c_325
  have qn_0 : (va_up n 7 0) 0 = n 0 := by rw [va_up_ne _ _ (by decide)]
  have qn_1 : (va_up n 7 0) 1 = n 1 := by rw [va_up_ne _ _ (by decide)]
  have qn_2 : (va_up n 7 0) 2 = n 2 := by rw [va_up_ne _ _ (by decide)]
  have qn_3 : (va_up n 7 0) 3 = n 3 := by rw [va_up_ne _ _ (by decide)]
  have qn_4 : (va_up n 7 0) 4 = n 4 := by rw [va_up_ne _ _ (by decide)]
  have qn_5 : (va_up n 7 0) 5 = n 5 := by rw [va_up_ne _ _ (by decide)]
  have qn_6 : (va_up n 7 0) 6 = n 6 := by rw [va_up_ne _ _ (by decide)]
  have qn_7 : (va_up n 7 0) 7 = 0 := by rw [va_up_self]
  have hRz : RepM ca ad (va_up n 7 0) g z zn tb f_3 := ⟨(by rw [qn_7, qn_0, qn_1, qn_2, qn_3, qn_4, qn_5]; exact c_302),
        c_303,
        c_304,
        c_305,
        c_306,
        c_307,
        c_308,
        c_309,
        c_310,
        c_311,
        c_312,
        c_313,
        c_314,
        c_315,
        c_316,
        c_317,
        c_318,
        c_319,
        c_320,
        c_321,
        c_322,
        c_323,
        c_324,
        c_325, hzn⟩
  exact x_iret hx hb hr hlocks hw ⟨rfl, z, zn, hRz, (fun y hy => by rw [ef_3, va_up_ne _ _ (by omega)])⟩ dX6_at_44

set_option maxHeartbeats 4000000 in
set_option maxRecDepth 100000 in
theorem k_X6_at_out (l : Launch) (D : va_G) (ca : Nat → ClassId) (N : Nat) (ad : Nat → Nat) (B tR tK : Nat) (f : Nat → va_E) (dd : xD N ad B) (hN : 326 ≤ N) (n : Nat → Nat) (g : Nat → Nat → Int32) (z : Nat → Nat → Int32) (zn : Nat) (tb : Nat → Int32) (hR : RepM ca ad n g z zn tb f) (x : Int32) (h5 : n 5 ≤ 32) (ho : x < 0 ∨ nI (n 5) ≤ x) : xMi l yX6_at wsX6_at rmX6_at [.ref (ad 302), .int x] D ca N ad B tR tK f (fun r u => nI 0 = r ∧ ∃ (z1 : Nat → Nat → Int32) (zn1 : Nat), RepM ca ad (va_up n 7 1) g z1 zn1 tb u ∧ ∀ y, (y < 302 ∨ 326 ≤ y) → u y = f y) := by
  refine x_open (cc := cX6_at) (maxL := 2) (ret := (some .int)) (by decide) rfl (Nat.le_of_ble_eq_true rfl) ?_
  intro p e s m below meth c ls hx hb hml hown hts hr hlocks hnm hB hK hE hw hl
  have hown : s.vm.findClass RX6 = some m.cls := hown
  have hl : lv_has ls 2 [(0, .ref (ad 302)), (1, .int x)] := hl
  obtain ⟨c_302, c_303, c_304, c_305, c_306, c_307, c_308, c_309, c_310, c_311, c_312, c_313, c_314, c_315, c_316, c_317, c_318, c_319, c_320, c_321, c_322, c_323, c_324, c_325, hzn⟩ := hR
  have hin_7 : ∀ w ∈ u_ws RX6 TX6 32, w ∈ wsX6_at := by decide +kernel
  have hf_215 := hts (.fieldLink RX6 215 "FixityRowsModel" "shown" "I") (by decide +kernel)
  have hf_160 := hts (.fieldLink RX6 160 "FixityRowsModel" "thrown" "I") (by decide +kernel)
  have b_302 := c_302
  have b_303 := c_303
  have b_304 := c_304
  have b_305 := c_305
  have b_306 := c_306
  have b_307 := c_307
  have b_308 := c_308
  have b_309 := c_309
  have b_310 := c_310
  have b_311 := c_311
  have b_312 := c_312
  have b_313 := c_313
  have b_314 := c_314
  have b_315 := c_315
  have b_316 := c_316
  have b_317 := c_317
  have b_318 := c_318
  have b_319 := c_319
  have b_320 := c_320
  have b_321 := c_321
  have b_322 := c_322
  have b_323 := c_323
  have b_324 := c_324
  have b_325 := c_325
  refine lv_aload_n hx hb dX6_at_0 rfl (lv_at hl 0 rfl) ?_
  refine lv_iload_n hx hb dX6_at_1 rfl (lv_at hl 1 rfl) ?_
  refine lv_iconst (v := nI 0) hx hb dX6_at_2 (by decide) ?_
  refine lv_aload_n hx hb dX6_at_3 rfl (lv_at hl 0 rfl) ?_
  refine x_get (ci := 7) (C := RX6) (T := TX6) (n := 32) (ref := RX6) hx hb hts hin_7 hown hK hw 302 (by omega) c_302 rfl 22 (by decide) hf_215 (fun _ h => h) rfl dX6_at_4 ?_
  refine lv_iconst (v := nI 1) hx hb dX6_at_7 (by decide) ?_
  refine lv_isub hx hb dX6_at_8 ?_
  refine lv_topi (fun x_1 ex_1 => ?_)
  refine x_Si (As := [.int x, .int (nI 0), .int x_1]) (rest := [.ref (ad 302)]) ⟨hx, hb, hml, hown, hts⟩ (k_X6_in_no l D ca N ad B tR tK f dd x (nI 0) x_1   (by rw [ex_1]; exact out_of (by omega) ho)) (va_cwS 3 hts gX6_at_X6_in rfl rfl rfl (by decide +kernel) ⟨Nat.le_of_ble_eq_true rfl, Nat.le_of_ble_eq_true rfl⟩) hK hE hB hw rfl rfl hl.1 (Nat.le_of_ble_eq_true rfl) ⟨Nat.zero_le _, Nat.zero_le _⟩ dX6_at_9 (fun r_3 f_2 H locs hp hw => ?_)
  obtain ⟨er, eu⟩ := hp
  rw [← er]
  rw [← eu] at hw
  refine lv_if_eq (tgt := 19) hx hb dX6_at_12 (by decide) (fun _ => ?_) (fun h => False.elim (h (by decide)))
  refine lv_iconst (v := nI 1) hx hb dX6_at_19 (by decide) ?_
  refine x_put (ci := 7) (C := RX6) (T := TX6) (n := 32) (ref := RX6) (fs' := mO ad 1 (n 0) (n 1) (n 2) (g 13 0) (n 3) (n 4) (n 5) zn) hx hb hts hin_7 tyX6 tyX6_ok nmX6 hown hK dd hw 302 (by omega) c_302 rfl 0 (by decide) hf_160 (fun _ h => h) rfl rfl rfl (Nat.le_of_ble_eq_true rfl) rfl dX6_at_20 (fun H locs hw => ?_)
  obtain ⟨f_4, ef_4⟩ : ∃ z, z = va_up f 302 (.inr (7, mO ad 1 (n 0) (n 1) (n 2) (g 13 0) (n 3) (n 4) (n 5) zn)) := ⟨_, rfl⟩
  have hw : xw D vwCl N ad B s.heap f_4 H locs := by rw [ef_4]; exact hw
  have c_302 : f_4 302 = .inr (7, mO ad 1 (n 0) (n 1) (n 2) (g 13 0) (n 3) (n 4) (n 5) zn) := va_up_of ef_4
  refine lv_aload_n hx hb dX6_at_23 rfl (lv_at hl 0 rfl) ?_
  refine x_get (ci := 7) (C := RX6) (T := TX6) (n := 32) (ref := RX6) hx hb hts hin_7 hown hK hw 302 (by omega) c_302 rfl 0 (by decide) hf_160 (fun _ h => h) rfl dX6_at_24 ?_
  refine lv_if_le (tgt := 34) hx hb dX6_at_27 (by decide) (fun h => absurd h (by decide)) (fun _ => ?_)
  refine lv_iconst (v := nI 0) hx hb dX6_at_30 (by decide) ?_
  refine lv_goto (tgt := 44) hx hb dX6_at_31 (by decide) ?_
  have c_303 : f_4 303 = ai (ca 1) 200 (g 0) := by rw [ef_4, va_up_ne _ _ (by decide)]; exact c_303
  have c_304 : f_4 304 = ai (ca 1) 4000 (g 1) := by rw [ef_4, va_up_ne _ _ (by decide)]; exact c_304
  have c_305 : f_4 305 = ai (ca 0) 20 (g 2) := by rw [ef_4, va_up_ne _ _ (by decide)]; exact c_305
  have c_306 : f_4 306 = ai (ca 0) 20 (g 3) := by rw [ef_4, va_up_ne _ _ (by decide)]; exact c_306
  have c_307 : f_4 307 = ai (ca 1) 720 (g 4) := by rw [ef_4, va_up_ne _ _ (by decide)]; exact c_307
  have c_308 : f_4 308 = ai (ca 0) 20 (g 5) := by rw [ef_4, va_up_ne _ _ (by decide)]; exact c_308
  have c_309 : f_4 309 = ai (ca 0) 20 (g 6) := by rw [ef_4, va_up_ne _ _ (by decide)]; exact c_309
  have c_310 : f_4 310 = ai (ca 0) 20 (g 7) := by rw [ef_4, va_up_ne _ _ (by decide)]; exact c_310
  have c_311 : f_4 311 = ai (ca 0) 20 (g 8) := by rw [ef_4, va_up_ne _ _ (by decide)]; exact c_311
  have c_312 : f_4 312 = ai (ca 0) 20 (g 9) := by rw [ef_4, va_up_ne _ _ (by decide)]; exact c_312
  have c_313 : f_4 313 = ai (ca 2) 20 (g 10) := by rw [ef_4, va_up_ne _ _ (by decide)]; exact c_313
  have c_314 : f_4 314 = ai (ca 0) 200 (g 11) := by rw [ef_4, va_up_ne _ _ (by decide)]; exact c_314
  have c_315 : f_4 315 = ai (ca 0) 200 (g 12) := by rw [ef_4, va_up_ne _ _ (by decide)]; exact c_315
  have c_316 : f_4 316 = ai (ca 0) 200 (g 14) := by rw [ef_4, va_up_ne _ _ (by decide)]; exact c_316
  have c_317 : f_4 317 = ai (ca 1) 6400 (g 15) := by rw [ef_4, va_up_ne _ _ (by decide)]; exact c_317
  have c_318 : f_4 318 = ai (ca 1) 32 (g 16) := by rw [ef_4, va_up_ne _ _ (by decide)]; exact c_318
  have c_319 : f_4 319 = ai (ca 1) 320 (z 0) := by rw [ef_4, va_up_ne _ _ (by decide)]; exact c_319
  have c_320 : f_4 320 = ai (ca 1) 36 (z 1) := by rw [ef_4, va_up_ne _ _ (by decide)]; exact c_320
  have c_321 : f_4 321 = ai (ca 0) 64 (z 2) := by rw [ef_4, va_up_ne _ _ (by decide)]; exact c_321
  have c_322 : f_4 322 = ai (ca 0) 8 (z 3) := by rw [ef_4, va_up_ne _ _ (by decide)]; exact c_322
  have c_323 : f_4 323 = ai (ca 0) 8 (z 4) := by rw [ef_4, va_up_ne _ _ (by decide)]; exact c_323
  have c_324 : f_4 324 = ai (ca 0) 8 shR := by rw [ef_4, va_up_ne _ _ (by decide)]; exact c_324
  have c_325 : f_4 325 = ai (ca 0) 64 shK := by rw [ef_4, va_up_ne _ _ (by decide)]; exact c_325
  have qn_0 : (va_up n 7 1) 0 = n 0 := by rw [va_up_ne _ _ (by decide)]
  have qn_1 : (va_up n 7 1) 1 = n 1 := by rw [va_up_ne _ _ (by decide)]
  have qn_2 : (va_up n 7 1) 2 = n 2 := by rw [va_up_ne _ _ (by decide)]
  have qn_3 : (va_up n 7 1) 3 = n 3 := by rw [va_up_ne _ _ (by decide)]
  have qn_4 : (va_up n 7 1) 4 = n 4 := by rw [va_up_ne _ _ (by decide)]
  have qn_5 : (va_up n 7 1) 5 = n 5 := by rw [va_up_ne _ _ (by decide)]
  have qn_6 : (va_up n 7 1) 6 = n 6 := by rw [va_up_ne _ _ (by decide)]
  have qn_7 : (va_up n 7 1) 7 = 1 := by rw [va_up_self]
  have hRz : RepM ca ad (va_up n 7 1) g z zn tb f_4 := ⟨(by rw [qn_7, qn_0, qn_1, qn_2, qn_3, qn_4, qn_5]; exact c_302),
        c_303,
        c_304,
        c_305,
        c_306,
        c_307,
        c_308,
        c_309,
        c_310,
        c_311,
        c_312,
        c_313,
        c_314,
        c_315,
        c_316,
        c_317,
        c_318,
        c_319,
        c_320,
        c_321,
        c_322,
        c_323,
        c_324,
        c_325, hzn⟩
  exact x_iret hx hb hr hlocks hw ⟨rfl, z, zn, hRz, (fun y hy => by rw [ef_4, va_up_ne _ _ (by omega)])⟩ dX6_at_44
